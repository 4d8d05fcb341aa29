/-! 59: the mean of the heights -/
set_option maxRecDepth 100000 in
theorem mn_c1 : ∀ n, n < 20 → ∀ t, t ≤ 4 * (n + 1) → FP.ddiv (FP.i2d (nI (n + 1 + t))) (FP.i2d (nI (n + 1))) &&& 0x7fffffffffffffff ≤ 0x7ff0000000000000 := by decide +kernel
set_option maxRecDepth 100000 in
theorem mn_c2 : ∀ n, n < 20 → ∀ t, t ≤ 4 * (n + 21) → FP.ddiv (FP.i2d (nI (n + 21 + t))) (FP.i2d (nI (n + 21))) &&& 0x7fffffffffffffff ≤ 0x7ff0000000000000 := by decide +kernel
set_option maxRecDepth 100000 in
theorem mn_c3 : ∀ n, n < 20 → ∀ t, t ≤ 4 * (n + 41) → FP.ddiv (FP.i2d (nI (n + 41 + t))) (FP.i2d (nI (n + 41))) &&& 0x7fffffffffffffff ≤ 0x7ff0000000000000 := by decide +kernel
theorem mn_c {n s : Nat} (h1 : 1 ≤ n) (h60 : n ≤ 60) (hs : n ≤ s) (hs2 : s ≤ 5 * n) : vf_n64 (FP.ddiv (FP.i2d (nI s)) (FP.i2d (nI n))) := by
  by_cases a : n ≤ 20
  · have := mn_c1 (n - 1) (by omega) (s - n) (by omega)
    rw [show n - 1 + 1 + (s - n) = s by omega, show n - 1 + 1 = n by omega] at this
    exact this
  · by_cases b : n ≤ 40
    · have := mn_c2 (n - 21) (by omega) (s - n) (by omega)
      rw [show n - 21 + 21 + (s - n) = s by omega, show n - 21 + 21 = n by omega] at this
      exact this
    · have := mn_c3 (n - 41) (by omega) (s - n) (by omega)
      rw [show n - 41 + 41 + (s - n) = s by omega, show n - 41 + 41 = n by omega] at this
      exact this
theorem acc_b {rn : Nat} (hr : rn ∈ rnS) (h6 : rn ≤ 6) {L : List Int32} (h : okL rn L) : ∀ {k : Nat}, k ≤ L.length → ∃ s, accL L abI k = nI s ∧ k ≤ s ∧ s ≤ 5 * k
  | 0, _ => ⟨0, rfl, Nat.le_refl _, Nat.le_refl _⟩
  | k + 1, hk => by
    obtain ⟨s, h1, h2, h3⟩ := acc_b hr h6 h (k := k) (by omega)
    obtain ⟨q1, q2, q3⟩ := ok_h rn hr _ (okL_at h (show k < L.length by omega))
    refine ⟨s + (abI (atL L k)).toNatClampNeg, ?_, by omega, by omega⟩
    show accL L abI k + abI (atL L k) = _
    rw [h1, ← nI_add, ← q3]
/-- the mean of two words' heights -/
def mnV (L0 L1 : List Int32) : UInt64 := if L0.length + L1.length = 0 then 0 else FP.ddiv (FP.i2d (accL L0 abI L0.length + accL L1 abI L1.length)) (FP.i2d (nI (L0.length + L1.length)))
theorem mn_n64 {rn : Nat} (hr : rn ∈ rnS) (h6 : rn ≤ 6) {L0 L1 : List Int32} (h0 : okL rn L0) (h1 : okL rn L1) (l0 : L0.length ≤ 30) (l1 : L1.length ≤ 30) (hn : ¬ L0.length + L1.length = 0) : vf_n64 (FP.ddiv (FP.i2d (accL L0 abI L0.length + accL L1 abI L1.length)) (FP.i2d (nI (L0.length + L1.length)))) := by
  obtain ⟨s, a1, a2, a3⟩ := acc_b hr h6 h0 (Nat.le_refl _)
  obtain ⟨t, b1, b2, b3⟩ := acc_b hr h6 h1 (Nat.le_refl _)
  rw [a1, b1, nI_add]
  exact mn_c (by omega) (by omega) (by omega) (by omega)
set_option maxRecDepth 100000 in
theorem mn_e1 : ∀ n, n < 20 → ∀ t, t ≤ 4 * (n + 1) → Op.cmpValue (FP.dcmp (FP.ddiv (FP.i2d (nI (n + 1 + t))) (FP.i2d (nI (n + 1)))) (FP.ddiv (FP.i2d (nI (n + 1 + t))) (FP.i2d (nI (n + 1))))) CmpOp.l = 0 := by decide +kernel
set_option maxRecDepth 100000 in
theorem mn_e2 : ∀ n, n < 20 → ∀ t, t ≤ 4 * (n + 21) → Op.cmpValue (FP.dcmp (FP.ddiv (FP.i2d (nI (n + 21 + t))) (FP.i2d (nI (n + 21)))) (FP.ddiv (FP.i2d (nI (n + 21 + t))) (FP.i2d (nI (n + 21))))) CmpOp.l = 0 := by decide +kernel
set_option maxRecDepth 100000 in
theorem mn_e3 : ∀ n, n < 20 → ∀ t, t ≤ 4 * (n + 41) → Op.cmpValue (FP.dcmp (FP.ddiv (FP.i2d (nI (n + 41 + t))) (FP.i2d (nI (n + 41)))) (FP.ddiv (FP.i2d (nI (n + 41 + t))) (FP.i2d (nI (n + 41))))) CmpOp.l = 0 := by decide +kernel
theorem mn_e {n s : Nat} (h1 : 1 ≤ n) (h60 : n ≤ 60) (hs : n ≤ s) (hs2 : s ≤ 5 * n) : Op.cmpValue (FP.dcmp (FP.ddiv (FP.i2d (nI s)) (FP.i2d (nI n))) (FP.ddiv (FP.i2d (nI s)) (FP.i2d (nI n)))) CmpOp.l = 0 := by
  by_cases a : n ≤ 20
  · have := mn_e1 (n - 1) (by omega) (s - n) (by omega)
    rw [show n - 1 + 1 + (s - n) = s by omega, show n - 1 + 1 = n by omega] at this
    exact this
  · by_cases b : n ≤ 40
    · have := mn_e2 (n - 21) (by omega) (s - n) (by omega)
      rw [show n - 21 + 21 + (s - n) = s by omega, show n - 21 + 21 = n by omega] at this
      exact this
    · have := mn_e3 (n - 41) (by omega) (s - n) (by omega)
      rw [show n - 41 + 41 + (s - n) = s by omega, show n - 41 + 41 = n by omega] at this
      exact this
theorem mn_self {rn : Nat} (hr : rn ∈ rnS) (h6 : rn ≤ 6) {L0 L1 : List Int32} (h0 : okL rn L0) (h1 : okL rn L1) (l0 : L0.length ≤ 30) (l1 : L1.length ≤ 30) : Op.cmpValue (FP.dcmp (mnV L0 L1) (mnV L0 L1)) CmpOp.l = 0 := by
  unfold mnV
  split
  · decide +kernel
  · obtain ⟨s, a1, a2, a3⟩ := acc_b hr h6 h0 (Nat.le_refl _)
    obtain ⟨t, b1, b2, b3⟩ := acc_b hr h6 h1 (Nat.le_refl _)
    rw [a1, b1, nI_add]
    exact mn_e (by omega) (by omega) (by omega) (by omega)
set_option maxRecDepth 20000 in
theorem in_X1_mean_1 : ∀ w ∈ wsX10, w ∈ wsX1_mean := by decide +kernel
theorem hdX1_heightsAdded : yX1_heightsAdded.cls ≠ "java/lang/invoke/MethodHandle" ∧ yX1_heightsAdded.cls ≠ "java/lang/invoke/VarHandle" ∧ (parseMethodDescriptor yX1_heightsAdded.desc).map (fun d => d.parameters.length) = some 1 := by decide +kernel
abbrev mt_X1_mean_rm : Room := { frames := 2, cells := 0, slots := 0, locals := 43 }
set_option maxHeartbeats 4000000 in
set_option maxRecDepth 100000 in
/-- mean -/
theorem mt_X1_mean (l : Launch) (dC : Nat → ClassId) (dI : Nat → Nat → Nat) (cA : ClassId) (sz : Nat) (x0 : Nat) (r0 : Nat) (r1 : Nat) (r2 : Nat) (r3 : Nat) (rn : Nat) (a0 : Nat) (a1 : Nat) (L0 : List Int32) (f0 : Nat → Int32) (L1 : List Int32) (f1 : Nat → Int32) (hR0 : RI L0 f0) (hR1 : RI L1 f1) (hrn : rn ∈ rnS) (hr6 : rn ≤ 6) (hk0 : okL rn L0) (hk1 : okL rn L1) (hl0 : L0.length ≤ 30) (hl1 : L1.length ≤ 30) : Met l yX1_mean wsX1_mean mt_X1_mean_rm (va_Pc [.ref x0] (gB (dC, dI) [(cA, .int)] [(x0, .inr (1, [.ref r0, .ref r1, .ref r2, .ref r3, .int (nI rn)])), (r0, .inr (0, [.ref a0, .int (nI L0.length)])), (a0, .inl (cA, (100, .inl f0))), (r1, .inr (0, [.ref a1, .int (nI L1.length)])), (a1, .inl (cA, (100, .inl f1)))] sz)) (gR (some (.double (mnV L0 L1)))) 0 0 (fun _ => False) := by
  refine g_ofR (cc := cX1_mean) (maxL := 2) (ret := (some .double)) (by decide) rfl (Nat.le_of_ble_eq_true rfl) (fun p e s m below meth c ls hx hb hr hml hts hown hlocks hP hK hl hD => ?_)
  have hS : va_S (fun _ => True) s.heap s.heap [] := va_S.rf
  have hl : lv_has ls 2 [(0, .ref x0)] := hl
  refine lv_aload_n hx hb dX1_mean_0 rfl (lv_at hl 0 rfl) ?_
  refine va_get (D := (dC, dI)) (ci := 1) (v := .ref r0) (C := RX1) (T := TX1) (N := 5) hx hb hts (in_X1_mean_1) hown hK hP 0 rfl rfl 0 (by decide) (hts (.fieldLink RX1 10 "BraidWords" "word0" "LBraidWords$Row;") (List.mem_of_getElem? (i := 1) rfl)) (fun _ h9 => h9) rfl dX1_mean_1 ?_
  refine g_RVi (As := []) (rest := []) ⟨hx, hb, hml, hown, hts⟩ (mt_X0_size l dC dI cA s.heap.size r0 a0 (nI L0.length) f0) (cwV 0 hts gX1_mean_X0_size rfl rfl rfl hdX0_size ⟨Nat.le_of_ble_eq_true rfl, Nat.le_of_ble_eq_true rfl⟩) hP hK hD [1, 2] (by decide) rfl (va_recv hK hP (ci := 0) (q0 := 1) rfl rfl) rfl hl.1 rfl (Nat.le_of_ble_eq_true rfl) dX1_mean_4 (Nat.zero_le _) (Nat.zero_le _) ?_
  refine lv_aload_n hx hb dX1_mean_7 rfl (lv_at hl 0 rfl) ?_
  refine va_get (D := (dC, dI)) (ci := 1) (v := .ref r1) (C := RX1) (T := TX1) (N := 5) hx hb hts (in_X1_mean_1) hown hK hP 0 rfl rfl 1 (by decide) (hts (.fieldLink RX1 16 "BraidWords" "word1" "LBraidWords$Row;") (List.mem_of_getElem? (i := 2) rfl)) (fun _ h9 => h9) rfl dX1_mean_8 ?_
  refine g_RVi (As := []) (rest := [.int (nI L0.length)]) ⟨hx, hb, hml, hown, hts⟩ (mt_X0_size l dC dI cA s.heap.size r1 a1 (nI L1.length) f1) (cwV 0 hts gX1_mean_X0_size rfl rfl rfl hdX0_size ⟨Nat.le_of_ble_eq_true rfl, Nat.le_of_ble_eq_true rfl⟩) hP hK hD [3, 4] (by decide) rfl (va_recv hK hP (ci := 0) (q0 := 3) rfl rfl) rfl hl.1 rfl (Nat.le_of_ble_eq_true rfl) dX1_mean_11 (Nat.zero_le _) (Nat.zero_le _) ?_
  refine lv_iadd hx hb dX1_mean_14 ?_
  rw [show (nI L0.length) + (nI L1.length) = nI (L0.length + L1.length) from nI_add L0.length L1.length]
  refine lv_istore_n (lv' := [(1, .int (nI (L0.length + L1.length))), (0, .ref x0)]) hx hb dX1_mean_15 rfl hl (by decide) rfl (fun ls hl => ?_)
  refine lv_iload_n hx hb dX1_mean_16 rfl (lv_at hl 0 rfl) ?_
  refine lv_if_ne (tgt := 22) hx hb dX1_mean_17 (by decide) (fun c17 => ?_) (fun c17 => ?_)
  · have c17 : ¬ (L0.length + L1.length) = 0 := g_neT (L0.length + L1.length) 0 (by omega) (by omega) c17
    refine lv_aload_n hx hb dX1_mean_22 rfl (lv_at hl 1 rfl) ?_
    refine va_get (D := (dC, dI)) (ci := 1) (v := .ref r0) (C := RX1) (T := TX1) (N := 5) hx hb hts (in_X1_mean_1) hown hK hP 0 rfl rfl 0 (by decide) (hts (.fieldLink RX1 10 "BraidWords" "word0" "LBraidWords$Row;") (List.mem_of_getElem? (i := 1) rfl)) (fun _ h9 => h9) rfl dX1_mean_23 ?_
    refine g_RSi (As := [.ref r0]) (rest := []) ⟨hx, hb, hml, hown, hts⟩ (mt_X1_heightsAdded l dC dI cA s.heap.size r0 a0 L0 f0 hR0) (va_cwS 1 hts gX1_mean_X1_heightsAdded rfl rfl rfl hdX1_heightsAdded ⟨Nat.le_of_ble_eq_true rfl, Nat.le_of_ble_eq_true rfl⟩) hP hK hD [1, 2] (by decide) rfl rfl hl.1 rfl (Nat.le_of_ble_eq_true rfl) dX1_mean_26 (Nat.zero_le _) (Nat.zero_le _) ?_
    refine lv_aload_n hx hb dX1_mean_29 rfl (lv_at hl 1 rfl) ?_
    refine va_get (D := (dC, dI)) (ci := 1) (v := .ref r1) (C := RX1) (T := TX1) (N := 5) hx hb hts (in_X1_mean_1) hown hK hP 0 rfl rfl 1 (by decide) (hts (.fieldLink RX1 16 "BraidWords" "word1" "LBraidWords$Row;") (List.mem_of_getElem? (i := 2) rfl)) (fun _ h9 => h9) rfl dX1_mean_30 ?_
    refine g_RSi (As := [.ref r1]) (rest := [.int (accL L0 abI L0.length)]) ⟨hx, hb, hml, hown, hts⟩ (mt_X1_heightsAdded l dC dI cA s.heap.size r1 a1 L1 f1 hR1) (va_cwS 1 hts gX1_mean_X1_heightsAdded rfl rfl rfl hdX1_heightsAdded ⟨Nat.le_of_ble_eq_true rfl, Nat.le_of_ble_eq_true rfl⟩) hP hK hD [3, 4] (by decide) rfl rfl hl.1 rfl (Nat.le_of_ble_eq_true rfl) dX1_mean_33 (Nat.zero_le _) (Nat.zero_le _) ?_
    refine lv_iadd hx hb dX1_mean_36 ?_
    refine lv_i2d hx hb dX1_mean_37 ?_
    refine lv_iload_n hx hb dX1_mean_38 rfl (lv_at hl 0 rfl) ?_
    refine lv_i2d hx hb dX1_mean_39 ?_
    refine lv_ddiv hx hb dX1_mean_40 (mn_n64 hrn hr6 hk0 hk1 hl0 hl1 c17) ?_
    exact g_endRd hx hb hr hlocks dX1_mean_41 (by unfold mnV; rw [if_neg (by omega)])
  · have c17 : (L0.length + L1.length) = 0 := g_neF (L0.length + L1.length) 0 (by omega) (by omega) c17
    refine lv_dconst0 hx hb dX1_mean_20 ?_
    exact g_endRd hx hb hr hlocks dX1_mean_21 (by unfold mnV; rw [if_pos (by omega)]; rfl)
