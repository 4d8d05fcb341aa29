/-! THE CLAIM OUT OF ONE WALK OF THE LAW'S BODY. Your part is whole_start (and what it stands on); all else here is the same for every law, but numbers. -/
def R_law : String := "BraidWordsLaw"
def lw_P (b : Addr) (xs : List Int32) (args : Array Value) (s : State) : Prop := args = #[.ref b] ∧ s.IntsAt b xs ∧ xs.length ≤ 2048 ∧ (Jvm.Cond.and given_1 narrow_1).before args s = true
/-- what a walk over the start with the record d0 says of its end, said of the start itself -/
theorem lw_closed {s t : State} {o : Outcome} {d0 : Drawn} {L : List Loc} {k n : Nat} (hd0 : s.drawn.sameBut d0 lw_cs) (hv : ∃ v, o = .returned v) (hW : (s.setDrawn d0).WarmedH t.vm) (hs : (s.setDrawn d0).sameButNew ({ t with vm := s.vm } : State) L k n) : State.butDraws s t lw_cs (fun t1 => Framed s o t1 L k n) := by
  have h2 : t.drawn = d0 := congrArg State.drawn hs.1
  refine ⟨⟨hv, hW, State.sameButNew.setDrawn hs s.drawn⟩, ?_, by decide⟩
  rw [h2]
  exact hd0
def lw_Q (_ : Array Value) (s : State) (o : Outcome) (t : State) : Prop := o = .returned (some (.int 1)) ∧ State.butDraws s t lw_cs (fun t1 => Framed s o t1 [] 1053 9402)
def lw_Z (below : List Frame) (a : Array Value) (s : State) : State → Prop := fun t => ∃ o, t.status = .running ∧ Ended t below o ∧ lw_Q a s o t
/-- the law's own end, with 1 on the stack, nothing written that was there before, its room as the claim has it; d0: the record of draws at this point (at the entry s.drawn: begin with 'refine W.base ?_' and 'have hd0 := Drawn.sameBut.refl s.drawn lw_cs') -/
theorem lw_ret {p : Program} {l : Launch} {e : Env} {s : State} {m : MethodId} {below : List Frame} {meth : Method} {c : Code} {b : Nat} {d0 : Drawn} (hd0 : s.drawn.sameBut d0 lw_cs) (hx : p.tables.exec = Jvm.exec) (hb : c.code = code) (hr : meth.sig.returnType = ret) (hlocks : meth.locks = false) {pc : Nat} {H : Heap} {ls : Array Slot} (hdg : decode code pc = .ok (.ireturn, 1)) : W p l e room_1 (s.setDrawn d0) m #[Value.ref b] below meth c H [] 1053 9402 (lw_Z below #[Value.ref b] s) (F0 m pc ls [.int 1]) := by
  intro T hT X
  obtain ⟨fs, hret, hrun, hended, hW, hframe⟩ := X.leave (v := some (.int 1)) (hlocks := hlocks) (fun h => by rw [hr] at h; cases h)
  have hmeth' : T.vm.method? m = some meth := X.method'
  refine ⟨T.setFrames fs, ?_, .returned (some (.int 1)), hrun, hended, rfl, lw_closed hd0 ⟨_, rfl⟩ hW hframe⟩
  jvm_step X.here [X.here.top, hx, hb, hdg, hmeth', hr, ret, narrow_b1]
  (try refine ⟨rfl, ?_⟩); (try refine ⟨rfl, ?_⟩)
  first | (intro acts; rw [hret _ acts rfl rfl rfl]) | rw [hret _ _ rfl rfl rfl]
  exact Steps.refl _
/-- what holds at the law's entry: the machine, the code, the tables' words (any of lw_tbl by 'hts w (by decide +kernel)'), the script of L ints xs at the cell b, what the Statement gives of the start (any of its parts by flat_of_before) -/
def lw_At (p : Program) (s : State) (m : MethodId) (meth : Method) (c : Code) (b L : Nat) (xs : Nat → Int32) : Prop :=
  p.tables.exec = Jvm.exec ∧ c.code = code ∧ meth.sig.returnType = ret ∧ c.maxLocals = 9 ∧ s.vm.findClass R_law = some m.cls ∧ (∀ w ∈ lw_tbl, w.before #[Value.ref b] s = true) ∧ va_X b L xs s s.heap ∧ b < s.heap.size ∧ meth.locks = false ∧ (Jvm.Cond.and given_1 narrow_1).before #[Value.ref b] s = true
theorem MW_0 : MW (V2 [] []) (fun _ => 0) (fun _ => 0) := fun w hw => by
  obtain rfl | rfl : w = 0 ∨ w = 1 := by omega
  · exact ⟨rfl, Nat.zero_le _, fun i h => absurd h (Nat.not_lt_zero i)⟩
  · exact ⟨rfl, Nat.zero_le _, fun i h => absurd h (Nat.not_lt_zero i)⟩
set_option maxRecDepth 20000 in
theorem st_msg1 : ∀ q ∈ gMsg, Cond.stringRef RX1 q.1 q.2 ∈ lw_tbl := by decide +kernel
set_option maxRecDepth 20000 in
theorem st_msg2 : ∀ q ∈ gMsg, Cond.exactly (.string RX1 q.1) "java/lang/String" ∈ flatC (Jvm.Cond.and given_1 narrow_1) := by decide +kernel
set_option maxRecDepth 20000 in
theorem st_bw : ∀ w ∈ gBw, w ∈ lw_tbl := by decide +kernel
theorem st_bwt : ∀ w ∈ gBw, w.onTables = true := by decide +kernel
set_option maxRecDepth 20000 in
theorem st_ncs : ∀ q ∈ gNcs, Cond.not (.castable q.1 q.2) ∈ flatC (Jvm.Cond.and given_1 narrow_1) := by decide +kernel
set_option maxRecDepth 20000 in
theorem st_u1 : Cond.isRef (.static Bundle.tN "UNASSIGNED_STACK" Bundle.steD) ∈ flatC (Jvm.Cond.and given_1 narrow_1) ∧ Cond.isRef (.static Bundle.tN "SUPPRESSED_SENTINEL" Bundle.listD) ∈ flatC (Jvm.Cond.and given_1 narrow_1) := by decide +kernel
set_option maxRecDepth 20000 in
theorem st_u2 : Cond.laysStatic Bundle.tN "UNASSIGNED_STACK" Bundle.steD ∈ lw_tbl ∧ Cond.laysStatic Bundle.tN "SUPPRESSED_SENTINEL" Bundle.listD ∈ lw_tbl ∧ Cond.initialized Bundle.tN ∈ lw_tbl := by decide +kernel
theorem st_flags {l : Launch} (h : l.flags = flags0) : l.stackTraces = false := by
  unfold Launch.stackTraces
  rw [h]
  decide +kernel
theorem st_Z {s : State} {b : Nat} (hts0 : ∀ w ∈ lw_tbl, w.before #[Value.ref b] s = true) (hfl : ∀ w ∈ flatC (Jvm.Cond.and given_1 narrow_1), w.before #[Value.ref b] s = true) : gZ (fun q => s.heap.size ≤ q) s.heap s := by
  refine ⟨⟨vx_Zqof (hts0 _ st_u2.1) (hts0 _ st_u2.2.2) (hfl _ st_u1.1) (fun a h => Nat.not_le.mpr h), vx_Zqof (hts0 _ st_u2.2.1) (hts0 _ st_u2.2.2) (hfl _ st_u1.2) (fun a h => Nat.not_le.mpr h)⟩, fun q hq => ?_, fun w hw => va_Nw.of (st_bwt w hw) (hts0 _ (st_bw w hw)), fun q hq => va_Nc.of (hfl _ (st_ncs q hq))⟩
  obtain ⟨a, -, -, -, h, -⟩ := Cond.exactly_spec (hfl _ (st_msg2 q hq))
  exact ⟨a, vk_R.of (hts0 _ (st_msg1 q hq)) h⟩
set_option maxHeartbeats 4000000 in
set_option maxRecDepth 100000 in
theorem whole_start {p : Program} {e : Env} {s : State} {m : MethodId} {below : List Frame} {meth : Method} {c : Code} (l : Launch) (hflags : l.flags = flags0) {b L : Nat} {xs : Nat → Int32} (hL : L ≤ 2048) (C0 : lw_At p s m meth c b L xs) : W p l e room_1 s m #[Value.ref b] below meth c s.heap [] 0 0 (lw_Z below #[Value.ref b] s) (entryFrame m ([Value.ref b] : List Value).toArray 9) := by
  obtain ⟨hx, hb, hr, hml, hown, hts0, hX, hbl, hlocks, hgv⟩ := id C0
  have hb : c.code = cL_law := hb
  have hts : ∀ w ∈ wsL_law, w.before #[Value.ref b] s = true := fun w h => hts0 w (inL_law w h)
  have htr := st_flags hflags
  have hZ := st_Z hts0 (flat_of_before _ hgv)
  obtain ⟨A, hAe⟩ : ∃ A : Nat → Prop, A = fun q => s.heap.size ≤ q := ⟨_, rfl⟩
  rw [← hAe] at hZ
  have hA : ∀ q : Nat, s.heap.size ≤ q → A q := fun q h => by rw [hAe]; exact h
  have hbA : ¬ A b := by rw [hAe]; exact Nat.not_le.mpr hbl
  obtain ⟨c0, iS0, hKn0⟩ := u_known (C := RX0) (T := TX0) (N := 2) (n := 2) hts inl_X0 (hts (.instantiable RX0 2) (List.mem_of_getElem? (i := 14) rfl))
  obtain ⟨c1, iS1, hKn1⟩ := u_known (C := RX1) (T := TX1) (N := 5) (n := 5) hts inl_X1 (hts (.instantiable RX1 5) (List.mem_of_getElem? (i := 1) rfl))
  obtain ⟨c2, iS2, hKn2⟩ := u_known (C := RX2) (T := TX2) (N := 10) (n := 10) hts inl_X2 (hts (.instantiable RX2 10) (List.mem_of_getElem? (i := 4) rfl))
  obtain ⟨dC, dI, hKc⟩ : ∃ (dC : Nat → ClassId) (dI : Nat → Nat → Nat), ∀ (k : Nat) (q : vw_C), vwCl[k]? = some q → u_Kn s q.1 q.2.1 q.2.2 (dC k) (dI k) := by
    refine ⟨fun k => if k = 0 then c0 else if k = 1 then c1 else c2, fun k => if k = 0 then iS0 else if k = 1 then iS1 else iS2, ?_⟩
    intro k q hq
    match k, hq with
    | 0, hq => cases hq; exact hKn0
    | 1, hq => cases hq; exact hKn1
    | 2, hq => cases hq; exact hKn2
    | k + 3, hq => simp [vwCl] at hq
  obtain ⟨cA, kA, compA, a1, a2, a3⟩ := Cond.arrayClass_spec (hts (.arrayClass .int) (List.mem_of_getElem? (i := 25) rfl))
  obtain ⟨cL, kL, compL, b1, b2, b3⟩ := Cond.arrayClass_spec (hts (.arrayClass .long) (List.mem_of_getElem? (i := 6) rfl))
  have hKl : va_K (dC, dI) vwCl [(cA, .int), (cL, .long)] s := ⟨hKc, fun k q hk => by
    match k, hk with
    | 0, hk => cases hk; exact ⟨fun n z => ⟨fun k h => (by cases h), kA, a2, compA, a3⟩, a1⟩
    | 1, hk => cases hk; exact ⟨fun n z => ⟨fun k h => (by cases h), kL, b2, compL, b3⟩, b1⟩
    | k + 2, hk => simp at hk⟩
  have hK : va_K (dC, dI) vwCl [(cA, .int)] s := hKl.sub [0] rfl
  have E : lwE p l s m c b L xs dC dI cA cL A := ⟨hx, hb, hml, hown, hts, hX, hbl, hbA, hA, htr, hKl, hZ, hL⟩
  have hS : va_S A s.heap s.heap [] := va_S.rf
  have hP : va_P (dC, dI) vwCl [] s.heap := fun k q h => by simp at h
  have hD : va_D A [] := ⟨fun i j p q h => by simp at h, fun k q h => by simp at h⟩
  have kend : ∀ (H : Heap) (locs : List Loc) (cells slots : Nat) (ls : Array Slot), va_S A s.heap H locs → cells ≤ 1053 → slots ≤ 9402 → W p l e room_1 s m #[Value.ref b] below meth c H locs cells slots (lw_Z below #[Value.ref b] s) (F0 m 1248 ls [.int 1]) := fun H locs cells slots ls hS h1 h2 =>
    va_forget (fun q hq => by have := hS.2.2 q hq; rw [hAe] at this; exact this) (W.widen h1 h2 (W.base (lw_ret (Drawn.sameBut.refl s.drawn lw_cs) hx hb hr hlocks dL_law_1248)))
  have hl := lv_entry ([.ref b]) (n := 9) (Nat.le_of_ble_eq_true rfl)
  rw [lg_entry_eq]
  generalize (lg_sl ([.ref b]) ++ List.replicate (9 - (lg_sl ([.ref b])).length) Slot.unset).toArray = ls at hl ⊢
  have hl : lv_has ls 9 [(0, .ref b)] := hl
  refine va_new (ci := 1) (fs := [.null, .null, .null, .null, .int 0]) (C := RX1) (T := TX1) (N := 5) hx hb hts inl_X1 tyX1 tyX1_ok hown (hts (.classLink RL 8 RX1) (List.mem_of_getElem? (i := 0) rfl)) (hts (.instantiable RX1 5) (List.mem_of_getElem? (i := 1) rfl)) (hts (.initialized RX1) (List.mem_of_getElem? (i := 2) rfl)) hK hP hD hS hA rfl (fun j hj => by rcases (show j = 0 ∨ j = 1 ∨ j = 2 ∨ j = 3 ∨ j = 4 by omega) with rfl | rfl | rfl | rfl | rfl <;> rfl) (Nat.le_of_ble_eq_true rfl) (Nat.le_of_ble_eq_true rfl) dL_law_0 (fun nq_1 H hP hD hS => ?_)
  have hP : va_P (dC, dI) vwCl [(nq_1, .inr (1, [.null, .null, .null, .null, .int 0]))] H := hP
  have hD : va_D A [(nq_1, .inr (1, [.null, .null, .null, .null, .int 0]))] := hD
  refine lv_dup hx hb dL_law_3 rfl ?_
  refine g_NI (As := []) (rest := [.ref nq_1]) (wr := []) ⟨hx, hb, hml, hown, hts⟩ (mt_X1_init l dC dI cA H.size nq_1) (cwI 0 hts gL_law_X1_init rfl rfl rfl (hts (.initialized RX1) (List.mem_of_getElem? (i := 2) rfl)) (hts (.methodLink RL 66 yX1_init) (List.mem_of_getElem? (i := 7) rfl)) (hts (.instanceMethod yX1_init) (List.mem_of_getElem? (i := 8) rfl)) rfl (by decide +kernel) ⟨Nat.le_of_ble_eq_true rfl, Nat.le_of_ble_eq_true rfl⟩) hP hK hD hS hA [0] (by decide) rfl [] rfl (by decide) (by decide) rfl hl.1 rfl (Nat.le_of_ble_eq_true rfl) dL_law_4 (Nat.le_of_ble_eq_true rfl) (Nat.le_of_ble_eq_true rfl) (fun u H locs hP hD hS => ?_)
  obtain ⟨r0_2, a0_3, r1_4, a1_5, r2_6, a2_7, r3_8, a3_9⟩ := u
  have hP : va_P (dC, dI) vwCl [(nq_1, .inr (1, [.ref r0_2, .ref r1_4, .ref r2_6, .ref r3_8, .int 3])), (r0_2, .inr (0, [.ref a0_3, .int 0])), (a0_3, .inl (cA, (100, .inl (fun _ => 0)))), (r1_4, .inr (0, [.ref a1_5, .int 0])), (a1_5, .inl (cA, (100, .inl (fun _ => 0)))), (r2_6, .inr (0, [.ref a2_7, .int 0])), (a2_7, .inl (cA, (100, .inl (fun _ => 0)))), (r3_8, .inr (0, [.ref a3_9, .int 0])), (a3_9, .inl (cA, (100, .inl (fun _ => 0))))] H := hP
  have hD : va_D A [(nq_1, .inr (1, [.ref r0_2, .ref r1_4, .ref r2_6, .ref r3_8, .int 3])), (r0_2, .inr (0, [.ref a0_3, .int 0])), (a0_3, .inl (cA, (100, .inl (fun _ => 0)))), (r1_4, .inr (0, [.ref a1_5, .int 0])), (a1_5, .inl (cA, (100, .inl (fun _ => 0)))), (r2_6, .inr (0, [.ref a2_7, .int 0])), (a2_7, .inl (cA, (100, .inl (fun _ => 0)))), (r3_8, .inr (0, [.ref a3_9, .int 0])), (a3_9, .inl (cA, (100, .inl (fun _ => 0))))] := hD
  refine lv_astore_n (lv' := [(1, .ref nq_1), (0, .ref b)]) hx hb dL_law_7 rfl hl (by decide) rfl (fun ls hl => ?_)
  refine va_new (ci := 2) (fs := [.int 0, .int 0, .null, .null, .int 0, .null, .null, .int 0, .int 0, .null]) (C := RX2) (T := TX2) (N := 10) hx hb hts inl_X2 tyX2 tyX2_ok hown (hts (.classLink RL 67 RX2) (List.mem_of_getElem? (i := 3) rfl)) (hts (.instantiable RX2 10) (List.mem_of_getElem? (i := 4) rfl)) (hts (.initialized RX2) (List.mem_of_getElem? (i := 5) rfl)) hK hP hD hS hA rfl (fun j hj => by rcases (show j = 0 ∨ j = 1 ∨ j = 2 ∨ j = 3 ∨ j = 4 ∨ j = 5 ∨ j = 6 ∨ j = 7 ∨ j = 8 ∨ j = 9 by omega) with rfl | rfl | rfl | rfl | rfl | rfl | rfl | rfl | rfl | rfl <;> rfl) (Nat.le_of_ble_eq_true rfl) (Nat.le_of_ble_eq_true rfl) dL_law_8 (fun nq_10 H hP hD hS => ?_)
  have hP : va_P (dC, dI) vwCl [(nq_1, .inr (1, [.ref r0_2, .ref r1_4, .ref r2_6, .ref r3_8, .int 3])), (r0_2, .inr (0, [.ref a0_3, .int 0])), (a0_3, .inl (cA, (100, .inl (fun _ => 0)))), (r1_4, .inr (0, [.ref a1_5, .int 0])), (a1_5, .inl (cA, (100, .inl (fun _ => 0)))), (r2_6, .inr (0, [.ref a2_7, .int 0])), (a2_7, .inl (cA, (100, .inl (fun _ => 0)))), (r3_8, .inr (0, [.ref a3_9, .int 0])), (a3_9, .inl (cA, (100, .inl (fun _ => 0)))), (nq_10, .inr (2, [.int 0, .int 0, .null, .null, .int 0, .null, .null, .int 0, .int 0, .null]))] H := hP
  have hD : va_D A [(nq_1, .inr (1, [.ref r0_2, .ref r1_4, .ref r2_6, .ref r3_8, .int 3])), (r0_2, .inr (0, [.ref a0_3, .int 0])), (a0_3, .inl (cA, (100, .inl (fun _ => 0)))), (r1_4, .inr (0, [.ref a1_5, .int 0])), (a1_5, .inl (cA, (100, .inl (fun _ => 0)))), (r2_6, .inr (0, [.ref a2_7, .int 0])), (a2_7, .inl (cA, (100, .inl (fun _ => 0)))), (r3_8, .inr (0, [.ref a3_9, .int 0])), (a3_9, .inl (cA, (100, .inl (fun _ => 0)))), (nq_10, .inr (2, [.int 0, .int 0, .null, .null, .int 0, .null, .null, .int 0, .int 0, .null]))] := hD
  refine lv_dup hx hb dL_law_11 rfl ?_
  refine g_NI (As := []) (rest := [.ref nq_10]) (wr := [(nq_1, .inr (1, [.ref r0_2, .ref r1_4, .ref r2_6, .ref r3_8, .int 3])), (r0_2, .inr (0, [.ref a0_3, .int 0])), (a0_3, .inl (cA, (100, .inl (fun _ => 0)))), (r1_4, .inr (0, [.ref a1_5, .int 0])), (a1_5, .inl (cA, (100, .inl (fun _ => 0)))), (r2_6, .inr (0, [.ref a2_7, .int 0])), (a2_7, .inl (cA, (100, .inl (fun _ => 0)))), (r3_8, .inr (0, [.ref a3_9, .int 0])), (a3_9, .inl (cA, (100, .inl (fun _ => 0))))]) ⟨hx, hb, hml, hown, hts⟩ (mt_X2_init l dC dI cA H.size nq_10) (cwI 0 hts gL_law_X2_init rfl rfl rfl (hts (.initialized RX2) (List.mem_of_getElem? (i := 5) rfl)) (hts (.methodLink RL 69 yX2_init) (List.mem_of_getElem? (i := 28) rfl)) (hts (.instanceMethod yX2_init) (List.mem_of_getElem? (i := 29) rfl)) rfl (by decide +kernel) ⟨Nat.le_of_ble_eq_true rfl, Nat.le_of_ble_eq_true rfl⟩) hP hK hD hS hA [9] (by decide) rfl [0, 1, 2, 3, 4, 5, 6, 7, 8] rfl (by decide) (by decide) rfl hl.1 rfl (Nat.le_of_ble_eq_true rfl) dL_law_12 (Nat.le_of_ble_eq_true rfl) (Nat.le_of_ble_eq_true rfl) (fun u H locs hP hD hS => ?_)
  obtain ⟨q1_11, q2_12, q3_13, q4_14, q5_15⟩ := u
  have hP : va_P (dC, dI) vwCl [(nq_1, .inr (1, [.ref r0_2, .ref r1_4, .ref r2_6, .ref r3_8, .int 3])), (r0_2, .inr (0, [.ref a0_3, .int 0])), (a0_3, .inl (cA, (100, .inl (fun _ => 0)))), (r1_4, .inr (0, [.ref a1_5, .int 0])), (a1_5, .inl (cA, (100, .inl (fun _ => 0)))), (r2_6, .inr (0, [.ref a2_7, .int 0])), (a2_7, .inl (cA, (100, .inl (fun _ => 0)))), (r3_8, .inr (0, [.ref a3_9, .int 0])), (a3_9, .inl (cA, (100, .inl (fun _ => 0)))), (nq_10, .inr (2, [.int 0, .int 3, .ref q1_11, .ref q2_12, .int 0, .ref q3_13, .ref q4_14, .int 0, .int 0, .ref q5_15])), (q1_11, .inl (cA, (2, .inl (fun _ => 0)))), (q2_12, .inl (cA, (60, .inl (fun _ => 0)))), (q3_13, .inl (cA, (320, .inl (fun _ => 0)))), (q4_14, .inl (cA, (320, .inl (fun _ => 0)))), (q5_15, .inl (cA, (6, .inl (fun _ => 0))))] H := hP
  have hD : va_D A [(nq_1, .inr (1, [.ref r0_2, .ref r1_4, .ref r2_6, .ref r3_8, .int 3])), (r0_2, .inr (0, [.ref a0_3, .int 0])), (a0_3, .inl (cA, (100, .inl (fun _ => 0)))), (r1_4, .inr (0, [.ref a1_5, .int 0])), (a1_5, .inl (cA, (100, .inl (fun _ => 0)))), (r2_6, .inr (0, [.ref a2_7, .int 0])), (a2_7, .inl (cA, (100, .inl (fun _ => 0)))), (r3_8, .inr (0, [.ref a3_9, .int 0])), (a3_9, .inl (cA, (100, .inl (fun _ => 0)))), (nq_10, .inr (2, [.int 0, .int 3, .ref q1_11, .ref q2_12, .int 0, .ref q3_13, .ref q4_14, .int 0, .int 0, .ref q5_15])), (q1_11, .inl (cA, (2, .inl (fun _ => 0)))), (q2_12, .inl (cA, (60, .inl (fun _ => 0)))), (q3_13, .inl (cA, (320, .inl (fun _ => 0)))), (q4_14, .inl (cA, (320, .inl (fun _ => 0)))), (q5_15, .inl (cA, (6, .inl (fun _ => 0))))] := hD
  refine lv_astore_n (lv' := [(2, .ref nq_10), (1, .ref nq_1), (0, .ref b)]) hx hb dL_law_15 rfl hl (by decide) rfl (fun ls hl => ?_)
  refine lv_iconst (v := 1) hx hb dL_law_16 (by decide) ?_
  refine va_newa (atype := .long) (ty := .long) (a0 := (1, .inr (.inl (fun _ => 0)))) (N' := 1) hx hb (hts (.arrayClass .long) (List.mem_of_getElem? (i := 6) rfl)) rfl hKl hP hD hS hA (fun _ => rfl) (by decide) (by decide) (by decide) (Nat.le_of_ble_eq_true rfl) (Nat.le_of_ble_eq_true rfl) dL_law_17 (fun nq_16 cL_17 H hK9 hP hD hS => ?_)
  have e9 : cL_17 = cL := Option.some.inj ((hK9.2 2 _ rfl).2.symm.trans (hKl.2 1 _ rfl).2)
  rw [e9] at hP hD
  have hP : va_P (dC, dI) vwCl [(nq_1, .inr (1, [.ref r0_2, .ref r1_4, .ref r2_6, .ref r3_8, .int 3])), (r0_2, .inr (0, [.ref a0_3, .int 0])), (a0_3, .inl (cA, (100, .inl (fun _ => 0)))), (r1_4, .inr (0, [.ref a1_5, .int 0])), (a1_5, .inl (cA, (100, .inl (fun _ => 0)))), (r2_6, .inr (0, [.ref a2_7, .int 0])), (a2_7, .inl (cA, (100, .inl (fun _ => 0)))), (r3_8, .inr (0, [.ref a3_9, .int 0])), (a3_9, .inl (cA, (100, .inl (fun _ => 0)))), (nq_10, .inr (2, [.int 0, .int 3, .ref q1_11, .ref q2_12, .int 0, .ref q3_13, .ref q4_14, .int 0, .int 0, .ref q5_15])), (q1_11, .inl (cA, (2, .inl (fun _ => 0)))), (q2_12, .inl (cA, (60, .inl (fun _ => 0)))), (q3_13, .inl (cA, (320, .inl (fun _ => 0)))), (q4_14, .inl (cA, (320, .inl (fun _ => 0)))), (q5_15, .inl (cA, (6, .inl (fun _ => 0)))), (nq_16, .inl (cL, (1, .inr (.inl (fun _ => 0)))))] H := hP
  have hD : va_D A [(nq_1, .inr (1, [.ref r0_2, .ref r1_4, .ref r2_6, .ref r3_8, .int 3])), (r0_2, .inr (0, [.ref a0_3, .int 0])), (a0_3, .inl (cA, (100, .inl (fun _ => 0)))), (r1_4, .inr (0, [.ref a1_5, .int 0])), (a1_5, .inl (cA, (100, .inl (fun _ => 0)))), (r2_6, .inr (0, [.ref a2_7, .int 0])), (a2_7, .inl (cA, (100, .inl (fun _ => 0)))), (r3_8, .inr (0, [.ref a3_9, .int 0])), (a3_9, .inl (cA, (100, .inl (fun _ => 0)))), (nq_10, .inr (2, [.int 0, .int 3, .ref q1_11, .ref q2_12, .int 0, .ref q3_13, .ref q4_14, .int 0, .int 0, .ref q5_15])), (q1_11, .inl (cA, (2, .inl (fun _ => 0)))), (q2_12, .inl (cA, (60, .inl (fun _ => 0)))), (q3_13, .inl (cA, (320, .inl (fun _ => 0)))), (q4_14, .inl (cA, (320, .inl (fun _ => 0)))), (q5_15, .inl (cA, (6, .inl (fun _ => 0)))), (nq_16, .inl (cL, (1, .inr (.inl (fun _ => 0)))))] := hD
  refine lv_astore_n (lv' := [(3, .ref nq_16), (2, .ref nq_10), (1, .ref nq_1), (0, .ref b)]) hx hb dL_law_19 rfl hl (by decide) rfl (fun ls hl => ?_)
  refine lv_iconst (v := 0) hx hb dL_law_20 (by decide) ?_
  refine lv_istore (lv' := [(4, .int 0), (3, .ref nq_16), (2, .ref nq_10), (1, .ref nq_1), (0, .ref b)]) hx hb dL_law_21 hl (by decide) rfl (fun ls hl => ?_)
  exact lw_loop E (kend) L 0 (by omega) (by omega) _ _ 3 [] [] _ _ _ (by decide) (by decide) ⟨(fun _ => 0), (fun _ => 0), 0, (fun _ => 0), 0, (fun _ => 0), 0, (fun _ => 0), (fun _ => 0), 0, (fun _ => 0), (fun _ => 0), 0, 0, (fun _ => 0), (fun _ => 0), hP, hD, hS, RI_nil, RI_nil, Nat.zero_le _, Nat.zero_le _, by decide, by decide, okL_nil, okL_nil, MW_0⟩ (lv_sub hl [0, 1, 2, 3, 4] rfl)
