/-! 08: what a throw rests on (gZ), methods that throw, and calls of them -/
abbrev gIA : String := "java/lang/IllegalArgumentException"
abbrev gIO : String := "java/lang/IndexOutOfBoundsException"
abbrev gIS : String := "java/lang/IllegalStateException"
abbrev gNames : List String := ["java/lang/RuntimeException", "java/lang/Exception"]
def gMsg : List (Nat × String) := [(31, "ropes is not 3 to 6"), (177, "word is not 0 to 1"), (186, "there is no such letter"), (188, "these are more letters than a word holds"), (63, "the word is empty"), (180, "there is no such place"), (91, "the heights differ by less than 2"), (99, "the three letters can't be turned about"), (108, "the word has no handle"), (182, "there is no such answer"), (184, "there is no such rope"), (133, "both ropes are the same")]
def gBw : List Cond := [.castable gIA gIA, .castable gIO gIO, .castable gIS gIS, .declares ⟨"java/lang/RuntimeException", "<init>", "(Ljava/lang/String;)V"⟩, .declares ⟨"java/lang/Exception", "<init>", "(Ljava/lang/String;)V"⟩, .declares ⟨"java/lang/Throwable", "<init>", "(Ljava/lang/String;)V"⟩]
def gNcs : List (String × String) := [(gIA, gIS), (gIO, gIS)]
def gZ (A : Nat → Prop) (H : Heap) (U : State) : Prop := (vx_Zq Bundle.tN "UNASSIGNED_STACK" Bundle.steD A U H ∧ vx_Zq Bundle.tN "SUPPRESSED_SENTINEL" Bundle.listD A U H) ∧ (∀ q ∈ gMsg, ∃ a, vk_R RX1 q.1 q.2 a U) ∧ (∀ w ∈ gBw, va_Nw w U) ∧ ∀ q ∈ gNcs, va_Nc q.1 q.2 U
theorem gZ.step {A B : Nat → Prop} {H H1 : Heap} {s U : State} (h : gZ A H s) (hW : s.WarmedH U.vm) (hq : ∀ a : Nat, a < H.size → ¬ A a → H1[a]? = H[a]?) (hAB : ∀ q, B q → A q) : gZ B H1 U := by
  obtain ⟨⟨h1, h2⟩, h3, h4, h5⟩ := h
  refine ⟨⟨((vx_Zq.moved hW.alike h1).kept hq).narrow hAB, ((vx_Zq.moved hW.alike h2).kept hq).narrow hAB⟩, fun q hm => ?_, fun w hw => ?_, fun q hm => va_Nc.moved hW.alike (h5 q hm)⟩
  · obtain ⟨a, ha⟩ := h3 q hm
    exact ⟨a, ha.warm hW⟩
  · have h := h4 w hw
    simp only [gBw, List.mem_cons, List.not_mem_nil, or_false] at hw
    rcases hw with rfl | rfl | rfl | rfl | rfl | rfl
    · exact va_Nw.warmC hW h
    · exact va_Nw.warmC hW h
    · exact va_Nw.warmC hW h
    · exact va_Nw.warmD hW h
    · exact va_Nw.warmD hW h
    · exact va_Nw.warmD hW h
theorem gZ.same {A : Nat → Prop} {s U : State} (h : gZ A s.heap s) (hv : U.vm = s.vm) (hh : U.heap = s.heap) : gZ A U.heap U := by
  rw [hh]
  exact gZ.step h (by rw [hv]; exact State.WarmedH.refl s) (fun _ _ _ => rfl) (fun _ q => q)
def gBT (D : va_G) (tys : List (ClassId × FieldType)) (wc : va_W) (sz : Nat) : State → Prop := fun U => gB D tys wc sz U ∧ gZ (va_A wc sz) U.heap U
theorem g_blindT {D : va_G} {tys : List (ClassId × FieldType)} {wc : va_W} {sz : Nat} {av : List Value} : FrameBlind (va_Pc av (gBT D tys wc sz)) := fun a U g mk q => by
  obtain ⟨q0, q1, q2⟩ := q
  exact ⟨q0, (g_blind a U g mk ⟨q0, q1⟩).2, gZ.same q2 rfl rfl⟩
theorem g_preT {D : va_G} {tys : List (ClassId × FieldType)} {w wc : va_W} {s : State} {H H0 : Heap} {A : Nat → Prop} {av : List Value} {locs : List Loc} (hP : va_P D vwCl w H) (hK : va_K D vwCl tys s) (hD : va_D A w) (hS : va_S A H0 H locs) (hA : ∀ q, H0.size ≤ q → A q) (hZ : gZ A H0 s) (isC : List Nat) (hn : va_nd isC = true) (hC : isC.map (fun i => w[i]?) = wc.map some) :
    ∀ U : State, U.heap = H → s.WarmedH U.vm → va_Pc av (gBT D tys wc H.size) av.toArray U := fun U hU hW =>
  ⟨rfl, (g_pre (av := av) (g_subP hP isC hC) hK (hD.sub isC hn hC) U hU hW).2, by rw [hU]; exact gZ.step hZ hW hS.2.1 (va_free hD hS hA isC hC)⟩
section GT
variable {p : Program} {l : Launch} {e : Env} {R : Room} {s : State} {m : MethodId} {args : Array Value} {below : List Frame} {meth : Method} {c : Code} {H : Heap} {locs : List Loc} {cells slots : Nat} {Q : State → Prop}
variable {y : MethodName} {bytes cc : ByteArray} {maxL nL mc ms n index pc : Nat} {ret : Option FieldType} {ws ws' : List Cond} {rm : Room} {Ts : List Cond} {own C E : String} {b : Addr} {As av rest st0 : List Value} {ls : Array Slot}
variable {D : va_G} {tys : List (ClassId × FieldType)} {w wc : va_W} {A A0 : Nat → Prop} {H0 : Heap} {v : Option Value} {a : Array Value}
/-- a method's body that throws an E and leaves the old cells -/
theorem g_ofT {sz : Nat} {XC : Nat → String → State → State → Prop} (hy : plainName y.cls = true) (hw : ws = Cond.code y cc maxL ret :: ws') (hlen : (lg_sl av).length ≤ maxL) (free : Addr → Prop) (body : ∀ (p : Program) (e : Env) (s : State) (m : MethodId) (below : List Frame) (meth : Method) (c : Code) (ls : Array Slot), p.tables.exec = Jvm.exec → c.code = cc → c.maxLocals = maxL → (∀ w ∈ ws, w.before av.toArray s = true) → s.vm.findClass y.cls = some m.cls → meth.locks = false → (∀ x ∈ c.exceptionTable.toList, False) → va_P D vwCl wc s.heap → va_K D vwCl tys s → lv_has ls maxL (lv_args 0 av) → s.heap.size = sz → (∀ q, s.heap.size ≤ q → va_A wc sz q) → va_D (va_A wc sz) wc → va_S (va_A wc sz) s.heap s.heap [] → gZ (va_A wc sz) s.heap s → W p l e rm s m av.toArray below meth c s.heap [] 0 0 (vx_MQ below gNo (XC sz) av.toArray s mc ms free) (F0 m 0 ls [])) : vx_Met l y ws rm (va_Pc av (gBT D tys wc sz)) gNo (XC sz) mc ms free := by
  refine vx_ofW (cc := cc) (maxL := maxL) (ret := ret) hy hw ?_
  intro p e s m args below meth c s₁ B hml ht hv
  obtain ⟨rfl, ⟨hsz, hP, hK, hD0⟩, hZ⟩ := hv
  rw [lg_entry_eq]
  exact body p e s m below meth c _ B.exec B.bytes hml (atoms_spec (ws := ws) B.pre) (findClass_of_methodNamed B.named) B.notSynchronized ht hP hK (lv_entry av hlen) hsz (fun q h => Or.inr (by rw [← hsz]; exact h)) hD0.self va_S.rf hZ
/-- a call that throws, not caught here -/
theorem g_Tgo {mc9 ms9 : Nat} {free : Addr → Prop} (hr : vx_Run p l e R s m args below meth c s.heap [] 0 0 1 6 (F0 m pc ls st0) rest (gNo a) (gX E) (fun _ => False)) (hlocks : meth.locks = false) (hno : ∀ x ∈ c.exceptionTable.toList, False) : W p l e R s m args below meth c s.heap [] 0 0 (vx_MQ below gNo (gX E) args s 1 6 free) (F0 m pc ls st0) := by
  intro T hT X
  rcases hr T hT X with ⟨v, st₀, t, T', L, h0, X', hL, e1, e2, hq, st⟩ | ⟨q, st₀, t, T', L, E', ce, h0, X', hL, e1, e2, ⟨hE, hz, hk⟩, hce, hcv, hcl, st⟩
  · exact hq.elim
  · rw [h0] at hz hk
    have ho := vx_out (p := p) (l := l) (e := e) (R := R) (s := s) (m := m) (args := args) (below := below) (meth := meth) (c := c) (H := T'.heap) (locs := [] ++ L) (cells := 0 + 1) (slots := 0 + 6) (pc := pc) (ls := ls) (rest := rest) (Qc := gNo) (XC := gX E) (free := free) (mc := 1) (ms := 6) (fun x hx => (hno x hx).elim) hlocks (by rw [e1]; exact hce) hcv hcl
      (fun t' ht' _ => ⟨hE, by rw [ht', e1]; exact hz, fun q h1 h2 => by rw [ht', e1]; exact hk q h1 (Nat.not_le.mpr h1)⟩) (fun z hz => (hL z (by simpa using hz)).elim) (Nat.le_refl _) (Nat.le_refl _)
    obtain ⟨t2, a1, b1⟩ := ho T' rfl X'
    exact ⟨t2, st.trans a1, b1⟩
theorem g_TV {free : Addr → Prop} (S9 : CallFix p m c cc nL s args Ts own) (hM9 : vx_Met l y ws rm (va_Pc (.ref b :: As) (gBT D tys wc s.heap.size)) gNo (gX E) 1 6 (fun _ => False)) (cw : CallW R s args own C index y bytes maxL ret ws rm 1 6 n) (hP : va_P D vwCl w s.heap) (hKc : va_K D vwCl tys s) (hD : va_D A0 w) (hA : ∀ q, s.heap.size ≤ q → A0 q) (hZ : gZ A0 s.heap s) (isC : List Nat) (hn : va_nd isC = true) (hC : isC.map (fun i => w[i]?) = wc.map some) (hrv : ∃ cellB : Cell, s.heap[b]? = some cellB ∧ cellB.vm.isStatics = false ∧ s.vm.findClass C = some cellB.cls) (hlen : As.length = n) (hls : ls.size = nL) (hst : st0 = As.reverse ++ .ref b :: rest) (hroom : (rest.map fun v => v.category).sum ≤ 8) (hdg : decode cc pc = .ok (.invokevirtual index, 3)) (hc : 1 ≤ R.cells) (hs : 6 ≤ R.slots) (hlocks : meth.locks = false) (hno : ∀ x ∈ c.exceptionTable.toList, False) : W p l e R s m args below meth c s.heap [] 0 0 (vx_MQ below gNo (gX E) args s 1 6 free) (F0 m pc ls st0) :=
  g_Tgo (mc9 := 0) (ms9 := 0) (vx_runV S9 hM9 cw ⟨g_blindT, hrv, g_preT hP hKc hD va_S.rf hA hZ isC hn hC⟩ rfl hlen hls hst (lv_room hroom) hdg ⟨by omega, by omega⟩) hlocks hno
theorem g_TS {free : Addr → Prop} (S9 : CallFix p m c cc nL s args Ts own) (hM9 : vx_Met l y ws rm (va_Pc As (gBT D tys wc s.heap.size)) gNo (gX E) 1 6 (fun _ => False)) (cw : CallB R s args own index y bytes maxL ret ws rm 1 6 n ∧ (Cond.static y).before args s = true) (hP : va_P D vwCl w s.heap) (hKc : va_K D vwCl tys s) (hD : va_D A0 w) (hA : ∀ q, s.heap.size ≤ q → A0 q) (hZ : gZ A0 s.heap s) (isC : List Nat) (hn : va_nd isC = true) (hC : isC.map (fun i => w[i]?) = wc.map some) (hlen : As.length = n) (hls : ls.size = nL) (hst : st0 = As.reverse ++ rest) (hroom : (rest.map fun v => v.category).sum ≤ 8) (hdg : decode cc pc = .ok (.invokestatic index, 3)) (hc : 1 ≤ R.cells) (hs : 6 ≤ R.slots) (hlocks : meth.locks = false) (hno : ∀ x ∈ c.exceptionTable.toList, False) : W p l e R s m args below meth c s.heap [] 0 0 (vx_MQ below gNo (gX E) args s 1 6 free) (F0 m pc ls st0) :=
  g_Tgo (mc9 := 0) (ms9 := 0) (vx_runS S9 hM9 cw ⟨g_blindT, g_preT hP hKc hD va_S.rf hA hZ isC hn hC⟩ rfl hlen hls hst (lv_room hroom) hdg ⟨by omega, by omega⟩) hlocks hno
/-- 'throw new E("text")' in BraidWords -/
theorem g_throw {XC : String → State → State → Prop} {free : Addr → Prop} {text : String} {ik is ic : Nat} (hexec : p.tables.exec = Jvm.exec) (hb : c.code = cc) (htr : l.stackTraces = false) (hown : s.vm.findClass RX1 = some m.cls) (hfit : Bundle.fit E = true) (hk : (Cond.classLink RX1 ik E).before args s = true) (hini : (Cond.initialized E).before args s = true)
    (hgw : ∀ w ∈ (vx_atS RX1 ic E gNames).filter goodWord, w.before args s = true) (hbad : ∀ w ∈ (vx_atS RX1 ic E gNames).filter (fun w => !goodWord w), w ∈ gBw) (hgood : ∀ w ∈ Cond.classLink RX1 ik E :: Cond.initialized E :: vx_atS RX1 ic E gNames, vx_ot w = true)
    (hZ : gZ A s.heap s) (hm : (is, text) ∈ gMsg) (hS : va_S A s.heap H locs) (hsize : ls.size = c.maxLocals)
    (d0 : decode cc pc = .ok (.new ik, 3)) (d3 : decode cc (pc + 3) = .ok (.dup, 1)) (d4 : decode cc (pc + 4) = .ok (.ldc is, 2)) (d6 : decode cc (pc + 6) = .ok (.invokespecial ic, 3)) (d9 : decode cc (pc + 9) = .ok (.athrow, 1)) (hno : ∀ x ∈ c.exceptionTable.toList, False)
    (hRf : 5 < R.frames) (hRl : (rest.map fun v => v.category).sum + 82 ≤ R.locals) (hRc : cells + 1 ≤ R.cells) (hRs : slots + 6 ≤ R.slots) (hlocks : meth.locks = false)
    (hx : ∀ t : State, s.vm.Alike t.vm → H.size ≤ t.heap.size → (∀ q : Nat, q < H.size → t.heap[q]? = H[q]?) → XC E s t) (hf : ∀ z ∈ locs, free z.base) (hc : cells + 1 ≤ mc) (hs : slots + 6 ≤ ms) :
    W p l e R s m args below meth c H locs cells slots (vx_MQ below gNo XC args s mc ms free) (F0 m pc ls rest) := by
  obtain ⟨⟨hU, hN⟩, hM, hB, -⟩ := hZ
  obtain ⟨sa, hstr⟩ := hM _ hm
  refine vx_throwS hexec hb htr (own := RX1) (cls := E) (names := gNames) hown hfit (by decide) hk hini hstr (vx_hat hgw hbad (fun w hw => ?_)) hgood hU hN hS hsize d0 d3 d4 d6 d9 (fun x hx => (hno x hx).elim) (by show 2 + 3 < _; omega) (by show _ + (13 * (2 + 1) + 43) ≤ _; omega) hRc hRs hlocks hx hf hc hs
  have h := hB w hw
  simp only [gBw, List.mem_cons, List.not_mem_nil, or_false] at hw
  rcases hw with rfl | rfl | rfl | rfl | rfl | rfl <;> exact va_Nw.use rfl h
end GT
set_option maxRecDepth 20000 in
theorem g_badIA : ∀ w ∈ (vx_atS RX1 33 gIA gNames).filter (fun w => !goodWord w), w ∈ gBw := by decide +kernel
set_option maxRecDepth 20000 in
theorem g_badIO : ∀ w ∈ (vx_atS RX1 179 gIO gNames).filter (fun w => !goodWord w), w ∈ gBw := by decide +kernel
set_option maxRecDepth 20000 in
theorem g_badIS : ∀ w ∈ (vx_atS RX1 65 gIS gNames).filter (fun w => !goodWord w), w ∈ gBw := by decide +kernel
set_option maxRecDepth 20000 in
theorem g_otIA : ∀ w ∈ Cond.classLink RX1 29 gIA :: Cond.initialized gIA :: vx_atS RX1 33 gIA gNames, vx_ot w = true := by decide +kernel
set_option maxRecDepth 20000 in
theorem g_otIO : ∀ w ∈ Cond.classLink RX1 175 gIO :: Cond.initialized gIO :: vx_atS RX1 179 gIO gNames, vx_ot w = true := by decide +kernel
set_option maxRecDepth 20000 in
theorem g_otIS : ∀ w ∈ Cond.classLink RX1 61 gIS :: Cond.initialized gIS :: vx_atS RX1 65 gIS gNames, vx_ot w = true := by decide +kernel
theorem gX_here {E : String} {s t : State} (h1 : s.heap.size ≤ t.heap.size) (h2 : ∀ q : Nat, q < s.heap.size → t.heap[q]? = s.heap[q]?) : gX E E s t := ⟨rfl, h1, fun q h _ => h2 q h⟩
theorem gXM_here {S : Type} {D : va_G} {E : String} {post : S → Prop} {w1 : S → va_W} {A : Nat → Prop} {w : va_W} {s t : State} {H : Heap} {locs : List Loc} (hP : va_P D vwCl w H) (hS : va_S A s.heap H locs) (u : S) (hu : w1 u = w) (hpo : post u) (h1 : H.size ≤ t.heap.size) (h2 : ∀ q : Nat, q < H.size → t.heap[q]? = H[q]?) : gXM D E post w1 A E s t :=
  ⟨rfl, ⟨u, hpo, by rw [hu]; exact hP.kept (fun k q hk => h2 q.1 (hP k q hk).lt)⟩, Nat.le_trans hS.1 h1, fun q h3 h4 => (h2 q (Nat.lt_of_lt_of_le h3 hS.1)).trans (hS.2.1 q h3 h4)⟩
theorem room_ok (a b : Nat) (h : a + b ≤ 30) : nI a + nI b ≤ 30 := by
  rw [nI_add]; exact nI_le h (by decide)
theorem room_no (a b : Nat) (h : 30 < a + b) (h2 : a + b < 2 ^ 31) : ¬ nI a + nI b ≤ 30 := by
  rw [nI_add]; exact nI_ge h h2
theorem lt_plI {k n : Nat} (h : k + 1 < n) (hn : n < 2 ^ 31) : nI k < plI n := by
  cases n with
  | zero => omega
  | succ n => exact nI_lt (by omega) (by omega)
theorem sub2_nI {n : Nat} (h : 2 ≤ n) : nI n - 2 = nI (n - 2) := pk_sub h
theorem plI_pred {n : Nat} (h : 1 ≤ n) : plI n = nI (n - 1) := by
  cases n with
  | zero => omega
  | succ n => rfl
