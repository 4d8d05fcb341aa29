/-! 50: methods that make cells and give some of them back (gQ); what is carried along beside the world (X); arrays as lists; arrays of arrays -/
def stX (X : (Nat → Prop) → Heap → State → Prop) : Prop := ∀ (A B : Nat → Prop) (H H1 : Heap) (s U : State), X A H s → s.WarmedH U.vm → (∀ a : Nat, a < H.size → ¬ A a → H1[a]? = H[a]?) → (∀ q, B q → A q) → X B H1 U
theorem stX.same {X : (Nat → Prop) → Heap → State → Prop} (h : stX X) {A : Nat → Prop} {s U : State} (hx : X A s.heap s) (hv : U.vm = s.vm) (hh : U.heap = s.heap) : X A U.heap U := by
  rw [hh]
  exact h A A _ _ s U hx (by rw [hv]; exact State.WarmedH.refl s) (fun _ _ _ => rfl) (fun _ q => q)
def xT : (Nat → Prop) → Heap → State → Prop := fun _ _ _ => True
theorem xT_st : stX xT := fun _ _ _ _ _ _ _ _ _ _ => trivial
/-- the script beside the world -/
def xS (b L : Nat) (xs : Nat → Int32) : (Nat → Prop) → Heap → State → Prop := fun A H U => va_X b L xs U H ∧ b < H.size ∧ ¬ A b
theorem xS_st {b L : Nat} {xs : Nat → Int32} : stX (xS b L xs) := fun A B H H1 s U h hW hq hAB => by
  obtain ⟨h1, h2, h3⟩ := h
  have e := hq b h2 h3
  refine ⟨(h1.moved hW.alike).kept e, ?_, fun q => h3 (hAB b q)⟩
  obtain ⟨scr, g1, -⟩ := h1
  rw [g1] at e
  exact (Array.getElem?_eq_some_iff.mp e).1
/-- the class of int[][] is there -/
def aoI (U : State) : Prop := (Cond.arrayOver (.array .int)).before #[] U = true
theorem aoI.spec {D : va_G} {cl : List vw_C} {tys : List (ClassId × FieldType)} {s : State} {cA cAA : ClassId} (h : aoI s) (hK : va_K D cl tys s) (t0 t1 : Nat) (h0 : tys[t0]? = some (cA, .int)) (h1 : tys[t1]? = some (cAA, .array .int)) : (∃ kA, s.vm.classes[cAA]? = some kA ∧ kA.kind = .array cA (.array .int)) ∧ ∃ k0, s.vm.classes[cA]? = some k0 := by
  obtain ⟨comp, c, k, a1, -, a3, a4, a5⟩ := arrayOverA_spec (args := #[]) (first := s) (s := s) (o := none) (idx := []) (t := .int) h
  have e0 : s.vm.findClass ("[" ++ FieldType.int.toString) = some cA := (hK.2 t0 _ h0).2
  have e1 : s.vm.findClass ("[" ++ (FieldType.array .int).toString) = some cAA := (hK.2 t1 _ h1).2
  have f0 : comp = cA := Option.some.inj (a1.symm.trans e0)
  have f1 : c = cAA := Option.some.inj (a5.symm.trans e1)
  subst f0
  subst f1
  refine ⟨⟨k, a3, a4⟩, ?_⟩
  obtain ⟨-, k0, b1, -⟩ := (hK.2 t0 _ h0).1 0 (fun _ => .null)
  exact ⟨k0, b1⟩
theorem aoI.moved {u U : State} (hvm : u.vm.Alike U.vm) (h : aoI u) : aoI U := by
  obtain ⟨comp, c, k, h1, h2, h3, h4, h5⟩ := arrayOverA_spec (args := #[]) (first := u) (s := u) (o := none) (idx := []) (t := .int) h
  obtain ⟨k', hk', he⟩ := hvm.2.2 _ _ h3
  have hi : (U.vm.classes.findIdx? fun (x : Class) => match x.kind with | .array component _ => component == comp | _ => false) = some c := by
    rw [hvm.findIdx?_eq _ (fun _ => rfl)]
    exact h2
  have hkind : k'.kind = .array comp (.array .int) := by rw [he]; exact h4
  have f1 : U.vm.findClass (FieldType.array .int).toString = some comp := by rw [hvm.findClass]; exact h1
  have f2 : U.vm.findClass ("[" ++ (FieldType.array .int).toString) = some c := by rw [hvm.findClass]; exact h5
  unfold aoI Cond.before Cond.holds
  simp only [Cond.value]
  rw [f1, Option.bind_some]
  refine (congrArg (fun o : Option Nat => (o.bind (fun c => (U.vm.classes[c]?).map fun (k : Class) => match k.kind with | .array _ ty => decide (ty = FieldType.array .int) && decide (U.vm.findClass ("[" ++ (FieldType.array .int).toString) = some c) | _ => false) == some true)) hi).trans ?_
  simp [hk', hkind, f2]
theorem aa_assign {vm : Vm} (c : ClassId) : vm.assignable c c = true := by
  show vm.assignableAux (255 + 1) c c = true
  rw [Vm.assignableAux, Bool.or_eq_true]
  exact Or.inl (beq_self_eq_true c)
theorem vpc_cls (c : ClassId) (z : vp_A) : (vp_cell c z).cls = c ∧ (vp_cell c z).vm = .none := by
  obtain ⟨n, z⟩ := z
  rcases z with f | f | f | f | f <;> exact ⟨rfl, rfl⟩
theorem aa_cong {cA : ClassId} {n : Nat} {f g : Nat → Int32} (h : ∀ j, j < n → f j = g j) : vp_cell cA (n, .inl f) = vp_cell cA (n, .inl g) := by
  rw [vp_cell_i, vp_cell_i]
  unfold arrV
  have e : (fun j : Fin n => Value.int (f j.val)) = (fun j : Fin n => Value.int (g j.val)) := funext fun j => by rw [h j.val j.isLt]
  rw [e]
/-- an array of whole numbers, as a list -/
theorem va_canon {D : va_G} {cl : List vw_C} {ws : va_W} {H : Heap} {a : Nat} {cA : ClassId} {n : Nat} {f : Nat → Int32} (hP : va_P D cl ws H) (q0 : Nat) (ha : ws[q0]? = some (a, .inl (cA, n, .inl f))) (L : List Int32) (hn : n = L.length) (h : ∀ j, j < L.length → f j = atL L j) : va_P D cl (ws.set q0 (a, .inl (cA, L.length, .inl (atL L)))) H := by
  subst hn
  intro k q hk
  rw [List.getElem?_set] at hk
  by_cases e : q0 = k
  · rw [if_pos e] at hk
    split at hk
    · cases hk
      have := hP q0 _ ha
      show H[a]? = some (vp_cell cA (L.length, .inl (atL L)))
      rw [← aa_cong h]
      exact this
    · cases hk
  · rw [if_neg e] at hk
    exact hP k q hk
theorem va_canonD {A : Nat → Prop} {ws : va_W} {a : Nat} {cA : ClassId} {n : Nat} {f : Nat → Int32} (hD : va_D A ws) (q0 : Nat) (ha : ws[q0]? = some (a, .inl (cA, n, .inl f))) (L : List Int32) : va_D A (ws.set q0 (a, .inl (cA, L.length, .inl (atL L)))) := hD.set ha
theorem aa_nm : (FieldType.array .int).toString = "[I" := by first | rfl | decide +kernel
theorem aoI.use {A : Array Value} {U : State} (h : aoI U) : (Cond.arrayOver (.array .int)).before A U = true := h
def gQ {S : Type} (D : va_G) (v : S → Option Value) (post : S → Prop) (w1 : S → va_W) (A : Nat → Prop) : Array Value → State → Outcome → State → Prop := fun _ st oc t => (∃ u : S, oc = .returned (v u) ∧ post u ∧ va_P D vwCl (w1 u) t.heap ∧ va_D A (w1 u)) ∧ va_F A st t
def gBX (X : (Nat → Prop) → Heap → State → Prop) (D : va_G) (tys : List (ClassId × FieldType)) (wc : va_W) (sz : Nat) : State → Prop := fun U => gB D tys wc sz U ∧ X (va_A wc sz) U.heap U
theorem g_blindX {X : (Nat → Prop) → Heap → State → Prop} (hs : stX X) {D : va_G} {tys : List (ClassId × FieldType)} {wc : va_W} {sz : Nat} {av : List Value} : FrameBlind (va_Pc av (gBX X D tys wc sz)) := fun a U g mk q => by
  obtain ⟨q0, q1, q2⟩ := q
  exact ⟨q0, (g_blind a U g mk ⟨q0, q1⟩).2, hs.same q2 rfl rfl⟩
theorem g_preX {X : (Nat → Prop) → Heap → State → Prop} (hs : stX X) {D : va_G} {tys : List (ClassId × FieldType)} {w wc : va_W} {s : State} {H H0 : Heap} {A : Nat → Prop} {av : List Value} {locs : List Loc} (hP : va_P D vwCl w H) (hK : va_K D vwCl tys s) (hD : va_D A w) (hS : va_S A H0 H locs) (hA : ∀ q, H0.size ≤ q → A q) (hX : X A H0 s) (isC : List Nat) (hn : va_nd isC = true) (hC : isC.map (fun i => w[i]?) = wc.map some) :
    ∀ U : State, U.heap = H → s.WarmedH U.vm → va_Pc av (gBX X D tys wc H.size) av.toArray U := fun U hU hW =>
  ⟨rfl, (g_pre (av := av) (g_subP hP isC hC) hK (hD.sub isC hn hC) U hU hW).2, by rw [hU]; exact hs A _ H0 H s U hX hW hS.2.1 (va_free hD hS hA isC hC)⟩
section GQ
variable {p : Program} {l : Launch} {e : Env} {R : Room} {s : State} {m : MethodId} {args : Array Value} {below : List Frame} {meth : Method} {c : Code} {H : Heap} {locs : List Loc} {cells slots : Nat} {Q : State → Prop}
variable {y : MethodName} {bytes cc : ByteArray} {maxL nL mc ms n index pc : Nat} {ret : Option FieldType} {ws ws' : List Cond} {rm : Room} {Ts : List Cond} {own C : String} {b : Addr} {As av rest st0 : List Value} {ls : Array Slot}
variable {D : va_G} {cl : List vw_C} {tys : List (ClassId × FieldType)} {w wc wr : va_W} {A A0 : Nat → Prop} {H0 : Heap} {a : Array Value}
variable {S : Type} {X : (Nat → Prop) → Heap → State → Prop} {v : S → Option Value} {post : S → Prop} {w1 : S → va_W}
theorem g_keepQ (hr : CallRun p l e R s m args below meth c H locs cells slots mc ms (F0 m pc ls st0) rest (gQ D v post w1 (va_A wc H.size) a) (va_A wc H.size))
    (hP : va_P D vwCl w H) (hD : va_D A0 w) (hS : va_S A0 H0 H locs) (hA : ∀ q, H0.size ≤ q → A0 q) (isC : List Nat) (hC : isC.map (fun i => w[i]?) = wc.map some) (isR : List Nat) (hR : isR.map (fun i => w[i]?) = wr.map some) (hnR : va_nd isR = true) (hdis : ∀ i ∈ isR, i ∉ isC)
    (kk : ∀ (u : S) (H1 : Heap) (locs1 : List Loc), post u → va_P D vwCl (wr ++ w1 u) H1 → va_D A0 (wr ++ w1 u) → va_S A0 H0 H1 locs1 → W p l e R s m args below meth c H1 locs1 (cells + mc) (slots + ms) Q (F0 m (pc + 3) ls ((v u).toList ++ rest))) : W p l e R s m args below meth c H locs cells slots Q (F0 m pc ls st0) := by
  intro T hT Xs
  obtain ⟨v', st₀, t, T', L, h0, X', hL, e1, ⟨⟨u, hv, hpo, hP1, hD1⟩, hz, hk⟩, st⟩ := hr T hT Xs
  cases hv
  rw [h0] at hz hk
  have hf := va_free (wc := wc) hD hS hA isC hC
  have hj := va_join (H1 := T'.heap) hP hD isC isR hC hR hnR hdis (fun q h1 h2 => by rw [e1]; exact hk q h1 h2) hf (by rw [e1]; exact hP1) hD1
  obtain ⟨t2, a1, b1⟩ := kk u T'.heap (locs ++ L) hpo hj.1 hj.2
    ⟨Nat.le_trans hS.1 (by rw [e1]; exact hz), fun q h1 h2 => by rw [e1, hk q (Nat.lt_of_lt_of_le h1 hS.1) (fun z => h2 (hf q z))]; exact hS.2.1 q h1 h2, fun q hq => by
      rcases List.mem_append.mp hq with h | h
      · exact hS.2.2 q h
      · exact hf _ (hL q h)⟩ T' rfl X'
  exact ⟨t2, st t2 a1, b1⟩
theorem g_QS (hXs : stX X) (S9 : CallFix p m c cc nL s args Ts own) (hM9 : Met l y ws rm (va_Pc As (gBX X D tys wc H.size)) (gQ D v post w1 (va_A wc H.size)) mc ms (va_A wc H.size)) (cw : CallB R s args own index y bytes maxL ret ws rm mc ms n ∧ (Cond.static y).before args s = true) (hP : va_P D vwCl w H) (hKc : va_K D vwCl tys s) (hD : va_D A0 w) (hS : va_S A0 H0 H locs) (hA : ∀ q, H0.size ≤ q → A0 q) (hX : X A0 H0 s) (isC : List Nat) (hn : va_nd isC = true) (hC : isC.map (fun i => w[i]?) = wc.map some) (isR : List Nat) (hR : isR.map (fun i => w[i]?) = wr.map some) (hnR : va_nd isR = true) (hdis : ∀ i ∈ isR, i ∉ isC)
    (hlen : As.length = n) (hls : ls.size = nL) (hst : st0 = As.reverse ++ rest) (hroom : (rest.map fun v => v.category).sum ≤ 8) (hdg : decode cc pc = .ok (.invokestatic index, 3)) (hc : cells + mc ≤ R.cells) (hs : slots + ms ≤ R.slots)
    (kk : ∀ (u : S) (H1 : Heap) (locs1 : List Loc), post u → va_P D vwCl (wr ++ w1 u) H1 → va_D A0 (wr ++ w1 u) → va_S A0 H0 H1 locs1 → W p l e R s m args below meth c H1 locs1 (cells + mc) (slots + ms) Q (F0 m (pc + 3) ls ((v u).toList ++ rest))) : W p l e R s m args below meth c H locs cells slots Q (F0 m pc ls st0) :=
  g_keepQ (W.runS S9 hM9 cw ⟨g_blindX hXs, g_preX hXs hP hKc hD hS hA hX isC hn hC⟩ rfl hlen hls hst (lv_room hroom) hdg ⟨hc, hs⟩) hP hD hS hA isC hC isR hR hnR hdis kk
theorem g_QV (hXs : stX X) (S9 : CallFix p m c cc nL s args Ts own) (hM9 : Met l y ws rm (va_Pc (.ref b :: As) (gBX X D tys wc H.size)) (gQ D v post w1 (va_A wc H.size)) mc ms (va_A wc H.size)) (cw : CallW R s args own C index y bytes maxL ret ws rm mc ms n) (hP : va_P D vwCl w H) (hKc : va_K D vwCl tys s) (hD : va_D A0 w) (hS : va_S A0 H0 H locs) (hA : ∀ q, H0.size ≤ q → A0 q) (hX : X A0 H0 s) (isC : List Nat) (hn : va_nd isC = true) (hC : isC.map (fun i => w[i]?) = wc.map some) (isR : List Nat) (hR : isR.map (fun i => w[i]?) = wr.map some) (hnR : va_nd isR = true) (hdis : ∀ i ∈ isR, i ∉ isC)
    (hrv : ∃ cellB : Cell, H[b]? = some cellB ∧ cellB.vm.isStatics = false ∧ s.vm.findClass C = some cellB.cls) (hlen : As.length = n) (hls : ls.size = nL) (hst : st0 = As.reverse ++ .ref b :: rest) (hroom : (rest.map fun v => v.category).sum ≤ 8) (hdg : decode cc pc = .ok (.invokevirtual index, 3)) (hc : cells + mc ≤ R.cells) (hs : slots + ms ≤ R.slots)
    (kk : ∀ (u : S) (H1 : Heap) (locs1 : List Loc), post u → va_P D vwCl (wr ++ w1 u) H1 → va_D A0 (wr ++ w1 u) → va_S A0 H0 H1 locs1 → W p l e R s m args below meth c H1 locs1 (cells + mc) (slots + ms) Q (F0 m (pc + 3) ls ((v u).toList ++ rest))) : W p l e R s m args below meth c H locs cells slots Q (F0 m pc ls st0) :=
  g_keepQ (W.runV S9 hM9 cw ⟨g_blindX hXs, hrv, g_preX hXs hP hKc hD hS hA hX isC hn hC⟩ rfl hlen hls hst (lv_room hroom) hdg ⟨hc, hs⟩) hP hD hS hA isC hC isR hR hnR hdis kk
theorem g_QI (hXs : stX X) (S9 : CallFix p m c cc nL s args Ts own) (hM9 : Met l y ws rm (va_Pc (.ref b :: As) (gBX X D tys wc H.size)) (gQ D v post w1 (va_A wc H.size)) mc ms (va_A wc H.size)) (cw : CallB R s args own index y bytes maxL none ws rm mc ms n ∧ y.name = "<init>" ∧ (Cond.instanceMethod y).before args s = true) (hP : va_P D vwCl w H) (hKc : va_K D vwCl tys s) (hD : va_D A0 w) (hS : va_S A0 H0 H locs) (hA : ∀ q, H0.size ≤ q → A0 q) (hX : X A0 H0 s) (isC : List Nat) (hn : va_nd isC = true) (hC : isC.map (fun i => w[i]?) = wc.map some) (isR : List Nat) (hR : isR.map (fun i => w[i]?) = wr.map some) (hnR : va_nd isR = true) (hdis : ∀ i ∈ isR, i ∉ isC)
    (hlen : As.length = n) (hls : ls.size = nL) (hst : st0 = As.reverse ++ .ref b :: rest) (hroom : (rest.map fun v => v.category).sum ≤ 8) (hdg : decode cc pc = .ok (.invokespecial index, 3)) (hc : cells + mc ≤ R.cells) (hs : slots + ms ≤ R.slots)
    (kk : ∀ (u : S) (H1 : Heap) (locs1 : List Loc), post u → va_P D vwCl (wr ++ w1 u) H1 → va_D A0 (wr ++ w1 u) → va_S A0 H0 H1 locs1 → W p l e R s m args below meth c H1 locs1 (cells + mc) (slots + ms) Q (F0 m (pc + 3) ls ((v u).toList ++ rest))) : W p l e R s m args below meth c H locs cells slots Q (F0 m pc ls st0) :=
  g_keepQ (W.runI S9 hM9 cw ⟨g_blindX hXs, g_preX hXs hP hKc hD hS hA hX isC hn hC⟩ rfl hlen hls hst (lv_room hroom) hdg ⟨hc, hs⟩) hP hD hS hA isC hC isR hR hnR hdis kk
theorem g_ofQ {sz : Nat} (hy : plainName y.cls = true) (hw : ws = Cond.code y cc maxL ret :: ws') (hlen : (lg_sl av).length ≤ maxL) (body : ∀ (p : Program) (e : Env) (s : State) (m : MethodId) (below : List Frame) (meth : Method) (c : Code) (ls : Array Slot), p.tables.exec = Jvm.exec → c.code = cc → meth.sig.returnType = ret → c.maxLocals = maxL → (∀ w ∈ ws, w.before av.toArray s = true) → s.vm.findClass y.cls = some m.cls → meth.locks = false → va_P D vwCl wc s.heap → va_K D vwCl tys s → lv_has ls maxL (lv_args 0 av) → meth.name = y.name → ∀ A : Nat → Prop, (∀ q, s.heap.size ≤ q → A q) → va_D A wc → va_S A s.heap s.heap [] → X A s.heap s → W p l e rm s m av.toArray below meth c s.heap [] 0 0 (MQ below (gQ D v post w1 A) av.toArray s mc ms A) (F0 m 0 ls [])) : Met l y ws rm (va_Pc av (gBX X D tys wc sz)) (gQ D v post w1 (va_A wc sz)) mc ms (va_A wc sz) := by
  refine Met.ofW (cc := cc) (maxL := maxL) (ret := ret) hy hw ?_
  intro p e s m args below meth c s₁ B hml hv
  obtain ⟨rfl, ⟨hsz, hP, hK, hD0⟩, hX⟩ := hv
  subst hsz
  rw [lg_entry_eq]
  exact body p e s m below meth c _ B.exec B.bytes B.returns hml (atoms_spec (ws := ws) B.pre) (findClass_of_methodNamed B.named) B.notSynchronized hP hK (lv_entry av hlen) (name_of_methodNamed B.named B.method).1 _ (fun q h => Or.inr h) hD0.self va_S.rf hX
theorem g_endQi {x : Int32} (hexec : p.tables.exec = Jvm.exec) (hb : c.code = cc) (hr : meth.sig.returnType = some .int) (hlocks : meth.locks = false) (hP : va_P D vwCl w H) (hD : va_D A w) (hS : va_S A s.heap H locs) (hdg : decode cc pc = .ok (.ireturn, 1)) (u : S) (hu : w1 u = w) (hv : v u = some (.int x)) (hpo : post u) (hc : cells ≤ mc) (hs : slots ≤ ms) : W p l e R s m args below meth c H locs cells slots (MQ below (gQ D v post w1 A) args s mc ms A) (F0 m pc ls [.int x]) :=
  W.widen hc hs (W.iret hexec hb hr (fun t ht _ => ⟨⟨u, by rw [hv], hpo, by rw [ht, hu]; exact hP, by rw [hu]; exact hD⟩, hS.F ht⟩) hS.2.2 hdg hlocks)
theorem g_endQz {x : Int32} (hexec : p.tables.exec = Jvm.exec) (hb : c.code = cc) (hr : meth.sig.returnType = some .boolean) (hlocks : meth.locks = false) (hP : va_P D vwCl w H) (hD : va_D A w) (hS : va_S A s.heap H locs) (hdg : decode cc pc = .ok (.ireturn, 1)) (hn : narrow .boolean (.int x) = .int x) (u : S) (hu : w1 u = w) (hv : v u = some (.int x)) (hpo : post u) (hc : cells ≤ mc) (hs : slots ≤ ms) : W p l e R s m args below meth c H locs cells slots (MQ below (gQ D v post w1 A) args s mc ms A) (F0 m pc ls [.int x]) :=
  W.widen hc hs (W.zret hexec hb hr hn (fun t ht _ => ⟨⟨u, by rw [hv], hpo, by rw [ht, hu]; exact hP, by rw [hu]; exact hD⟩, hS.F ht⟩) hS.2.2 hdg hlocks)
theorem g_endQa {x : Value} {rt : FieldType} (hexec : p.tables.exec = Jvm.exec) (hb : c.code = cc) (hr : meth.sig.returnType = some rt) (hrt : (∃ n, rt = .object n) ∨ ∃ t, rt = .array t) (hx : x = .null ∨ ∃ a, x = .ref a) (hlocks : meth.locks = false) (hP : va_P D vwCl w H) (hD : va_D A w) (hS : va_S A s.heap H locs) (hdg : decode cc pc = .ok (.areturn, 1)) (u : S) (hu : w1 u = w) (hv : v u = some x) (hpo : post u) (hc : cells ≤ mc) (hs : slots ≤ ms) : W p l e R s m args below meth c H locs cells slots (MQ below (gQ D v post w1 A) args s mc ms A) (F0 m pc ls [x]) :=
  W.widen hc hs (W.aret hexec hb hr hrt hx (fun t ht _ => ⟨⟨u, by rw [hv], hpo, by rw [ht, hu]; exact hP, by rw [hu]; exact hD⟩, hS.F ht⟩) hS.2.2 hdg hlocks)
theorem g_endQv (hexec : p.tables.exec = Jvm.exec) (hb : c.code = cc) (hr : meth.sig.returnType = none) (hlocks : meth.locks = false) (hP : va_P D vwCl w H) (hD : va_D A w) (hS : va_S A s.heap H locs) (hdg : decode cc pc = .ok (.return_, 1)) (u : S) (hu : w1 u = w) (hv : v u = none) (hpo : post u) (hc : cells ≤ mc) (hs : slots ≤ ms) : W p l e R s m args below meth c H locs cells slots (MQ below (gQ D v post w1 A) args s mc ms A) (F0 m pc ls []) :=
  W.widen hc hs (W.vret hexec hb hr (fun t ht _ => ⟨⟨u, by rw [hv], hpo, by rw [ht, hu]; exact hP, by rw [hu]; exact hD⟩, hS.F ht⟩) hS.2.2 hdg hlocks)
/-- reads beside its world -/
theorem g_ofRX {sz : Nat} {v : Option Value} (hy : plainName y.cls = true) (hw : ws = Cond.code y cc maxL ret :: ws') (hlen : (lg_sl av).length ≤ maxL) (body : ∀ (p : Program) (e : Env) (s : State) (m : MethodId) (below : List Frame) (meth : Method) (c : Code) (ls : Array Slot), p.tables.exec = Jvm.exec → c.code = cc → meth.sig.returnType = ret → c.maxLocals = maxL → (∀ w ∈ ws, w.before av.toArray s = true) → s.vm.findClass y.cls = some m.cls → meth.locks = false → va_P D vwCl wc s.heap → va_K D vwCl tys s → lv_has ls maxL (lv_args 0 av) → ∀ A : Nat → Prop, va_D A wc → va_S A s.heap s.heap [] → X A s.heap s → W p l e rm s m av.toArray below meth c s.heap [] 0 0 (MQ below (gR v) av.toArray s mc ms (fun _ => False)) (F0 m 0 ls [])) : Met l y ws rm (va_Pc av (gBX X D tys wc sz)) (gR v) mc ms (fun _ => False) := by
  refine Met.ofW (cc := cc) (maxL := maxL) (ret := ret) hy hw ?_
  intro p e s m args below meth c s₁ B hml hv
  obtain ⟨rfl, ⟨hsz, hP, hK, hD0⟩, hX⟩ := hv
  rw [lg_entry_eq]
  exact body p e s m below meth c _ B.exec B.bytes B.returns hml (atoms_spec (ws := ws) B.pre) (findClass_of_methodNamed B.named) B.notSynchronized hP hK (lv_entry av hlen) _ hD0.self va_S.rf hX
theorem g_RXSi {r : Int32} (hXs : stX X) (S9 : CallFix p m c cc nL s args Ts own) (hM9 : Met l y ws rm (va_Pc As (gBX X D tys wc H.size)) (gR (some (.int r))) 0 0 (fun _ => False)) (cw : CallB R s args own index y bytes maxL ret ws rm 0 0 n ∧ (Cond.static y).before args s = true) (hP : va_P D vwCl w H) (hKc : va_K D vwCl tys s) (hD : va_D A0 w) (hS : va_S A0 H0 H locs) (hA : ∀ q, H0.size ≤ q → A0 q) (hX : X A0 H0 s) (isC : List Nat) (hn : va_nd isC = true) (hC : isC.map (fun i => w[i]?) = wc.map some) (hlen : As.length = n) (hls : ls.size = nL) (hst : st0 = As.reverse ++ rest) (hroom : (rest.map fun v => v.category).sum ≤ 8) (hdg : decode cc pc = .ok (.invokestatic index, 3)) (hc : cells ≤ R.cells) (hs : slots ≤ R.slots)
    (kk : W p l e R s m args below meth c H locs cells slots Q (F0 m (pc + 3) ls (.int r :: rest))) : W p l e R s m args below meth c H locs cells slots Q (F0 m pc ls st0) :=
  g_keepR (v := some (.int r)) (W.runS S9 hM9 cw ⟨g_blindX hXs, g_preX hXs hP hKc hD hS hA hX isC hn hC⟩ rfl hlen hls hst (lv_room hroom) hdg ⟨hc, hs⟩) kk
/-- an array out of an array of arrays -/
theorem va_ald2 {t : FieldType} {a : Nat} (hexec : p.tables.exec = Jvm.exec) (hb : c.code = cc) (hK : va_K D cl tys s) (hP : va_P D cl w H) (q0 t0 : Nat) {cA : ClassId} {n : Nat} {f : Nat → Option Nat} (ha : w[q0]? = some (a, .inl (cA, n, .inr (.inr (.inr (.inr f)))))) (ht : tys[t0]? = some (cA, .array t)) {i : Int32} (hin : vp_in i n) (hdg : decode cc pc = .ok (.aaload, 1))
    (kk : W p l e R s m args below meth c H locs cells slots Q (F0 m (pc + 1) ls (va_rf (f i.toNatClampNeg) :: rest))) : W p l e R s m args below meth c H locs cells slots Q (F0 m pc ls (.int i :: .ref a :: rest)) := by
  have hlt : i.toNatClampNeg < n := Nat.not_le.mp fun q => hin (Or.inr q)
  exact W.aald (v := va_rf (f i.toNatClampNeg)) (ty := .array t) hexec hb (hP q0 _ ha) ((hK.2 t0 _ ht).1 n (fun j => va_rf (f j))) rfl (fun q => by cases q) (by show ¬ (i < 0 ∨ (arrV _ _ _).slots.size ≤ _); rw [arrV_size]; exact hin) (by show (arrV _ _ _).slots[_]? = _; rw [arrV_read _ _ hlt]) rfl rfl hdg kk
/-- new int[n][] and the like -/
theorem va_new2 {t : FieldType} (hexec : p.tables.exec = Jvm.exec) (hb : c.code = cc) (hown : s.vm.findClass own = some m.cls) (hclink : (Cond.classLink own index (FieldType.array t).toString).before args s = true) (hover : (Cond.arrayOver (.array t)).before args s = true) (hK : va_K D cl tys s) (hP : va_P D cl w H) (hD : va_D A w) (hS : va_S A H0 H locs) (hA : ∀ q, H0.size ≤ q → A q)
    {k : Int32} {N' : Nat} (hn : ¬ k < 0) (hN : k.toNatClampNeg = N') (hbytes : N' * 4 ≤ 536870912) (hcells : cells + 1 ≤ R.cells) (hslots : slots + N' ≤ R.slots) (hdg : decode cc pc = .ok (.anewarray index, 3))
    (kk : ∀ (q : Nat) (cA : ClassId) (H1 : Heap), va_K D cl (tys ++ [(cA, .array t)]) s → va_P D cl (w ++ [(q, .inl (cA, N', .inr (.inr (.inr (.inr (fun _ => none))))))]) H1 → va_D A (w ++ [(q, .inl (cA, N', .inr (.inr (.inr (.inr (fun _ => none))))))]) → va_S A H0 H1 locs →
      W p l e R s m args below meth c H1 locs (cells + 1) (slots + N') Q (F0 m (pc + 3) ls (.ref q :: rest))) : W p l e R s m args below meth c H locs cells slots Q (F0 m pc ls (.int k :: rest)) := by
  subst hN
  refine W.anewA hexec hb hown hclink hover rfl hdg rfl hn hbytes hcells hslots fun cA kA comp f1 f2 f3 f4 => ?_
  generalize hH1 : H.push ({ cls := cA, slots := Array.replicate k.toNatClampNeg .null, vm := .none } : Cell) = H1
  have z1 : H1.size = H.size + 1 := by rw [← hH1, Array.size_push]
  have e1 : H1[H.size]? = some (arrV cA k.toNatClampNeg (fun _ => .null)) := by rw [← hH1, Array.getElem?_push_size, ← arrV_new]
  have o1 : ∀ q : Nat, q < H.size → H1[q]? = H[q]? := fun q hq => by rw [← hH1, Array.getElem?_push, if_neg (Nat.ne_of_lt hq)]
  have hAr : ArrOfT s cA (.array t) := fun N z => ⟨(fun k h => by cases h), kA, f2, comp, f3⟩
  have hk : ∀ (k : Nat) (x : Nat × va_E), w[k]? = some x → H1[x.1]? = H[x.1]? := fun k x hx => o1 x.1 ((hP k x hx).lt)
  refine kk H.size cA H1 ⟨hK.1, fun k x hx => ?_⟩ ((hP.kept hk).app (fun k x hx => ?_)) (hD.push hP rfl (hA _ hS.1)) ⟨Nat.le_trans hS.1 (by omega), fun x h1 h2 => (o1 x (Nat.lt_of_lt_of_le h1 hS.1)).trans (hS.2.1 x h1 h2), hS.2.2⟩
  · by_cases hl : k < tys.length
    · rw [List.getElem?_append_left hl] at hx
      exact hK.2 k x hx
    · rw [List.getElem?_append_right (by omega)] at hx
      have hz : k - tys.length < 1 := (List.getElem?_eq_some_iff.mp hx).1
      rw [show k - tys.length = 0 by omega] at hx
      cases hx
      exact ⟨hAr, f1⟩
  · have hz : k < 1 := (List.getElem?_eq_some_iff.mp hx).1
    rw [show k = 0 by omega] at hx
    cases hx
    show H1[H.size]? = some (vp_cell _ _)
    rw [vp_cell_q]
    exact e1
/-- an array into an array of arrays -/
theorem va_ast2 {t : FieldType} {a : Nat} (hexec : p.tables.exec = Jvm.exec) (hb : c.code = cc) (hP : va_P D cl w H) (hD : va_D A w) (hS : va_S A H0 H locs) (q0 qk : Nat) {cA cE : ClassId} {n y0 : Nat} {z : vp_A} {f : Nat → Option Nat} (ha : w[q0]? = some (a, .inl (cA, n, .inr (.inr (.inr (.inr f)))))) (hv : w[qk]? = some (y0, .inl (cE, z))) (hk : (∃ kA, s.vm.classes[cA]? = some kA ∧ kA.kind = .array cE (.array t)) ∧ ∃ k0, s.vm.classes[cE]? = some k0) {i : Int32} (hin : vp_in i n) (hdg : decode cc pc = .ok (.aastore, 1))
    (kk : ∀ (H1 : Heap) (locs1 : List Loc), va_P D cl (w.set q0 (a, .inl (cA, n, .inr (.inr (.inr (.inr (va_up f i.toNatClampNeg (some y0)))))))) H1 → va_D A (w.set q0 (a, .inl (cA, n, .inr (.inr (.inr (.inr (va_up f i.toNatClampNeg (some y0)))))))) → va_S A H0 H1 locs1 → W p l e R s m args below meth c H1 locs1 cells slots Q (F0 m (pc + 1) ls rest)) : W p l e R s m args below meth c H locs cells slots Q (F0 m pc ls (.ref y0 :: .int i :: .ref a :: rest)) := by
  have hlt : i.toNatClampNeg < n := Nat.not_le.mp fun q => hin (Or.inr q)
  have h0 : ¬ i < 0 := fun q => hin (Or.inl q)
  obtain ⟨⟨kA, k1, k2⟩, k0, hk0⟩ := hk
  have g1 : H[y0]? = some (vp_cell cE z) := hP qk _ hv
  obtain ⟨g2, g3⟩ := vpc_cls cE z
  refine W.aast hexec hb (hP q0 _ ha) (fun q h => by cases h) (fun h => by cases h) k1 k2 rfl hk0 ⟨h0, by show _ < (arrV _ _ _).slots.size; rw [arrV_size]; exact hlt⟩ g1 (fun q h => by rw [g3] at h; cases h) (by rw [g2]; exact hk0) (by rw [g2]; exact aa_assign cE) rfl rfl hdg fun H1 e z oq => ?_
  refine kk H1 _ (hP.set hD ha ?_ oq) (hD.set ha) (hS.put z oq (hD.2 q0 _ ha))
  show H1[a]? = some (vp_cell _ _)
  rw [e]
  rw [vp_cell_q, vp_cell_q, arrV_store]
  congr 2
  funext q
  by_cases hq : q = i.toNatClampNeg
  · subst hq
    simp [updV, va_up, va_rf]
  · simp [updV, va_up, hq]
end GQ
