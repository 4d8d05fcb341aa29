/-! 75: arrays of arrays of arrays -/
section M3
/-- where the i-th array of rows lies -/
def m3_ad (h0 M i : Nat) : Nat := h0 + 1 + i * (1 + M)
theorem m3_ad1 (h0 M i : Nat) : m3_ad h0 M (i + 1) = m3_ad h0 M i + 1 + M := by unfold m3_ad; rw [Nat.succ_mul]; omega
theorem m3_adle (h0 M : Nat) {i j : Nat} (h : j < i) : m3_ad h0 M j + 1 + M ≤ m3_ad h0 M i := by
  have := Nat.mul_le_mul_right (1 + M) (show j + 1 ≤ i from h)
  unfold m3_ad
  rw [Nat.succ_mul] at this
  omega
theorem m3_adh (h0 M i : Nat) : h0 < m3_ad h0 M i := by
  unfold m3_ad
  have := Nat.zero_le (i * (1 + M))
  omega
def m3_o (c : ClassId) (N M h0 : Nat) : Nat → Cell
  | 0 => { cls := c, slots := Array.replicate N .null, vm := .none }
  | i + 1 => (m3_o c N M h0 i).setSlot i (.ref (m3_ad h0 M i))
def m3_f (s : State) (c cc comp : ClassId) (N M K : Nat) (dv : Value) : Nat → State
  | 0 => s.pushCell (m3_o c N M s.heap.size 0)
  | i + 1 => (Jvm.Free.Multi.fill (m3_f s c cc comp N M K dv i) cc comp M K dv M).setCell s.heap.size (m3_o c N M s.heap.size (i + 1))
theorem m3_of (c : ClassId) (N M h0 : Nat) : ∀ i, (m3_o c N M h0 i).cls = c ∧ (m3_o c N M h0 i).vm = .none ∧ (m3_o c N M h0 i).slots.size = N
  | 0 => ⟨rfl, rfl, by simp [m3_o]⟩
  | i + 1 => by
    obtain ⟨a, b, d⟩ := m3_of c N M h0 i
    exact ⟨by simp [m3_o, Cell.setSlot, a], by simp [m3_o, Cell.setSlot, b], by simp [m3_o, Cell.setSlot, d]⟩
theorem m3_facts (s : State) (c cc comp : ClassId) (N M K : Nat) (dv : Value) : ∀ i, (m3_f s c cc comp N M K dv i).heap.size = m3_ad s.heap.size M i ∧ (m3_f s c cc comp N M K dv i).heap[s.heap.size]? = some (m3_o c N M s.heap.size i) ∧ (m3_f s c cc comp N M K dv i).vm = s.vm ∧ (m3_f s c cc comp N M K dv i).slotsUsed = s.slotsUsed + N + i * (M + M * K)
  | 0 => ⟨by simp [m3_f, m3_ad], by simp [m3_f], rfl, by simp [m3_f, m3_o]⟩
  | i + 1 => by
    obtain ⟨a, b, d, u⟩ := m3_facts s c cc comp N M K dv i
    obtain ⟨fa, fb, fd, fu⟩ := Jvm.Free.Multi.fill_facts (m3_f s c cc comp N M K dv i) cc comp M K dv M
    have hlt : s.heap.size < (m3_f s c cc comp N M K dv i).heap.size := by rw [a]; exact m3_adh _ _ _
    have hb' : (Jvm.Free.Multi.fill (m3_f s c cc comp N M K dv i) cc comp M K dv M).heap[s.heap.size]? = some (m3_o c N M s.heap.size i) := by rw [Jvm.Free.Multi.fill_old (ha := hlt)]; exact b
    refine ⟨?_, State.heap_setCell_self hb', by simp [m3_f, fd, d], ?_⟩
    · rw [m3_ad1]
      simp [m3_f, State.setCell, fa, a]
    · simp [m3_f, fu, u, Nat.succ_mul]; omega
theorem m3_setTop (s : State) (f : JFrame) (c cc comp : ClassId) (N M K : Nat) (dv : Value) : ∀ i, m3_f (s.setTop f) c cc comp N M K dv i = (m3_f s c cc comp N M K dv i).setTop f
  | 0 => rfl
  | i + 1 => by simp only [m3_f, m3_setTop s f c cc comp N M K dv i, Jvm.Free.Multi.fill_setTop, State.heap_setTop, State.setCell_setTop]
theorem m3_old (s : State) (c cc comp : ClassId) (N M K : Nat) (dv : Value) {a : Addr} (ha : a < s.heap.size) : ∀ i, (m3_f s c cc comp N M K dv i).heap[a]? = s.heap[a]?
  | 0 => State.heap_pushCell_of_lt _ _ ha
  | i + 1 => by
    have f1 := (m3_facts s c cc comp N M K dv i).1
    have hlt : a < (m3_f s c cc comp N M K dv i).heap.size := by rw [f1]; exact Nat.lt_trans ha (m3_adh _ _ _)
    show (State.setCell (Jvm.Free.Multi.fill (m3_f s c cc comp N M K dv i) cc comp M K dv M) s.heap.size _).heap[a]? = _
    rw [State.heap_setCell_other (Nat.ne_of_gt ha), Jvm.Free.Multi.fill_old (ha := hlt)]
    exact m3_old s c cc comp N M K dv ha i
theorem m3_in (s : State) (c cc comp : ClassId) (N M K : Nat) (dv : Value) : ∀ i j, j < i → (m3_f s c cc comp N M K dv i).heap[m3_ad s.heap.size M j]? = some (Jvm.Free.Multi.outerC cc M (m3_ad s.heap.size M j) M) ∧ ∀ r, r < M → (m3_f s c cc comp N M K dv i).heap[m3_ad s.heap.size M j + 1 + r]? = some (Jvm.Free.Multi.innerC comp K dv)
  | 0, _, h => absurd h (Nat.not_lt_zero _)
  | i + 1, j, h => by
    have f1 := (m3_facts s c cc comp N M K dv i).1
    obtain ⟨fa, fb, fd, fu⟩ := Jvm.Free.Multi.fill_facts (m3_f s c cc comp N M K dv i) cc comp M K dv M
    have hh := m3_adh s.heap.size M j
    have hx : ∀ a, s.heap.size < a → (m3_f s c cc comp N M K dv (i + 1)).heap[a]? = (Jvm.Free.Multi.fill (m3_f s c cc comp N M K dv i) cc comp M K dv M).heap[a]? := fun a ha => State.heap_setCell_other (Nat.ne_of_lt ha)
    rcases Nat.lt_or_ge j i with hj | hj
    · have hle := m3_adle s.heap.size M hj
      have l1 : m3_ad s.heap.size M j < m3_ad s.heap.size M i := by omega
      obtain ⟨i1, i2⟩ := m3_in s c cc comp N M K dv i j hj
      refine ⟨?_, fun r hr => ?_⟩
      · rw [hx _ hh, Jvm.Free.Multi.fill_old (ha := by rw [f1]; exact l1)]; exact i1
      · have l2 : m3_ad s.heap.size M j + 1 + r < m3_ad s.heap.size M i := by omega
        have l3 : s.heap.size < m3_ad s.heap.size M j + 1 + r := by omega
        rw [hx _ l3, Jvm.Free.Multi.fill_old (ha := by rw [f1]; exact l2)]; exact i2 r hr
    · have e : j = i := by omega
      subst e
      refine ⟨?_, fun r hr => ?_⟩
      · rw [hx _ hh, ← f1]; exact fb
      · rw [hx _ (by omega), ← f1]; exact Jvm.Free.Multi.fill_inner _ cc comp M K dv M r hr
theorem arrV_congr {c : ClassId} {N : Nat} {f g : Nat → Value} (h : ∀ j, j < N → f j = g j) : arrV c N f = arrV c N g := by
  unfold arrV
  have e : (fun j : Fin N => f j.val) = (fun j : Fin N => g j.val) := funext fun j => h j.val j.isLt
  rw [e]
theorem m3_oeq (c : ClassId) (N M h0 : Nat) : ∀ i, m3_o c N M h0 i = arrV c N (fun j => if j < i then .ref (m3_ad h0 M j) else .null)
  | 0 => by
    show ({ cls := c, slots := Array.replicate N .null, vm := .none } : Cell) = _
    rw [arrV_new]
    exact arrV_congr fun j _ => by rw [if_neg (Nat.not_lt_zero j)]
  | i + 1 => by
    show (m3_o c N M h0 i).setSlot i (.ref (m3_ad h0 M i)) = _
    rw [m3_oeq c N M h0 i, arrV_store]
    refine arrV_congr fun j _ => ?_
    by_cases e : j = i
    · subst e; rw [if_pos (Nat.lt_succ_self _)]; simp [updV]
    · by_cases h : j < i
      · rw [if_pos (Nat.lt_succ_of_lt h)]; simp [updV, e, h]
      · rw [if_neg (by omega)]; simp [updV, e, h]
theorem m3_oceq (c : ClassId) (N h0 : Nat) : ∀ i, Jvm.Free.Multi.outerC c N h0 i = arrV c N (fun j => if j < i then .ref (h0 + 1 + j) else .null)
  | 0 => by
    show ({ cls := c, slots := Array.replicate N .null, vm := .none } : Cell) = _
    rw [arrV_new]
    exact arrV_congr fun j _ => by rw [if_neg (Nat.not_lt_zero j)]
  | i + 1 => by
    show (Jvm.Free.Multi.outerC c N h0 i).setSlot i (.ref (h0 + 1 + i)) = _
    rw [m3_oceq c N h0 i, arrV_store]
    refine arrV_congr fun j _ => ?_
    by_cases e : j = i
    · subst e; rw [if_pos (Nat.lt_succ_self _)]; simp [updV]
    · by_cases h : j < i
      · rw [if_pos (Nat.lt_succ_of_lt h)]; simp [updV, e, h]
      · rw [if_neg (by omega)]; simp [updV, e, h]
theorem m3_iceq (c : ClassId) (K : Nat) (dv : Value) : Jvm.Free.Multi.innerC c K dv = arrV c K (fun _ => dv) := arrV_new _ _ _
section
variable {p : Program} {l : Launch} {e : Env} {R : Room} {s : State} {m : MethodId} {args : Array Value} {below : List Frame} {meth : Method} {c : Code} {T : State} {locs : List Loc} {cells slots : Nat}
theorem m3_filled2 (X : Stand p l e R s m args below meth c T locs cells slots) (cA comp : ClassId) (M K : Nat) (dv : Value) : Stand p l e R s m args below meth c (Jvm.Free.Multi.fill T cA comp M K dv M) locs (cells + 1 + M) (slots + M + M * K) :=
  (X.filled cA comp M K dv M).dropFresh (fun x hx => by obtain ⟨j, -, rfl⟩ := List.mem_map.mp hx; exact X.heapGrown)
theorem m3_filled (X : Stand p l e R s m args below meth c T locs cells slots) (c3 c2 c1 : ClassId) (N M K : Nat) (dv : Value) : ∀ i, Stand p l e R s m args below meth c (m3_f T c3 c2 c1 N M K dv i) locs (cells + 1 + i * (1 + M)) (slots + N + i * (M + M * K))
  | 0 => by
    have h := X.pushed (m3_o c3 N M T.heap.size 0)
    rw [(m3_of c3 N M T.heap.size 0).2.2] at h
    simpa [m3_f] using h
  | i + 1 => by
    have Xi := m3_filled X c3 c2 c1 N M K dv i
    have Xf := m3_filled2 Xi c2 c1 M K dv
    obtain ⟨f1, f2, f3, f4⟩ := m3_facts T c3 c2 c1 N M K dv i
    have hlt0 : T.heap.size < (m3_f T c3 c2 c1 N M K dv i).heap.size := by rw [f1]; exact m3_adh _ _ _
    have hcell : (Jvm.Free.Multi.fill (m3_f T c3 c2 c1 N M K dv i) c2 c1 M K dv M).heap[T.heap.size]? = some (m3_o c3 N M T.heap.size i) := by rw [Jvm.Free.Multi.fill_old (ha := hlt0)]; exact f2
    have h := (Xf.stored hcell i (.ref (m3_ad T.heap.size M i))).dropFresh (fun x hx => by obtain rfl := List.mem_singleton.mp hx; exact X.heapGrown)
    have e1 : cells + 1 + (i + 1) * (1 + M) = cells + 1 + i * (1 + M) + 1 + M := by rw [Nat.succ_mul]; omega
    have e2 : slots + N + (i + 1) * (M + M * K) = slots + N + i * (M + M * K) + M + M * K := by rw [Nat.succ_mul]; omega
    rw [e1, e2]
    exact h
end
section
variable {E : CtlPost} {e : Env} {d : Bool} {acts : List Action} {s : State}
theorem m3_make {c cc comp c1 : ClassId} {k kc kd : Class} {t0 t1 type : FieldType} {n m q : Int32} (hk : s.vm.classes[c]? = some k) (hkind : k.kind = .array cc t0) (href : t0.isReference = true) (hk1 : s.vm.classes[cc]? = some kc) (hkind1 : kc.kind = .array comp t1) (href1 : t1.isReference = true) (hk2 : s.vm.classes[comp]? = some kd) (hkind2 : kd.kind = .array c1 type) (hn : ¬ n < 0) (hm : ¬ m < 0) (hq : ¬ q < 0)
    (hl0 : ¬ n.toNatClampNeg > e.platform.arrayLengthLimit) (hh0 : ¬ n.toNatClampNeg * componentBytes t0 > e.platform.maxHeapBytes) (hl1 : ¬ m.toNatClampNeg > e.platform.arrayLengthLimit) (hh1 : ¬ m.toNatClampNeg * componentBytes t1 > e.platform.maxHeapBytes)
    (hl2 : ¬ q.toNatClampNeg > e.platform.arrayLengthLimit) (hh2 : ¬ q.toNatClampNeg * componentBytes type > e.platform.maxHeapBytes)
    (hdf : fits type (defaultValue type) = true) (hdd : (defaultValue type).isDefault = true)
    (hc : s.heap.size + 1 + n.toNatClampNeg * (1 + m.toNatClampNeg) ≤ e.platform.maxCells) (hs : s.slotsUsed + n.toNatClampNeg + n.toNatClampNeg * (m.toNatClampNeg + m.toNatClampNeg * q.toNatClampNeg) ≤ e.platform.maxSlots)
    {Q : Addr → Pre} (hqq : ∀ d' acts', Q s.heap.size d' acts' (m3_f s c cc comp n.toNatClampNeg m.toNatClampNeg q.toNatClampNeg (defaultValue type) n.toNatClampNeg)) :
    wp (multianewarray.make c [n, m, q]) Q E e d acts s := by
  have hfind : ([m, q].find? (· < 0)) = none := by simp [hm, hq]
  rw [multianewarray.make]
  simp only [wp_bind', W.ite, hn, if_false, wp_pure', W.theClass, hk, hkind, Option.some.injEq, exists_eq_left']
  refine Jvm.Free.Multi.wp_newArray hk hkind hl0 hh0 (Jvm.Free.Multi.refFits href _ (Or.inl rfl)) rfl (by omega) (by have := Nat.zero_le (n.toNatClampNeg * (m.toNatClampNeg + m.toNatClampNeg * q.toNatClampNeg)); omega) ?_
  simp only [hfind]
  rw [ite_self, wp_bind', Std.Legacy.Range.forIn_eq_forIn_range']
  have hsz : ([:n.toNatClampNeg] : Std.Legacy.Range).size = n.toNatClampNeg := by simp [Std.Legacy.Range.size]
  rw [hsz]
  show wp (forIn (List.range' 0 n.toNatClampNeg 1) PUnit.unit _) _ E e d acts _
  refine wp_forIn_inv (fun rest s' => ∃ i, i ≤ n.toNatClampNeg ∧ rest = List.range' i (n.toNatClampNeg - i) ∧ s' = m3_f s c cc comp n.toNatClampNeg m.toNatClampNeg q.toNatClampNeg (defaultValue type) i) _ _ ⟨0, Nat.zero_le _, rfl, rfl⟩ ?_ ?_
  · rintro x rest s' d' acts' Q' ⟨i, hi, hl, rfl⟩ hnext
    have hlt : i < n.toNatClampNeg := by
      rcases Nat.lt_or_ge i n.toNatClampNeg with h | h
      · exact h
      · rw [show n.toNatClampNeg - i = 0 from by omega] at hl; simp at hl
    obtain ⟨rfl, hrest⟩ : x = i ∧ rest = List.range' (i + 1) (n.toNatClampNeg - (i + 1)) := by
      rw [show n.toNatClampNeg - i = (n.toNatClampNeg - (i + 1)) + 1 from by omega, List.range'_succ] at hl
      exact ⟨(List.cons.inj hl).1, (List.cons.inj hl).2⟩
    obtain ⟨f1, f2, f3, f4⟩ := m3_facts s c cc comp n.toNatClampNeg m.toNatClampNeg q.toNatClampNeg (defaultValue type) x
    obtain ⟨o1, o2, o3⟩ := m3_of c n.toNatClampNeg m.toNatClampNeg s.heap.size x
    have hmul := Nat.mul_le_mul_right (m.toNatClampNeg + m.toNatClampNeg * q.toNatClampNeg) (show x + 1 ≤ n.toNatClampNeg from hlt)
    rw [Nat.succ_mul] at hmul
    have hmul2 := Nat.mul_le_mul_right (1 + m.toNatClampNeg) (show x + 1 ≤ n.toNatClampNeg from hlt)
    rw [Nat.succ_mul] at hmul2
    simp only [wp_bind']
    refine Jvm.Free.Multi.wp_make2 (by rw [f3]; exact hk1) hkind1 href1 (by rw [f3]; exact hk2) hkind2 hm hq hl1 hh1 hl2 hh2 hdf hdd (by rw [f1]; unfold m3_ad; omega) (by rw [f4]; omega) ?_
    intro d2 acts2
    have hlt0 : s.heap.size < (m3_f s c cc comp n.toNatClampNeg m.toNatClampNeg q.toNatClampNeg (defaultValue type) x).heap.size := by rw [f1]; exact m3_adh _ _ _
    obtain ⟨g1, g2, g3, g4⟩ := Jvm.Free.Multi.fill_facts (m3_f s c cc comp n.toNatClampNeg m.toNatClampNeg q.toNatClampNeg (defaultValue type) x) cc comp m.toNatClampNeg q.toNatClampNeg (defaultValue type) m.toNatClampNeg
    simp only [wp_bind', W.writeLoc, wp_pure']
    refine ⟨m3_o c n.toNatClampNeg m.toNatClampNeg s.heap.size x, by rw [Jvm.Free.Multi.fill_old (ha := hlt0)]; exact f2, by rw [o2]; simp, by rw [o3]; exact hlt, ?_, hnext _ _ _ ⟨x + 1, hlt, hrest, ?_⟩⟩
    · rw [o1, o2]
      simp [State.fitsSlot, State.slotType?, g3, f3, hk, hkind, Jvm.Free.Multi.refFits href _ (Or.inr ⟨_, rfl⟩)]
    · rw [f1]; rfl
  · rintro s' d' acts' ⟨i, hi, hl, rfl⟩
    have hiN : i = n.toNatClampNeg := by
      rcases Nat.lt_or_ge i n.toNatClampNeg with h | h
      · rw [show n.toNatClampNeg - i = (n.toNatClampNeg - (i + 1)) + 1 from by omega, List.range'_succ] at hl; cases hl
      · omega
    subst hiN
    simp only [wp_pure']
    exact hqq _ _
end
theorem m3_n1 : (FieldType.array .int).toString = "[I" := by first | rfl | decide +kernel
theorem m3_n0 : "[" ++ FieldType.int.toString = "[I" := by first | rfl | decide +kernel
theorem m3_n3 : "[" ++ "[I" = "[[I" := by first | rfl | decide +kernel
theorem m3_n4 : "[" ++ "[[I" = "[[[I" := by first | rfl | decide +kernel
theorem m3_n2 : (FieldType.array (.array .int)).toString = "[[I" := by first | rfl | decide +kernel
section
variable {p : Program} {l : Launch} {e : Env} {R : Room} {s : State} {m : MethodId} {args : Array Value} {below : List Frame} {meth : Method} {c : Code} {T : State} {locs : List Loc} {cells slots : Nat} {H : Heap} {Q : State → Prop}
theorem m3_W {cc : ByteArray} (hexec : p.tables.exec = Jvm.exec) (hb : c.code = cc) {own : String} {index : Nat} (hown : s.vm.findClass own = some m.cls) (hclink : (Cond.classLink own index "[[[I").before args s = true) (hov3 : (Cond.arrayOver (.array (.array .int))).before args s = true) (hov2 : (Cond.arrayOver (.array .int)).before args s = true) (harr : (Cond.arrayClass .int).before args s = true)
    {g : JFrame} (hg : g.method = m) (hdg : decode cc g.pc = .ok (.multianewarray index 3, 4)) {n k q : Int32} {rest : List Value} (hstack : g.stack = .int q :: .int k :: .int n :: rest) (hn : ¬ n < 0) (hk : ¬ k < 0) (hq : ¬ q < 0) (hbn : n.toNatClampNeg ≤ 1000) (hbk : k.toNatClampNeg ≤ 1000) (hbq : q.toNatClampNeg ≤ 1000)
    (hcells : cells + (1 + n.toNatClampNeg * (1 + k.toNatClampNeg)) ≤ R.cells) (hslots : slots + (n.toNatClampNeg + n.toNatClampNeg * (k.toNatClampNeg + k.toNatClampNeg * q.toNatClampNeg)) ≤ R.slots)
    (kk : ∀ (vm₁ : Vm) (T : State) (c3 c2 c1 : ClassId), T.heap = H → s.vm.findClass "[[[I" = some c3 → s.vm.findClass "[[I" = some c2 → s.vm.findClass "[I" = some c1 →
      W p l e R s m args below meth c (m3_f (T.setVm vm₁) c3 c2 c1 n.toNatClampNeg k.toNatClampNeg q.toNatClampNeg (.int 0) n.toNatClampNeg).heap locs (cells + (1 + n.toNatClampNeg * (1 + k.toNatClampNeg))) (slots + (n.toNatClampNeg + n.toNatClampNeg * (k.toNatClampNeg + k.toNatClampNeg * q.toNatClampNeg))) Q { g with pc := g.pc + 4, stack := .ref H.size :: rest }) : W p l e R s m args below meth c H locs cells slots Q g := by
  intro T hT X
  subst hT; subst hb; subst hg
  have hpl : e.platform.magicAccessors = ({} : Platform).magicAccessors := by rw [X.admits.platform]
  obtain ⟨c2, c3, k3, hc2, hk3, hkind3, hname3⟩ := Cond.arrayOver_specA hov3
  obtain ⟨c1, c2', k2, hc1, hk2, hkind2, hname2⟩ := Cond.arrayOver_specA hov2
  obtain ⟨c1', k1, c0, hc1', hk1, hkind1⟩ := Cond.arrayClass_spec harr
  rw [m3_n2] at hc2 hname3
  rw [m3_n4] at hname3
  rw [m3_n1] at hc1 hname2
  rw [m3_n3] at hname2
  have e2 : c2' = c2 := Option.some.inj (hname2.symm.trans hc2)
  subst e2
  have e1 : c1' = c1 := Option.some.inj (hc1'.symm.trans (by rw [m3_n0]; exact hc1))
  subst e1
  obtain ⟨c3', hfc3, hcl⟩ := Cond.classLink_spec hown hclink e.platform hpl
  have e3 : c3' = c3 := Option.some.inj (hfc3.symm.trans hname3)
  subst e3
  obtain ⟨hg₁, hwarm₁, hready₁⟩ := State.classEntry (e := e) X.warmed hcl
  generalize T.vm.noted g.method.cls index (.cls c3') = vm₁ at hg₁ hwarm₁ hready₁
  have hal : s.vm.Alike vm₁ := hwarm₁.alike
  obtain ⟨k3₁, hk3₁, he3⟩ := hal.2.2 _ _ hk3
  obtain ⟨k2₁, hk2₁, he2⟩ := hal.2.2 _ _ hk2
  obtain ⟨k1₁, hk1₁, he1⟩ := hal.2.2 _ _ hk1
  have hkind3₁ : k3₁.kind = .array c2' (.array (.array .int)) := by rw [he3]; exact hkind3
  have hkind2₁ : k2₁.kind = .array c1' (.array .int) := by rw [he2]; exact hkind2
  have hkind1₁ : k1₁.kind = .array c0 .int := by rw [he1]; exact hkind1
  have X₁ := X.noted hwarm₁
  obtain ⟨hr1, hr2⟩ := X.roomAbove hcells hslots
  have XF := m3_filled X₁ c3' c2' c1' n.toNatClampNeg k.toNatClampNeg q.toNatClampNeg (defaultValue .int) n.toNatClampNeg
  have hal1 := Launch.admits_arrayLengthLimit X.admits
  have hal2 := Launch.admits_maxHeapBytes X.admits
  have hl1 : ¬ n.toNatClampNeg > e.platform.arrayLengthLimit := by rw [hal1]; omega
  have hl2 : ¬ k.toNatClampNeg > e.platform.arrayLengthLimit := by rw [hal1]; omega
  have hl3 : ¬ q.toNatClampNeg > e.platform.arrayLengthLimit := by rw [hal1]; omega
  have hh1 : ¬ n.toNatClampNeg * componentBytes (.array (.array .int)) > e.platform.maxHeapBytes := by rw [hal2]; show ¬ n.toNatClampNeg * 4 > 536870912; omega
  have hh2 : ¬ k.toNatClampNeg * componentBytes (.array .int) > e.platform.maxHeapBytes := by rw [hal2]; show ¬ k.toNatClampNeg * 4 > 536870912; omega
  have hh3 : ¬ q.toNatClampNeg * componentBytes .int > e.platform.maxHeapBytes := by rw [hal2]; show ¬ q.toNatClampNeg * 4 > 536870912; omega
  obtain ⟨t', a1, b1⟩ := kk vm₁ T c3' c2' c1' rfl hname3 hc2 hc1 _ rfl (by rw [← Nat.add_assoc, ← Nat.add_assoc]; exact XF)
  refine ⟨t', ?_, b1⟩
  jvm_step X.here [hexec, hdg]
  simp only [multianewarray.sem, wp_bind', W.resolveClassAt_links (State.method?_setTop g X.here.top) hg₁]
  rw [W.popN, if_neg (by decide)]
  refine ⟨g, State.topJava?_setTop' (s := T.setVm vm₁) g X.here.top, [.int n, .int k, .int q], rest, rfl, hstack, ?_⟩
  simp only [List.mapM_cons, List.mapM_nil, wp_bind', wp_pure']
  refine m3_make (k := k3₁) (kc := k2₁) (kd := k1₁) (cc := c2') (comp := c1') (c1 := c0) (t0 := .array (.array .int)) (t1 := .array .int) (type := .int) hk3₁ hkind3₁ rfl hk2₁ hkind2₁ rfl hk1₁ hkind1₁ hn hk hq hl1 hh1 hl2 hh2 hl3 hh3 rfl rfl (by show T.heap.size + 1 + _ ≤ _; omega) (by show T.slotsUsed + _ + _ ≤ _; omega) (fun d' acts' => ?_)
  have eS : ((T.setTop g).setVm vm₁).setTop { g with stack := rest } = (T.setVm vm₁).setTop { g with stack := rest } := by
    show ((T.setVm vm₁).setTop g).setTop _ = _
    rw [State.setTop_setTop]
  rw [eS, m3_setTop]
  simp only [wp_bind', W.mark, W.pushRef, State.topJava?_setTop' _ XF.here.top, Option.some.injEq, exists_eq_left', State.setTop_setTop, State.heap_setTop]
  intro acts
  simp [jvm, XF.here.top]
  exact a1
end
end M3
