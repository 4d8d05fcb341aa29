/-! 76: rows of numbers beside the world; the arrays that the law makes; a step beside them -/
/-- rows of numbers: the i-th at R i -/
def plR (cA : ClassId) (n N : Nat) (R : Nat → Nat) (F : Nat → Nat → Int32) : va_W := (List.range N).map (fun i => (R i, .inl (cA, (n, .inl (F i)))))
theorem plR_len {cA : ClassId} {n N : Nat} {R : Nat → Nat} {F : Nat → Nat → Int32} : (plR cA n N R F).length = N := by simp [plR]
theorem plR_at {cA : ClassId} {n N : Nat} {R : Nat → Nat} {F : Nat → Nat → Int32} {i : Nat} (h : i < N) : (plR cA n N R F)[i]? = some (R i, .inl (cA, (n, .inl (F i)))) := by
  unfold plR
  rw [List.getElem?_map, List.getElem?_range h]
  rfl
theorem plR_lt {cA : ClassId} {n N : Nat} {R : Nat → Nat} {F : Nat → Nat → Int32} {i : Nat} {q : Nat × va_E} (h : (plR cA n N R F)[i]? = some q) : i < N ∧ q = (R i, .inl (cA, (n, .inl (F i)))) := by
  have hl : i < N := by
    have := (List.getElem?_eq_some_iff.mp h).1
    rw [plR_len] at this
    exact this
  rw [plR_at hl] at h
  exact ⟨hl, (Option.some.inj h).symm⟩
theorem plR_in {X : va_W} {cA : ClassId} {n N : Nat} {R : Nat → Nat} {F : Nat → Nat → Int32} {i : Nat} (h : i < N) : (X ++ plR cA n N R F)[X.length + i]? = some (R i, .inl (cA, (n, .inl (F i)))) := by
  rw [List.getElem?_append_right (Nat.le_add_right _ _), Nat.add_sub_cancel_left]
  exact plR_at h
def updF (F : Nat → Nat → Int32) (i k : Nat) (v : Int32) : Nat → Nat → Int32 := fun a => if a = i then upd (F i) k v else F a
theorem plR_set {X : va_W} {cA : ClassId} {n N : Nat} {R : Nat → Nat} {F : Nat → Nat → Int32} {i k : Nat} {v : Int32} (h : i < N) : (X ++ plR cA n N R F).set (X.length + i) (R i, .inl (cA, (n, .inl (upd (F i) k v)))) = X ++ plR cA n N R (updF F i k v) := by
  rw [List.set_append_right _ _ (Nat.le_add_right _ _), Nat.add_sub_cancel_left]
  congr 1
  apply List.ext_getElem?
  intro j
  rw [List.getElem?_set]
  by_cases e : i = j
  · subst e
    rw [if_pos rfl, plR_len, if_pos h, plR_at h]
    unfold updF
    rw [if_pos rfl]
  · rw [if_neg e]
    by_cases hj : j < N
    · rw [plR_at hj, plR_at hj]
      unfold updF
      rw [if_neg (fun q => e q.symm)]
    · rw [List.getElem?_eq_none (by rw [plR_len]; omega), List.getElem?_eq_none (by rw [plR_len]; omega)]
section PW9
variable {p : Program} {l : Launch} {e : Env} {R : Room} {s : State} {m : MethodId} {args : Array Value} {below : List Frame} {meth : Method} {c : Code} {H : Heap} {locs : List Loc} {cells slots : Nat} {Q : State → Prop}
variable {y : MethodName} {bytes cc : ByteArray} {maxL nL mc ms n index pc : Nat} {ret : Option FieldType} {ws ws' : List Cond} {rm : Room} {Ts : List Cond} {own C : String} {b : Addr} {As av rest st0 : List Value} {ls : Array Slot}
variable {D : va_G} {cl : List vw_C} {tys : List (ClassId × FieldType)} {w wc wr X pl : va_W} {A A0 : Nat → Prop} {H0 : Heap} {a : Array Value}
theorem va_pld {cA : ClassId} {N : Nat} {Rr : Nat → Nat} {F : Nat → Nat → Int32} (hexec : p.tables.exec = Jvm.exec) (hb : c.code = cc) (hK : va_K D cl tys s) (hP : va_P D cl (X ++ plR cA n N Rr F) H) (t0 : Nat) (ht : tys[t0]? = some (cA, .int)) {i k : Nat} (hi : i < N) (hk : k < n) (hn : n < 2 ^ 31) (hdg : decode cc pc = .ok (.iaload, 1))
    (kk : W p l e R s m args below meth c H locs cells slots Q (F0 m (pc + 1) ls (.int (F i k) :: rest))) : W p l e R s m args below meth c H locs cells slots Q (F0 m pc ls (.int (nI k) :: .ref (Rr i) :: rest)) :=
  va_iald hexec hb hK hP (X.length + i) t0 (plR_in hi) ht (vp_in_nI hk hn) hdg (by rw [nI_clamp (by omega)]; exact kk)
theorem va_pst {cA : ClassId} {N : Nat} {Rr : Nat → Nat} {F : Nat → Nat → Int32} (hexec : p.tables.exec = Jvm.exec) (hb : c.code = cc) (hK : va_K D cl tys s) (hP : va_P D cl (X ++ plR cA n N Rr F) H) (hD : va_D A (X ++ plR cA n N Rr F)) (hS : va_S A H0 H locs) (t0 : Nat) (ht : tys[t0]? = some (cA, .int)) {i k : Nat} {x : Int32} (hi : i < N) (hk : k < n) (hn : n < 2 ^ 31) (hdg : decode cc pc = .ok (.iastore, 1))
    (kk : ∀ (H1 : Heap) (locs1 : List Loc), va_P D cl (X ++ plR cA n N Rr (updF F i k x)) H1 → va_D A (X ++ plR cA n N Rr (updF F i k x)) → va_S A H0 H1 locs1 → W p l e R s m args below meth c H1 locs1 cells slots Q (F0 m (pc + 1) ls rest)) : W p l e R s m args below meth c H locs cells slots Q (F0 m pc ls (.int x :: .int (nI k) :: .ref (Rr i) :: rest)) :=
  va_iast hexec hb hK hP hD hS (X.length + i) t0 (plR_in hi) ht (vp_in_nI hk hn) hdg (fun H1 locs1 h1 h2 h3 => by
    rw [nI_clamp (by omega), plR_set hi] at h1 h2
    exact kk H1 locs1 h1 h2 h3)
/-- new cells behind the world -/
theorem va_more {nw : va_W} {H1 : Heap} (hP : va_P D cl w H) (hD : va_D A w) (hS : va_S A H0 H locs) (hA : ∀ q, H0.size ≤ q → A q) (hz : H.size ≤ H1.size) (ho : ∀ a : Nat, a < H.size → H1[a]? = H[a]?) (hn : ∀ (k : Nat) (q : Nat × va_E), nw[k]? = some q → va_at D cl q H1 ∧ H.size ≤ q.1) (hi : ∀ (i j : Nat) (p q : Nat × va_E), nw[i]? = some p → nw[j]? = some q → p.1 = q.1 → i = j) : va_P D cl (w ++ nw) H1 ∧ va_D A (w ++ nw) ∧ va_S A H0 H1 locs := by
  have hl : ∀ (k : Nat) (q : Nat × va_E), w[k]? = some q → q.1 < H.size := fun k q hk => (hP k q hk).lt
  refine ⟨va_P.app (hP.kept fun k q hk => ho q.1 (hl k q hk)) (fun k q hk => (hn k q hk).1), va_D.app hD ⟨hi, fun k q hk => hA _ (Nat.le_trans hS.1 (hn k q hk).2)⟩ (fun i j p q hp hq e => ?_), ⟨Nat.le_trans hS.1 hz, fun q h1 h2 => (ho q (Nat.lt_of_lt_of_le h1 hS.1)).trans (hS.2.1 q h1 h2), hS.2.2⟩⟩
  have a := hl i p hp
  have b := (hn j q hq).2
  omega
theorem w2_c0 {a b : Nat} : w2f a b 0 = some a := rfl
theorem w2_c1 {a b : Nat} : w2f a b 1 = some b := rfl
/-- new int[2][k] -/
theorem va_mk2 (hexec : p.tables.exec = Jvm.exec) (hb : c.code = cc) (hown : s.vm.findClass own = some m.cls) (hclink : (Cond.classLink own index "[[I").before args s = true) (hover : (Cond.arrayOver (.array .int)).before args s = true) (harr : (Cond.arrayClass .int).before args s = true)
    {cA cAA : ClassId} (hK : va_K D cl tys s) (t0 t1 : Nat) (h0 : tys[t0]? = some (cA, .int)) (h1 : tys[t1]? = some (cAA, .array .int)) (hP : va_P D cl w H) (hD : va_D A w) (hS : va_S A H0 H locs) (hA : ∀ q, H0.size ≤ q → A q)
    {k : Nat} (hk : k ≤ 1000) (hcells : cells + 3 ≤ R.cells) (hslots : slots + (2 + 2 * k) ≤ R.slots) (hdg : decode cc pc = .ok (.multianewarray index 2, 4))
    (kk : ∀ (q q0 q1 : Nat) (H1 : Heap), va_P D cl (w ++ [(q, .inl (cAA, (2, .inr (.inr (.inr (.inr (w2f q0 q1))))))), (q0, .inl (cA, (k, .inl (fun _ => 0)))), (q1, .inl (cA, (k, .inl (fun _ => 0))))]) H1 → va_D A (w ++ [(q, .inl (cAA, (2, .inr (.inr (.inr (.inr (w2f q0 q1))))))), (q0, .inl (cA, (k, .inl (fun _ => 0)))), (q1, .inl (cA, (k, .inl (fun _ => 0))))]) → va_S A H0 H1 locs →
      W p l e R s m args below meth c H1 locs (cells + 3) (slots + (2 + 2 * k)) Q (F0 m (pc + 4) ls (.ref q :: rest))) : W p l e R s m args below meth c H locs cells slots Q (F0 m pc ls (.int (nI k) :: .int 2 :: rest)) := by
  intro T hT Xs
  subst hT
  have e2 : (2 : Int32).toNatClampNeg = 2 := by decide
  have ek : (nI k).toNatClampNeg = k := nI_clamp (by omega)
  obtain ⟨vm₁, cA', comp, -, fA, fC, -, -, X', step⟩ := Xs.multianewarray2F hexec hown (by rw [m3_n1, m3_n3]; exact hclink) hover harr (g := F0 m pc ls (.int (nI k) :: .int 2 :: rest)) rfl (by rw [hb]; exact hdg) rfl (n := 2) (by decide) (nI_pos (by omega)) (by decide) (by rw [ek]; show k * 4 ≤ _; omega) (by rw [ek]; omega) rfl rfl (by rw [e2]; omega) (by rw [e2, ek]; exact hslots)
  have g1 : cA' = cAA := Option.some.inj (fA.symm.trans (hK.2 t1 _ h1).2)
  have g2 : comp = cA := Option.some.inj (fC.symm.trans (by rw [m3_n1, ← m3_n0]; exact (hK.2 t0 _ h0).2))
  subst g1
  subst g2
  rw [e2, ek] at X' step
  have hs0 : (T.setVm vm₁).heap = T.heap := rfl
  obtain ⟨f1, f2, f3, f4⟩ := Jvm.Free.Multi.fill_facts (T.setVm vm₁) cA' comp 2 k (defaultValue .int) 2
  have fo := fun (a : Nat) (ha : a < T.heap.size) => Jvm.Free.Multi.fill_old (T.setVm vm₁) cA' comp 2 k (defaultValue .int) (a := a) ha 2
  have i0 := Jvm.Free.Multi.fill_inner (T.setVm vm₁) cA' comp 2 k (defaultValue .int) 2 0 (by decide)
  have i1 := Jvm.Free.Multi.fill_inner (T.setVm vm₁) cA' comp 2 k (defaultValue .int) 2 1 (by decide)
  rw [m3_oceq] at f2
  rw [m3_iceq] at i0 i1
  rw [hs0] at f1 f2 i0 i1
  generalize hG : Jvm.Free.Multi.fill (T.setVm vm₁) cA' comp 2 k (defaultValue .int) 2 = G at f1 f2 f3 f4 fo i0 i1 X' step
  have key := va_more (nw := [(T.heap.size, .inl (cA', (2, .inr (.inr (.inr (.inr (w2f (T.heap.size + 1 + 0) (T.heap.size + 1 + 1)))))))), (T.heap.size + 1 + 0, .inl (comp, (k, .inl (fun _ => 0)))), (T.heap.size + 1 + 1, .inl (comp, (k, .inl (fun _ => 0))))]) (H1 := G.heap) hP hD hS hA (by omega) fo (fun j q hq => by
      match j, hq with
      | 0, hq =>
        cases hq
        refine ⟨?_, Nat.le_refl _⟩
        show G.heap[T.heap.size]? = some (vp_cell _ _)
        rw [f2, vp_cell_q]
        refine congrArg some (arrV_congr fun j hj => ?_)
        rcases (show j = 0 ∨ j = 1 by omega) with rfl | rfl <;> rfl
      | 1, hq =>
        cases hq
        refine ⟨?_, by show T.heap.size ≤ T.heap.size + 1 + 0; omega⟩
        exact i0
      | 2, hq =>
        cases hq
        refine ⟨?_, by show T.heap.size ≤ T.heap.size + 1 + 1; omega⟩
        exact i1
      | j + 3, hq => cases hq) (fun i j p q hp hq e => by
      match i, j, hp, hq with
      | 0, 0, hp, hq => rfl
      | 1, 1, hp, hq => rfl
      | 2, 2, hp, hq => rfl
      | 0, 1, hp, hq => cases hp; cases hq; exact absurd e (by show ¬ T.heap.size = T.heap.size + 1 + 0; omega)
      | 0, 2, hp, hq => cases hp; cases hq; exact absurd e (by show ¬ T.heap.size = T.heap.size + 1 + 1; omega)
      | 1, 0, hp, hq => cases hp; cases hq; exact absurd e (by show ¬ T.heap.size + 1 + 0 = T.heap.size; omega)
      | 1, 2, hp, hq => cases hp; cases hq; exact absurd e (by show ¬ T.heap.size + 1 + 0 = T.heap.size + 1 + 1; omega)
      | 2, 0, hp, hq => cases hp; cases hq; exact absurd e (by show ¬ T.heap.size + 1 + 1 = T.heap.size; omega)
      | 2, 1, hp, hq => cases hp; cases hq; exact absurd e (by show ¬ T.heap.size + 1 + 1 = T.heap.size + 1 + 0; omega)
      | i + 3, _, hp, hq => cases hp
      | 0, j + 3, hp, hq => cases hq
      | 1, j + 3, hp, hq => cases hq
      | 2, j + 3, hp, hq => cases hq)
  obtain ⟨t, a1, b1⟩ := kk _ _ _ _ key.1 key.2.1 key.2.2 G rfl (by rw [show cells + 3 = cells + 1 + 2 by omega, ← Nat.add_assoc]; exact X')
  exact ⟨t, step t a1, b1⟩
def crF (R : Nat → Nat) : Nat → Option Nat := fun r => some (R r)
def crG (R : Nat → Nat) (n : Nat) : Nat → Option Nat := fun r => some (R (n + r))
def cnw (cA cAA cAAA : ClassId) (q q0 q1 k : Nat) (Rr : Nat → Nat) (F : Nat → Nat → Int32) : va_W := [(q, .inl (cAAA, (2, .inr (.inr (.inr (.inr (w2f q0 q1))))))), (q0, .inl (cAA, (k, .inr (.inr (.inr (.inr (crF Rr))))))), (q1, .inl (cAA, (k, .inr (.inr (.inr (.inr (crG Rr k)))))))] ++ plR cA k (2 * k) Rr F
/-- new int[2][k][k] -/
theorem va_mk3 (hexec : p.tables.exec = Jvm.exec) (hb : c.code = cc) (hown : s.vm.findClass own = some m.cls) (hclink : (Cond.classLink own index "[[[I").before args s = true) (hov3 : (Cond.arrayOver (.array (.array .int))).before args s = true) (hov2 : (Cond.arrayOver (.array .int)).before args s = true) (harr : (Cond.arrayClass .int).before args s = true)
    {cA cAA cAAA : ClassId} (hK : va_K D cl tys s) (t0 t1 t2 : Nat) (h0 : tys[t0]? = some (cA, .int)) (h1 : tys[t1]? = some (cAA, .array .int)) (h2 : tys[t2]? = some (cAAA, .array (.array .int))) (hP : va_P D cl w H) (hD : va_D A w) (hS : va_S A H0 H locs) (hA : ∀ q, H0.size ≤ q → A q)
    {k : Nat} (hk : k ≤ 1000) (hcells : cells + (1 + 2 * (1 + k)) ≤ R.cells) (hslots : slots + (2 + 2 * (k + k * k)) ≤ R.slots) (hdg : decode cc pc = .ok (.multianewarray index 3, 4))
    (kk : ∀ (q q0 q1 : Nat) (Rr : Nat → Nat) (H1 : Heap), va_P D cl (w ++ cnw cA cAA cAAA q q0 q1 k Rr (fun _ _ => 0)) H1 → va_D A (w ++ cnw cA cAA cAAA q q0 q1 k Rr (fun _ _ => 0)) → va_S A H0 H1 locs →
      W p l e R s m args below meth c H1 locs (cells + (1 + 2 * (1 + k))) (slots + (2 + 2 * (k + k * k))) Q (F0 m (pc + 4) ls (.ref q :: rest))) : W p l e R s m args below meth c H locs cells slots Q (F0 m pc ls (.int (nI k) :: .int (nI k) :: .int 2 :: rest)) := by
  have e2 : (2 : Int32).toNatClampNeg = 2 := by decide
  have ek : (nI k).toNatClampNeg = k := nI_clamp (by omega)
  refine m3_W hexec hb hown hclink hov3 hov2 harr (g := F0 m pc ls (.int (nI k) :: .int (nI k) :: .int 2 :: rest)) rfl hdg rfl (n := 2) (by decide) (nI_pos (by omega)) (nI_pos (by omega)) (by decide) (by rw [ek]; exact hk) (by rw [ek]; exact hk) (by rw [e2, ek]; exact hcells) (by rw [e2, ek]; exact hslots) (fun vm₁ T c3 c2 c1 hT fA fB fC => ?_)
  have g1 : c3 = cAAA := Option.some.inj (fA.symm.trans (by rw [← m3_n4, ← m3_n2]; exact (hK.2 t2 _ h2).2))
  have g2 : c2 = cAA := Option.some.inj (fB.symm.trans (by rw [← m3_n3, ← m3_n1]; exact (hK.2 t1 _ h1).2))
  have g3 : c1 = cA := Option.some.inj (fC.symm.trans (by rw [← m3_n0]; exact (hK.2 t0 _ h0).2))
  subst g1
  subst g2
  subst g3
  subst hT
  rw [e2, ek]
  have hs0 : (T.setVm vm₁).heap = T.heap := rfl
  obtain ⟨f1, f2, f3, f4⟩ := m3_facts (T.setVm vm₁) c3 c2 c1 2 k k (.int 0) 2
  have fo := fun (a : Nat) (ha : a < T.heap.size) => m3_old (T.setVm vm₁) c3 c2 c1 2 k k (.int 0) (a := a) ha 2
  obtain ⟨i0, j0⟩ := m3_in (T.setVm vm₁) c3 c2 c1 2 k k (.int 0) 2 0 (by decide)
  obtain ⟨i1, j1⟩ := m3_in (T.setVm vm₁) c3 c2 c1 2 k k (.int 0) 2 1 (by decide)
  rw [m3_oeq] at f2
  rw [m3_oceq] at i0 i1
  simp only [m3_iceq] at j0 j1
  rw [hs0] at f1 f2 i0 i1 j0 j1
  have a0 : m3_ad T.heap.size k 0 = T.heap.size + 1 := by unfold m3_ad; rw [Nat.zero_mul]
  have a1 : m3_ad T.heap.size k 1 = T.heap.size + 2 + k := by unfold m3_ad; rw [Nat.one_mul]; omega
  have a2 : m3_ad T.heap.size k 2 = T.heap.size + 3 + 2 * k := by unfold m3_ad; omega
  rw [a2] at f1
  rw [a0] at i0 j0
  rw [a1] at i1 j1
  generalize hG : (m3_f (T.setVm vm₁) c3 c2 c1 2 k k (.int 0) 2).heap = G at f1 f2 fo i0 i1 j0 j1 ⊢
  obtain ⟨Rr, hRr⟩ : ∃ Rr : Nat → Nat, Rr = fun j => if j < k then T.heap.size + 2 + j else T.heap.size + 3 + j := ⟨_, rfl⟩
  have r0 : ∀ j, j < k → Rr j = T.heap.size + 2 + j := fun j hj => by rw [hRr]; exact if_pos hj
  have r1 : ∀ j, ¬ j < k → Rr j = T.heap.size + 3 + j := fun j hj => by rw [hRr]; exact if_neg hj
  have kc : ∀ (j : Nat) (q : Nat × va_E), (cnw c1 c2 c3 T.heap.size (T.heap.size + 1) (T.heap.size + 2 + k) k Rr (fun _ _ => 0))[j]? = some q → (j = 0 ∧ q = (T.heap.size, .inl (c3, (2, .inr (.inr (.inr (.inr (w2f (T.heap.size + 1) (T.heap.size + 2 + k))))))))) ∨ (j = 1 ∧ q = (T.heap.size + 1, .inl (c2, (k, .inr (.inr (.inr (.inr (crF Rr)))))))) ∨ (j = 2 ∧ q = (T.heap.size + 2 + k, .inl (c2, (k, .inr (.inr (.inr (.inr (crG Rr k)))))))) ∨ ∃ i, i < 2 * k ∧ j = i + 3 ∧ q = (Rr i, .inl (c1, (k, .inl (fun _ => 0)))) := by
    intro j q hq
    match j, hq with
    | 0, hq => cases hq; exact Or.inl ⟨rfl, rfl⟩
    | 1, hq => cases hq; exact Or.inr (Or.inl ⟨rfl, rfl⟩)
    | 2, hq => cases hq; exact Or.inr (Or.inr (Or.inl ⟨rfl, rfl⟩))
    | i + 3, hq =>
      obtain ⟨z1, z2⟩ := plR_lt (i := i) hq
      exact Or.inr (Or.inr (Or.inr ⟨i, z1, rfl, z2⟩))
  have key := va_more (nw := cnw c1 c2 c3 T.heap.size (T.heap.size + 1) (T.heap.size + 2 + k) k Rr (fun _ _ => 0)) (H1 := G) hP hD hS hA (by omega) fo (fun j q hq => by
      rcases kc j q hq with ⟨rfl, rfl⟩ | ⟨rfl, rfl⟩ | ⟨rfl, rfl⟩ | ⟨i, hi, rfl, rfl⟩
      · refine ⟨?_, Nat.le_refl _⟩
        show G[T.heap.size]? = some (vp_cell _ _)
        rw [f2, vp_cell_q]
        refine congrArg some (arrV_congr fun j hj => ?_)
        rcases (show j = 0 ∨ j = 1 by omega) with rfl | rfl
        · rw [if_pos (by decide), a0]; rfl
        · rw [if_pos (by decide), a1]; rfl
      · refine ⟨?_, by show T.heap.size ≤ T.heap.size + 1; omega⟩
        show G[T.heap.size + 1]? = some (vp_cell _ _)
        rw [i0, vp_cell_q]
        refine congrArg some (arrV_congr fun j hj => ?_)
        rw [if_pos hj]
        show Value.ref _ = .ref (Rr j)
        rw [r0 j hj, show T.heap.size + 1 + 1 + j = T.heap.size + 2 + j by omega]
      · refine ⟨?_, by show T.heap.size ≤ T.heap.size + 2 + k; omega⟩
        show G[T.heap.size + 2 + k]? = some (vp_cell _ _)
        rw [i1, vp_cell_q]
        refine congrArg some (arrV_congr fun j hj => ?_)
        rw [if_pos hj]
        show Value.ref _ = .ref (Rr (k + j))
        rw [r1 (k + j) (by omega), show T.heap.size + 2 + k + 1 + j = T.heap.size + 3 + (k + j) by omega]
      · by_cases hik : i < k
        · refine ⟨?_, by show T.heap.size ≤ Rr i; rw [r0 i hik]; omega⟩
          show G[Rr i]? = some (vp_cell _ _)
          have := j0 i hik
          rw [show T.heap.size + 1 + 1 + i = T.heap.size + 2 + i by omega] at this
          rw [r0 i hik]
          exact this
        · refine ⟨?_, by show T.heap.size ≤ Rr i; rw [r1 i hik]; omega⟩
          show G[Rr i]? = some (vp_cell _ _)
          have := j1 (i - k) (by omega)
          rw [show T.heap.size + 2 + k + 1 + (i - k) = T.heap.size + 3 + i by omega] at this
          rw [r1 i hik]
          exact this) (fun i j p q hp hq e => by
      have ad : ∀ (j : Nat) (q : Nat × va_E), (cnw c1 c2 c3 T.heap.size (T.heap.size + 1) (T.heap.size + 2 + k) k Rr (fun _ _ => 0))[j]? = some q → q.1 = if j = 0 then T.heap.size else if j = 1 then T.heap.size + 1 else if j = 2 then T.heap.size + 2 + k else if j < k + 3 then T.heap.size + j - 1 else T.heap.size + j := by
        intro j q hq
        rcases kc j q hq with ⟨rfl, rfl⟩ | ⟨rfl, rfl⟩ | ⟨rfl, rfl⟩ | ⟨i, hi, rfl, rfl⟩
        · rfl
        · rfl
        · rfl
        · rw [if_neg (by omega), if_neg (by omega), if_neg (by omega)]
          show Rr i = _
          by_cases hik : i < k
          · rw [r0 i hik, if_pos (by omega)]; omega
          · rw [r1 i hik, if_neg (by omega)]; omega
      have p1 := ad i p hp
      have q1 := ad j q hq
      rw [e] at p1
      have e9 := p1.symm.trans q1
      split at e9 <;> split at e9 <;> (try split at e9) <;> (try split at e9) <;> (try split at e9) <;> (try split at e9) <;> (try split at e9) <;> (try split at e9) <;> omega)
  exact kk _ _ _ Rr G key.1 key.2.1 key.2.2
/-- a call that has its own cells of the world, beside a pool -/
theorem g_keepQP {S : Type} {v : S → Option Value} {post : S → Prop} {w1 : S → va_W} (hr : CallRun p l e R s m args below meth c H locs cells slots mc ms (F0 m pc ls st0) rest (gQ D v post w1 (va_A wc H.size) a) (va_A wc H.size))
    (hP : va_P D vwCl (X ++ pl) H) (hD : va_D A0 (X ++ pl)) (hS : va_S A0 H0 H locs) (hA : ∀ q, H0.size ≤ q → A0 q) (isC : List Nat) (hC : isC.map (fun i => X[i]?) = wc.map some) (hC' : isC.map (fun i => (X ++ pl)[i]?) = wc.map some) (isR : List Nat) (hR : isR.map (fun i => X[i]?) = wr.map some) (hnR : va_nd isR = true) (hdis : ∀ i ∈ isR, i ∉ isC)
    (kk : ∀ (u : S) (H1 : Heap) (locs1 : List Loc), post u → va_P D vwCl ((wr ++ w1 u) ++ pl) H1 → va_D A0 ((wr ++ w1 u) ++ pl) → va_S A0 H0 H1 locs1 → W p l e R s m args below meth c H1 locs1 (cells + mc) (slots + ms) Q (F0 m (pc + 3) ls ((v u).toList ++ rest))) : W p l e R s m args below meth c H locs cells slots Q (F0 m pc ls st0) := by
  intro T hT Xs
  obtain ⟨v', st₀, t, T', L, h0, X', hL, e1, ⟨⟨u, hv, hpo, hP1, hD1⟩, hz, hk⟩, st⟩ := hr T hT Xs
  cases hv
  rw [h0] at hz hk
  have hf := va_free (wc := wc) hD hS hA isC hC'
  have hj := va_joinQ (H1 := T'.heap) hP hD isC isR hC hR hnR hdis (fun q h1 h2 => by rw [e1]; exact hk q h1 h2) hf (by rw [e1]; exact hP1) hD1
  obtain ⟨t2, a1, b1⟩ := kk u T'.heap (locs ++ L) hpo hj.1 hj.2
    ⟨Nat.le_trans hS.1 (by rw [e1]; exact hz), fun q h1 h2 => by rw [e1, hk q (Nat.lt_of_lt_of_le h1 hS.1) (fun z => h2 (hf q z))]; exact hS.2.1 q h1 h2, fun q hq => by
      rcases List.mem_append.mp hq with h | h
      · exact hS.2.2 q h
      · exact hf _ (hL q h)⟩ T' rfl X'
  exact ⟨t2, st t2 a1, b1⟩
theorem g_QSWP {S : Type} {Y : (Nat → Prop) → Heap → State → Prop} {v : S → Option Value} {post : S → Prop} {w1 : S → va_W} {hh : List (Nat × Nat × Nat × Nat)} (hXs : stX Y) (S9 : CallFix p m c cc nL s args Ts own) (hM9 : Met l y ws rm (va_Pc As (gBX Y D tys wc H.size)) (gQ D v post w1 (va_A wc H.size)) mc ms (va_A wc H.size)) (cw : vx_CSW R s args own index y bytes maxL ret hh ws rm mc ms n) (hP : va_P D vwCl (X ++ pl) H) (hKc : va_K D vwCl tys s) (hD : va_D A0 (X ++ pl)) (hS : va_S A0 H0 H locs) (hA : ∀ q, H0.size ≤ q → A0 q) (hX : Y A0 H0 s) (isC : List Nat) (hn : va_nd isC = true) (hC : isC.map (fun i => X[i]?) = wc.map some) (hC' : isC.map (fun i => (X ++ pl)[i]?) = wc.map some) (isR : List Nat) (hR : isR.map (fun i => X[i]?) = wr.map some) (hnR : va_nd isR = true) (hdis : ∀ i ∈ isR, i ∉ isC)
    (hlen : As.length = n) (hls : ls.size = nL) (hst : st0 = As.reverse ++ rest) (hroom : (rest.map fun v => v.category).sum ≤ 8) (hdg : decode cc pc = .ok (.invokestatic index, 3)) (hc : cells + mc ≤ R.cells) (hs : slots + ms ≤ R.slots)
    (kk : ∀ (u : S) (H1 : Heap) (locs1 : List Loc), post u → va_P D vwCl ((wr ++ w1 u) ++ pl) H1 → va_D A0 ((wr ++ w1 u) ++ pl) → va_S A0 H0 H1 locs1 → W p l e R s m args below meth c H1 locs1 (cells + mc) (slots + ms) Q (F0 m (pc + 3) ls ((v u).toList ++ rest))) : W p l e R s m args below meth c H locs cells slots Q (F0 m pc ls st0) :=
  g_keepQP (g_ofRun (vx_runSW S9 hM9 cw ⟨g_blindX hXs, g_preX hXs hP hKc hD hS hA hX isC hn hC'⟩ rfl hlen hls hst (lv_room hroom) hdg ⟨hc, hs⟩)) hP hD hS hA isC hC hC' isR hR hnR hdis kk
end PW9
