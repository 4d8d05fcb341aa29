/-! 34: the law's state between two calls, and what its steps stand on -/
def V2 (L0 L1 : List Int32) : Nat → List Int32 := fun w => if w = 0 then L0 else L1
theorem V2_ok {rn : Nat} {L0 L1 : List Int32} (h0 : okL rn L0) (h1 : okL rn L1) : ∀ w, w < 2 → okL rn (V2 L0 L1 w) := fun w hw => by
  obtain rfl | rfl : w = 0 ∨ w = 1 := by omega
  · exact h0
  · exact h1
theorem MW_c0 {a b c : List Int32} {s l : Nat → Int32} (h : MW (upW (V2 a b) 0 c) s l) : MW (V2 c b) s l := fun w hw => by
  obtain rfl | rfl : w = 0 ∨ w = 1 := by omega
  · exact h 0 (by omega)
  · exact h 1 (by omega)
theorem MW_c1 {a b c : List Int32} {s l : Nat → Int32} (h : MW (upW (V2 a b) 1 c) s l) : MW (V2 a c) s l := fun w hw => by
  obtain rfl | rfl : w = 0 ∨ w = 1 := by omega
  · exact h 0 (by omega)
  · exact h 1 (by omega)
theorem MW_cn {s l : Nat → Int32} (h : MW (fun _ => []) s l) : MW (V2 [] []) s l := fun w hw => by
  obtain rfl | rfl : w = 0 ∨ w = 1 := by omega
  · exact h 0 (by omega)
  · exact h 1 (by omega)
theorem lc_self (x : Int64) : lg_cmp x x = 0 := (lg_cmp_eq x x).mpr rfl
theorem wd_ix (x : Int32) : (x < 0 ∨ 1 < x) ∨ x = nI 0 ∨ x = nI 1 := by
  rcases pk_ix x (n := 2) (by decide) with h | h | ⟨j, h, rfl⟩
  · exact Or.inl (Or.inl h)
  · exact Or.inl (Or.inr (Int32.lt_of_lt_of_le (by decide) h))
  · obtain rfl | rfl : j = 0 ∨ j = 1 := by omega
    · exact Or.inr (Or.inl rfl)
    · exact Or.inr (Or.inr rfl)
def lwE (p : Program) (l : Launch) (s : State) (m : MethodId) (c : Code) (b L : Nat) (xs : Nat → Int32) (dC : Nat → ClassId) (dI : Nat → Nat → Nat) (cA cL : ClassId) (A : Nat → Prop) : Prop :=
  p.tables.exec = Jvm.exec ∧ c.code = cL_law ∧ c.maxLocals = 9 ∧ s.vm.findClass RL = some m.cls ∧ (∀ w ∈ wsL_law, w.before #[Value.ref b] s = true) ∧ va_X b L xs s s.heap ∧ b < s.heap.size ∧ ¬ A b ∧ (∀ q, s.heap.size ≤ q → A q) ∧ l.stackTraces = false ∧ va_K (dC, dI) vwCl [(cA, .int), (cL, .long)] s ∧ gZ A s.heap s ∧ L ≤ 2048
def lwI (dC : Nat → ClassId) (dI : Nat → Nat → Nat) (cA cL : ClassId) (A : Nat → Prop) (H0 : Heap) (x0 r0 r1 r2 r3 a0 a1 a2 a3 y0 q1 q2 q3 q4 q5 o : Nat) (rn : Nat) (L0 L1 : List Int32) (H : Heap) (locs : List Loc) : Prop :=
  ∃ (f0 : Nat → Int32) (f1 : Nat → Int32) (n2 : Int32) (f2 : Nat → Int32) (n3 : Int32) (f3 : Nat → Int32) (tv : Int32) (sf : Nat → Int32) (lf : Nat → Int32) (mn : Int32) (rf : Nat → Int32) (nf : Nat → Int32) (ct : Int32) (il : Int32) (gf : Nat → Int32) (fo : Nat → Int64), va_P (dC, dI) vwCl [(x0, .inr (1, [.ref r0, .ref r1, .ref r2, .ref r3, .int (nI rn)])), (r0, .inr (0, [.ref a0, .int (nI L0.length)])), (a0, .inl (cA, (100, .inl f0))), (r1, .inr (0, [.ref a1, .int (nI L1.length)])), (a1, .inl (cA, (100, .inl f1))), (r2, .inr (0, [.ref a2, .int n2])), (a2, .inl (cA, (100, .inl f2))), (r3, .inr (0, [.ref a3, .int n3])), (a3, .inl (cA, (100, .inl f3))), (y0, .inr (2, [.int tv, .int (nI rn), .ref q1, .ref q2, .int mn, .ref q3, .ref q4, .int ct, .int il, .ref q5])), (q1, .inl (cA, (2, .inl sf))), (q2, .inl (cA, (60, .inl lf))), (q3, .inl (cA, (320, .inl rf))), (q4, .inl (cA, (320, .inl nf))), (q5, .inl (cA, (6, .inl gf))), (o, .inl (cL, (1, .inr (.inl fo))))] H ∧ va_D A [(x0, .inr (1, [.ref r0, .ref r1, .ref r2, .ref r3, .int (nI rn)])), (r0, .inr (0, [.ref a0, .int (nI L0.length)])), (a0, .inl (cA, (100, .inl f0))), (r1, .inr (0, [.ref a1, .int (nI L1.length)])), (a1, .inl (cA, (100, .inl f1))), (r2, .inr (0, [.ref a2, .int n2])), (a2, .inl (cA, (100, .inl f2))), (r3, .inr (0, [.ref a3, .int n3])), (a3, .inl (cA, (100, .inl f3))), (y0, .inr (2, [.int tv, .int (nI rn), .ref q1, .ref q2, .int mn, .ref q3, .ref q4, .int ct, .int il, .ref q5])), (q1, .inl (cA, (2, .inl sf))), (q2, .inl (cA, (60, .inl lf))), (q3, .inl (cA, (320, .inl rf))), (q4, .inl (cA, (320, .inl nf))), (q5, .inl (cA, (6, .inl gf))), (o, .inl (cL, (1, .inr (.inl fo))))] ∧ va_S A H0 H locs ∧ RI L0 f0 ∧ RI L1 f1 ∧ L0.length ≤ 30 ∧ L1.length ≤ 30 ∧ rn ∈ rnS ∧ rn ≤ 6 ∧ okL rn L0 ∧ okL rn L1 ∧ MW (V2 L0 L1) sf lf
