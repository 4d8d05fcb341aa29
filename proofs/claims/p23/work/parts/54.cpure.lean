/-! 54: what a cut by hand stands on -/
theorem okx_ab : ∀ x ∈ okList, ∀ y ∈ okList, (y = abI x + 1 → abI y = abI x + 1) ∧ (y = -(abI x + 1) → abI y = abI x + 1) ∧ (¬ y = abI x + 1 → ¬ y = -(abI x + 1) → ¬ abI y = abI x + 1) := by decide +kernel
theorem okx_cut : ∀ x ∈ okList, ∀ y ∈ okList, (¬ x ≤ 0 → ¬ y ≤ 0 → [-(abI x + 1), x, abI x + 1] = [-sgI x * (abI x + 1), sgI y * abI x, sgI x * (abI x + 1)]) ∧ (¬ x ≤ 0 → y ≤ 0 → [-(abI x + 1), -x, abI x + 1] = [-sgI x * (abI x + 1), sgI y * abI x, sgI x * (abI x + 1)]) ∧ (x ≤ 0 → ¬ y ≤ 0 → [abI x + 1, -x, -(abI x + 1)] = [-sgI x * (abI x + 1), sgI y * abI x, sgI x * (abI x + 1)]) ∧ (x ≤ 0 → y ≤ 0 → [abI x + 1, x, -(abI x + 1)] = [-sgI x * (abI x + 1), sgI y * abI x, sgI x * (abI x + 1)]) := by decide +kernel
theorem ck3 {L : List Int32} {b e k : Nat} (h1 : b < k) (h2 : k < e) (h : abI (atL L k) = abI (atL L b) + 1) : ckL L b e k ++ [-sgI (atL L b) * (abI (atL L b) + 1), sgI (atL L k) * abI (atL L b), sgI (atL L b) * (abI (atL L b) + 1)] = ckL L b e (k + 1) := by
  rw [ckL_three h1 h2 h]; simp
theorem ck1 {L : List Int32} {b e k : Nat} (h1 : b < k) (h2 : k < e) (h : ¬ abI (atL L k) = abI (atL L b) + 1) : ckL L b e k ++ [atL L k] = ckL L b e (k + 1) := (ckL_one (by omega) (by omega) (fun q => h q.2.2)).symm
theorem ck_pre {L : List Int32} {b e : Nat} (hbe : b < e) (he : e < L.length) : pcL L 0 b = ckL L b e (b + 1) := by
  rw [ckL_skip (Or.inl rfl), ckL_pre hbe (Nat.le_refl _) (by omega)]
  unfold pcL; rw [List.drop_zero, Nat.sub_zero]
theorem ck_tail {L : List Int32} {b e : Nat} (hbe : b < e) : ∀ {d : Nat}, e + 1 + d ≤ L.length → ckL L b e (e + 1 + d) = ckL L b e e ++ (L.drop (e + 1)).take d
  | 0, h => by
    show ckL L b e (e + 1) = _
    rw [ckL_skip (Or.inr rfl), List.take_zero, List.append_nil]
  | d + 1, h => by
    have hl : d < (L.drop (e + 1)).length := by rw [List.length_drop]; omega
    show ckL L b e (e + 1 + d + 1) = _
    rw [ckL_one (by omega) (by omega) (fun q => by omega), ck_tail hbe (by omega), ← take_snoc hl, atL_drop, List.append_assoc]
theorem ck_end {L : List Int32} {b e : Nat} (hbe : b < e) (he : e < L.length) : ckL L b e e ++ pcL L (e + 1) L.length = cutL L b e := by
  have h := ck_tail (L := L) hbe (d := L.length - (e + 1)) (by omega)
  rw [show e + 1 + (L.length - (e + 1)) = L.length by omega] at h
  exact h.symm
theorem cut_le {L : List Int32} {b e : Nat} (hbe : b < e) (he : e < L.length) (hl : L.length ≤ 100) : (cutL L b e).length ≤ 300 := by
  have h1 := cutL_len hbe he
  have h2 := cnL_le (L := L) (b := b) (j := e - (b + 1))
  omega
theorem ar3 {x y z : Int32} : ∀ j, j < [x, y, z].length → upd (upd (upd (fun _ => 0) 0 x) 1 y) 2 z j = atL [x, y, z] j := fun j hj => by
  rcases (show j = 0 ∨ j = 1 ∨ j = 2 from by simp at hj; omega) with rfl | rfl | rfl <;> rfl
theorem ar2 {x y : Int32} : ∀ j, j < [x, y].length → upd (upd (fun _ => 0) 0 x) 1 y j = atL [x, y] j := fun j hj => by
  rcases (show j = 0 ∨ j = 1 from by simp at hj; omega) with rfl | rfl <;> rfl
theorem ar1 {x : Int32} : ∀ j, j < [x].length → upd (fun _ => 0) 0 x j = atL [x] j := fun j hj => by
  obtain rfl : j = 0 := by simp at hj; omega
  rfl
