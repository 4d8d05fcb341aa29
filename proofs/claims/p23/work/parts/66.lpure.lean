/-! 66: numbers that choose -/
def blN (v : Int32) (n : Nat) : Nat := (v.toBitVec.toNat % 2 ^ 31) % n
theorem bl_lt {v : Int32} {n : Nat} (h : 0 < n) : blN v n < n := Nat.mod_lt _ h
theorem bl_val {v : Int32} {n : Nat} (h : 0 < n) (h2 : n < 2 ^ 31) : (v &&& 2147483647) - ((v &&& 2147483647) / nI n) * nI n = nI (blN v n) := by
  rw [pk_and v (m := 2147483647) 31 rfl, pk_rem (Nat.mod_lt _ (by decide)) h h2]
  exact rfl
/-- a cell of the script, or what stands for it -/
def ceV (LL : Nat) (xs : Nat → Int32) (k : Nat) : Int32 := if k < LL then xs k else nI (790386105 * (k + 3))
/-- a letter that a number chooses -/
def smL (x : Int32) (rn : Nat) : Int32 := if blN x 2 = 0 then nI (1 + blN (x >>> 1) (rn - 1)) else -nI (1 + blN (x >>> 1) (rn - 1))
theorem sm_in : ∀ rn ∈ rnS, ∀ j, j < rn - 1 → nI (1 + j) ∈ okr rn ∧ -nI (1 + j) ∈ okr rn := by decide +kernel
theorem sm_ok {x : Int32} {rn : Nat} (hr : rn ∈ rnS) (h3 : 3 ≤ rn) : smL x rn ∈ okr rn := by
  obtain ⟨h1, h2⟩ := sm_in rn hr (blN (x >>> 1) (rn - 1)) (bl_lt (by omega))
  unfold smL
  split
  · exact h1
  · exact h2
/-- three letters that can be turned about -/
def triL (L : List Int32) (k : Nat) : Prop := atL L k = atL L (k + 2) ∧ ¬ atL L k * atL L (k + 1) ≤ 0 ∧ abI (atL L k - atL L (k + 1)) = 1
noncomputable def trI (L : List Int32) (k : Nat) : Int32 := by
  classical exact if triL L k then 1 else 0
theorem trI_1 {L : List Int32} {k : Nat} (h : triL L k) : trI L k = 1 := by
  unfold trI; exact if_pos h
theorem trI_0 {L : List Int32} {k : Nat} (h : ¬ triL L k) : trI L k = 0 := by
  unfold trI; exact if_neg h
theorem okx_tri : ∀ x ∈ okList, ∀ y ∈ okList, ((¬ x * y ≤ 0 ∧ abI (x - y) = 1) ↔ (sgI y = sgI x ∧ abI (abI y - abI x) = 1)) ∧ ((sgI y = sgI x ∧ abI (abI y - abI x) = 1) → nearI x y) := by
  unfold nearI; decide +kernel
