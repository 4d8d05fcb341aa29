/-! 60: the hand's object: two words in a row of two -/
def w2f (a b : Nat) : Nat → Option Nat := fun i => if i = 0 then some a else if i = 1 then some b else none
theorem w2_mk {a b : Nat} : va_up (va_up (fun _ => none) 0 (some a)) 1 (some b) = w2f a b := by
  funext i
  unfold va_up w2f
  by_cases h1 : i = 1
  · subst h1; rfl
  · by_cases h0 : i = 0
    · subst h0; rfl
    · rw [if_neg h1, if_neg h0, if_neg h0, if_neg h1]
theorem w2_0 {a b q : Nat} : va_up (w2f a b) 0 (some q) = w2f q b := by
  funext i
  unfold va_up w2f
  by_cases h0 : i = 0
  · subst h0; rfl
  · rw [if_neg h0, if_neg h0, if_neg h0]
theorem w2_1 {a b q : Nat} : va_up (w2f a b) 1 (some q) = w2f a q := by
  funext i
  unfold va_up w2f
  by_cases h1 : i = 1
  · subst h1; rfl
  · simp [h1]
def xA : (Nat → Prop) → Heap → State → Prop := fun _ _ U => aoI U
theorem xA_st : stX xA := fun _ _ _ _ _ _ h hW _ _ => aoI.moved hW.alike h
def xL : (Nat → Prop) → Heap → State → Prop := fun A H U => gZ A H U ∧ aoI U
theorem xL_st : stX xL := fun _ _ _ _ _ _ h hW hq hAB => ⟨h.1.step hW hq hAB, aoI.moved hW.alike h.2⟩
def xB (b L : Nat) (xs : Nat → Int32) : (Nat → Prop) → Heap → State → Prop := fun A H U => xL A H U ∧ xS b L xs A H U
theorem xB_st {b L : Nat} {xs : Nat → Int32} : stX (xB b L xs) := fun A B H H1 s U h hW hq hAB => ⟨xL_st A B H H1 s U h.1 hW hq hAB, xS_st A B H H1 s U h.2 hW hq hAB⟩
theorem coI_0 {rn : Nat} {L0 L1 : List Int32} : ∀ j, j < [nI rn, nI L0.length, nI L1.length, accL L0 sgI L0.length, accL L1 sgI L1.length].length → upd (upd (upd (upd (upd (fun _ => 0) 0 (nI rn)) 1 (nI L0.length)) 2 (nI L1.length)) 3 (accL L0 sgI L0.length)) 4 (accL L1 sgI L1.length) j = atL [nI rn, nI L0.length, nI L1.length, accL L0 sgI L0.length, accL L1 sgI L1.length] j := fun j hj => by
  rcases (show j = 0 ∨ j = 1 ∨ j = 2 ∨ j = 3 ∨ j = 4 from by simp at hj; omega) with rfl | rfl | rfl | rfl | rfl <;> rfl
theorem ha_no {L : List Int32} (h : enF L 0 = none) : haL L 0 = -1 ∧ haL L 1 = -1 ∧ haL L 2 = 0 := by
  unfold haL
  rw [h]
  exact ⟨rfl, rfl, rfl⟩
theorem ha_yes {L : List Int32} {b e : Nat} (h : enF L 0 = some e) (hb : bg L e = some b) (he : e < L.length) : haL L 0 = nI b ∧ haL L 1 = nI e ∧ haL L 2 = nI (cutL L b e).length - nI L.length := by
  unfold haL
  rw [h]
  show (match bg L e with | none => 0 | some b => if 0 = 0 then nI b else if 0 = 1 then nI e else moI (cnL L b (e - (b + 1)))) = nI b ∧ (match bg L e with | none => 0 | some b => if 1 = 0 then nI b else if 1 = 1 then nI e else moI (cnL L b (e - (b + 1)))) = nI e ∧ (match bg L e with | none => 0 | some b => if 2 = 0 then nI b else if 2 = 1 then nI e else moI (cnL L b (e - (b + 1)))) = _
  rw [hb]
  refine ⟨rfl, rfl, ?_⟩
  show moI (cnL L b (e - (b + 1))) = _
  rw [← cut_more (bg_lt hb) he, Int32.add_comm, Int32.add_sub_cancel]
