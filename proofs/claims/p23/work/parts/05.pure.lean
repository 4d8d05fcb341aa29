/-! 05: words as lists of letters, and what is asked of them -/
def abI (x : Int32) : Int32 := if x < 0 then -x else x
def sgI (x : Int32) : Int32 := if x < 0 then -1 else if 0 < x then 1 else 0
def atL (L : List Int32) (i : Nat) : Int32 := L.getD i 0
/-- a row's cells hold the word L -/
def RI (L : List Int32) (f : Nat → Int32) : Prop := L.length ≤ 100 ∧ ∀ i, i < L.length → f i = atL L i
def turnL (L : List Int32) : List Int32 := L.reverse.map (fun x => -x)
/-- a place that falls: -1 where none is left -/
def plI : Nat → Int32
  | 0 => -1
  | k + 1 => nI k
theorem mabs_eq {x : Int32} : (if 0 ≤ x then x else 0 - x) = abI x := by
  unfold abI
  have h : (0 ≤ x) ↔ ¬ x < 0 := by rw [Int32.not_lt]
  by_cases c : x < 0
  · rw [if_neg (fun q => (h.mp q) c), if_pos c, Int32.zero_sub]
  · rw [if_pos (h.mpr c), if_neg c]
theorem g_inc (a : Nat) : nI a + Int32.ofInt 1 = nI (a + 1) := by rw [lit1]; exact nI_1 a
theorem g_dec1 (a : Nat) : nI (a + 1) + Int32.ofInt (-1) = nI a := by rw [litm1]; exact pk_m1 a
theorem plI_dec (k : Nat) : nI k + Int32.ofInt (-1) = plI k := by
  rw [litm1]
  cases k with
  | zero => rw [nI_0]; rfl
  | succ k => exact pk_m1 k
theorem plI_sub (k : Nat) : nI k - 1 = plI k := by
  cases k with
  | zero => rw [nI_0]; rfl
  | succ k => exact nI_pred k
theorem g_ltT (a b : Nat) (ha : a < 2 ^ 31) (hb : b < 2 ^ 31) (c : nI a < nI b) : a < b := (nI_ltI ha hb).mp c
theorem g_ltF (a b : Nat) (ha : a < 2 ^ 31) (hb : b < 2 ^ 31) (c : ¬ nI a < nI b) : b ≤ a := Nat.not_lt.mp (fun q => c ((nI_ltI ha hb).mpr q))
theorem g_geT (a b : Nat) (ha : a < 2 ^ 31) (hb : b < 2 ^ 31) (c : nI b ≤ nI a) : b ≤ a := (nI_leI hb ha).mp c
theorem g_geF (a b : Nat) (ha : a < 2 ^ 31) (hb : b < 2 ^ 31) (c : ¬ nI b ≤ nI a) : a < b := Nat.not_le.mp (fun q => c ((nI_leI hb ha).mpr q))
theorem g_leT (a b : Nat) (ha : a < 2 ^ 31) (hb : b < 2 ^ 31) (c : nI a ≤ nI b) : a ≤ b := (nI_leI ha hb).mp c
theorem g_leF (a b : Nat) (ha : a < 2 ^ 31) (hb : b < 2 ^ 31) (c : ¬ nI a ≤ nI b) : b < a := Nat.not_le.mp (fun q => c ((nI_leI ha hb).mpr q))
theorem g_gtT (a b : Nat) (ha : a < 2 ^ 31) (hb : b < 2 ^ 31) (c : nI b < nI a) : b < a := (nI_ltI hb ha).mp c
theorem g_gtF (a b : Nat) (ha : a < 2 ^ 31) (hb : b < 2 ^ 31) (c : ¬ nI b < nI a) : a ≤ b := Nat.not_lt.mp (fun q => c ((nI_ltI hb ha).mpr q))
theorem g_eqT (a b : Nat) (ha : a < 2 ^ 31) (hb : b < 2 ^ 31) (c : nI a = nI b) : a = b := (nI_eq ha hb).mp c
theorem g_eqF (a b : Nat) (ha : a < 2 ^ 31) (hb : b < 2 ^ 31) (c : ¬ nI a = nI b) : ¬ a = b := fun q => c ((nI_eq ha hb).mpr q)
theorem g_neT (a b : Nat) (ha : a < 2 ^ 31) (hb : b < 2 ^ 31) (c : ¬ nI a = nI b) : ¬ a = b := fun q => c ((nI_eq ha hb).mpr q)
theorem g_neF (a b : Nat) (ha : a < 2 ^ 31) (hb : b < 2 ^ 31) (c : nI a = nI b) : a = b := (nI_eq ha hb).mp c
theorem atL_out {L : List Int32} {i : Nat} (h : L.length ≤ i) : atL L i = 0 := by
  unfold atL; rw [List.getD_eq_getElem?_getD, List.getElem?_eq_none h]; rfl
theorem atL_in {L : List Int32} {i : Nat} (h : i < L.length) : atL L i = L[i] := by
  unfold atL; rw [List.getD_eq_getElem?_getD, List.getElem?_eq_getElem h]; rfl
theorem atL_eq {L : List Int32} {i : Nat} : L[i]? = if i < L.length then some (atL L i) else none := by
  split
  next h => rw [List.getElem?_eq_getElem h, atL_in h]
  next h => exact List.getElem?_eq_none (Nat.not_lt.mp h)
theorem atL_ext {L M : List Int32} (h : L.length = M.length) (he : ∀ i, i < L.length → atL L i = atL M i) : L = M := by
  apply List.ext_getElem h
  intro i h1 h2
  rw [← atL_in h1, ← atL_in h2]
  exact he i h1
theorem atL_appL {L M : List Int32} {i : Nat} (h : i < L.length) : atL (L ++ M) i = atL L i := by
  rw [atL_in (by rw [List.length_append]; omega), atL_in h, List.getElem_append_left h]
theorem atL_appR {L M : List Int32} {i : Nat} (h : L.length ≤ i) : atL (L ++ M) i = atL M (i - L.length) := by
  unfold atL; rw [List.getD_eq_getElem?_getD, List.getD_eq_getElem?_getD, List.getElem?_append_right h]
theorem atL_set {L : List Int32} {k i : Nat} {x : Int32} (hk : k < L.length) : atL (L.set k x) i = if i = k then x else atL L i := by
  unfold atL
  rw [List.getD_eq_getElem?_getD, List.getD_eq_getElem?_getD, List.getElem?_set]
  by_cases h : k = i
  · subst h; simp [hk]
  · rw [if_neg h, if_neg (fun q => h q.symm)]
theorem atL_take {L : List Int32} {k i : Nat} (h : i < k) : atL (L.take k) i = atL L i := by
  unfold atL
  rw [List.getD_eq_getElem?_getD, List.getD_eq_getElem?_getD, List.getElem?_take_of_lt h]
theorem atL_drop {L : List Int32} {k i : Nat} : atL (L.drop k) i = atL L (k + i) := by
  unfold atL
  rw [List.getD_eq_getElem?_getD, List.getD_eq_getElem?_getD, List.getElem?_drop]
theorem atL_snoc {L : List Int32} {x : Int32} : atL (L ++ [x]) L.length = x := by
  rw [atL_appR (Nat.le_refl _), Nat.sub_self]; rfl
theorem len_snoc {L : List Int32} {x : Int32} : (L ++ [x]).length = L.length + 1 := by simp
theorem take_snoc {M : List Int32} {k : Nat} (h : k < M.length) : M.take k ++ [atL M k] = M.take (k + 1) := by
  rw [atL_in h, List.take_append_getElem h]
theorem RI_nil {f : Nat → Int32} : RI [] f := ⟨Nat.zero_le _, fun i h => absurd h (Nat.not_lt_zero i)⟩
theorem RI_push {L : List Int32} {f : Nat → Int32} {x : Int32} (h : RI L f) (hl : L.length < 100) : RI (L ++ [x]) (upd f L.length x) := by
  refine ⟨by rw [len_snoc]; omega, fun i hi => ?_⟩
  rw [len_snoc] at hi
  by_cases e : i = L.length
  · subst e; rw [atL_snoc]; exact pk_us
  · rw [pk_un e, atL_appL (by omega)]; exact h.2 i (by omega)
theorem RI_set {L : List Int32} {f : Nat → Int32} {k : Nat} {x : Int32} (h : RI L f) (hk : k < L.length) : RI (L.set k x) (upd f k x) := by
  refine ⟨by rw [List.length_set]; exact h.1, fun i hi => ?_⟩
  rw [List.length_set] at hi
  rw [atL_set hk]
  by_cases e : i = k
  · subst e; rw [if_pos rfl]; exact pk_us
  · rw [pk_un e, if_neg e]; exact h.2 i hi
theorem RI_dropLast {L : List Int32} {f : Nat → Int32} (h : RI L f) : RI L.dropLast f := by
  refine ⟨by rw [List.length_dropLast]; have := h.1; omega, fun i hi => ?_⟩
  rw [List.length_dropLast] at hi
  rw [List.dropLast_eq_take, atL_take hi]
  exact h.2 i (by omega)
theorem turnL_len {L : List Int32} : (turnL L).length = L.length := by unfold turnL; simp
theorem atL_turn {L : List Int32} {k : Nat} (h : k < L.length) : atL (turnL L) k = -atL L (L.length - 1 - k) := by
  rw [atL_in (by rw [turnL_len]; exact h), atL_in (by omega)]
  unfold turnL
  simp
/-- sums over a word's letters -/
def accL (L : List Int32) (g : Int32 → Int32) : Nat → Int32
  | 0 => 0
  | k + 1 => accL L g k + g (atL L k)
theorem turn_snoc {L M : List Int32} {j : Nat} (h : j + 1 ≤ M.length) : (L ++ (turnL M).take (M.length - (j + 1))) ++ [-atL M j] = L ++ (turnL M).take (M.length - j) := by
  have e : -atL M j = atL (turnL M) (M.length - (j + 1)) := by
    rw [atL_turn (by omega), show M.length - 1 - (M.length - (j + 1)) = j by omega]
  rw [e, List.append_assoc, take_snoc (by rw [turnL_len]; omega), show M.length - (j + 1) + 1 = M.length - j by omega]
def insL (L : List Int32) (k : Nat) (x : Int32) : List Int32 := L.take k ++ x :: L.drop k
def shL (L : List Int32) (x : Int32) (j : Nat) : List Int32 := (L ++ [x]).take (j + 1) ++ L.drop j
theorem insL_len {L : List Int32} {k : Nat} {x : Int32} (h : k ≤ L.length) : (insL L k x).length = L.length + 1 := by
  unfold insL; simp; omega
theorem shL_len {L : List Int32} {j : Nat} {x : Int32} (h : j ≤ L.length) : (shL L x j).length = L.length + 1 := by
  unfold shL; simp; omega
theorem shL_at {L : List Int32} {i j : Nat} {x : Int32} (h : j ≤ L.length) : atL (shL L x j) i = if i ≤ j then atL (L ++ [x]) i else atL L (i - 1) := by
  unfold shL
  have hl : ((L ++ [x]).take (j + 1)).length = j + 1 := by simp; omega
  by_cases c : i ≤ j
  · rw [if_pos c, atL_appL (by rw [hl]; omega), atL_take (by omega)]
  · rw [if_neg c, atL_appR (by rw [hl]; omega), hl, atL_drop, show j + (i - (j + 1)) = i - 1 by omega]
theorem insL_at {L : List Int32} {i k : Nat} {x : Int32} (h : k ≤ L.length) : atL (insL L k x) i = if i < k then atL L i else if i = k then x else atL L (i - 1) := by
  unfold insL
  have hl : (L.take k).length = k := by simp; omega
  by_cases c : i < k
  · rw [if_pos c, atL_appL (by rw [hl]; omega), atL_take c]
  · rw [if_neg c, atL_appR (by rw [hl]; omega), hl]
    by_cases c2 : i = k
    · subst c2; rw [if_pos rfl, Nat.sub_self]; rfl
    · rw [if_neg c2]
      obtain ⟨d, hd⟩ : ∃ d, i - k = d + 1 := ⟨i - k - 1, by omega⟩
      rw [hd]
      show atL (L.drop k) d = _
      rw [atL_drop, show k + d = i - 1 by omega]
theorem shL_0 {L : List Int32} {x : Int32} : L ++ [x] = shL L x L.length := by
  apply atL_ext (by rw [shL_len (Nat.le_refl _), len_snoc])
  intro i hi
  rw [len_snoc] at hi
  rw [shL_at (Nat.le_refl _), if_pos (by omega)]
theorem shL_step {L : List Int32} {i : Nat} {x : Int32} (h : i + 1 ≤ L.length) : (shL L x (i + 1)).set (i + 1) (atL (shL L x (i + 1)) i) = shL L x i := by
  have hl := shL_len (x := x) h
  apply atL_ext (by rw [List.length_set, hl, shL_len (by omega)])
  intro j hj
  rw [List.length_set, hl] at hj
  rw [atL_set (by rw [hl]; omega)]
  by_cases c : j = i + 1
  · subst c
    rw [if_pos rfl, shL_at h, if_pos (by omega), shL_at (by omega), if_neg (by omega), atL_appL (by omega)]
    rfl
  · rw [if_neg c, shL_at h, shL_at (by omega)]
    by_cases c2 : j ≤ i
    · rw [if_pos (by omega), if_pos c2]
    · rw [if_neg (by omega), if_neg c2]
theorem shL_end {L : List Int32} {k : Nat} {x : Int32} (h : k ≤ L.length) : (shL L x k).set k x = insL L k x := by
  have hl := shL_len (x := x) h
  apply atL_ext (by rw [List.length_set, hl, insL_len h])
  intro j hj
  rw [List.length_set, hl] at hj
  rw [atL_set (by rw [hl]; omega), shL_at h, insL_at h]
  by_cases c : j = k
  · subst c; rw [if_pos rfl, if_neg (by omega), if_pos rfl]
  · rw [if_neg c]
    by_cases c2 : j < k
    · rw [if_pos (by omega), if_pos c2, atL_appL (by omega)]
    · rw [if_neg (by omega), if_neg c2, if_neg c]
