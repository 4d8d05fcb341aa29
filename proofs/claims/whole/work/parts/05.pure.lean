/-! 05: words as lists of letters, and what is asked of them -/
def abI (x : Int32) : Int32 := if x < 0 then -x else x
def sgI (x : Int32) : Int32 := if x < 0 then -1 else if 0 < x then 1 else 0
def atL (L : List Int32) (i : Nat) : Int32 := L.getD i 0
/-- a row's cells hold the word L -/
def RI (L : List Int32) (f : Nat → Int32) : Prop := L.length ≤ 100 ∧ ∀ i, i < L.length → f i = atL L i
def turnL (L : List Int32) : List Int32 := L.reverse.map (fun x => -x)
/-- a place that falls: -1 where none is left -/
def plI : Nat → Int32
  | 0 => -1
  | k + 1 => nI k
theorem mabs_eq {x : Int32} : (if 0 ≤ x then x else 0 - x) = abI x := by
  unfold abI
  have h : (0 ≤ x) ↔ ¬ x < 0 := by rw [Int32.not_lt]
  by_cases c : x < 0
  · rw [if_neg (fun q => (h.mp q) c), if_pos c, Int32.zero_sub]
  · rw [if_pos (h.mpr c), if_neg c]
theorem g_inc (a : Nat) : nI a + Int32.ofInt 1 = nI (a + 1) := by rw [lit1]; exact nI_1 a
theorem g_dec1 (a : Nat) : nI (a + 1) + Int32.ofInt (-1) = nI a := by rw [litm1]; exact pk_m1 a
theorem plI_dec (k : Nat) : nI k + Int32.ofInt (-1) = plI k := by
  rw [litm1]
  cases k with
  | zero => rw [nI_0]; rfl
  | succ k => exact pk_m1 k
theorem plI_sub (k : Nat) : nI k - 1 = plI k := by
  cases k with
  | zero => rw [nI_0]; rfl
  | succ k => exact nI_pred k
section Cmp
variable (a b : Nat) (ha : a < 2 ^ 31) (hb : b < 2 ^ 31)
theorem g_ltT (c : nI a < nI b) : a < b := (nI_ltI ha hb).mp c
theorem g_ltF (c : ¬ nI a < nI b) : b ≤ a := Nat.not_lt.mp (fun q => c ((nI_ltI ha hb).mpr q))
theorem g_geT (c : nI b ≤ nI a) : b ≤ a := (nI_leI hb ha).mp c
theorem g_geF (c : ¬ nI b ≤ nI a) : a < b := Nat.not_le.mp (fun q => c ((nI_leI hb ha).mpr q))
theorem g_leT (c : nI a ≤ nI b) : a ≤ b := (nI_leI ha hb).mp c
theorem g_leF (c : ¬ nI a ≤ nI b) : b < a := Nat.not_le.mp (fun q => c ((nI_leI ha hb).mpr q))
theorem g_gtT (c : nI b < nI a) : b < a := (nI_ltI hb ha).mp c
theorem g_gtF (c : ¬ nI b < nI a) : a ≤ b := Nat.not_lt.mp (fun q => c ((nI_ltI hb ha).mpr q))
theorem g_eqT (c : nI a = nI b) : a = b := (nI_eq ha hb).mp c
theorem g_eqF (c : ¬ nI a = nI b) : ¬ a = b := fun q => c ((nI_eq ha hb).mpr q)
theorem g_neT (c : ¬ nI a = nI b) : ¬ a = b := fun q => c ((nI_eq ha hb).mpr q)
theorem g_neF (c : nI a = nI b) : a = b := (nI_eq ha hb).mp c
end Cmp
theorem atL_out {L : List Int32} {i : Nat} (h : L.length ≤ i) : atL L i = 0 := by
  unfold atL; rw [List.getD_eq_getElem?_getD, List.getElem?_eq_none h]; rfl
theorem atL_in {L : List Int32} {i : Nat} (h : i < L.length) : atL L i = L[i] := by
  unfold atL; rw [List.getD_eq_getElem?_getD, List.getElem?_eq_getElem h]; rfl
theorem atL_eq {L : List Int32} {i : Nat} : L[i]? = if i < L.length then some (atL L i) else none := by
  split
  next h => rw [List.getElem?_eq_getElem h, atL_in h]
  next h => exact List.getElem?_eq_none (Nat.not_lt.mp h)
theorem atL_ext {L M : List Int32} (h : L.length = M.length) (he : ∀ i, i < L.length → atL L i = atL M i) : L = M := by
  apply List.ext_getElem h
  intro i h1 h2
  rw [← atL_in h1, ← atL_in h2]
  exact he i h1
theorem atL_appL {L M : List Int32} {i : Nat} (h : i < L.length) : atL (L ++ M) i = atL L i := by
  rw [atL_in (by rw [List.length_append]; omega), atL_in h, List.getElem_append_left h]
theorem atL_appR {L M : List Int32} {i : Nat} (h : L.length ≤ i) : atL (L ++ M) i = atL M (i - L.length) := by
  unfold atL; rw [List.getD_eq_getElem?_getD, List.getD_eq_getElem?_getD, List.getElem?_append_right h]
theorem atL_set {L : List Int32} {k i : Nat} {x : Int32} (hk : k < L.length) : atL (L.set k x) i = if i = k then x else atL L i := by
  unfold atL
  rw [List.getD_eq_getElem?_getD, List.getD_eq_getElem?_getD, List.getElem?_set]
  by_cases h : k = i
  · subst h; simp [hk]
  · rw [if_neg h, if_neg (fun q => h q.symm)]
theorem atL_take {L : List Int32} {k i : Nat} (h : i < k) : atL (L.take k) i = atL L i := by
  unfold atL
  rw [List.getD_eq_getElem?_getD, List.getD_eq_getElem?_getD, List.getElem?_take_of_lt h]
theorem atL_drop {L : List Int32} {k i : Nat} : atL (L.drop k) i = atL L (k + i) := by
  unfold atL
  rw [List.getD_eq_getElem?_getD, List.getD_eq_getElem?_getD, List.getElem?_drop]
theorem atL_snoc {L : List Int32} {x : Int32} : atL (L ++ [x]) L.length = x := by
  rw [atL_appR (Nat.le_refl _), Nat.sub_self]; rfl
theorem len_snoc {L : List Int32} {x : Int32} : (L ++ [x]).length = L.length + 1 := by simp
theorem take_snoc {M : List Int32} {k : Nat} (h : k < M.length) : M.take k ++ [atL M k] = M.take (k + 1) := by
  rw [atL_in h, List.take_append_getElem h]
theorem RI_nil {f : Nat → Int32} : RI [] f := ⟨Nat.zero_le _, fun i h => absurd h (Nat.not_lt_zero i)⟩
theorem RI_push {L : List Int32} {f : Nat → Int32} {x : Int32} (h : RI L f) (hl : L.length < 100) : RI (L ++ [x]) (upd f L.length x) := by
  refine ⟨by rw [len_snoc]; omega, fun i hi => ?_⟩
  rw [len_snoc] at hi
  by_cases e : i = L.length
  · subst e; rw [atL_snoc]; exact pk_us
  · rw [pk_un e, atL_appL (by omega)]; exact h.2 i (by omega)
theorem RI_set {L : List Int32} {f : Nat → Int32} {k : Nat} {x : Int32} (h : RI L f) (hk : k < L.length) : RI (L.set k x) (upd f k x) := by
  refine ⟨by rw [List.length_set]; exact h.1, fun i hi => ?_⟩
  rw [List.length_set] at hi
  rw [atL_set hk]
  by_cases e : i = k
  · subst e; rw [if_pos rfl]; exact pk_us
  · rw [pk_un e, if_neg e]; exact h.2 i hi
theorem RI_dropLast {L : List Int32} {f : Nat → Int32} (h : RI L f) : RI L.dropLast f := by
  refine ⟨by rw [List.length_dropLast]; have := h.1; omega, fun i hi => ?_⟩
  rw [List.length_dropLast] at hi
  rw [List.dropLast_eq_take, atL_take hi]
  exact h.2 i (by omega)
theorem turnL_len {L : List Int32} : (turnL L).length = L.length := by unfold turnL; simp
theorem atL_turn {L : List Int32} {k : Nat} (h : k < L.length) : atL (turnL L) k = -atL L (L.length - 1 - k) := by
  rw [atL_in (by rw [turnL_len]; exact h), atL_in (by omega)]
  unfold turnL
  simp
/-- sums over a word's letters -/
def accL (L : List Int32) (g : Int32 → Int32) : Nat → Int32
  | 0 => 0
  | k + 1 => accL L g k + g (atL L k)
