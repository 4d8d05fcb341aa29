/-! 06: handles, cuts and plain forms of lists of letters -/
theorem abI_nonneg {v : Int32} (h : 0 ≤ v) : v = abI v := by
  unfold abI
  rw [if_neg (Int32.not_lt.mpr h)]
theorem abI_neg {v : Int32} (h : ¬ 0 ≤ v) : -v = abI v := by
  unfold abI
  rw [if_pos (Int32.not_le.mp h)]
theorem sgI_neg {v : Int32} (h : ¬ 0 ≤ v) : -1 = sgI v := by
  unfold sgI
  rw [if_pos (Int32.not_le.mp h)]
theorem sgI_pos {v : Int32} (h : ¬ v ≤ 0) : 1 = sgI v := by
  have h2 := Int32.not_le.mp h
  unfold sgI
  rw [if_neg (fun q => by rw [Int32.lt_iff_toInt_lt] at h2 q; omega), if_pos h2]
theorem sgI_zero {v : Int32} (h1 : 0 ≤ v) (h2 : v ≤ 0) : 0 = sgI v := by
  unfold sgI
  rw [if_neg (Int32.not_lt.mpr h1), if_neg (Int32.not_lt.mpr h2)]
/-- where a rope hangs behind a letter -/
def plB (x q : Int32) : Int32 := if q = abI x - 1 then abI x else if q = abI x then abI x - 1 else q
def plE (L : List Int32) (r : Int32) : Nat → Int32
  | 0 => r
  | k + 1 => plB (atL L k) (plE L r k)
def crS (L : List Int32) (a b : Int32) : Nat → Int32
  | 0 => 0
  | k + 1 => crS L a b k + (if ¬ plE L a (k + 1) = plE L a k ∧ ¬ plE L b (k + 1) = plE L b k then sgI (atL L k) else 0)
/-- where the handle begins that ends at e, sought from k on downward -/
def bgL (L : List Int32) (e : Nat) : Nat → Option Nat
  | 0 => none
  | k + 1 => if atL L k = -atL L e then some k else if abI (atL L k) = abI (atL L e) ∨ abI (atL L k) = abI (atL L e) - 1 then none else bgL L e k
def bg (L : List Int32) (e : Nat) : Option Nat := bgL L e e
def oiI : Option Nat → Int32
  | none => -1
  | some k => nI k
def enL (L : List Int32) : Nat → Nat → Option Nat
  | 0, _ => none
  | r + 1, k => match bg L k with
    | some _ => some k
    | none => enL L r (k + 1)
/-- where the first handle ends, sought from k on -/
def enF (L : List Int32) (k : Nat) : Option Nat := enL L (L.length - k) k
theorem bgL_lt {L : List Int32} {e b : Nat} : ∀ {k : Nat}, bgL L e k = some b → b < k
  | 0, h => by cases h
  | k + 1, h => by
    unfold bgL at h
    split at h
    · cases h; exact Nat.lt_succ_self _
    · split at h
      · cases h
      · exact Nat.lt_succ_of_lt (bgL_lt h)
theorem bg_lt {L : List Int32} {e b : Nat} (h : bg L e = some b) : b < e := bgL_lt h
theorem bgL_neg {L : List Int32} {e b : Nat} : ∀ {k : Nat}, bgL L e k = some b → atL L b = -atL L e
  | 0, h => by cases h
  | k + 1, h => by
    unfold bgL at h
    split at h
    · next c => cases h; exact c
    · split at h
      · cases h
      · exact bgL_neg h
theorem bg_neg {L : List Int32} {e b : Nat} (h : bg L e = some b) : atL L b = -atL L e := bgL_neg h
theorem enF_out {L : List Int32} {k : Nat} (h : L.length ≤ k) : enF L k = none := by
  unfold enF; rw [show L.length - k = 0 by omega]; rfl
theorem enF_none {L : List Int32} {k : Nat} (h : k < L.length) (hb : bg L k = none) : enF L k = enF L (k + 1) := by
  unfold enF
  obtain ⟨r, hr⟩ : ∃ r, L.length - k = r + 1 := ⟨L.length - k - 1, by omega⟩
  rw [hr, show L.length - (k + 1) = r by omega]
  show (match bg L k with | some _ => some k | none => enL L r (k + 1)) = _
  rw [hb]
theorem enF_some {L : List Int32} {k b : Nat} (h : k < L.length) (hb : bg L k = some b) : enF L k = some k := by
  unfold enF
  obtain ⟨r, hr⟩ : ∃ r, L.length - k = r + 1 := ⟨L.length - k - 1, by omega⟩
  rw [hr]
  show (match bg L k with | some _ => some k | none => enL L r (k + 1)) = _
  rw [hb]
theorem enL_spec {L : List Int32} {e : Nat} : ∀ {r k : Nat}, enL L r k = some e → k ≤ e ∧ e < k + r ∧ (∃ b, bg L e = some b) ∧ ∀ j, k ≤ j → j < e → bg L j = none
  | 0, k, h => by cases h
  | r + 1, k, h => by
    unfold enL at h
    split at h
    · next b hb => cases h; exact ⟨Nat.le_refl _, by omega, ⟨b, hb⟩, fun j h1 h2 => absurd h1 (by omega)⟩
    · next hb =>
      obtain ⟨h1, h2, h3, h4⟩ := enL_spec h
      refine ⟨by omega, by omega, h3, fun j j1 j2 => ?_⟩
      by_cases c : j = k
      · subst c; exact hb
      · exact h4 j (by omega) j2
theorem enF_spec {L : List Int32} {k e : Nat} (h : enF L k = some e) : k ≤ e ∧ e < L.length ∧ (∃ b, bg L e = some b) ∧ ∀ j, k ≤ j → j < e → bg L j = none := by
  obtain ⟨h1, h2, h3, h4⟩ := enL_spec h
  exact ⟨h1, by omega, h3, h4⟩
theorem nI_nm1 {b : Nat} (h : b < 2 ^ 31) : ¬ nI b = -1 := by
  intro q
  have h1 := congrArg Int32.toInt q
  rw [nI_toInt h] at h1
  have h2 : (-1 : Int32).toInt = -1 := by decide
  rw [h2] at h1
  omega
theorem oiI_no {o : Option Nat} (hb : ∀ b, o = some b → b < 2 ^ 31) (h : oiI o = -1) : o = none := by
  cases o with
  | none => rfl
  | some b => exact absurd h (nI_nm1 (hb b rfl))
theorem oiI_yes {o : Option Nat} (h : ¬ oiI o = -1) : ∃ b, o = some b := by
  cases o with
  | none => exact absurd rfl h
  | some b => exact ⟨b, rfl⟩
theorem bg_small {L : List Int32} {e : Nat} (he : e ≤ 1000) : ∀ b, bg L e = some b → b < 2 ^ 31 := fun b h => by have := bg_lt h; omega
theorem enF_small {L : List Int32} {k : Nat} (he : L.length ≤ 1000) : ∀ b, enF L k = some b → b < 2 ^ 31 := fun b h => by have := (enF_spec h).2.1; omega
/-- the letters between, a height above: how many of the first j behind b -/
def cnL (L : List Int32) (b : Nat) : Nat → Nat
  | 0 => 0
  | j + 1 => cnL L b j + (if abI (atL L (b + 1 + j)) = abI (atL L b) + 1 then 1 else 0)
def moI (c : Nat) : Int32 := nI (2 * c) - 2
theorem moI_0 : moI 0 = -2 := by decide
theorem moI_1 (c : Nat) : moI c + 2 = moI (c + 1) := by
  unfold moI
  have e : nI (2 * (c + 1)) = nI (2 * c) + 2 := by
    rw [show 2 * (c + 1) = 2 * c + 2 by omega]; exact (nI_add (2 * c) 2).symm
  rw [e, Int32.sub_add_cancel, Int32.add_sub_cancel]
/-- the word behind cutting the handle from b to e: what its first k letters become -/
def ckL (L : List Int32) (b e : Nat) : Nat → List Int32
  | 0 => []
  | k + 1 => if k = b ∨ k = e then ckL L b e k else if b < k ∧ k < e ∧ abI (atL L k) = abI (atL L b) + 1
      then ckL L b e k ++ [-sgI (atL L b) * (abI (atL L b) + 1)] ++ [sgI (atL L k) * abI (atL L b)] ++ [sgI (atL L b) * (abI (atL L b) + 1)]
      else ckL L b e k ++ [atL L k]
def cutL (L : List Int32) (b e : Nat) : List Int32 := ckL L b e L.length
theorem ckL_mono {L : List Int32} {b e : Nat} : ∀ {n k : Nat}, k ≤ n → (ckL L b e k).length ≤ (ckL L b e n).length
  | 0, k, h => by rw [show k = 0 by omega]; exact Nat.le_refl _
  | n + 1, k, h => by
    by_cases c : k = n + 1
    · subst c; exact Nat.le_refl _
    · have ih := ckL_mono (L := L) (b := b) (e := e) (n := n) (k := k) (by omega)
      refine Nat.le_trans ih ?_
      show (ckL L b e n).length ≤ (if n = b ∨ n = e then ckL L b e n else if b < n ∧ n < e ∧ abI (atL L n) = abI (atL L b) + 1
        then ckL L b e n ++ [-sgI (atL L b) * (abI (atL L b) + 1)] ++ [sgI (atL L n) * abI (atL L b)] ++ [sgI (atL L b) * (abI (atL L b) + 1)]
        else ckL L b e n ++ [atL L n]).length
      split
      · exact Nat.le_refl _
      · split
        · simp only [List.length_append, List.length_cons, List.length_nil]; omega
        · simp only [List.length_append, List.length_cons, List.length_nil]; omega
theorem ckL_skip {L : List Int32} {b e k : Nat} (h : k = b ∨ k = e) : ckL L b e (k + 1) = ckL L b e k := by
  show (if k = b ∨ k = e then _ else _) = _
  rw [if_pos h]
theorem ckL_three {L : List Int32} {b e k : Nat} (h1 : b < k) (h2 : k < e) (h : abI (atL L k) = abI (atL L b) + 1) : ckL L b e (k + 1) = ckL L b e k ++ [-sgI (atL L b) * (abI (atL L b) + 1)] ++ [sgI (atL L k) * abI (atL L b)] ++ [sgI (atL L b) * (abI (atL L b) + 1)] := by
  show (if k = b ∨ k = e then _ else if b < k ∧ k < e ∧ abI (atL L k) = abI (atL L b) + 1 then _ else _) = _
  rw [if_neg (by omega), if_pos ⟨h1, h2, h⟩]
theorem ckL_one {L : List Int32} {b e k : Nat} (h0 : ¬ k = b) (h1 : ¬ k = e) (h : ¬ (b < k ∧ k < e ∧ abI (atL L k) = abI (atL L b) + 1)) : ckL L b e (k + 1) = ckL L b e k ++ [atL L k] := by
  show (if k = b ∨ k = e then _ else if b < k ∧ k < e ∧ abI (atL L k) = abI (atL L b) + 1 then _ else _) = _
  rw [if_neg (by omega), if_neg h]
/-- what handle() tells: 0 its first place, 1 its last, 2 how many letters more -/
def haL (L : List Int32) (w : Nat) : Int32 := match enF L 0 with
  | none => if w = 2 then 0 else -1
  | some e => match bg L e with
    | none => 0
    | some b => if w = 0 then nI b else if w = 1 then nI e else moI (cnL L b (e - (b + 1)))
/-- the first letter of the least height -/
def loL (L : List Int32) : Nat → Int32
  | 0 => atL L 0
  | k + 1 => if abI (atL L (k + 1)) < abI (loL L k) then atL L (k + 1) else loL L k
