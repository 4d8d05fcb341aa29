/-! 07: a cut's length, what stands ahead of it; plain forms -/
theorem cnL_le {L : List Int32} {b : Nat} : ∀ {j : Nat}, cnL L b j ≤ j
  | 0 => Nat.le_refl _
  | j + 1 => by
    show cnL L b j + _ ≤ _
    have := cnL_le (L := L) (b := b) (j := j)
    split <;> omega
theorem ckL_len {L : List Int32} {b e : Nat} (hbe : b < e) : ∀ {k : Nat}, (ckL L b e k).length + (if b < k then 1 else 0) + (if e < k then 1 else 0) = k + 2 * cnL L b (min k e - (b + 1))
  | 0 => by simp [ckL, cnL]
  | k + 1 => by
    have ih := ckL_len (L := L) hbe (k := k)
    by_cases c1 : k = b
    · subst c1
      rw [ckL_skip (Or.inl rfl)]
      rw [if_neg (by omega), if_neg (by omega), show min k e - (k + 1) = 0 by omega] at ih
      rw [if_pos (by omega), if_neg (by omega), show min (k + 1) e - (k + 1) = 0 by omega]
      omega
    · by_cases c2 : k = e
      · subst c2
        rw [ckL_skip (Or.inr rfl)]
        rw [if_pos (by omega), if_neg (by omega), show min k k = k by omega] at ih
        rw [if_pos (by omega), if_pos (by omega), show min (k + 1) k = k by omega]
        omega
      · by_cases c3 : b < k ∧ k < e
        · obtain ⟨d, hd⟩ : ∃ d, k = b + 1 + d := ⟨k - (b + 1), by omega⟩
          rw [if_pos (by omega), if_neg (by omega), show min k e - (b + 1) = d by omega] at ih
          rw [if_pos (by omega), if_neg (by omega), show min (k + 1) e - (b + 1) = d + 1 by omega]
          by_cases c4 : abI (atL L k) = abI (atL L b) + 1
          · rw [ckL_three c3.1 c3.2 c4]
            have e1 : cnL L b (d + 1) = cnL L b d + 1 := by show _ + _ = _; rw [← hd, if_pos c4]
            rw [e1]
            simp only [List.length_append, List.length_cons, List.length_nil]
            omega
          · rw [ckL_one c1 c2 (fun q => c4 q.2.2)]
            have e1 : cnL L b (d + 1) = cnL L b d := by show _ + _ = _; rw [← hd, if_neg c4, Nat.add_zero]
            rw [e1]
            simp only [List.length_append, List.length_cons, List.length_nil]
            omega
        · rw [ckL_one c1 c2 (fun q => c3 ⟨q.1, q.2.1⟩)]
          simp only [List.length_append, List.length_cons, List.length_nil]
          by_cases c4 : k < b
          · rw [if_neg (by omega), if_neg (by omega), show min k e - (b + 1) = 0 by omega] at ih
            rw [if_neg (by omega), if_neg (by omega), show min (k + 1) e - (b + 1) = 0 by omega]
            omega
          · rw [if_pos (by omega), if_pos (by omega), show min k e = e by omega] at ih
            rw [if_pos (by omega), if_pos (by omega), show min (k + 1) e = e by omega]
            omega
theorem cutL_len {L : List Int32} {b e : Nat} (hbe : b < e) (he : e < L.length) : (cutL L b e).length + 2 = L.length + 2 * cnL L b (e - (b + 1)) := by
  have h := ckL_len (L := L) hbe (k := L.length)
  rw [if_pos (by omega), if_pos he, show min L.length e = e by omega] at h
  unfold cutL
  omega
theorem cut_more {L : List Int32} {b e : Nat} (hbe : b < e) (he : e < L.length) : nI L.length + moI (cnL L b (e - (b + 1))) = nI (cutL L b e).length := by
  have h := cutL_len hbe he
  unfold moI
  rw [show nI (cutL L b e).length = nI ((cutL L b e).length + 2) - 2 from by
    rw [← nI_add (cutL L b e).length 2]; exact (Int32.add_sub_cancel _ _).symm, h, ← nI_add, Int32.sub_eq_add_neg, Int32.sub_eq_add_neg, Int32.add_assoc]
theorem ckL_pre {L : List Int32} {b e : Nat} (hbe : b < e) : ∀ {k : Nat}, k ≤ b → k ≤ L.length → ckL L b e k = L.take k
  | 0, _, _ => rfl
  | k + 1, h1, h2 => by
    rw [ckL_one (by omega) (by omega) (fun q => by omega), ckL_pre hbe (by omega) (by omega), take_snoc (by omega)]
theorem ckL_ext {L : List Int32} {b e k : Nat} : ∀ {n : Nat}, k ≤ n → ∃ T, ckL L b e n = ckL L b e k ++ T
  | 0, h => ⟨[], by rw [show k = 0 by omega]; rfl⟩
  | n + 1, h => by
    by_cases c : k = n + 1
    · subst c; exact ⟨[], (List.append_nil _).symm⟩
    · obtain ⟨T, hT⟩ := ckL_ext (L := L) (b := b) (e := e) (k := k) (n := n) (by omega)
      show ∃ T, (if n = b ∨ n = e then ckL L b e n else if b < n ∧ n < e ∧ abI (atL L n) = abI (atL L b) + 1
        then ckL L b e n ++ [-sgI (atL L b) * (abI (atL L b) + 1)] ++ [sgI (atL L n) * abI (atL L b)] ++ [sgI (atL L b) * (abI (atL L b) + 1)]
        else ckL L b e n ++ [atL L n]) = _
      split
      · exact ⟨T, hT⟩
      · split
        · exact ⟨T ++ [-sgI (atL L b) * (abI (atL L b) + 1)] ++ [sgI (atL L n) * abI (atL L b)] ++ [sgI (atL L b) * (abI (atL L b) + 1)], by rw [hT]; simp⟩
        · exact ⟨T ++ [atL L n], by rw [hT]; simp⟩
theorem cutL_ahead {L : List Int32} {b e i : Nat} (hbe : b < e) (he : e < L.length) (hi : i < b) : atL (cutL L b e) i = atL L i := by
  obtain ⟨T, hT⟩ := ckL_ext (L := L) (b := b) (e := e) (k := b) (n := L.length) (by omega)
  unfold cutL
  rw [hT, ckL_pre hbe (Nat.le_refl _) (by omega), atL_appL (by simp; omega), atL_take hi]
theorem bgL_congr {L M : List Int32} {e : Nat} (he : atL L e = atL M e) : ∀ {k : Nat}, (∀ i, i < k → atL L i = atL M i) → bgL L e k = bgL M e k
  | 0, _ => rfl
  | k + 1, h => by
    have ih := bgL_congr he (k := k) (fun i hi => h i (by omega))
    show (if atL L k = -atL L e then some k else if abI (atL L k) = abI (atL L e) ∨ abI (atL L k) = abI (atL L e) - 1 then none else bgL L e k) = (if atL M k = -atL M e then some k else if abI (atL M k) = abI (atL M e) ∨ abI (atL M k) = abI (atL M e) - 1 then none else bgL M e k)
    rw [ih, h k (by omega), he]
theorem bg_congr {L M : List Int32} {e : Nat} (h : ∀ i, i ≤ e → atL L i = atL M i) : bg L e = bg M e := bgL_congr (h e (Nat.le_refl _)) (fun i hi => h i (by omega))
/-- nothing ends ahead of fr: the search may begin there -/
theorem enF_from {L : List Int32} : ∀ {fr : Nat}, (∀ j, j < fr → bg L j = none) → enF L fr = enF L 0
  | 0, _ => rfl
  | fr + 1, h => by
    have ih := enF_from (fr := fr) (fun j hj => h j (by omega))
    by_cases c : fr < L.length
    · rw [← enF_none c (h fr (by omega)), ih]
    · rw [← ih, enF_out (by omega), enF_out (by omega)]
theorem cut_none {L : List Int32} {b e j : Nat} (hbe : b < e) (he : e < L.length) (hn : ∀ i, i < e → bg L i = none) (hj : j < b) : bg (cutL L b e) j = none := by
  rw [bg_congr (M := L) (fun i hi => cutL_ahead hbe he (by omega))]
  exact hn j (by omega)
/-- cut, as long as there is a handle: r cuts are left, c are done -/
def mpL : Nat → Nat → List Int32 → Option (Nat × List Int32)
  | 0, c, L => match enF L 0 with
    | none => some (c, L)
    | some _ => none
  | r + 1, c, L => match enF L 0 with
    | none => some (c, L)
    | some e => if 100 < (cutL L ((bg L e).getD 0) e).length then none else mpL r (c + 1) (cutL L ((bg L e).getD 0) e)
def plain (L : List Int32) : Option (Nat × List Int32) := mpL 100 0 L
theorem mpL_end {r c : Nat} {L : List Int32} (h : enF L 0 = none) : mpL r c L = some (c, L) := by
  cases r <;> (unfold mpL; rw [h])
theorem mpL_out {c e : Nat} {L : List Int32} (h : enF L 0 = some e) : mpL 0 c L = none := by
  unfold mpL; rw [h]
theorem mpL_long {r c e b : Nat} {L : List Int32} (h : enF L 0 = some e) (hb : bg L e = some b) (hl : 100 < (cutL L b e).length) : mpL r c L = none := by
  cases r with
  | zero => exact mpL_out h
  | succ r => unfold mpL; rw [h]; show (if _ then _ else _) = _; rw [hb]; exact if_pos hl
theorem mpL_cut {r c e b : Nat} {L : List Int32} (h : enF L 0 = some e) (hb : bg L e = some b) (hl : (cutL L b e).length ≤ 100) : mpL (r + 1) c L = mpL r (c + 1) (cutL L b e) := by
  show (match enF L 0 with | none => some (c, L) | some e => if 100 < (cutL L ((bg L e).getD 0) e).length then none else mpL r (c + 1) (cutL L ((bg L e).getD 0) e)) = _
  rw [h]; show (if _ then _ else _) = _; rw [hb]; exact if_neg (by show ¬ 100 < (cutL L b e).length; omega)
/-- what is left to be made plain behind k cuts: lost behind 101 of them -/
def mpK (k : Nat) (L : List Int32) : Option (Nat × List Int32) := if k ≤ 100 then mpL (100 - k) k L else none
theorem mpK_zero {L : List Int32} : mpK 0 L = plain L := rfl
theorem mpK_out {k : Nat} {L : List Int32} (h : 100 < k) : mpK k L = none := if_neg (by omega)
theorem mpK_end {k : Nat} {L : List Int32} (h : enF L 0 = none) (hk : k ≤ 100) : mpK k L = some (k, L) := (if_pos hk).trans (mpL_end h)
theorem mpK_long {k e b : Nat} {L : List Int32} (h : enF L 0 = some e) (hb : bg L e = some b) (hl : 100 < (cutL L b e).length) : mpK k L = none := by
  by_cases hk : k ≤ 100
  · exact (if_pos hk).trans (mpL_long h hb hl)
  · exact if_neg hk
theorem mpK_cut {k e b : Nat} {L : List Int32} (h : enF L 0 = some e) (hb : bg L e = some b) (hl : (cutL L b e).length ≤ 100) (hk : k ≤ 100) : mpK k L = mpK (k + 1) (cutL L b e) := by
  by_cases h9 : k = 100
  · subst h9
    exact ((if_pos hk).trans (mpL_out h)).trans (if_neg (by decide)).symm
  · have e1 : mpK (k + 1) (cutL L b e) = mpL (100 - (k + 1)) (k + 1) (cutL L b e) := if_pos (by omega)
    have e2 : mpK k L = mpL (100 - k) k L := if_pos hk
    rw [e1, e2, show 100 - k = (100 - (k + 1)) + 1 by omega, mpL_cut h hb hl]
theorem mpL_small : ∀ {r c : Nat} {L P : List Int32} {k : Nat}, L.length ≤ 100 → mpL r c L = some (k, P) → k ≤ c + r ∧ P.length ≤ 100
  | 0, c, L, P, k, hl, h => by
    unfold mpL at h
    split at h
    · cases h; exact ⟨by omega, hl⟩
    · cases h
  | r + 1, c, L, P, k, hl, h => by
    unfold mpL at h
    split at h
    · cases h; exact ⟨by omega, hl⟩
    · split at h
      · cases h
      · next e he hc =>
        have := mpL_small (r := r) (by omega) h
        omega
theorem plain_small {L P : List Int32} {k : Nat} (hl : L.length ≤ 100) (h : plain L = some (k, P)) : k ≤ 100 ∧ P.length ≤ 100 := by
  have := mpL_small hl h
  omega
/-- the cuts that it takes, -9 where it is lost -/
def cuI (o : Option (Nat × List Int32)) : Int32 := match o with
  | none => -9
  | some q => nI q.1
/-- what plain() tells -/
def paI (o : Option (Nat × List Int32)) (q : Nat) : Int32 := match o with
  | none => -9
  | some z => if q = 0 then nI z.2.length else if q = 1 then nI z.1 else if q = 2 then sgI (loL z.2 (z.2.length - 1)) else abI (loL z.2 (z.2.length - 1))
def saI (o : Option (Nat × List Int32)) : Int32 := match o with
  | none => -9
  | some z => if z.2.length = 0 then 1 else 0
theorem nI_nm9 {b : Nat} (h : b < 2 ^ 31) : ¬ nI b = -9 := by
  intro q
  have h1 := congrArg Int32.toInt q
  rw [nI_toInt h] at h1
  have h2 : (-9 : Int32).toInt = -9 := by decide
  rw [h2] at h1
  omega
theorem cuI_no {o : Option (Nat × List Int32)} (hb : ∀ z, o = some z → z.1 ≤ 100) (h : cuI o = -9) : o = none := by
  cases o with
  | none => rfl
  | some z => exact absurd h (nI_nm9 (by have := hb z rfl; omega))
theorem cuI_yes {o : Option (Nat × List Int32)} (h : ¬ cuI o = -9) : ∃ z, o = some z := by
  cases o with
  | none => exact absurd rfl h
  | some z => exact ⟨z, rfl⟩
theorem plain_small' {L : List Int32} {z : Nat × List Int32} (hl : L.length ≤ 100) (h : plain L = some z) : z.1 ≤ 100 ∧ z.2.length ≤ 100 := plain_small (k := z.1) (P := z.2) hl h
/-- advise: a letter tried -/
def adStep (L : List Int32) (st : Int32 × Int32) (x : Int32) : Int32 × Int32 := if ¬ paI (plain (L ++ [x])) 0 = -9 ∧ paI (plain (L ++ [x])) 0 < st.2 then (x, paI (plain (L ++ [x])) 0) else st
/-- the letters of the heights 1 to k tried, the one greater than 0 first: the best, and its letters -/
def adH (L : List Int32) (n0 : Int32) : Nat → Int32 × Int32
  | 0 => (0, n0)
  | k + 1 => adStep L (adStep L (adH L n0 k) (nI (k + 1))) (-nI (k + 1))
theorem adStep_no {L : List Int32} {st : Int32 × Int32} {x : Int32} (h : ¬ (¬ paI (plain (L ++ [x])) 0 = -9 ∧ paI (plain (L ++ [x])) 0 < st.2)) : adStep L st x = st := if_neg h
theorem adStep_yes {L : List Int32} {st : Int32 × Int32} {x : Int32} (h1 : ¬ paI (plain (L ++ [x])) 0 = -9) (h2 : ¬ st.2 ≤ paI (plain (L ++ [x])) 0) : adStep L st x = (x, paI (plain (L ++ [x])) 0) := if_pos ⟨h1, Int32.not_le.mp h2⟩
theorem m1_mul (k : Nat) : (-1) * nI k = -nI k := by rw [Int32.neg_mul, Int32.one_mul]
/-- count(): the ropes, the letters of each word, their signs -/
def coI (rn : Nat) (L0 L1 : List Int32) (q : Nat) : Int32 := if q = 0 then nI rn else if q = 1 then nI L0.length else if q = 2 then nI L1.length else if q = 3 then accL L0 sgI L0.length else accL L1 sgI L1.length
def dg (d : Int64) (x : Int32) : Int64 := d * 31 + x.toInt64
def dgL (L : List Int32) (d : Int64) : Nat → Int64
  | 0 => d
  | k + 1 => dg (dgL L d k) (atL L k)
def dgE (L : List Int32) (d : Int64) : Nat → Int64
  | 0 => d
  | k + 1 => dg (dgE L d k) (plE L (nI k) L.length)
/-- a word's share of the checksum -/
def dgW (rn : Nat) (L : List Int32) (d : Int64) : Int64 := dg (dg (dg (dg (dg (dg (dg (dgE L (dgL L d L.length) rn) (haL L 0)) (haL L 1)) (haL L 2)) (paI (plain L) 0)) (paI (plain L) 1)) (paI (plain L) 2)) (paI (plain L) 3)
