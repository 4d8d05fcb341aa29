/-! 22: lines drawn over the ropes: three numbers at each place; a letter changes those of its two places, by flips -/
abbrev dyE := Int × Int × Int
def dyF : dyE → dyE := fun e => (e.1, e.2.2, e.2.1)
def dyh (a b : dyE) : Int := max (a.2.1 + b.2.2) (a.2.2 + b.2.1) - a.1
def dyU (z : Int) (a b : dyE) : Int := max (a.2.1 + b.2.2) (dyh a b + z) - a.2.2
def dyD (a b : dyE) : Int := max (a.2.1 + b.2.2) (dyh a b + b.1) - b.2.1
def dyV (z : Int) (a b : dyE) : Int := max (dyU z a b + dyD a b) (b.2.2 + a.2.1) - dyh a b
def dyX (z : Int) (a b : dyE) : dyE := (dyV z a b, dyU z a b, b.2.2)
def dyY (a b : dyE) : dyE := (b.1, a.2.1, dyD a b)
theorem dyF_F (e : dyE) : dyF (dyF e) = e := rfl
theorem dy_back (z : Int) (a b : dyE) : dyX z (dyF (dyX z a b)) (dyF (dyY a b)) = dyF a ∧ dyY (dyF (dyX z a b)) (dyF (dyY a b)) = dyF b := by
  obtain ⟨v1, u1, d1⟩ := a
  obtain ⟨v2, u2, d2⟩ := b
  obtain ⟨h, hh⟩ : ∃ h, h = dyh (v1, u1, d1) (v2, u2, d2) := ⟨_, rfl⟩
  obtain ⟨U, hU⟩ : ∃ U, U = dyU z (v1, u1, d1) (v2, u2, d2) := ⟨_, rfl⟩
  obtain ⟨D, hD⟩ : ∃ D, D = dyD (v1, u1, d1) (v2, u2, d2) := ⟨_, rfl⟩
  obtain ⟨V, hV⟩ : ∃ V, V = dyV z (v1, u1, d1) (v2, u2, d2) := ⟨_, rfl⟩
  have e1 : dyX z (v1, u1, d1) (v2, u2, d2) = (V, U, d2) := by rw [hV, hU]; exact rfl
  have e2 : dyY (v1, u1, d1) (v2, u2, d2) = (v2, u1, D) := by rw [hD]; exact rfl
  have hh' : h = max (u1 + d2) (d1 + u2) - v1 := hh
  have hU' : U = max (u1 + d2) (h + z) - d1 := by rw [hU, hh]; exact rfl
  have hD' : D = max (u1 + d2) (h + v2) - u2 := by rw [hD, hh]; exact rfl
  have hV' : V = max (U + D) (d2 + u1) - h := by rw [hV, hU, hD, hh]; exact rfl
  have g1 : dyh (V, d2, U) (v2, D, u1) = h := by
    show max (d2 + u1) (U + D) - V = h
    rw [Int.max_comm (d2 + u1), hV']
    omega
  have g2 : dyU z (V, d2, U) (v2, D, u1) = d1 := by
    show max (d2 + u1) (dyh (V, d2, U) (v2, D, u1) + z) - U = d1
    rw [g1, hU', Int.add_comm d2 u1]
    omega
  have g3 : dyD (V, d2, U) (v2, D, u1) = u2 := by
    show max (d2 + u1) (dyh (V, d2, U) (v2, D, u1) + v2) - D = u2
    rw [g1, hD', Int.add_comm d2 u1]
    omega
  have g4 : dyV z (V, d2, U) (v2, D, u1) = v1 := by
    show max (dyU z (V, d2, U) (v2, D, u1) + dyD (V, d2, U) (v2, D, u1)) (u1 + d2) - dyh (V, d2, U) (v2, D, u1) = v1
    rw [g1, g2, g3, Int.max_comm (d1 + u2), hh']
    omega
  rw [e1, e2]
  refine ⟨?_, ?_⟩
  · show (dyV z (V, d2, U) (v2, D, u1), dyU z (V, d2, U) (v2, D, u1), u1) = ((v1, d1, u1) : dyE)
    rw [g2, g4]
  · show (v2, d2, dyD (V, d2, U) (v2, D, u1)) = ((v2, d2, u2) : dyE)
    rw [g3]
theorem dy_three (z : Int) (a b c : dyE) : dyX z (dyX z a b) (dyX (dyX z a b).1 (dyY a b) c) = dyX z a (dyX a.1 b c) ∧ dyY (dyX z a b) (dyX (dyX z a b).1 (dyY a b) c) = dyX (dyX z a (dyX a.1 b c)).1 (dyY a (dyX a.1 b c)) (dyY b c) ∧ dyY (dyY a b) c = dyY (dyY a (dyX a.1 b c)) (dyY b c) := by
  obtain ⟨v1, u1, d1⟩ := a
  obtain ⟨v2, u2, d2⟩ := b
  obtain ⟨v3, u3, d3⟩ := c
  have h := dy_yb z v1 v2 v3 u1 u2 u3 d1 d2 d3 _ rfl _ rfl _ rfl _ rfl _ rfl _ rfl _ rfl _ rfl _ rfl _ rfl _ rfl _ rfl _ rfl _ rfl _ rfl _ rfl _ rfl _ rfl _ rfl _ rfl _ rfl _ rfl _ rfl _ rfl
  obtain ⟨q1, q2, q3, q4, q5, q6⟩ := h
  refine ⟨Prod.ext q1 (Prod.ext q2 rfl), Prod.ext q3 (Prod.ext q4 q5), Prod.ext rfl (Prod.ext rfl q6)⟩
/-- the two places that a letter changes: p where it is greater than 0 -/
def dyP (p : Bool) (z : Int) (a b : dyE) : dyE := match p with
  | true => dyX z a b
  | false => dyF (dyX z (dyF a) (dyF b))
def dyQ (p : Bool) (a b : dyE) : dyE := match p with
  | true => dyY a b
  | false => dyF (dyY (dyF a) (dyF b))
theorem dyQ_1 (p : Bool) (a b : dyE) : (dyQ p a b).1 = b.1 := by cases p <;> rfl
theorem dyP_back (p : Bool) (z : Int) (a b : dyE) : dyP (!p) z (dyP p z a b) (dyQ p a b) = a ∧ dyQ (!p) (dyP p z a b) (dyQ p a b) = b := by
  cases p with
  | true =>
    obtain ⟨h1, h2⟩ := dy_back z a b
    exact ⟨(congrArg dyF h1).trans (dyF_F a), (congrArg dyF h2).trans (dyF_F b)⟩
  | false =>
    obtain ⟨h1, h2⟩ := dy_back z (dyF a) (dyF b)
    exact ⟨h1.trans (dyF_F a), h2.trans (dyF_F b)⟩
def dyA (p : Bool) (i : Nat) (S : Nat → dyE) : Nat → dyE := fun k => if k = i then dyP p (S (i - 1)).1 (S i) (S (i + 1)) else if k = i + 1 then dyQ p (S i) (S (i + 1)) else S k
theorem dyA_0 {p : Bool} {i : Nat} {S : Nat → dyE} : dyA p i S i = dyP p (S (i - 1)).1 (S i) (S (i + 1)) := if_pos rfl
theorem dyA_1 {p : Bool} {i : Nat} {S : Nat → dyE} : dyA p i S (i + 1) = dyQ p (S i) (S (i + 1)) := (if_neg (by omega)).trans (if_pos rfl)
theorem dyA_2 {p : Bool} {i k : Nat} {S : Nat → dyE} (h1 : ¬ k = i) (h2 : ¬ k = i + 1) : dyA p i S k = S k := (if_neg h1).trans (if_neg h2)
theorem dyA_v {p : Bool} {i k : Nat} {S : Nat → dyE} (h1 : ¬ k = i) : (dyA p i S k).1 = (S k).1 := by
  by_cases h2 : k = i + 1
  · subst h2; rw [dyA_1]; exact dyQ_1 p _ _
  · rw [dyA_2 h1 h2]
theorem dyA_back {p : Bool} {i : Nat} (hi : 1 ≤ i) {S : Nat → dyE} : dyA (!p) i (dyA p i S) = S := by
  obtain ⟨h1, h2⟩ := dyP_back p (S (i - 1)).1 (S i) (S (i + 1))
  funext k
  by_cases c : k = i
  · subst c
    rw [dyA_0, dyA_0, dyA_1, dyA_v (by omega)]
    exact h1
  · by_cases c2 : k = i + 1
    · subst c2
      rw [dyA_1, dyA_0, dyA_1]
      exact h2
    · rw [dyA_2 c c2, dyA_2 c c2]
theorem dyA_far {p q : Bool} {i j : Nat} (hij : i + 1 < j) {S : Nat → dyE} : dyA p i (dyA q j S) = dyA q j (dyA p i S) := by
  funext k
  by_cases c : k = i
  · subst c
    rw [dyA_0, dyA_2 (i := j) (by omega) (by omega), dyA_2 (i := j) (by omega) (by omega), dyA_2 (i := j) (by omega) (by omega), dyA_2 (i := j) (by omega) (by omega), dyA_0]
  · by_cases c2 : k = i + 1
    · subst c2
      rw [dyA_1, dyA_2 (i := j) (by omega) (by omega), dyA_2 (i := j) (by omega) (by omega), dyA_2 (i := j) (by omega) (by omega), dyA_1]
    · rw [dyA_2 c c2]
      by_cases c3 : k = j
      · subst c3
        rw [dyA_0, dyA_0, dyA_v (i := i) (by omega), dyA_2 (i := i) (by omega) (by omega), dyA_2 (i := i) (by omega) (by omega)]
      · by_cases c4 : k = j + 1
        · subst c4
          rw [dyA_1, dyA_1, dyA_2 (i := i) (by omega) (by omega), dyA_2 (i := i) (by omega) (by omega)]
        · rw [dyA_2 c3 c4, dyA_2 c3 c4, dyA_2 c c2]
def dyG (S : Nat → dyE) : Nat → dyE := fun k => dyF (S k)
theorem dyA_G {i : Nat} {S : Nat → dyE} : dyA false i S = dyG (dyA true i (dyG S)) := by
  funext k
  show dyA false i S k = dyF (dyA true i (dyG S) k)
  by_cases c : k = i
  · subst c; rw [dyA_0, dyA_0]; rfl
  · by_cases c2 : k = i + 1
    · subst c2; rw [dyA_1, dyA_1]; rfl
    · rw [dyA_2 c c2, dyA_2 c c2]; rfl
theorem dyA_threeT {i : Nat} (hi : 1 ≤ i) {S : Nat → dyE} : dyA true i (dyA true (i + 1) (dyA true i S)) = dyA true (i + 1) (dyA true i (dyA true (i + 1) S)) := by
  obtain ⟨h1, h2, h3⟩ := dy_three (S (i - 1)).1 (S i) (S (i + 1)) (S (i + 1 + 1))
  have es : i + 1 - 1 = i := by omega
  have a1 : dyA true (i + 1) (dyA true i S) (i + 1) = dyX (dyX (S (i - 1)).1 (S i) (S (i + 1))).1 (dyY (S i) (S (i + 1))) (S (i + 1 + 1)) := by
    rw [dyA_0, es, dyA_0, dyA_1, dyA_2 (i := i) (by omega) (by omega)]; rfl
  have a2 : dyA true (i + 1) (dyA true i S) i = dyX (S (i - 1)).1 (S i) (S (i + 1)) := by
    rw [dyA_2 (i := i + 1) (by omega) (by omega), dyA_0]; rfl
  have a3 : (dyA true (i + 1) (dyA true i S) (i - 1)).1 = (S (i - 1)).1 := by
    rw [dyA_v (by omega), dyA_v (by omega)]
  have a4 : dyA true (i + 1) (dyA true i S) (i + 1 + 1) = dyY (dyY (S i) (S (i + 1))) (S (i + 1 + 1)) := by
    rw [dyA_1, dyA_1, dyA_2 (i := i) (by omega) (by omega)]; rfl
  have b1 : dyA true i (dyA true (i + 1) S) i = dyX (S (i - 1)).1 (S i) (dyX (S i).1 (S (i + 1)) (S (i + 1 + 1))) := by
    rw [dyA_0, dyA_v (i := i + 1) (by omega), dyA_2 (i := i + 1) (k := i) (by omega) (by omega), dyA_0, es]; rfl
  have b2 : dyA true i (dyA true (i + 1) S) (i + 1) = dyY (S i) (dyX (S i).1 (S (i + 1)) (S (i + 1 + 1))) := by
    rw [dyA_1, dyA_2 (i := i + 1) (k := i) (by omega) (by omega), dyA_0, es]; rfl
  have b3 : dyA true i (dyA true (i + 1) S) (i + 1 + 1) = dyY (S (i + 1)) (S (i + 1 + 1)) := by
    rw [dyA_2 (i := i) (by omega) (by omega), dyA_1]; rfl
  funext k
  by_cases c : k = i
  · subst c
    rw [dyA_0, a1, a2, a3, dyA_2 (i := k + 1) (k := k) (by omega) (by omega), b1]
    exact h1
  · by_cases c2 : k = i + 1
    · subst c2
      rw [dyA_1, a1, a2, dyA_0, es, b1, b2, b3]
      exact h2
    · rw [dyA_2 c c2]
      by_cases c3 : k = i + 1 + 1
      · subst c3
        rw [a4, dyA_1, b2, b3]
        exact h3
      · rw [dyA_2 c2 c3, dyA_2 c2 c3, dyA_2 c c2, dyA_2 c c2, dyA_2 c2 c3]
theorem dyA_three {p : Bool} {i : Nat} (hi : 1 ≤ i) {S : Nat → dyE} : dyA p i (dyA p (i + 1) (dyA p i S)) = dyA p (i + 1) (dyA p i (dyA p (i + 1) S)) := by
  cases p with
  | true => exact dyA_threeT hi
  | false =>
    rw [dyA_G, dyA_G (i := i + 1), dyA_G (i := i)]
    rw [dyA_G (i := i + 1), dyA_G (i := i), dyA_G (i := i + 1)]
    exact congrArg dyG (dyA_threeT hi (S := dyG S))
/-- what the first line that has left its place says -/
def dya (e : dyE) : Int := e.2.1 - e.2.2
theorem dyP_up (z : Int) (a b : dyE) : dya a ≤ dya (dyP true z a b) := by
  show a.2.1 - a.2.2 ≤ dyU z a b - b.2.2
  unfold dyU
  have := Int.le_max_left (a.2.1 + b.2.2) (dyh a b + z)
  omega
theorem dyP_up0 {z : Int} {a b : dyE} (h1 : a.2.1 = 0) (h2 : a.2.2 = 0) (hz : a.1 < z) : 0 < dya (dyP true z a b) := by
  show 0 < dyU z a b - b.2.2
  unfold dyU dyh
  have := Int.le_max_right (a.2.1 + b.2.2) (max (a.2.1 + b.2.2) (a.2.2 + b.2.1) - a.1 + z)
  have := Int.le_max_left (a.2.1 + b.2.2) (a.2.2 + b.2.1)
  omega
theorem dya_F (e : dyE) : dya (dyF e) = - dya e := by
  show e.2.2 - e.2.1 = -(e.2.1 - e.2.2)
  omega
theorem dyP_dn (z : Int) (a b : dyE) : dya (dyP false z a b) ≤ dya a := by
  have h := dyP_up z (dyF a) (dyF b)
  show dya (dyF (dyX z (dyF a) (dyF b))) ≤ dya a
  rw [dya_F] at h ⊢
  have h' : -dya a ≤ dya (dyX z (dyF a) (dyF b)) := h
  omega
theorem dyP_dn0 {z : Int} {a b : dyE} (h1 : a.2.1 = 0) (h2 : a.2.2 = 0) (hz : a.1 < z) : dya (dyP false z a b) < 0 := by
  have h := dyP_up0 (z := z) (a := dyF a) (b := dyF b) h2 h1 hz
  show dya (dyF (dyX z (dyF a) (dyF b))) < 0
  rw [dya_F]
  have h' : 0 < dya (dyX z (dyF a) (dyF b)) := h
  omega
/-- at first -/
def dy0 : Nat → dyE := fun k => (-2 * (k : Int), 0, 0)
