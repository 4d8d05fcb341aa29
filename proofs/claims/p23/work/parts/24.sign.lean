/-! 24: a handle cut, a plain form: the same braid; the sign of a plain form is the braid's own -/
theorem bgL_in {L : List Int32} {e b : Nat} : ∀ {k : Nat}, bgL L e k = some b → ∀ j, b < j → j < k → ¬ abI (atL L j) = abI (atL L e) ∧ ¬ abI (atL L j) = abI (atL L e) - 1
  | 0, h => by cases h
  | k + 1, h => fun j h1 h2 => by
    unfold bgL at h
    split at h
    · cases h; omega
    · split at h
      · cases h
      · next c =>
        by_cases q : j = k
        · subst q; exact ⟨fun u => c (Or.inl u), fun u => c (Or.inr u)⟩
        · exact bgL_in h j h1 (by omega)
theorem bgL_find {L : List Int32} {e b : Nat} (hb : atL L b = -atL L e) : ∀ {k : Nat}, b < k → (∀ j, b < j → j < k → ¬ atL L j = -atL L e ∧ ¬ abI (atL L j) = abI (atL L e) ∧ ¬ abI (atL L j) = abI (atL L e) - 1) → bgL L e k = some b
  | 0, h, _ => absurd h (Nat.not_lt_zero b)
  | k + 1, h, hj => by
    unfold bgL
    by_cases c : k = b
    · subst c; exact if_pos hb
    · obtain ⟨h1, h2, h3⟩ := hj k (by omega) (by omega)
      rw [if_neg h1, if_neg (fun q => q.elim h2 h3)]
      exact bgL_find hb (by omega) (fun j a b => hj j a (by omega))
theorem enL_none {L : List Int32} : ∀ {r k : Nat}, enL L r k = none → ∀ j, k ≤ j → j < k + r → bg L j = none
  | 0, k, _ => fun j h1 h2 => absurd h1 (by omega)
  | r + 1, k, h => fun j h1 h2 => by
    unfold enL at h
    split at h
    · cases h
    · next hb =>
      by_cases c : j = k
      · subst c; exact hb
      · exact enL_none h j (by omega) (by omega)
theorem enF_all {L : List Int32} (h : enF L 0 = none) {j : Nat} (hj : j < L.length) : bg L j = none := enL_none h j (Nat.zero_le _) (by omega)
section
variable {σ : Type} {act : Int32 → σ → σ} {ok : σ → Prop}
theorem cut_eq (h : REP act ok) {L : List Int32} (hL : okW L) {b e : Nat} (he : e < L.length) (hb : bg L e = some b) : okW (cutL L b e) ∧ EQ act ok L (cutL L b e) := by
  have hbe := bg_lt hb
  have hn := bg_neg hb
  have ha : abI (atL L b) = abI (atL L e) := by rw [hn]; exact (okx_neg _ (okW_at hL he)).2.2.1
  have q := (ck_ok h hL he hbe hn (fun j h1 h2 => by rw [ha]; exact bgL_in hb j h1 h2) L.length).2 (Or.inr he) (Nat.le_refl _)
  rw [List.take_length] at q
  exact q
theorem mpL_eq (h : REP act ok) : ∀ {r c : Nat} {L : List Int32} {z : Nat × List Int32}, okW L → mpL r c L = some z → okW z.2 ∧ EQ act ok L z.2 ∧ enF z.2 0 = none ∧ c ≤ z.1 ∧ (¬ enF L 0 = none → c < z.1)
  | 0, c, L, z, hL, hz => by
    unfold mpL at hz
    split at hz
    · next hn => cases hz; exact ⟨hL, EQ_rf, hn, Nat.le_refl _, fun q => absurd hn q⟩
    · cases hz
  | r + 1, c, L, z, hL, hz => by
    unfold mpL at hz
    split at hz
    · next hn => cases hz; exact ⟨hL, EQ_rf, hn, Nat.le_refl _, fun q => absurd hn q⟩
    · next e he =>
      split at hz
      · cases hz
      · obtain ⟨-, he2, ⟨b, hb⟩, -⟩ := enF_spec he
        rw [hb] at hz
        have hz : mpL r (c + 1) (cutL L b e) = some z := hz
        obtain ⟨o1, q1⟩ := cut_eq h hL he2 hb
        obtain ⟨p1, p2, p3, p4, -⟩ := mpL_eq h o1 hz
        exact ⟨p1, EQ_tr q1 p2, p3, by omega, fun _ => by omega⟩
theorem plain_eq (h : REP act ok) {L : List Int32} {z : Nat × List Int32} (hL : okW L) (hz : plain L = some z) : okW z.2 ∧ EQ act ok L z.2 ∧ enF z.2 0 = none := by
  obtain ⟨h1, h2, h3, -, -⟩ := mpL_eq h hL hz
  exact ⟨h1, h2, h3⟩
end
/-- a letter's height -/
def hN (x : Int32) : Nat := (abI x).toNatClampNeg
theorem okx_h : ∀ x ∈ okList, 1 ≤ hN x ∧ hN x ≤ 5 ∧ abI x = nI (hN x) ∧ (sgI x = 1 ∨ sgI x = -1) ∧ hN (-x) = hN x ∧ decide (0 < -x) = !(decide (0 < x)) ∧ (sgI x = 1 ↔ decide (0 < x) = true) := by decide +kernel
theorem okx_hh : ∀ x ∈ okList, ∀ y ∈ okList, (abI x = abI y ↔ hN x = hN y) ∧ (abI x = abI y - 1 → hN x < hN y) ∧ (abI x < abI y ↔ hN x < hN y) ∧ (hN x = hN y → ¬ sgI x = sgI y → x = -y) ∧ (farI x y → hN x + 1 < hN y ∨ hN y + 1 < hN x) ∧ (nearI x y → decide (0 < x) = decide (0 < y) ∧ (hN y = hN x + 1 ∨ hN x = hN y + 1)) ∧ (x = -y → hN x = hN y) := by
  unfold farI nearI; decide +kernel
/-- a letter's flips -/
def dyL (x : Int32) (S : Nat → dyE) : Nat → dyE := dyA (decide (0 < x)) (hN x) S
theorem dy_rep : REP dyL (fun _ => True) := by
  refine ⟨fun _ _ _ _ => trivial, fun x hx s _ => ?_, fun x hx y hy hf s _ => ?_, fun x hx y hy hn s _ => ?_⟩
  · obtain ⟨h1, -, -, -, h5, h6, -⟩ := okx_h x hx
    unfold dyL
    rw [h5, h6]
    exact dyA_back h1
  · obtain ⟨-, -, -, -, h5, -, -⟩ := okx_hh x hx y hy
    unfold dyL
    rcases h5 hf with h | h
    · exact dyA_far h
    · exact (dyA_far h).symm
  · obtain ⟨-, -, -, -, -, h6, -⟩ := okx_hh x hx y hy
    obtain ⟨h1, -⟩ := okx_h x hx
    obtain ⟨h2, -⟩ := okx_h y hy
    obtain ⟨e, h7⟩ := h6 hn
    unfold dyL
    rw [e]
    rcases h7 with h | h
    · rw [h]; exact dyA_three h1
    · rw [h]; exact (dyA_three h2).symm
/-- s is the sign of the first line that has left its place -/
def dySg (S : Nat → dyE) (s : Int32) : Prop := (s = 0 ∧ ∀ j, 1 ≤ j → j ≤ 5 → dya (S j) = 0) ∨ ∃ i, 1 ≤ i ∧ i ≤ 5 ∧ (∀ j, 1 ≤ j → j < i → dya (S j) = 0) ∧ ((s = 1 ∧ 0 < dya (S i)) ∨ (s = -1 ∧ dya (S i) < 0))
theorem dySg_one {S : Nat → dyE} {s t : Int32} (h1 : dySg S s) (h2 : dySg S t) : s = t := by
  rcases h1 with ⟨e1, h1⟩ | ⟨i, i1, i2, i3, i4⟩
  · rcases h2 with ⟨e2, -⟩ | ⟨i, i1, i2, i3, i4⟩
    · rw [e1, e2]
    · have := h1 i i1 i2
      rcases i4 with ⟨-, h⟩ | ⟨-, h⟩ <;> omega
  · rcases h2 with ⟨e2, h2⟩ | ⟨j, j1, j2, j3, j4⟩
    · have := h2 i i1 i2
      rcases i4 with ⟨-, h⟩ | ⟨-, h⟩ <;> omega
    · rcases Nat.lt_trichotomy i j with c | c | c
      · have := j3 i i1 c
        rcases i4 with ⟨-, h⟩ | ⟨-, h⟩ <;> omega
      · subst c
        rcases i4 with ⟨e1, h⟩ | ⟨e1, h⟩ <;> rcases j4 with ⟨e2, h'⟩ | ⟨e2, h'⟩
        · rw [e1, e2]
        · omega
        · omega
        · rw [e1, e2]
      · have := i3 j j1 c
        rcases j4 with ⟨-, h⟩ | ⟨-, h⟩ <;> omega
/-- without a handle: letters of the least height have one sign alone -/
theorem nf_one {P : List Int32} (hP : okW P) (hn : enF P 0 = none) {m : Nat} (hm : ∀ k, k < P.length → m ≤ hN (atL P k)) : ∀ (d i j : Nat), j = i + d → j < P.length → hN (atL P i) = m → hN (atL P j) = m → sgI (atL P i) = sgI (atL P j)
  | d, i, j, hd, hj, e1, e2 => by
    by_cases c : ∃ k, i < k ∧ k < j ∧ hN (atL P k) = m
    · obtain ⟨k, k1, k2, k3⟩ := c
      exact (nf_one hP hn hm (k - i) i k (by omega) (by omega) e1 k3).trans (nf_one hP hn hm (j - k) k j (by omega) hj k3 e2)
    · by_cases hs : sgI (atL P i) = sgI (atL P j)
      · exact hs
      · exfalso
        have hi : i < P.length := by omega
        have hij : i < j := by
          rcases Nat.eq_zero_or_pos d with q | q
          · obtain rfl : j = i := by omega
            exact absurd rfl hs
          · omega
        have oj := okW_at hP hj
        have h1 := (okx_hh _ (okW_at hP hi) _ oj).2.2.2.1 (e1.trans e2.symm) hs
        have h2 : bg P j = some i := bgL_find h1 hij (fun k k1 k2 => by
          have ok := okW_at hP (show k < P.length by omega)
          have hk := hm k (by omega)
          obtain ⟨a1, a2, a3, -, -, -, a7⟩ := okx_hh _ ok _ oj
          have hk2 : ¬ hN (atL P k) = m := fun q => c ⟨k, k1, k2, q⟩
          refine ⟨fun q => ?_, fun q => ?_, fun q => ?_⟩
          · exact hk2 ((a7 q).trans e2)
          · exact hk2 ((a1.mp q).trans e2)
          · have := a2 q
            omega)
        rw [enF_all hn hj] at h2
        cases h2
termination_by d => d
/-- the first letter of the least height: where it stands -/
theorem loL_at {P : List Int32} (hP : okW P) : ∀ {k : Nat}, k < P.length → ∃ j, j ≤ k ∧ loL P k = atL P j ∧ ∀ m, m ≤ k → hN (atL P j) ≤ hN (atL P m)
  | 0, _ => ⟨0, Nat.le_refl _, rfl, fun m hm => by rw [show m = 0 by omega]; exact Nat.le_refl _⟩
  | k + 1, h => by
    obtain ⟨j, j1, j2, j3⟩ := loL_at hP (k := k) (by omega)
    have a := (okx_hh _ (okW_at hP h) _ (okW_at hP (show j < P.length by omega))).2.2.1
    show ∃ j, j ≤ k + 1 ∧ (if abI (atL P (k + 1)) < abI (loL P k) then atL P (k + 1) else loL P k) = atL P j ∧ ∀ m, m ≤ k + 1 → hN (atL P j) ≤ hN (atL P m)
    rw [j2]
    by_cases c : abI (atL P (k + 1)) < abI (atL P j)
    · refine ⟨k + 1, Nat.le_refl _, if_pos c, fun m hm => ?_⟩
      have c' := a.mp c
      by_cases q : m = k + 1
      · rw [q]; exact Nat.le_refl _
      · have := j3 m (by omega)
        omega
    · refine ⟨j, by omega, if_neg c, fun m hm => ?_⟩
      have c' : ¬ hN (atL P (k + 1)) < hN (atL P j) := fun q => c (a.mpr q)
      by_cases q : m = k + 1
      · rw [q]; omega
      · exact j3 m (by omega)
theorem dy_step {P : List Int32} (hP : okW P) {i : Nat} (hi : 1 ≤ i) (hm : ∀ k, k < P.length → i ≤ hN (atL P k)) {s : Int32} (hs : ∀ k, k < P.length → hN (atL P k) = i → sgI (atL P k) = s) :
    ∀ k, k ≤ P.length → (∀ m, m < i → foS dyL (P.take k) dy0 m = dy0 m) ∧ (((∀ m, m < k → ¬ hN (atL P m) = i) ∧ foS dyL (P.take k) dy0 i = dy0 i) ∨ ((s = 1 ∧ 0 < dya (foS dyL (P.take k) dy0 i)) ∨ (s = -1 ∧ dya (foS dyL (P.take k) dy0 i) < 0)))
  | 0, _ => ⟨fun _ _ => rfl, Or.inl ⟨fun m h => absurd h (Nat.not_lt_zero m), rfl⟩⟩
  | k + 1, hk => by
    obtain ⟨ih1, ih2⟩ := dy_step hP hi hm hs k (by omega)
    have hlt : k < P.length := by omega
    rw [foS_take hlt]
    generalize foS dyL (P.take k) dy0 = T at ih1 ih2 ⊢
    have hx := okW_at hP hlt
    have hh := hm k hlt
    obtain ⟨-, -, -, x4, -, -, x7⟩ := okx_h _ hx
    refine ⟨fun m h => ?_, ?_⟩
    · show dyA _ _ T m = _
      rw [dyA_2 (by omega) (by omega)]
      exact ih1 m h
    · by_cases c : hN (atL P k) = i
      · have hsk := hs k hlt c
        have e : dyL (atL P k) T i = dyP (decide (0 < atL P k)) (T (i - 1)).1 (T i) (T (i + 1)) := by
          unfold dyL
          rw [c]
          exact dyA_0
        rw [e]
        have hz : (T (i - 1)).1 = -2 * ((i - 1 : Nat) : Int) := by rw [ih1 (i - 1) (by omega)]; rfl
        right
        rcases x4 with q | q
        · have ed := x7.mp q
          rw [ed]
          left
          refine ⟨hsk.symm.trans q, ?_⟩
          rcases ih2 with ⟨-, h2⟩ | ⟨-, h2⟩ | ⟨h1, -⟩
          · refine dyP_up0 (by rw [h2]; rfl) (by rw [h2]; rfl) ?_
            rw [h2, hz]
            show -2 * (i : Int) < _
            omega
          · exact Int.lt_of_lt_of_le h2 (dyP_up _ _ _)
          · rw [← hsk, q] at h1
            exact absurd h1 (by decide)
        · have ed : decide (0 < atL P k) = false := by
            cases hd : decide (0 < atL P k) with
            | false => rfl
            | true => have := x7.mpr hd; rw [q] at this; exact absurd this (by decide)
          rw [ed]
          right
          refine ⟨hsk.symm.trans q, ?_⟩
          rcases ih2 with ⟨-, h2⟩ | ⟨h1, -⟩ | ⟨-, h2⟩
          · refine dyP_dn0 (by rw [h2]; rfl) (by rw [h2]; rfl) ?_
            rw [h2, hz]
            show -2 * (i : Int) < _
            omega
          · rw [← hsk, q] at h1
            exact absurd h1 (by decide)
          · exact Int.lt_of_le_of_lt (dyP_dn _ _ _) h2
      · have e : dyL (atL P k) T i = T i := dyA_2 (fun q => c q.symm) (by omega)
        rw [e]
        rcases ih2 with ⟨h1, h2⟩ | h2
        · left
          refine ⟨fun m hm2 => ?_, h2⟩
          by_cases q : m = k
          · rw [q]; exact c
          · exact h1 m (by omega)
        · exact Or.inr h2
/-- the sign of a plain form -/
def sgP (P : List Int32) : Int32 := sgI (loL P (P.length - 1))
theorem dy_sign {P : List Int32} (hP : okW P) (hn : enF P 0 = none) : dySg (foS dyL P dy0) (sgP P) := by
  rcases Nat.eq_zero_or_pos P.length with q | q
  · obtain rfl : P = [] := List.length_eq_zero_iff.mp q
    exact Or.inl ⟨by decide +kernel, fun j _ _ => rfl⟩
  · obtain ⟨j, j1, j2, j3⟩ := loL_at hP (k := P.length - 1) (by omega)
    have hx := okW_at hP (show j < P.length by omega)
    obtain ⟨x1, x2, -⟩ := okx_h _ hx
    have hm : ∀ k, k < P.length → hN (atL P j) ≤ hN (atL P k) := fun k hk => j3 k (by omega)
    have hs : ∀ k, k < P.length → hN (atL P k) = hN (atL P j) → sgI (atL P k) = sgI (atL P j) := fun k hk e => by
      rcases Nat.le_total k j with c | c
      · exact nf_one hP hn hm (j - k) k j (by omega) (by omega) e rfl
      · exact (nf_one hP hn hm (k - j) j k (by omega) hk rfl e).symm
    obtain ⟨s1, s2⟩ := dy_step hP x1 hm hs P.length (Nat.le_refl _)
    rw [List.take_length] at s1 s2
    right
    refine ⟨hN (atL P j), x1, x2, fun m _ h => by rw [s1 m h]; rfl, ?_⟩
    unfold sgP
    rw [j2]
    rcases s2 with ⟨h, -⟩ | h
    · exact absurd rfl (h j (by omega))
    · exact h
/-- the same braid: the same sign of both plain forms -/
theorem sg_same {L L' : List Int32} (hL : okW L) (hL' : okW L') (he : EQ dyL (fun _ => True) L L') {z z' : Nat × List Int32} (hz : plain L = some z) (hz' : plain L' = some z') : sgP z.2 = sgP z'.2 := by
  obtain ⟨a1, a2, a3⟩ := plain_eq dy_rep hL hz
  obtain ⟨b1, b2, b3⟩ := plain_eq dy_rep hL' hz'
  have e : foS dyL z.2 dy0 = foS dyL z'.2 dy0 := (a2 dy0 trivial).symm.trans ((he dy0 trivial).trans (b2 dy0 trivial))
  have h1 := dy_sign a1 a3
  rw [e] at h1
  exact dySg_one h1 (dy_sign b1 b3)
theorem sgP_zero {P : List Int32} (hP : okW P) : sgP P = 0 ↔ P.length = 0 := by
  constructor
  · intro h
    rcases Nat.eq_zero_or_pos P.length with q | q
    · exact q
    · obtain ⟨j, j1, j2, -⟩ := loL_at hP (k := P.length - 1) (by omega)
      obtain ⟨-, -, -, x4, -⟩ := okx_h _ (okW_at hP (show j < P.length by omega))
      unfold sgP at h
      rw [j2] at h
      rcases x4 with q | q <;> (rw [q] at h; exact absurd h (by decide))
  · intro h
    obtain rfl : P = [] := List.length_eq_zero_iff.mp h
    decide +kernel
