/-! 23: ropes as the reference hangs them: which one at a place -/
def htN (x : Int32) : Nat := (abI x).toNatClampNeg
def hgF (L : List Int32) : Nat → Nat → Int32
  | 0, p => nI p
  | k + 1, p => if p = htN (atL L k) - 1 then hgF L k (htN (atL L k)) else if p = htN (atL L k) then hgF L k (htN (atL L k) - 1) else hgF L k p
def hsS (L : List Int32) (a b : Int32) : Nat → Int32
  | 0 => 0
  | k + 1 => hsS L a b k + (if (hgF L k (htN (atL L k) - 1) = a ∧ hgF L k (htN (atL L k)) = b) ∨ (hgF L k (htN (atL L k) - 1) = b ∧ hgF L k (htN (atL L k)) = a) then sgI (atL L k) else 0)
theorem nI_m1 {h : Nat} (h1 : 1 ≤ h) : nI h - 1 = nI (h - 1) := (plI_sub _).trans (plI_pred h1)
/-- the place of a rope -/
theorem hg_pl {rn : Nat} (hr : rn ∈ rnS) (h6 : rn ≤ 6) {L : List Int32} (h : okL rn L) {r : Nat} (hrr : r < rn) : ∀ {k : Nat}, k ≤ L.length → ∃ P, P < rn ∧ plE L (nI r) k = nI P ∧ hgF L k P = nI r ∧ ∀ j, j < rn → hgF L k j = nI r → j = P
  | 0, _ => ⟨r, hrr, rfl, rfl, fun j hj e => (nI_eq (by omega) (by omega)).mp e⟩
  | k + 1, hk => by
    obtain ⟨P, h1, h2, h3, h4⟩ := hg_pl hr h6 h hrr (k := k) (by omega)
    obtain ⟨q1, q2, q3⟩ := ok_h rn hr _ (okL_at h (show k < L.length by omega))
    have q1 : htN (atL L k) < rn := q1
    have q2 : 1 ≤ htN (atL L k) := q2
    have q3 : abI (atL L k) = nI (htN (atL L k)) := q3
    have e1 : plE L (nI r) (k + 1) = plB (atL L k) (nI P) := by show plB (atL L k) (plE L (nI r) k) = _; rw [h2]
    generalize hht : htN (atL L k) = hh at q1 q2 q3
    have e2 : ∀ p, hgF L (k + 1) p = if p = hh - 1 then hgF L k hh else if p = hh then hgF L k (hh - 1) else hgF L k p := fun p => by rw [← hht]; rfl
    rw [e1]
    unfold plB
    rw [q3, nI_m1 q2]
    by_cases c1 : P = hh - 1
    · refine ⟨hh, q1, by rw [if_pos (by rw [c1])], by rw [e2, if_neg (by omega), if_pos rfl, ← c1]; exact h3, fun j hj e => ?_⟩
      rw [e2] at e
      by_cases d1 : j = hh - 1
      · rw [if_pos d1] at e
        have := h4 hh q1 e
        omega
      · rw [if_neg d1] at e
        by_cases d2 : j = hh
        · exact d2
        · rw [if_neg d2] at e
          have := h4 j hj e
          omega
    · by_cases c2 : P = hh
      · refine ⟨hh - 1, by omega, by rw [if_neg (fun q => c1 ((nI_eq (by omega) (by omega)).mp q)), if_pos (by rw [c2])], by rw [e2, if_pos rfl, ← c2]; exact h3, fun j hj e => ?_⟩
        rw [e2] at e
        by_cases d1 : j = hh - 1
        · exact d1
        · rw [if_neg d1] at e
          by_cases d2 : j = hh
          · rw [if_pos d2] at e
            have := h4 (hh - 1) (by omega) e
            omega
          · rw [if_neg d2] at e
            have := h4 j hj e
            omega
      · refine ⟨P, h1, by rw [if_neg (fun q => c1 ((nI_eq (by omega) (by omega)).mp q)), if_neg (fun q => c2 ((nI_eq (by omega) (by omega)).mp q))], by rw [e2, if_neg c1, if_neg c2]; exact h3, fun j hj e => ?_⟩
        rw [e2] at e
        by_cases d1 : j = hh - 1
        · rw [if_pos d1] at e
          have := h4 hh q1 e
          omega
        · rw [if_neg d1] at e
          by_cases d2 : j = hh
          · rw [if_pos d2] at e
            have := h4 (hh - 1) (by omega) e
            omega
          · rw [if_neg d2] at e
            exact h4 j hj e
theorem plB_id {rn : Nat} (hr : rn ∈ rnS) (h6 : rn ≤ 6) {x : Int32} (hx : x ∈ okr rn) {P : Nat} (hP : P < rn) : (¬ plB x (nI P) = nI P) ↔ (P = htN x - 1 ∨ P = htN x) := by
  obtain ⟨q1, q2, q3⟩ := ok_h rn hr _ hx
  have q1 : htN x < rn := q1
  have q2 : 1 ≤ htN x := q2
  have q3 : abI x = nI (htN x) := q3
  generalize htN x = hh at q1 q2 q3
  unfold plB
  rw [q3, nI_m1 q2]
  by_cases c1 : P = hh - 1
  · rw [if_pos (by rw [c1])]
    exact ⟨fun _ => Or.inl c1, fun _ e => by have := (nI_eq (by omega) (by omega)).mp e; omega⟩
  · rw [if_neg (fun q => c1 ((nI_eq (by omega) (by omega)).mp q))]
    by_cases c2 : P = hh
    · rw [if_pos (by rw [c2])]
      exact ⟨fun _ => Or.inr c2, fun _ e => by have := (nI_eq (by omega) (by omega)).mp e; omega⟩
    · rw [if_neg (fun q => c2 ((nI_eq (by omega) (by omega)).mp q))]
      exact ⟨fun q => absurd rfl q, fun q => q.elim (fun z => absurd z c1) (fun z => absurd z c2)⟩
theorem hs_cr {rn : Nat} (hr : rn ∈ rnS) (h6 : rn ≤ 6) {L : List Int32} (h : okL rn L) {a b : Nat} (ha : a < rn) (hb : b < rn) (hab : ¬ a = b) : ∀ {k : Nat}, k ≤ L.length → hsS L (nI a) (nI b) k = crS L (nI a) (nI b) k
  | 0, _ => rfl
  | k + 1, hk => by
    have ih := hs_cr hr h6 h ha hb hab (k := k) (by omega)
    show hsS L (nI a) (nI b) k + _ = crS L (nI a) (nI b) k + _
    rw [ih]
    congr 1
    have hx := okL_at h (show k < L.length by omega)
    obtain ⟨q1, q2, q3⟩ := ok_h rn hr _ hx
    have q1 : htN (atL L k) < rn := q1
    have q2 : 1 ≤ htN (atL L k) := q2
    obtain ⟨P, a1, a2, a3, a4⟩ := hg_pl hr h6 h ha (k := k) (by omega)
    obtain ⟨R9, b1, b2, b3, b4⟩ := hg_pl hr h6 h hb (k := k) (by omega)
    have hPR : ¬ P = R9 := fun q => hab ((nI_eq (by omega) (by omega)).mp (by rw [← a3, ← b3, q]))
    have m1 : (¬ plE L (nI a) (k + 1) = plE L (nI a) k) ↔ (P = htN (atL L k) - 1 ∨ P = htN (atL L k)) := by
      show (¬ plB (atL L k) (plE L (nI a) k) = plE L (nI a) k) ↔ _
      rw [a2]; exact plB_id hr h6 hx a1
    have m2 : (¬ plE L (nI b) (k + 1) = plE L (nI b) k) ↔ (R9 = htN (atL L k) - 1 ∨ R9 = htN (atL L k)) := by
      show (¬ plB (atL L k) (plE L (nI b) k) = plE L (nI b) k) ↔ _
      rw [b2]; exact plB_id hr h6 hx b1
    generalize htN (atL L k) = hh at q1 q2 m1 m2
    have key : ((hgF L k (hh - 1) = nI a ∧ hgF L k hh = nI b) ∨ (hgF L k (hh - 1) = nI b ∧ hgF L k hh = nI a)) ↔ (¬ plE L (nI a) (k + 1) = plE L (nI a) k ∧ ¬ plE L (nI b) (k + 1) = plE L (nI b) k) := by
      rw [m1, m2]
      constructor
      · rintro (⟨e1, e2⟩ | ⟨e1, e2⟩)
        · exact ⟨Or.inl (a4 _ (by omega) e1).symm, Or.inr (b4 _ q1 e2).symm⟩
        · exact ⟨Or.inr (a4 _ q1 e2).symm, Or.inl (b4 _ (by omega) e1).symm⟩
      · rintro ⟨e1 | e1, e2 | e2⟩
        · omega
        · exact Or.inl ⟨by rw [← e1]; exact a3, by rw [← e2]; exact b3⟩
        · exact Or.inr ⟨by rw [← e2]; exact b3, by rw [← e1]; exact a3⟩
        · omega
    by_cases c : (hgF L k (hh - 1) = nI a ∧ hgF L k hh = nI b) ∨ (hgF L k (hh - 1) = nI b ∧ hgF L k hh = nI a)
    · rw [if_pos c, if_pos (key.mp c)]
    · rw [if_neg c, if_neg (fun q => c (key.mpr q))]
theorem mpO_0 {o : Option (Nat × List Int32)} {il ct : Int32} {Lt : List Int32} (h : mpO o il ct Lt) (c : il = 0) : ∃ z, o = some z ∧ ct = nI z.1 ∧ Lt = z.2 := by
  cases o with
  | none => have h : il = 1 := h; rw [c] at h; exact absurd h (by decide)
  | some z => exact ⟨z, rfl, h.2.1, h.2.2⟩
theorem mpO_1 {o : Option (Nat × List Int32)} {il ct : Int32} {Lt : List Int32} (h : mpO o il ct Lt) (c : ¬ il = 0) : o = none := by
  cases o with
  | none => rfl
  | some z => exact absurd h.1 c
