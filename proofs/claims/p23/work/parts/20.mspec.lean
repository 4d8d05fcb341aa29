/-! 20: the reference's rows of numbers, in the words of lists; the letters that there are -/
def okList : List Int32 := [1, 2, 3, 4, 5, -1, -2, -3, -4, -5]
/-- the letters that so many ropes have -/
def okr (rn : Nat) : List Int32 := okList.filter (fun x => decide (abI x < nI rn))
def okL (rn : Nat) (L : List Int32) : Prop := ∀ x ∈ L, x ∈ okr rn
abbrev rnS : List Nat := [3, 4, 5, 6]
theorem rn_in {rn : Nat} (h3 : 3 ≤ rn) (h6 : rn ≤ 6) : rn ∈ rnS := by
  obtain rfl | rfl | rfl | rfl : rn = 3 ∨ rn = 4 ∨ rn = 5 ∨ rn = 6 := by omega
  all_goals simp
theorem ok_neg : ∀ rn ∈ rnS, ∀ x ∈ okr rn, -x ∈ okr rn ∧ abI (-x) = abI x := by decide +kernel
theorem ok_sgp : ∀ rn ∈ rnS, ∀ x ∈ okr rn, ¬ x ≤ 0 → sgI x = 1 := by decide +kernel
theorem ok_sgn : ∀ rn ∈ rnS, ∀ x ∈ okr rn, x ≤ 0 → sgI x = -1 := by decide +kernel
theorem ok_ne0 : ∀ rn ∈ rnS, ∀ x ∈ okr rn, ¬ x = 0 ∧ ¬ abI x = 0 ∧ ¬ abI x ≤ 0 := by decide +kernel
theorem ok_cut : ∀ rn ∈ rnS, ∀ x ∈ okr rn, ∀ y ∈ okr rn, abI y = abI x + 1 → -sgI x * (abI x + 1) ∈ okr rn ∧ sgI y * abI x ∈ okr rn ∧ sgI x * (abI x + 1) ∈ okr rn := by decide +kernel
theorem ok_h : ∀ rn ∈ rnS, ∀ x ∈ okr rn, (abI x).toNatClampNeg < rn ∧ 1 ≤ (abI x).toNatClampNeg ∧ abI x = nI (abI x).toNatClampNeg := by decide +kernel
theorem okL_at {rn : Nat} {L : List Int32} (h : okL rn L) {i : Nat} (hi : i < L.length) : atL L i ∈ okr rn := by
  rw [atL_in hi]; exact h _ (List.getElem_mem hi)
theorem okL_app {rn : Nat} {L M : List Int32} (h : okL rn L) (h2 : okL rn M) : okL rn (L ++ M) := fun x hx => (List.mem_append.mp hx).elim (h x) (h2 x)
theorem okL_one {rn : Nat} {x : Int32} (h : x ∈ okr rn) : okL rn [x] := fun y hy => by rw [List.mem_singleton.mp hy]; exact h
theorem okL_nil {rn : Nat} : okL rn [] := fun _ h => nomatch h
theorem okL_turn {rn : Nat} (hr : rn ∈ rnS) {L : List Int32} (h : okL rn L) : okL rn (turnL L) := by
  intro x hx
  unfold turnL at hx
  obtain ⟨y, hy, rfl⟩ := List.mem_map.mp hx
  exact (ok_neg rn hr y (h y (List.mem_reverse.mp hy))).1
theorem okL_set {rn : Nat} {L : List Int32} (h : okL rn L) {k : Nat} {x : Int32} (hx : x ∈ okr rn) : okL rn (L.set k x) := fun y hy => (List.mem_or_eq_of_mem_set hy).elim (h y) (fun q => by rw [q]; exact hx)
theorem okL_drop {rn : Nat} {L : List Int32} (h : okL rn L) : okL rn L.dropLast := fun y hy => by rw [List.dropLast_eq_take] at hy; exact h y (List.mem_of_mem_take hy)
theorem okL_ins {rn : Nat} {L : List Int32} (h : okL rn L) {k : Nat} {x : Int32} (hx : x ∈ okr rn) : okL rn (insL L k x) := by
  intro y hy
  unfold insL at hy
  rcases List.mem_append.mp hy with q | q
  · exact h y (List.mem_of_mem_take q)
  · rcases List.mem_cons.mp q with q | q
    · rw [q]; exact hx
    · exact h y (List.mem_of_mem_drop q)
theorem okL_ck {rn : Nat} (hr : rn ∈ rnS) {L : List Int32} (h : okL rn L) {b e : Nat} (hb : b < L.length) : ∀ {k : Nat}, k ≤ L.length → okL rn (ckL L b e k)
  | 0, _ => okL_nil
  | k + 1, hk => by
    have ih := okL_ck hr h hb (e := e) (k := k) (by omega)
    by_cases c1 : k = b ∨ k = e
    · rw [ckL_skip c1]; exact ih
    · by_cases c2 : b < k ∧ k < e ∧ abI (atL L k) = abI (atL L b) + 1
      · rw [ckL_three c2.1 c2.2.1 c2.2.2]
        obtain ⟨q1, q2, q3⟩ := ok_cut rn hr _ (okL_at h hb) _ (okL_at h (show k < L.length by omega)) c2.2.2
        exact okL_app (okL_app (okL_app ih (okL_one q1)) (okL_one q2)) (okL_one q3)
      · rw [ckL_one (fun q => c1 (Or.inl q)) (fun q => c1 (Or.inr q)) c2]
        exact okL_app ih (okL_one (okL_at h (by omega)))
theorem okL_cut {rn : Nat} (hr : rn ∈ rnS) {L : List Int32} (h : okL rn L) {b e : Nat} (hb : b < L.length) : okL rn (cutL L b e) := okL_ck hr h hb (Nat.le_refl _)
def inI (v lo hi : Int32) : Int32 := if lo ≤ v ∧ v ≤ hi then 1 else 0
/-- both words, as the reference holds them -/
def MW (W : Nat → List Int32) (sf lf : Nat → Int32) : Prop := ∀ w, w < 2 → sf w = nI (W w).length ∧ (W w).length ≤ 30 ∧ ∀ i, i < (W w).length → lf (30 * w + i) = atL (W w) i
/-- its row -/
def MR (L : List Int32) (rf : Nat → Int32) : Prop := L.length ≤ 320 ∧ ∀ i, i < L.length → rf i = atL L i
theorem MR_nil {rf : Nat → Int32} : MR [] rf := ⟨Nat.zero_le _, fun i h => absurd h (Nat.not_lt_zero i)⟩
theorem MR_push {L : List Int32} {f : Nat → Int32} {x : Int32} (h : MR L f) (hl : L.length < 320) : MR (L ++ [x]) (upd f L.length x) := by
  refine ⟨by rw [len_snoc]; omega, fun i hi => ?_⟩
  rw [len_snoc] at hi
  by_cases e : i = L.length
  · subst e; rw [atL_snoc]; exact pk_us
  · rw [pk_un e, atL_appL (by omega)]; exact h.2 i (by omega)
theorem turn_fwd {L M : List Int32} {k : Nat} (h : k < M.length) : (L ++ (turnL M).take k) ++ [-atL M (M.length - 1 - k)] = L ++ (turnL M).take (k + 1) := by
  have e : -atL M (M.length - 1 - k) = atL (turnL M) k := (atL_turn h).symm
  rw [e, List.append_assoc, take_snoc (by rw [turnL_len]; exact h)]
theorem bgm_low {rn : Nat} (hr : rn ∈ rnS) {L : List Int32} (h : okL rn L) {e k : Nat} (he : e < L.length) (c1 : ¬ abI (atL L k) = abI (atL L e)) (c2 : abI (atL L k) = abI (atL L e) - 1) : bgL L e (k + 1) = none := by
  show (if _ then _ else if _ then _ else _) = _
  rw [if_neg (fun q => c1 (by rw [q]; exact (ok_neg rn hr _ (okL_at h he)).2)), if_pos (Or.inr c2)]
theorem bgm_go {rn : Nat} (hr : rn ∈ rnS) {L : List Int32} (h : okL rn L) {e k : Nat} (he : e < L.length) (c1 : ¬ abI (atL L k) = abI (atL L e)) (c2 : ¬ abI (atL L k) = abI (atL L e) - 1) : bgL L e (k + 1) = bgL L e k := by
  show (if _ then _ else if _ then _ else _) = _
  rw [if_neg (fun q => c1 (by rw [q]; exact (ok_neg rn hr _ (okL_at h he)).2)), if_neg (fun q => q.elim c1 c2)]
theorem bgm_ne {L : List Int32} {e k : Nat} (c1 : abI (atL L k) = abI (atL L e)) (c2 : ¬ atL L k = -atL L e) : bgL L e (k + 1) = none := by
  show (if _ then _ else if _ then _ else _) = _
  rw [if_neg c2, if_pos (Or.inl c1)]
theorem bgm_eq {L : List Int32} {e k : Nat} (c2 : atL L k = -atL L e) : bgL L e (k + 1) = some k := by
  show (if _ then _ else if _ then _ else _) = _
  rw [if_pos c2]
theorem enF_one {L : List Int32} : enF L 1 = enF L 0 := by
  by_cases c : 0 < L.length
  · exact (enF_none c rfl).symm
  · rw [enF_out (by omega), enF_out (by omega)]
/-- least(): of the first k letters -/
def leS (L : List Int32) : Nat → Int32
  | 0 => 0
  | k + 1 => if leS L k = 0 ∨ abI (atL L k) < leS L k then abI (atL L k) else leS L k
theorem leS_lo {rn : Nat} (hr : rn ∈ rnS) {L : List Int32} (h : okL rn L) : ∀ {k : Nat}, k < L.length → leS L (k + 1) = abI (loL L k) ∧ loL L k ∈ okr rn
  | 0, hk => by
    refine ⟨?_, okL_at h hk⟩
    exact if_pos (Or.inl rfl)
  | k + 1, hk => by
    obtain ⟨e1, e2⟩ := leS_lo hr h (k := k) (by omega)
    have hn := (ok_ne0 rn hr _ e2).2.1
    show (if leS L (k + 1) = 0 ∨ abI (atL L (k + 1)) < leS L (k + 1) then abI (atL L (k + 1)) else leS L (k + 1)) = abI (if abI (atL L (k + 1)) < abI (loL L k) then atL L (k + 1) else loL L k) ∧ (if abI (atL L (k + 1)) < abI (loL L k) then atL L (k + 1) else loL L k) ∈ okr rn
    rw [e1]
    by_cases c : abI (atL L (k + 1)) < abI (loL L k)
    · rw [if_pos c, if_pos (Or.inr c)]; exact ⟨rfl, okL_at h hk⟩
    · rw [if_neg c, if_neg (fun q => q.elim hn c)]; exact ⟨rfl, e2⟩
theorem lo_first {L : List Int32} {i : Nat} : ∀ {n : Nat}, i ≤ n → (∀ j, j < i → ¬ abI (atL L j) = abI (loL L n)) → abI (atL L i) = abI (loL L n) → loL L n = atL L i
  | 0, hi, _, _ => by rw [show i = 0 by omega]; rfl
  | n + 1, hi, hj, he => by
    by_cases c : abI (atL L (n + 1)) < abI (loL L n)
    · have e : loL L (n + 1) = atL L (n + 1) := if_pos c
      rw [e] at hj he ⊢
      by_cases c2 : i = n + 1
      · rw [c2]
      · -- an earlier one as low as the lowest of all: then the first n have it too
        exfalso
        have key : ∀ {m k : Nat}, k ≤ m → ¬ abI (atL L k) < abI (loL L m) := by
          intro m
          induction m with
          | zero => intro k hk q; rw [show k = 0 by omega] at q; exact Int32.lt_irrefl q
          | succ m ih =>
            intro k hk q
            by_cases d : abI (atL L (m + 1)) < abI (loL L m)
            · rw [show loL L (m + 1) = atL L (m + 1) from if_pos d] at q
              by_cases d2 : k = m + 1
              · rw [d2] at q; exact Int32.lt_irrefl q
              · exact ih (show k ≤ m by omega) (Int32.lt_trans q d)
            · rw [show loL L (m + 1) = loL L m from if_neg d] at q
              by_cases d2 : k = m + 1
              · rw [d2] at q; exact d q
              · exact ih (show k ≤ m by omega) q
        exact key (show i ≤ n by omega) (by rw [he]; exact c)
    · have e : loL L (n + 1) = loL L n := if_neg c
      rw [e] at hj he ⊢
      by_cases c2 : i = n + 1
      · exfalso
        have ex : ∀ {m : Nat}, ∃ j, j ≤ m ∧ loL L m = atL L j := by
          intro m
          induction m with
          | zero => exact ⟨0, Nat.le_refl _, rfl⟩
          | succ m ih =>
            by_cases d : abI (atL L (m + 1)) < abI (loL L m)
            · exact ⟨m + 1, Nat.le_refl _, if_pos d⟩
            · obtain ⟨j, h1, h2⟩ := ih
              exact ⟨j, by omega, (if_neg d).trans h2⟩
        obtain ⟨j, h1, h2⟩ := ex (m := n)
        exact hj j (by omega) (by rw [h2])
      · exact lo_first (by omega) hj he
theorem lo_some {L : List Int32} : ∀ {m : Nat}, ∃ j, j ≤ m ∧ loL L m = atL L j
  | 0 => ⟨0, Nat.le_refl _, rfl⟩
  | m + 1 => by
    by_cases d : abI (atL L (m + 1)) < abI (loL L m)
    · exact ⟨m + 1, Nat.le_refl _, if_pos d⟩
    · obtain ⟨j, h1, h2⟩ := lo_some (L := L) (m := m)
      exact ⟨j, by omega, (if_neg d).trans h2⟩
/-- the row, cut till no handle is left: what it holds then -/
def mpO (o : Option (Nat × List Int32)) (il ct : Int32) (Lt : List Int32) : Prop := match o with
  | none => il = 1
  | some z => il = 0 ∧ ct = nI z.1 ∧ Lt = z.2
theorem MR_push3 {L : List Int32} {f : Nat → Int32} {a b c : Int32} (h : MR L f) (hl : L.length + 3 ≤ 320) : MR (L ++ [a] ++ [b] ++ [c]) (upd (upd (upd f L.length a) (L.length + 1) b) (L.length + 2) c) := by
  have h1 := MR_push (x := a) h (by omega)
  have h2 := MR_push (x := b) h1 (by rw [len_snoc]; omega)
  have h3 := MR_push (x := c) h2 (by rw [len_snoc, len_snoc]; omega)
  rw [len_snoc, len_snoc] at h3; rw [show (L ++ [a]).length + 1 = L.length + 2 from by rw [len_snoc]] at h3
  exact h3
theorem MR_copy {L : List Int32} {f g : Nat → Int32} (h : MR L f) : MR L (va_cpy f g 0 0 L.length) := ⟨h.1, fun i hi => by
  rw [pk_cpy_in (Nat.zero_le _) (by omega)]
  rw [show 0 + (i - 0) = i by omega]
  exact h.2 i hi⟩
