/-! 68: moves: what becomes of a word, and that it is the same braid -/
theorem pc_take {L : List Int32} {k : Nat} : pcL L 0 k = L.take k := by unfold pcL; rw [List.drop_zero, Nat.sub_zero]
theorem pc_drop {L : List Int32} {k : Nat} : pcL L k L.length = L.drop k := by
  unfold pcL
  exact List.take_of_length_le (by rw [List.length_drop]; exact Nat.le_refl _)
theorem pc_last {L : List Int32} : pcL L 0 (L.length - 1) = L.dropLast := by rw [pc_take, List.dropLast_eq_take]
theorem sp2_at {L : List Int32} {k : Nat} {a b : Int32} (h : k + 2 ≤ L.length) {i : Nat} : atL (L.take k ++ [a, b] ++ L.drop (k + 2)) i = if i < k then atL L i else if i = k then a else if i = k + 1 then b else atL L i := by
  have hl : (L.take k).length = k := by simp; omega
  have hl2 : (L.take k ++ [a, b]).length = k + 2 := by simp; omega
  by_cases c : i < k
  · rw [if_pos c, atL_appL (by omega), atL_appL (by omega), atL_take c]
  · rw [if_neg c]
    by_cases c1 : i = k
    · subst c1; rw [if_pos rfl, atL_appL (by omega), atL_appR (by omega), hl, Nat.sub_self]; rfl
    · rw [if_neg c1]
      by_cases c2 : i = k + 1
      · subst c2; rw [if_pos rfl, atL_appL (by omega), atL_appR (by omega), hl, show k + 1 - k = 1 by omega]; rfl
      · rw [if_neg c2, atL_appR (by omega), hl2, atL_drop, show k + 2 + (i - (k + 2)) = i by omega]
theorem sp2_len {L : List Int32} {k : Nat} {a b : Int32} (h : k + 2 ≤ L.length) : (L.take k ++ [a, b] ++ L.drop (k + 2)).length = L.length := by simp; omega
theorem sp2_self {L : List Int32} {k : Nat} (h : k + 2 ≤ L.length) : L.take k ++ [atL L k, atL L (k + 1)] ++ L.drop (k + 2) = L := by
  refine atL_ext (sp2_len h) (fun i _ => ?_)
  rw [sp2_at h]
  split
  · rfl
  · split
    · next c => rw [c]
    · split
      · next c => rw [c]
      · rfl
theorem sp2_set {L : List Int32} {k : Nat} {a b : Int32} (h : k + 2 ≤ L.length) : L.take k ++ [a, b] ++ L.drop (k + 2) = (L.set k a).set (k + 1) b := by
  refine atL_ext (by rw [sp2_len h, List.length_set, List.length_set]) (fun i _ => ?_)
  rw [sp2_at h, atL_set (by rw [List.length_set]; omega), atL_set (by omega)]
  by_cases c : i < k
  · rw [if_pos c, if_neg (by omega), if_neg (by omega)]
  · rw [if_neg c]
    by_cases c1 : i = k
    · rw [if_pos c1, if_neg (by omega), if_pos c1]
    · rw [if_neg c1, if_neg c1]
theorem sp3_len {L : List Int32} {k : Nat} {a b d : Int32} (h : k + 3 ≤ L.length) : (L.take k ++ [a, b, d] ++ L.drop (k + 3)).length = L.length := by simp; omega
theorem sp3_at {L : List Int32} {k : Nat} {a b d : Int32} (h : k + 3 ≤ L.length) {i : Nat} : atL (L.take k ++ [a, b, d] ++ L.drop (k + 3)) i = if i < k then atL L i else if i = k then a else if i = k + 1 then b else if i = k + 2 then d else atL L i := by
  have hl : (L.take k).length = k := by simp; omega
  have hl2 : (L.take k ++ [a, b, d]).length = k + 3 := by simp; omega
  by_cases c : i < k
  · rw [if_pos c, atL_appL (by omega), atL_appL (by omega), atL_take c]
  · rw [if_neg c]
    by_cases c1 : i = k
    · subst c1; rw [if_pos rfl, atL_appL (by omega), atL_appR (by omega), hl, Nat.sub_self]; rfl
    · rw [if_neg c1]
      by_cases c2 : i = k + 1
      · subst c2; rw [if_pos rfl, atL_appL (by omega), atL_appR (by omega), hl, show k + 1 - k = 1 by omega]; rfl
      · rw [if_neg c2]
        by_cases c3 : i = k + 2
        · subst c3; rw [if_pos rfl, atL_appL (by omega), atL_appR (by omega), hl, show k + 2 - k = 2 by omega]; rfl
        · rw [if_neg c3, atL_appR (by omega), hl2, atL_drop, show k + 3 + (i - (k + 3)) = i by omega]
theorem sp3_self {L : List Int32} {k : Nat} (h : k + 3 ≤ L.length) : L.take k ++ [atL L k, atL L (k + 1), atL L (k + 2)] ++ L.drop (k + 3) = L := by
  refine atL_ext (sp3_len h) (fun i _ => ?_)
  rw [sp3_at h]
  split
  · rfl
  · split
    · next c => rw [c]
    · split
      · next c => rw [c]
      · split
        · next c => rw [c]
        · rfl
theorem sp3_set {L : List Int32} {k : Nat} {a b d : Int32} (h : k + 3 ≤ L.length) : L.take k ++ [a, b, d] ++ L.drop (k + 3) = ((L.set k a).set (k + 1) b).set (k + 2) d := by
  refine atL_ext (by rw [sp3_len h, List.length_set, List.length_set, List.length_set]) (fun i _ => ?_)
  rw [sp3_at h, atL_set (by rw [List.length_set, List.length_set]; omega), atL_set (by rw [List.length_set]; omega), atL_set (by omega)]
  by_cases c : i < k
  · rw [if_pos c, if_neg (by omega), if_neg (by omega), if_neg (by omega)]
  · rw [if_neg c]
    by_cases c1 : i = k
    · rw [if_pos c1, if_neg (by omega), if_neg (by omega), if_pos c1]
    · rw [if_neg c1]
      by_cases c2 : i = k + 1
      · rw [if_pos c2, if_neg (by omega), if_pos c2]
      · rw [if_neg c2, if_neg c2, if_neg c1]
theorem ins2 {L : List Int32} {k : Nat} {x y : Int32} (h : k ≤ L.length) : L.take k ++ [x, y] ++ L.drop k = insL (insL L k y) k x := by
  have hl : (L.take k).length = k := by simp; omega
  have hl2 : (L.take k ++ [x, y]).length = k + 2 := by simp; omega
  have hn := insL_len (L := L) (x := y) h
  refine atL_ext (by rw [insL_len (by omega), hn]; simp; omega) (fun i _ => ?_)
  rw [insL_at (by omega)]
  by_cases c : i < k
  · rw [if_pos c, insL_at h, if_pos c, atL_appL (by omega), atL_appL (by omega), atL_take c]
  · rw [if_neg c]
    by_cases c1 : i = k
    · subst c1; rw [if_pos rfl, atL_appL (by omega), atL_appR (by omega), hl, Nat.sub_self]; rfl
    · rw [if_neg c1, insL_at h, if_neg (by omega)]
      by_cases c2 : i = k + 1
      · subst c2; rw [if_pos (by omega), atL_appL (by omega), atL_appR (by omega), hl, show k + 1 - k = 1 by omega]; rfl
      · rw [if_neg (by omega), atL_appR (by omega), hl2, atL_drop, show k + (i - (k + 2)) = i - 1 - 1 by omega]
/-- the same braid, whatever keeps the rules of braids -/
def mvR (L M : List Int32) : Prop := ∀ (σ : Type) (act : Int32 → σ → σ) (ok : σ → Prop), REP act ok → EQ act ok L M
theorem mv_rf {L : List Int32} : mvR L L := fun _ _ _ _ => EQ_rf
theorem okW_take {L : List Int32} (h : okW L) {k : Nat} : okW (L.take k) := fun x hx => h x (List.mem_of_mem_take hx)
theorem okx_sw : ∀ x ∈ okList, ∀ y ∈ okList, ¬ abI (abI x - abI y) ≤ 1 → farI x y := by unfold farI; decide +kernel
theorem mv_swap {L : List Int32} (hL : okW L) {k : Nat} (hk : k + 1 < L.length) (h : ¬ abI (abI (atL L k) - abI (atL L (k + 1))) ≤ 1) : mvR L ((L.set k (atL L (k + 1))).set (k + 1) (atL L k)) := fun σ act ok hr => by
  have hx := okW_at hL (show k < L.length by omega)
  have hy := okW_at hL hk
  rw [← sp2_set (by omega)]
  have e := EQ_mid (Q := L.drop (k + 2)) hr (okW_take hL (k := k)) (okW_l2 hx hy) (A' := [atL L (k + 1), atL L k]) (fun s hs => (hr.2.2.1 _ hx _ hy (okx_sw _ hx _ hy h) s hs).symm)
  rw [sp2_self (by omega)] at e
  exact e
theorem tri_iff {L : List Int32} (hL : okW L) {k : Nat} (hk : k + 2 < L.length) : triL L k ↔ (atL L (k + 2) = atL L k ∧ sgI (atL L (k + 1)) = sgI (atL L k) ∧ abI (abI (atL L (k + 1)) - abI (atL L k)) = 1) := by
  have h := (okx_tri _ (okW_at hL (show k < L.length by omega)) _ (okW_at hL (show k + 1 < L.length by omega))).1
  constructor
  · rintro ⟨a, b, c⟩
    exact ⟨a.symm, h.mp ⟨b, c⟩⟩
  · rintro ⟨a, b⟩
    exact ⟨a.symm, h.mpr b⟩
theorem mv_about {L : List Int32} (hL : okW L) {k : Nat} (hk : k + 2 < L.length) (h : triL L k) : mvR L (((L.set k (atL L (k + 1))).set (k + 1) (atL L k)).set (k + 2) (atL L (k + 1))) := fun σ act ok hr => by
  have hx := okW_at hL (show k < L.length by omega)
  have hy := okW_at hL (show k + 1 < L.length by omega)
  obtain ⟨h1, h2⟩ := (tri_iff hL hk).mp h
  have hn := (okx_tri _ hx _ hy).2 h2
  rw [← sp3_set (by omega)]
  have e := EQ_mid (Q := L.drop (k + 3)) hr (okW_take hL (k := k)) (okW_l3 hx hy hx) (A' := [atL L (k + 1), atL L k, atL L (k + 1)]) (fun s hs => hr.2.2.2 _ hx _ hy hn s hs)
  have e2 := sp3_self (L := L) (k := k) (by omega)
  rw [h1] at e2
  rw [e2] at e
  exact e
theorem mv_ins {L : List Int32} (hL : okW L) {k : Nat} (hk : k ≤ L.length) {x : Int32} (hx : x ∈ okList) : mvR L (insL (insL L k (-x)) k x) := fun σ act ok hr => by
  rw [← ins2 hk]
  have e := EQ_mid (Q := L.drop k) hr (okW_take hL (k := k)) okW_nil (EQ_sy (EQ_out hr hx))
  rw [List.append_nil, List.take_append_drop] at e
  exact e
theorem mv_cut {L : List Int32} (hL : okW L) {b e : Nat} (he : e < L.length) (hb : bg L e = some b) : mvR L (cutL L b e) := fun σ act ok hr => (cut_eq hr hL he hb).2
theorem okr_b : ∀ rn ∈ rnS, ∀ x ∈ okr rn, ¬ x = 0 ∧ ¬ x ≤ -nI rn ∧ x < nI rn ∧ x ∈ okList := by decide +kernel
theorem lt2_le1 {v : Int32} (h : v ≤ 1) : v < 2 := Int32.lt_of_le_of_lt h (by decide)
theorem nlt2 {v : Int32} (h : ¬ v ≤ 1) : ¬ v < 2 := fun q => h (by
  rw [Int32.lt_iff_toInt_lt] at q
  rw [Int32.le_iff_toInt_le]
  have e1 : (2 : Int32).toInt = 2 := by decide
  have e2 : (1 : Int32).toInt = 1 := by decide
  omega)
/-- what a step leaves -/
def acP (rn : Nat) (x : Int32) (L0 L1 M0 : List Int32) (g0 : Nat → Int32) (M1 : List Int32) (g1 : Nat → Int32) : Prop := RI M0 g0 ∧ RI M1 g1 ∧ okL rn M0 ∧ okL rn M1 ∧ M0.length ≤ 30 ∧ M1.length ≤ 30 ∧ (7 < blN x 16 → mvR L0 M0 ∧ mvR L1 M1)
