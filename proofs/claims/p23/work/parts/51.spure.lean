/-! 51: what words by hand stand on -/
theorem ar_push {X : List Int32} {f : Nat → Int32} {k : Nat} {x : Int32} (hf : ∀ j, j < k → f j = atL X j) (hx : x = atL X k) : ∀ j, j < k + 1 → upd f k x j = atL X j := fun j hj => by
  by_cases c : j = k
  · subst c; rw [pk_us]; exact hx
  · rw [pk_un c]; exact hf j (by omega)
def pcL (L : List Int32) (i j : Nat) : List Int32 := (L.drop i).take (j - i)
theorem pcL_len {L : List Int32} {i j : Nat} (hij : i ≤ j) (hj : j ≤ L.length) : (pcL L i j).length = j - i := by
  unfold pcL; rw [List.length_take, List.length_drop]; omega
theorem pcL_at {L : List Int32} {i j t : Nat} (h : t < j - i) : atL (pcL L i j) t = atL L (i + t) := by
  unfold pcL; rw [atL_take h, atL_drop]
theorem ar_turn {L : List Int32} {f : Nat → Int32} {k : Nat} (hf : ∀ t, L.length - k ≤ t → t < L.length → f t = atL (turnL L) t) (hk : k < L.length) : ∀ t, L.length - (k + 1) ≤ t → t < L.length → upd f (L.length - 1 - k) (-atL L k) t = atL (turnL L) t := fun t h1 h2 => by
  by_cases c : t = L.length - 1 - k
  · subst c; rw [pk_us, atL_turn h2, show L.length - 1 - (L.length - 1 - k) = k by omega]
  · rw [pk_un c]; exact hf t (by omega) h2
theorem okx_h1 : ∀ x ∈ okList, ∀ y ∈ okList, (hN x + 1 = hN y ↔ abI x = abI y - 1) := by decide +kernel
theorem add0_neg {x y : Int32} (h : x + y = 0) : x = -y := by
  rw [← Int32.add_sub_cancel x y, h, Int32.zero_sub]
theorem neg_add0 {x y : Int32} (h : x = -y) : x + y = 0 := by
  rw [h, ← Int32.zero_sub, Int32.sub_add_cancel]
/-- where a height stood last, among the first k letters -/
def laN (L : List Int32) (h : Nat) : Nat → Option Nat
  | 0 => none
  | k + 1 => if hN (atL L k) = h then some k else laN L h k
theorem laN_lt {L : List Int32} {h f : Nat} : ∀ {k : Nat}, laN L h k = some f → f < k
  | 0, q => by cases q
  | k + 1, q => by
    unfold laN at q
    split at q
    · cases q; exact Nat.lt_succ_self _
    · exact Nat.lt_succ_of_lt (laN_lt q)
theorem laN_h {L : List Int32} {h f : Nat} : ∀ {k : Nat}, laN L h k = some f → hN (atL L f) = h
  | 0, q => by cases q
  | k + 1, q => by
    unfold laN at q
    split at q
    · next c => cases q; exact c
    · exact laN_h q
theorem laN_none {L : List Int32} {h : Nat} : ∀ {k : Nat}, laN L h k = none → ∀ j, j < k → ¬ hN (atL L j) = h
  | 0, _ => fun j hj => absurd hj (Nat.not_lt_zero j)
  | k + 1, q => fun j hj => by
    unfold laN at q
    split at q
    · cases q
    · next c =>
      by_cases e : j = k
      · subst e; exact c
      · exact laN_none q j (by omega)
theorem laN_last {L : List Int32} {h f : Nat} : ∀ {k : Nat}, laN L h k = some f → ∀ j, f < j → j < k → ¬ hN (atL L j) = h
  | 0, q => by cases q
  | k + 1, q => fun j h1 h2 => by
    unfold laN at q
    split at q
    · cases q; omega
    · next c =>
      by_cases e : j = k
      · subst e; exact c
      · exact laN_last q j h1 (by omega)
theorem bg_la {L : List Int32} (hL : okW L) {k f : Nat} (hk : k < L.length) (h1 : laN L (hN (atL L k)) k = some f) (h2 : atL L f = -atL L k) (h3 : ∀ g, laN L (hN (atL L k) - 1) k = some g → g < f) : bg L k = some f := by
  have hf := laN_lt h1
  have ok := okW_at hL hk
  obtain ⟨x1, -⟩ := okx_h _ ok
  refine bgL_find h2 hf (fun j j1 j2 => ?_)
  have oj := okW_at hL (show j < L.length by omega)
  have hl := laN_last h1 j j1 j2
  obtain ⟨a1, -, -, -, -, -, a7⟩ := okx_hh _ oj _ ok
  refine ⟨fun q => hl (a7 q), fun q => hl (a1.mp q), fun q => ?_⟩
  have hj := (okx_h1 _ oj _ ok).mpr q
  cases hg : laN L (hN (atL L k) - 1) k with
  | none => exact laN_none hg j j2 (by omega)
  | some g =>
    have := h3 g hg
    exact laN_last hg j (by omega) j2 (by omega)
theorem bg_some_h {L : List Int32} (hL : okW L) {k b : Nat} (hk : k < L.length) (h : bg L k = some b) : hN (atL L b) = hN (atL L k) ∧ b < k := by
  have hb := bg_lt h
  exact ⟨(okx_hh _ (okW_at hL (show b < L.length by omega)) _ (okW_at hL hk)).2.2.2.2.2.2 (bg_neg h), hb⟩
theorem bg_no1 {L : List Int32} (hL : okW L) {k : Nat} (hk : k < L.length) (h1 : laN L (hN (atL L k)) k = none) : bg L k = none := by
  cases h : bg L k with
  | none => rfl
  | some b =>
    obtain ⟨a, b1⟩ := bg_some_h hL hk h
    exact absurd a (laN_none h1 b b1)
theorem bg_no2 {L : List Int32} (hL : okW L) {k f : Nat} (hk : k < L.length) (h1 : laN L (hN (atL L k)) k = some f) (h2 : ¬ atL L f = -atL L k) : bg L k = none := by
  cases h : bg L k with
  | none => rfl
  | some b =>
    obtain ⟨a, b1⟩ := bg_some_h hL hk h
    have hf := laN_lt h1
    rcases Nat.lt_trichotomy b f with c | c | c
    · have hh := laN_h h1
      have := (okx_hh _ (okW_at hL (show f < L.length by omega)) _ (okW_at hL hk)).1.mpr hh
      exact absurd this (bgL_in h f c hf).1
    · subst c; exact absurd (bg_neg h) h2
    · exact absurd a (laN_last h1 b c b1)
theorem bg_no3 {L : List Int32} (hL : okW L) {k f : Nat} (hk : k < L.length) (h1 : laN L (hN (atL L k)) k = some f) (h3 : ∃ g, laN L (hN (atL L k) - 1) k = some g ∧ f ≤ g) : bg L k = none := by
  cases h : bg L k with
  | none => rfl
  | some b =>
    obtain ⟨a, b1⟩ := bg_some_h hL hk h
    obtain ⟨g, g1, g2⟩ := h3
    have hg := laN_lt g1
    have hgh := laN_h g1
    obtain ⟨x1, -⟩ := okx_h _ (okW_at hL hk)
    have hbf : b ≤ f := Nat.not_lt.mp (fun q => laN_last h1 b q b1 a)
    have hne : ¬ g = b := fun q => by rw [q] at hgh; omega
    have := (okx_h1 _ (okW_at hL (show g < L.length by omega)) _ (okW_at hL hk)).mp (by omega)
    exact absurd this (bgL_in h g (by omega) hg).2
theorem la_step {L : List Int32} {g : Nat → Int32} {k : Nat} (hg : ∀ h, h < 7 → g h = oiI (laN L h k)) : ∀ h, h < 7 → upd g (hN (atL L k)) (nI k) h = oiI (laN L h (k + 1)) := fun h hh => by
  show _ = oiI (if hN (atL L k) = h then some k else laN L h k)
  by_cases c : h = hN (atL L k)
  · subst c; rw [pk_us, if_pos rfl]; rfl
  · rw [pk_un c, if_neg (fun q => c q.symm)]; exact hg h hh
theorem oiI_lt0 {o : Option Nat} (hb : ∀ b, o = some b → b < 2 ^ 31) (h : oiI o < 0) : o = none := by
  cases o with
  | none => rfl
  | some b => exact absurd h (nI_pos (hb b rfl))
theorem oiI_ge0 {o : Option Nat} (h : ¬ oiI o < 0) : ∃ b, o = some b := by
  cases o with
  | none => exact absurd (by decide) h
  | some b => exact ⟨b, rfl⟩
theorem oiI_geS {o : Option Nat} {f : Nat} (hf : f < 2 ^ 31) (hb : ∀ b, o = some b → b < 2 ^ 31) (h : nI f ≤ oiI o) : ∃ g, o = some g ∧ f ≤ g := by
  cases o with
  | none => exact absurd (Int32.lt_of_le_of_lt (nI_pos' hf) (Int32.lt_of_le_of_lt h (by decide : oiI none < 0))) (Int32.lt_irrefl)
  | some b => exact ⟨b, rfl, (nI_leI hf (hb b rfl)).mp h⟩
theorem oiI_geF {o : Option Nat} {f : Nat} (hf : f < 2 ^ 31) (hb : ∀ b, o = some b → b < 2 ^ 31) (h : ¬ nI f ≤ oiI o) : ∀ g, o = some g → g < f := fun g hg => by
  subst hg
  exact Nat.not_le.mp (fun q => h ((nI_leI hf (hb g rfl)).mpr q))
theorem laN_small {L : List Int32} {h k : Nat} (hk : k ≤ 1000) : ∀ b, laN L h k = some b → b < 2 ^ 31 := fun b hb => by have := laN_lt hb; omega
