/-! 57: what is told of words by hand -/
def toR (P : List Int32) (h : Nat) (le sg : Int32) : Prop := (le = 0 ∧ sg = 0 ∧ ∀ m, m < P.length → hN (atL P m) ≤ h) ∨ ∃ j, j < P.length ∧ h < hN (atL P j) ∧ le = abI (atL P j) ∧ sg = sgI (atL P j) ∧ ∀ m, m < P.length → h < hN (atL P m) → hN (atL P j) ≤ hN (atL P m)
def toI (P : List Int32) (g k : Nat) (le sg : Int32) : Prop := ((∀ m, m < k → ¬ hN (atL P m) = g) ∧ toR P g le sg) ∨ ∃ j, j < k ∧ j < P.length ∧ hN (atL P j) = g ∧ le = nI g ∧ sg = sgI (atL P j)
theorem to_6 {P : List Int32} (hP : okW P) : toR P 6 0 0 := Or.inl ⟨rfl, rfl, fun m hm => by have := (okx_h _ (okW_at hP hm)).2.1; omega⟩
theorem to_0 {P : List Int32} {g : Nat} {le sg : Int32} (h : toR P g le sg) : toI P g 0 le sg := Or.inl ⟨fun m hm => absurd hm (Nat.not_lt_zero m), h⟩
theorem to_skip {P : List Int32} {g k : Nat} {le sg : Int32} (h : toI P g k le sg) (hk : ¬ hN (atL P k) = g) : toI P g (k + 1) le sg := by
  rcases h with ⟨h1, h2⟩ | ⟨j, j1, j2⟩
  · exact Or.inl ⟨fun m hm => by
      by_cases c : m = k
      · rw [c]; exact hk
      · exact h1 m (by omega), h2⟩
  · exact Or.inr ⟨j, by omega, j2⟩
theorem to_hit {P : List Int32} {g k : Nat} (hk : k < P.length) (h : hN (atL P k) = g) : toI P g (k + 1) (nI g) (sgI (atL P k)) := Or.inr ⟨k, Nat.lt_succ_self k, hk, h, rfl, rfl⟩
theorem to_end {P : List Int32} (hP : okW P) {g k : Nat} {le sg : Int32} (h : toI P g k le sg) (hk : k = P.length) (hg : 1 ≤ g) : toR P (g - 1) le sg := by
  subst hk
  rcases h with ⟨h1, h2 | ⟨j, j1, j2, j3, j4, j5⟩⟩ | ⟨j, -, j2, j3, j4, j5⟩
  · obtain ⟨e1, e2, e3⟩ := h2
    exact Or.inl ⟨e1, e2, fun m hm => by have := h1 m hm; have := e3 m hm; omega⟩
  · exact Or.inr ⟨j, j1, by omega, j3, j4, fun m hm hh => j5 m hm (by have := h1 m hm; omega)⟩
  · exact Or.inr ⟨j, j2, by omega, by rw [j4, ← j3]; exact (okx_h _ (okW_at hP j2)).2.2.1.symm, j5, fun m hm hh => by omega⟩
theorem to_fin {P : List Int32} (hP : okW P) (hn : enF P 0 = none) {le sg : Int32} (h : toR P 0 le sg) : le = abI (loL P (P.length - 1)) ∧ sg = sgI (loL P (P.length - 1)) := by
  rcases h with ⟨e1, e2, e3⟩ | ⟨j, j1, -, j3, j4, j5⟩
  · have h0 : P = [] := by
      rcases Nat.eq_zero_or_pos P.length with q | q
      · exact List.length_eq_zero_iff.mp q
      · have := e3 0 q
        have := (okx_h _ (okW_at hP q)).1
        omega
    subst h0
    rw [e1, e2]
    decide +kernel
  · obtain ⟨i, i1, i2, i3⟩ := loL_at hP (k := P.length - 1) (by omega)
    have hi : i < P.length := by omega
    have a1 := j5 i hi (by have := (okx_h _ (okW_at hP hi)).1; omega)
    have a2 := i3 j (by omega)
    have e : hN (atL P i) = hN (atL P j) := by omega
    rw [i2, j3, j4]
    refine ⟨((okx_hh _ (okW_at hP hi) _ (okW_at hP j1)).1.mpr e).symm, ?_⟩
    have hm : ∀ k, k < P.length → hN (atL P j) ≤ hN (atL P k) := fun k hk => j5 k hk (by have := (okx_h _ (okW_at hP hk)).1; omega)
    rcases Nat.le_total i j with c | c
    · exact (nf_one hP hn hm (j - i) i j (by omega) j1 e rfl).symm
    · exact nf_one hP hn hm (i - j) j i (by omega) hi rfl e
theorem okx_s : ∀ x ∈ okList, (x ≤ 0 → sgI x = -1) ∧ (¬ x ≤ 0 → sgI x = 1) := by decide +kernel
theorem okx_b : ∀ x ∈ okList, ¬ abI x = abI x - 1 := by decide +kernel
theorem plB_a {x q : Int32} (hx : x ∈ okList) (h : q = abI x) : abI x - 1 = plB x q := by
  unfold plB
  rw [h, if_neg (okx_b x hx), if_pos rfl]
theorem plB_b {x q : Int32} (h2 : q = abI x - 1) : abI x = plB x q := by
  unfold plB
  rw [if_pos h2]
theorem plB_c {x q : Int32} (h1 : ¬ q = abI x) (h2 : ¬ q = abI x - 1) : q = plB x q := by
  unfold plB
  rw [if_neg h2, if_neg h1]
theorem pl_mem {L : List Int32} (hL : okW L) {r : Nat} (hr : r < 6) : ∀ {k : Nat}, k ≤ L.length → plE L (nI r) k ∈ pls
  | 0, _ => pl_in hr
  | k + 1, h => pr_in _ (okW_at hL (by omega)) _ (pl_mem hL hr (by omega))
theorem nI_ne {r o : Nat} (hr : r < 6) (ho : o < 6) (h : ¬ r = o) : ¬ nI r = nI o := fun q => h ((nI_eq (by omega) (by omega)).mp q)
theorem pl_ne {L : List Int32} (hL : okW L) {r o : Nat} (hr : r < 6) (ho : o < 6) (h : ¬ r = o) : ∀ {k : Nat}, k ≤ L.length → ¬ plE L (nI r) k = plE L (nI o) k
  | 0, _ => nI_ne hr ho h
  | k + 1, hk => fun q => by
    have hx := okW_at hL (show k < L.length by omega)
    have h1 := pr_back _ hx _ (pl_mem hL hr (show k ≤ L.length by omega))
    have h2 := pr_back _ hx _ (pl_mem hL ho (show k ≤ L.length by omega))
    have q' : plB (atL L k) (plE L (nI r) k) = plB (atL L k) (plE L (nI o) k) := q
    rw [q', h2] at h1
    exact pl_ne hL hr ho h (by omega) h1.symm
theorem cr_iff : ∀ x ∈ okList, ∀ p ∈ pls, ∀ q ∈ pls, ¬ p = q → ((p + q = 2 * abI x - 1 ∧ abI (p - q) = 1) ↔ (¬ plB x p = p ∧ ¬ plB x q = q)) := by decide +kernel
section
variable {L : List Int32} {r o k : Nat}
theorem cr_skip (hL : okW L) (hr : r < 6) (ho : o < 6) (hne : ¬ r = o) (hk : k < L.length) (h : ¬ (plE L (nI r) k + plE L (nI o) k = 2 * abI (atL L k) - 1 ∧ abI (plE L (nI r) k - plE L (nI o) k) = 1)) : crS L (nI r) (nI o) k = crS L (nI r) (nI o) (k + 1) := by
  have hc := cr_iff _ (okW_at hL hk) _ (pl_mem hL hr (k := k) (by omega)) _ (pl_mem hL ho (k := k) (by omega)) (pl_ne hL hr ho hne (by omega))
  show _ = crS L (nI r) (nI o) k + (if ¬ plB (atL L k) (plE L (nI r) k) = plE L (nI r) k ∧ ¬ plB (atL L k) (plE L (nI o) k) = plE L (nI o) k then sgI (atL L k) else 0)
  rw [if_neg (fun q => h (hc.mpr q)), Int32.add_zero]
theorem cr_add (hL : okW L) (hr : r < 6) (ho : o < 6) (hne : ¬ r = o) (hk : k < L.length) (h1 : plE L (nI r) k + plE L (nI o) k = 2 * abI (atL L k) - 1) (h2 : abI (plE L (nI r) k - plE L (nI o) k) = 1) {s : Int32} (hs : sgI (atL L k) = s) : crS L (nI r) (nI o) k + s = crS L (nI r) (nI o) (k + 1) := by
  have hc := cr_iff _ (okW_at hL hk) _ (pl_mem hL hr (k := k) (by omega)) _ (pl_mem hL ho (k := k) (by omega)) (pl_ne hL hr ho hne (by omega))
  show _ = crS L (nI r) (nI o) k + (if ¬ plB (atL L k) (plE L (nI r) k) = plE L (nI r) k ∧ ¬ plB (atL L k) (plE L (nI o) k) = plE L (nI o) k then sgI (atL L k) else 0)
  rw [if_pos (hc.mp ⟨h1, h2⟩), hs]
end
/-- where the ropes end -/
def ensL (rn : Nat) (L : List Int32) : List Int32 := (List.range rn).map (fun r => plE L (nI r) L.length)
theorem ens_len {rn : Nat} {L : List Int32} : (ensL rn L).length = rn := by unfold ensL; simp
theorem ens_at {rn j : Nat} {L : List Int32} (h : j < rn) : atL (ensL rn L) j = plE L (nI j) L.length := by
  rw [atL_in (by rw [ens_len]; exact h)]
  unfold ensL
  simp
theorem ar_ens {L : List Int32} {g : Nat → Int32} {r : Nat} {x : Int32} (hg : ∀ j, j < r → g j = plE L (nI j) L.length) (hx : x = plE L (nI r) L.length) : ∀ j, j < r + 1 → upd g r x j = plE L (nI j) L.length := fun j hj => by
  by_cases c : j = r
  · subst c; rw [pk_us]; exact hx
  · rw [pk_un c]; exact hg j (by omega)
theorem g_dec {g : Nat} (h : 1 ≤ g) : nI g + Int32.ofInt (-1) = nI (g - 1) := by
  obtain ⟨d, rfl⟩ : ∃ d, g = d + 1 := ⟨g - 1, by omega⟩
  exact g_dec1 d
