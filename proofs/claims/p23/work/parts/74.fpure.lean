/-! 74: what the law asks of a word, of its ends and crossings -/
theorem crS_sy {L : List Int32} {a b : Int32} : ∀ {k : Nat}, crS L a b k = crS L b a k
  | 0 => rfl
  | k + 1 => by
    show crS L a b k + (if ¬ plE L a (k + 1) = plE L a k ∧ ¬ plE L b (k + 1) = plE L b k then sgI (atL L k) else 0) = crS L b a k + (if ¬ plE L b (k + 1) = plE L b k ∧ ¬ plE L a (k + 1) = plE L a k then sgI (atL L k) else 0)
    rw [crS_sy (k := k)]
    by_cases c1 : plE L a (k + 1) = plE L a k <;> by_cases c2 : plE L b (k + 1) = plE L b k <;> simp [c1, c2]
theorem par1 {c s : Int32} (hs : s = 1 ∨ s = -1) : (c + s) &&& 1 = 1 - (c &&& 1) := by
  rw [pk_and (c + s) (m := 1) 1 rfl, pk_and c (m := 1) 1 rfl]
  have h1 : (c + s).toBitVec.toNat % 2 ^ 1 = (c.toBitVec.toNat + 1) % 2 := by
    have e : (c + s).toBitVec.toNat = (c.toBitVec.toNat + s.toBitVec.toNat) % 2 ^ 32 := BitVec.toNat_add _ _
    rw [e]
    rcases hs with rfl | rfl
    · have : (1 : Int32).toBitVec.toNat = 1 := by decide
      omega
    · have : (-1 : Int32).toBitVec.toNat = 4294967295 := by decide
      omega
  rw [h1, show c.toBitVec.toNat % 2 ^ 1 = c.toBitVec.toNat % 2 from rfl]
  rcases Nat.mod_two_eq_zero_or_one c.toBitVec.toNat with h | h
  · rw [h, show (c.toBitVec.toNat + 1) % 2 = 1 by omega]; decide
  · rw [h, show (c.toBitVec.toNat + 1) % 2 = 0 by omega]; decide
theorem cr_ord : ∀ x ∈ okList, ∀ p ∈ pls, ∀ q ∈ pls, ¬ p = q → (if (¬ plB x p = p ∧ ¬ plB x q = q) then ((plB x p < plB x q) ↔ ¬ p < q) else ((plB x p < plB x q) ↔ p < q)) := by decide +kernel
/-- two ropes have crossed oddly just if they have changed sides -/
theorem cr_par {L : List Int32} (hL : okW L) {r o : Nat} (hr : r < 6) (ho : o < r) : ∀ {k : Nat}, k ≤ L.length → crS L (nI r) (nI o) k &&& 1 = if plE L (nI r) k < plE L (nI o) k then 1 else 0
  | 0, _ => by
    show (0 : Int32) &&& 1 = if nI r < nI o then 1 else 0
    rw [if_neg (fun q => by have := (nI_ltI (by omega) (by omega)).mp q; omega)]
    decide
  | k + 1, h => by
    have ih := cr_par hL hr ho (k := k) (by omega)
    have hx := okW_at hL (show k < L.length by omega)
    have hc := cr_ord _ hx _ (pl_mem hL hr (k := k) (by omega)) _ (pl_mem hL (r := o) (by omega) (k := k) (by omega)) (pl_ne hL hr (by omega) (by omega) (by omega))
    show (crS L (nI r) (nI o) k + (if ¬ plB (atL L k) (plE L (nI r) k) = plE L (nI r) k ∧ ¬ plB (atL L k) (plE L (nI o) k) = plE L (nI o) k then sgI (atL L k) else 0)) &&& 1 = if plB (atL L k) (plE L (nI r) k) < plB (atL L k) (plE L (nI o) k) then 1 else 0
    split at hc
    · next c =>
      rw [if_pos c, par1 (okx_h _ hx).2.2.2.1, ih]
      by_cases q : plE L (nI r) k < plE L (nI o) k
      · rw [if_pos q, if_neg (fun z => hc.mp z q)]; decide
      · rw [if_neg q, if_pos (hc.mpr q)]; decide
    · next c =>
      rw [if_neg c, Int32.add_zero, ih]
      by_cases q : plE L (nI r) k < plE L (nI o) k
      · rw [if_pos q, if_pos (hc.mpr q)]
      · rw [if_neg q, if_neg (fun z => q (hc.mp z))]
/-- each place below rn has its rope -/
theorem sj_1 : ∀ rn ∈ rnS, ∀ x ∈ okr rn, ∀ p, p < rn → ∃ q, q < rn ∧ plB x (nI p) = nI q ∧ plB x (nI q) = nI p := by
  intro rn hr x hx p hp
  have h : ∀ rn ∈ rnS, ∀ x ∈ okr rn, ∀ p, p < rn → (plB x (nI p)).toNatClampNeg < rn ∧ plB x (nI p) = nI (plB x (nI p)).toNatClampNeg ∧ plB x (plB x (nI p)) = nI p := by decide +kernel
  obtain ⟨h1, h2, h3⟩ := h rn hr x hx p hp
  exact ⟨_, h1, h2, by rw [← h2]; exact h3⟩
theorem pl_lt {rn : Nat} (hr : rn ∈ rnS) {L : List Int32} (hL : okL rn L) {r : Nat} (h : r < rn) : ∀ {k : Nat}, k ≤ L.length → ∃ p, p < rn ∧ plE L (nI r) k = nI p
  | 0, _ => ⟨r, h, rfl⟩
  | k + 1, hk => by
    obtain ⟨p, h1, h2⟩ := pl_lt hr hL h (k := k) (by omega)
    obtain ⟨q, q1, q2, -⟩ := sj_1 rn hr _ (okL_at hL (show k < L.length by omega)) p h1
    refine ⟨q, q1, ?_⟩
    show plB (atL L k) (plE L (nI r) k) = nI q
    rw [h2, q2]
theorem pl_sur {rn : Nat} (hr : rn ∈ rnS) {L : List Int32} (hL : okL rn L) : ∀ {k : Nat}, k ≤ L.length → ∀ p, p < rn → ∃ r, r < rn ∧ plE L (nI r) k = nI p
  | 0, _ => fun p hp => ⟨p, hp, rfl⟩
  | k + 1, hk => fun p hp => by
    obtain ⟨q, q1, -, q3⟩ := sj_1 rn hr _ (okL_at hL (show k < L.length by omega)) p hp
    obtain ⟨r, r1, r2⟩ := pl_sur hr hL (k := k) (by omega) q q1
    refine ⟨r, r1, ?_⟩
    show plB (atL L k) (plE L (nI r) k) = nI p
    rw [r2, q3]
/-- the bits of the ends of the first r ropes -/
def mkI (L : List Int32) : Nat → Int32
  | 0 => 0
  | r + 1 => mkI L r ||| (1 <<< plE L (nI r) L.length)
theorem bit1 : ∀ p, p < 6 → (1 : Int32) <<< nI p = nI (2 ^ p) := by decide +kernel
theorem bit2 : ∀ a, a < 64 → ∀ b, b < 64 → nI a ||| nI b = nI (a ||| b) := by decide +kernel
theorem mk_all {rn : Nat} (hr : rn ∈ rnS) (h6 : rn ≤ 6) {L : List Int32} (hL : okL rn L) : ∀ {r : Nat}, r ≤ rn → ∃ M, M < 64 ∧ mkI L r = nI M ∧ ∀ j, j < 32 → (M.testBit j = true ↔ ∃ q, q < r ∧ plE L (nI q) L.length = nI j)
  | 0, _ => ⟨0, by decide, rfl, fun j _ => by simp⟩
  | r + 1, h => by
    obtain ⟨M, m1, m2, m3⟩ := mk_all hr h6 hL (r := r) (by omega)
    obtain ⟨p, p1, p2⟩ := pl_lt hr hL (show r < rn by omega) (Nat.le_refl L.length)
    have hp : 2 ^ p < 64 := Nat.pow_lt_pow_right (by decide) (show p < 6 by omega)
    refine ⟨M ||| 2 ^ p, Nat.or_lt_two_pow (n := 6) m1 hp, ?_, fun j hj32 => ?_⟩
    · show mkI L r ||| (1 <<< plE L (nI r) L.length) = _
      rw [m2, p2, bit1 p (by omega), bit2 M m1 _ hp]
    · rw [Nat.testBit_or, Bool.or_eq_true, m3 j hj32, Nat.testBit_two_pow]
      constructor
      · rintro (⟨q, q1, q2⟩ | q)
        · exact ⟨q, by omega, q2⟩
        · have e : p = j := by simpa using q
          subst e
          exact ⟨r, Nat.lt_succ_self r, p2⟩
      · rintro ⟨q, q1, q2⟩
        by_cases c : q = r
        · subst c
          right
          rw [p2] at q2
          have hj : p = j := (nI_eq (by omega) (by omega)).mp q2
          simpa using hj
        · exact Or.inl ⟨q, by omega, q2⟩
theorem mk_end {rn : Nat} (hr : rn ∈ rnS) (h6 : rn ≤ 6) {L : List Int32} (hL : okL rn L) : mkI L rn = (1 <<< nI rn) - 1 := by
  obtain ⟨M, m1, m2, m3⟩ := mk_all hr h6 hL (Nat.le_refl rn)
  have e : M = 2 ^ rn - 1 := by
    apply Nat.eq_of_testBit_eq
    intro j
    rw [Nat.testBit_two_pow_sub_one]
    by_cases hj : j < 32
    · cases hb : M.testBit j with
      | true =>
        obtain ⟨q, q1, q2⟩ := (m3 j hj).mp hb
        obtain ⟨p, p1, p2⟩ := pl_lt hr hL q1 (Nat.le_refl L.length)
        rw [p2] at q2
        have : p = j := (nI_eq (by omega) (by omega)).mp q2
        simp; omega
      | false =>
        by_cases hjr : j < rn
        · obtain ⟨q, q1, q2⟩ := pl_sur hr hL (Nat.le_refl L.length) j hjr
          rw [(m3 j hj).mpr ⟨q, q1, q2⟩] at hb
          cases hb
        · simp [hjr]
    · have h1 : M.testBit j = false := Nat.testBit_lt_two_pow (Nat.lt_of_lt_of_le m1 (Nat.le_trans (show 64 ≤ 2 ^ 32 by decide) (Nat.pow_le_pow_right (by decide) (by omega))))
      rw [h1]
      simp; omega
  rw [m2, e]
  have h : ∀ rn ∈ rnS, nI (2 ^ rn - 1) = ((1 : Int32) <<< nI rn) - 1 := by decide +kernel
  exact h rn hr
/-- sums over pairs of the numbers below n -/
def cntB (b : Nat → Bool) : Nat → Nat
  | 0 => 0
  | n + 1 => cntB b n + (if b n then 1 else 0)
def rowP (f : Nat → Nat → Int32) (r : Nat) : Nat → Int32
  | 0 => 0
  | o + 1 => rowP f r o + f r o
def sumP (f : Nat → Nat → Int32) : Nat → Int32
  | 0 => 0
  | r + 1 => sumP f r + rowP f r r
def triN : Nat → Nat
  | 0 => 0
  | m + 1 => triN m + m
theorem rowP_b {b : Nat → Bool} {s : Int32} {r : Nat} : ∀ {o : Nat}, rowP (fun r o => if b r = true ∧ b o = true then s else 0) r o = if b r = true then s * nI (cntB b o) else 0
  | 0 => by
    show (0 : Int32) = if b r = true then s * nI 0 else 0
    rw [nI_0, Int32.mul_zero]; split <;> rfl
  | o + 1 => by
    show rowP _ r o + (if b r = true ∧ b o = true then s else 0) = if b r = true then s * nI (cntB b o + (if b o then 1 else 0)) else 0
    rw [rowP_b (o := o)]
    by_cases c1 : b r = true <;> by_cases c2 : b o = true
    · simp [c1, c2]
      rw [nI_succ, Int32.mul_add, Int32.mul_one]
    · simp [c1, c2]
    · simp [c1, c2]
    · simp [c1, c2]
theorem sumP_b {b : Nat → Bool} {s : Int32} : ∀ {n : Nat}, sumP (fun r o => if b r = true ∧ b o = true then s else 0) n = s * nI (triN (cntB b n))
  | 0 => by
    show (0 : Int32) = s * nI 0
    rw [nI_0, Int32.mul_zero]
  | n + 1 => by
    show sumP _ n + rowP _ n n = s * nI (triN (cntB b n + (if b n then 1 else 0)))
    rw [sumP_b (n := n), rowP_b]
    by_cases c : b n = true
    · simp [c]
      show _ = s * nI (triN (cntB b n) + cntB b n)
      rw [← nI_add, Int32.mul_add]
    · simp [c]
theorem rowP_add {f g : Nat → Nat → Int32} {r : Nat} : ∀ {o : Nat}, rowP (fun r o => f r o + g r o) r o = rowP f r o + rowP g r o
  | 0 => by show (0 : Int32) = 0 + 0; rw [Int32.add_zero]
  | o + 1 => by
    show rowP _ r o + (f r o + g r o) = (rowP f r o + f r o) + (rowP g r o + g r o)
    rw [rowP_add (o := o), Int32.add_assoc, Int32.add_assoc, ← Int32.add_assoc (rowP g r o), Int32.add_comm (rowP g r o), Int32.add_assoc]
theorem sumP_add {f g : Nat → Nat → Int32} : ∀ {n : Nat}, sumP (fun r o => f r o + g r o) n = sumP f n + sumP g n
  | 0 => by show (0 : Int32) = 0 + 0; rw [Int32.add_zero]
  | n + 1 => by
    show sumP _ n + rowP _ n n = (sumP f n + rowP f n n) + (sumP g n + rowP g n n)
    rw [sumP_add (n := n), rowP_add, Int32.add_assoc, Int32.add_assoc, ← Int32.add_assoc (sumP g n), Int32.add_comm (sumP g n), Int32.add_assoc]
theorem rowP_cg {f g : Nat → Nat → Int32} {r : Nat} : ∀ {o : Nat}, (∀ q, q < o → f r q = g r q) → rowP f r o = rowP g r o
  | 0, _ => rfl
  | o + 1, h => by
    show rowP f r o + f r o = rowP g r o + g r o
    rw [rowP_cg (o := o) (fun q hq => h q (by omega)), h o (by omega)]
theorem sumP_cg {f g : Nat → Nat → Int32} : ∀ {n : Nat}, (∀ r, r < n → ∀ q, q < r → f r q = g r q) → sumP f n = sumP g n
  | 0, _ => rfl
  | n + 1, h => by
    show sumP f n + rowP f n n = sumP g n + rowP g n n
    rw [sumP_cg (n := n) (fun r hr => h r (by omega)), rowP_cg (h n (by omega))]
theorem cnt2 : ∀ n, n < 7 → ∀ r1, r1 < n → ∀ r2, r2 < n → ¬ r1 = r2 → cntB (fun r => r == r1 || r == r2) n = 2 := by decide +kernel
theorem cntB_cg {b d : Nat → Bool} : ∀ {n : Nat}, (∀ r, r < n → b r = d r) → cntB b n = cntB d n
  | 0, _ => rfl
  | n + 1, h => by
    show cntB b n + (if b n then 1 else 0) = cntB d n + (if d n then 1 else 0)
    rw [cntB_cg (n := n) (fun r hr => h r (by omega)), h n (by omega)]
theorem mvd : ∀ rn ∈ rnS, ∀ x ∈ okr rn, ∃ p, p + 1 < rn ∧ ∀ q, q < 6 → ((¬ plB x (nI q) = nI q) ↔ (q = p ∨ q = p + 1)) := by
  have h : ∀ rn ∈ rnS, ∀ x ∈ okr rn, (hN x - 1) + 1 < rn ∧ ∀ q, q < 6 → ((¬ plB x (nI q) = nI q) ↔ (q = hN x - 1 ∨ q = (hN x - 1) + 1)) := by decide +kernel
  exact fun rn hr x hx => ⟨_, h rn hr x hx⟩
/-- all pairs' crossings are all letters' signs -/
theorem sum_cr {rn : Nat} (hr : rn ∈ rnS) (h6 : rn ≤ 6) {L : List Int32} (hL : okL rn L) : ∀ {k : Nat}, k ≤ L.length → sumP (fun r o => crS L (nI r) (nI o) k) rn = accL L sgI k
  | 0, _ => by
    have h := sumP_b (b := fun _ => false) (s := 0) (n := rn)
    have e : sumP (fun r o => crS L (nI r) (nI o) 0) rn = sumP (fun r o => if (fun _ => false : Nat → Bool) r = true ∧ (fun _ => false : Nat → Bool) o = true then 0 else 0) rn := sumP_cg (fun r _ q _ => by simp; rfl)
    rw [e, h, Int32.zero_mul]
    rfl
  | k + 1, hk => by
    have ih := sum_cr hr h6 hL (k := k) (by omega)
    have hx := okL_at hL (show k < L.length by omega)
    obtain ⟨p, p1, p2⟩ := mvd rn hr _ hx
    obtain ⟨r1, a1, a2⟩ := pl_sur hr hL (k := k) (by omega) p (by omega)
    obtain ⟨r2, b1, b2⟩ := pl_sur hr hL (k := k) (by omega) (p + 1) p1
    have hW := okW_of hL
    have hne : ¬ r1 = r2 := fun q => by
      rw [q, b2] at a2
      have := (nI_eq (by omega) (by omega)).mp a2
      omega
    have hm : ∀ r, r < rn → ((¬ plB (atL L k) (plE L (nI r) k) = plE L (nI r) k) ↔ (r = r1 ∨ r = r2)) := fun r hrr => by
      obtain ⟨t, t1, t2⟩ := pl_lt hr hL hrr (k := k) (by omega)
      rw [t2, p2 t (by omega)]
      constructor
      · rintro (q | q)
        · left
          by_cases c : r = r1
          · exact c
          · exact absurd (t2.trans (by rw [q, a2])) (pl_ne hW (by omega) (by omega) c (by omega))
        · right
          by_cases c : r = r2
          · exact c
          · exact absurd (t2.trans (by rw [q, b2])) (pl_ne hW (by omega) (by omega) c (by omega))
      · rintro (q | q)
        · left
          subst q
          exact (nI_eq (by omega) (by omega)).mp (t2.symm.trans a2)
        · right
          subst q
          exact (nI_eq (by omega) (by omega)).mp (t2.symm.trans b2)
    have e : sumP (fun r o => crS L (nI r) (nI o) (k + 1)) rn = sumP (fun r o => crS L (nI r) (nI o) k + (if (r == r1 || r == r2) = true ∧ (o == r1 || o == r2) = true then sgI (atL L k) else 0)) rn := sumP_cg (fun r hrr q hq => by
      show crS L (nI r) (nI q) k + (if ¬ plB (atL L k) (plE L (nI r) k) = plE L (nI r) k ∧ ¬ plB (atL L k) (plE L (nI q) k) = plE L (nI q) k then sgI (atL L k) else 0) = _
      congr 1
      have h1 := hm r hrr
      have h2 := hm q (by omega)
      by_cases c1 : r = r1 ∨ r = r2 <;> by_cases c2 : q = r1 ∨ q = r2
      · rw [if_pos ⟨h1.mpr c1, h2.mpr c2⟩, if_pos (by simpa using ⟨c1, c2⟩)]
      · rw [if_neg (fun z => c2 (h2.mp z.2)), if_neg (fun z => c2 (by simpa using z.2))]
      · rw [if_neg (fun z => c1 (h1.mp z.1)), if_neg (fun z => c1 (by simpa using z.1))]
      · rw [if_neg (fun z => c1 (h1.mp z.1)), if_neg (fun z => c1 (by simpa using z.1))])
    rw [e, sumP_add, ih, sumP_b (b := fun r => r == r1 || r == r2), cnt2 rn (by omega) r1 a1 r2 b1 hne]
    show accL L sgI k + sgI (atL L k) * nI (triN 2) = accL L sgI k + sgI (atL L k)
    rw [show nI (triN 2) = 1 from rfl, Int32.mul_one]
