/-! 25: the reference's public methods, as they answer and as they refuse -/
theorem inI_y {v lo hi : Int32} (h1 : lo ≤ v) (h2 : v ≤ hi) : inI v lo hi = 1 := if_pos ⟨h1, h2⟩
theorem inI_n {v lo hi : Int32} (h : v < lo ∨ hi < v) : inI v lo hi = 0 := if_neg (fun q => h.elim (fun z => Int32.not_lt.mpr q.1 z) (fun z => Int32.not_lt.mpr q.2 z))
theorem inI_36 {rq : Nat} (h3 : 3 ≤ rq) (h6 : rq ≤ 6) : inI (nI rq) 3 6 = 1 := inI_y (nI_le (a := 3) h3 (by omega)) (nI_le (b := 6) h6 (by decide))
theorem inI_w {w : Nat} (hw : w < 2) : inI (nI w) 0 1 = 1 := inI_y (nI_le (a := 0) (Nat.zero_le _) (by omega)) (nI_le (b := 1) (by omega) (by decide))
theorem inI_cy {k b : Nat} (hk : k ≤ b) (hb : b < 2 ^ 31) : inI (nI k) 0 (nI b) = 1 := inI_y (nI_le (a := 0) (Nat.zero_le _) (by omega)) (nI_le hk hb)
theorem inI_c {v : Int32} {b : Nat} (h : v < 0 ∨ nI (b + 1) ≤ v) (hb : b < 2 ^ 30) : inI v 0 (nI b) = 0 := inI_n (h.imp id (fun q => Int32.lt_of_lt_of_le (nI_lt (Nat.lt_succ_self b) (by omega)) q))
theorem inI_pl {k n d : Nat} (h : k + d ≤ n) (hn : n < 2 ^ 30) (hd : d < 2 ^ 30) : inI (nI k) 0 (nI n - nI d) = 1 := by
  rw [pk_sub (show d ≤ n by omega)]
  exact inI_cy (by omega) (by omega)
theorem inI_b {v : Int32} {n m d : Nat} (hn : n ≤ 30) (hm : n + 1 ≤ m + d ∧ m ≤ n ∧ d < 9) (h : v < 0 ∨ nI m ≤ v) : inI v 0 (nI n - nI d) = 0 := by
  refine inI_n (h.imp id (fun q => ?_))
  rw [Int32.lt_iff_toInt_lt, pk_sub_toInt (by omega) (by omega)]
  rw [Int32.le_iff_toInt_le, nI_toInt (by omega)] at q
  omega
theorem rn_int : ∀ rn ∈ rnS, ((1 : Int32) - nI rn).toInt = 1 - (rn : Int) ∧ (nI rn - 1).toInt = (rn : Int) - 1 ∧ (-nI rn).toInt = -(rn : Int) ∧ (nI rn).toInt = (rn : Int) := by decide +kernel
theorem let_y {rn : Nat} {x : Int32} (hr : rn ∈ rnS) (h0 : ¬ x = 0) (h1 : ¬ x ≤ -nI rn) (h2 : x < nI rn) : (if x = 0 then 0 else inI x (1 - nI rn) (nI rn - 1)) = 1 := by
  obtain ⟨a, b, c, d⟩ := rn_int rn hr
  rw [if_neg h0]
  rw [Int32.le_iff_toInt_le, c] at h1
  rw [Int32.lt_iff_toInt_lt, d] at h2
  refine inI_y ?_ ?_
  · rw [Int32.le_iff_toInt_le, a]; omega
  · rw [Int32.le_iff_toInt_le, b]; omega
theorem let_n {rn : Nat} {x : Int32} (hr : rn ∈ rnS) (h : x = 0 ∨ x ≤ -nI rn ∨ nI rn ≤ x) : (if x = 0 then 0 else inI x (1 - nI rn) (nI rn - 1)) = 0 := by
  obtain ⟨a, b, c, d⟩ := rn_int rn hr
  by_cases h0 : x = 0
  · rw [if_pos h0]
  · rw [if_neg h0]
    refine inI_n ?_
    rw [Int32.lt_iff_toInt_lt, Int32.lt_iff_toInt_lt, a, b]
    rw [Int32.le_iff_toInt_le, Int32.le_iff_toInt_le, c, d] at h
    rcases h with h | h | h
    · exact absurd h h0
    · exact Or.inl (by omega)
    · exact Or.inr (by omega)
theorem let_all : ∀ rn ∈ rnS, ∀ k, k < 2 * rn - 1 → ¬ (Int32.ofInt ((k : Int) - (rn : Int) + 1)) = 0 → (Int32.ofInt ((k : Int) - (rn : Int) + 1)) ∈ okr rn := by decide +kernel
/-- a letter that the ropes have is one of those -/
theorem let_ok {rn : Nat} {x : Int32} (hr : rn ∈ rnS) (h0 : ¬ x = 0) (h1 : ¬ x ≤ -nI rn) (h2 : x < nI rn) : x ∈ okr rn := by
  obtain ⟨a, b, c, d⟩ := rn_int rn hr
  rw [Int32.le_iff_toInt_le, c] at h1
  rw [Int32.lt_iff_toInt_lt, d] at h2
  have e : Int32.ofInt (((x.toInt + rn - 1).toNat : Int) - (rn : Int) + 1) = x := by
    rw [show ((x.toInt + rn - 1).toNat : Int) - (rn : Int) + 1 = x.toInt by omega]
    exact Int32.ofInt_toInt x
  have := let_all rn hr (x.toInt + rn - 1).toNat (by omega)
  rw [e] at this
  exact this h0
theorem ok_ab1' : ∀ rn ∈ rnS, ∀ x ∈ okr rn, ∀ y ∈ okr rn, sgI y = sgI x → abI (abI y - abI x) = 1 → abI (x - y) = 1 := by decide +kernel
theorem ok_ab2' : ∀ rn ∈ rnS, ∀ x ∈ okr rn, ∀ y ∈ okr rn, ((¬ x ≤ 0 ∧ ¬ y ≤ 0) ∨ (x ≤ 0 ∧ y ≤ 0)) → abI (x - y) = 1 → sgI y = sgI x ∧ abI (abI y - abI x) = 1 := by decide +kernel
theorem ok_ab1 {rn : Nat} {x y : Int32} (hr : rn ∈ rnS) (hx : x ∈ okr rn) (hy : y ∈ okr rn) : sgI y = sgI x → abI (abI y - abI x) = 1 → abI (x - y) = 1 := ok_ab1' rn hr x hx y hy
theorem ok_ab2 {rn : Nat} {x y : Int32} (hr : rn ∈ rnS) (hx : x ∈ okr rn) (hy : y ∈ okr rn) : ((¬ x ≤ 0 ∧ ¬ y ≤ 0) ∨ (x ≤ 0 ∧ y ≤ 0)) → abI (x - y) = 1 → sgI y = sgI x ∧ abI (abI y - abI x) = 1 := ok_ab2' rn hr x hx y hy
def upW (Vw : Nat → List Int32) (w : Nat) (X : List Int32) : Nat → List Int32 := fun j => if j = w then X else Vw j
theorem upW_s {Vw : Nat → List Int32} {w : Nat} {X : List Int32} : upW Vw w X w = X := if_pos rfl
theorem upW_n {Vw : Nat → List Int32} {w v : Nat} {X : List Int32} (h : v ≠ w) : upW Vw w X v = Vw v := if_neg h
theorem upW_2 {Vw : Nat → List Int32} {w : Nat} {X Y : List Int32} : upW (upW Vw w X) w Y = upW Vw w Y := by
  funext j
  by_cases c : j = w
  · subst c; rw [upW_s, upW_s]
  · rw [upW_n c, upW_n c, upW_n c]
theorem MW_up {Vw : Nat → List Int32} {sf lf sf' lf' : Nat → Int32} {w : Nat} {X : List Int32} (hW : MW Vw sf lf) (hw : w < 2) (hs : sf' w = nI X.length) (hso : ∀ j, j ≠ w → sf' j = sf j) (hX : X.length ≤ 30) (hl : ∀ i, i < X.length → lf' (30 * w + i) = atL X i) (hlo : ∀ j, (j < 30 * w ∨ 30 * w + 30 ≤ j) → lf' j = lf j) : MW (upW Vw w X) sf' lf' := by
  intro v hv
  by_cases c : v = w
  · subst c; rw [upW_s]; exact ⟨hs, hX, hl⟩
  · rw [upW_n c]
    obtain ⟨a, b, d⟩ := hW v hv
    exact ⟨(hso v c).trans a, b, fun i hi => (hlo _ (by omega)).trans (d i hi)⟩
theorem MW_nil {sf lf : Nat → Int32} : MW (fun _ => []) (upd (upd sf 0 0) 1 0) lf := by
  intro w hw
  refine ⟨?_, Nat.zero_le _, fun i h => absurd h (Nat.not_lt_zero i)⟩
  obtain rfl | rfl : w = 0 ∨ w = 1 := by omega
  · rw [pk_un (by decide), pk_us]; rfl
  · rw [pk_us]; rfl
theorem MW_twist {Vw : Nat → List Int32} {sf lf : Nat → Int32} {w : Nat} {x : Int32} (hW : MW Vw sf lf) (hw : w < 2) (hk : (Vw w).length < 30) : MW (upW Vw w (Vw w ++ [x])) (upd sf w (nI ((Vw w).length + 1))) (upd lf (30 * w + (Vw w).length) x) := by
  refine MW_up hW hw (by rw [pk_us, len_snoc]) (fun j h => pk_un h) (by rw [len_snoc]; omega) (fun i hi => ?_) (fun j h => pk_un (by omega))
  rw [len_snoc] at hi
  by_cases c : i = (Vw w).length
  · subst c; rw [pk_us, atL_snoc]
  · rw [pk_un (by omega), atL_appL (by omega)]; exact (hW w hw).2.2 i (by omega)
theorem MW_untwist {Vw : Nat → List Int32} {sf lf : Nat → Int32} {w : Nat} (hW : MW Vw sf lf) (hw : w < 2) (hk : 0 < (Vw w).length) : MW (upW Vw w (Vw w).dropLast) (upd sf w (nI ((Vw w).length - 1))) lf := by
  have := (hW w hw).2.1
  refine MW_up hW hw (by rw [pk_us, List.length_dropLast]) (fun j h => pk_un h) (by rw [List.length_dropLast]; omega) (fun i hi => ?_) (fun _ _ => rfl)
  rw [List.length_dropLast] at hi
  rw [List.dropLast_eq_take, atL_take hi]
  exact (hW w hw).2.2 i (by omega)
theorem MW_set {Vw : Nat → List Int32} {sf lf : Nat → Int32} {w k : Nat} {x : Int32} (hW : MW Vw sf lf) (hw : w < 2) (hk : k < (Vw w).length) : MW (upW Vw w ((Vw w).set k x)) sf (upd lf (30 * w + k) x) := by
  have := (hW w hw).2.1
  refine MW_up hW hw (by rw [List.length_set]; exact (hW w hw).1) (fun _ _ => rfl) (by rw [List.length_set]; exact this) (fun i hi => ?_) (fun j h => pk_un (by omega))
  rw [List.length_set] at hi
  rw [atL_set hk]
  by_cases c : i = k
  · subst c; rw [pk_us, if_pos rfl]
  · rw [pk_un (by omega), if_neg c]; exact (hW w hw).2.2 i hi
theorem MW_set2 {Vw : Nat → List Int32} {sf lf : Nat → Int32} {w k j : Nat} {x y : Int32} (hW : MW Vw sf lf) (hw : w < 2) (hk : k < (Vw w).length) (hj : j < (Vw w).length) : MW (upW Vw w (((Vw w).set k x).set j y)) sf (upd (upd lf (30 * w + k) x) (30 * w + j) y) := by
  have h := MW_set (k := j) (x := y) (MW_set (x := x) hW hw hk) hw (by rw [upW_s, List.length_set]; exact hj)
  rw [upW_s, upW_2] at h
  exact h
theorem MW_set3 {Vw : Nat → List Int32} {sf lf : Nat → Int32} {w k j i : Nat} {x y z : Int32} (hW : MW Vw sf lf) (hw : w < 2) (hk : k < (Vw w).length) (hj : j < (Vw w).length) (hi : i < (Vw w).length) : MW (upW Vw w ((((Vw w).set k x).set j y).set i z)) sf (upd (upd (upd lf (30 * w + k) x) (30 * w + j) y) (30 * w + i) z) := by
  have h := MW_set (k := i) (x := z) (MW_set2 (x := x) (y := y) hW hw hk hj) hw (by rw [upW_s, List.length_set, List.length_set]; exact hi)
  rw [upW_s, upW_2] at h
  exact h
theorem MW_store {Vw : Nat → List Int32} {sf lf s1 l1 : Nat → Int32} {w : Nat} {X : List Int32} (hW : MW Vw sf lf) (hw : w < 2) (h1 : s1 = upd sf w (nI X.length)) (h2 : ∀ i, i < X.length → l1 (30 * w + i) = atL X i) (h3 : ∀ j, (j < 30 * w ∨ 30 * w + 30 ≤ j) → l1 j = lf j) (hX : X.length ≤ 30) : MW (upW Vw w X) s1 l1 := by
  subst h1
  exact MW_up hW hw pk_us (fun j h => pk_un h) hX h2 h3
theorem one_sub {w : Nat} (hw : w < 2) : (1 : Int32) - nI w = nI (1 - w) := pk_sub (a := 1) (by omega)
theorem two_sum {f : Nat → Nat} {w : Nat} (hw : w < 2) : f w + f (1 - w) = f 0 + f 1 := by
  obtain rfl | rfl : w = 0 ∨ w = 1 := by omega
  · rfl
  · exact Nat.add_comm _ _
set_option maxRecDepth 20000 in
theorem in_X2_setRopes_2 : ∀ w ∈ wsX20, w ∈ wsX2_setRopes := by decide +kernel
set_option maxRecDepth 20000 in
theorem in_X2_twist_2 : ∀ w ∈ wsX20, w ∈ wsX2_twist := by decide +kernel
set_option maxRecDepth 20000 in
theorem in_X2_untwist_2 : ∀ w ∈ wsX20, w ∈ wsX2_untwist := by decide +kernel
set_option maxRecDepth 20000 in
theorem in_X2_turn_2 : ∀ w ∈ wsX20, w ∈ wsX2_turn := by decide +kernel
set_option maxRecDepth 20000 in
theorem in_X2_join_2 : ∀ w ∈ wsX20, w ∈ wsX2_join := by decide +kernel
set_option maxRecDepth 20000 in
theorem in_X2_swap_2 : ∀ w ∈ wsX20, w ∈ wsX2_swap := by decide +kernel
set_option maxRecDepth 20000 in
theorem in_X2_about_2 : ∀ w ∈ wsX20, w ∈ wsX2_about := by decide +kernel
set_option maxRecDepth 20000 in
theorem in_X2_insert_2 : ∀ w ∈ wsX20, w ∈ wsX2_insert := by decide +kernel
set_option maxRecDepth 20000 in
theorem in_X2_cut_2 : ∀ w ∈ wsX20, w ∈ wsX2_cut := by decide +kernel
set_option maxRecDepth 20000 in
theorem in_X2_letter_2 : ∀ w ∈ wsX20, w ∈ wsX2_letter := by decide +kernel
set_option maxRecDepth 20000 in
theorem in_X2_end_2 : ∀ w ∈ wsX20, w ∈ wsX2_end := by decide +kernel
set_option maxRecDepth 20000 in
theorem in_X2_crosses_2 : ∀ w ∈ wsX20, w ∈ wsX2_crosses := by decide +kernel
set_option maxRecDepth 20000 in
theorem in_X2_handle_2 : ∀ w ∈ wsX20, w ∈ wsX2_handle := by decide +kernel
set_option maxRecDepth 20000 in
theorem in_X2_plain_2 : ∀ w ∈ wsX20, w ∈ wsX2_plain := by decide +kernel
set_option maxRecDepth 20000 in
theorem in_X2_advise_2 : ∀ w ∈ wsX20, w ∈ wsX2_advise := by decide +kernel
set_option maxRecDepth 20000 in
theorem in_X2_count_2 : ∀ w ∈ wsX20, w ∈ wsX2_count := by decide +kernel
set_option maxRecDepth 20000 in
theorem in_X2_same_2 : ∀ w ∈ wsX20, w ∈ wsX2_same := by decide +kernel
set_option maxRecDepth 20000 in
theorem in_X2_ahead_2 : ∀ w ∈ wsX20, w ∈ wsX2_ahead := by decide +kernel
theorem hdX2_aheadTold : yX2_aheadTold.cls = RX2 ∧ yX2_aheadTold.cls ≠ "java/lang/invoke/MethodHandle" ∧ yX2_aheadTold.cls ≠ "java/lang/invoke/VarHandle" ∧ (parseMethodDescriptor yX2_aheadTold.desc).map (fun d => d.parameters.length) = some 0 := by decide +kernel
theorem hdX2_counted : yX2_counted.cls = RX2 ∧ yX2_counted.cls ≠ "java/lang/invoke/MethodHandle" ∧ yX2_counted.cls ≠ "java/lang/invoke/VarHandle" ∧ (parseMethodDescriptor yX2_counted.desc).map (fun d => d.parameters.length) = some 1 := by decide +kernel
theorem hdX2_endOf : yX2_endOf.cls = RX2 ∧ yX2_endOf.cls ≠ "java/lang/invoke/MethodHandle" ∧ yX2_endOf.cls ≠ "java/lang/invoke/VarHandle" ∧ (parseMethodDescriptor yX2_endOf.desc).map (fun d => d.parameters.length) = some 2 := by decide +kernel
theorem hdX2_handleTold : yX2_handleTold.cls = RX2 ∧ yX2_handleTold.cls ≠ "java/lang/invoke/MethodHandle" ∧ yX2_handleTold.cls ≠ "java/lang/invoke/VarHandle" ∧ (parseMethodDescriptor yX2_handleTold.desc).map (fun d => d.parameters.length) = some 2 := by decide +kernel
theorem hdX2_isLetter : yX2_isLetter.cls = RX2 ∧ yX2_isLetter.cls ≠ "java/lang/invoke/MethodHandle" ∧ yX2_isLetter.cls ≠ "java/lang/invoke/VarHandle" ∧ (parseMethodDescriptor yX2_isLetter.desc).map (fun d => d.parameters.length) = some 1 := by decide +kernel
theorem hdX2_isRope : yX2_isRope.cls = RX2 ∧ yX2_isRope.cls ≠ "java/lang/invoke/MethodHandle" ∧ yX2_isRope.cls ≠ "java/lang/invoke/VarHandle" ∧ (parseMethodDescriptor yX2_isRope.desc).map (fun d => d.parameters.length) = some 1 := by decide +kernel
theorem hdX2_isWord : yX2_isWord.cls ≠ "java/lang/invoke/MethodHandle" ∧ yX2_isWord.cls ≠ "java/lang/invoke/VarHandle" ∧ (parseMethodDescriptor yX2_isWord.desc).map (fun d => d.parameters.length) = some 1 := by decide +kernel
theorem hdX2_no : yX2_no.cls = RX2 ∧ yX2_no.cls ≠ "java/lang/invoke/MethodHandle" ∧ yX2_no.cls ≠ "java/lang/invoke/VarHandle" ∧ (parseMethodDescriptor yX2_no.desc).map (fun d => d.parameters.length) = some 1 := by decide +kernel
theorem hdX2_plainTold : yX2_plainTold.cls = RX2 ∧ yX2_plainTold.cls ≠ "java/lang/invoke/MethodHandle" ∧ yX2_plainTold.cls ≠ "java/lang/invoke/VarHandle" ∧ (parseMethodDescriptor yX2_plainTold.desc).map (fun d => d.parameters.length) = some 2 := by decide +kernel
theorem hdX2_sameTold : yX2_sameTold.cls = RX2 ∧ yX2_sameTold.cls ≠ "java/lang/invoke/MethodHandle" ∧ yX2_sameTold.cls ≠ "java/lang/invoke/VarHandle" ∧ (parseMethodDescriptor yX2_sameTold.desc).map (fun d => d.parameters.length) = some 0 := by decide +kernel
theorem hdX2_store : yX2_store.cls = RX2 ∧ yX2_store.cls ≠ "java/lang/invoke/MethodHandle" ∧ yX2_store.cls ≠ "java/lang/invoke/VarHandle" ∧ (parseMethodDescriptor yX2_store.desc).map (fun d => d.parameters.length) = some 1 := by decide +kernel
abbrev mt_X2_setRopes_rm : Room := { frames := 1, cells := 0, slots := 0, locals := 22 }
set_option maxHeartbeats 4000000 in
set_option maxRecDepth 100000 in
theorem mt_X2_setRopes (l : Launch) (dC : Nat → ClassId) (dI : Nat → Nat → Nat) (cA : ClassId) (sz : Nat) (y0 : Nat) (q1 : Nat) (q2 : Nat) (q3 : Nat) (q4 : Nat) (q5 : Nat) (rn : Nat) (tv : Int32) (sf : Nat → Int32) (lf : Nat → Int32) (mn : Int32) (rf : Nat → Int32) (nf : Nat → Int32) (ct : Int32) (il : Int32) (gf : Nat → Int32) (rq : Nat) (h3 : 3 ≤ rq) (h6 : rq ≤ 6) : Met l yX2_setRopes wsX2_setRopes mt_X2_setRopes_rm (va_Pc [.ref y0, .int (nI rq)] (gB (dC, dI) [(cA, .int)] [(y0, .inr (2, [.int tv, .int (nI rn), .ref q1, .ref q2, .int mn, .ref q3, .ref q4, .int ct, .int il, .ref q5])), (q1, .inl (cA, (2, .inl sf))), (q2, .inl (cA, (60, .inl lf))), (q3, .inl (cA, (320, .inl rf))), (q4, .inl (cA, (320, .inl nf))), (q5, .inl (cA, (6, .inl gf)))] sz)) (gM (dC, dI) (some (.int (nI rn))) (fun u : (Nat → Int32) => MW (fun _ => []) u lf) (fun u : (Nat → Int32) => [(y0, .inr (2, [.int 0, .int (nI rq), .ref q1, .ref q2, .int mn, .ref q3, .ref q4, .int ct, .int il, .ref q5])), (q1, .inl (cA, (2, .inl u))), (q2, .inl (cA, (60, .inl lf))), (q3, .inl (cA, (320, .inl rf))), (q4, .inl (cA, (320, .inl nf))), (q5, .inl (cA, (6, .inl gf)))]) (va_A [(y0, .inr (2, [.int tv, .int (nI rn), .ref q1, .ref q2, .int mn, .ref q3, .ref q4, .int ct, .int il, .ref q5])), (q1, .inl (cA, (2, .inl sf))), (q2, .inl (cA, (60, .inl lf))), (q3, .inl (cA, (320, .inl rf))), (q4, .inl (cA, (320, .inl nf))), (q5, .inl (cA, (6, .inl gf)))] sz)) 0 0 (va_A [(y0, .inr (2, [.int tv, .int (nI rn), .ref q1, .ref q2, .int mn, .ref q3, .ref q4, .int ct, .int il, .ref q5])), (q1, .inl (cA, (2, .inl sf))), (q2, .inl (cA, (60, .inl lf))), (q3, .inl (cA, (320, .inl rf))), (q4, .inl (cA, (320, .inl nf))), (q5, .inl (cA, (6, .inl gf)))] sz) := by
  refine g_ofM (cc := cX2_setRopes) (maxL := 3) (ret := (some .int)) (by decide) rfl (Nat.le_of_ble_eq_true rfl) (fun p e s m below meth c ls hx hb hr hml hts hown hlocks hP hK hl hin A hA hD hS => ?_)
  have hl : lv_has ls 3 [(0, .ref y0), (1, .int (nI rq))] := hl
  refine lv_aload_n hx hb dX2_setRopes_0 rfl (lv_at hl 0 rfl) ?_
  refine lv_iconst (v := 0) hx hb dX2_setRopes_1 (by decide) ?_
  refine va_put (D := (dC, dI)) (ci := 2) (v := .int 0) (ty := .int) (C := RX2) (T := TX2) (N := 10) hx hb hts (in_X2_setRopes_2) tyX2 tyX2_ok nmX2 hown hK hP hD hS 0 rfl rfl 0 (by decide) (hts (.fieldLink RX2 29 "BraidWordsModel" "thrown" "I") (List.mem_of_getElem? (i := 1) rfl)) (fun _ h9 => h9) rfl (by decide +kernel) rfl rfl (Nat.le_of_ble_eq_true rfl) dX2_setRopes_2 (fun H locs hP hD hS => ?_)
  have hP : va_P (dC, dI) vwCl [(y0, .inr (2, [.int 0, .int (nI rn), .ref q1, .ref q2, .int mn, .ref q3, .ref q4, .int ct, .int il, .ref q5])), (q1, .inl (cA, (2, .inl sf))), (q2, .inl (cA, (60, .inl lf))), (q3, .inl (cA, (320, .inl rf))), (q4, .inl (cA, (320, .inl nf))), (q5, .inl (cA, (6, .inl gf)))] H := hP
  have hD : va_D A [(y0, .inr (2, [.int 0, .int (nI rn), .ref q1, .ref q2, .int mn, .ref q3, .ref q4, .int ct, .int il, .ref q5])), (q1, .inl (cA, (2, .inl sf))), (q2, .inl (cA, (60, .inl lf))), (q3, .inl (cA, (320, .inl rf))), (q4, .inl (cA, (320, .inl nf))), (q5, .inl (cA, (6, .inl gf)))] := hD
  refine lv_iload_n hx hb dX2_setRopes_5 rfl (lv_at hl 1 rfl) ?_
  refine lv_iconst (v := 3) hx hb dX2_setRopes_6 (by decide) ?_
  refine lv_bipush (v := 6) hx hb dX2_setRopes_7 (by decide) ?_
  refine g_RSi (As := [.int (nI rq), .int 3, .int 6]) (rest := []) ⟨hx, hb, hml, hown, hts⟩ (mt_X2_isIn l dC dI cA H.size (nI rq) 3 6) (va_cwS 3 hts gX2_setRopes_X2_isIn rfl rfl rfl hdX2_isIn ⟨Nat.le_of_ble_eq_true rfl, Nat.le_of_ble_eq_true rfl⟩) hP hK hD [] (by decide) rfl rfl hl.1 rfl (Nat.le_of_ble_eq_true rfl) dX2_setRopes_9 (Nat.zero_le _) (Nat.zero_le _) ?_
  rw [show (inI (nI rq) 3 6) = 1 from inI_36 h3 h6]
  refine lv_if_ne (tgt := 21) hx hb dX2_setRopes_12 (by decide) (fun c12 => ?_) (fun c12 => ?_)
  · have c12 : ¬ 1 = 0 := g_neT 1 0 (by omega) (by omega) c12
    refine lv_aload_n hx hb dX2_setRopes_21 rfl (lv_at hl 0 rfl) ?_
    refine va_get (D := (dC, dI)) (ci := 2) (v := .int (nI rn)) (C := RX2) (T := TX2) (N := 10) hx hb hts (in_X2_setRopes_2) hown hK hP 0 rfl rfl 1 (by decide) (hts (.fieldLink RX2 9 "BraidWordsModel" "ropes" "I") (List.mem_of_getElem? (i := 2) rfl)) (fun _ h9 => h9) rfl dX2_setRopes_22 ?_
    refine lv_istore_n (lv' := [(2, .int (nI rn)), (0, .ref y0), (1, .int (nI rq))]) hx hb dX2_setRopes_25 rfl hl (by decide) rfl (fun ls hl => ?_)
    refine lv_aload_n hx hb dX2_setRopes_26 rfl (lv_at hl 1 rfl) ?_
    refine lv_iload_n hx hb dX2_setRopes_27 rfl (lv_at hl 2 rfl) ?_
    refine va_put (D := (dC, dI)) (ci := 2) (v := .int (nI rq)) (ty := .int) (C := RX2) (T := TX2) (N := 10) hx hb hts (in_X2_setRopes_2) tyX2 tyX2_ok nmX2 hown hK hP hD hS 0 rfl rfl 1 (by decide) (hts (.fieldLink RX2 9 "BraidWordsModel" "ropes" "I") (List.mem_of_getElem? (i := 2) rfl)) (fun _ h9 => h9) rfl (by decide +kernel) rfl rfl (Nat.le_of_ble_eq_true rfl) dX2_setRopes_28 (fun H locs hP hD hS => ?_)
    have hP : va_P (dC, dI) vwCl [(y0, .inr (2, [.int 0, .int (nI rq), .ref q1, .ref q2, .int mn, .ref q3, .ref q4, .int ct, .int il, .ref q5])), (q1, .inl (cA, (2, .inl sf))), (q2, .inl (cA, (60, .inl lf))), (q3, .inl (cA, (320, .inl rf))), (q4, .inl (cA, (320, .inl nf))), (q5, .inl (cA, (6, .inl gf)))] H := hP
    have hD : va_D A [(y0, .inr (2, [.int 0, .int (nI rq), .ref q1, .ref q2, .int mn, .ref q3, .ref q4, .int ct, .int il, .ref q5])), (q1, .inl (cA, (2, .inl sf))), (q2, .inl (cA, (60, .inl lf))), (q3, .inl (cA, (320, .inl rf))), (q4, .inl (cA, (320, .inl nf))), (q5, .inl (cA, (6, .inl gf)))] := hD
    refine lv_aload_n hx hb dX2_setRopes_31 rfl (lv_at hl 1 rfl) ?_
    refine va_get (D := (dC, dI)) (ci := 2) (v := .ref q1) (C := RX2) (T := TX2) (N := 10) hx hb hts (in_X2_setRopes_2) hown hK hP 0 rfl rfl 2 (by decide) (hts (.fieldLink RX2 13 "BraidWordsModel" "size" "[I") (List.mem_of_getElem? (i := 3) rfl)) (fun _ h9 => h9) rfl dX2_setRopes_32 ?_
    refine lv_iconst (v := 0) hx hb dX2_setRopes_35 (by decide) ?_
    refine lv_iconst (v := 0) hx hb dX2_setRopes_36 (by decide) ?_
    refine va_iast hx hb hK hP hD hS 1 0 rfl rfl (vp_in_nI (n := 0) (by omega) (by decide)) dX2_setRopes_37 (fun H locs hP hD hS => ?_)
    rw [show (0 : Int32).toNatClampNeg = 0 from by decide] at hP hD
    have hP : va_P (dC, dI) vwCl [(y0, .inr (2, [.int 0, .int (nI rq), .ref q1, .ref q2, .int mn, .ref q3, .ref q4, .int ct, .int il, .ref q5])), (q1, .inl (cA, (2, .inl (upd sf 0 0)))), (q2, .inl (cA, (60, .inl lf))), (q3, .inl (cA, (320, .inl rf))), (q4, .inl (cA, (320, .inl nf))), (q5, .inl (cA, (6, .inl gf)))] H := hP
    have hD : va_D A [(y0, .inr (2, [.int 0, .int (nI rq), .ref q1, .ref q2, .int mn, .ref q3, .ref q4, .int ct, .int il, .ref q5])), (q1, .inl (cA, (2, .inl (upd sf 0 0)))), (q2, .inl (cA, (60, .inl lf))), (q3, .inl (cA, (320, .inl rf))), (q4, .inl (cA, (320, .inl nf))), (q5, .inl (cA, (6, .inl gf)))] := hD
    refine lv_aload_n hx hb dX2_setRopes_38 rfl (lv_at hl 1 rfl) ?_
    refine va_get (D := (dC, dI)) (ci := 2) (v := .ref q1) (C := RX2) (T := TX2) (N := 10) hx hb hts (in_X2_setRopes_2) hown hK hP 0 rfl rfl 2 (by decide) (hts (.fieldLink RX2 13 "BraidWordsModel" "size" "[I") (List.mem_of_getElem? (i := 3) rfl)) (fun _ h9 => h9) rfl dX2_setRopes_39 ?_
    refine lv_iconst (v := 1) hx hb dX2_setRopes_42 (by decide) ?_
    refine lv_iconst (v := 0) hx hb dX2_setRopes_43 (by decide) ?_
    refine va_iast hx hb hK hP hD hS 1 0 rfl rfl (vp_in_nI (n := 1) (by omega) (by decide)) dX2_setRopes_44 (fun H locs hP hD hS => ?_)
    rw [show (1 : Int32).toNatClampNeg = 1 from by decide] at hP hD
    have hP : va_P (dC, dI) vwCl [(y0, .inr (2, [.int 0, .int (nI rq), .ref q1, .ref q2, .int mn, .ref q3, .ref q4, .int ct, .int il, .ref q5])), (q1, .inl (cA, (2, .inl (upd (upd sf 0 0) 1 0)))), (q2, .inl (cA, (60, .inl lf))), (q3, .inl (cA, (320, .inl rf))), (q4, .inl (cA, (320, .inl nf))), (q5, .inl (cA, (6, .inl gf)))] H := hP
    have hD : va_D A [(y0, .inr (2, [.int 0, .int (nI rq), .ref q1, .ref q2, .int mn, .ref q3, .ref q4, .int ct, .int il, .ref q5])), (q1, .inl (cA, (2, .inl (upd (upd sf 0 0) 1 0)))), (q2, .inl (cA, (60, .inl lf))), (q3, .inl (cA, (320, .inl rf))), (q4, .inl (cA, (320, .inl nf))), (q5, .inl (cA, (6, .inl gf)))] := hD
    refine lv_iload_n hx hb dX2_setRopes_45 rfl (lv_at hl 0 rfl) ?_
    exact g_endMi hx hb hr hlocks hP hS dX2_setRopes_46 (upd (upd sf 0 0) 1 0) rfl rfl MW_nil
  · exact absurd c12 (by decide)

abbrev mt_X2_setRopes_1_rm : Room := { frames := 1, cells := 0, slots := 0, locals := 22 }
set_option maxHeartbeats 4000000 in
set_option maxRecDepth 100000 in
theorem mt_X2_setRopes_1 (l : Launch) (dC : Nat → ClassId) (dI : Nat → Nat → Nat) (cA : ClassId) (sz : Nat) (y0 : Nat) (q1 : Nat) (q2 : Nat) (q3 : Nat) (q4 : Nat) (q5 : Nat) (rn : Nat) (tv : Int32) (sf : Nat → Int32) (lf : Nat → Int32) (mn : Int32) (rf : Nat → Int32) (nf : Nat → Int32) (ct : Int32) (il : Int32) (gf : Nat → Int32) (x : Int32) (hbad : x < 3 ∨ 6 < x) : Met l yX2_setRopes wsX2_setRopes mt_X2_setRopes_1_rm (va_Pc [.ref y0, .int x] (gB (dC, dI) [(cA, .int)] [(y0, .inr (2, [.int tv, .int (nI rn), .ref q1, .ref q2, .int mn, .ref q3, .ref q4, .int ct, .int il, .ref q5])), (q1, .inl (cA, (2, .inl sf))), (q2, .inl (cA, (60, .inl lf))), (q3, .inl (cA, (320, .inl rf))), (q4, .inl (cA, (320, .inl nf))), (q5, .inl (cA, (6, .inl gf)))] sz)) (gM (dC, dI) (some (.int 0)) (fun u : Unit => True) (fun u : Unit => [(y0, .inr (2, [.int 1, .int (nI rn), .ref q1, .ref q2, .int mn, .ref q3, .ref q4, .int ct, .int il, .ref q5])), (q1, .inl (cA, (2, .inl sf))), (q2, .inl (cA, (60, .inl lf))), (q3, .inl (cA, (320, .inl rf))), (q4, .inl (cA, (320, .inl nf))), (q5, .inl (cA, (6, .inl gf)))]) (va_A [(y0, .inr (2, [.int tv, .int (nI rn), .ref q1, .ref q2, .int mn, .ref q3, .ref q4, .int ct, .int il, .ref q5])), (q1, .inl (cA, (2, .inl sf))), (q2, .inl (cA, (60, .inl lf))), (q3, .inl (cA, (320, .inl rf))), (q4, .inl (cA, (320, .inl nf))), (q5, .inl (cA, (6, .inl gf)))] sz)) 0 0 (va_A [(y0, .inr (2, [.int tv, .int (nI rn), .ref q1, .ref q2, .int mn, .ref q3, .ref q4, .int ct, .int il, .ref q5])), (q1, .inl (cA, (2, .inl sf))), (q2, .inl (cA, (60, .inl lf))), (q3, .inl (cA, (320, .inl rf))), (q4, .inl (cA, (320, .inl nf))), (q5, .inl (cA, (6, .inl gf)))] sz) := by
  refine g_ofM (cc := cX2_setRopes) (maxL := 3) (ret := (some .int)) (by decide) rfl (Nat.le_of_ble_eq_true rfl) (fun p e s m below meth c ls hx hb hr hml hts hown hlocks hP hK hl hin A hA hD hS => ?_)
  have hl : lv_has ls 3 [(0, .ref y0), (1, .int x)] := hl
  refine lv_aload_n hx hb dX2_setRopes_0 rfl (lv_at hl 0 rfl) ?_
  refine lv_iconst (v := 0) hx hb dX2_setRopes_1 (by decide) ?_
  refine va_put (D := (dC, dI)) (ci := 2) (v := .int 0) (ty := .int) (C := RX2) (T := TX2) (N := 10) hx hb hts (in_X2_setRopes_2) tyX2 tyX2_ok nmX2 hown hK hP hD hS 0 rfl rfl 0 (by decide) (hts (.fieldLink RX2 29 "BraidWordsModel" "thrown" "I") (List.mem_of_getElem? (i := 1) rfl)) (fun _ h9 => h9) rfl (by decide +kernel) rfl rfl (Nat.le_of_ble_eq_true rfl) dX2_setRopes_2 (fun H locs hP hD hS => ?_)
  have hP : va_P (dC, dI) vwCl [(y0, .inr (2, [.int 0, .int (nI rn), .ref q1, .ref q2, .int mn, .ref q3, .ref q4, .int ct, .int il, .ref q5])), (q1, .inl (cA, (2, .inl sf))), (q2, .inl (cA, (60, .inl lf))), (q3, .inl (cA, (320, .inl rf))), (q4, .inl (cA, (320, .inl nf))), (q5, .inl (cA, (6, .inl gf)))] H := hP
  have hD : va_D A [(y0, .inr (2, [.int 0, .int (nI rn), .ref q1, .ref q2, .int mn, .ref q3, .ref q4, .int ct, .int il, .ref q5])), (q1, .inl (cA, (2, .inl sf))), (q2, .inl (cA, (60, .inl lf))), (q3, .inl (cA, (320, .inl rf))), (q4, .inl (cA, (320, .inl nf))), (q5, .inl (cA, (6, .inl gf)))] := hD
  refine lv_iload_n hx hb dX2_setRopes_5 rfl (lv_at hl 1 rfl) ?_
  refine lv_iconst (v := 3) hx hb dX2_setRopes_6 (by decide) ?_
  refine lv_bipush (v := 6) hx hb dX2_setRopes_7 (by decide) ?_
  refine g_RSi (As := [.int x, .int 3, .int 6]) (rest := []) ⟨hx, hb, hml, hown, hts⟩ (mt_X2_isIn l dC dI cA H.size x 3 6) (va_cwS 3 hts gX2_setRopes_X2_isIn rfl rfl rfl hdX2_isIn ⟨Nat.le_of_ble_eq_true rfl, Nat.le_of_ble_eq_true rfl⟩) hP hK hD [] (by decide) rfl rfl hl.1 rfl (Nat.le_of_ble_eq_true rfl) dX2_setRopes_9 (Nat.zero_le _) (Nat.zero_le _) ?_
  rw [show (inI x 3 6) = 0 from inI_n hbad]
  refine lv_if_ne (tgt := 21) hx hb dX2_setRopes_12 (by decide) (fun c12 => ?_) (fun c12 => ?_)
  · exact absurd (by decide) c12
  · have c12 : 0 = 0 := g_neF 0 0 (by omega) (by omega) c12
    refine lv_aload_n hx hb dX2_setRopes_15 rfl (lv_at hl 0 rfl) ?_
    refine lv_iconst (v := 1) hx hb dX2_setRopes_16 (by decide) ?_
    refine g_MVi (As := [.int 1]) (rest := []) ⟨hx, hb, hml, hown, hts⟩ (mt_X2_no l dC dI cA H.size y0 q1 q2 q3 q4 q5 rn 0 sf lf mn rf nf ct il gf 1) (cwV 1 hts gX2_setRopes_X2_no rfl rfl rfl hdX2_no ⟨Nat.le_of_ble_eq_true rfl, Nat.le_of_ble_eq_true rfl⟩) hP hK hD hS hA [0, 1, 2, 3, 4, 5] (by decide) rfl (va_recv hK hP (ci := 2) (q0 := 0) rfl rfl) rfl hl.1 rfl (Nat.le_of_ble_eq_true rfl) dX2_setRopes_17 (Nat.zero_le _) (Nat.zero_le _) (fun u9 => [(y0, .inr (2, [.int 1, .int (nI rn), .ref q1, .ref q2, .int mn, .ref q3, .ref q4, .int ct, .int il, .ref q5])), (q1, .inl (cA, (2, .inl sf))), (q2, .inl (cA, (60, .inl lf))), (q3, .inl (cA, (320, .inl rf))), (q4, .inl (cA, (320, .inl nf))), (q5, .inl (cA, (6, .inl gf)))]) (fun _ => rfl) (fun _ => rfl) (fun u H locs hw_1 hP hD hS => ?_)
    have hw_1 : True := hw_1
    have hP : va_P (dC, dI) vwCl [(y0, .inr (2, [.int 1, .int (nI rn), .ref q1, .ref q2, .int mn, .ref q3, .ref q4, .int ct, .int il, .ref q5])), (q1, .inl (cA, (2, .inl sf))), (q2, .inl (cA, (60, .inl lf))), (q3, .inl (cA, (320, .inl rf))), (q4, .inl (cA, (320, .inl nf))), (q5, .inl (cA, (6, .inl gf)))] H := hP
    have hD : va_D A [(y0, .inr (2, [.int 1, .int (nI rn), .ref q1, .ref q2, .int mn, .ref q3, .ref q4, .int ct, .int il, .ref q5])), (q1, .inl (cA, (2, .inl sf))), (q2, .inl (cA, (60, .inl lf))), (q3, .inl (cA, (320, .inl rf))), (q4, .inl (cA, (320, .inl nf))), (q5, .inl (cA, (6, .inl gf)))] := hD
    exact g_endMi hx hb hr hlocks hP hS dX2_setRopes_20 () rfl rfl trivial

abbrev mt_X2_twist_1_rm : Room := { frames := 2, cells := 0, slots := 0, locals := 42 }
set_option maxHeartbeats 4000000 in
set_option maxRecDepth 100000 in
theorem mt_X2_twist_1 (l : Launch) (dC : Nat → ClassId) (dI : Nat → Nat → Nat) (cA : ClassId) (sz : Nat) (y0 : Nat) (q1 : Nat) (q2 : Nat) (q3 : Nat) (q4 : Nat) (q5 : Nat) (rn : Nat) (tv : Int32) (sf : Nat → Int32) (lf : Nat → Int32) (mn : Int32) (rf : Nat → Int32) (nf : Nat → Int32) (ct : Int32) (il : Int32) (gf : Nat → Int32) (wd : Int32) (x : Int32) (hbad : wd < 0 ∨ 1 < wd) : Met l yX2_twist wsX2_twist mt_X2_twist_1_rm (va_Pc [.ref y0, .int wd, .int x] (gB (dC, dI) [(cA, .int)] [(y0, .inr (2, [.int tv, .int (nI rn), .ref q1, .ref q2, .int mn, .ref q3, .ref q4, .int ct, .int il, .ref q5])), (q1, .inl (cA, (2, .inl sf))), (q2, .inl (cA, (60, .inl lf))), (q3, .inl (cA, (320, .inl rf))), (q4, .inl (cA, (320, .inl nf))), (q5, .inl (cA, (6, .inl gf)))] sz)) (gM (dC, dI) (some (.int 0)) (fun u : Unit => True) (fun u : Unit => [(y0, .inr (2, [.int 1, .int (nI rn), .ref q1, .ref q2, .int mn, .ref q3, .ref q4, .int ct, .int il, .ref q5])), (q1, .inl (cA, (2, .inl sf))), (q2, .inl (cA, (60, .inl lf))), (q3, .inl (cA, (320, .inl rf))), (q4, .inl (cA, (320, .inl nf))), (q5, .inl (cA, (6, .inl gf)))]) (va_A [(y0, .inr (2, [.int tv, .int (nI rn), .ref q1, .ref q2, .int mn, .ref q3, .ref q4, .int ct, .int il, .ref q5])), (q1, .inl (cA, (2, .inl sf))), (q2, .inl (cA, (60, .inl lf))), (q3, .inl (cA, (320, .inl rf))), (q4, .inl (cA, (320, .inl nf))), (q5, .inl (cA, (6, .inl gf)))] sz)) 0 0 (va_A [(y0, .inr (2, [.int tv, .int (nI rn), .ref q1, .ref q2, .int mn, .ref q3, .ref q4, .int ct, .int il, .ref q5])), (q1, .inl (cA, (2, .inl sf))), (q2, .inl (cA, (60, .inl lf))), (q3, .inl (cA, (320, .inl rf))), (q4, .inl (cA, (320, .inl nf))), (q5, .inl (cA, (6, .inl gf)))] sz) := by
  refine g_ofM (cc := cX2_twist) (maxL := 3) (ret := (some .int)) (by decide) rfl (Nat.le_of_ble_eq_true rfl) (fun p e s m below meth c ls hx hb hr hml hts hown hlocks hP hK hl hin A hA hD hS => ?_)
  have hl : lv_has ls 3 [(0, .ref y0), (1, .int wd), (2, .int x)] := hl
  refine lv_aload_n hx hb dX2_twist_0 rfl (lv_at hl 0 rfl) ?_
  refine lv_iconst (v := 0) hx hb dX2_twist_1 (by decide) ?_
  refine va_put (D := (dC, dI)) (ci := 2) (v := .int 0) (ty := .int) (C := RX2) (T := TX2) (N := 10) hx hb hts (in_X2_twist_2) tyX2 tyX2_ok nmX2 hown hK hP hD hS 0 rfl rfl 0 (by decide) (hts (.fieldLink RX2 29 "BraidWordsModel" "thrown" "I") (List.mem_of_getElem? (i := 1) rfl)) (fun _ h9 => h9) rfl (by decide +kernel) rfl rfl (Nat.le_of_ble_eq_true rfl) dX2_twist_2 (fun H locs hP hD hS => ?_)
  have hP : va_P (dC, dI) vwCl [(y0, .inr (2, [.int 0, .int (nI rn), .ref q1, .ref q2, .int mn, .ref q3, .ref q4, .int ct, .int il, .ref q5])), (q1, .inl (cA, (2, .inl sf))), (q2, .inl (cA, (60, .inl lf))), (q3, .inl (cA, (320, .inl rf))), (q4, .inl (cA, (320, .inl nf))), (q5, .inl (cA, (6, .inl gf)))] H := hP
  have hD : va_D A [(y0, .inr (2, [.int 0, .int (nI rn), .ref q1, .ref q2, .int mn, .ref q3, .ref q4, .int ct, .int il, .ref q5])), (q1, .inl (cA, (2, .inl sf))), (q2, .inl (cA, (60, .inl lf))), (q3, .inl (cA, (320, .inl rf))), (q4, .inl (cA, (320, .inl nf))), (q5, .inl (cA, (6, .inl gf)))] := hD
  refine lv_iload_n hx hb dX2_twist_5 rfl (lv_at hl 1 rfl) ?_
  refine g_RSi (As := [.int wd]) (rest := []) ⟨hx, hb, hml, hown, hts⟩ (mt_X2_isWord l dC dI cA H.size wd) (va_cwS 1 hts gX2_twist_X2_isWord rfl rfl rfl hdX2_isWord ⟨Nat.le_of_ble_eq_true rfl, Nat.le_of_ble_eq_true rfl⟩) hP hK hD [] (by decide) rfl rfl hl.1 rfl (Nat.le_of_ble_eq_true rfl) dX2_twist_6 (Nat.zero_le _) (Nat.zero_le _) ?_
  rw [show (inI wd 0 1) = 0 from inI_n hbad]
  refine lv_if_ne (tgt := 18) hx hb dX2_twist_9 (by decide) (fun c9 => ?_) (fun c9 => ?_)
  · exact absurd (by decide) c9
  · have c9 : 0 = 0 := g_neF 0 0 (by omega) (by omega) c9
    refine lv_aload_n hx hb dX2_twist_12 rfl (lv_at hl 0 rfl) ?_
    refine lv_iconst (v := 1) hx hb dX2_twist_13 (by decide) ?_
    refine g_MVi (As := [.int 1]) (rest := []) ⟨hx, hb, hml, hown, hts⟩ (mt_X2_no l dC dI cA H.size y0 q1 q2 q3 q4 q5 rn 0 sf lf mn rf nf ct il gf 1) (cwV 1 hts gX2_twist_X2_no rfl rfl rfl hdX2_no ⟨Nat.le_of_ble_eq_true rfl, Nat.le_of_ble_eq_true rfl⟩) hP hK hD hS hA [0, 1, 2, 3, 4, 5] (by decide) rfl (va_recv hK hP (ci := 2) (q0 := 0) rfl rfl) rfl hl.1 rfl (Nat.le_of_ble_eq_true rfl) dX2_twist_14 (Nat.zero_le _) (Nat.zero_le _) (fun u9 => [(y0, .inr (2, [.int 1, .int (nI rn), .ref q1, .ref q2, .int mn, .ref q3, .ref q4, .int ct, .int il, .ref q5])), (q1, .inl (cA, (2, .inl sf))), (q2, .inl (cA, (60, .inl lf))), (q3, .inl (cA, (320, .inl rf))), (q4, .inl (cA, (320, .inl nf))), (q5, .inl (cA, (6, .inl gf)))]) (fun _ => rfl) (fun _ => rfl) (fun u H locs hw_1 hP hD hS => ?_)
    have hw_1 : True := hw_1
    have hP : va_P (dC, dI) vwCl [(y0, .inr (2, [.int 1, .int (nI rn), .ref q1, .ref q2, .int mn, .ref q3, .ref q4, .int ct, .int il, .ref q5])), (q1, .inl (cA, (2, .inl sf))), (q2, .inl (cA, (60, .inl lf))), (q3, .inl (cA, (320, .inl rf))), (q4, .inl (cA, (320, .inl nf))), (q5, .inl (cA, (6, .inl gf)))] H := hP
    have hD : va_D A [(y0, .inr (2, [.int 1, .int (nI rn), .ref q1, .ref q2, .int mn, .ref q3, .ref q4, .int ct, .int il, .ref q5])), (q1, .inl (cA, (2, .inl sf))), (q2, .inl (cA, (60, .inl lf))), (q3, .inl (cA, (320, .inl rf))), (q4, .inl (cA, (320, .inl nf))), (q5, .inl (cA, (6, .inl gf)))] := hD
    exact g_endMi hx hb hr hlocks hP hS dX2_twist_17 () rfl rfl trivial

abbrev mt_X2_untwist_1_rm : Room := { frames := 2, cells := 0, slots := 0, locals := 42 }
set_option maxHeartbeats 4000000 in
set_option maxRecDepth 100000 in
theorem mt_X2_untwist_1 (l : Launch) (dC : Nat → ClassId) (dI : Nat → Nat → Nat) (cA : ClassId) (sz : Nat) (y0 : Nat) (q1 : Nat) (q2 : Nat) (q3 : Nat) (q4 : Nat) (q5 : Nat) (rn : Nat) (tv : Int32) (sf : Nat → Int32) (lf : Nat → Int32) (mn : Int32) (rf : Nat → Int32) (nf : Nat → Int32) (ct : Int32) (il : Int32) (gf : Nat → Int32) (wd : Int32) (hbad : wd < 0 ∨ 1 < wd) : Met l yX2_untwist wsX2_untwist mt_X2_untwist_1_rm (va_Pc [.ref y0, .int wd] (gB (dC, dI) [(cA, .int)] [(y0, .inr (2, [.int tv, .int (nI rn), .ref q1, .ref q2, .int mn, .ref q3, .ref q4, .int ct, .int il, .ref q5])), (q1, .inl (cA, (2, .inl sf))), (q2, .inl (cA, (60, .inl lf))), (q3, .inl (cA, (320, .inl rf))), (q4, .inl (cA, (320, .inl nf))), (q5, .inl (cA, (6, .inl gf)))] sz)) (gM (dC, dI) (some (.int 0)) (fun u : Unit => True) (fun u : Unit => [(y0, .inr (2, [.int 1, .int (nI rn), .ref q1, .ref q2, .int mn, .ref q3, .ref q4, .int ct, .int il, .ref q5])), (q1, .inl (cA, (2, .inl sf))), (q2, .inl (cA, (60, .inl lf))), (q3, .inl (cA, (320, .inl rf))), (q4, .inl (cA, (320, .inl nf))), (q5, .inl (cA, (6, .inl gf)))]) (va_A [(y0, .inr (2, [.int tv, .int (nI rn), .ref q1, .ref q2, .int mn, .ref q3, .ref q4, .int ct, .int il, .ref q5])), (q1, .inl (cA, (2, .inl sf))), (q2, .inl (cA, (60, .inl lf))), (q3, .inl (cA, (320, .inl rf))), (q4, .inl (cA, (320, .inl nf))), (q5, .inl (cA, (6, .inl gf)))] sz)) 0 0 (va_A [(y0, .inr (2, [.int tv, .int (nI rn), .ref q1, .ref q2, .int mn, .ref q3, .ref q4, .int ct, .int il, .ref q5])), (q1, .inl (cA, (2, .inl sf))), (q2, .inl (cA, (60, .inl lf))), (q3, .inl (cA, (320, .inl rf))), (q4, .inl (cA, (320, .inl nf))), (q5, .inl (cA, (6, .inl gf)))] sz) := by
  refine g_ofM (cc := cX2_untwist) (maxL := 2) (ret := (some .int)) (by decide) rfl (Nat.le_of_ble_eq_true rfl) (fun p e s m below meth c ls hx hb hr hml hts hown hlocks hP hK hl hin A hA hD hS => ?_)
  have hl : lv_has ls 2 [(0, .ref y0), (1, .int wd)] := hl
  refine lv_aload_n hx hb dX2_untwist_0 rfl (lv_at hl 0 rfl) ?_
  refine lv_iconst (v := 0) hx hb dX2_untwist_1 (by decide) ?_
  refine va_put (D := (dC, dI)) (ci := 2) (v := .int 0) (ty := .int) (C := RX2) (T := TX2) (N := 10) hx hb hts (in_X2_untwist_2) tyX2 tyX2_ok nmX2 hown hK hP hD hS 0 rfl rfl 0 (by decide) (hts (.fieldLink RX2 29 "BraidWordsModel" "thrown" "I") (List.mem_of_getElem? (i := 1) rfl)) (fun _ h9 => h9) rfl (by decide +kernel) rfl rfl (Nat.le_of_ble_eq_true rfl) dX2_untwist_2 (fun H locs hP hD hS => ?_)
  have hP : va_P (dC, dI) vwCl [(y0, .inr (2, [.int 0, .int (nI rn), .ref q1, .ref q2, .int mn, .ref q3, .ref q4, .int ct, .int il, .ref q5])), (q1, .inl (cA, (2, .inl sf))), (q2, .inl (cA, (60, .inl lf))), (q3, .inl (cA, (320, .inl rf))), (q4, .inl (cA, (320, .inl nf))), (q5, .inl (cA, (6, .inl gf)))] H := hP
  have hD : va_D A [(y0, .inr (2, [.int 0, .int (nI rn), .ref q1, .ref q2, .int mn, .ref q3, .ref q4, .int ct, .int il, .ref q5])), (q1, .inl (cA, (2, .inl sf))), (q2, .inl (cA, (60, .inl lf))), (q3, .inl (cA, (320, .inl rf))), (q4, .inl (cA, (320, .inl nf))), (q5, .inl (cA, (6, .inl gf)))] := hD
  refine lv_iload_n hx hb dX2_untwist_5 rfl (lv_at hl 1 rfl) ?_
  refine g_RSi (As := [.int wd]) (rest := []) ⟨hx, hb, hml, hown, hts⟩ (mt_X2_isWord l dC dI cA H.size wd) (va_cwS 1 hts gX2_untwist_X2_isWord rfl rfl rfl hdX2_isWord ⟨Nat.le_of_ble_eq_true rfl, Nat.le_of_ble_eq_true rfl⟩) hP hK hD [] (by decide) rfl rfl hl.1 rfl (Nat.le_of_ble_eq_true rfl) dX2_untwist_6 (Nat.zero_le _) (Nat.zero_le _) ?_
  rw [show (inI wd 0 1) = 0 from inI_n hbad]
  refine lv_if_ne (tgt := 18) hx hb dX2_untwist_9 (by decide) (fun c9 => ?_) (fun c9 => ?_)
  · exact absurd (by decide) c9
  · have c9 : 0 = 0 := g_neF 0 0 (by omega) (by omega) c9
    refine lv_aload_n hx hb dX2_untwist_12 rfl (lv_at hl 0 rfl) ?_
    refine lv_iconst (v := 1) hx hb dX2_untwist_13 (by decide) ?_
    refine g_MVi (As := [.int 1]) (rest := []) ⟨hx, hb, hml, hown, hts⟩ (mt_X2_no l dC dI cA H.size y0 q1 q2 q3 q4 q5 rn 0 sf lf mn rf nf ct il gf 1) (cwV 1 hts gX2_untwist_X2_no rfl rfl rfl hdX2_no ⟨Nat.le_of_ble_eq_true rfl, Nat.le_of_ble_eq_true rfl⟩) hP hK hD hS hA [0, 1, 2, 3, 4, 5] (by decide) rfl (va_recv hK hP (ci := 2) (q0 := 0) rfl rfl) rfl hl.1 rfl (Nat.le_of_ble_eq_true rfl) dX2_untwist_14 (Nat.zero_le _) (Nat.zero_le _) (fun u9 => [(y0, .inr (2, [.int 1, .int (nI rn), .ref q1, .ref q2, .int mn, .ref q3, .ref q4, .int ct, .int il, .ref q5])), (q1, .inl (cA, (2, .inl sf))), (q2, .inl (cA, (60, .inl lf))), (q3, .inl (cA, (320, .inl rf))), (q4, .inl (cA, (320, .inl nf))), (q5, .inl (cA, (6, .inl gf)))]) (fun _ => rfl) (fun _ => rfl) (fun u H locs hw_1 hP hD hS => ?_)
    have hw_1 : True := hw_1
    have hP : va_P (dC, dI) vwCl [(y0, .inr (2, [.int 1, .int (nI rn), .ref q1, .ref q2, .int mn, .ref q3, .ref q4, .int ct, .int il, .ref q5])), (q1, .inl (cA, (2, .inl sf))), (q2, .inl (cA, (60, .inl lf))), (q3, .inl (cA, (320, .inl rf))), (q4, .inl (cA, (320, .inl nf))), (q5, .inl (cA, (6, .inl gf)))] H := hP
    have hD : va_D A [(y0, .inr (2, [.int 1, .int (nI rn), .ref q1, .ref q2, .int mn, .ref q3, .ref q4, .int ct, .int il, .ref q5])), (q1, .inl (cA, (2, .inl sf))), (q2, .inl (cA, (60, .inl lf))), (q3, .inl (cA, (320, .inl rf))), (q4, .inl (cA, (320, .inl nf))), (q5, .inl (cA, (6, .inl gf)))] := hD
    exact g_endMi hx hb hr hlocks hP hS dX2_untwist_17 () rfl rfl trivial

abbrev mt_X2_turn_1_rm : Room := { frames := 2, cells := 0, slots := 0, locals := 42 }
set_option maxHeartbeats 4000000 in
set_option maxRecDepth 100000 in
theorem mt_X2_turn_1 (l : Launch) (dC : Nat → ClassId) (dI : Nat → Nat → Nat) (cA : ClassId) (sz : Nat) (y0 : Nat) (q1 : Nat) (q2 : Nat) (q3 : Nat) (q4 : Nat) (q5 : Nat) (rn : Nat) (tv : Int32) (sf : Nat → Int32) (lf : Nat → Int32) (mn : Int32) (rf : Nat → Int32) (nf : Nat → Int32) (ct : Int32) (il : Int32) (gf : Nat → Int32) (wd : Int32) (hbad : wd < 0 ∨ 1 < wd) : Met l yX2_turn wsX2_turn mt_X2_turn_1_rm (va_Pc [.ref y0, .int wd] (gB (dC, dI) [(cA, .int)] [(y0, .inr (2, [.int tv, .int (nI rn), .ref q1, .ref q2, .int mn, .ref q3, .ref q4, .int ct, .int il, .ref q5])), (q1, .inl (cA, (2, .inl sf))), (q2, .inl (cA, (60, .inl lf))), (q3, .inl (cA, (320, .inl rf))), (q4, .inl (cA, (320, .inl nf))), (q5, .inl (cA, (6, .inl gf)))] sz)) (gM (dC, dI) (some (.int 0)) (fun u : Unit => True) (fun u : Unit => [(y0, .inr (2, [.int 1, .int (nI rn), .ref q1, .ref q2, .int mn, .ref q3, .ref q4, .int ct, .int il, .ref q5])), (q1, .inl (cA, (2, .inl sf))), (q2, .inl (cA, (60, .inl lf))), (q3, .inl (cA, (320, .inl rf))), (q4, .inl (cA, (320, .inl nf))), (q5, .inl (cA, (6, .inl gf)))]) (va_A [(y0, .inr (2, [.int tv, .int (nI rn), .ref q1, .ref q2, .int mn, .ref q3, .ref q4, .int ct, .int il, .ref q5])), (q1, .inl (cA, (2, .inl sf))), (q2, .inl (cA, (60, .inl lf))), (q3, .inl (cA, (320, .inl rf))), (q4, .inl (cA, (320, .inl nf))), (q5, .inl (cA, (6, .inl gf)))] sz)) 0 0 (va_A [(y0, .inr (2, [.int tv, .int (nI rn), .ref q1, .ref q2, .int mn, .ref q3, .ref q4, .int ct, .int il, .ref q5])), (q1, .inl (cA, (2, .inl sf))), (q2, .inl (cA, (60, .inl lf))), (q3, .inl (cA, (320, .inl rf))), (q4, .inl (cA, (320, .inl nf))), (q5, .inl (cA, (6, .inl gf)))] sz) := by
  refine g_ofM (cc := cX2_turn) (maxL := 2) (ret := (some .int)) (by decide) rfl (Nat.le_of_ble_eq_true rfl) (fun p e s m below meth c ls hx hb hr hml hts hown hlocks hP hK hl hin A hA hD hS => ?_)
  have hl : lv_has ls 2 [(0, .ref y0), (1, .int wd)] := hl
  refine lv_aload_n hx hb dX2_turn_0 rfl (lv_at hl 0 rfl) ?_
  refine lv_iconst (v := 0) hx hb dX2_turn_1 (by decide) ?_
  refine va_put (D := (dC, dI)) (ci := 2) (v := .int 0) (ty := .int) (C := RX2) (T := TX2) (N := 10) hx hb hts (in_X2_turn_2) tyX2 tyX2_ok nmX2 hown hK hP hD hS 0 rfl rfl 0 (by decide) (hts (.fieldLink RX2 29 "BraidWordsModel" "thrown" "I") (List.mem_of_getElem? (i := 1) rfl)) (fun _ h9 => h9) rfl (by decide +kernel) rfl rfl (Nat.le_of_ble_eq_true rfl) dX2_turn_2 (fun H locs hP hD hS => ?_)
  have hP : va_P (dC, dI) vwCl [(y0, .inr (2, [.int 0, .int (nI rn), .ref q1, .ref q2, .int mn, .ref q3, .ref q4, .int ct, .int il, .ref q5])), (q1, .inl (cA, (2, .inl sf))), (q2, .inl (cA, (60, .inl lf))), (q3, .inl (cA, (320, .inl rf))), (q4, .inl (cA, (320, .inl nf))), (q5, .inl (cA, (6, .inl gf)))] H := hP
  have hD : va_D A [(y0, .inr (2, [.int 0, .int (nI rn), .ref q1, .ref q2, .int mn, .ref q3, .ref q4, .int ct, .int il, .ref q5])), (q1, .inl (cA, (2, .inl sf))), (q2, .inl (cA, (60, .inl lf))), (q3, .inl (cA, (320, .inl rf))), (q4, .inl (cA, (320, .inl nf))), (q5, .inl (cA, (6, .inl gf)))] := hD
  refine lv_iload_n hx hb dX2_turn_5 rfl (lv_at hl 1 rfl) ?_
  refine g_RSi (As := [.int wd]) (rest := []) ⟨hx, hb, hml, hown, hts⟩ (mt_X2_isWord l dC dI cA H.size wd) (va_cwS 1 hts gX2_turn_X2_isWord rfl rfl rfl hdX2_isWord ⟨Nat.le_of_ble_eq_true rfl, Nat.le_of_ble_eq_true rfl⟩) hP hK hD [] (by decide) rfl rfl hl.1 rfl (Nat.le_of_ble_eq_true rfl) dX2_turn_6 (Nat.zero_le _) (Nat.zero_le _) ?_
  rw [show (inI wd 0 1) = 0 from inI_n hbad]
  refine lv_if_ne (tgt := 18) hx hb dX2_turn_9 (by decide) (fun c9 => ?_) (fun c9 => ?_)
  · exact absurd (by decide) c9
  · have c9 : 0 = 0 := g_neF 0 0 (by omega) (by omega) c9
    refine lv_aload_n hx hb dX2_turn_12 rfl (lv_at hl 0 rfl) ?_
    refine lv_iconst (v := 1) hx hb dX2_turn_13 (by decide) ?_
    refine g_MVi (As := [.int 1]) (rest := []) ⟨hx, hb, hml, hown, hts⟩ (mt_X2_no l dC dI cA H.size y0 q1 q2 q3 q4 q5 rn 0 sf lf mn rf nf ct il gf 1) (cwV 1 hts gX2_turn_X2_no rfl rfl rfl hdX2_no ⟨Nat.le_of_ble_eq_true rfl, Nat.le_of_ble_eq_true rfl⟩) hP hK hD hS hA [0, 1, 2, 3, 4, 5] (by decide) rfl (va_recv hK hP (ci := 2) (q0 := 0) rfl rfl) rfl hl.1 rfl (Nat.le_of_ble_eq_true rfl) dX2_turn_14 (Nat.zero_le _) (Nat.zero_le _) (fun u9 => [(y0, .inr (2, [.int 1, .int (nI rn), .ref q1, .ref q2, .int mn, .ref q3, .ref q4, .int ct, .int il, .ref q5])), (q1, .inl (cA, (2, .inl sf))), (q2, .inl (cA, (60, .inl lf))), (q3, .inl (cA, (320, .inl rf))), (q4, .inl (cA, (320, .inl nf))), (q5, .inl (cA, (6, .inl gf)))]) (fun _ => rfl) (fun _ => rfl) (fun u H locs hw_1 hP hD hS => ?_)
    have hw_1 : True := hw_1
    have hP : va_P (dC, dI) vwCl [(y0, .inr (2, [.int 1, .int (nI rn), .ref q1, .ref q2, .int mn, .ref q3, .ref q4, .int ct, .int il, .ref q5])), (q1, .inl (cA, (2, .inl sf))), (q2, .inl (cA, (60, .inl lf))), (q3, .inl (cA, (320, .inl rf))), (q4, .inl (cA, (320, .inl nf))), (q5, .inl (cA, (6, .inl gf)))] H := hP
    have hD : va_D A [(y0, .inr (2, [.int 1, .int (nI rn), .ref q1, .ref q2, .int mn, .ref q3, .ref q4, .int ct, .int il, .ref q5])), (q1, .inl (cA, (2, .inl sf))), (q2, .inl (cA, (60, .inl lf))), (q3, .inl (cA, (320, .inl rf))), (q4, .inl (cA, (320, .inl nf))), (q5, .inl (cA, (6, .inl gf)))] := hD
    exact g_endMi hx hb hr hlocks hP hS dX2_turn_17 () rfl rfl trivial

abbrev mt_X2_join_1_rm : Room := { frames := 2, cells := 0, slots := 0, locals := 42 }
set_option maxHeartbeats 4000000 in
set_option maxRecDepth 100000 in
theorem mt_X2_join_1 (l : Launch) (dC : Nat → ClassId) (dI : Nat → Nat → Nat) (cA : ClassId) (sz : Nat) (y0 : Nat) (q1 : Nat) (q2 : Nat) (q3 : Nat) (q4 : Nat) (q5 : Nat) (rn : Nat) (tv : Int32) (sf : Nat → Int32) (lf : Nat → Int32) (mn : Int32) (rf : Nat → Int32) (nf : Nat → Int32) (ct : Int32) (il : Int32) (gf : Nat → Int32) (wd : Int32) (hbad : wd < 0 ∨ 1 < wd) : Met l yX2_join wsX2_join mt_X2_join_1_rm (va_Pc [.ref y0, .int wd] (gB (dC, dI) [(cA, .int)] [(y0, .inr (2, [.int tv, .int (nI rn), .ref q1, .ref q2, .int mn, .ref q3, .ref q4, .int ct, .int il, .ref q5])), (q1, .inl (cA, (2, .inl sf))), (q2, .inl (cA, (60, .inl lf))), (q3, .inl (cA, (320, .inl rf))), (q4, .inl (cA, (320, .inl nf))), (q5, .inl (cA, (6, .inl gf)))] sz)) (gM (dC, dI) (some (.int 0)) (fun u : Unit => True) (fun u : Unit => [(y0, .inr (2, [.int 1, .int (nI rn), .ref q1, .ref q2, .int mn, .ref q3, .ref q4, .int ct, .int il, .ref q5])), (q1, .inl (cA, (2, .inl sf))), (q2, .inl (cA, (60, .inl lf))), (q3, .inl (cA, (320, .inl rf))), (q4, .inl (cA, (320, .inl nf))), (q5, .inl (cA, (6, .inl gf)))]) (va_A [(y0, .inr (2, [.int tv, .int (nI rn), .ref q1, .ref q2, .int mn, .ref q3, .ref q4, .int ct, .int il, .ref q5])), (q1, .inl (cA, (2, .inl sf))), (q2, .inl (cA, (60, .inl lf))), (q3, .inl (cA, (320, .inl rf))), (q4, .inl (cA, (320, .inl nf))), (q5, .inl (cA, (6, .inl gf)))] sz)) 0 0 (va_A [(y0, .inr (2, [.int tv, .int (nI rn), .ref q1, .ref q2, .int mn, .ref q3, .ref q4, .int ct, .int il, .ref q5])), (q1, .inl (cA, (2, .inl sf))), (q2, .inl (cA, (60, .inl lf))), (q3, .inl (cA, (320, .inl rf))), (q4, .inl (cA, (320, .inl nf))), (q5, .inl (cA, (6, .inl gf)))] sz) := by
  refine g_ofM (cc := cX2_join) (maxL := 2) (ret := (some .int)) (by decide) rfl (Nat.le_of_ble_eq_true rfl) (fun p e s m below meth c ls hx hb hr hml hts hown hlocks hP hK hl hin A hA hD hS => ?_)
  have hl : lv_has ls 2 [(0, .ref y0), (1, .int wd)] := hl
  refine lv_aload_n hx hb dX2_join_0 rfl (lv_at hl 0 rfl) ?_
  refine lv_iconst (v := 0) hx hb dX2_join_1 (by decide) ?_
  refine va_put (D := (dC, dI)) (ci := 2) (v := .int 0) (ty := .int) (C := RX2) (T := TX2) (N := 10) hx hb hts (in_X2_join_2) tyX2 tyX2_ok nmX2 hown hK hP hD hS 0 rfl rfl 0 (by decide) (hts (.fieldLink RX2 29 "BraidWordsModel" "thrown" "I") (List.mem_of_getElem? (i := 1) rfl)) (fun _ h9 => h9) rfl (by decide +kernel) rfl rfl (Nat.le_of_ble_eq_true rfl) dX2_join_2 (fun H locs hP hD hS => ?_)
  have hP : va_P (dC, dI) vwCl [(y0, .inr (2, [.int 0, .int (nI rn), .ref q1, .ref q2, .int mn, .ref q3, .ref q4, .int ct, .int il, .ref q5])), (q1, .inl (cA, (2, .inl sf))), (q2, .inl (cA, (60, .inl lf))), (q3, .inl (cA, (320, .inl rf))), (q4, .inl (cA, (320, .inl nf))), (q5, .inl (cA, (6, .inl gf)))] H := hP
  have hD : va_D A [(y0, .inr (2, [.int 0, .int (nI rn), .ref q1, .ref q2, .int mn, .ref q3, .ref q4, .int ct, .int il, .ref q5])), (q1, .inl (cA, (2, .inl sf))), (q2, .inl (cA, (60, .inl lf))), (q3, .inl (cA, (320, .inl rf))), (q4, .inl (cA, (320, .inl nf))), (q5, .inl (cA, (6, .inl gf)))] := hD
  refine lv_iload_n hx hb dX2_join_5 rfl (lv_at hl 1 rfl) ?_
  refine g_RSi (As := [.int wd]) (rest := []) ⟨hx, hb, hml, hown, hts⟩ (mt_X2_isWord l dC dI cA H.size wd) (va_cwS 1 hts gX2_join_X2_isWord rfl rfl rfl hdX2_isWord ⟨Nat.le_of_ble_eq_true rfl, Nat.le_of_ble_eq_true rfl⟩) hP hK hD [] (by decide) rfl rfl hl.1 rfl (Nat.le_of_ble_eq_true rfl) dX2_join_6 (Nat.zero_le _) (Nat.zero_le _) ?_
  rw [show (inI wd 0 1) = 0 from inI_n hbad]
  refine lv_if_ne (tgt := 18) hx hb dX2_join_9 (by decide) (fun c9 => ?_) (fun c9 => ?_)
  · exact absurd (by decide) c9
  · have c9 : 0 = 0 := g_neF 0 0 (by omega) (by omega) c9
    refine lv_aload_n hx hb dX2_join_12 rfl (lv_at hl 0 rfl) ?_
    refine lv_iconst (v := 1) hx hb dX2_join_13 (by decide) ?_
    refine g_MVi (As := [.int 1]) (rest := []) ⟨hx, hb, hml, hown, hts⟩ (mt_X2_no l dC dI cA H.size y0 q1 q2 q3 q4 q5 rn 0 sf lf mn rf nf ct il gf 1) (cwV 1 hts gX2_join_X2_no rfl rfl rfl hdX2_no ⟨Nat.le_of_ble_eq_true rfl, Nat.le_of_ble_eq_true rfl⟩) hP hK hD hS hA [0, 1, 2, 3, 4, 5] (by decide) rfl (va_recv hK hP (ci := 2) (q0 := 0) rfl rfl) rfl hl.1 rfl (Nat.le_of_ble_eq_true rfl) dX2_join_14 (Nat.zero_le _) (Nat.zero_le _) (fun u9 => [(y0, .inr (2, [.int 1, .int (nI rn), .ref q1, .ref q2, .int mn, .ref q3, .ref q4, .int ct, .int il, .ref q5])), (q1, .inl (cA, (2, .inl sf))), (q2, .inl (cA, (60, .inl lf))), (q3, .inl (cA, (320, .inl rf))), (q4, .inl (cA, (320, .inl nf))), (q5, .inl (cA, (6, .inl gf)))]) (fun _ => rfl) (fun _ => rfl) (fun u H locs hw_1 hP hD hS => ?_)
    have hw_1 : True := hw_1
    have hP : va_P (dC, dI) vwCl [(y0, .inr (2, [.int 1, .int (nI rn), .ref q1, .ref q2, .int mn, .ref q3, .ref q4, .int ct, .int il, .ref q5])), (q1, .inl (cA, (2, .inl sf))), (q2, .inl (cA, (60, .inl lf))), (q3, .inl (cA, (320, .inl rf))), (q4, .inl (cA, (320, .inl nf))), (q5, .inl (cA, (6, .inl gf)))] H := hP
    have hD : va_D A [(y0, .inr (2, [.int 1, .int (nI rn), .ref q1, .ref q2, .int mn, .ref q3, .ref q4, .int ct, .int il, .ref q5])), (q1, .inl (cA, (2, .inl sf))), (q2, .inl (cA, (60, .inl lf))), (q3, .inl (cA, (320, .inl rf))), (q4, .inl (cA, (320, .inl nf))), (q5, .inl (cA, (6, .inl gf)))] := hD
    exact g_endMi hx hb hr hlocks hP hS dX2_join_17 () rfl rfl trivial

abbrev mt_X2_swap_1_rm : Room := { frames := 2, cells := 0, slots := 0, locals := 42 }
set_option maxHeartbeats 4000000 in
set_option maxRecDepth 100000 in
theorem mt_X2_swap_1 (l : Launch) (dC : Nat → ClassId) (dI : Nat → Nat → Nat) (cA : ClassId) (sz : Nat) (y0 : Nat) (q1 : Nat) (q2 : Nat) (q3 : Nat) (q4 : Nat) (q5 : Nat) (rn : Nat) (tv : Int32) (sf : Nat → Int32) (lf : Nat → Int32) (mn : Int32) (rf : Nat → Int32) (nf : Nat → Int32) (ct : Int32) (il : Int32) (gf : Nat → Int32) (wd : Int32) (x : Int32) (hbad : wd < 0 ∨ 1 < wd) : Met l yX2_swap wsX2_swap mt_X2_swap_1_rm (va_Pc [.ref y0, .int wd, .int x] (gB (dC, dI) [(cA, .int)] [(y0, .inr (2, [.int tv, .int (nI rn), .ref q1, .ref q2, .int mn, .ref q3, .ref q4, .int ct, .int il, .ref q5])), (q1, .inl (cA, (2, .inl sf))), (q2, .inl (cA, (60, .inl lf))), (q3, .inl (cA, (320, .inl rf))), (q4, .inl (cA, (320, .inl nf))), (q5, .inl (cA, (6, .inl gf)))] sz)) (gM (dC, dI) (some (.int 0)) (fun u : Unit => True) (fun u : Unit => [(y0, .inr (2, [.int 1, .int (nI rn), .ref q1, .ref q2, .int mn, .ref q3, .ref q4, .int ct, .int il, .ref q5])), (q1, .inl (cA, (2, .inl sf))), (q2, .inl (cA, (60, .inl lf))), (q3, .inl (cA, (320, .inl rf))), (q4, .inl (cA, (320, .inl nf))), (q5, .inl (cA, (6, .inl gf)))]) (va_A [(y0, .inr (2, [.int tv, .int (nI rn), .ref q1, .ref q2, .int mn, .ref q3, .ref q4, .int ct, .int il, .ref q5])), (q1, .inl (cA, (2, .inl sf))), (q2, .inl (cA, (60, .inl lf))), (q3, .inl (cA, (320, .inl rf))), (q4, .inl (cA, (320, .inl nf))), (q5, .inl (cA, (6, .inl gf)))] sz)) 0 0 (va_A [(y0, .inr (2, [.int tv, .int (nI rn), .ref q1, .ref q2, .int mn, .ref q3, .ref q4, .int ct, .int il, .ref q5])), (q1, .inl (cA, (2, .inl sf))), (q2, .inl (cA, (60, .inl lf))), (q3, .inl (cA, (320, .inl rf))), (q4, .inl (cA, (320, .inl nf))), (q5, .inl (cA, (6, .inl gf)))] sz) := by
  refine g_ofM (cc := cX2_swap) (maxL := 5) (ret := (some .int)) (by decide) rfl (Nat.le_of_ble_eq_true rfl) (fun p e s m below meth c ls hx hb hr hml hts hown hlocks hP hK hl hin A hA hD hS => ?_)
  have hl : lv_has ls 5 [(0, .ref y0), (1, .int wd), (2, .int x)] := hl
  refine lv_aload_n hx hb dX2_swap_0 rfl (lv_at hl 0 rfl) ?_
  refine lv_iconst (v := 0) hx hb dX2_swap_1 (by decide) ?_
  refine va_put (D := (dC, dI)) (ci := 2) (v := .int 0) (ty := .int) (C := RX2) (T := TX2) (N := 10) hx hb hts (in_X2_swap_2) tyX2 tyX2_ok nmX2 hown hK hP hD hS 0 rfl rfl 0 (by decide) (hts (.fieldLink RX2 29 "BraidWordsModel" "thrown" "I") (List.mem_of_getElem? (i := 1) rfl)) (fun _ h9 => h9) rfl (by decide +kernel) rfl rfl (Nat.le_of_ble_eq_true rfl) dX2_swap_2 (fun H locs hP hD hS => ?_)
  have hP : va_P (dC, dI) vwCl [(y0, .inr (2, [.int 0, .int (nI rn), .ref q1, .ref q2, .int mn, .ref q3, .ref q4, .int ct, .int il, .ref q5])), (q1, .inl (cA, (2, .inl sf))), (q2, .inl (cA, (60, .inl lf))), (q3, .inl (cA, (320, .inl rf))), (q4, .inl (cA, (320, .inl nf))), (q5, .inl (cA, (6, .inl gf)))] H := hP
  have hD : va_D A [(y0, .inr (2, [.int 0, .int (nI rn), .ref q1, .ref q2, .int mn, .ref q3, .ref q4, .int ct, .int il, .ref q5])), (q1, .inl (cA, (2, .inl sf))), (q2, .inl (cA, (60, .inl lf))), (q3, .inl (cA, (320, .inl rf))), (q4, .inl (cA, (320, .inl nf))), (q5, .inl (cA, (6, .inl gf)))] := hD
  refine lv_iload_n hx hb dX2_swap_5 rfl (lv_at hl 1 rfl) ?_
  refine g_RSi (As := [.int wd]) (rest := []) ⟨hx, hb, hml, hown, hts⟩ (mt_X2_isWord l dC dI cA H.size wd) (va_cwS 1 hts gX2_swap_X2_isWord rfl rfl rfl hdX2_isWord ⟨Nat.le_of_ble_eq_true rfl, Nat.le_of_ble_eq_true rfl⟩) hP hK hD [] (by decide) rfl rfl hl.1 rfl (Nat.le_of_ble_eq_true rfl) dX2_swap_6 (Nat.zero_le _) (Nat.zero_le _) ?_
  rw [show (inI wd 0 1) = 0 from inI_n hbad]
  refine lv_if_eq (tgt := 28) hx hb dX2_swap_9 (by decide) (fun c9 => ?_) (fun c9 => ?_)
  · have c9 : 0 = 0 := g_eqT 0 0 (by omega) (by omega) c9
    refine lv_aload_n hx hb dX2_swap_28 rfl (lv_at hl 0 rfl) ?_
    refine lv_iconst (v := 1) hx hb dX2_swap_29 (by decide) ?_
    refine g_MVi (As := [.int 1]) (rest := []) ⟨hx, hb, hml, hown, hts⟩ (mt_X2_no l dC dI cA H.size y0 q1 q2 q3 q4 q5 rn 0 sf lf mn rf nf ct il gf 1) (cwV 1 hts gX2_swap_X2_no rfl rfl rfl hdX2_no ⟨Nat.le_of_ble_eq_true rfl, Nat.le_of_ble_eq_true rfl⟩) hP hK hD hS hA [0, 1, 2, 3, 4, 5] (by decide) rfl (va_recv hK hP (ci := 2) (q0 := 0) rfl rfl) rfl hl.1 rfl (Nat.le_of_ble_eq_true rfl) dX2_swap_30 (Nat.zero_le _) (Nat.zero_le _) (fun u9 => [(y0, .inr (2, [.int 1, .int (nI rn), .ref q1, .ref q2, .int mn, .ref q3, .ref q4, .int ct, .int il, .ref q5])), (q1, .inl (cA, (2, .inl sf))), (q2, .inl (cA, (60, .inl lf))), (q3, .inl (cA, (320, .inl rf))), (q4, .inl (cA, (320, .inl nf))), (q5, .inl (cA, (6, .inl gf)))]) (fun _ => rfl) (fun _ => rfl) (fun u H locs hw_1 hP hD hS => ?_)
    have hw_1 : True := hw_1
    have hP : va_P (dC, dI) vwCl [(y0, .inr (2, [.int 1, .int (nI rn), .ref q1, .ref q2, .int mn, .ref q3, .ref q4, .int ct, .int il, .ref q5])), (q1, .inl (cA, (2, .inl sf))), (q2, .inl (cA, (60, .inl lf))), (q3, .inl (cA, (320, .inl rf))), (q4, .inl (cA, (320, .inl nf))), (q5, .inl (cA, (6, .inl gf)))] H := hP
    have hD : va_D A [(y0, .inr (2, [.int 1, .int (nI rn), .ref q1, .ref q2, .int mn, .ref q3, .ref q4, .int ct, .int il, .ref q5])), (q1, .inl (cA, (2, .inl sf))), (q2, .inl (cA, (60, .inl lf))), (q3, .inl (cA, (320, .inl rf))), (q4, .inl (cA, (320, .inl nf))), (q5, .inl (cA, (6, .inl gf)))] := hD
    exact g_endMi hx hb hr hlocks hP hS dX2_swap_33 () rfl rfl trivial
  · exact absurd (by decide) c9

abbrev mt_X2_about_1_rm : Room := { frames := 2, cells := 0, slots := 0, locals := 42 }
set_option maxHeartbeats 4000000 in
set_option maxRecDepth 100000 in
theorem mt_X2_about_1 (l : Launch) (dC : Nat → ClassId) (dI : Nat → Nat → Nat) (cA : ClassId) (sz : Nat) (y0 : Nat) (q1 : Nat) (q2 : Nat) (q3 : Nat) (q4 : Nat) (q5 : Nat) (rn : Nat) (tv : Int32) (sf : Nat → Int32) (lf : Nat → Int32) (mn : Int32) (rf : Nat → Int32) (nf : Nat → Int32) (ct : Int32) (il : Int32) (gf : Nat → Int32) (wd : Int32) (x : Int32) (hbad : wd < 0 ∨ 1 < wd) : Met l yX2_about wsX2_about mt_X2_about_1_rm (va_Pc [.ref y0, .int wd, .int x] (gB (dC, dI) [(cA, .int)] [(y0, .inr (2, [.int tv, .int (nI rn), .ref q1, .ref q2, .int mn, .ref q3, .ref q4, .int ct, .int il, .ref q5])), (q1, .inl (cA, (2, .inl sf))), (q2, .inl (cA, (60, .inl lf))), (q3, .inl (cA, (320, .inl rf))), (q4, .inl (cA, (320, .inl nf))), (q5, .inl (cA, (6, .inl gf)))] sz)) (gM (dC, dI) (some (.int 0)) (fun u : Unit => True) (fun u : Unit => [(y0, .inr (2, [.int 1, .int (nI rn), .ref q1, .ref q2, .int mn, .ref q3, .ref q4, .int ct, .int il, .ref q5])), (q1, .inl (cA, (2, .inl sf))), (q2, .inl (cA, (60, .inl lf))), (q3, .inl (cA, (320, .inl rf))), (q4, .inl (cA, (320, .inl nf))), (q5, .inl (cA, (6, .inl gf)))]) (va_A [(y0, .inr (2, [.int tv, .int (nI rn), .ref q1, .ref q2, .int mn, .ref q3, .ref q4, .int ct, .int il, .ref q5])), (q1, .inl (cA, (2, .inl sf))), (q2, .inl (cA, (60, .inl lf))), (q3, .inl (cA, (320, .inl rf))), (q4, .inl (cA, (320, .inl nf))), (q5, .inl (cA, (6, .inl gf)))] sz)) 0 0 (va_A [(y0, .inr (2, [.int tv, .int (nI rn), .ref q1, .ref q2, .int mn, .ref q3, .ref q4, .int ct, .int il, .ref q5])), (q1, .inl (cA, (2, .inl sf))), (q2, .inl (cA, (60, .inl lf))), (q3, .inl (cA, (320, .inl rf))), (q4, .inl (cA, (320, .inl nf))), (q5, .inl (cA, (6, .inl gf)))] sz) := by
  refine g_ofM (cc := cX2_about) (maxL := 5) (ret := (some .int)) (by decide) rfl (Nat.le_of_ble_eq_true rfl) (fun p e s m below meth c ls hx hb hr hml hts hown hlocks hP hK hl hin A hA hD hS => ?_)
  have hl : lv_has ls 5 [(0, .ref y0), (1, .int wd), (2, .int x)] := hl
  refine lv_aload_n hx hb dX2_about_0 rfl (lv_at hl 0 rfl) ?_
  refine lv_iconst (v := 0) hx hb dX2_about_1 (by decide) ?_
  refine va_put (D := (dC, dI)) (ci := 2) (v := .int 0) (ty := .int) (C := RX2) (T := TX2) (N := 10) hx hb hts (in_X2_about_2) tyX2 tyX2_ok nmX2 hown hK hP hD hS 0 rfl rfl 0 (by decide) (hts (.fieldLink RX2 29 "BraidWordsModel" "thrown" "I") (List.mem_of_getElem? (i := 1) rfl)) (fun _ h9 => h9) rfl (by decide +kernel) rfl rfl (Nat.le_of_ble_eq_true rfl) dX2_about_2 (fun H locs hP hD hS => ?_)
  have hP : va_P (dC, dI) vwCl [(y0, .inr (2, [.int 0, .int (nI rn), .ref q1, .ref q2, .int mn, .ref q3, .ref q4, .int ct, .int il, .ref q5])), (q1, .inl (cA, (2, .inl sf))), (q2, .inl (cA, (60, .inl lf))), (q3, .inl (cA, (320, .inl rf))), (q4, .inl (cA, (320, .inl nf))), (q5, .inl (cA, (6, .inl gf)))] H := hP
  have hD : va_D A [(y0, .inr (2, [.int 0, .int (nI rn), .ref q1, .ref q2, .int mn, .ref q3, .ref q4, .int ct, .int il, .ref q5])), (q1, .inl (cA, (2, .inl sf))), (q2, .inl (cA, (60, .inl lf))), (q3, .inl (cA, (320, .inl rf))), (q4, .inl (cA, (320, .inl nf))), (q5, .inl (cA, (6, .inl gf)))] := hD
  refine lv_iload_n hx hb dX2_about_5 rfl (lv_at hl 1 rfl) ?_
  refine g_RSi (As := [.int wd]) (rest := []) ⟨hx, hb, hml, hown, hts⟩ (mt_X2_isWord l dC dI cA H.size wd) (va_cwS 1 hts gX2_about_X2_isWord rfl rfl rfl hdX2_isWord ⟨Nat.le_of_ble_eq_true rfl, Nat.le_of_ble_eq_true rfl⟩) hP hK hD [] (by decide) rfl rfl hl.1 rfl (Nat.le_of_ble_eq_true rfl) dX2_about_6 (Nat.zero_le _) (Nat.zero_le _) ?_
  rw [show (inI wd 0 1) = 0 from inI_n hbad]
  refine lv_if_eq (tgt := 28) hx hb dX2_about_9 (by decide) (fun c9 => ?_) (fun c9 => ?_)
  · have c9 : 0 = 0 := g_eqT 0 0 (by omega) (by omega) c9
    refine lv_aload_n hx hb dX2_about_28 rfl (lv_at hl 0 rfl) ?_
    refine lv_iconst (v := 1) hx hb dX2_about_29 (by decide) ?_
    refine g_MVi (As := [.int 1]) (rest := []) ⟨hx, hb, hml, hown, hts⟩ (mt_X2_no l dC dI cA H.size y0 q1 q2 q3 q4 q5 rn 0 sf lf mn rf nf ct il gf 1) (cwV 1 hts gX2_about_X2_no rfl rfl rfl hdX2_no ⟨Nat.le_of_ble_eq_true rfl, Nat.le_of_ble_eq_true rfl⟩) hP hK hD hS hA [0, 1, 2, 3, 4, 5] (by decide) rfl (va_recv hK hP (ci := 2) (q0 := 0) rfl rfl) rfl hl.1 rfl (Nat.le_of_ble_eq_true rfl) dX2_about_30 (Nat.zero_le _) (Nat.zero_le _) (fun u9 => [(y0, .inr (2, [.int 1, .int (nI rn), .ref q1, .ref q2, .int mn, .ref q3, .ref q4, .int ct, .int il, .ref q5])), (q1, .inl (cA, (2, .inl sf))), (q2, .inl (cA, (60, .inl lf))), (q3, .inl (cA, (320, .inl rf))), (q4, .inl (cA, (320, .inl nf))), (q5, .inl (cA, (6, .inl gf)))]) (fun _ => rfl) (fun _ => rfl) (fun u H locs hw_1 hP hD hS => ?_)
    have hw_1 : True := hw_1
    have hP : va_P (dC, dI) vwCl [(y0, .inr (2, [.int 1, .int (nI rn), .ref q1, .ref q2, .int mn, .ref q3, .ref q4, .int ct, .int il, .ref q5])), (q1, .inl (cA, (2, .inl sf))), (q2, .inl (cA, (60, .inl lf))), (q3, .inl (cA, (320, .inl rf))), (q4, .inl (cA, (320, .inl nf))), (q5, .inl (cA, (6, .inl gf)))] H := hP
    have hD : va_D A [(y0, .inr (2, [.int 1, .int (nI rn), .ref q1, .ref q2, .int mn, .ref q3, .ref q4, .int ct, .int il, .ref q5])), (q1, .inl (cA, (2, .inl sf))), (q2, .inl (cA, (60, .inl lf))), (q3, .inl (cA, (320, .inl rf))), (q4, .inl (cA, (320, .inl nf))), (q5, .inl (cA, (6, .inl gf)))] := hD
    exact g_endMi hx hb hr hlocks hP hS dX2_about_33 () rfl rfl trivial
  · exact absurd (by decide) c9

abbrev mt_X2_insert_1_rm : Room := { frames := 2, cells := 0, slots := 0, locals := 42 }
set_option maxHeartbeats 4000000 in
set_option maxRecDepth 100000 in
theorem mt_X2_insert_1 (l : Launch) (dC : Nat → ClassId) (dI : Nat → Nat → Nat) (cA : ClassId) (sz : Nat) (y0 : Nat) (q1 : Nat) (q2 : Nat) (q3 : Nat) (q4 : Nat) (q5 : Nat) (rn : Nat) (tv : Int32) (sf : Nat → Int32) (lf : Nat → Int32) (mn : Int32) (rf : Nat → Int32) (nf : Nat → Int32) (ct : Int32) (il : Int32) (gf : Nat → Int32) (wd : Int32) (x : Int32) (y : Int32) (hbad : wd < 0 ∨ 1 < wd) : Met l yX2_insert wsX2_insert mt_X2_insert_1_rm (va_Pc [.ref y0, .int wd, .int x, .int y] (gB (dC, dI) [(cA, .int)] [(y0, .inr (2, [.int tv, .int (nI rn), .ref q1, .ref q2, .int mn, .ref q3, .ref q4, .int ct, .int il, .ref q5])), (q1, .inl (cA, (2, .inl sf))), (q2, .inl (cA, (60, .inl lf))), (q3, .inl (cA, (320, .inl rf))), (q4, .inl (cA, (320, .inl nf))), (q5, .inl (cA, (6, .inl gf)))] sz)) (gM (dC, dI) (some (.int 0)) (fun u : Unit => True) (fun u : Unit => [(y0, .inr (2, [.int 1, .int (nI rn), .ref q1, .ref q2, .int mn, .ref q3, .ref q4, .int ct, .int il, .ref q5])), (q1, .inl (cA, (2, .inl sf))), (q2, .inl (cA, (60, .inl lf))), (q3, .inl (cA, (320, .inl rf))), (q4, .inl (cA, (320, .inl nf))), (q5, .inl (cA, (6, .inl gf)))]) (va_A [(y0, .inr (2, [.int tv, .int (nI rn), .ref q1, .ref q2, .int mn, .ref q3, .ref q4, .int ct, .int il, .ref q5])), (q1, .inl (cA, (2, .inl sf))), (q2, .inl (cA, (60, .inl lf))), (q3, .inl (cA, (320, .inl rf))), (q4, .inl (cA, (320, .inl nf))), (q5, .inl (cA, (6, .inl gf)))] sz)) 0 0 (va_A [(y0, .inr (2, [.int tv, .int (nI rn), .ref q1, .ref q2, .int mn, .ref q3, .ref q4, .int ct, .int il, .ref q5])), (q1, .inl (cA, (2, .inl sf))), (q2, .inl (cA, (60, .inl lf))), (q3, .inl (cA, (320, .inl rf))), (q4, .inl (cA, (320, .inl nf))), (q5, .inl (cA, (6, .inl gf)))] sz) := by
  refine g_ofM (cc := cX2_insert) (maxL := 5) (ret := (some .int)) (by decide) rfl (Nat.le_of_ble_eq_true rfl) (fun p e s m below meth c ls hx hb hr hml hts hown hlocks hP hK hl hin A hA hD hS => ?_)
  have hl : lv_has ls 5 [(0, .ref y0), (1, .int wd), (2, .int x), (3, .int y)] := hl
  refine lv_aload_n hx hb dX2_insert_0 rfl (lv_at hl 0 rfl) ?_
  refine lv_iconst (v := 0) hx hb dX2_insert_1 (by decide) ?_
  refine va_put (D := (dC, dI)) (ci := 2) (v := .int 0) (ty := .int) (C := RX2) (T := TX2) (N := 10) hx hb hts (in_X2_insert_2) tyX2 tyX2_ok nmX2 hown hK hP hD hS 0 rfl rfl 0 (by decide) (hts (.fieldLink RX2 29 "BraidWordsModel" "thrown" "I") (List.mem_of_getElem? (i := 1) rfl)) (fun _ h9 => h9) rfl (by decide +kernel) rfl rfl (Nat.le_of_ble_eq_true rfl) dX2_insert_2 (fun H locs hP hD hS => ?_)
  have hP : va_P (dC, dI) vwCl [(y0, .inr (2, [.int 0, .int (nI rn), .ref q1, .ref q2, .int mn, .ref q3, .ref q4, .int ct, .int il, .ref q5])), (q1, .inl (cA, (2, .inl sf))), (q2, .inl (cA, (60, .inl lf))), (q3, .inl (cA, (320, .inl rf))), (q4, .inl (cA, (320, .inl nf))), (q5, .inl (cA, (6, .inl gf)))] H := hP
  have hD : va_D A [(y0, .inr (2, [.int 0, .int (nI rn), .ref q1, .ref q2, .int mn, .ref q3, .ref q4, .int ct, .int il, .ref q5])), (q1, .inl (cA, (2, .inl sf))), (q2, .inl (cA, (60, .inl lf))), (q3, .inl (cA, (320, .inl rf))), (q4, .inl (cA, (320, .inl nf))), (q5, .inl (cA, (6, .inl gf)))] := hD
  refine lv_iload_n hx hb dX2_insert_5 rfl (lv_at hl 1 rfl) ?_
  refine g_RSi (As := [.int wd]) (rest := []) ⟨hx, hb, hml, hown, hts⟩ (mt_X2_isWord l dC dI cA H.size wd) (va_cwS 1 hts gX2_insert_X2_isWord rfl rfl rfl hdX2_isWord ⟨Nat.le_of_ble_eq_true rfl, Nat.le_of_ble_eq_true rfl⟩) hP hK hD [] (by decide) rfl rfl hl.1 rfl (Nat.le_of_ble_eq_true rfl) dX2_insert_6 (Nat.zero_le _) (Nat.zero_le _) ?_
  rw [show (inI wd 0 1) = 0 from inI_n hbad]
  refine lv_if_eq (tgt := 26) hx hb dX2_insert_9 (by decide) (fun c9 => ?_) (fun c9 => ?_)
  · have c9 : 0 = 0 := g_eqT 0 0 (by omega) (by omega) c9
    refine lv_aload_n hx hb dX2_insert_26 rfl (lv_at hl 0 rfl) ?_
    refine lv_iconst (v := 1) hx hb dX2_insert_27 (by decide) ?_
    refine g_MVi (As := [.int 1]) (rest := []) ⟨hx, hb, hml, hown, hts⟩ (mt_X2_no l dC dI cA H.size y0 q1 q2 q3 q4 q5 rn 0 sf lf mn rf nf ct il gf 1) (cwV 1 hts gX2_insert_X2_no rfl rfl rfl hdX2_no ⟨Nat.le_of_ble_eq_true rfl, Nat.le_of_ble_eq_true rfl⟩) hP hK hD hS hA [0, 1, 2, 3, 4, 5] (by decide) rfl (va_recv hK hP (ci := 2) (q0 := 0) rfl rfl) rfl hl.1 rfl (Nat.le_of_ble_eq_true rfl) dX2_insert_28 (Nat.zero_le _) (Nat.zero_le _) (fun u9 => [(y0, .inr (2, [.int 1, .int (nI rn), .ref q1, .ref q2, .int mn, .ref q3, .ref q4, .int ct, .int il, .ref q5])), (q1, .inl (cA, (2, .inl sf))), (q2, .inl (cA, (60, .inl lf))), (q3, .inl (cA, (320, .inl rf))), (q4, .inl (cA, (320, .inl nf))), (q5, .inl (cA, (6, .inl gf)))]) (fun _ => rfl) (fun _ => rfl) (fun u H locs hw_1 hP hD hS => ?_)
    have hw_1 : True := hw_1
    have hP : va_P (dC, dI) vwCl [(y0, .inr (2, [.int 1, .int (nI rn), .ref q1, .ref q2, .int mn, .ref q3, .ref q4, .int ct, .int il, .ref q5])), (q1, .inl (cA, (2, .inl sf))), (q2, .inl (cA, (60, .inl lf))), (q3, .inl (cA, (320, .inl rf))), (q4, .inl (cA, (320, .inl nf))), (q5, .inl (cA, (6, .inl gf)))] H := hP
    have hD : va_D A [(y0, .inr (2, [.int 1, .int (nI rn), .ref q1, .ref q2, .int mn, .ref q3, .ref q4, .int ct, .int il, .ref q5])), (q1, .inl (cA, (2, .inl sf))), (q2, .inl (cA, (60, .inl lf))), (q3, .inl (cA, (320, .inl rf))), (q4, .inl (cA, (320, .inl nf))), (q5, .inl (cA, (6, .inl gf)))] := hD
    exact g_endMi hx hb hr hlocks hP hS dX2_insert_31 () rfl rfl trivial
  · exact absurd (by decide) c9

abbrev mt_X2_cut_1_rm : Room := { frames := 2, cells := 0, slots := 0, locals := 42 }
set_option maxHeartbeats 4000000 in
set_option maxRecDepth 100000 in
theorem mt_X2_cut_1 (l : Launch) (dC : Nat → ClassId) (dI : Nat → Nat → Nat) (cA : ClassId) (sz : Nat) (y0 : Nat) (q1 : Nat) (q2 : Nat) (q3 : Nat) (q4 : Nat) (q5 : Nat) (rn : Nat) (tv : Int32) (sf : Nat → Int32) (lf : Nat → Int32) (mn : Int32) (rf : Nat → Int32) (nf : Nat → Int32) (ct : Int32) (il : Int32) (gf : Nat → Int32) (wd : Int32) (hbad : wd < 0 ∨ 1 < wd) : Met l yX2_cut wsX2_cut mt_X2_cut_1_rm (va_Pc [.ref y0, .int wd] (gB (dC, dI) [(cA, .int)] [(y0, .inr (2, [.int tv, .int (nI rn), .ref q1, .ref q2, .int mn, .ref q3, .ref q4, .int ct, .int il, .ref q5])), (q1, .inl (cA, (2, .inl sf))), (q2, .inl (cA, (60, .inl lf))), (q3, .inl (cA, (320, .inl rf))), (q4, .inl (cA, (320, .inl nf))), (q5, .inl (cA, (6, .inl gf)))] sz)) (gM (dC, dI) (some (.int 0)) (fun u : Unit => True) (fun u : Unit => [(y0, .inr (2, [.int 1, .int (nI rn), .ref q1, .ref q2, .int mn, .ref q3, .ref q4, .int ct, .int il, .ref q5])), (q1, .inl (cA, (2, .inl sf))), (q2, .inl (cA, (60, .inl lf))), (q3, .inl (cA, (320, .inl rf))), (q4, .inl (cA, (320, .inl nf))), (q5, .inl (cA, (6, .inl gf)))]) (va_A [(y0, .inr (2, [.int tv, .int (nI rn), .ref q1, .ref q2, .int mn, .ref q3, .ref q4, .int ct, .int il, .ref q5])), (q1, .inl (cA, (2, .inl sf))), (q2, .inl (cA, (60, .inl lf))), (q3, .inl (cA, (320, .inl rf))), (q4, .inl (cA, (320, .inl nf))), (q5, .inl (cA, (6, .inl gf)))] sz)) 0 0 (va_A [(y0, .inr (2, [.int tv, .int (nI rn), .ref q1, .ref q2, .int mn, .ref q3, .ref q4, .int ct, .int il, .ref q5])), (q1, .inl (cA, (2, .inl sf))), (q2, .inl (cA, (60, .inl lf))), (q3, .inl (cA, (320, .inl rf))), (q4, .inl (cA, (320, .inl nf))), (q5, .inl (cA, (6, .inl gf)))] sz) := by
  refine g_ofM (cc := cX2_cut) (maxL := 3) (ret := (some .int)) (by decide) rfl (Nat.le_of_ble_eq_true rfl) (fun p e s m below meth c ls hx hb hr hml hts hown hlocks hP hK hl hin A hA hD hS => ?_)
  have hl : lv_has ls 3 [(0, .ref y0), (1, .int wd)] := hl
  refine lv_aload_n hx hb dX2_cut_0 rfl (lv_at hl 0 rfl) ?_
  refine lv_iconst (v := 0) hx hb dX2_cut_1 (by decide) ?_
  refine va_put (D := (dC, dI)) (ci := 2) (v := .int 0) (ty := .int) (C := RX2) (T := TX2) (N := 10) hx hb hts (in_X2_cut_2) tyX2 tyX2_ok nmX2 hown hK hP hD hS 0 rfl rfl 0 (by decide) (hts (.fieldLink RX2 29 "BraidWordsModel" "thrown" "I") (List.mem_of_getElem? (i := 1) rfl)) (fun _ h9 => h9) rfl (by decide +kernel) rfl rfl (Nat.le_of_ble_eq_true rfl) dX2_cut_2 (fun H locs hP hD hS => ?_)
  have hP : va_P (dC, dI) vwCl [(y0, .inr (2, [.int 0, .int (nI rn), .ref q1, .ref q2, .int mn, .ref q3, .ref q4, .int ct, .int il, .ref q5])), (q1, .inl (cA, (2, .inl sf))), (q2, .inl (cA, (60, .inl lf))), (q3, .inl (cA, (320, .inl rf))), (q4, .inl (cA, (320, .inl nf))), (q5, .inl (cA, (6, .inl gf)))] H := hP
  have hD : va_D A [(y0, .inr (2, [.int 0, .int (nI rn), .ref q1, .ref q2, .int mn, .ref q3, .ref q4, .int ct, .int il, .ref q5])), (q1, .inl (cA, (2, .inl sf))), (q2, .inl (cA, (60, .inl lf))), (q3, .inl (cA, (320, .inl rf))), (q4, .inl (cA, (320, .inl nf))), (q5, .inl (cA, (6, .inl gf)))] := hD
  refine lv_iload_n hx hb dX2_cut_5 rfl (lv_at hl 1 rfl) ?_
  refine g_RSi (As := [.int wd]) (rest := []) ⟨hx, hb, hml, hown, hts⟩ (mt_X2_isWord l dC dI cA H.size wd) (va_cwS 1 hts gX2_cut_X2_isWord rfl rfl rfl hdX2_isWord ⟨Nat.le_of_ble_eq_true rfl, Nat.le_of_ble_eq_true rfl⟩) hP hK hD [] (by decide) rfl rfl hl.1 rfl (Nat.le_of_ble_eq_true rfl) dX2_cut_6 (Nat.zero_le _) (Nat.zero_le _) ?_
  rw [show (inI wd 0 1) = 0 from inI_n hbad]
  refine lv_if_ne (tgt := 18) hx hb dX2_cut_9 (by decide) (fun c9 => ?_) (fun c9 => ?_)
  · exact absurd (by decide) c9
  · have c9 : 0 = 0 := g_neF 0 0 (by omega) (by omega) c9
    refine lv_aload_n hx hb dX2_cut_12 rfl (lv_at hl 0 rfl) ?_
    refine lv_iconst (v := 1) hx hb dX2_cut_13 (by decide) ?_
    refine g_MVi (As := [.int 1]) (rest := []) ⟨hx, hb, hml, hown, hts⟩ (mt_X2_no l dC dI cA H.size y0 q1 q2 q3 q4 q5 rn 0 sf lf mn rf nf ct il gf 1) (cwV 1 hts gX2_cut_X2_no rfl rfl rfl hdX2_no ⟨Nat.le_of_ble_eq_true rfl, Nat.le_of_ble_eq_true rfl⟩) hP hK hD hS hA [0, 1, 2, 3, 4, 5] (by decide) rfl (va_recv hK hP (ci := 2) (q0 := 0) rfl rfl) rfl hl.1 rfl (Nat.le_of_ble_eq_true rfl) dX2_cut_14 (Nat.zero_le _) (Nat.zero_le _) (fun u9 => [(y0, .inr (2, [.int 1, .int (nI rn), .ref q1, .ref q2, .int mn, .ref q3, .ref q4, .int ct, .int il, .ref q5])), (q1, .inl (cA, (2, .inl sf))), (q2, .inl (cA, (60, .inl lf))), (q3, .inl (cA, (320, .inl rf))), (q4, .inl (cA, (320, .inl nf))), (q5, .inl (cA, (6, .inl gf)))]) (fun _ => rfl) (fun _ => rfl) (fun u H locs hw_1 hP hD hS => ?_)
    have hw_1 : True := hw_1
    have hP : va_P (dC, dI) vwCl [(y0, .inr (2, [.int 1, .int (nI rn), .ref q1, .ref q2, .int mn, .ref q3, .ref q4, .int ct, .int il, .ref q5])), (q1, .inl (cA, (2, .inl sf))), (q2, .inl (cA, (60, .inl lf))), (q3, .inl (cA, (320, .inl rf))), (q4, .inl (cA, (320, .inl nf))), (q5, .inl (cA, (6, .inl gf)))] H := hP
    have hD : va_D A [(y0, .inr (2, [.int 1, .int (nI rn), .ref q1, .ref q2, .int mn, .ref q3, .ref q4, .int ct, .int il, .ref q5])), (q1, .inl (cA, (2, .inl sf))), (q2, .inl (cA, (60, .inl lf))), (q3, .inl (cA, (320, .inl rf))), (q4, .inl (cA, (320, .inl nf))), (q5, .inl (cA, (6, .inl gf)))] := hD
    exact g_endMi hx hb hr hlocks hP hS dX2_cut_17 () rfl rfl trivial

abbrev mt_X2_letter_1_rm : Room := { frames := 2, cells := 0, slots := 0, locals := 42 }
set_option maxHeartbeats 4000000 in
set_option maxRecDepth 100000 in
theorem mt_X2_letter_1 (l : Launch) (dC : Nat → ClassId) (dI : Nat → Nat → Nat) (cA : ClassId) (sz : Nat) (y0 : Nat) (q1 : Nat) (q2 : Nat) (q3 : Nat) (q4 : Nat) (q5 : Nat) (rn : Nat) (tv : Int32) (sf : Nat → Int32) (lf : Nat → Int32) (mn : Int32) (rf : Nat → Int32) (nf : Nat → Int32) (ct : Int32) (il : Int32) (gf : Nat → Int32) (wd : Int32) (x : Int32) (hbad : wd < 0 ∨ 1 < wd) : Met l yX2_letter wsX2_letter mt_X2_letter_1_rm (va_Pc [.ref y0, .int wd, .int x] (gB (dC, dI) [(cA, .int)] [(y0, .inr (2, [.int tv, .int (nI rn), .ref q1, .ref q2, .int mn, .ref q3, .ref q4, .int ct, .int il, .ref q5])), (q1, .inl (cA, (2, .inl sf))), (q2, .inl (cA, (60, .inl lf))), (q3, .inl (cA, (320, .inl rf))), (q4, .inl (cA, (320, .inl nf))), (q5, .inl (cA, (6, .inl gf)))] sz)) (gM (dC, dI) (some (.int 0)) (fun u : Unit => True) (fun u : Unit => [(y0, .inr (2, [.int 1, .int (nI rn), .ref q1, .ref q2, .int mn, .ref q3, .ref q4, .int ct, .int il, .ref q5])), (q1, .inl (cA, (2, .inl sf))), (q2, .inl (cA, (60, .inl lf))), (q3, .inl (cA, (320, .inl rf))), (q4, .inl (cA, (320, .inl nf))), (q5, .inl (cA, (6, .inl gf)))]) (va_A [(y0, .inr (2, [.int tv, .int (nI rn), .ref q1, .ref q2, .int mn, .ref q3, .ref q4, .int ct, .int il, .ref q5])), (q1, .inl (cA, (2, .inl sf))), (q2, .inl (cA, (60, .inl lf))), (q3, .inl (cA, (320, .inl rf))), (q4, .inl (cA, (320, .inl nf))), (q5, .inl (cA, (6, .inl gf)))] sz)) 0 0 (va_A [(y0, .inr (2, [.int tv, .int (nI rn), .ref q1, .ref q2, .int mn, .ref q3, .ref q4, .int ct, .int il, .ref q5])), (q1, .inl (cA, (2, .inl sf))), (q2, .inl (cA, (60, .inl lf))), (q3, .inl (cA, (320, .inl rf))), (q4, .inl (cA, (320, .inl nf))), (q5, .inl (cA, (6, .inl gf)))] sz) := by
  refine g_ofM (cc := cX2_letter) (maxL := 3) (ret := (some .int)) (by decide) rfl (Nat.le_of_ble_eq_true rfl) (fun p e s m below meth c ls hx hb hr hml hts hown hlocks hP hK hl hin A hA hD hS => ?_)
  have hl : lv_has ls 3 [(0, .ref y0), (1, .int wd), (2, .int x)] := hl
  refine lv_aload_n hx hb dX2_letter_0 rfl (lv_at hl 0 rfl) ?_
  refine lv_iconst (v := 0) hx hb dX2_letter_1 (by decide) ?_
  refine va_put (D := (dC, dI)) (ci := 2) (v := .int 0) (ty := .int) (C := RX2) (T := TX2) (N := 10) hx hb hts (in_X2_letter_2) tyX2 tyX2_ok nmX2 hown hK hP hD hS 0 rfl rfl 0 (by decide) (hts (.fieldLink RX2 29 "BraidWordsModel" "thrown" "I") (List.mem_of_getElem? (i := 1) rfl)) (fun _ h9 => h9) rfl (by decide +kernel) rfl rfl (Nat.le_of_ble_eq_true rfl) dX2_letter_2 (fun H locs hP hD hS => ?_)
  have hP : va_P (dC, dI) vwCl [(y0, .inr (2, [.int 0, .int (nI rn), .ref q1, .ref q2, .int mn, .ref q3, .ref q4, .int ct, .int il, .ref q5])), (q1, .inl (cA, (2, .inl sf))), (q2, .inl (cA, (60, .inl lf))), (q3, .inl (cA, (320, .inl rf))), (q4, .inl (cA, (320, .inl nf))), (q5, .inl (cA, (6, .inl gf)))] H := hP
  have hD : va_D A [(y0, .inr (2, [.int 0, .int (nI rn), .ref q1, .ref q2, .int mn, .ref q3, .ref q4, .int ct, .int il, .ref q5])), (q1, .inl (cA, (2, .inl sf))), (q2, .inl (cA, (60, .inl lf))), (q3, .inl (cA, (320, .inl rf))), (q4, .inl (cA, (320, .inl nf))), (q5, .inl (cA, (6, .inl gf)))] := hD
  refine lv_iload_n hx hb dX2_letter_5 rfl (lv_at hl 1 rfl) ?_
  refine g_RSi (As := [.int wd]) (rest := []) ⟨hx, hb, hml, hown, hts⟩ (mt_X2_isWord l dC dI cA H.size wd) (va_cwS 1 hts gX2_letter_X2_isWord rfl rfl rfl hdX2_isWord ⟨Nat.le_of_ble_eq_true rfl, Nat.le_of_ble_eq_true rfl⟩) hP hK hD [] (by decide) rfl rfl hl.1 rfl (Nat.le_of_ble_eq_true rfl) dX2_letter_6 (Nat.zero_le _) (Nat.zero_le _) ?_
  rw [show (inI wd 0 1) = 0 from inI_n hbad]
  refine lv_if_eq (tgt := 37) hx hb dX2_letter_9 (by decide) (fun c9 => ?_) (fun c9 => ?_)
  · have c9 : 0 = 0 := g_eqT 0 0 (by omega) (by omega) c9
    refine lv_aload_n hx hb dX2_letter_37 rfl (lv_at hl 0 rfl) ?_
    refine lv_iconst (v := 1) hx hb dX2_letter_38 (by decide) ?_
    refine g_MVi (As := [.int 1]) (rest := []) ⟨hx, hb, hml, hown, hts⟩ (mt_X2_no l dC dI cA H.size y0 q1 q2 q3 q4 q5 rn 0 sf lf mn rf nf ct il gf 1) (cwV 1 hts gX2_letter_X2_no rfl rfl rfl hdX2_no ⟨Nat.le_of_ble_eq_true rfl, Nat.le_of_ble_eq_true rfl⟩) hP hK hD hS hA [0, 1, 2, 3, 4, 5] (by decide) rfl (va_recv hK hP (ci := 2) (q0 := 0) rfl rfl) rfl hl.1 rfl (Nat.le_of_ble_eq_true rfl) dX2_letter_39 (Nat.zero_le _) (Nat.zero_le _) (fun u9 => [(y0, .inr (2, [.int 1, .int (nI rn), .ref q1, .ref q2, .int mn, .ref q3, .ref q4, .int ct, .int il, .ref q5])), (q1, .inl (cA, (2, .inl sf))), (q2, .inl (cA, (60, .inl lf))), (q3, .inl (cA, (320, .inl rf))), (q4, .inl (cA, (320, .inl nf))), (q5, .inl (cA, (6, .inl gf)))]) (fun _ => rfl) (fun _ => rfl) (fun u H locs hw_1 hP hD hS => ?_)
    have hw_1 : True := hw_1
    have hP : va_P (dC, dI) vwCl [(y0, .inr (2, [.int 1, .int (nI rn), .ref q1, .ref q2, .int mn, .ref q3, .ref q4, .int ct, .int il, .ref q5])), (q1, .inl (cA, (2, .inl sf))), (q2, .inl (cA, (60, .inl lf))), (q3, .inl (cA, (320, .inl rf))), (q4, .inl (cA, (320, .inl nf))), (q5, .inl (cA, (6, .inl gf)))] H := hP
    have hD : va_D A [(y0, .inr (2, [.int 1, .int (nI rn), .ref q1, .ref q2, .int mn, .ref q3, .ref q4, .int ct, .int il, .ref q5])), (q1, .inl (cA, (2, .inl sf))), (q2, .inl (cA, (60, .inl lf))), (q3, .inl (cA, (320, .inl rf))), (q4, .inl (cA, (320, .inl nf))), (q5, .inl (cA, (6, .inl gf)))] := hD
    exact g_endMi hx hb hr hlocks hP hS dX2_letter_42 () rfl rfl trivial
  · exact absurd (by decide) c9

abbrev mt_X2_end_1_rm : Room := { frames := 2, cells := 0, slots := 0, locals := 42 }
set_option maxHeartbeats 4000000 in
set_option maxRecDepth 100000 in
theorem mt_X2_end_1 (l : Launch) (dC : Nat → ClassId) (dI : Nat → Nat → Nat) (cA : ClassId) (sz : Nat) (y0 : Nat) (q1 : Nat) (q2 : Nat) (q3 : Nat) (q4 : Nat) (q5 : Nat) (rn : Nat) (tv : Int32) (sf : Nat → Int32) (lf : Nat → Int32) (mn : Int32) (rf : Nat → Int32) (nf : Nat → Int32) (ct : Int32) (il : Int32) (gf : Nat → Int32) (wd : Int32) (x : Int32) (hbad : wd < 0 ∨ 1 < wd) : Met l yX2_end wsX2_end mt_X2_end_1_rm (va_Pc [.ref y0, .int wd, .int x] (gB (dC, dI) [(cA, .int)] [(y0, .inr (2, [.int tv, .int (nI rn), .ref q1, .ref q2, .int mn, .ref q3, .ref q4, .int ct, .int il, .ref q5])), (q1, .inl (cA, (2, .inl sf))), (q2, .inl (cA, (60, .inl lf))), (q3, .inl (cA, (320, .inl rf))), (q4, .inl (cA, (320, .inl nf))), (q5, .inl (cA, (6, .inl gf)))] sz)) (gM (dC, dI) (some (.int 0)) (fun u : Unit => True) (fun u : Unit => [(y0, .inr (2, [.int 1, .int (nI rn), .ref q1, .ref q2, .int mn, .ref q3, .ref q4, .int ct, .int il, .ref q5])), (q1, .inl (cA, (2, .inl sf))), (q2, .inl (cA, (60, .inl lf))), (q3, .inl (cA, (320, .inl rf))), (q4, .inl (cA, (320, .inl nf))), (q5, .inl (cA, (6, .inl gf)))]) (va_A [(y0, .inr (2, [.int tv, .int (nI rn), .ref q1, .ref q2, .int mn, .ref q3, .ref q4, .int ct, .int il, .ref q5])), (q1, .inl (cA, (2, .inl sf))), (q2, .inl (cA, (60, .inl lf))), (q3, .inl (cA, (320, .inl rf))), (q4, .inl (cA, (320, .inl nf))), (q5, .inl (cA, (6, .inl gf)))] sz)) 0 0 (va_A [(y0, .inr (2, [.int tv, .int (nI rn), .ref q1, .ref q2, .int mn, .ref q3, .ref q4, .int ct, .int il, .ref q5])), (q1, .inl (cA, (2, .inl sf))), (q2, .inl (cA, (60, .inl lf))), (q3, .inl (cA, (320, .inl rf))), (q4, .inl (cA, (320, .inl nf))), (q5, .inl (cA, (6, .inl gf)))] sz) := by
  refine g_ofM (cc := cX2_end) (maxL := 3) (ret := (some .int)) (by decide) rfl (Nat.le_of_ble_eq_true rfl) (fun p e s m below meth c ls hx hb hr hml hts hown hlocks hP hK hl hin A hA hD hS => ?_)
  have hl : lv_has ls 3 [(0, .ref y0), (1, .int wd), (2, .int x)] := hl
  refine lv_aload_n hx hb dX2_end_0 rfl (lv_at hl 0 rfl) ?_
  refine lv_iconst (v := 0) hx hb dX2_end_1 (by decide) ?_
  refine va_put (D := (dC, dI)) (ci := 2) (v := .int 0) (ty := .int) (C := RX2) (T := TX2) (N := 10) hx hb hts (in_X2_end_2) tyX2 tyX2_ok nmX2 hown hK hP hD hS 0 rfl rfl 0 (by decide) (hts (.fieldLink RX2 29 "BraidWordsModel" "thrown" "I") (List.mem_of_getElem? (i := 1) rfl)) (fun _ h9 => h9) rfl (by decide +kernel) rfl rfl (Nat.le_of_ble_eq_true rfl) dX2_end_2 (fun H locs hP hD hS => ?_)
  have hP : va_P (dC, dI) vwCl [(y0, .inr (2, [.int 0, .int (nI rn), .ref q1, .ref q2, .int mn, .ref q3, .ref q4, .int ct, .int il, .ref q5])), (q1, .inl (cA, (2, .inl sf))), (q2, .inl (cA, (60, .inl lf))), (q3, .inl (cA, (320, .inl rf))), (q4, .inl (cA, (320, .inl nf))), (q5, .inl (cA, (6, .inl gf)))] H := hP
  have hD : va_D A [(y0, .inr (2, [.int 0, .int (nI rn), .ref q1, .ref q2, .int mn, .ref q3, .ref q4, .int ct, .int il, .ref q5])), (q1, .inl (cA, (2, .inl sf))), (q2, .inl (cA, (60, .inl lf))), (q3, .inl (cA, (320, .inl rf))), (q4, .inl (cA, (320, .inl nf))), (q5, .inl (cA, (6, .inl gf)))] := hD
  refine lv_iload_n hx hb dX2_end_5 rfl (lv_at hl 1 rfl) ?_
  refine g_RSi (As := [.int wd]) (rest := []) ⟨hx, hb, hml, hown, hts⟩ (mt_X2_isWord l dC dI cA H.size wd) (va_cwS 1 hts gX2_end_X2_isWord rfl rfl rfl hdX2_isWord ⟨Nat.le_of_ble_eq_true rfl, Nat.le_of_ble_eq_true rfl⟩) hP hK hD [] (by decide) rfl rfl hl.1 rfl (Nat.le_of_ble_eq_true rfl) dX2_end_6 (Nat.zero_le _) (Nat.zero_le _) ?_
  rw [show (inI wd 0 1) = 0 from inI_n hbad]
  refine lv_if_eq (tgt := 29) hx hb dX2_end_9 (by decide) (fun c9 => ?_) (fun c9 => ?_)
  · have c9 : 0 = 0 := g_eqT 0 0 (by omega) (by omega) c9
    refine lv_aload_n hx hb dX2_end_29 rfl (lv_at hl 0 rfl) ?_
    refine lv_iconst (v := 1) hx hb dX2_end_30 (by decide) ?_
    refine g_MVi (As := [.int 1]) (rest := []) ⟨hx, hb, hml, hown, hts⟩ (mt_X2_no l dC dI cA H.size y0 q1 q2 q3 q4 q5 rn 0 sf lf mn rf nf ct il gf 1) (cwV 1 hts gX2_end_X2_no rfl rfl rfl hdX2_no ⟨Nat.le_of_ble_eq_true rfl, Nat.le_of_ble_eq_true rfl⟩) hP hK hD hS hA [0, 1, 2, 3, 4, 5] (by decide) rfl (va_recv hK hP (ci := 2) (q0 := 0) rfl rfl) rfl hl.1 rfl (Nat.le_of_ble_eq_true rfl) dX2_end_31 (Nat.zero_le _) (Nat.zero_le _) (fun u9 => [(y0, .inr (2, [.int 1, .int (nI rn), .ref q1, .ref q2, .int mn, .ref q3, .ref q4, .int ct, .int il, .ref q5])), (q1, .inl (cA, (2, .inl sf))), (q2, .inl (cA, (60, .inl lf))), (q3, .inl (cA, (320, .inl rf))), (q4, .inl (cA, (320, .inl nf))), (q5, .inl (cA, (6, .inl gf)))]) (fun _ => rfl) (fun _ => rfl) (fun u H locs hw_1 hP hD hS => ?_)
    have hw_1 : True := hw_1
    have hP : va_P (dC, dI) vwCl [(y0, .inr (2, [.int 1, .int (nI rn), .ref q1, .ref q2, .int mn, .ref q3, .ref q4, .int ct, .int il, .ref q5])), (q1, .inl (cA, (2, .inl sf))), (q2, .inl (cA, (60, .inl lf))), (q3, .inl (cA, (320, .inl rf))), (q4, .inl (cA, (320, .inl nf))), (q5, .inl (cA, (6, .inl gf)))] H := hP
    have hD : va_D A [(y0, .inr (2, [.int 1, .int (nI rn), .ref q1, .ref q2, .int mn, .ref q3, .ref q4, .int ct, .int il, .ref q5])), (q1, .inl (cA, (2, .inl sf))), (q2, .inl (cA, (60, .inl lf))), (q3, .inl (cA, (320, .inl rf))), (q4, .inl (cA, (320, .inl nf))), (q5, .inl (cA, (6, .inl gf)))] := hD
    exact g_endMi hx hb hr hlocks hP hS dX2_end_34 () rfl rfl trivial
  · exact absurd (by decide) c9

abbrev mt_X2_crosses_1_rm : Room := { frames := 2, cells := 0, slots := 0, locals := 42 }
set_option maxHeartbeats 4000000 in
set_option maxRecDepth 100000 in
theorem mt_X2_crosses_1 (l : Launch) (dC : Nat → ClassId) (dI : Nat → Nat → Nat) (cA : ClassId) (sz : Nat) (y0 : Nat) (q1 : Nat) (q2 : Nat) (q3 : Nat) (q4 : Nat) (q5 : Nat) (rn : Nat) (tv : Int32) (sf : Nat → Int32) (lf : Nat → Int32) (mn : Int32) (rf : Nat → Int32) (nf : Nat → Int32) (ct : Int32) (il : Int32) (gf : Nat → Int32) (wd : Int32) (x : Int32) (y : Int32) (hbad : wd < 0 ∨ 1 < wd) : Met l yX2_crosses wsX2_crosses mt_X2_crosses_1_rm (va_Pc [.ref y0, .int wd, .int x, .int y] (gB (dC, dI) [(cA, .int)] [(y0, .inr (2, [.int tv, .int (nI rn), .ref q1, .ref q2, .int mn, .ref q3, .ref q4, .int ct, .int il, .ref q5])), (q1, .inl (cA, (2, .inl sf))), (q2, .inl (cA, (60, .inl lf))), (q3, .inl (cA, (320, .inl rf))), (q4, .inl (cA, (320, .inl nf))), (q5, .inl (cA, (6, .inl gf)))] sz)) (gM (dC, dI) (some (.int 0)) (fun u : Unit => True) (fun u : Unit => [(y0, .inr (2, [.int 1, .int (nI rn), .ref q1, .ref q2, .int mn, .ref q3, .ref q4, .int ct, .int il, .ref q5])), (q1, .inl (cA, (2, .inl sf))), (q2, .inl (cA, (60, .inl lf))), (q3, .inl (cA, (320, .inl rf))), (q4, .inl (cA, (320, .inl nf))), (q5, .inl (cA, (6, .inl gf)))]) (va_A [(y0, .inr (2, [.int tv, .int (nI rn), .ref q1, .ref q2, .int mn, .ref q3, .ref q4, .int ct, .int il, .ref q5])), (q1, .inl (cA, (2, .inl sf))), (q2, .inl (cA, (60, .inl lf))), (q3, .inl (cA, (320, .inl rf))), (q4, .inl (cA, (320, .inl nf))), (q5, .inl (cA, (6, .inl gf)))] sz)) 0 0 (va_A [(y0, .inr (2, [.int tv, .int (nI rn), .ref q1, .ref q2, .int mn, .ref q3, .ref q4, .int ct, .int il, .ref q5])), (q1, .inl (cA, (2, .inl sf))), (q2, .inl (cA, (60, .inl lf))), (q3, .inl (cA, (320, .inl rf))), (q4, .inl (cA, (320, .inl nf))), (q5, .inl (cA, (6, .inl gf)))] sz) := by
  refine g_ofM (cc := cX2_crosses) (maxL := 4) (ret := (some .int)) (by decide) rfl (Nat.le_of_ble_eq_true rfl) (fun p e s m below meth c ls hx hb hr hml hts hown hlocks hP hK hl hin A hA hD hS => ?_)
  have hl : lv_has ls 4 [(0, .ref y0), (1, .int wd), (2, .int x), (3, .int y)] := hl
  refine lv_aload_n hx hb dX2_crosses_0 rfl (lv_at hl 0 rfl) ?_
  refine lv_iconst (v := 0) hx hb dX2_crosses_1 (by decide) ?_
  refine va_put (D := (dC, dI)) (ci := 2) (v := .int 0) (ty := .int) (C := RX2) (T := TX2) (N := 10) hx hb hts (in_X2_crosses_2) tyX2 tyX2_ok nmX2 hown hK hP hD hS 0 rfl rfl 0 (by decide) (hts (.fieldLink RX2 29 "BraidWordsModel" "thrown" "I") (List.mem_of_getElem? (i := 1) rfl)) (fun _ h9 => h9) rfl (by decide +kernel) rfl rfl (Nat.le_of_ble_eq_true rfl) dX2_crosses_2 (fun H locs hP hD hS => ?_)
  have hP : va_P (dC, dI) vwCl [(y0, .inr (2, [.int 0, .int (nI rn), .ref q1, .ref q2, .int mn, .ref q3, .ref q4, .int ct, .int il, .ref q5])), (q1, .inl (cA, (2, .inl sf))), (q2, .inl (cA, (60, .inl lf))), (q3, .inl (cA, (320, .inl rf))), (q4, .inl (cA, (320, .inl nf))), (q5, .inl (cA, (6, .inl gf)))] H := hP
  have hD : va_D A [(y0, .inr (2, [.int 0, .int (nI rn), .ref q1, .ref q2, .int mn, .ref q3, .ref q4, .int ct, .int il, .ref q5])), (q1, .inl (cA, (2, .inl sf))), (q2, .inl (cA, (60, .inl lf))), (q3, .inl (cA, (320, .inl rf))), (q4, .inl (cA, (320, .inl nf))), (q5, .inl (cA, (6, .inl gf)))] := hD
  refine lv_iload_n hx hb dX2_crosses_5 rfl (lv_at hl 1 rfl) ?_
  refine g_RSi (As := [.int wd]) (rest := []) ⟨hx, hb, hml, hown, hts⟩ (mt_X2_isWord l dC dI cA H.size wd) (va_cwS 1 hts gX2_crosses_X2_isWord rfl rfl rfl hdX2_isWord ⟨Nat.le_of_ble_eq_true rfl, Nat.le_of_ble_eq_true rfl⟩) hP hK hD [] (by decide) rfl rfl hl.1 rfl (Nat.le_of_ble_eq_true rfl) dX2_crosses_6 (Nat.zero_le _) (Nat.zero_le _) ?_
  rw [show (inI wd 0 1) = 0 from inI_n hbad]
  refine lv_if_eq (tgt := 28) hx hb dX2_crosses_9 (by decide) (fun c9 => ?_) (fun c9 => ?_)
  · have c9 : 0 = 0 := g_eqT 0 0 (by omega) (by omega) c9
    refine lv_aload_n hx hb dX2_crosses_28 rfl (lv_at hl 0 rfl) ?_
    refine lv_iconst (v := 1) hx hb dX2_crosses_29 (by decide) ?_
    refine g_MVi (As := [.int 1]) (rest := []) ⟨hx, hb, hml, hown, hts⟩ (mt_X2_no l dC dI cA H.size y0 q1 q2 q3 q4 q5 rn 0 sf lf mn rf nf ct il gf 1) (cwV 1 hts gX2_crosses_X2_no rfl rfl rfl hdX2_no ⟨Nat.le_of_ble_eq_true rfl, Nat.le_of_ble_eq_true rfl⟩) hP hK hD hS hA [0, 1, 2, 3, 4, 5] (by decide) rfl (va_recv hK hP (ci := 2) (q0 := 0) rfl rfl) rfl hl.1 rfl (Nat.le_of_ble_eq_true rfl) dX2_crosses_30 (Nat.zero_le _) (Nat.zero_le _) (fun u9 => [(y0, .inr (2, [.int 1, .int (nI rn), .ref q1, .ref q2, .int mn, .ref q3, .ref q4, .int ct, .int il, .ref q5])), (q1, .inl (cA, (2, .inl sf))), (q2, .inl (cA, (60, .inl lf))), (q3, .inl (cA, (320, .inl rf))), (q4, .inl (cA, (320, .inl nf))), (q5, .inl (cA, (6, .inl gf)))]) (fun _ => rfl) (fun _ => rfl) (fun u H locs hw_1 hP hD hS => ?_)
    have hw_1 : True := hw_1
    have hP : va_P (dC, dI) vwCl [(y0, .inr (2, [.int 1, .int (nI rn), .ref q1, .ref q2, .int mn, .ref q3, .ref q4, .int ct, .int il, .ref q5])), (q1, .inl (cA, (2, .inl sf))), (q2, .inl (cA, (60, .inl lf))), (q3, .inl (cA, (320, .inl rf))), (q4, .inl (cA, (320, .inl nf))), (q5, .inl (cA, (6, .inl gf)))] H := hP
    have hD : va_D A [(y0, .inr (2, [.int 1, .int (nI rn), .ref q1, .ref q2, .int mn, .ref q3, .ref q4, .int ct, .int il, .ref q5])), (q1, .inl (cA, (2, .inl sf))), (q2, .inl (cA, (60, .inl lf))), (q3, .inl (cA, (320, .inl rf))), (q4, .inl (cA, (320, .inl nf))), (q5, .inl (cA, (6, .inl gf)))] := hD
    exact g_endMi hx hb hr hlocks hP hS dX2_crosses_33 () rfl rfl trivial
  · exact absurd (by decide) c9

abbrev mt_X2_handle_1_rm : Room := { frames := 2, cells := 0, slots := 0, locals := 42 }
set_option maxHeartbeats 4000000 in
set_option maxRecDepth 100000 in
theorem mt_X2_handle_1 (l : Launch) (dC : Nat → ClassId) (dI : Nat → Nat → Nat) (cA : ClassId) (sz : Nat) (y0 : Nat) (q1 : Nat) (q2 : Nat) (q3 : Nat) (q4 : Nat) (q5 : Nat) (rn : Nat) (tv : Int32) (sf : Nat → Int32) (lf : Nat → Int32) (mn : Int32) (rf : Nat → Int32) (nf : Nat → Int32) (ct : Int32) (il : Int32) (gf : Nat → Int32) (wd : Int32) (x : Int32) (hbad : wd < 0 ∨ 1 < wd) : Met l yX2_handle wsX2_handle mt_X2_handle_1_rm (va_Pc [.ref y0, .int wd, .int x] (gB (dC, dI) [(cA, .int)] [(y0, .inr (2, [.int tv, .int (nI rn), .ref q1, .ref q2, .int mn, .ref q3, .ref q4, .int ct, .int il, .ref q5])), (q1, .inl (cA, (2, .inl sf))), (q2, .inl (cA, (60, .inl lf))), (q3, .inl (cA, (320, .inl rf))), (q4, .inl (cA, (320, .inl nf))), (q5, .inl (cA, (6, .inl gf)))] sz)) (gM (dC, dI) (some (.int 0)) (fun u : Unit => True) (fun u : Unit => [(y0, .inr (2, [.int 1, .int (nI rn), .ref q1, .ref q2, .int mn, .ref q3, .ref q4, .int ct, .int il, .ref q5])), (q1, .inl (cA, (2, .inl sf))), (q2, .inl (cA, (60, .inl lf))), (q3, .inl (cA, (320, .inl rf))), (q4, .inl (cA, (320, .inl nf))), (q5, .inl (cA, (6, .inl gf)))]) (va_A [(y0, .inr (2, [.int tv, .int (nI rn), .ref q1, .ref q2, .int mn, .ref q3, .ref q4, .int ct, .int il, .ref q5])), (q1, .inl (cA, (2, .inl sf))), (q2, .inl (cA, (60, .inl lf))), (q3, .inl (cA, (320, .inl rf))), (q4, .inl (cA, (320, .inl nf))), (q5, .inl (cA, (6, .inl gf)))] sz)) 0 0 (va_A [(y0, .inr (2, [.int tv, .int (nI rn), .ref q1, .ref q2, .int mn, .ref q3, .ref q4, .int ct, .int il, .ref q5])), (q1, .inl (cA, (2, .inl sf))), (q2, .inl (cA, (60, .inl lf))), (q3, .inl (cA, (320, .inl rf))), (q4, .inl (cA, (320, .inl nf))), (q5, .inl (cA, (6, .inl gf)))] sz) := by
  refine g_ofM (cc := cX2_handle) (maxL := 3) (ret := (some .int)) (by decide) rfl (Nat.le_of_ble_eq_true rfl) (fun p e s m below meth c ls hx hb hr hml hts hown hlocks hP hK hl hin A hA hD hS => ?_)
  have hl : lv_has ls 3 [(0, .ref y0), (1, .int wd), (2, .int x)] := hl
  refine lv_aload_n hx hb dX2_handle_0 rfl (lv_at hl 0 rfl) ?_
  refine lv_iconst (v := 0) hx hb dX2_handle_1 (by decide) ?_
  refine va_put (D := (dC, dI)) (ci := 2) (v := .int 0) (ty := .int) (C := RX2) (T := TX2) (N := 10) hx hb hts (in_X2_handle_2) tyX2 tyX2_ok nmX2 hown hK hP hD hS 0 rfl rfl 0 (by decide) (hts (.fieldLink RX2 29 "BraidWordsModel" "thrown" "I") (List.mem_of_getElem? (i := 1) rfl)) (fun _ h9 => h9) rfl (by decide +kernel) rfl rfl (Nat.le_of_ble_eq_true rfl) dX2_handle_2 (fun H locs hP hD hS => ?_)
  have hP : va_P (dC, dI) vwCl [(y0, .inr (2, [.int 0, .int (nI rn), .ref q1, .ref q2, .int mn, .ref q3, .ref q4, .int ct, .int il, .ref q5])), (q1, .inl (cA, (2, .inl sf))), (q2, .inl (cA, (60, .inl lf))), (q3, .inl (cA, (320, .inl rf))), (q4, .inl (cA, (320, .inl nf))), (q5, .inl (cA, (6, .inl gf)))] H := hP
  have hD : va_D A [(y0, .inr (2, [.int 0, .int (nI rn), .ref q1, .ref q2, .int mn, .ref q3, .ref q4, .int ct, .int il, .ref q5])), (q1, .inl (cA, (2, .inl sf))), (q2, .inl (cA, (60, .inl lf))), (q3, .inl (cA, (320, .inl rf))), (q4, .inl (cA, (320, .inl nf))), (q5, .inl (cA, (6, .inl gf)))] := hD
  refine lv_iload_n hx hb dX2_handle_5 rfl (lv_at hl 1 rfl) ?_
  refine g_RSi (As := [.int wd]) (rest := []) ⟨hx, hb, hml, hown, hts⟩ (mt_X2_isWord l dC dI cA H.size wd) (va_cwS 1 hts gX2_handle_X2_isWord rfl rfl rfl hdX2_isWord ⟨Nat.le_of_ble_eq_true rfl, Nat.le_of_ble_eq_true rfl⟩) hP hK hD [] (by decide) rfl rfl hl.1 rfl (Nat.le_of_ble_eq_true rfl) dX2_handle_6 (Nat.zero_le _) (Nat.zero_le _) ?_
  rw [show (inI wd 0 1) = 0 from inI_n hbad]
  refine lv_if_eq (tgt := 30) hx hb dX2_handle_9 (by decide) (fun c9 => ?_) (fun c9 => ?_)
  · have c9 : 0 = 0 := g_eqT 0 0 (by omega) (by omega) c9
    refine lv_aload_n hx hb dX2_handle_30 rfl (lv_at hl 0 rfl) ?_
    refine lv_iconst (v := 1) hx hb dX2_handle_31 (by decide) ?_
    refine g_MVi (As := [.int 1]) (rest := []) ⟨hx, hb, hml, hown, hts⟩ (mt_X2_no l dC dI cA H.size y0 q1 q2 q3 q4 q5 rn 0 sf lf mn rf nf ct il gf 1) (cwV 1 hts gX2_handle_X2_no rfl rfl rfl hdX2_no ⟨Nat.le_of_ble_eq_true rfl, Nat.le_of_ble_eq_true rfl⟩) hP hK hD hS hA [0, 1, 2, 3, 4, 5] (by decide) rfl (va_recv hK hP (ci := 2) (q0 := 0) rfl rfl) rfl hl.1 rfl (Nat.le_of_ble_eq_true rfl) dX2_handle_32 (Nat.zero_le _) (Nat.zero_le _) (fun u9 => [(y0, .inr (2, [.int 1, .int (nI rn), .ref q1, .ref q2, .int mn, .ref q3, .ref q4, .int ct, .int il, .ref q5])), (q1, .inl (cA, (2, .inl sf))), (q2, .inl (cA, (60, .inl lf))), (q3, .inl (cA, (320, .inl rf))), (q4, .inl (cA, (320, .inl nf))), (q5, .inl (cA, (6, .inl gf)))]) (fun _ => rfl) (fun _ => rfl) (fun u H locs hw_1 hP hD hS => ?_)
    have hw_1 : True := hw_1
    have hP : va_P (dC, dI) vwCl [(y0, .inr (2, [.int 1, .int (nI rn), .ref q1, .ref q2, .int mn, .ref q3, .ref q4, .int ct, .int il, .ref q5])), (q1, .inl (cA, (2, .inl sf))), (q2, .inl (cA, (60, .inl lf))), (q3, .inl (cA, (320, .inl rf))), (q4, .inl (cA, (320, .inl nf))), (q5, .inl (cA, (6, .inl gf)))] H := hP
    have hD : va_D A [(y0, .inr (2, [.int 1, .int (nI rn), .ref q1, .ref q2, .int mn, .ref q3, .ref q4, .int ct, .int il, .ref q5])), (q1, .inl (cA, (2, .inl sf))), (q2, .inl (cA, (60, .inl lf))), (q3, .inl (cA, (320, .inl rf))), (q4, .inl (cA, (320, .inl nf))), (q5, .inl (cA, (6, .inl gf)))] := hD
    exact g_endMi hx hb hr hlocks hP hS dX2_handle_35 () rfl rfl trivial
  · exact absurd (by decide) c9

abbrev mt_X2_plain_1_rm : Room := { frames := 2, cells := 0, slots := 0, locals := 42 }
set_option maxHeartbeats 4000000 in
set_option maxRecDepth 100000 in
theorem mt_X2_plain_1 (l : Launch) (dC : Nat → ClassId) (dI : Nat → Nat → Nat) (cA : ClassId) (sz : Nat) (y0 : Nat) (q1 : Nat) (q2 : Nat) (q3 : Nat) (q4 : Nat) (q5 : Nat) (rn : Nat) (tv : Int32) (sf : Nat → Int32) (lf : Nat → Int32) (mn : Int32) (rf : Nat → Int32) (nf : Nat → Int32) (ct : Int32) (il : Int32) (gf : Nat → Int32) (wd : Int32) (x : Int32) (hbad : wd < 0 ∨ 1 < wd) : Met l yX2_plain wsX2_plain mt_X2_plain_1_rm (va_Pc [.ref y0, .int wd, .int x] (gB (dC, dI) [(cA, .int)] [(y0, .inr (2, [.int tv, .int (nI rn), .ref q1, .ref q2, .int mn, .ref q3, .ref q4, .int ct, .int il, .ref q5])), (q1, .inl (cA, (2, .inl sf))), (q2, .inl (cA, (60, .inl lf))), (q3, .inl (cA, (320, .inl rf))), (q4, .inl (cA, (320, .inl nf))), (q5, .inl (cA, (6, .inl gf)))] sz)) (gM (dC, dI) (some (.int 0)) (fun u : Unit => True) (fun u : Unit => [(y0, .inr (2, [.int 1, .int (nI rn), .ref q1, .ref q2, .int mn, .ref q3, .ref q4, .int ct, .int il, .ref q5])), (q1, .inl (cA, (2, .inl sf))), (q2, .inl (cA, (60, .inl lf))), (q3, .inl (cA, (320, .inl rf))), (q4, .inl (cA, (320, .inl nf))), (q5, .inl (cA, (6, .inl gf)))]) (va_A [(y0, .inr (2, [.int tv, .int (nI rn), .ref q1, .ref q2, .int mn, .ref q3, .ref q4, .int ct, .int il, .ref q5])), (q1, .inl (cA, (2, .inl sf))), (q2, .inl (cA, (60, .inl lf))), (q3, .inl (cA, (320, .inl rf))), (q4, .inl (cA, (320, .inl nf))), (q5, .inl (cA, (6, .inl gf)))] sz)) 0 0 (va_A [(y0, .inr (2, [.int tv, .int (nI rn), .ref q1, .ref q2, .int mn, .ref q3, .ref q4, .int ct, .int il, .ref q5])), (q1, .inl (cA, (2, .inl sf))), (q2, .inl (cA, (60, .inl lf))), (q3, .inl (cA, (320, .inl rf))), (q4, .inl (cA, (320, .inl nf))), (q5, .inl (cA, (6, .inl gf)))] sz) := by
  refine g_ofM (cc := cX2_plain) (maxL := 3) (ret := (some .int)) (by decide) rfl (Nat.le_of_ble_eq_true rfl) (fun p e s m below meth c ls hx hb hr hml hts hown hlocks hP hK hl hin A hA hD hS => ?_)
  have hl : lv_has ls 3 [(0, .ref y0), (1, .int wd), (2, .int x)] := hl
  refine lv_aload_n hx hb dX2_plain_0 rfl (lv_at hl 0 rfl) ?_
  refine lv_iconst (v := 0) hx hb dX2_plain_1 (by decide) ?_
  refine va_put (D := (dC, dI)) (ci := 2) (v := .int 0) (ty := .int) (C := RX2) (T := TX2) (N := 10) hx hb hts (in_X2_plain_2) tyX2 tyX2_ok nmX2 hown hK hP hD hS 0 rfl rfl 0 (by decide) (hts (.fieldLink RX2 29 "BraidWordsModel" "thrown" "I") (List.mem_of_getElem? (i := 1) rfl)) (fun _ h9 => h9) rfl (by decide +kernel) rfl rfl (Nat.le_of_ble_eq_true rfl) dX2_plain_2 (fun H locs hP hD hS => ?_)
  have hP : va_P (dC, dI) vwCl [(y0, .inr (2, [.int 0, .int (nI rn), .ref q1, .ref q2, .int mn, .ref q3, .ref q4, .int ct, .int il, .ref q5])), (q1, .inl (cA, (2, .inl sf))), (q2, .inl (cA, (60, .inl lf))), (q3, .inl (cA, (320, .inl rf))), (q4, .inl (cA, (320, .inl nf))), (q5, .inl (cA, (6, .inl gf)))] H := hP
  have hD : va_D A [(y0, .inr (2, [.int 0, .int (nI rn), .ref q1, .ref q2, .int mn, .ref q3, .ref q4, .int ct, .int il, .ref q5])), (q1, .inl (cA, (2, .inl sf))), (q2, .inl (cA, (60, .inl lf))), (q3, .inl (cA, (320, .inl rf))), (q4, .inl (cA, (320, .inl nf))), (q5, .inl (cA, (6, .inl gf)))] := hD
  refine lv_iload_n hx hb dX2_plain_5 rfl (lv_at hl 1 rfl) ?_
  refine g_RSi (As := [.int wd]) (rest := []) ⟨hx, hb, hml, hown, hts⟩ (mt_X2_isWord l dC dI cA H.size wd) (va_cwS 1 hts gX2_plain_X2_isWord rfl rfl rfl hdX2_isWord ⟨Nat.le_of_ble_eq_true rfl, Nat.le_of_ble_eq_true rfl⟩) hP hK hD [] (by decide) rfl rfl hl.1 rfl (Nat.le_of_ble_eq_true rfl) dX2_plain_6 (Nat.zero_le _) (Nat.zero_le _) ?_
  rw [show (inI wd 0 1) = 0 from inI_n hbad]
  refine lv_if_eq (tgt := 30) hx hb dX2_plain_9 (by decide) (fun c9 => ?_) (fun c9 => ?_)
  · have c9 : 0 = 0 := g_eqT 0 0 (by omega) (by omega) c9
    refine lv_aload_n hx hb dX2_plain_30 rfl (lv_at hl 0 rfl) ?_
    refine lv_iconst (v := 1) hx hb dX2_plain_31 (by decide) ?_
    refine g_MVi (As := [.int 1]) (rest := []) ⟨hx, hb, hml, hown, hts⟩ (mt_X2_no l dC dI cA H.size y0 q1 q2 q3 q4 q5 rn 0 sf lf mn rf nf ct il gf 1) (cwV 1 hts gX2_plain_X2_no rfl rfl rfl hdX2_no ⟨Nat.le_of_ble_eq_true rfl, Nat.le_of_ble_eq_true rfl⟩) hP hK hD hS hA [0, 1, 2, 3, 4, 5] (by decide) rfl (va_recv hK hP (ci := 2) (q0 := 0) rfl rfl) rfl hl.1 rfl (Nat.le_of_ble_eq_true rfl) dX2_plain_32 (Nat.zero_le _) (Nat.zero_le _) (fun u9 => [(y0, .inr (2, [.int 1, .int (nI rn), .ref q1, .ref q2, .int mn, .ref q3, .ref q4, .int ct, .int il, .ref q5])), (q1, .inl (cA, (2, .inl sf))), (q2, .inl (cA, (60, .inl lf))), (q3, .inl (cA, (320, .inl rf))), (q4, .inl (cA, (320, .inl nf))), (q5, .inl (cA, (6, .inl gf)))]) (fun _ => rfl) (fun _ => rfl) (fun u H locs hw_1 hP hD hS => ?_)
    have hw_1 : True := hw_1
    have hP : va_P (dC, dI) vwCl [(y0, .inr (2, [.int 1, .int (nI rn), .ref q1, .ref q2, .int mn, .ref q3, .ref q4, .int ct, .int il, .ref q5])), (q1, .inl (cA, (2, .inl sf))), (q2, .inl (cA, (60, .inl lf))), (q3, .inl (cA, (320, .inl rf))), (q4, .inl (cA, (320, .inl nf))), (q5, .inl (cA, (6, .inl gf)))] H := hP
    have hD : va_D A [(y0, .inr (2, [.int 1, .int (nI rn), .ref q1, .ref q2, .int mn, .ref q3, .ref q4, .int ct, .int il, .ref q5])), (q1, .inl (cA, (2, .inl sf))), (q2, .inl (cA, (60, .inl lf))), (q3, .inl (cA, (320, .inl rf))), (q4, .inl (cA, (320, .inl nf))), (q5, .inl (cA, (6, .inl gf)))] := hD
    exact g_endMi hx hb hr hlocks hP hS dX2_plain_35 () rfl rfl trivial
  · exact absurd (by decide) c9

abbrev mt_X2_advise_1_rm : Room := { frames := 2, cells := 0, slots := 0, locals := 42 }
set_option maxHeartbeats 4000000 in
set_option maxRecDepth 100000 in
theorem mt_X2_advise_1 (l : Launch) (dC : Nat → ClassId) (dI : Nat → Nat → Nat) (cA : ClassId) (sz : Nat) (y0 : Nat) (q1 : Nat) (q2 : Nat) (q3 : Nat) (q4 : Nat) (q5 : Nat) (rn : Nat) (tv : Int32) (sf : Nat → Int32) (lf : Nat → Int32) (mn : Int32) (rf : Nat → Int32) (nf : Nat → Int32) (ct : Int32) (il : Int32) (gf : Nat → Int32) (wd : Int32) (hbad : wd < 0 ∨ 1 < wd) : Met l yX2_advise wsX2_advise mt_X2_advise_1_rm (va_Pc [.ref y0, .int wd] (gB (dC, dI) [(cA, .int)] [(y0, .inr (2, [.int tv, .int (nI rn), .ref q1, .ref q2, .int mn, .ref q3, .ref q4, .int ct, .int il, .ref q5])), (q1, .inl (cA, (2, .inl sf))), (q2, .inl (cA, (60, .inl lf))), (q3, .inl (cA, (320, .inl rf))), (q4, .inl (cA, (320, .inl nf))), (q5, .inl (cA, (6, .inl gf)))] sz)) (gM (dC, dI) (some (.int 0)) (fun u : Unit => True) (fun u : Unit => [(y0, .inr (2, [.int 1, .int (nI rn), .ref q1, .ref q2, .int mn, .ref q3, .ref q4, .int ct, .int il, .ref q5])), (q1, .inl (cA, (2, .inl sf))), (q2, .inl (cA, (60, .inl lf))), (q3, .inl (cA, (320, .inl rf))), (q4, .inl (cA, (320, .inl nf))), (q5, .inl (cA, (6, .inl gf)))]) (va_A [(y0, .inr (2, [.int tv, .int (nI rn), .ref q1, .ref q2, .int mn, .ref q3, .ref q4, .int ct, .int il, .ref q5])), (q1, .inl (cA, (2, .inl sf))), (q2, .inl (cA, (60, .inl lf))), (q3, .inl (cA, (320, .inl rf))), (q4, .inl (cA, (320, .inl nf))), (q5, .inl (cA, (6, .inl gf)))] sz)) 0 0 (va_A [(y0, .inr (2, [.int tv, .int (nI rn), .ref q1, .ref q2, .int mn, .ref q3, .ref q4, .int ct, .int il, .ref q5])), (q1, .inl (cA, (2, .inl sf))), (q2, .inl (cA, (60, .inl lf))), (q3, .inl (cA, (320, .inl rf))), (q4, .inl (cA, (320, .inl nf))), (q5, .inl (cA, (6, .inl gf)))] sz) := by
  refine g_ofM (cc := cX2_advise) (maxL := 7) (ret := (some .int)) (by decide) rfl (Nat.le_of_ble_eq_true rfl) (fun p e s m below meth c ls hx hb hr hml hts hown hlocks hP hK hl hin A hA hD hS => ?_)
  have hl : lv_has ls 7 [(0, .ref y0), (1, .int wd)] := hl
  refine lv_aload_n hx hb dX2_advise_0 rfl (lv_at hl 0 rfl) ?_
  refine lv_iconst (v := 0) hx hb dX2_advise_1 (by decide) ?_
  refine va_put (D := (dC, dI)) (ci := 2) (v := .int 0) (ty := .int) (C := RX2) (T := TX2) (N := 10) hx hb hts (in_X2_advise_2) tyX2 tyX2_ok nmX2 hown hK hP hD hS 0 rfl rfl 0 (by decide) (hts (.fieldLink RX2 29 "BraidWordsModel" "thrown" "I") (List.mem_of_getElem? (i := 1) rfl)) (fun _ h9 => h9) rfl (by decide +kernel) rfl rfl (Nat.le_of_ble_eq_true rfl) dX2_advise_2 (fun H locs hP hD hS => ?_)
  have hP : va_P (dC, dI) vwCl [(y0, .inr (2, [.int 0, .int (nI rn), .ref q1, .ref q2, .int mn, .ref q3, .ref q4, .int ct, .int il, .ref q5])), (q1, .inl (cA, (2, .inl sf))), (q2, .inl (cA, (60, .inl lf))), (q3, .inl (cA, (320, .inl rf))), (q4, .inl (cA, (320, .inl nf))), (q5, .inl (cA, (6, .inl gf)))] H := hP
  have hD : va_D A [(y0, .inr (2, [.int 0, .int (nI rn), .ref q1, .ref q2, .int mn, .ref q3, .ref q4, .int ct, .int il, .ref q5])), (q1, .inl (cA, (2, .inl sf))), (q2, .inl (cA, (60, .inl lf))), (q3, .inl (cA, (320, .inl rf))), (q4, .inl (cA, (320, .inl nf))), (q5, .inl (cA, (6, .inl gf)))] := hD
  refine lv_iload_n hx hb dX2_advise_5 rfl (lv_at hl 1 rfl) ?_
  refine g_RSi (As := [.int wd]) (rest := []) ⟨hx, hb, hml, hown, hts⟩ (mt_X2_isWord l dC dI cA H.size wd) (va_cwS 1 hts gX2_advise_X2_isWord rfl rfl rfl hdX2_isWord ⟨Nat.le_of_ble_eq_true rfl, Nat.le_of_ble_eq_true rfl⟩) hP hK hD [] (by decide) rfl rfl hl.1 rfl (Nat.le_of_ble_eq_true rfl) dX2_advise_6 (Nat.zero_le _) (Nat.zero_le _) ?_
  rw [show (inI wd 0 1) = 0 from inI_n hbad]
  refine lv_if_ne (tgt := 18) hx hb dX2_advise_9 (by decide) (fun c9 => ?_) (fun c9 => ?_)
  · exact absurd (by decide) c9
  · have c9 : 0 = 0 := g_neF 0 0 (by omega) (by omega) c9
    refine lv_aload_n hx hb dX2_advise_12 rfl (lv_at hl 0 rfl) ?_
    refine lv_iconst (v := 1) hx hb dX2_advise_13 (by decide) ?_
    refine g_MVi (As := [.int 1]) (rest := []) ⟨hx, hb, hml, hown, hts⟩ (mt_X2_no l dC dI cA H.size y0 q1 q2 q3 q4 q5 rn 0 sf lf mn rf nf ct il gf 1) (cwV 1 hts gX2_advise_X2_no rfl rfl rfl hdX2_no ⟨Nat.le_of_ble_eq_true rfl, Nat.le_of_ble_eq_true rfl⟩) hP hK hD hS hA [0, 1, 2, 3, 4, 5] (by decide) rfl (va_recv hK hP (ci := 2) (q0 := 0) rfl rfl) rfl hl.1 rfl (Nat.le_of_ble_eq_true rfl) dX2_advise_14 (Nat.zero_le _) (Nat.zero_le _) (fun u9 => [(y0, .inr (2, [.int 1, .int (nI rn), .ref q1, .ref q2, .int mn, .ref q3, .ref q4, .int ct, .int il, .ref q5])), (q1, .inl (cA, (2, .inl sf))), (q2, .inl (cA, (60, .inl lf))), (q3, .inl (cA, (320, .inl rf))), (q4, .inl (cA, (320, .inl nf))), (q5, .inl (cA, (6, .inl gf)))]) (fun _ => rfl) (fun _ => rfl) (fun u H locs hw_1 hP hD hS => ?_)
    have hw_1 : True := hw_1
    have hP : va_P (dC, dI) vwCl [(y0, .inr (2, [.int 1, .int (nI rn), .ref q1, .ref q2, .int mn, .ref q3, .ref q4, .int ct, .int il, .ref q5])), (q1, .inl (cA, (2, .inl sf))), (q2, .inl (cA, (60, .inl lf))), (q3, .inl (cA, (320, .inl rf))), (q4, .inl (cA, (320, .inl nf))), (q5, .inl (cA, (6, .inl gf)))] H := hP
    have hD : va_D A [(y0, .inr (2, [.int 1, .int (nI rn), .ref q1, .ref q2, .int mn, .ref q3, .ref q4, .int ct, .int il, .ref q5])), (q1, .inl (cA, (2, .inl sf))), (q2, .inl (cA, (60, .inl lf))), (q3, .inl (cA, (320, .inl rf))), (q4, .inl (cA, (320, .inl nf))), (q5, .inl (cA, (6, .inl gf)))] := hD
    exact g_endMi hx hb hr hlocks hP hS dX2_advise_17 () rfl rfl trivial

abbrev mt_X2_count_1_rm : Room := { frames := 1, cells := 0, slots := 0, locals := 22 }
set_option maxHeartbeats 4000000 in
set_option maxRecDepth 100000 in
theorem mt_X2_count_1 (l : Launch) (dC : Nat → ClassId) (dI : Nat → Nat → Nat) (cA : ClassId) (sz : Nat) (y0 : Nat) (q1 : Nat) (q2 : Nat) (q3 : Nat) (q4 : Nat) (q5 : Nat) (rn : Nat) (tv : Int32) (sf : Nat → Int32) (lf : Nat → Int32) (mn : Int32) (rf : Nat → Int32) (nf : Nat → Int32) (ct : Int32) (il : Int32) (gf : Nat → Int32) (x : Int32) (hbad : x < 0 ∨ nI 5 ≤ x) : Met l yX2_count wsX2_count mt_X2_count_1_rm (va_Pc [.ref y0, .int x] (gB (dC, dI) [(cA, .int)] [(y0, .inr (2, [.int tv, .int (nI rn), .ref q1, .ref q2, .int mn, .ref q3, .ref q4, .int ct, .int il, .ref q5])), (q1, .inl (cA, (2, .inl sf))), (q2, .inl (cA, (60, .inl lf))), (q3, .inl (cA, (320, .inl rf))), (q4, .inl (cA, (320, .inl nf))), (q5, .inl (cA, (6, .inl gf)))] sz)) (gM (dC, dI) (some (.int 0)) (fun u : Unit => True) (fun u : Unit => [(y0, .inr (2, [.int 1, .int (nI rn), .ref q1, .ref q2, .int mn, .ref q3, .ref q4, .int ct, .int il, .ref q5])), (q1, .inl (cA, (2, .inl sf))), (q2, .inl (cA, (60, .inl lf))), (q3, .inl (cA, (320, .inl rf))), (q4, .inl (cA, (320, .inl nf))), (q5, .inl (cA, (6, .inl gf)))]) (va_A [(y0, .inr (2, [.int tv, .int (nI rn), .ref q1, .ref q2, .int mn, .ref q3, .ref q4, .int ct, .int il, .ref q5])), (q1, .inl (cA, (2, .inl sf))), (q2, .inl (cA, (60, .inl lf))), (q3, .inl (cA, (320, .inl rf))), (q4, .inl (cA, (320, .inl nf))), (q5, .inl (cA, (6, .inl gf)))] sz)) 0 0 (va_A [(y0, .inr (2, [.int tv, .int (nI rn), .ref q1, .ref q2, .int mn, .ref q3, .ref q4, .int ct, .int il, .ref q5])), (q1, .inl (cA, (2, .inl sf))), (q2, .inl (cA, (60, .inl lf))), (q3, .inl (cA, (320, .inl rf))), (q4, .inl (cA, (320, .inl nf))), (q5, .inl (cA, (6, .inl gf)))] sz) := by
  refine g_ofM (cc := cX2_count) (maxL := 2) (ret := (some .int)) (by decide) rfl (Nat.le_of_ble_eq_true rfl) (fun p e s m below meth c ls hx hb hr hml hts hown hlocks hP hK hl hin A hA hD hS => ?_)
  have hl : lv_has ls 2 [(0, .ref y0), (1, .int x)] := hl
  refine lv_aload_n hx hb dX2_count_0 rfl (lv_at hl 0 rfl) ?_
  refine lv_iconst (v := 0) hx hb dX2_count_1 (by decide) ?_
  refine va_put (D := (dC, dI)) (ci := 2) (v := .int 0) (ty := .int) (C := RX2) (T := TX2) (N := 10) hx hb hts (in_X2_count_2) tyX2 tyX2_ok nmX2 hown hK hP hD hS 0 rfl rfl 0 (by decide) (hts (.fieldLink RX2 29 "BraidWordsModel" "thrown" "I") (List.mem_of_getElem? (i := 1) rfl)) (fun _ h9 => h9) rfl (by decide +kernel) rfl rfl (Nat.le_of_ble_eq_true rfl) dX2_count_2 (fun H locs hP hD hS => ?_)
  have hP : va_P (dC, dI) vwCl [(y0, .inr (2, [.int 0, .int (nI rn), .ref q1, .ref q2, .int mn, .ref q3, .ref q4, .int ct, .int il, .ref q5])), (q1, .inl (cA, (2, .inl sf))), (q2, .inl (cA, (60, .inl lf))), (q3, .inl (cA, (320, .inl rf))), (q4, .inl (cA, (320, .inl nf))), (q5, .inl (cA, (6, .inl gf)))] H := hP
  have hD : va_D A [(y0, .inr (2, [.int 0, .int (nI rn), .ref q1, .ref q2, .int mn, .ref q3, .ref q4, .int ct, .int il, .ref q5])), (q1, .inl (cA, (2, .inl sf))), (q2, .inl (cA, (60, .inl lf))), (q3, .inl (cA, (320, .inl rf))), (q4, .inl (cA, (320, .inl nf))), (q5, .inl (cA, (6, .inl gf)))] := hD
  refine lv_iload_n hx hb dX2_count_5 rfl (lv_at hl 1 rfl) ?_
  refine lv_iconst (v := 0) hx hb dX2_count_6 (by decide) ?_
  refine lv_iconst (v := 4) hx hb dX2_count_7 (by decide) ?_
  refine g_RSi (As := [.int x, .int 0, .int 4]) (rest := []) ⟨hx, hb, hml, hown, hts⟩ (mt_X2_isIn l dC dI cA H.size x 0 4) (va_cwS 3 hts gX2_count_X2_isIn rfl rfl rfl hdX2_isIn ⟨Nat.le_of_ble_eq_true rfl, Nat.le_of_ble_eq_true rfl⟩) hP hK hD [] (by decide) rfl rfl hl.1 rfl (Nat.le_of_ble_eq_true rfl) dX2_count_8 (Nat.zero_le _) (Nat.zero_le _) ?_
  rw [show (inI x 0 4) = 0 from inI_c (b := 4) hbad (by decide)]
  refine lv_if_eq (tgt := 22) hx hb dX2_count_11 (by decide) (fun c11 => ?_) (fun c11 => ?_)
  · have c11 : 0 = 0 := g_eqT 0 0 (by omega) (by omega) c11
    refine lv_aload_n hx hb dX2_count_22 rfl (lv_at hl 0 rfl) ?_
    refine lv_iconst (v := 1) hx hb dX2_count_23 (by decide) ?_
    refine g_MVi (As := [.int 1]) (rest := []) ⟨hx, hb, hml, hown, hts⟩ (mt_X2_no l dC dI cA H.size y0 q1 q2 q3 q4 q5 rn 0 sf lf mn rf nf ct il gf 1) (cwV 1 hts gX2_count_X2_no rfl rfl rfl hdX2_no ⟨Nat.le_of_ble_eq_true rfl, Nat.le_of_ble_eq_true rfl⟩) hP hK hD hS hA [0, 1, 2, 3, 4, 5] (by decide) rfl (va_recv hK hP (ci := 2) (q0 := 0) rfl rfl) rfl hl.1 rfl (Nat.le_of_ble_eq_true rfl) dX2_count_24 (Nat.zero_le _) (Nat.zero_le _) (fun u9 => [(y0, .inr (2, [.int 1, .int (nI rn), .ref q1, .ref q2, .int mn, .ref q3, .ref q4, .int ct, .int il, .ref q5])), (q1, .inl (cA, (2, .inl sf))), (q2, .inl (cA, (60, .inl lf))), (q3, .inl (cA, (320, .inl rf))), (q4, .inl (cA, (320, .inl nf))), (q5, .inl (cA, (6, .inl gf)))]) (fun _ => rfl) (fun _ => rfl) (fun u H locs hw_1 hP hD hS => ?_)
    have hw_1 : True := hw_1
    have hP : va_P (dC, dI) vwCl [(y0, .inr (2, [.int 1, .int (nI rn), .ref q1, .ref q2, .int mn, .ref q3, .ref q4, .int ct, .int il, .ref q5])), (q1, .inl (cA, (2, .inl sf))), (q2, .inl (cA, (60, .inl lf))), (q3, .inl (cA, (320, .inl rf))), (q4, .inl (cA, (320, .inl nf))), (q5, .inl (cA, (6, .inl gf)))] H := hP
    have hD : va_D A [(y0, .inr (2, [.int 1, .int (nI rn), .ref q1, .ref q2, .int mn, .ref q3, .ref q4, .int ct, .int il, .ref q5])), (q1, .inl (cA, (2, .inl sf))), (q2, .inl (cA, (60, .inl lf))), (q3, .inl (cA, (320, .inl rf))), (q4, .inl (cA, (320, .inl nf))), (q5, .inl (cA, (6, .inl gf)))] := hD
    exact g_endMi hx hb hr hlocks hP hS dX2_count_27 () rfl rfl trivial
  · exact absurd (by decide) c11

abbrev mt_X2_twist_rm : Room := { frames := 2, cells := 0, slots := 0, locals := 43 }
set_option maxHeartbeats 4000000 in
set_option maxRecDepth 100000 in
theorem mt_X2_twist (l : Launch) (dC : Nat → ClassId) (dI : Nat → Nat → Nat) (cA : ClassId) (sz : Nat) (y0 : Nat) (q1 : Nat) (q2 : Nat) (q3 : Nat) (q4 : Nat) (q5 : Nat) (rn : Nat) (tv : Int32) (sf : Nat → Int32) (lf : Nat → Int32) (mn : Int32) (rf : Nat → Int32) (nf : Nat → Int32) (ct : Int32) (il : Int32) (gf : Nat → Int32) (Vw : Nat → List Int32) (w : Nat) (x : Int32) (hW : MW Vw sf lf) (hw : w < 2) (hrn : rn ∈ rnS) (h0 : ¬ x = 0) (h1 : ¬ x ≤ -nI rn) (h2 : x < nI rn) (hk : (Vw w).length < 30) : Met l yX2_twist wsX2_twist mt_X2_twist_rm (va_Pc [.ref y0, .int (nI w), .int x] (gB (dC, dI) [(cA, .int)] [(y0, .inr (2, [.int tv, .int (nI rn), .ref q1, .ref q2, .int mn, .ref q3, .ref q4, .int ct, .int il, .ref q5])), (q1, .inl (cA, (2, .inl sf))), (q2, .inl (cA, (60, .inl lf))), (q3, .inl (cA, (320, .inl rf))), (q4, .inl (cA, (320, .inl nf))), (q5, .inl (cA, (6, .inl gf)))] sz)) (gM (dC, dI) (some (.int (nI ((Vw w).length + 1)))) (fun u : (Nat → Int32) × (Nat → Int32) => MW (upW Vw w (Vw w ++ [x])) u.1 u.2) (fun u : (Nat → Int32) × (Nat → Int32) => [(y0, .inr (2, [.int 0, .int (nI rn), .ref q1, .ref q2, .int mn, .ref q3, .ref q4, .int ct, .int il, .ref q5])), (q1, .inl (cA, (2, .inl u.1))), (q2, .inl (cA, (60, .inl u.2))), (q3, .inl (cA, (320, .inl rf))), (q4, .inl (cA, (320, .inl nf))), (q5, .inl (cA, (6, .inl gf)))]) (va_A [(y0, .inr (2, [.int tv, .int (nI rn), .ref q1, .ref q2, .int mn, .ref q3, .ref q4, .int ct, .int il, .ref q5])), (q1, .inl (cA, (2, .inl sf))), (q2, .inl (cA, (60, .inl lf))), (q3, .inl (cA, (320, .inl rf))), (q4, .inl (cA, (320, .inl nf))), (q5, .inl (cA, (6, .inl gf)))] sz)) 0 0 (va_A [(y0, .inr (2, [.int tv, .int (nI rn), .ref q1, .ref q2, .int mn, .ref q3, .ref q4, .int ct, .int il, .ref q5])), (q1, .inl (cA, (2, .inl sf))), (q2, .inl (cA, (60, .inl lf))), (q3, .inl (cA, (320, .inl rf))), (q4, .inl (cA, (320, .inl nf))), (q5, .inl (cA, (6, .inl gf)))] sz) := by
  refine g_ofM (cc := cX2_twist) (maxL := 3) (ret := (some .int)) (by decide) rfl (Nat.le_of_ble_eq_true rfl) (fun p e s m below meth c ls hx hb hr hml hts hown hlocks hP hK hl hin A hA hD hS => ?_)
  have hl : lv_has ls 3 [(0, .ref y0), (1, .int (nI w)), (2, .int x)] := hl
  refine lv_aload_n hx hb dX2_twist_0 rfl (lv_at hl 0 rfl) ?_
  refine lv_iconst (v := 0) hx hb dX2_twist_1 (by decide) ?_
  refine va_put (D := (dC, dI)) (ci := 2) (v := .int 0) (ty := .int) (C := RX2) (T := TX2) (N := 10) hx hb hts (in_X2_twist_2) tyX2 tyX2_ok nmX2 hown hK hP hD hS 0 rfl rfl 0 (by decide) (hts (.fieldLink RX2 29 "BraidWordsModel" "thrown" "I") (List.mem_of_getElem? (i := 1) rfl)) (fun _ h9 => h9) rfl (by decide +kernel) rfl rfl (Nat.le_of_ble_eq_true rfl) dX2_twist_2 (fun H locs hP hD hS => ?_)
  have hP : va_P (dC, dI) vwCl [(y0, .inr (2, [.int 0, .int (nI rn), .ref q1, .ref q2, .int mn, .ref q3, .ref q4, .int ct, .int il, .ref q5])), (q1, .inl (cA, (2, .inl sf))), (q2, .inl (cA, (60, .inl lf))), (q3, .inl (cA, (320, .inl rf))), (q4, .inl (cA, (320, .inl nf))), (q5, .inl (cA, (6, .inl gf)))] H := hP
  have hD : va_D A [(y0, .inr (2, [.int 0, .int (nI rn), .ref q1, .ref q2, .int mn, .ref q3, .ref q4, .int ct, .int il, .ref q5])), (q1, .inl (cA, (2, .inl sf))), (q2, .inl (cA, (60, .inl lf))), (q3, .inl (cA, (320, .inl rf))), (q4, .inl (cA, (320, .inl nf))), (q5, .inl (cA, (6, .inl gf)))] := hD
  refine lv_iload_n hx hb dX2_twist_5 rfl (lv_at hl 1 rfl) ?_
  refine g_RSi (As := [.int (nI w)]) (rest := []) ⟨hx, hb, hml, hown, hts⟩ (mt_X2_isWord l dC dI cA H.size (nI w)) (va_cwS 1 hts gX2_twist_X2_isWord rfl rfl rfl hdX2_isWord ⟨Nat.le_of_ble_eq_true rfl, Nat.le_of_ble_eq_true rfl⟩) hP hK hD [] (by decide) rfl rfl hl.1 rfl (Nat.le_of_ble_eq_true rfl) dX2_twist_6 (Nat.zero_le _) (Nat.zero_le _) ?_
  rw [show (inI (nI w) 0 1) = 1 from inI_w hw]
  refine lv_if_ne (tgt := 18) hx hb dX2_twist_9 (by decide) (fun c9 => ?_) (fun c9 => ?_)
  · have c9 : ¬ 1 = 0 := g_neT 1 0 (by omega) (by omega) c9
    refine lv_aload_n hx hb dX2_twist_18 rfl (lv_at hl 0 rfl) ?_
    refine lv_iload_n hx hb dX2_twist_19 rfl (lv_at hl 2 rfl) ?_
    refine g_RVi (As := [.int x]) (rest := []) ⟨hx, hb, hml, hown, hts⟩ (mt_X2_isLetter l dC dI cA H.size y0 q1 q2 q3 q4 q5 rn 0 sf lf mn rf nf ct il gf x) (cwV 1 hts gX2_twist_X2_isLetter rfl rfl rfl hdX2_isLetter ⟨Nat.le_of_ble_eq_true rfl, Nat.le_of_ble_eq_true rfl⟩) hP hK hD [0, 1, 2, 3, 4, 5] (by decide) rfl (va_recv hK hP (ci := 2) (q0 := 0) rfl rfl) rfl hl.1 rfl (Nat.le_of_ble_eq_true rfl) dX2_twist_20 (Nat.zero_le _) (Nat.zero_le _) ?_
    rw [show (if x = 0 then 0 else inI x (1 - nI rn) (nI rn - 1)) = 1 from let_y hrn h0 h1 h2]
    refine lv_if_ne (tgt := 32) hx hb dX2_twist_23 (by decide) (fun c23 => ?_) (fun c23 => ?_)
    · have c23 : ¬ 1 = 0 := g_neT 1 0 (by omega) (by omega) c23
      refine lv_aload_n hx hb dX2_twist_32 rfl (lv_at hl 0 rfl) ?_
      refine va_get (D := (dC, dI)) (ci := 2) (v := .ref q1) (C := RX2) (T := TX2) (N := 10) hx hb hts (in_X2_twist_2) hown hK hP 0 rfl rfl 2 (by decide) (hts (.fieldLink RX2 13 "BraidWordsModel" "size" "[I") (List.mem_of_getElem? (i := 2) rfl)) (fun _ h9 => h9) rfl dX2_twist_33 ?_
      refine lv_iload_n hx hb dX2_twist_36 rfl (lv_at hl 1 rfl) ?_
      refine va_iald hx hb hK hP 1 0 rfl rfl (vp_in_nI (by omega) (by decide)) dX2_twist_37 ?_
      rw [show (nI w).toNatClampNeg = w from nI_clamp (by omega)]
      rw [(hW w (by omega)).1]
      refine lv_bipush (v := 30) hx hb dX2_twist_38 (by decide) ?_
      refine lv_icmp_ne (tgt := 49) hx hb dX2_twist_40 (by decide) (fun c40 => ?_) (fun c40 => ?_)
      · have c40 : ¬ ((Vw w).length) = 30 := g_neT ((Vw w).length) 30 (by omega) (by omega) c40
        refine lv_aload_n hx hb dX2_twist_49 rfl (lv_at hl 0 rfl) ?_
        refine lv_iload_n hx hb dX2_twist_50 rfl (lv_at hl 1 rfl) ?_
        refine lv_aload_n hx hb dX2_twist_51 rfl (lv_at hl 0 rfl) ?_
        refine va_get (D := (dC, dI)) (ci := 2) (v := .ref q1) (C := RX2) (T := TX2) (N := 10) hx hb hts (in_X2_twist_2) hown hK hP 0 rfl rfl 2 (by decide) (hts (.fieldLink RX2 13 "BraidWordsModel" "size" "[I") (List.mem_of_getElem? (i := 2) rfl)) (fun _ h9 => h9) rfl dX2_twist_52 ?_
        refine lv_iload_n hx hb dX2_twist_55 rfl (lv_at hl 1 rfl) ?_
        refine va_iald hx hb hK hP 1 0 rfl rfl (vp_in_nI (by omega) (by decide)) dX2_twist_56 ?_
        rw [show (nI w).toNatClampNeg = w from nI_clamp (by omega)]
        rw [(hW w (by omega)).1]
        refine lv_iload_n hx hb dX2_twist_57 rfl (lv_at hl 2 rfl) ?_
        refine g_MVv (As := [.int (nI w), .int (nI ((Vw w).length)), .int x]) (rest := []) ⟨hx, hb, hml, hown, hts⟩ (mt_X2_put l dC dI cA H.size y0 q1 q2 q3 q4 q5 rn 0 sf lf mn rf nf ct il gf w ((Vw w).length) x (by first | omega | (simp only [List.length_append, List.length_cons, List.length_nil, List.length_set, turnL_len]; omega)) (by first | omega | (simp only [List.length_append, List.length_cons, List.length_nil, List.length_set, turnL_len]; omega))) (cwV 3 hts gX2_twist_X2_put rfl rfl rfl hdX2_put ⟨Nat.le_of_ble_eq_true rfl, Nat.le_of_ble_eq_true rfl⟩) hP hK hD hS hA [0, 1, 2, 3, 4, 5] (by decide) rfl (va_recv hK hP (ci := 2) (q0 := 0) rfl rfl) rfl hl.1 rfl (Nat.le_of_ble_eq_true rfl) dX2_twist_58 (Nat.zero_le _) (Nat.zero_le _) (fun u9 => [(y0, .inr (2, [.int 0, .int (nI rn), .ref q1, .ref q2, .int mn, .ref q3, .ref q4, .int ct, .int il, .ref q5])), (q1, .inl (cA, (2, .inl sf))), (q2, .inl (cA, (60, .inl (upd lf (30 * w + ((Vw w).length)) x)))), (q3, .inl (cA, (320, .inl rf))), (q4, .inl (cA, (320, .inl nf))), (q5, .inl (cA, (6, .inl gf)))]) (fun _ => rfl) (fun _ => rfl) (fun u H locs hw_1 hP hD hS => ?_)
        have hw_1 : True := hw_1
        have hP : va_P (dC, dI) vwCl [(y0, .inr (2, [.int 0, .int (nI rn), .ref q1, .ref q2, .int mn, .ref q3, .ref q4, .int ct, .int il, .ref q5])), (q1, .inl (cA, (2, .inl sf))), (q2, .inl (cA, (60, .inl (upd lf (30 * w + ((Vw w).length)) x)))), (q3, .inl (cA, (320, .inl rf))), (q4, .inl (cA, (320, .inl nf))), (q5, .inl (cA, (6, .inl gf)))] H := hP
        have hD : va_D A [(y0, .inr (2, [.int 0, .int (nI rn), .ref q1, .ref q2, .int mn, .ref q3, .ref q4, .int ct, .int il, .ref q5])), (q1, .inl (cA, (2, .inl sf))), (q2, .inl (cA, (60, .inl (upd lf (30 * w + ((Vw w).length)) x)))), (q3, .inl (cA, (320, .inl rf))), (q4, .inl (cA, (320, .inl nf))), (q5, .inl (cA, (6, .inl gf)))] := hD
        refine lv_aload_n hx hb dX2_twist_61 rfl (lv_at hl 0 rfl) ?_
        refine va_get (D := (dC, dI)) (ci := 2) (v := .ref q1) (C := RX2) (T := TX2) (N := 10) hx hb hts (in_X2_twist_2) hown hK hP 0 rfl rfl 2 (by decide) (hts (.fieldLink RX2 13 "BraidWordsModel" "size" "[I") (List.mem_of_getElem? (i := 2) rfl)) (fun _ h9 => h9) rfl dX2_twist_62 ?_
        refine lv_iload_n hx hb dX2_twist_65 rfl (lv_at hl 1 rfl) ?_
        refine lv_dup2_11 hx hb dX2_twist_66 rfl rfl ?_
        refine va_iald hx hb hK hP 1 0 rfl rfl (vp_in_nI (by omega) (by decide)) dX2_twist_67 ?_
        rw [show (nI w).toNatClampNeg = w from nI_clamp (by omega)]
        rw [(hW w (by omega)).1]
        refine lv_iconst (v := 1) hx hb dX2_twist_68 (by decide) ?_
        refine lv_iadd hx hb dX2_twist_69 ?_
        rw [show (nI ((Vw w).length)) + 1 = nI ((Vw w).length + 1) from nI_add ((Vw w).length) 1]
        refine va_iast hx hb hK hP hD hS 1 0 rfl rfl (vp_in_nI (by omega) (by decide)) dX2_twist_70 (fun H locs hP hD hS => ?_)
        rw [show (nI w).toNatClampNeg = w from nI_clamp (by omega)] at hP hD
        have hP : va_P (dC, dI) vwCl [(y0, .inr (2, [.int 0, .int (nI rn), .ref q1, .ref q2, .int mn, .ref q3, .ref q4, .int ct, .int il, .ref q5])), (q1, .inl (cA, (2, .inl (upd sf w (nI ((Vw w).length + 1)))))), (q2, .inl (cA, (60, .inl (upd lf (30 * w + ((Vw w).length)) x)))), (q3, .inl (cA, (320, .inl rf))), (q4, .inl (cA, (320, .inl nf))), (q5, .inl (cA, (6, .inl gf)))] H := hP
        have hD : va_D A [(y0, .inr (2, [.int 0, .int (nI rn), .ref q1, .ref q2, .int mn, .ref q3, .ref q4, .int ct, .int il, .ref q5])), (q1, .inl (cA, (2, .inl (upd sf w (nI ((Vw w).length + 1)))))), (q2, .inl (cA, (60, .inl (upd lf (30 * w + ((Vw w).length)) x)))), (q3, .inl (cA, (320, .inl rf))), (q4, .inl (cA, (320, .inl nf))), (q5, .inl (cA, (6, .inl gf)))] := hD
        refine lv_aload_n hx hb dX2_twist_71 rfl (lv_at hl 0 rfl) ?_
        refine va_get (D := (dC, dI)) (ci := 2) (v := .ref q1) (C := RX2) (T := TX2) (N := 10) hx hb hts (in_X2_twist_2) hown hK hP 0 rfl rfl 2 (by decide) (hts (.fieldLink RX2 13 "BraidWordsModel" "size" "[I") (List.mem_of_getElem? (i := 2) rfl)) (fun _ h9 => h9) rfl dX2_twist_72 ?_
        refine lv_iload_n hx hb dX2_twist_75 rfl (lv_at hl 1 rfl) ?_
        refine va_iald hx hb hK hP 1 0 rfl rfl (vp_in_nI (by omega) (by decide)) dX2_twist_76 ?_
        rw [show (nI w).toNatClampNeg = w from nI_clamp (by omega)]
        rw [pk_us]
        exact g_endMi hx hb hr hlocks hP hS dX2_twist_77 (upd sf w (nI ((Vw w).length + 1)), upd lf (30 * w + ((Vw w).length)) x) rfl rfl (MW_twist hW hw hk)
      · exact absurd (g_neF ((Vw w).length) 30 (by omega) (by omega) c40) (by omega)
    · exact absurd c23 (by decide)
  · exact absurd c9 (by decide)

abbrev mt_X2_twist_2_rm : Room := { frames := 2, cells := 0, slots := 0, locals := 43 }
set_option maxHeartbeats 4000000 in
set_option maxRecDepth 100000 in
theorem mt_X2_twist_2 (l : Launch) (dC : Nat → ClassId) (dI : Nat → Nat → Nat) (cA : ClassId) (sz : Nat) (y0 : Nat) (q1 : Nat) (q2 : Nat) (q3 : Nat) (q4 : Nat) (q5 : Nat) (rn : Nat) (tv : Int32) (sf : Nat → Int32) (lf : Nat → Int32) (mn : Int32) (rf : Nat → Int32) (nf : Nat → Int32) (ct : Int32) (il : Int32) (gf : Nat → Int32) (Vw : Nat → List Int32) (w : Nat) (x : Int32) (hW : MW Vw sf lf) (hw : w < 2) (hrn : rn ∈ rnS) (hbad : x = 0 ∨ x ≤ -nI rn ∨ nI rn ≤ x) : Met l yX2_twist wsX2_twist mt_X2_twist_2_rm (va_Pc [.ref y0, .int (nI w), .int x] (gB (dC, dI) [(cA, .int)] [(y0, .inr (2, [.int tv, .int (nI rn), .ref q1, .ref q2, .int mn, .ref q3, .ref q4, .int ct, .int il, .ref q5])), (q1, .inl (cA, (2, .inl sf))), (q2, .inl (cA, (60, .inl lf))), (q3, .inl (cA, (320, .inl rf))), (q4, .inl (cA, (320, .inl nf))), (q5, .inl (cA, (6, .inl gf)))] sz)) (gM (dC, dI) (some (.int 0)) (fun u : Unit => True) (fun u : Unit => [(y0, .inr (2, [.int 2, .int (nI rn), .ref q1, .ref q2, .int mn, .ref q3, .ref q4, .int ct, .int il, .ref q5])), (q1, .inl (cA, (2, .inl sf))), (q2, .inl (cA, (60, .inl lf))), (q3, .inl (cA, (320, .inl rf))), (q4, .inl (cA, (320, .inl nf))), (q5, .inl (cA, (6, .inl gf)))]) (va_A [(y0, .inr (2, [.int tv, .int (nI rn), .ref q1, .ref q2, .int mn, .ref q3, .ref q4, .int ct, .int il, .ref q5])), (q1, .inl (cA, (2, .inl sf))), (q2, .inl (cA, (60, .inl lf))), (q3, .inl (cA, (320, .inl rf))), (q4, .inl (cA, (320, .inl nf))), (q5, .inl (cA, (6, .inl gf)))] sz)) 0 0 (va_A [(y0, .inr (2, [.int tv, .int (nI rn), .ref q1, .ref q2, .int mn, .ref q3, .ref q4, .int ct, .int il, .ref q5])), (q1, .inl (cA, (2, .inl sf))), (q2, .inl (cA, (60, .inl lf))), (q3, .inl (cA, (320, .inl rf))), (q4, .inl (cA, (320, .inl nf))), (q5, .inl (cA, (6, .inl gf)))] sz) := by
  refine g_ofM (cc := cX2_twist) (maxL := 3) (ret := (some .int)) (by decide) rfl (Nat.le_of_ble_eq_true rfl) (fun p e s m below meth c ls hx hb hr hml hts hown hlocks hP hK hl hin A hA hD hS => ?_)
  have hl : lv_has ls 3 [(0, .ref y0), (1, .int (nI w)), (2, .int x)] := hl
  refine lv_aload_n hx hb dX2_twist_0 rfl (lv_at hl 0 rfl) ?_
  refine lv_iconst (v := 0) hx hb dX2_twist_1 (by decide) ?_
  refine va_put (D := (dC, dI)) (ci := 2) (v := .int 0) (ty := .int) (C := RX2) (T := TX2) (N := 10) hx hb hts (in_X2_twist_2) tyX2 tyX2_ok nmX2 hown hK hP hD hS 0 rfl rfl 0 (by decide) (hts (.fieldLink RX2 29 "BraidWordsModel" "thrown" "I") (List.mem_of_getElem? (i := 1) rfl)) (fun _ h9 => h9) rfl (by decide +kernel) rfl rfl (Nat.le_of_ble_eq_true rfl) dX2_twist_2 (fun H locs hP hD hS => ?_)
  have hP : va_P (dC, dI) vwCl [(y0, .inr (2, [.int 0, .int (nI rn), .ref q1, .ref q2, .int mn, .ref q3, .ref q4, .int ct, .int il, .ref q5])), (q1, .inl (cA, (2, .inl sf))), (q2, .inl (cA, (60, .inl lf))), (q3, .inl (cA, (320, .inl rf))), (q4, .inl (cA, (320, .inl nf))), (q5, .inl (cA, (6, .inl gf)))] H := hP
  have hD : va_D A [(y0, .inr (2, [.int 0, .int (nI rn), .ref q1, .ref q2, .int mn, .ref q3, .ref q4, .int ct, .int il, .ref q5])), (q1, .inl (cA, (2, .inl sf))), (q2, .inl (cA, (60, .inl lf))), (q3, .inl (cA, (320, .inl rf))), (q4, .inl (cA, (320, .inl nf))), (q5, .inl (cA, (6, .inl gf)))] := hD
  refine lv_iload_n hx hb dX2_twist_5 rfl (lv_at hl 1 rfl) ?_
  refine g_RSi (As := [.int (nI w)]) (rest := []) ⟨hx, hb, hml, hown, hts⟩ (mt_X2_isWord l dC dI cA H.size (nI w)) (va_cwS 1 hts gX2_twist_X2_isWord rfl rfl rfl hdX2_isWord ⟨Nat.le_of_ble_eq_true rfl, Nat.le_of_ble_eq_true rfl⟩) hP hK hD [] (by decide) rfl rfl hl.1 rfl (Nat.le_of_ble_eq_true rfl) dX2_twist_6 (Nat.zero_le _) (Nat.zero_le _) ?_
  rw [show (inI (nI w) 0 1) = 1 from inI_w hw]
  refine lv_if_ne (tgt := 18) hx hb dX2_twist_9 (by decide) (fun c9 => ?_) (fun c9 => ?_)
  · have c9 : ¬ 1 = 0 := g_neT 1 0 (by omega) (by omega) c9
    refine lv_aload_n hx hb dX2_twist_18 rfl (lv_at hl 0 rfl) ?_
    refine lv_iload_n hx hb dX2_twist_19 rfl (lv_at hl 2 rfl) ?_
    refine g_RVi (As := [.int x]) (rest := []) ⟨hx, hb, hml, hown, hts⟩ (mt_X2_isLetter l dC dI cA H.size y0 q1 q2 q3 q4 q5 rn 0 sf lf mn rf nf ct il gf x) (cwV 1 hts gX2_twist_X2_isLetter rfl rfl rfl hdX2_isLetter ⟨Nat.le_of_ble_eq_true rfl, Nat.le_of_ble_eq_true rfl⟩) hP hK hD [0, 1, 2, 3, 4, 5] (by decide) rfl (va_recv hK hP (ci := 2) (q0 := 0) rfl rfl) rfl hl.1 rfl (Nat.le_of_ble_eq_true rfl) dX2_twist_20 (Nat.zero_le _) (Nat.zero_le _) ?_
    rw [show (if x = 0 then 0 else inI x (1 - nI rn) (nI rn - 1)) = 0 from let_n hrn hbad]
    refine lv_if_ne (tgt := 32) hx hb dX2_twist_23 (by decide) (fun c23 => ?_) (fun c23 => ?_)
    · exact absurd (by decide) c23
    · have c23 : 0 = 0 := g_neF 0 0 (by omega) (by omega) c23
      refine lv_aload_n hx hb dX2_twist_26 rfl (lv_at hl 0 rfl) ?_
      refine lv_iconst (v := 2) hx hb dX2_twist_27 (by decide) ?_
      refine g_MVi (As := [.int 2]) (rest := []) ⟨hx, hb, hml, hown, hts⟩ (mt_X2_no l dC dI cA H.size y0 q1 q2 q3 q4 q5 rn 0 sf lf mn rf nf ct il gf 2) (cwV 1 hts gX2_twist_X2_no rfl rfl rfl hdX2_no ⟨Nat.le_of_ble_eq_true rfl, Nat.le_of_ble_eq_true rfl⟩) hP hK hD hS hA [0, 1, 2, 3, 4, 5] (by decide) rfl (va_recv hK hP (ci := 2) (q0 := 0) rfl rfl) rfl hl.1 rfl (Nat.le_of_ble_eq_true rfl) dX2_twist_28 (Nat.zero_le _) (Nat.zero_le _) (fun u9 => [(y0, .inr (2, [.int 2, .int (nI rn), .ref q1, .ref q2, .int mn, .ref q3, .ref q4, .int ct, .int il, .ref q5])), (q1, .inl (cA, (2, .inl sf))), (q2, .inl (cA, (60, .inl lf))), (q3, .inl (cA, (320, .inl rf))), (q4, .inl (cA, (320, .inl nf))), (q5, .inl (cA, (6, .inl gf)))]) (fun _ => rfl) (fun _ => rfl) (fun u H locs hw_1 hP hD hS => ?_)
      have hw_1 : True := hw_1
      have hP : va_P (dC, dI) vwCl [(y0, .inr (2, [.int 2, .int (nI rn), .ref q1, .ref q2, .int mn, .ref q3, .ref q4, .int ct, .int il, .ref q5])), (q1, .inl (cA, (2, .inl sf))), (q2, .inl (cA, (60, .inl lf))), (q3, .inl (cA, (320, .inl rf))), (q4, .inl (cA, (320, .inl nf))), (q5, .inl (cA, (6, .inl gf)))] H := hP
      have hD : va_D A [(y0, .inr (2, [.int 2, .int (nI rn), .ref q1, .ref q2, .int mn, .ref q3, .ref q4, .int ct, .int il, .ref q5])), (q1, .inl (cA, (2, .inl sf))), (q2, .inl (cA, (60, .inl lf))), (q3, .inl (cA, (320, .inl rf))), (q4, .inl (cA, (320, .inl nf))), (q5, .inl (cA, (6, .inl gf)))] := hD
      exact g_endMi hx hb hr hlocks hP hS dX2_twist_31 () rfl rfl trivial
  · exact absurd c9 (by decide)

abbrev mt_X2_twist_3_rm : Room := { frames := 2, cells := 0, slots := 0, locals := 43 }
set_option maxHeartbeats 4000000 in
set_option maxRecDepth 100000 in
theorem mt_X2_twist_3 (l : Launch) (dC : Nat → ClassId) (dI : Nat → Nat → Nat) (cA : ClassId) (sz : Nat) (y0 : Nat) (q1 : Nat) (q2 : Nat) (q3 : Nat) (q4 : Nat) (q5 : Nat) (rn : Nat) (tv : Int32) (sf : Nat → Int32) (lf : Nat → Int32) (mn : Int32) (rf : Nat → Int32) (nf : Nat → Int32) (ct : Int32) (il : Int32) (gf : Nat → Int32) (Vw : Nat → List Int32) (w : Nat) (x : Int32) (hW : MW Vw sf lf) (hw : w < 2) (hrn : rn ∈ rnS) (h0 : ¬ x = 0) (h1 : ¬ x ≤ -nI rn) (h2 : x < nI rn) (hk : 30 ≤ (Vw w).length) : Met l yX2_twist wsX2_twist mt_X2_twist_3_rm (va_Pc [.ref y0, .int (nI w), .int x] (gB (dC, dI) [(cA, .int)] [(y0, .inr (2, [.int tv, .int (nI rn), .ref q1, .ref q2, .int mn, .ref q3, .ref q4, .int ct, .int il, .ref q5])), (q1, .inl (cA, (2, .inl sf))), (q2, .inl (cA, (60, .inl lf))), (q3, .inl (cA, (320, .inl rf))), (q4, .inl (cA, (320, .inl nf))), (q5, .inl (cA, (6, .inl gf)))] sz)) (gM (dC, dI) (some (.int 0)) (fun u : Unit => True) (fun u : Unit => [(y0, .inr (2, [.int 3, .int (nI rn), .ref q1, .ref q2, .int mn, .ref q3, .ref q4, .int ct, .int il, .ref q5])), (q1, .inl (cA, (2, .inl sf))), (q2, .inl (cA, (60, .inl lf))), (q3, .inl (cA, (320, .inl rf))), (q4, .inl (cA, (320, .inl nf))), (q5, .inl (cA, (6, .inl gf)))]) (va_A [(y0, .inr (2, [.int tv, .int (nI rn), .ref q1, .ref q2, .int mn, .ref q3, .ref q4, .int ct, .int il, .ref q5])), (q1, .inl (cA, (2, .inl sf))), (q2, .inl (cA, (60, .inl lf))), (q3, .inl (cA, (320, .inl rf))), (q4, .inl (cA, (320, .inl nf))), (q5, .inl (cA, (6, .inl gf)))] sz)) 0 0 (va_A [(y0, .inr (2, [.int tv, .int (nI rn), .ref q1, .ref q2, .int mn, .ref q3, .ref q4, .int ct, .int il, .ref q5])), (q1, .inl (cA, (2, .inl sf))), (q2, .inl (cA, (60, .inl lf))), (q3, .inl (cA, (320, .inl rf))), (q4, .inl (cA, (320, .inl nf))), (q5, .inl (cA, (6, .inl gf)))] sz) := by
  refine g_ofM (cc := cX2_twist) (maxL := 3) (ret := (some .int)) (by decide) rfl (Nat.le_of_ble_eq_true rfl) (fun p e s m below meth c ls hx hb hr hml hts hown hlocks hP hK hl hin A hA hD hS => ?_)
  have hl : lv_has ls 3 [(0, .ref y0), (1, .int (nI w)), (2, .int x)] := hl
  have hWl := (hW w hw).2.1
  refine lv_aload_n hx hb dX2_twist_0 rfl (lv_at hl 0 rfl) ?_
  refine lv_iconst (v := 0) hx hb dX2_twist_1 (by decide) ?_
  refine va_put (D := (dC, dI)) (ci := 2) (v := .int 0) (ty := .int) (C := RX2) (T := TX2) (N := 10) hx hb hts (in_X2_twist_2) tyX2 tyX2_ok nmX2 hown hK hP hD hS 0 rfl rfl 0 (by decide) (hts (.fieldLink RX2 29 "BraidWordsModel" "thrown" "I") (List.mem_of_getElem? (i := 1) rfl)) (fun _ h9 => h9) rfl (by decide +kernel) rfl rfl (Nat.le_of_ble_eq_true rfl) dX2_twist_2 (fun H locs hP hD hS => ?_)
  have hP : va_P (dC, dI) vwCl [(y0, .inr (2, [.int 0, .int (nI rn), .ref q1, .ref q2, .int mn, .ref q3, .ref q4, .int ct, .int il, .ref q5])), (q1, .inl (cA, (2, .inl sf))), (q2, .inl (cA, (60, .inl lf))), (q3, .inl (cA, (320, .inl rf))), (q4, .inl (cA, (320, .inl nf))), (q5, .inl (cA, (6, .inl gf)))] H := hP
  have hD : va_D A [(y0, .inr (2, [.int 0, .int (nI rn), .ref q1, .ref q2, .int mn, .ref q3, .ref q4, .int ct, .int il, .ref q5])), (q1, .inl (cA, (2, .inl sf))), (q2, .inl (cA, (60, .inl lf))), (q3, .inl (cA, (320, .inl rf))), (q4, .inl (cA, (320, .inl nf))), (q5, .inl (cA, (6, .inl gf)))] := hD
  refine lv_iload_n hx hb dX2_twist_5 rfl (lv_at hl 1 rfl) ?_
  refine g_RSi (As := [.int (nI w)]) (rest := []) ⟨hx, hb, hml, hown, hts⟩ (mt_X2_isWord l dC dI cA H.size (nI w)) (va_cwS 1 hts gX2_twist_X2_isWord rfl rfl rfl hdX2_isWord ⟨Nat.le_of_ble_eq_true rfl, Nat.le_of_ble_eq_true rfl⟩) hP hK hD [] (by decide) rfl rfl hl.1 rfl (Nat.le_of_ble_eq_true rfl) dX2_twist_6 (Nat.zero_le _) (Nat.zero_le _) ?_
  rw [show (inI (nI w) 0 1) = 1 from inI_w hw]
  refine lv_if_ne (tgt := 18) hx hb dX2_twist_9 (by decide) (fun c9 => ?_) (fun c9 => ?_)
  · have c9 : ¬ 1 = 0 := g_neT 1 0 (by omega) (by omega) c9
    refine lv_aload_n hx hb dX2_twist_18 rfl (lv_at hl 0 rfl) ?_
    refine lv_iload_n hx hb dX2_twist_19 rfl (lv_at hl 2 rfl) ?_
    refine g_RVi (As := [.int x]) (rest := []) ⟨hx, hb, hml, hown, hts⟩ (mt_X2_isLetter l dC dI cA H.size y0 q1 q2 q3 q4 q5 rn 0 sf lf mn rf nf ct il gf x) (cwV 1 hts gX2_twist_X2_isLetter rfl rfl rfl hdX2_isLetter ⟨Nat.le_of_ble_eq_true rfl, Nat.le_of_ble_eq_true rfl⟩) hP hK hD [0, 1, 2, 3, 4, 5] (by decide) rfl (va_recv hK hP (ci := 2) (q0 := 0) rfl rfl) rfl hl.1 rfl (Nat.le_of_ble_eq_true rfl) dX2_twist_20 (Nat.zero_le _) (Nat.zero_le _) ?_
    rw [show (if x = 0 then 0 else inI x (1 - nI rn) (nI rn - 1)) = 1 from let_y hrn h0 h1 h2]
    refine lv_if_ne (tgt := 32) hx hb dX2_twist_23 (by decide) (fun c23 => ?_) (fun c23 => ?_)
    · have c23 : ¬ 1 = 0 := g_neT 1 0 (by omega) (by omega) c23
      refine lv_aload_n hx hb dX2_twist_32 rfl (lv_at hl 0 rfl) ?_
      refine va_get (D := (dC, dI)) (ci := 2) (v := .ref q1) (C := RX2) (T := TX2) (N := 10) hx hb hts (in_X2_twist_2) hown hK hP 0 rfl rfl 2 (by decide) (hts (.fieldLink RX2 13 "BraidWordsModel" "size" "[I") (List.mem_of_getElem? (i := 2) rfl)) (fun _ h9 => h9) rfl dX2_twist_33 ?_
      refine lv_iload_n hx hb dX2_twist_36 rfl (lv_at hl 1 rfl) ?_
      refine va_iald hx hb hK hP 1 0 rfl rfl (vp_in_nI (by omega) (by decide)) dX2_twist_37 ?_
      rw [show (nI w).toNatClampNeg = w from nI_clamp (by omega)]
      rw [(hW w (by omega)).1]
      refine lv_bipush (v := 30) hx hb dX2_twist_38 (by decide) ?_
      refine lv_icmp_ne (tgt := 49) hx hb dX2_twist_40 (by decide) (fun c40 => ?_) (fun c40 => ?_)
      · exact absurd (g_neT ((Vw w).length) 30 (by omega) (by omega) c40) (by omega)
      · have c40 : ((Vw w).length) = 30 := g_neF ((Vw w).length) 30 (by omega) (by omega) c40
        refine lv_aload_n hx hb dX2_twist_43 rfl (lv_at hl 0 rfl) ?_
        refine lv_iconst (v := 3) hx hb dX2_twist_44 (by decide) ?_
        refine g_MVi (As := [.int 3]) (rest := []) ⟨hx, hb, hml, hown, hts⟩ (mt_X2_no l dC dI cA H.size y0 q1 q2 q3 q4 q5 rn 0 sf lf mn rf nf ct il gf 3) (cwV 1 hts gX2_twist_X2_no rfl rfl rfl hdX2_no ⟨Nat.le_of_ble_eq_true rfl, Nat.le_of_ble_eq_true rfl⟩) hP hK hD hS hA [0, 1, 2, 3, 4, 5] (by decide) rfl (va_recv hK hP (ci := 2) (q0 := 0) rfl rfl) rfl hl.1 rfl (Nat.le_of_ble_eq_true rfl) dX2_twist_45 (Nat.zero_le _) (Nat.zero_le _) (fun u9 => [(y0, .inr (2, [.int 3, .int (nI rn), .ref q1, .ref q2, .int mn, .ref q3, .ref q4, .int ct, .int il, .ref q5])), (q1, .inl (cA, (2, .inl sf))), (q2, .inl (cA, (60, .inl lf))), (q3, .inl (cA, (320, .inl rf))), (q4, .inl (cA, (320, .inl nf))), (q5, .inl (cA, (6, .inl gf)))]) (fun _ => rfl) (fun _ => rfl) (fun u H locs hw_1 hP hD hS => ?_)
        have hw_1 : True := hw_1
        have hP : va_P (dC, dI) vwCl [(y0, .inr (2, [.int 3, .int (nI rn), .ref q1, .ref q2, .int mn, .ref q3, .ref q4, .int ct, .int il, .ref q5])), (q1, .inl (cA, (2, .inl sf))), (q2, .inl (cA, (60, .inl lf))), (q3, .inl (cA, (320, .inl rf))), (q4, .inl (cA, (320, .inl nf))), (q5, .inl (cA, (6, .inl gf)))] H := hP
        have hD : va_D A [(y0, .inr (2, [.int 3, .int (nI rn), .ref q1, .ref q2, .int mn, .ref q3, .ref q4, .int ct, .int il, .ref q5])), (q1, .inl (cA, (2, .inl sf))), (q2, .inl (cA, (60, .inl lf))), (q3, .inl (cA, (320, .inl rf))), (q4, .inl (cA, (320, .inl nf))), (q5, .inl (cA, (6, .inl gf)))] := hD
        exact g_endMi hx hb hr hlocks hP hS dX2_twist_48 () rfl rfl trivial
    · exact absurd c23 (by decide)
  · exact absurd c9 (by decide)

abbrev mt_X2_untwist_rm : Room := { frames := 2, cells := 0, slots := 0, locals := 42 }
set_option maxHeartbeats 4000000 in
set_option maxRecDepth 100000 in
theorem mt_X2_untwist (l : Launch) (dC : Nat → ClassId) (dI : Nat → Nat → Nat) (cA : ClassId) (sz : Nat) (y0 : Nat) (q1 : Nat) (q2 : Nat) (q3 : Nat) (q4 : Nat) (q5 : Nat) (rn : Nat) (tv : Int32) (sf : Nat → Int32) (lf : Nat → Int32) (mn : Int32) (rf : Nat → Int32) (nf : Nat → Int32) (ct : Int32) (il : Int32) (gf : Nat → Int32) (Vw : Nat → List Int32) (w : Nat) (hW : MW Vw sf lf) (hw : w < 2) (hk : 0 < (Vw w).length) : Met l yX2_untwist wsX2_untwist mt_X2_untwist_rm (va_Pc [.ref y0, .int (nI w)] (gB (dC, dI) [(cA, .int)] [(y0, .inr (2, [.int tv, .int (nI rn), .ref q1, .ref q2, .int mn, .ref q3, .ref q4, .int ct, .int il, .ref q5])), (q1, .inl (cA, (2, .inl sf))), (q2, .inl (cA, (60, .inl lf))), (q3, .inl (cA, (320, .inl rf))), (q4, .inl (cA, (320, .inl nf))), (q5, .inl (cA, (6, .inl gf)))] sz)) (gM (dC, dI) (some (.int (atL (Vw w) ((Vw w).length - 1)))) (fun u : (Nat → Int32) => MW (upW Vw w (Vw w).dropLast) u lf) (fun u : (Nat → Int32) => [(y0, .inr (2, [.int 0, .int (nI rn), .ref q1, .ref q2, .int mn, .ref q3, .ref q4, .int ct, .int il, .ref q5])), (q1, .inl (cA, (2, .inl u))), (q2, .inl (cA, (60, .inl lf))), (q3, .inl (cA, (320, .inl rf))), (q4, .inl (cA, (320, .inl nf))), (q5, .inl (cA, (6, .inl gf)))]) (va_A [(y0, .inr (2, [.int tv, .int (nI rn), .ref q1, .ref q2, .int mn, .ref q3, .ref q4, .int ct, .int il, .ref q5])), (q1, .inl (cA, (2, .inl sf))), (q2, .inl (cA, (60, .inl lf))), (q3, .inl (cA, (320, .inl rf))), (q4, .inl (cA, (320, .inl nf))), (q5, .inl (cA, (6, .inl gf)))] sz)) 0 0 (va_A [(y0, .inr (2, [.int tv, .int (nI rn), .ref q1, .ref q2, .int mn, .ref q3, .ref q4, .int ct, .int il, .ref q5])), (q1, .inl (cA, (2, .inl sf))), (q2, .inl (cA, (60, .inl lf))), (q3, .inl (cA, (320, .inl rf))), (q4, .inl (cA, (320, .inl nf))), (q5, .inl (cA, (6, .inl gf)))] sz) := by
  refine g_ofM (cc := cX2_untwist) (maxL := 2) (ret := (some .int)) (by decide) rfl (Nat.le_of_ble_eq_true rfl) (fun p e s m below meth c ls hx hb hr hml hts hown hlocks hP hK hl hin A hA hD hS => ?_)
  have hl : lv_has ls 2 [(0, .ref y0), (1, .int (nI w))] := hl
  have hWl := (hW w hw).2.1
  refine lv_aload_n hx hb dX2_untwist_0 rfl (lv_at hl 0 rfl) ?_
  refine lv_iconst (v := 0) hx hb dX2_untwist_1 (by decide) ?_
  refine va_put (D := (dC, dI)) (ci := 2) (v := .int 0) (ty := .int) (C := RX2) (T := TX2) (N := 10) hx hb hts (in_X2_untwist_2) tyX2 tyX2_ok nmX2 hown hK hP hD hS 0 rfl rfl 0 (by decide) (hts (.fieldLink RX2 29 "BraidWordsModel" "thrown" "I") (List.mem_of_getElem? (i := 1) rfl)) (fun _ h9 => h9) rfl (by decide +kernel) rfl rfl (Nat.le_of_ble_eq_true rfl) dX2_untwist_2 (fun H locs hP hD hS => ?_)
  have hP : va_P (dC, dI) vwCl [(y0, .inr (2, [.int 0, .int (nI rn), .ref q1, .ref q2, .int mn, .ref q3, .ref q4, .int ct, .int il, .ref q5])), (q1, .inl (cA, (2, .inl sf))), (q2, .inl (cA, (60, .inl lf))), (q3, .inl (cA, (320, .inl rf))), (q4, .inl (cA, (320, .inl nf))), (q5, .inl (cA, (6, .inl gf)))] H := hP
  have hD : va_D A [(y0, .inr (2, [.int 0, .int (nI rn), .ref q1, .ref q2, .int mn, .ref q3, .ref q4, .int ct, .int il, .ref q5])), (q1, .inl (cA, (2, .inl sf))), (q2, .inl (cA, (60, .inl lf))), (q3, .inl (cA, (320, .inl rf))), (q4, .inl (cA, (320, .inl nf))), (q5, .inl (cA, (6, .inl gf)))] := hD
  refine lv_iload_n hx hb dX2_untwist_5 rfl (lv_at hl 1 rfl) ?_
  refine g_RSi (As := [.int (nI w)]) (rest := []) ⟨hx, hb, hml, hown, hts⟩ (mt_X2_isWord l dC dI cA H.size (nI w)) (va_cwS 1 hts gX2_untwist_X2_isWord rfl rfl rfl hdX2_isWord ⟨Nat.le_of_ble_eq_true rfl, Nat.le_of_ble_eq_true rfl⟩) hP hK hD [] (by decide) rfl rfl hl.1 rfl (Nat.le_of_ble_eq_true rfl) dX2_untwist_6 (Nat.zero_le _) (Nat.zero_le _) ?_
  rw [show (inI (nI w) 0 1) = 1 from inI_w hw]
  refine lv_if_ne (tgt := 18) hx hb dX2_untwist_9 (by decide) (fun c9 => ?_) (fun c9 => ?_)
  · have c9 : ¬ 1 = 0 := g_neT 1 0 (by omega) (by omega) c9
    refine lv_aload_n hx hb dX2_untwist_18 rfl (lv_at hl 0 rfl) ?_
    refine va_get (D := (dC, dI)) (ci := 2) (v := .ref q1) (C := RX2) (T := TX2) (N := 10) hx hb hts (in_X2_untwist_2) hown hK hP 0 rfl rfl 2 (by decide) (hts (.fieldLink RX2 13 "BraidWordsModel" "size" "[I") (List.mem_of_getElem? (i := 2) rfl)) (fun _ h9 => h9) rfl dX2_untwist_19 ?_
    refine lv_iload_n hx hb dX2_untwist_22 rfl (lv_at hl 1 rfl) ?_
    refine va_iald hx hb hK hP 1 0 rfl rfl (vp_in_nI (by omega) (by decide)) dX2_untwist_23 ?_
    rw [show (nI w).toNatClampNeg = w from nI_clamp (by omega)]
    rw [(hW w (by omega)).1]
    refine lv_if_ne (tgt := 33) hx hb dX2_untwist_24 (by decide) (fun c24 => ?_) (fun c24 => ?_)
    · have c24 : ¬ ((Vw w).length) = 0 := g_neT ((Vw w).length) 0 (by omega) (by omega) c24
      refine lv_aload_n hx hb dX2_untwist_33 rfl (lv_at hl 0 rfl) ?_
      refine va_get (D := (dC, dI)) (ci := 2) (v := .ref q1) (C := RX2) (T := TX2) (N := 10) hx hb hts (in_X2_untwist_2) hown hK hP 0 rfl rfl 2 (by decide) (hts (.fieldLink RX2 13 "BraidWordsModel" "size" "[I") (List.mem_of_getElem? (i := 2) rfl)) (fun _ h9 => h9) rfl dX2_untwist_34 ?_
      refine lv_iload_n hx hb dX2_untwist_37 rfl (lv_at hl 1 rfl) ?_
      refine lv_dup2_11 hx hb dX2_untwist_38 rfl rfl ?_
      refine va_iald hx hb hK hP 1 0 rfl rfl (vp_in_nI (by omega) (by decide)) dX2_untwist_39 ?_
      rw [show (nI w).toNatClampNeg = w from nI_clamp (by omega)]
      rw [(hW w (by omega)).1]
      refine lv_iconst (v := 1) hx hb dX2_untwist_40 (by decide) ?_
      refine lv_isub hx hb dX2_untwist_41 ?_
      rw [show nI (Vw w).length - 1 = nI ((Vw w).length - 1) from (plI_sub _).trans (plI_pred (by omega))]
      refine va_iast hx hb hK hP hD hS 1 0 rfl rfl (vp_in_nI (by omega) (by decide)) dX2_untwist_42 (fun H locs hP hD hS => ?_)
      rw [show (nI w).toNatClampNeg = w from nI_clamp (by omega)] at hP hD
      have hP : va_P (dC, dI) vwCl [(y0, .inr (2, [.int 0, .int (nI rn), .ref q1, .ref q2, .int mn, .ref q3, .ref q4, .int ct, .int il, .ref q5])), (q1, .inl (cA, (2, .inl (upd sf w (nI ((Vw w).length - 1)))))), (q2, .inl (cA, (60, .inl lf))), (q3, .inl (cA, (320, .inl rf))), (q4, .inl (cA, (320, .inl nf))), (q5, .inl (cA, (6, .inl gf)))] H := hP
      have hD : va_D A [(y0, .inr (2, [.int 0, .int (nI rn), .ref q1, .ref q2, .int mn, .ref q3, .ref q4, .int ct, .int il, .ref q5])), (q1, .inl (cA, (2, .inl (upd sf w (nI ((Vw w).length - 1)))))), (q2, .inl (cA, (60, .inl lf))), (q3, .inl (cA, (320, .inl rf))), (q4, .inl (cA, (320, .inl nf))), (q5, .inl (cA, (6, .inl gf)))] := hD
      refine lv_aload_n hx hb dX2_untwist_43 rfl (lv_at hl 0 rfl) ?_
      refine lv_iload_n hx hb dX2_untwist_44 rfl (lv_at hl 1 rfl) ?_
      refine lv_aload_n hx hb dX2_untwist_45 rfl (lv_at hl 0 rfl) ?_
      refine va_get (D := (dC, dI)) (ci := 2) (v := .ref q1) (C := RX2) (T := TX2) (N := 10) hx hb hts (in_X2_untwist_2) hown hK hP 0 rfl rfl 2 (by decide) (hts (.fieldLink RX2 13 "BraidWordsModel" "size" "[I") (List.mem_of_getElem? (i := 2) rfl)) (fun _ h9 => h9) rfl dX2_untwist_46 ?_
      refine lv_iload_n hx hb dX2_untwist_49 rfl (lv_at hl 1 rfl) ?_
      refine va_iald hx hb hK hP 1 0 rfl rfl (vp_in_nI (by omega) (by decide)) dX2_untwist_50 ?_
      rw [show (nI w).toNatClampNeg = w from nI_clamp (by omega)]
      rw [pk_us]
      refine g_RVi (As := [.int (nI w), .int (nI ((Vw w).length - 1))]) (rest := []) ⟨hx, hb, hml, hown, hts⟩ (mt_X2_at l dC dI cA H.size y0 q1 q2 q3 q4 q5 rn 0 (upd sf w (nI ((Vw w).length - 1))) lf mn rf nf ct il gf w ((Vw w).length - 1) (by first | omega | (simp only [List.length_append, List.length_cons, List.length_nil, List.length_set, turnL_len]; omega)) (by first | omega | (simp only [List.length_append, List.length_cons, List.length_nil, List.length_set, turnL_len]; omega))) (cwV 2 hts gX2_untwist_X2_at rfl rfl rfl hdX2_at ⟨Nat.le_of_ble_eq_true rfl, Nat.le_of_ble_eq_true rfl⟩) hP hK hD [0, 1, 2, 3, 4, 5] (by decide) rfl (va_recv hK hP (ci := 2) (q0 := 0) rfl rfl) rfl hl.1 rfl (Nat.le_of_ble_eq_true rfl) dX2_untwist_51 (Nat.zero_le _) (Nat.zero_le _) ?_
      rw [(hW w (by omega)).2.2 ((Vw w).length - 1) (by omega)]
      exact g_endMi hx hb hr hlocks hP hS dX2_untwist_54 (upd sf w (nI ((Vw w).length - 1))) rfl rfl (MW_untwist hW hw hk)
    · exact absurd (g_neF ((Vw w).length) 0 (by omega) (by omega) c24) (by omega)
  · exact absurd c9 (by decide)

abbrev mt_X2_untwist_2_rm : Room := { frames := 2, cells := 0, slots := 0, locals := 42 }
set_option maxHeartbeats 4000000 in
set_option maxRecDepth 100000 in
theorem mt_X2_untwist_2 (l : Launch) (dC : Nat → ClassId) (dI : Nat → Nat → Nat) (cA : ClassId) (sz : Nat) (y0 : Nat) (q1 : Nat) (q2 : Nat) (q3 : Nat) (q4 : Nat) (q5 : Nat) (rn : Nat) (tv : Int32) (sf : Nat → Int32) (lf : Nat → Int32) (mn : Int32) (rf : Nat → Int32) (nf : Nat → Int32) (ct : Int32) (il : Int32) (gf : Nat → Int32) (Vw : Nat → List Int32) (w : Nat) (hW : MW Vw sf lf) (hw : w < 2) (hk : (Vw w).length = 0) : Met l yX2_untwist wsX2_untwist mt_X2_untwist_2_rm (va_Pc [.ref y0, .int (nI w)] (gB (dC, dI) [(cA, .int)] [(y0, .inr (2, [.int tv, .int (nI rn), .ref q1, .ref q2, .int mn, .ref q3, .ref q4, .int ct, .int il, .ref q5])), (q1, .inl (cA, (2, .inl sf))), (q2, .inl (cA, (60, .inl lf))), (q3, .inl (cA, (320, .inl rf))), (q4, .inl (cA, (320, .inl nf))), (q5, .inl (cA, (6, .inl gf)))] sz)) (gM (dC, dI) (some (.int 0)) (fun u : Unit => True) (fun u : Unit => [(y0, .inr (2, [.int 2, .int (nI rn), .ref q1, .ref q2, .int mn, .ref q3, .ref q4, .int ct, .int il, .ref q5])), (q1, .inl (cA, (2, .inl sf))), (q2, .inl (cA, (60, .inl lf))), (q3, .inl (cA, (320, .inl rf))), (q4, .inl (cA, (320, .inl nf))), (q5, .inl (cA, (6, .inl gf)))]) (va_A [(y0, .inr (2, [.int tv, .int (nI rn), .ref q1, .ref q2, .int mn, .ref q3, .ref q4, .int ct, .int il, .ref q5])), (q1, .inl (cA, (2, .inl sf))), (q2, .inl (cA, (60, .inl lf))), (q3, .inl (cA, (320, .inl rf))), (q4, .inl (cA, (320, .inl nf))), (q5, .inl (cA, (6, .inl gf)))] sz)) 0 0 (va_A [(y0, .inr (2, [.int tv, .int (nI rn), .ref q1, .ref q2, .int mn, .ref q3, .ref q4, .int ct, .int il, .ref q5])), (q1, .inl (cA, (2, .inl sf))), (q2, .inl (cA, (60, .inl lf))), (q3, .inl (cA, (320, .inl rf))), (q4, .inl (cA, (320, .inl nf))), (q5, .inl (cA, (6, .inl gf)))] sz) := by
  refine g_ofM (cc := cX2_untwist) (maxL := 2) (ret := (some .int)) (by decide) rfl (Nat.le_of_ble_eq_true rfl) (fun p e s m below meth c ls hx hb hr hml hts hown hlocks hP hK hl hin A hA hD hS => ?_)
  have hl : lv_has ls 2 [(0, .ref y0), (1, .int (nI w))] := hl
  have hWl := (hW w hw).2.1
  refine lv_aload_n hx hb dX2_untwist_0 rfl (lv_at hl 0 rfl) ?_
  refine lv_iconst (v := 0) hx hb dX2_untwist_1 (by decide) ?_
  refine va_put (D := (dC, dI)) (ci := 2) (v := .int 0) (ty := .int) (C := RX2) (T := TX2) (N := 10) hx hb hts (in_X2_untwist_2) tyX2 tyX2_ok nmX2 hown hK hP hD hS 0 rfl rfl 0 (by decide) (hts (.fieldLink RX2 29 "BraidWordsModel" "thrown" "I") (List.mem_of_getElem? (i := 1) rfl)) (fun _ h9 => h9) rfl (by decide +kernel) rfl rfl (Nat.le_of_ble_eq_true rfl) dX2_untwist_2 (fun H locs hP hD hS => ?_)
  have hP : va_P (dC, dI) vwCl [(y0, .inr (2, [.int 0, .int (nI rn), .ref q1, .ref q2, .int mn, .ref q3, .ref q4, .int ct, .int il, .ref q5])), (q1, .inl (cA, (2, .inl sf))), (q2, .inl (cA, (60, .inl lf))), (q3, .inl (cA, (320, .inl rf))), (q4, .inl (cA, (320, .inl nf))), (q5, .inl (cA, (6, .inl gf)))] H := hP
  have hD : va_D A [(y0, .inr (2, [.int 0, .int (nI rn), .ref q1, .ref q2, .int mn, .ref q3, .ref q4, .int ct, .int il, .ref q5])), (q1, .inl (cA, (2, .inl sf))), (q2, .inl (cA, (60, .inl lf))), (q3, .inl (cA, (320, .inl rf))), (q4, .inl (cA, (320, .inl nf))), (q5, .inl (cA, (6, .inl gf)))] := hD
  refine lv_iload_n hx hb dX2_untwist_5 rfl (lv_at hl 1 rfl) ?_
  refine g_RSi (As := [.int (nI w)]) (rest := []) ⟨hx, hb, hml, hown, hts⟩ (mt_X2_isWord l dC dI cA H.size (nI w)) (va_cwS 1 hts gX2_untwist_X2_isWord rfl rfl rfl hdX2_isWord ⟨Nat.le_of_ble_eq_true rfl, Nat.le_of_ble_eq_true rfl⟩) hP hK hD [] (by decide) rfl rfl hl.1 rfl (Nat.le_of_ble_eq_true rfl) dX2_untwist_6 (Nat.zero_le _) (Nat.zero_le _) ?_
  rw [show (inI (nI w) 0 1) = 1 from inI_w hw]
  refine lv_if_ne (tgt := 18) hx hb dX2_untwist_9 (by decide) (fun c9 => ?_) (fun c9 => ?_)
  · have c9 : ¬ 1 = 0 := g_neT 1 0 (by omega) (by omega) c9
    refine lv_aload_n hx hb dX2_untwist_18 rfl (lv_at hl 0 rfl) ?_
    refine va_get (D := (dC, dI)) (ci := 2) (v := .ref q1) (C := RX2) (T := TX2) (N := 10) hx hb hts (in_X2_untwist_2) hown hK hP 0 rfl rfl 2 (by decide) (hts (.fieldLink RX2 13 "BraidWordsModel" "size" "[I") (List.mem_of_getElem? (i := 2) rfl)) (fun _ h9 => h9) rfl dX2_untwist_19 ?_
    refine lv_iload_n hx hb dX2_untwist_22 rfl (lv_at hl 1 rfl) ?_
    refine va_iald hx hb hK hP 1 0 rfl rfl (vp_in_nI (by omega) (by decide)) dX2_untwist_23 ?_
    rw [show (nI w).toNatClampNeg = w from nI_clamp (by omega)]
    rw [(hW w (by omega)).1]
    refine lv_if_ne (tgt := 33) hx hb dX2_untwist_24 (by decide) (fun c24 => ?_) (fun c24 => ?_)
    · exact absurd (g_neT ((Vw w).length) 0 (by omega) (by omega) c24) (by omega)
    · have c24 : ((Vw w).length) = 0 := g_neF ((Vw w).length) 0 (by omega) (by omega) c24
      refine lv_aload_n hx hb dX2_untwist_27 rfl (lv_at hl 0 rfl) ?_
      refine lv_iconst (v := 2) hx hb dX2_untwist_28 (by decide) ?_
      refine g_MVi (As := [.int 2]) (rest := []) ⟨hx, hb, hml, hown, hts⟩ (mt_X2_no l dC dI cA H.size y0 q1 q2 q3 q4 q5 rn 0 sf lf mn rf nf ct il gf 2) (cwV 1 hts gX2_untwist_X2_no rfl rfl rfl hdX2_no ⟨Nat.le_of_ble_eq_true rfl, Nat.le_of_ble_eq_true rfl⟩) hP hK hD hS hA [0, 1, 2, 3, 4, 5] (by decide) rfl (va_recv hK hP (ci := 2) (q0 := 0) rfl rfl) rfl hl.1 rfl (Nat.le_of_ble_eq_true rfl) dX2_untwist_29 (Nat.zero_le _) (Nat.zero_le _) (fun u9 => [(y0, .inr (2, [.int 2, .int (nI rn), .ref q1, .ref q2, .int mn, .ref q3, .ref q4, .int ct, .int il, .ref q5])), (q1, .inl (cA, (2, .inl sf))), (q2, .inl (cA, (60, .inl lf))), (q3, .inl (cA, (320, .inl rf))), (q4, .inl (cA, (320, .inl nf))), (q5, .inl (cA, (6, .inl gf)))]) (fun _ => rfl) (fun _ => rfl) (fun u H locs hw_1 hP hD hS => ?_)
      have hw_1 : True := hw_1
      have hP : va_P (dC, dI) vwCl [(y0, .inr (2, [.int 2, .int (nI rn), .ref q1, .ref q2, .int mn, .ref q3, .ref q4, .int ct, .int il, .ref q5])), (q1, .inl (cA, (2, .inl sf))), (q2, .inl (cA, (60, .inl lf))), (q3, .inl (cA, (320, .inl rf))), (q4, .inl (cA, (320, .inl nf))), (q5, .inl (cA, (6, .inl gf)))] H := hP
      have hD : va_D A [(y0, .inr (2, [.int 2, .int (nI rn), .ref q1, .ref q2, .int mn, .ref q3, .ref q4, .int ct, .int il, .ref q5])), (q1, .inl (cA, (2, .inl sf))), (q2, .inl (cA, (60, .inl lf))), (q3, .inl (cA, (320, .inl rf))), (q4, .inl (cA, (320, .inl nf))), (q5, .inl (cA, (6, .inl gf)))] := hD
      exact g_endMi hx hb hr hlocks hP hS dX2_untwist_32 () rfl rfl trivial
  · exact absurd c9 (by decide)

abbrev mt_X2_turn_rm : Room := { frames := 2, cells := 0, slots := 0, locals := 45 }
set_option maxHeartbeats 4000000 in
set_option maxRecDepth 100000 in
theorem mt_X2_turn (l : Launch) (dC : Nat → ClassId) (dI : Nat → Nat → Nat) (cA : ClassId) (sz : Nat) (y0 : Nat) (q1 : Nat) (q2 : Nat) (q3 : Nat) (q4 : Nat) (q5 : Nat) (rn : Nat) (tv : Int32) (sf : Nat → Int32) (lf : Nat → Int32) (mn : Int32) (rf : Nat → Int32) (nf : Nat → Int32) (ct : Int32) (il : Int32) (gf : Nat → Int32) (Vw : Nat → List Int32) (w : Nat) (hW : MW Vw sf lf) (hw : w < 2) : Met l yX2_turn wsX2_turn mt_X2_turn_rm (va_Pc [.ref y0, .int (nI w)] (gB (dC, dI) [(cA, .int)] [(y0, .inr (2, [.int tv, .int (nI rn), .ref q1, .ref q2, .int mn, .ref q3, .ref q4, .int ct, .int il, .ref q5])), (q1, .inl (cA, (2, .inl sf))), (q2, .inl (cA, (60, .inl lf))), (q3, .inl (cA, (320, .inl rf))), (q4, .inl (cA, (320, .inl nf))), (q5, .inl (cA, (6, .inl gf)))] sz)) (gM (dC, dI) (some (.int (nI ([] ++ turnL (Vw w)).length))) (fun u : (Nat → Int32) × (Nat → Int32) × (Nat → Int32) => MW (upW Vw w ([] ++ turnL (Vw w))) u.1 u.2.1) (fun u : (Nat → Int32) × (Nat → Int32) × (Nat → Int32) => [(y0, .inr (2, [.int 0, .int (nI rn), .ref q1, .ref q2, .int (nI (([] ++ turnL (Vw w)).length)), .ref q3, .ref q4, .int ct, .int il, .ref q5])), (q1, .inl (cA, (2, .inl u.1))), (q2, .inl (cA, (60, .inl u.2.1))), (q3, .inl (cA, (320, .inl u.2.2))), (q4, .inl (cA, (320, .inl nf))), (q5, .inl (cA, (6, .inl gf)))]) (va_A [(y0, .inr (2, [.int tv, .int (nI rn), .ref q1, .ref q2, .int mn, .ref q3, .ref q4, .int ct, .int il, .ref q5])), (q1, .inl (cA, (2, .inl sf))), (q2, .inl (cA, (60, .inl lf))), (q3, .inl (cA, (320, .inl rf))), (q4, .inl (cA, (320, .inl nf))), (q5, .inl (cA, (6, .inl gf)))] sz)) 0 0 (va_A [(y0, .inr (2, [.int tv, .int (nI rn), .ref q1, .ref q2, .int mn, .ref q3, .ref q4, .int ct, .int il, .ref q5])), (q1, .inl (cA, (2, .inl sf))), (q2, .inl (cA, (60, .inl lf))), (q3, .inl (cA, (320, .inl rf))), (q4, .inl (cA, (320, .inl nf))), (q5, .inl (cA, (6, .inl gf)))] sz) := by
  refine g_ofM (cc := cX2_turn) (maxL := 2) (ret := (some .int)) (by decide) rfl (Nat.le_of_ble_eq_true rfl) (fun p e s m below meth c ls hx hb hr hml hts hown hlocks hP hK hl hin A hA hD hS => ?_)
  have hl : lv_has ls 2 [(0, .ref y0), (1, .int (nI w))] := hl
  have hWl := (hW w hw).2.1
  refine lv_aload_n hx hb dX2_turn_0 rfl (lv_at hl 0 rfl) ?_
  refine lv_iconst (v := 0) hx hb dX2_turn_1 (by decide) ?_
  refine va_put (D := (dC, dI)) (ci := 2) (v := .int 0) (ty := .int) (C := RX2) (T := TX2) (N := 10) hx hb hts (in_X2_turn_2) tyX2 tyX2_ok nmX2 hown hK hP hD hS 0 rfl rfl 0 (by decide) (hts (.fieldLink RX2 29 "BraidWordsModel" "thrown" "I") (List.mem_of_getElem? (i := 1) rfl)) (fun _ h9 => h9) rfl (by decide +kernel) rfl rfl (Nat.le_of_ble_eq_true rfl) dX2_turn_2 (fun H locs hP hD hS => ?_)
  have hP : va_P (dC, dI) vwCl [(y0, .inr (2, [.int 0, .int (nI rn), .ref q1, .ref q2, .int mn, .ref q3, .ref q4, .int ct, .int il, .ref q5])), (q1, .inl (cA, (2, .inl sf))), (q2, .inl (cA, (60, .inl lf))), (q3, .inl (cA, (320, .inl rf))), (q4, .inl (cA, (320, .inl nf))), (q5, .inl (cA, (6, .inl gf)))] H := hP
  have hD : va_D A [(y0, .inr (2, [.int 0, .int (nI rn), .ref q1, .ref q2, .int mn, .ref q3, .ref q4, .int ct, .int il, .ref q5])), (q1, .inl (cA, (2, .inl sf))), (q2, .inl (cA, (60, .inl lf))), (q3, .inl (cA, (320, .inl rf))), (q4, .inl (cA, (320, .inl nf))), (q5, .inl (cA, (6, .inl gf)))] := hD
  refine lv_iload_n hx hb dX2_turn_5 rfl (lv_at hl 1 rfl) ?_
  refine g_RSi (As := [.int (nI w)]) (rest := []) ⟨hx, hb, hml, hown, hts⟩ (mt_X2_isWord l dC dI cA H.size (nI w)) (va_cwS 1 hts gX2_turn_X2_isWord rfl rfl rfl hdX2_isWord ⟨Nat.le_of_ble_eq_true rfl, Nat.le_of_ble_eq_true rfl⟩) hP hK hD [] (by decide) rfl rfl hl.1 rfl (Nat.le_of_ble_eq_true rfl) dX2_turn_6 (Nat.zero_le _) (Nat.zero_le _) ?_
  rw [show (inI (nI w) 0 1) = 1 from inI_w hw]
  refine lv_if_ne (tgt := 18) hx hb dX2_turn_9 (by decide) (fun c9 => ?_) (fun c9 => ?_)
  · have c9 : ¬ 1 = 0 := g_neT 1 0 (by omega) (by omega) c9
    refine lv_aload_n hx hb dX2_turn_18 rfl (lv_at hl 0 rfl) ?_
    refine lv_iconst (v := 0) hx hb dX2_turn_19 (by decide) ?_
    refine va_put (D := (dC, dI)) (ci := 2) (v := .int 0) (ty := .int) (C := RX2) (T := TX2) (N := 10) hx hb hts (in_X2_turn_2) tyX2 tyX2_ok nmX2 hown hK hP hD hS 0 rfl rfl 4 (by decide) (hts (.fieldLink RX2 36 "BraidWordsModel" "many" "I") (List.mem_of_getElem? (i := 2) rfl)) (fun _ h9 => h9) rfl (by decide +kernel) rfl rfl (Nat.le_of_ble_eq_true rfl) dX2_turn_20 (fun H locs hP hD hS => ?_)
    have hP : va_P (dC, dI) vwCl [(y0, .inr (2, [.int 0, .int (nI rn), .ref q1, .ref q2, .int 0, .ref q3, .ref q4, .int ct, .int il, .ref q5])), (q1, .inl (cA, (2, .inl sf))), (q2, .inl (cA, (60, .inl lf))), (q3, .inl (cA, (320, .inl rf))), (q4, .inl (cA, (320, .inl nf))), (q5, .inl (cA, (6, .inl gf)))] H := hP
    have hD : va_D A [(y0, .inr (2, [.int 0, .int (nI rn), .ref q1, .ref q2, .int 0, .ref q3, .ref q4, .int ct, .int il, .ref q5])), (q1, .inl (cA, (2, .inl sf))), (q2, .inl (cA, (60, .inl lf))), (q3, .inl (cA, (320, .inl rf))), (q4, .inl (cA, (320, .inl nf))), (q5, .inl (cA, (6, .inl gf)))] := hD
    have hP : va_P (dC, dI) vwCl [(y0, .inr (2, [.int 0, .int (nI rn), .ref q1, .ref q2, .int (nI (([] : List Int32).length)), .ref q3, .ref q4, .int ct, .int il, .ref q5])), (q1, .inl (cA, (2, .inl sf))), (q2, .inl (cA, (60, .inl lf))), (q3, .inl (cA, (320, .inl rf))), (q4, .inl (cA, (320, .inl nf))), (q5, .inl (cA, (6, .inl gf)))] H := hP
    have hD : va_D A [(y0, .inr (2, [.int 0, .int (nI rn), .ref q1, .ref q2, .int (nI (([] : List Int32).length)), .ref q3, .ref q4, .int ct, .int il, .ref q5])), (q1, .inl (cA, (2, .inl sf))), (q2, .inl (cA, (60, .inl lf))), (q3, .inl (cA, (320, .inl rf))), (q4, .inl (cA, (320, .inl nf))), (q5, .inl (cA, (6, .inl gf)))] := hD
    refine lv_aload_n hx hb dX2_turn_23 rfl (lv_at hl 0 rfl) ?_
    refine lv_iload_n hx hb dX2_turn_24 rfl (lv_at hl 1 rfl) ?_
    refine lv_iconst (v := 1) hx hb dX2_turn_25 (by decide) ?_
    refine g_MVv (As := [.int (nI w), .int 1]) (rest := []) ⟨hx, hb, hml, hown, hts⟩ (mt_X2_take1 l dC dI cA H.size y0 q1 q2 q3 q4 q5 rn 0 sf lf rf nf ct il gf Vw ([] : List Int32) w hW hw MR_nil (by show 0 + _ ≤ _; omega)) (cwV 2 hts gX2_turn_X2_take rfl rfl rfl hdX2_take ⟨Nat.le_of_ble_eq_true rfl, Nat.le_of_ble_eq_true rfl⟩) hP hK hD hS hA [0, 1, 2, 3, 4, 5] (by decide) rfl (va_recv hK hP (ci := 2) (q0 := 0) rfl rfl) rfl hl.1 rfl (Nat.le_of_ble_eq_true rfl) dX2_turn_26 (Nat.zero_le _) (Nat.zero_le _) (fun u9 => [(y0, .inr (2, [.int 0, .int (nI rn), .ref q1, .ref q2, .int (nI ((([] : List Int32) ++ turnL (Vw w)).length)), .ref q3, .ref q4, .int ct, .int il, .ref q5])), (q1, .inl (cA, (2, .inl sf))), (q2, .inl (cA, (60, .inl lf))), (q3, .inl (cA, (320, .inl u9))), (q4, .inl (cA, (320, .inl nf))), (q5, .inl (cA, (6, .inl gf)))]) (fun _ => rfl) (fun _ => rfl) (fun u H locs hw_2 hP hD hS => ?_)
    obtain ⟨r1_1, rfl⟩ : ∃ z, z = u := ⟨_, rfl⟩
    have hw_2 : MR (([] : List Int32) ++ turnL (Vw w)) r1_1 := hw_2
    have hP : va_P (dC, dI) vwCl [(y0, .inr (2, [.int 0, .int (nI rn), .ref q1, .ref q2, .int (nI ((([] : List Int32) ++ turnL (Vw w)).length)), .ref q3, .ref q4, .int ct, .int il, .ref q5])), (q1, .inl (cA, (2, .inl sf))), (q2, .inl (cA, (60, .inl lf))), (q3, .inl (cA, (320, .inl r1_1))), (q4, .inl (cA, (320, .inl nf))), (q5, .inl (cA, (6, .inl gf)))] H := hP
    have hD : va_D A [(y0, .inr (2, [.int 0, .int (nI rn), .ref q1, .ref q2, .int (nI ((([] : List Int32) ++ turnL (Vw w)).length)), .ref q3, .ref q4, .int ct, .int il, .ref q5])), (q1, .inl (cA, (2, .inl sf))), (q2, .inl (cA, (60, .inl lf))), (q3, .inl (cA, (320, .inl r1_1))), (q4, .inl (cA, (320, .inl nf))), (q5, .inl (cA, (6, .inl gf)))] := hD
    refine lv_aload_n hx hb dX2_turn_29 rfl (lv_at hl 0 rfl) ?_
    refine lv_iload_n hx hb dX2_turn_30 rfl (lv_at hl 1 rfl) ?_
    refine g_MVv (As := [.int (nI w)]) (rest := []) ⟨hx, hb, hml, hown, hts⟩ (mt_X2_store l dC dI cA H.size y0 q1 q2 q3 q4 q5 rn 0 sf lf r1_1 nf ct il gf (([] : List Int32) ++ turnL (Vw w)) w (by first | omega | (simp only [List.length_append, List.length_cons, List.length_nil, List.length_set, turnL_len]; omega)) hw_2 (by simp only [List.nil_append, turnL_len]; omega)) (cwV 1 hts gX2_turn_X2_store rfl rfl rfl hdX2_store ⟨Nat.le_of_ble_eq_true rfl, Nat.le_of_ble_eq_true rfl⟩) hP hK hD hS hA [0, 1, 2, 3, 4, 5] (by decide) rfl (va_recv hK hP (ci := 2) (q0 := 0) rfl rfl) rfl hl.1 rfl (Nat.le_of_ble_eq_true rfl) dX2_turn_31 (Nat.zero_le _) (Nat.zero_le _) (fun u9 => [(y0, .inr (2, [.int 0, .int (nI rn), .ref q1, .ref q2, .int (nI (([] : List Int32) ++ turnL (Vw w)).length), .ref q3, .ref q4, .int ct, .int il, .ref q5])), (q1, .inl (cA, (2, .inl u9.2))), (q2, .inl (cA, (60, .inl u9.1))), (q3, .inl (cA, (320, .inl r1_1))), (q4, .inl (cA, (320, .inl nf))), (q5, .inl (cA, (6, .inl gf)))]) (fun _ => rfl) (fun _ => rfl) (fun u H locs hw_5 hP hD hS => ?_)
    obtain ⟨l1_3, s1_4⟩ := u
    have hw_5 : s1_4 = upd sf w (nI (([] : List Int32) ++ turnL (Vw w)).length) ∧ (∀ i, i < (([] : List Int32) ++ turnL (Vw w)).length → l1_3 (30 * w + i) = atL (([] : List Int32) ++ turnL (Vw w)) i) ∧ ∀ j, (j < 30 * w ∨ 30 * w + 30 ≤ j) → l1_3 j = lf j := hw_5
    have hP : va_P (dC, dI) vwCl [(y0, .inr (2, [.int 0, .int (nI rn), .ref q1, .ref q2, .int (nI (([] : List Int32) ++ turnL (Vw w)).length), .ref q3, .ref q4, .int ct, .int il, .ref q5])), (q1, .inl (cA, (2, .inl s1_4))), (q2, .inl (cA, (60, .inl l1_3))), (q3, .inl (cA, (320, .inl r1_1))), (q4, .inl (cA, (320, .inl nf))), (q5, .inl (cA, (6, .inl gf)))] H := hP
    have hD : va_D A [(y0, .inr (2, [.int 0, .int (nI rn), .ref q1, .ref q2, .int (nI (([] : List Int32) ++ turnL (Vw w)).length), .ref q3, .ref q4, .int ct, .int il, .ref q5])), (q1, .inl (cA, (2, .inl s1_4))), (q2, .inl (cA, (60, .inl l1_3))), (q3, .inl (cA, (320, .inl r1_1))), (q4, .inl (cA, (320, .inl nf))), (q5, .inl (cA, (6, .inl gf)))] := hD
    refine lv_aload_n hx hb dX2_turn_34 rfl (lv_at hl 0 rfl) ?_
    refine va_get (D := (dC, dI)) (ci := 2) (v := .int (nI (([] : List Int32) ++ turnL (Vw w)).length)) (C := RX2) (T := TX2) (N := 10) hx hb hts (in_X2_turn_2) hown hK hP 0 rfl rfl 4 (by decide) (hts (.fieldLink RX2 36 "BraidWordsModel" "many" "I") (List.mem_of_getElem? (i := 2) rfl)) (fun _ h9 => h9) rfl dX2_turn_35 ?_
    exact g_endMi hx hb hr hlocks hP hS dX2_turn_38 (s1_4, l1_3, r1_1) rfl rfl (MW_store hW hw hw_5.1 hw_5.2.1 hw_5.2.2 (by simp only [List.nil_append, turnL_len]; omega))
  · exact absurd c9 (by decide)

abbrev mt_X2_join_rm : Room := { frames := 3, cells := 0, slots := 0, locals := 66 }
set_option maxHeartbeats 4000000 in
set_option maxRecDepth 100000 in
theorem mt_X2_join (l : Launch) (dC : Nat → ClassId) (dI : Nat → Nat → Nat) (cA : ClassId) (sz : Nat) (y0 : Nat) (q1 : Nat) (q2 : Nat) (q3 : Nat) (q4 : Nat) (q5 : Nat) (rn : Nat) (tv : Int32) (sf : Nat → Int32) (lf : Nat → Int32) (mn : Int32) (rf : Nat → Int32) (nf : Nat → Int32) (ct : Int32) (il : Int32) (gf : Nat → Int32) (Vw : Nat → List Int32) (w : Nat) (hW : MW Vw sf lf) (hw : w < 2) (hk : (Vw 0).length + (Vw 1).length ≤ 30) : Met l yX2_join wsX2_join mt_X2_join_rm (va_Pc [.ref y0, .int (nI w)] (gB (dC, dI) [(cA, .int)] [(y0, .inr (2, [.int tv, .int (nI rn), .ref q1, .ref q2, .int mn, .ref q3, .ref q4, .int ct, .int il, .ref q5])), (q1, .inl (cA, (2, .inl sf))), (q2, .inl (cA, (60, .inl lf))), (q3, .inl (cA, (320, .inl rf))), (q4, .inl (cA, (320, .inl nf))), (q5, .inl (cA, (6, .inl gf)))] sz)) (gM (dC, dI) (some (.int (nI (Vw w ++ Vw (1 - w)).length))) (fun u : (Nat → Int32) × (Nat → Int32) × (Nat → Int32) => MW (upW Vw w (Vw w ++ Vw (1 - w))) u.1 u.2.1) (fun u : (Nat → Int32) × (Nat → Int32) × (Nat → Int32) => [(y0, .inr (2, [.int 0, .int (nI rn), .ref q1, .ref q2, .int (nI ((Vw w ++ Vw (1 - w)).length)), .ref q3, .ref q4, .int ct, .int il, .ref q5])), (q1, .inl (cA, (2, .inl u.1))), (q2, .inl (cA, (60, .inl u.2.1))), (q3, .inl (cA, (320, .inl u.2.2))), (q4, .inl (cA, (320, .inl nf))), (q5, .inl (cA, (6, .inl gf)))]) (va_A [(y0, .inr (2, [.int tv, .int (nI rn), .ref q1, .ref q2, .int mn, .ref q3, .ref q4, .int ct, .int il, .ref q5])), (q1, .inl (cA, (2, .inl sf))), (q2, .inl (cA, (60, .inl lf))), (q3, .inl (cA, (320, .inl rf))), (q4, .inl (cA, (320, .inl nf))), (q5, .inl (cA, (6, .inl gf)))] sz)) 0 0 (va_A [(y0, .inr (2, [.int tv, .int (nI rn), .ref q1, .ref q2, .int mn, .ref q3, .ref q4, .int ct, .int il, .ref q5])), (q1, .inl (cA, (2, .inl sf))), (q2, .inl (cA, (60, .inl lf))), (q3, .inl (cA, (320, .inl rf))), (q4, .inl (cA, (320, .inl nf))), (q5, .inl (cA, (6, .inl gf)))] sz) := by
  refine g_ofM (cc := cX2_join) (maxL := 2) (ret := (some .int)) (by decide) rfl (Nat.le_of_ble_eq_true rfl) (fun p e s m below meth c ls hx hb hr hml hts hown hlocks hP hK hl hin A hA hD hS => ?_)
  have hl : lv_has ls 2 [(0, .ref y0), (1, .int (nI w))] := hl
  have hWl := (hW w hw).2.1
  have hsum := two_sum (f := fun j => (Vw j).length) hw
  have hsum : (Vw w).length + (Vw (1 - w)).length = (Vw 0).length + (Vw 1).length := hsum
  refine lv_aload_n hx hb dX2_join_0 rfl (lv_at hl 0 rfl) ?_
  refine lv_iconst (v := 0) hx hb dX2_join_1 (by decide) ?_
  refine va_put (D := (dC, dI)) (ci := 2) (v := .int 0) (ty := .int) (C := RX2) (T := TX2) (N := 10) hx hb hts (in_X2_join_2) tyX2 tyX2_ok nmX2 hown hK hP hD hS 0 rfl rfl 0 (by decide) (hts (.fieldLink RX2 29 "BraidWordsModel" "thrown" "I") (List.mem_of_getElem? (i := 1) rfl)) (fun _ h9 => h9) rfl (by decide +kernel) rfl rfl (Nat.le_of_ble_eq_true rfl) dX2_join_2 (fun H locs hP hD hS => ?_)
  have hP : va_P (dC, dI) vwCl [(y0, .inr (2, [.int 0, .int (nI rn), .ref q1, .ref q2, .int mn, .ref q3, .ref q4, .int ct, .int il, .ref q5])), (q1, .inl (cA, (2, .inl sf))), (q2, .inl (cA, (60, .inl lf))), (q3, .inl (cA, (320, .inl rf))), (q4, .inl (cA, (320, .inl nf))), (q5, .inl (cA, (6, .inl gf)))] H := hP
  have hD : va_D A [(y0, .inr (2, [.int 0, .int (nI rn), .ref q1, .ref q2, .int mn, .ref q3, .ref q4, .int ct, .int il, .ref q5])), (q1, .inl (cA, (2, .inl sf))), (q2, .inl (cA, (60, .inl lf))), (q3, .inl (cA, (320, .inl rf))), (q4, .inl (cA, (320, .inl nf))), (q5, .inl (cA, (6, .inl gf)))] := hD
  refine lv_iload_n hx hb dX2_join_5 rfl (lv_at hl 1 rfl) ?_
  refine g_RSi (As := [.int (nI w)]) (rest := []) ⟨hx, hb, hml, hown, hts⟩ (mt_X2_isWord l dC dI cA H.size (nI w)) (va_cwS 1 hts gX2_join_X2_isWord rfl rfl rfl hdX2_isWord ⟨Nat.le_of_ble_eq_true rfl, Nat.le_of_ble_eq_true rfl⟩) hP hK hD [] (by decide) rfl rfl hl.1 rfl (Nat.le_of_ble_eq_true rfl) dX2_join_6 (Nat.zero_le _) (Nat.zero_le _) ?_
  rw [show (inI (nI w) 0 1) = 1 from inI_w hw]
  refine lv_if_ne (tgt := 18) hx hb dX2_join_9 (by decide) (fun c9 => ?_) (fun c9 => ?_)
  · have c9 : ¬ 1 = 0 := g_neT 1 0 (by omega) (by omega) c9
    refine lv_aload_n hx hb dX2_join_18 rfl (lv_at hl 0 rfl) ?_
    refine va_get (D := (dC, dI)) (ci := 2) (v := .ref q1) (C := RX2) (T := TX2) (N := 10) hx hb hts (in_X2_join_2) hown hK hP 0 rfl rfl 2 (by decide) (hts (.fieldLink RX2 13 "BraidWordsModel" "size" "[I") (List.mem_of_getElem? (i := 2) rfl)) (fun _ h9 => h9) rfl dX2_join_19 ?_
    refine lv_iconst (v := 0) hx hb dX2_join_22 (by decide) ?_
    refine va_iald hx hb hK hP 1 0 rfl rfl (vp_in_nI (n := 0) (by omega) (by decide)) dX2_join_23 ?_
    rw [show (0 : Int32).toNatClampNeg = 0 from by decide]
    rw [(hW 0 (by omega)).1]
    refine lv_aload_n hx hb dX2_join_24 rfl (lv_at hl 0 rfl) ?_
    refine va_get (D := (dC, dI)) (ci := 2) (v := .ref q1) (C := RX2) (T := TX2) (N := 10) hx hb hts (in_X2_join_2) hown hK hP 0 rfl rfl 2 (by decide) (hts (.fieldLink RX2 13 "BraidWordsModel" "size" "[I") (List.mem_of_getElem? (i := 2) rfl)) (fun _ h9 => h9) rfl dX2_join_25 ?_
    refine lv_iconst (v := 1) hx hb dX2_join_28 (by decide) ?_
    refine va_iald hx hb hK hP 1 0 rfl rfl (vp_in_nI (n := 1) (by omega) (by decide)) dX2_join_29 ?_
    rw [show (1 : Int32).toNatClampNeg = 1 from by decide]
    rw [(hW 1 (by omega)).1]
    refine lv_iadd hx hb dX2_join_30 ?_
    rw [show (nI ((Vw 0).length)) + (nI ((Vw 1).length)) = nI ((Vw 0).length + (Vw 1).length) from nI_add ((Vw 0).length) ((Vw 1).length)]
    refine lv_bipush (v := 30) hx hb dX2_join_31 (by decide) ?_
    refine lv_icmp_le (tgt := 42) hx hb dX2_join_33 (by decide) (fun c33 => ?_) (fun c33 => ?_)
    · have c33 : ((Vw 0).length + (Vw 1).length) ≤ 30 := g_leT ((Vw 0).length + (Vw 1).length) 30 (by omega) (by omega) c33
      refine lv_aload_n hx hb dX2_join_42 rfl (lv_at hl 0 rfl) ?_
      refine lv_iload_n hx hb dX2_join_43 rfl (lv_at hl 1 rfl) ?_
      refine g_MVv (As := [.int (nI w)]) (rest := []) ⟨hx, hb, hml, hown, hts⟩ (mt_X2_load l dC dI cA H.size y0 q1 q2 q3 q4 q5 rn 0 sf lf mn rf nf ct il gf Vw w hW hw) (cwV 1 hts gX2_join_X2_load rfl rfl rfl hdX2_load ⟨Nat.le_of_ble_eq_true rfl, Nat.le_of_ble_eq_true rfl⟩) hP hK hD hS hA [0, 1, 2, 3, 4, 5] (by decide) rfl (va_recv hK hP (ci := 2) (q0 := 0) rfl rfl) rfl hl.1 rfl (Nat.le_of_ble_eq_true rfl) dX2_join_44 (Nat.zero_le _) (Nat.zero_le _) (fun u9 => [(y0, .inr (2, [.int 0, .int (nI rn), .ref q1, .ref q2, .int (nI ((Vw w).length)), .ref q3, .ref q4, .int ct, .int il, .ref q5])), (q1, .inl (cA, (2, .inl sf))), (q2, .inl (cA, (60, .inl lf))), (q3, .inl (cA, (320, .inl u9))), (q4, .inl (cA, (320, .inl nf))), (q5, .inl (cA, (6, .inl gf)))]) (fun _ => rfl) (fun _ => rfl) (fun u H locs hw_2 hP hD hS => ?_)
      obtain ⟨r1_1, rfl⟩ : ∃ z, z = u := ⟨_, rfl⟩
      have hw_2 : MR (Vw w) r1_1 := hw_2
      have hP : va_P (dC, dI) vwCl [(y0, .inr (2, [.int 0, .int (nI rn), .ref q1, .ref q2, .int (nI ((Vw w).length)), .ref q3, .ref q4, .int ct, .int il, .ref q5])), (q1, .inl (cA, (2, .inl sf))), (q2, .inl (cA, (60, .inl lf))), (q3, .inl (cA, (320, .inl r1_1))), (q4, .inl (cA, (320, .inl nf))), (q5, .inl (cA, (6, .inl gf)))] H := hP
      have hD : va_D A [(y0, .inr (2, [.int 0, .int (nI rn), .ref q1, .ref q2, .int (nI ((Vw w).length)), .ref q3, .ref q4, .int ct, .int il, .ref q5])), (q1, .inl (cA, (2, .inl sf))), (q2, .inl (cA, (60, .inl lf))), (q3, .inl (cA, (320, .inl r1_1))), (q4, .inl (cA, (320, .inl nf))), (q5, .inl (cA, (6, .inl gf)))] := hD
      refine lv_aload_n hx hb dX2_join_47 rfl (lv_at hl 0 rfl) ?_
      refine lv_iconst (v := 1) hx hb dX2_join_48 (by decide) ?_
      refine lv_iload_n hx hb dX2_join_49 rfl (lv_at hl 1 rfl) ?_
      refine lv_isub hx hb dX2_join_50 ?_
      rw [one_sub hw]
      refine lv_iconst (v := 0) hx hb dX2_join_51 (by decide) ?_
      refine g_MVv (As := [.int (nI (1 - w)), .int 0]) (rest := []) ⟨hx, hb, hml, hown, hts⟩ (mt_X2_take0 l dC dI cA H.size y0 q1 q2 q3 q4 q5 rn 0 sf lf r1_1 nf ct il gf Vw (Vw w) (1 - w) hW (by omega) hw_2 (by omega)) (cwV 2 hts gX2_join_X2_take rfl rfl rfl hdX2_take ⟨Nat.le_of_ble_eq_true rfl, Nat.le_of_ble_eq_true rfl⟩) hP hK hD hS hA [0, 1, 2, 3, 4, 5] (by decide) rfl (va_recv hK hP (ci := 2) (q0 := 0) rfl rfl) rfl hl.1 rfl (Nat.le_of_ble_eq_true rfl) dX2_join_52 (Nat.zero_le _) (Nat.zero_le _) (fun u9 => [(y0, .inr (2, [.int 0, .int (nI rn), .ref q1, .ref q2, .int (nI (((Vw w) ++ Vw (1 - w)).length)), .ref q3, .ref q4, .int ct, .int il, .ref q5])), (q1, .inl (cA, (2, .inl sf))), (q2, .inl (cA, (60, .inl lf))), (q3, .inl (cA, (320, .inl u9))), (q4, .inl (cA, (320, .inl nf))), (q5, .inl (cA, (6, .inl gf)))]) (fun _ => rfl) (fun _ => rfl) (fun u H locs hw_4 hP hD hS => ?_)
      obtain ⟨r1_3, rfl⟩ : ∃ z, z = u := ⟨_, rfl⟩
      have hw_4 : MR ((Vw w) ++ Vw (1 - w)) r1_3 := hw_4
      have hP : va_P (dC, dI) vwCl [(y0, .inr (2, [.int 0, .int (nI rn), .ref q1, .ref q2, .int (nI (((Vw w) ++ Vw (1 - w)).length)), .ref q3, .ref q4, .int ct, .int il, .ref q5])), (q1, .inl (cA, (2, .inl sf))), (q2, .inl (cA, (60, .inl lf))), (q3, .inl (cA, (320, .inl r1_3))), (q4, .inl (cA, (320, .inl nf))), (q5, .inl (cA, (6, .inl gf)))] H := hP
      have hD : va_D A [(y0, .inr (2, [.int 0, .int (nI rn), .ref q1, .ref q2, .int (nI (((Vw w) ++ Vw (1 - w)).length)), .ref q3, .ref q4, .int ct, .int il, .ref q5])), (q1, .inl (cA, (2, .inl sf))), (q2, .inl (cA, (60, .inl lf))), (q3, .inl (cA, (320, .inl r1_3))), (q4, .inl (cA, (320, .inl nf))), (q5, .inl (cA, (6, .inl gf)))] := hD
      refine lv_aload_n hx hb dX2_join_55 rfl (lv_at hl 0 rfl) ?_
      refine lv_iload_n hx hb dX2_join_56 rfl (lv_at hl 1 rfl) ?_
      refine g_MVv (As := [.int (nI w)]) (rest := []) ⟨hx, hb, hml, hown, hts⟩ (mt_X2_store l dC dI cA H.size y0 q1 q2 q3 q4 q5 rn 0 sf lf r1_3 nf ct il gf ((Vw w) ++ Vw (1 - w)) w (by first | omega | (simp only [List.length_append, List.length_cons, List.length_nil, List.length_set, turnL_len]; omega)) hw_4 (by rw [List.length_append]; omega)) (cwV 1 hts gX2_join_X2_store rfl rfl rfl hdX2_store ⟨Nat.le_of_ble_eq_true rfl, Nat.le_of_ble_eq_true rfl⟩) hP hK hD hS hA [0, 1, 2, 3, 4, 5] (by decide) rfl (va_recv hK hP (ci := 2) (q0 := 0) rfl rfl) rfl hl.1 rfl (Nat.le_of_ble_eq_true rfl) dX2_join_57 (Nat.zero_le _) (Nat.zero_le _) (fun u9 => [(y0, .inr (2, [.int 0, .int (nI rn), .ref q1, .ref q2, .int (nI ((Vw w) ++ Vw (1 - w)).length), .ref q3, .ref q4, .int ct, .int il, .ref q5])), (q1, .inl (cA, (2, .inl u9.2))), (q2, .inl (cA, (60, .inl u9.1))), (q3, .inl (cA, (320, .inl r1_3))), (q4, .inl (cA, (320, .inl nf))), (q5, .inl (cA, (6, .inl gf)))]) (fun _ => rfl) (fun _ => rfl) (fun u H locs hw_7 hP hD hS => ?_)
      obtain ⟨l1_5, s1_6⟩ := u
      have hw_7 : s1_6 = upd sf w (nI ((Vw w) ++ Vw (1 - w)).length) ∧ (∀ i, i < ((Vw w) ++ Vw (1 - w)).length → l1_5 (30 * w + i) = atL ((Vw w) ++ Vw (1 - w)) i) ∧ ∀ j, (j < 30 * w ∨ 30 * w + 30 ≤ j) → l1_5 j = lf j := hw_7
      have hP : va_P (dC, dI) vwCl [(y0, .inr (2, [.int 0, .int (nI rn), .ref q1, .ref q2, .int (nI ((Vw w) ++ Vw (1 - w)).length), .ref q3, .ref q4, .int ct, .int il, .ref q5])), (q1, .inl (cA, (2, .inl s1_6))), (q2, .inl (cA, (60, .inl l1_5))), (q3, .inl (cA, (320, .inl r1_3))), (q4, .inl (cA, (320, .inl nf))), (q5, .inl (cA, (6, .inl gf)))] H := hP
      have hD : va_D A [(y0, .inr (2, [.int 0, .int (nI rn), .ref q1, .ref q2, .int (nI ((Vw w) ++ Vw (1 - w)).length), .ref q3, .ref q4, .int ct, .int il, .ref q5])), (q1, .inl (cA, (2, .inl s1_6))), (q2, .inl (cA, (60, .inl l1_5))), (q3, .inl (cA, (320, .inl r1_3))), (q4, .inl (cA, (320, .inl nf))), (q5, .inl (cA, (6, .inl gf)))] := hD
      refine lv_aload_n hx hb dX2_join_60 rfl (lv_at hl 0 rfl) ?_
      refine va_get (D := (dC, dI)) (ci := 2) (v := .int (nI ((Vw w) ++ Vw (1 - w)).length)) (C := RX2) (T := TX2) (N := 10) hx hb hts (in_X2_join_2) hown hK hP 0 rfl rfl 4 (by decide) (hts (.fieldLink RX2 36 "BraidWordsModel" "many" "I") (List.mem_of_getElem? (i := 3) rfl)) (fun _ h9 => h9) rfl dX2_join_61 ?_
      exact g_endMi hx hb hr hlocks hP hS dX2_join_64 (s1_6, l1_5, r1_3) rfl rfl (MW_store hW hw hw_7.1 hw_7.2.1 hw_7.2.2 (by rw [List.length_append]; omega))
    · exact absurd (g_leF ((Vw 0).length + (Vw 1).length) 30 (by omega) (by omega) c33) (by omega)
  · exact absurd c9 (by decide)

abbrev mt_X2_join_2_rm : Room := { frames := 2, cells := 0, slots := 0, locals := 42 }
set_option maxHeartbeats 4000000 in
set_option maxRecDepth 100000 in
theorem mt_X2_join_2 (l : Launch) (dC : Nat → ClassId) (dI : Nat → Nat → Nat) (cA : ClassId) (sz : Nat) (y0 : Nat) (q1 : Nat) (q2 : Nat) (q3 : Nat) (q4 : Nat) (q5 : Nat) (rn : Nat) (tv : Int32) (sf : Nat → Int32) (lf : Nat → Int32) (mn : Int32) (rf : Nat → Int32) (nf : Nat → Int32) (ct : Int32) (il : Int32) (gf : Nat → Int32) (Vw : Nat → List Int32) (w : Nat) (hW : MW Vw sf lf) (hw : w < 2) (hk : 30 < (Vw 0).length + (Vw 1).length) : Met l yX2_join wsX2_join mt_X2_join_2_rm (va_Pc [.ref y0, .int (nI w)] (gB (dC, dI) [(cA, .int)] [(y0, .inr (2, [.int tv, .int (nI rn), .ref q1, .ref q2, .int mn, .ref q3, .ref q4, .int ct, .int il, .ref q5])), (q1, .inl (cA, (2, .inl sf))), (q2, .inl (cA, (60, .inl lf))), (q3, .inl (cA, (320, .inl rf))), (q4, .inl (cA, (320, .inl nf))), (q5, .inl (cA, (6, .inl gf)))] sz)) (gM (dC, dI) (some (.int 0)) (fun u : Unit => True) (fun u : Unit => [(y0, .inr (2, [.int 2, .int (nI rn), .ref q1, .ref q2, .int mn, .ref q3, .ref q4, .int ct, .int il, .ref q5])), (q1, .inl (cA, (2, .inl sf))), (q2, .inl (cA, (60, .inl lf))), (q3, .inl (cA, (320, .inl rf))), (q4, .inl (cA, (320, .inl nf))), (q5, .inl (cA, (6, .inl gf)))]) (va_A [(y0, .inr (2, [.int tv, .int (nI rn), .ref q1, .ref q2, .int mn, .ref q3, .ref q4, .int ct, .int il, .ref q5])), (q1, .inl (cA, (2, .inl sf))), (q2, .inl (cA, (60, .inl lf))), (q3, .inl (cA, (320, .inl rf))), (q4, .inl (cA, (320, .inl nf))), (q5, .inl (cA, (6, .inl gf)))] sz)) 0 0 (va_A [(y0, .inr (2, [.int tv, .int (nI rn), .ref q1, .ref q2, .int mn, .ref q3, .ref q4, .int ct, .int il, .ref q5])), (q1, .inl (cA, (2, .inl sf))), (q2, .inl (cA, (60, .inl lf))), (q3, .inl (cA, (320, .inl rf))), (q4, .inl (cA, (320, .inl nf))), (q5, .inl (cA, (6, .inl gf)))] sz) := by
  refine g_ofM (cc := cX2_join) (maxL := 2) (ret := (some .int)) (by decide) rfl (Nat.le_of_ble_eq_true rfl) (fun p e s m below meth c ls hx hb hr hml hts hown hlocks hP hK hl hin A hA hD hS => ?_)
  have hl : lv_has ls 2 [(0, .ref y0), (1, .int (nI w))] := hl
  have hWa := (hW 0 (by omega)).2.1
  have hWb := (hW 1 (by omega)).2.1
  refine lv_aload_n hx hb dX2_join_0 rfl (lv_at hl 0 rfl) ?_
  refine lv_iconst (v := 0) hx hb dX2_join_1 (by decide) ?_
  refine va_put (D := (dC, dI)) (ci := 2) (v := .int 0) (ty := .int) (C := RX2) (T := TX2) (N := 10) hx hb hts (in_X2_join_2) tyX2 tyX2_ok nmX2 hown hK hP hD hS 0 rfl rfl 0 (by decide) (hts (.fieldLink RX2 29 "BraidWordsModel" "thrown" "I") (List.mem_of_getElem? (i := 1) rfl)) (fun _ h9 => h9) rfl (by decide +kernel) rfl rfl (Nat.le_of_ble_eq_true rfl) dX2_join_2 (fun H locs hP hD hS => ?_)
  have hP : va_P (dC, dI) vwCl [(y0, .inr (2, [.int 0, .int (nI rn), .ref q1, .ref q2, .int mn, .ref q3, .ref q4, .int ct, .int il, .ref q5])), (q1, .inl (cA, (2, .inl sf))), (q2, .inl (cA, (60, .inl lf))), (q3, .inl (cA, (320, .inl rf))), (q4, .inl (cA, (320, .inl nf))), (q5, .inl (cA, (6, .inl gf)))] H := hP
  have hD : va_D A [(y0, .inr (2, [.int 0, .int (nI rn), .ref q1, .ref q2, .int mn, .ref q3, .ref q4, .int ct, .int il, .ref q5])), (q1, .inl (cA, (2, .inl sf))), (q2, .inl (cA, (60, .inl lf))), (q3, .inl (cA, (320, .inl rf))), (q4, .inl (cA, (320, .inl nf))), (q5, .inl (cA, (6, .inl gf)))] := hD
  refine lv_iload_n hx hb dX2_join_5 rfl (lv_at hl 1 rfl) ?_
  refine g_RSi (As := [.int (nI w)]) (rest := []) ⟨hx, hb, hml, hown, hts⟩ (mt_X2_isWord l dC dI cA H.size (nI w)) (va_cwS 1 hts gX2_join_X2_isWord rfl rfl rfl hdX2_isWord ⟨Nat.le_of_ble_eq_true rfl, Nat.le_of_ble_eq_true rfl⟩) hP hK hD [] (by decide) rfl rfl hl.1 rfl (Nat.le_of_ble_eq_true rfl) dX2_join_6 (Nat.zero_le _) (Nat.zero_le _) ?_
  rw [show (inI (nI w) 0 1) = 1 from inI_w hw]
  refine lv_if_ne (tgt := 18) hx hb dX2_join_9 (by decide) (fun c9 => ?_) (fun c9 => ?_)
  · have c9 : ¬ 1 = 0 := g_neT 1 0 (by omega) (by omega) c9
    refine lv_aload_n hx hb dX2_join_18 rfl (lv_at hl 0 rfl) ?_
    refine va_get (D := (dC, dI)) (ci := 2) (v := .ref q1) (C := RX2) (T := TX2) (N := 10) hx hb hts (in_X2_join_2) hown hK hP 0 rfl rfl 2 (by decide) (hts (.fieldLink RX2 13 "BraidWordsModel" "size" "[I") (List.mem_of_getElem? (i := 2) rfl)) (fun _ h9 => h9) rfl dX2_join_19 ?_
    refine lv_iconst (v := 0) hx hb dX2_join_22 (by decide) ?_
    refine va_iald hx hb hK hP 1 0 rfl rfl (vp_in_nI (n := 0) (by omega) (by decide)) dX2_join_23 ?_
    rw [show (0 : Int32).toNatClampNeg = 0 from by decide]
    rw [(hW 0 (by omega)).1]
    refine lv_aload_n hx hb dX2_join_24 rfl (lv_at hl 0 rfl) ?_
    refine va_get (D := (dC, dI)) (ci := 2) (v := .ref q1) (C := RX2) (T := TX2) (N := 10) hx hb hts (in_X2_join_2) hown hK hP 0 rfl rfl 2 (by decide) (hts (.fieldLink RX2 13 "BraidWordsModel" "size" "[I") (List.mem_of_getElem? (i := 2) rfl)) (fun _ h9 => h9) rfl dX2_join_25 ?_
    refine lv_iconst (v := 1) hx hb dX2_join_28 (by decide) ?_
    refine va_iald hx hb hK hP 1 0 rfl rfl (vp_in_nI (n := 1) (by omega) (by decide)) dX2_join_29 ?_
    rw [show (1 : Int32).toNatClampNeg = 1 from by decide]
    rw [(hW 1 (by omega)).1]
    refine lv_iadd hx hb dX2_join_30 ?_
    rw [show (nI ((Vw 0).length)) + (nI ((Vw 1).length)) = nI ((Vw 0).length + (Vw 1).length) from nI_add ((Vw 0).length) ((Vw 1).length)]
    refine lv_bipush (v := 30) hx hb dX2_join_31 (by decide) ?_
    refine lv_icmp_le (tgt := 42) hx hb dX2_join_33 (by decide) (fun c33 => ?_) (fun c33 => ?_)
    · exact absurd (g_leT ((Vw 0).length + (Vw 1).length) 30 (by omega) (by omega) c33) (by omega)
    · have c33 : 30 < ((Vw 0).length + (Vw 1).length) := g_leF ((Vw 0).length + (Vw 1).length) 30 (by omega) (by omega) c33
      refine lv_aload_n hx hb dX2_join_36 rfl (lv_at hl 0 rfl) ?_
      refine lv_iconst (v := 2) hx hb dX2_join_37 (by decide) ?_
      refine g_MVi (As := [.int 2]) (rest := []) ⟨hx, hb, hml, hown, hts⟩ (mt_X2_no l dC dI cA H.size y0 q1 q2 q3 q4 q5 rn 0 sf lf mn rf nf ct il gf 2) (cwV 1 hts gX2_join_X2_no rfl rfl rfl hdX2_no ⟨Nat.le_of_ble_eq_true rfl, Nat.le_of_ble_eq_true rfl⟩) hP hK hD hS hA [0, 1, 2, 3, 4, 5] (by decide) rfl (va_recv hK hP (ci := 2) (q0 := 0) rfl rfl) rfl hl.1 rfl (Nat.le_of_ble_eq_true rfl) dX2_join_38 (Nat.zero_le _) (Nat.zero_le _) (fun u9 => [(y0, .inr (2, [.int 2, .int (nI rn), .ref q1, .ref q2, .int mn, .ref q3, .ref q4, .int ct, .int il, .ref q5])), (q1, .inl (cA, (2, .inl sf))), (q2, .inl (cA, (60, .inl lf))), (q3, .inl (cA, (320, .inl rf))), (q4, .inl (cA, (320, .inl nf))), (q5, .inl (cA, (6, .inl gf)))]) (fun _ => rfl) (fun _ => rfl) (fun u H locs hw_1 hP hD hS => ?_)
      have hw_1 : True := hw_1
      have hP : va_P (dC, dI) vwCl [(y0, .inr (2, [.int 2, .int (nI rn), .ref q1, .ref q2, .int mn, .ref q3, .ref q4, .int ct, .int il, .ref q5])), (q1, .inl (cA, (2, .inl sf))), (q2, .inl (cA, (60, .inl lf))), (q3, .inl (cA, (320, .inl rf))), (q4, .inl (cA, (320, .inl nf))), (q5, .inl (cA, (6, .inl gf)))] H := hP
      have hD : va_D A [(y0, .inr (2, [.int 2, .int (nI rn), .ref q1, .ref q2, .int mn, .ref q3, .ref q4, .int ct, .int il, .ref q5])), (q1, .inl (cA, (2, .inl sf))), (q2, .inl (cA, (60, .inl lf))), (q3, .inl (cA, (320, .inl rf))), (q4, .inl (cA, (320, .inl nf))), (q5, .inl (cA, (6, .inl gf)))] := hD
      exact g_endMi hx hb hr hlocks hP hS dX2_join_41 () rfl rfl trivial
  · exact absurd c9 (by decide)

abbrev mt_X2_swap_rm : Room := { frames := 2, cells := 0, slots := 0, locals := 42 }
set_option maxHeartbeats 4000000 in
set_option maxRecDepth 100000 in
theorem mt_X2_swap (l : Launch) (dC : Nat → ClassId) (dI : Nat → Nat → Nat) (cA : ClassId) (sz : Nat) (y0 : Nat) (q1 : Nat) (q2 : Nat) (q3 : Nat) (q4 : Nat) (q5 : Nat) (rn : Nat) (tv : Int32) (sf : Nat → Int32) (lf : Nat → Int32) (mn : Int32) (rf : Nat → Int32) (nf : Nat → Int32) (ct : Int32) (il : Int32) (gf : Nat → Int32) (Vw : Nat → List Int32) (w : Nat) (k : Nat) (hW : MW Vw sf lf) (hw : w < 2) (hk : k + 1 < (Vw w).length) (hap : ¬ abI (abI (atL (Vw w) k) - abI (atL (Vw w) (k + 1))) < 2) : Met l yX2_swap wsX2_swap mt_X2_swap_rm (va_Pc [.ref y0, .int (nI w), .int (nI k)] (gB (dC, dI) [(cA, .int)] [(y0, .inr (2, [.int tv, .int (nI rn), .ref q1, .ref q2, .int mn, .ref q3, .ref q4, .int ct, .int il, .ref q5])), (q1, .inl (cA, (2, .inl sf))), (q2, .inl (cA, (60, .inl lf))), (q3, .inl (cA, (320, .inl rf))), (q4, .inl (cA, (320, .inl nf))), (q5, .inl (cA, (6, .inl gf)))] sz)) (gM (dC, dI) (some (.int (atL (Vw w) (k + 1)))) (fun u : (Nat → Int32) => MW (upW Vw w (((Vw w).set k (atL (Vw w) (k + 1))).set (k + 1) (atL (Vw w) k))) sf u) (fun u : (Nat → Int32) => [(y0, .inr (2, [.int 0, .int (nI rn), .ref q1, .ref q2, .int mn, .ref q3, .ref q4, .int ct, .int il, .ref q5])), (q1, .inl (cA, (2, .inl sf))), (q2, .inl (cA, (60, .inl u))), (q3, .inl (cA, (320, .inl rf))), (q4, .inl (cA, (320, .inl nf))), (q5, .inl (cA, (6, .inl gf)))]) (va_A [(y0, .inr (2, [.int tv, .int (nI rn), .ref q1, .ref q2, .int mn, .ref q3, .ref q4, .int ct, .int il, .ref q5])), (q1, .inl (cA, (2, .inl sf))), (q2, .inl (cA, (60, .inl lf))), (q3, .inl (cA, (320, .inl rf))), (q4, .inl (cA, (320, .inl nf))), (q5, .inl (cA, (6, .inl gf)))] sz)) 0 0 (va_A [(y0, .inr (2, [.int tv, .int (nI rn), .ref q1, .ref q2, .int mn, .ref q3, .ref q4, .int ct, .int il, .ref q5])), (q1, .inl (cA, (2, .inl sf))), (q2, .inl (cA, (60, .inl lf))), (q3, .inl (cA, (320, .inl rf))), (q4, .inl (cA, (320, .inl nf))), (q5, .inl (cA, (6, .inl gf)))] sz) := by
  refine g_ofM (cc := cX2_swap) (maxL := 5) (ret := (some .int)) (by decide) rfl (Nat.le_of_ble_eq_true rfl) (fun p e s m below meth c ls hx hb hr hml hts hown hlocks hP hK hl hin A hA hD hS => ?_)
  have hl : lv_has ls 5 [(0, .ref y0), (1, .int (nI w)), (2, .int (nI k))] := hl
  have hWl := (hW w hw).2.1
  refine lv_aload_n hx hb dX2_swap_0 rfl (lv_at hl 0 rfl) ?_
  refine lv_iconst (v := 0) hx hb dX2_swap_1 (by decide) ?_
  refine va_put (D := (dC, dI)) (ci := 2) (v := .int 0) (ty := .int) (C := RX2) (T := TX2) (N := 10) hx hb hts (in_X2_swap_2) tyX2 tyX2_ok nmX2 hown hK hP hD hS 0 rfl rfl 0 (by decide) (hts (.fieldLink RX2 29 "BraidWordsModel" "thrown" "I") (List.mem_of_getElem? (i := 1) rfl)) (fun _ h9 => h9) rfl (by decide +kernel) rfl rfl (Nat.le_of_ble_eq_true rfl) dX2_swap_2 (fun H locs hP hD hS => ?_)
  have hP : va_P (dC, dI) vwCl [(y0, .inr (2, [.int 0, .int (nI rn), .ref q1, .ref q2, .int mn, .ref q3, .ref q4, .int ct, .int il, .ref q5])), (q1, .inl (cA, (2, .inl sf))), (q2, .inl (cA, (60, .inl lf))), (q3, .inl (cA, (320, .inl rf))), (q4, .inl (cA, (320, .inl nf))), (q5, .inl (cA, (6, .inl gf)))] H := hP
  have hD : va_D A [(y0, .inr (2, [.int 0, .int (nI rn), .ref q1, .ref q2, .int mn, .ref q3, .ref q4, .int ct, .int il, .ref q5])), (q1, .inl (cA, (2, .inl sf))), (q2, .inl (cA, (60, .inl lf))), (q3, .inl (cA, (320, .inl rf))), (q4, .inl (cA, (320, .inl nf))), (q5, .inl (cA, (6, .inl gf)))] := hD
  refine lv_iload_n hx hb dX2_swap_5 rfl (lv_at hl 1 rfl) ?_
  refine g_RSi (As := [.int (nI w)]) (rest := []) ⟨hx, hb, hml, hown, hts⟩ (mt_X2_isWord l dC dI cA H.size (nI w)) (va_cwS 1 hts gX2_swap_X2_isWord rfl rfl rfl hdX2_isWord ⟨Nat.le_of_ble_eq_true rfl, Nat.le_of_ble_eq_true rfl⟩) hP hK hD [] (by decide) rfl rfl hl.1 rfl (Nat.le_of_ble_eq_true rfl) dX2_swap_6 (Nat.zero_le _) (Nat.zero_le _) ?_
  rw [show (inI (nI w) 0 1) = 1 from inI_w hw]
  refine lv_if_eq (tgt := 28) hx hb dX2_swap_9 (by decide) (fun c9 => ?_) (fun c9 => ?_)
  · exact absurd c9 (by decide)
  · have c9 : ¬ 1 = 0 := g_eqF 1 0 (by omega) (by omega) c9
    refine lv_iload_n hx hb dX2_swap_12 rfl (lv_at hl 2 rfl) ?_
    refine lv_iconst (v := 0) hx hb dX2_swap_13 (by decide) ?_
    refine lv_aload_n hx hb dX2_swap_14 rfl (lv_at hl 0 rfl) ?_
    refine va_get (D := (dC, dI)) (ci := 2) (v := .ref q1) (C := RX2) (T := TX2) (N := 10) hx hb hts (in_X2_swap_2) hown hK hP 0 rfl rfl 2 (by decide) (hts (.fieldLink RX2 13 "BraidWordsModel" "size" "[I") (List.mem_of_getElem? (i := 2) rfl)) (fun _ h9 => h9) rfl dX2_swap_15 ?_
    refine lv_iload_n hx hb dX2_swap_18 rfl (lv_at hl 1 rfl) ?_
    refine va_iald hx hb hK hP 1 0 rfl rfl (vp_in_nI (by omega) (by decide)) dX2_swap_19 ?_
    rw [show (nI w).toNatClampNeg = w from nI_clamp (by omega)]
    rw [(hW w (by omega)).1]
    refine lv_iconst (v := 2) hx hb dX2_swap_20 (by decide) ?_
    refine lv_isub hx hb dX2_swap_21 ?_
    refine g_RSi (As := [.int (nI k), .int 0, .int ((nI ((Vw w).length)) - 2)]) (rest := []) ⟨hx, hb, hml, hown, hts⟩ (mt_X2_isIn l dC dI cA H.size (nI k) 0 ((nI ((Vw w).length)) - 2)) (va_cwS 3 hts gX2_swap_X2_isIn rfl rfl rfl hdX2_isIn ⟨Nat.le_of_ble_eq_true rfl, Nat.le_of_ble_eq_true rfl⟩) hP hK hD [] (by decide) rfl rfl hl.1 rfl (Nat.le_of_ble_eq_true rfl) dX2_swap_22 (Nat.zero_le _) (Nat.zero_le _) ?_
    rw [show (inI (nI k) 0 ((nI ((Vw w).length)) - 2)) = 1 from inI_pl (d := 2) (by omega) (by omega) (by decide)]
    refine lv_if_ne (tgt := 34) hx hb dX2_swap_25 (by decide) (fun c25 => ?_) (fun c25 => ?_)
    · have c25 : ¬ 1 = 0 := g_neT 1 0 (by omega) (by omega) c25
      refine lv_aload_n hx hb dX2_swap_34 rfl (lv_at hl 0 rfl) ?_
      refine lv_iload_n hx hb dX2_swap_35 rfl (lv_at hl 1 rfl) ?_
      refine lv_iload_n hx hb dX2_swap_36 rfl (lv_at hl 2 rfl) ?_
      refine g_RVi (As := [.int (nI w), .int (nI k)]) (rest := []) ⟨hx, hb, hml, hown, hts⟩ (mt_X2_at l dC dI cA H.size y0 q1 q2 q3 q4 q5 rn 0 sf lf mn rf nf ct il gf w k (by first | omega | (simp only [List.length_append, List.length_cons, List.length_nil, List.length_set, turnL_len]; omega)) (by first | omega | (simp only [List.length_append, List.length_cons, List.length_nil, List.length_set, turnL_len]; omega))) (cwV 2 hts gX2_swap_X2_at rfl rfl rfl hdX2_at ⟨Nat.le_of_ble_eq_true rfl, Nat.le_of_ble_eq_true rfl⟩) hP hK hD [0, 1, 2, 3, 4, 5] (by decide) rfl (va_recv hK hP (ci := 2) (q0 := 0) rfl rfl) rfl hl.1 rfl (Nat.le_of_ble_eq_true rfl) dX2_swap_37 (Nat.zero_le _) (Nat.zero_le _) ?_
      rw [(hW w (by omega)).2.2 k (by omega)]
      refine lv_istore_n (lv' := [(3, .int (atL (Vw w) k)), (0, .ref y0), (1, .int (nI w)), (2, .int (nI k))]) hx hb dX2_swap_40 rfl hl (by decide) rfl (fun ls hl => ?_)
      refine lv_aload_n hx hb dX2_swap_41 rfl (lv_at hl 1 rfl) ?_
      refine lv_iload_n hx hb dX2_swap_42 rfl (lv_at hl 2 rfl) ?_
      refine lv_iload_n hx hb dX2_swap_43 rfl (lv_at hl 3 rfl) ?_
      refine lv_iconst (v := 1) hx hb dX2_swap_44 (by decide) ?_
      refine lv_iadd hx hb dX2_swap_45 ?_
      rw [show (nI k) + 1 = nI (k + 1) from nI_add k 1]
      refine g_RVi (As := [.int (nI w), .int (nI (k + 1))]) (rest := []) ⟨hx, hb, hml, hown, hts⟩ (mt_X2_at l dC dI cA H.size y0 q1 q2 q3 q4 q5 rn 0 sf lf mn rf nf ct il gf w (k + 1) (by first | omega | (simp only [List.length_append, List.length_cons, List.length_nil, List.length_set, turnL_len]; omega)) (by first | omega | (simp only [List.length_append, List.length_cons, List.length_nil, List.length_set, turnL_len]; omega))) (cwV 2 hts gX2_swap_X2_at rfl rfl rfl hdX2_at ⟨Nat.le_of_ble_eq_true rfl, Nat.le_of_ble_eq_true rfl⟩) hP hK hD [0, 1, 2, 3, 4, 5] (by decide) rfl (va_recv hK hP (ci := 2) (q0 := 0) rfl rfl) rfl hl.1 rfl (Nat.le_of_ble_eq_true rfl) dX2_swap_46 (Nat.zero_le _) (Nat.zero_le _) ?_
      rw [(hW w (by omega)).2.2 (k + 1) (by omega)]
      refine lv_istore (lv' := [(4, .int (atL (Vw w) (k + 1))), (3, .int (atL (Vw w) k)), (0, .ref y0), (1, .int (nI w)), (2, .int (nI k))]) hx hb dX2_swap_49 hl (by decide) rfl (fun ls hl => ?_)
      refine lv_iload_n hx hb dX2_swap_51 rfl (lv_at hl 1 rfl) ?_
      refine va_mabs hx hb (hml.trans hl.1.symm) hown (hts (.methodLink RX2 47 Lib.Math.abs.name) (List.mem_of_getElem? (i := 3) rfl)) (hts (.static Lib.Math.abs.name) (List.mem_of_getElem? (i := 4) rfl)) (hts (.initialized "java/lang/Math") (List.mem_of_getElem? (i := 5) rfl)) (hts (.code Lib.Math.abs.name Lib.Math.abs.code 1 (some .int)) (List.mem_of_getElem? (i := 6) rfl)) (Nat.le_of_ble_eq_true rfl) (Nat.le_of_ble_eq_true rfl) (Nat.zero_le _) (Nat.zero_le _) dX2_swap_52 ?_
      rw [mabs_eq]
      refine lv_iload hx hb dX2_swap_55 (lv_at hl 0 rfl) ?_
      refine va_mabs hx hb (hml.trans hl.1.symm) hown (hts (.methodLink RX2 47 Lib.Math.abs.name) (List.mem_of_getElem? (i := 3) rfl)) (hts (.static Lib.Math.abs.name) (List.mem_of_getElem? (i := 4) rfl)) (hts (.initialized "java/lang/Math") (List.mem_of_getElem? (i := 5) rfl)) (hts (.code Lib.Math.abs.name Lib.Math.abs.code 1 (some .int)) (List.mem_of_getElem? (i := 6) rfl)) (Nat.le_of_ble_eq_true rfl) (Nat.le_of_ble_eq_true rfl) (Nat.zero_le _) (Nat.zero_le _) dX2_swap_57 ?_
      rw [mabs_eq]
      refine lv_isub hx hb dX2_swap_60 ?_
      refine va_mabs hx hb (hml.trans hl.1.symm) hown (hts (.methodLink RX2 47 Lib.Math.abs.name) (List.mem_of_getElem? (i := 3) rfl)) (hts (.static Lib.Math.abs.name) (List.mem_of_getElem? (i := 4) rfl)) (hts (.initialized "java/lang/Math") (List.mem_of_getElem? (i := 5) rfl)) (hts (.code Lib.Math.abs.name Lib.Math.abs.code 1 (some .int)) (List.mem_of_getElem? (i := 6) rfl)) (Nat.le_of_ble_eq_true rfl) (Nat.le_of_ble_eq_true rfl) (Nat.zero_le _) (Nat.zero_le _) dX2_swap_61 ?_
      rw [mabs_eq]
      refine lv_iconst (v := 2) hx hb dX2_swap_64 (by decide) ?_
      refine lv_icmp_ge (tgt := 74) hx hb dX2_swap_65 (by decide) (fun c65 => ?_) (fun c65 => ?_)
      · refine lv_aload_n hx hb dX2_swap_74 rfl (lv_at hl 2 rfl) ?_
        refine lv_iload_n hx hb dX2_swap_75 rfl (lv_at hl 3 rfl) ?_
        refine lv_iload_n hx hb dX2_swap_76 rfl (lv_at hl 4 rfl) ?_
        refine lv_iload hx hb dX2_swap_77 (lv_at hl 0 rfl) ?_
        refine g_MVv (As := [.int (nI w), .int (nI k), .int (atL (Vw w) (k + 1))]) (rest := []) ⟨hx, hb, hml, hown, hts⟩ (mt_X2_put l dC dI cA H.size y0 q1 q2 q3 q4 q5 rn 0 sf lf mn rf nf ct il gf w k (atL (Vw w) (k + 1)) (by first | omega | (simp only [List.length_append, List.length_cons, List.length_nil, List.length_set, turnL_len]; omega)) (by first | omega | (simp only [List.length_append, List.length_cons, List.length_nil, List.length_set, turnL_len]; omega))) (cwV 3 hts gX2_swap_X2_put rfl rfl rfl hdX2_put ⟨Nat.le_of_ble_eq_true rfl, Nat.le_of_ble_eq_true rfl⟩) hP hK hD hS hA [0, 1, 2, 3, 4, 5] (by decide) rfl (va_recv hK hP (ci := 2) (q0 := 0) rfl rfl) rfl hl.1 rfl (Nat.le_of_ble_eq_true rfl) dX2_swap_79 (Nat.zero_le _) (Nat.zero_le _) (fun u9 => [(y0, .inr (2, [.int 0, .int (nI rn), .ref q1, .ref q2, .int mn, .ref q3, .ref q4, .int ct, .int il, .ref q5])), (q1, .inl (cA, (2, .inl sf))), (q2, .inl (cA, (60, .inl (upd lf (30 * w + k) (atL (Vw w) (k + 1)))))), (q3, .inl (cA, (320, .inl rf))), (q4, .inl (cA, (320, .inl nf))), (q5, .inl (cA, (6, .inl gf)))]) (fun _ => rfl) (fun _ => rfl) (fun u H locs hw_1 hP hD hS => ?_)
        have hw_1 : True := hw_1
        have hP : va_P (dC, dI) vwCl [(y0, .inr (2, [.int 0, .int (nI rn), .ref q1, .ref q2, .int mn, .ref q3, .ref q4, .int ct, .int il, .ref q5])), (q1, .inl (cA, (2, .inl sf))), (q2, .inl (cA, (60, .inl (upd lf (30 * w + k) (atL (Vw w) (k + 1)))))), (q3, .inl (cA, (320, .inl rf))), (q4, .inl (cA, (320, .inl nf))), (q5, .inl (cA, (6, .inl gf)))] H := hP
        have hD : va_D A [(y0, .inr (2, [.int 0, .int (nI rn), .ref q1, .ref q2, .int mn, .ref q3, .ref q4, .int ct, .int il, .ref q5])), (q1, .inl (cA, (2, .inl sf))), (q2, .inl (cA, (60, .inl (upd lf (30 * w + k) (atL (Vw w) (k + 1)))))), (q3, .inl (cA, (320, .inl rf))), (q4, .inl (cA, (320, .inl nf))), (q5, .inl (cA, (6, .inl gf)))] := hD
        refine lv_aload_n hx hb dX2_swap_82 rfl (lv_at hl 2 rfl) ?_
        refine lv_iload_n hx hb dX2_swap_83 rfl (lv_at hl 3 rfl) ?_
        refine lv_iload_n hx hb dX2_swap_84 rfl (lv_at hl 4 rfl) ?_
        refine lv_iconst (v := 1) hx hb dX2_swap_85 (by decide) ?_
        refine lv_iadd hx hb dX2_swap_86 ?_
        rw [show (nI k) + 1 = nI (k + 1) from nI_add k 1]
        refine lv_iload_n hx hb dX2_swap_87 rfl (lv_at hl 1 rfl) ?_
        refine g_MVv (As := [.int (nI w), .int (nI (k + 1)), .int (atL (Vw w) k)]) (rest := []) ⟨hx, hb, hml, hown, hts⟩ (mt_X2_put l dC dI cA H.size y0 q1 q2 q3 q4 q5 rn 0 sf (upd lf (30 * w + k) (atL (Vw w) (k + 1))) mn rf nf ct il gf w (k + 1) (atL (Vw w) k) (by first | omega | (simp only [List.length_append, List.length_cons, List.length_nil, List.length_set, turnL_len]; omega)) (by first | omega | (simp only [List.length_append, List.length_cons, List.length_nil, List.length_set, turnL_len]; omega))) (cwV 3 hts gX2_swap_X2_put rfl rfl rfl hdX2_put ⟨Nat.le_of_ble_eq_true rfl, Nat.le_of_ble_eq_true rfl⟩) hP hK hD hS hA [0, 1, 2, 3, 4, 5] (by decide) rfl (va_recv hK hP (ci := 2) (q0 := 0) rfl rfl) rfl hl.1 rfl (Nat.le_of_ble_eq_true rfl) dX2_swap_88 (Nat.zero_le _) (Nat.zero_le _) (fun u9 => [(y0, .inr (2, [.int 0, .int (nI rn), .ref q1, .ref q2, .int mn, .ref q3, .ref q4, .int ct, .int il, .ref q5])), (q1, .inl (cA, (2, .inl sf))), (q2, .inl (cA, (60, .inl (upd (upd lf (30 * w + k) (atL (Vw w) (k + 1))) (30 * w + (k + 1)) (atL (Vw w) k))))), (q3, .inl (cA, (320, .inl rf))), (q4, .inl (cA, (320, .inl nf))), (q5, .inl (cA, (6, .inl gf)))]) (fun _ => rfl) (fun _ => rfl) (fun u H locs hw_2 hP hD hS => ?_)
        have hw_2 : True := hw_2
        have hP : va_P (dC, dI) vwCl [(y0, .inr (2, [.int 0, .int (nI rn), .ref q1, .ref q2, .int mn, .ref q3, .ref q4, .int ct, .int il, .ref q5])), (q1, .inl (cA, (2, .inl sf))), (q2, .inl (cA, (60, .inl (upd (upd lf (30 * w + k) (atL (Vw w) (k + 1))) (30 * w + (k + 1)) (atL (Vw w) k))))), (q3, .inl (cA, (320, .inl rf))), (q4, .inl (cA, (320, .inl nf))), (q5, .inl (cA, (6, .inl gf)))] H := hP
        have hD : va_D A [(y0, .inr (2, [.int 0, .int (nI rn), .ref q1, .ref q2, .int mn, .ref q3, .ref q4, .int ct, .int il, .ref q5])), (q1, .inl (cA, (2, .inl sf))), (q2, .inl (cA, (60, .inl (upd (upd lf (30 * w + k) (atL (Vw w) (k + 1))) (30 * w + (k + 1)) (atL (Vw w) k))))), (q3, .inl (cA, (320, .inl rf))), (q4, .inl (cA, (320, .inl nf))), (q5, .inl (cA, (6, .inl gf)))] := hD
        refine lv_iload hx hb dX2_swap_91 (lv_at hl 0 rfl) ?_
        exact g_endMi hx hb hr hlocks hP hS dX2_swap_93 (upd (upd lf (30 * w + k) (atL (Vw w) (k + 1))) (30 * w + (k + 1)) (atL (Vw w) k)) rfl rfl (MW_set2 hW hw (by omega) (by omega))
      · exact absurd (Int32.not_le.mp c65) hap
    · exact absurd c25 (by decide)

abbrev mt_X2_swap_1b_rm : Room := { frames := 2, cells := 0, slots := 0, locals := 42 }
set_option maxHeartbeats 4000000 in
set_option maxRecDepth 100000 in
theorem mt_X2_swap_1b (l : Launch) (dC : Nat → ClassId) (dI : Nat → Nat → Nat) (cA : ClassId) (sz : Nat) (y0 : Nat) (q1 : Nat) (q2 : Nat) (q3 : Nat) (q4 : Nat) (q5 : Nat) (rn : Nat) (tv : Int32) (sf : Nat → Int32) (lf : Nat → Int32) (mn : Int32) (rf : Nat → Int32) (nf : Nat → Int32) (ct : Int32) (il : Int32) (gf : Nat → Int32) (Vw : Nat → List Int32) (w : Nat) (x : Int32) (hW : MW Vw sf lf) (hw : w < 2) (hbad : x < 0 ∨ nI ((Vw w).length - 1) ≤ x) : Met l yX2_swap wsX2_swap mt_X2_swap_1b_rm (va_Pc [.ref y0, .int (nI w), .int x] (gB (dC, dI) [(cA, .int)] [(y0, .inr (2, [.int tv, .int (nI rn), .ref q1, .ref q2, .int mn, .ref q3, .ref q4, .int ct, .int il, .ref q5])), (q1, .inl (cA, (2, .inl sf))), (q2, .inl (cA, (60, .inl lf))), (q3, .inl (cA, (320, .inl rf))), (q4, .inl (cA, (320, .inl nf))), (q5, .inl (cA, (6, .inl gf)))] sz)) (gM (dC, dI) (some (.int 0)) (fun u : Unit => True) (fun u : Unit => [(y0, .inr (2, [.int 1, .int (nI rn), .ref q1, .ref q2, .int mn, .ref q3, .ref q4, .int ct, .int il, .ref q5])), (q1, .inl (cA, (2, .inl sf))), (q2, .inl (cA, (60, .inl lf))), (q3, .inl (cA, (320, .inl rf))), (q4, .inl (cA, (320, .inl nf))), (q5, .inl (cA, (6, .inl gf)))]) (va_A [(y0, .inr (2, [.int tv, .int (nI rn), .ref q1, .ref q2, .int mn, .ref q3, .ref q4, .int ct, .int il, .ref q5])), (q1, .inl (cA, (2, .inl sf))), (q2, .inl (cA, (60, .inl lf))), (q3, .inl (cA, (320, .inl rf))), (q4, .inl (cA, (320, .inl nf))), (q5, .inl (cA, (6, .inl gf)))] sz)) 0 0 (va_A [(y0, .inr (2, [.int tv, .int (nI rn), .ref q1, .ref q2, .int mn, .ref q3, .ref q4, .int ct, .int il, .ref q5])), (q1, .inl (cA, (2, .inl sf))), (q2, .inl (cA, (60, .inl lf))), (q3, .inl (cA, (320, .inl rf))), (q4, .inl (cA, (320, .inl nf))), (q5, .inl (cA, (6, .inl gf)))] sz) := by
  refine g_ofM (cc := cX2_swap) (maxL := 5) (ret := (some .int)) (by decide) rfl (Nat.le_of_ble_eq_true rfl) (fun p e s m below meth c ls hx hb hr hml hts hown hlocks hP hK hl hin A hA hD hS => ?_)
  have hl : lv_has ls 5 [(0, .ref y0), (1, .int (nI w)), (2, .int x)] := hl
  have hWl := (hW w hw).2.1
  refine lv_aload_n hx hb dX2_swap_0 rfl (lv_at hl 0 rfl) ?_
  refine lv_iconst (v := 0) hx hb dX2_swap_1 (by decide) ?_
  refine va_put (D := (dC, dI)) (ci := 2) (v := .int 0) (ty := .int) (C := RX2) (T := TX2) (N := 10) hx hb hts (in_X2_swap_2) tyX2 tyX2_ok nmX2 hown hK hP hD hS 0 rfl rfl 0 (by decide) (hts (.fieldLink RX2 29 "BraidWordsModel" "thrown" "I") (List.mem_of_getElem? (i := 1) rfl)) (fun _ h9 => h9) rfl (by decide +kernel) rfl rfl (Nat.le_of_ble_eq_true rfl) dX2_swap_2 (fun H locs hP hD hS => ?_)
  have hP : va_P (dC, dI) vwCl [(y0, .inr (2, [.int 0, .int (nI rn), .ref q1, .ref q2, .int mn, .ref q3, .ref q4, .int ct, .int il, .ref q5])), (q1, .inl (cA, (2, .inl sf))), (q2, .inl (cA, (60, .inl lf))), (q3, .inl (cA, (320, .inl rf))), (q4, .inl (cA, (320, .inl nf))), (q5, .inl (cA, (6, .inl gf)))] H := hP
  have hD : va_D A [(y0, .inr (2, [.int 0, .int (nI rn), .ref q1, .ref q2, .int mn, .ref q3, .ref q4, .int ct, .int il, .ref q5])), (q1, .inl (cA, (2, .inl sf))), (q2, .inl (cA, (60, .inl lf))), (q3, .inl (cA, (320, .inl rf))), (q4, .inl (cA, (320, .inl nf))), (q5, .inl (cA, (6, .inl gf)))] := hD
  refine lv_iload_n hx hb dX2_swap_5 rfl (lv_at hl 1 rfl) ?_
  refine g_RSi (As := [.int (nI w)]) (rest := []) ⟨hx, hb, hml, hown, hts⟩ (mt_X2_isWord l dC dI cA H.size (nI w)) (va_cwS 1 hts gX2_swap_X2_isWord rfl rfl rfl hdX2_isWord ⟨Nat.le_of_ble_eq_true rfl, Nat.le_of_ble_eq_true rfl⟩) hP hK hD [] (by decide) rfl rfl hl.1 rfl (Nat.le_of_ble_eq_true rfl) dX2_swap_6 (Nat.zero_le _) (Nat.zero_le _) ?_
  rw [show (inI (nI w) 0 1) = 1 from inI_w hw]
  refine lv_if_eq (tgt := 28) hx hb dX2_swap_9 (by decide) (fun c9 => ?_) (fun c9 => ?_)
  · exact absurd c9 (by decide)
  · have c9 : ¬ 1 = 0 := g_eqF 1 0 (by omega) (by omega) c9
    refine lv_iload_n hx hb dX2_swap_12 rfl (lv_at hl 2 rfl) ?_
    refine lv_iconst (v := 0) hx hb dX2_swap_13 (by decide) ?_
    refine lv_aload_n hx hb dX2_swap_14 rfl (lv_at hl 0 rfl) ?_
    refine va_get (D := (dC, dI)) (ci := 2) (v := .ref q1) (C := RX2) (T := TX2) (N := 10) hx hb hts (in_X2_swap_2) hown hK hP 0 rfl rfl 2 (by decide) (hts (.fieldLink RX2 13 "BraidWordsModel" "size" "[I") (List.mem_of_getElem? (i := 2) rfl)) (fun _ h9 => h9) rfl dX2_swap_15 ?_
    refine lv_iload_n hx hb dX2_swap_18 rfl (lv_at hl 1 rfl) ?_
    refine va_iald hx hb hK hP 1 0 rfl rfl (vp_in_nI (by omega) (by decide)) dX2_swap_19 ?_
    rw [show (nI w).toNatClampNeg = w from nI_clamp (by omega)]
    rw [(hW w (by omega)).1]
    refine lv_iconst (v := 2) hx hb dX2_swap_20 (by decide) ?_
    refine lv_isub hx hb dX2_swap_21 ?_
    refine g_RSi (As := [.int x, .int 0, .int ((nI ((Vw w).length)) - 2)]) (rest := []) ⟨hx, hb, hml, hown, hts⟩ (mt_X2_isIn l dC dI cA H.size x 0 ((nI ((Vw w).length)) - 2)) (va_cwS 3 hts gX2_swap_X2_isIn rfl rfl rfl hdX2_isIn ⟨Nat.le_of_ble_eq_true rfl, Nat.le_of_ble_eq_true rfl⟩) hP hK hD [] (by decide) rfl rfl hl.1 rfl (Nat.le_of_ble_eq_true rfl) dX2_swap_22 (Nat.zero_le _) (Nat.zero_le _) ?_
    rw [show (inI x 0 ((nI ((Vw w).length)) - 2)) = 0 from inI_b (d := 2) hWl (by omega) hbad]
    refine lv_if_ne (tgt := 34) hx hb dX2_swap_25 (by decide) (fun c25 => ?_) (fun c25 => ?_)
    · exact absurd (by decide) c25
    · have c25 : 0 = 0 := g_neF 0 0 (by omega) (by omega) c25
      refine lv_aload_n hx hb dX2_swap_28 rfl (lv_at hl 0 rfl) ?_
      refine lv_iconst (v := 1) hx hb dX2_swap_29 (by decide) ?_
      refine g_MVi (As := [.int 1]) (rest := []) ⟨hx, hb, hml, hown, hts⟩ (mt_X2_no l dC dI cA H.size y0 q1 q2 q3 q4 q5 rn 0 sf lf mn rf nf ct il gf 1) (cwV 1 hts gX2_swap_X2_no rfl rfl rfl hdX2_no ⟨Nat.le_of_ble_eq_true rfl, Nat.le_of_ble_eq_true rfl⟩) hP hK hD hS hA [0, 1, 2, 3, 4, 5] (by decide) rfl (va_recv hK hP (ci := 2) (q0 := 0) rfl rfl) rfl hl.1 rfl (Nat.le_of_ble_eq_true rfl) dX2_swap_30 (Nat.zero_le _) (Nat.zero_le _) (fun u9 => [(y0, .inr (2, [.int 1, .int (nI rn), .ref q1, .ref q2, .int mn, .ref q3, .ref q4, .int ct, .int il, .ref q5])), (q1, .inl (cA, (2, .inl sf))), (q2, .inl (cA, (60, .inl lf))), (q3, .inl (cA, (320, .inl rf))), (q4, .inl (cA, (320, .inl nf))), (q5, .inl (cA, (6, .inl gf)))]) (fun _ => rfl) (fun _ => rfl) (fun u H locs hw_1 hP hD hS => ?_)
      have hw_1 : True := hw_1
      have hP : va_P (dC, dI) vwCl [(y0, .inr (2, [.int 1, .int (nI rn), .ref q1, .ref q2, .int mn, .ref q3, .ref q4, .int ct, .int il, .ref q5])), (q1, .inl (cA, (2, .inl sf))), (q2, .inl (cA, (60, .inl lf))), (q3, .inl (cA, (320, .inl rf))), (q4, .inl (cA, (320, .inl nf))), (q5, .inl (cA, (6, .inl gf)))] H := hP
      have hD : va_D A [(y0, .inr (2, [.int 1, .int (nI rn), .ref q1, .ref q2, .int mn, .ref q3, .ref q4, .int ct, .int il, .ref q5])), (q1, .inl (cA, (2, .inl sf))), (q2, .inl (cA, (60, .inl lf))), (q3, .inl (cA, (320, .inl rf))), (q4, .inl (cA, (320, .inl nf))), (q5, .inl (cA, (6, .inl gf)))] := hD
      exact g_endMi hx hb hr hlocks hP hS dX2_swap_33 () rfl rfl trivial

abbrev mt_X2_swap_2_rm : Room := { frames := 2, cells := 0, slots := 0, locals := 42 }
set_option maxHeartbeats 4000000 in
set_option maxRecDepth 100000 in
theorem mt_X2_swap_2 (l : Launch) (dC : Nat → ClassId) (dI : Nat → Nat → Nat) (cA : ClassId) (sz : Nat) (y0 : Nat) (q1 : Nat) (q2 : Nat) (q3 : Nat) (q4 : Nat) (q5 : Nat) (rn : Nat) (tv : Int32) (sf : Nat → Int32) (lf : Nat → Int32) (mn : Int32) (rf : Nat → Int32) (nf : Nat → Int32) (ct : Int32) (il : Int32) (gf : Nat → Int32) (Vw : Nat → List Int32) (w : Nat) (k : Nat) (hW : MW Vw sf lf) (hw : w < 2) (hk : k + 1 < (Vw w).length) (hap : abI (abI (atL (Vw w) k) - abI (atL (Vw w) (k + 1))) < 2) : Met l yX2_swap wsX2_swap mt_X2_swap_2_rm (va_Pc [.ref y0, .int (nI w), .int (nI k)] (gB (dC, dI) [(cA, .int)] [(y0, .inr (2, [.int tv, .int (nI rn), .ref q1, .ref q2, .int mn, .ref q3, .ref q4, .int ct, .int il, .ref q5])), (q1, .inl (cA, (2, .inl sf))), (q2, .inl (cA, (60, .inl lf))), (q3, .inl (cA, (320, .inl rf))), (q4, .inl (cA, (320, .inl nf))), (q5, .inl (cA, (6, .inl gf)))] sz)) (gM (dC, dI) (some (.int 0)) (fun u : Unit => True) (fun u : Unit => [(y0, .inr (2, [.int 2, .int (nI rn), .ref q1, .ref q2, .int mn, .ref q3, .ref q4, .int ct, .int il, .ref q5])), (q1, .inl (cA, (2, .inl sf))), (q2, .inl (cA, (60, .inl lf))), (q3, .inl (cA, (320, .inl rf))), (q4, .inl (cA, (320, .inl nf))), (q5, .inl (cA, (6, .inl gf)))]) (va_A [(y0, .inr (2, [.int tv, .int (nI rn), .ref q1, .ref q2, .int mn, .ref q3, .ref q4, .int ct, .int il, .ref q5])), (q1, .inl (cA, (2, .inl sf))), (q2, .inl (cA, (60, .inl lf))), (q3, .inl (cA, (320, .inl rf))), (q4, .inl (cA, (320, .inl nf))), (q5, .inl (cA, (6, .inl gf)))] sz)) 0 0 (va_A [(y0, .inr (2, [.int tv, .int (nI rn), .ref q1, .ref q2, .int mn, .ref q3, .ref q4, .int ct, .int il, .ref q5])), (q1, .inl (cA, (2, .inl sf))), (q2, .inl (cA, (60, .inl lf))), (q3, .inl (cA, (320, .inl rf))), (q4, .inl (cA, (320, .inl nf))), (q5, .inl (cA, (6, .inl gf)))] sz) := by
  refine g_ofM (cc := cX2_swap) (maxL := 5) (ret := (some .int)) (by decide) rfl (Nat.le_of_ble_eq_true rfl) (fun p e s m below meth c ls hx hb hr hml hts hown hlocks hP hK hl hin A hA hD hS => ?_)
  have hl : lv_has ls 5 [(0, .ref y0), (1, .int (nI w)), (2, .int (nI k))] := hl
  have hWl := (hW w hw).2.1
  refine lv_aload_n hx hb dX2_swap_0 rfl (lv_at hl 0 rfl) ?_
  refine lv_iconst (v := 0) hx hb dX2_swap_1 (by decide) ?_
  refine va_put (D := (dC, dI)) (ci := 2) (v := .int 0) (ty := .int) (C := RX2) (T := TX2) (N := 10) hx hb hts (in_X2_swap_2) tyX2 tyX2_ok nmX2 hown hK hP hD hS 0 rfl rfl 0 (by decide) (hts (.fieldLink RX2 29 "BraidWordsModel" "thrown" "I") (List.mem_of_getElem? (i := 1) rfl)) (fun _ h9 => h9) rfl (by decide +kernel) rfl rfl (Nat.le_of_ble_eq_true rfl) dX2_swap_2 (fun H locs hP hD hS => ?_)
  have hP : va_P (dC, dI) vwCl [(y0, .inr (2, [.int 0, .int (nI rn), .ref q1, .ref q2, .int mn, .ref q3, .ref q4, .int ct, .int il, .ref q5])), (q1, .inl (cA, (2, .inl sf))), (q2, .inl (cA, (60, .inl lf))), (q3, .inl (cA, (320, .inl rf))), (q4, .inl (cA, (320, .inl nf))), (q5, .inl (cA, (6, .inl gf)))] H := hP
  have hD : va_D A [(y0, .inr (2, [.int 0, .int (nI rn), .ref q1, .ref q2, .int mn, .ref q3, .ref q4, .int ct, .int il, .ref q5])), (q1, .inl (cA, (2, .inl sf))), (q2, .inl (cA, (60, .inl lf))), (q3, .inl (cA, (320, .inl rf))), (q4, .inl (cA, (320, .inl nf))), (q5, .inl (cA, (6, .inl gf)))] := hD
  refine lv_iload_n hx hb dX2_swap_5 rfl (lv_at hl 1 rfl) ?_
  refine g_RSi (As := [.int (nI w)]) (rest := []) ⟨hx, hb, hml, hown, hts⟩ (mt_X2_isWord l dC dI cA H.size (nI w)) (va_cwS 1 hts gX2_swap_X2_isWord rfl rfl rfl hdX2_isWord ⟨Nat.le_of_ble_eq_true rfl, Nat.le_of_ble_eq_true rfl⟩) hP hK hD [] (by decide) rfl rfl hl.1 rfl (Nat.le_of_ble_eq_true rfl) dX2_swap_6 (Nat.zero_le _) (Nat.zero_le _) ?_
  rw [show (inI (nI w) 0 1) = 1 from inI_w hw]
  refine lv_if_eq (tgt := 28) hx hb dX2_swap_9 (by decide) (fun c9 => ?_) (fun c9 => ?_)
  · exact absurd c9 (by decide)
  · have c9 : ¬ 1 = 0 := g_eqF 1 0 (by omega) (by omega) c9
    refine lv_iload_n hx hb dX2_swap_12 rfl (lv_at hl 2 rfl) ?_
    refine lv_iconst (v := 0) hx hb dX2_swap_13 (by decide) ?_
    refine lv_aload_n hx hb dX2_swap_14 rfl (lv_at hl 0 rfl) ?_
    refine va_get (D := (dC, dI)) (ci := 2) (v := .ref q1) (C := RX2) (T := TX2) (N := 10) hx hb hts (in_X2_swap_2) hown hK hP 0 rfl rfl 2 (by decide) (hts (.fieldLink RX2 13 "BraidWordsModel" "size" "[I") (List.mem_of_getElem? (i := 2) rfl)) (fun _ h9 => h9) rfl dX2_swap_15 ?_
    refine lv_iload_n hx hb dX2_swap_18 rfl (lv_at hl 1 rfl) ?_
    refine va_iald hx hb hK hP 1 0 rfl rfl (vp_in_nI (by omega) (by decide)) dX2_swap_19 ?_
    rw [show (nI w).toNatClampNeg = w from nI_clamp (by omega)]
    rw [(hW w (by omega)).1]
    refine lv_iconst (v := 2) hx hb dX2_swap_20 (by decide) ?_
    refine lv_isub hx hb dX2_swap_21 ?_
    refine g_RSi (As := [.int (nI k), .int 0, .int ((nI ((Vw w).length)) - 2)]) (rest := []) ⟨hx, hb, hml, hown, hts⟩ (mt_X2_isIn l dC dI cA H.size (nI k) 0 ((nI ((Vw w).length)) - 2)) (va_cwS 3 hts gX2_swap_X2_isIn rfl rfl rfl hdX2_isIn ⟨Nat.le_of_ble_eq_true rfl, Nat.le_of_ble_eq_true rfl⟩) hP hK hD [] (by decide) rfl rfl hl.1 rfl (Nat.le_of_ble_eq_true rfl) dX2_swap_22 (Nat.zero_le _) (Nat.zero_le _) ?_
    rw [show (inI (nI k) 0 ((nI ((Vw w).length)) - 2)) = 1 from inI_pl (d := 2) (by omega) (by omega) (by decide)]
    refine lv_if_ne (tgt := 34) hx hb dX2_swap_25 (by decide) (fun c25 => ?_) (fun c25 => ?_)
    · have c25 : ¬ 1 = 0 := g_neT 1 0 (by omega) (by omega) c25
      refine lv_aload_n hx hb dX2_swap_34 rfl (lv_at hl 0 rfl) ?_
      refine lv_iload_n hx hb dX2_swap_35 rfl (lv_at hl 1 rfl) ?_
      refine lv_iload_n hx hb dX2_swap_36 rfl (lv_at hl 2 rfl) ?_
      refine g_RVi (As := [.int (nI w), .int (nI k)]) (rest := []) ⟨hx, hb, hml, hown, hts⟩ (mt_X2_at l dC dI cA H.size y0 q1 q2 q3 q4 q5 rn 0 sf lf mn rf nf ct il gf w k (by first | omega | (simp only [List.length_append, List.length_cons, List.length_nil, List.length_set, turnL_len]; omega)) (by first | omega | (simp only [List.length_append, List.length_cons, List.length_nil, List.length_set, turnL_len]; omega))) (cwV 2 hts gX2_swap_X2_at rfl rfl rfl hdX2_at ⟨Nat.le_of_ble_eq_true rfl, Nat.le_of_ble_eq_true rfl⟩) hP hK hD [0, 1, 2, 3, 4, 5] (by decide) rfl (va_recv hK hP (ci := 2) (q0 := 0) rfl rfl) rfl hl.1 rfl (Nat.le_of_ble_eq_true rfl) dX2_swap_37 (Nat.zero_le _) (Nat.zero_le _) ?_
      rw [(hW w (by omega)).2.2 k (by omega)]
      refine lv_istore_n (lv' := [(3, .int (atL (Vw w) k)), (0, .ref y0), (1, .int (nI w)), (2, .int (nI k))]) hx hb dX2_swap_40 rfl hl (by decide) rfl (fun ls hl => ?_)
      refine lv_aload_n hx hb dX2_swap_41 rfl (lv_at hl 1 rfl) ?_
      refine lv_iload_n hx hb dX2_swap_42 rfl (lv_at hl 2 rfl) ?_
      refine lv_iload_n hx hb dX2_swap_43 rfl (lv_at hl 3 rfl) ?_
      refine lv_iconst (v := 1) hx hb dX2_swap_44 (by decide) ?_
      refine lv_iadd hx hb dX2_swap_45 ?_
      rw [show (nI k) + 1 = nI (k + 1) from nI_add k 1]
      refine g_RVi (As := [.int (nI w), .int (nI (k + 1))]) (rest := []) ⟨hx, hb, hml, hown, hts⟩ (mt_X2_at l dC dI cA H.size y0 q1 q2 q3 q4 q5 rn 0 sf lf mn rf nf ct il gf w (k + 1) (by first | omega | (simp only [List.length_append, List.length_cons, List.length_nil, List.length_set, turnL_len]; omega)) (by first | omega | (simp only [List.length_append, List.length_cons, List.length_nil, List.length_set, turnL_len]; omega))) (cwV 2 hts gX2_swap_X2_at rfl rfl rfl hdX2_at ⟨Nat.le_of_ble_eq_true rfl, Nat.le_of_ble_eq_true rfl⟩) hP hK hD [0, 1, 2, 3, 4, 5] (by decide) rfl (va_recv hK hP (ci := 2) (q0 := 0) rfl rfl) rfl hl.1 rfl (Nat.le_of_ble_eq_true rfl) dX2_swap_46 (Nat.zero_le _) (Nat.zero_le _) ?_
      rw [(hW w (by omega)).2.2 (k + 1) (by omega)]
      refine lv_istore (lv' := [(4, .int (atL (Vw w) (k + 1))), (3, .int (atL (Vw w) k)), (0, .ref y0), (1, .int (nI w)), (2, .int (nI k))]) hx hb dX2_swap_49 hl (by decide) rfl (fun ls hl => ?_)
      refine lv_iload_n hx hb dX2_swap_51 rfl (lv_at hl 1 rfl) ?_
      refine va_mabs hx hb (hml.trans hl.1.symm) hown (hts (.methodLink RX2 47 Lib.Math.abs.name) (List.mem_of_getElem? (i := 3) rfl)) (hts (.static Lib.Math.abs.name) (List.mem_of_getElem? (i := 4) rfl)) (hts (.initialized "java/lang/Math") (List.mem_of_getElem? (i := 5) rfl)) (hts (.code Lib.Math.abs.name Lib.Math.abs.code 1 (some .int)) (List.mem_of_getElem? (i := 6) rfl)) (Nat.le_of_ble_eq_true rfl) (Nat.le_of_ble_eq_true rfl) (Nat.zero_le _) (Nat.zero_le _) dX2_swap_52 ?_
      rw [mabs_eq]
      refine lv_iload hx hb dX2_swap_55 (lv_at hl 0 rfl) ?_
      refine va_mabs hx hb (hml.trans hl.1.symm) hown (hts (.methodLink RX2 47 Lib.Math.abs.name) (List.mem_of_getElem? (i := 3) rfl)) (hts (.static Lib.Math.abs.name) (List.mem_of_getElem? (i := 4) rfl)) (hts (.initialized "java/lang/Math") (List.mem_of_getElem? (i := 5) rfl)) (hts (.code Lib.Math.abs.name Lib.Math.abs.code 1 (some .int)) (List.mem_of_getElem? (i := 6) rfl)) (Nat.le_of_ble_eq_true rfl) (Nat.le_of_ble_eq_true rfl) (Nat.zero_le _) (Nat.zero_le _) dX2_swap_57 ?_
      rw [mabs_eq]
      refine lv_isub hx hb dX2_swap_60 ?_
      refine va_mabs hx hb (hml.trans hl.1.symm) hown (hts (.methodLink RX2 47 Lib.Math.abs.name) (List.mem_of_getElem? (i := 3) rfl)) (hts (.static Lib.Math.abs.name) (List.mem_of_getElem? (i := 4) rfl)) (hts (.initialized "java/lang/Math") (List.mem_of_getElem? (i := 5) rfl)) (hts (.code Lib.Math.abs.name Lib.Math.abs.code 1 (some .int)) (List.mem_of_getElem? (i := 6) rfl)) (Nat.le_of_ble_eq_true rfl) (Nat.le_of_ble_eq_true rfl) (Nat.zero_le _) (Nat.zero_le _) dX2_swap_61 ?_
      rw [mabs_eq]
      refine lv_iconst (v := 2) hx hb dX2_swap_64 (by decide) ?_
      refine lv_icmp_ge (tgt := 74) hx hb dX2_swap_65 (by decide) (fun c65 => ?_) (fun c65 => ?_)
      · exact absurd hap (Int32.not_lt.mpr c65)
      · refine lv_aload_n hx hb dX2_swap_68 rfl (lv_at hl 2 rfl) ?_
        refine lv_iconst (v := 2) hx hb dX2_swap_69 (by decide) ?_
        refine g_MVi (As := [.int 2]) (rest := []) ⟨hx, hb, hml, hown, hts⟩ (mt_X2_no l dC dI cA H.size y0 q1 q2 q3 q4 q5 rn 0 sf lf mn rf nf ct il gf 2) (cwV 1 hts gX2_swap_X2_no rfl rfl rfl hdX2_no ⟨Nat.le_of_ble_eq_true rfl, Nat.le_of_ble_eq_true rfl⟩) hP hK hD hS hA [0, 1, 2, 3, 4, 5] (by decide) rfl (va_recv hK hP (ci := 2) (q0 := 0) rfl rfl) rfl hl.1 rfl (Nat.le_of_ble_eq_true rfl) dX2_swap_70 (Nat.zero_le _) (Nat.zero_le _) (fun u9 => [(y0, .inr (2, [.int 2, .int (nI rn), .ref q1, .ref q2, .int mn, .ref q3, .ref q4, .int ct, .int il, .ref q5])), (q1, .inl (cA, (2, .inl sf))), (q2, .inl (cA, (60, .inl lf))), (q3, .inl (cA, (320, .inl rf))), (q4, .inl (cA, (320, .inl nf))), (q5, .inl (cA, (6, .inl gf)))]) (fun _ => rfl) (fun _ => rfl) (fun u H locs hw_1 hP hD hS => ?_)
        have hw_1 : True := hw_1
        have hP : va_P (dC, dI) vwCl [(y0, .inr (2, [.int 2, .int (nI rn), .ref q1, .ref q2, .int mn, .ref q3, .ref q4, .int ct, .int il, .ref q5])), (q1, .inl (cA, (2, .inl sf))), (q2, .inl (cA, (60, .inl lf))), (q3, .inl (cA, (320, .inl rf))), (q4, .inl (cA, (320, .inl nf))), (q5, .inl (cA, (6, .inl gf)))] H := hP
        have hD : va_D A [(y0, .inr (2, [.int 2, .int (nI rn), .ref q1, .ref q2, .int mn, .ref q3, .ref q4, .int ct, .int il, .ref q5])), (q1, .inl (cA, (2, .inl sf))), (q2, .inl (cA, (60, .inl lf))), (q3, .inl (cA, (320, .inl rf))), (q4, .inl (cA, (320, .inl nf))), (q5, .inl (cA, (6, .inl gf)))] := hD
        exact g_endMi hx hb hr hlocks hP hS dX2_swap_73 () rfl rfl trivial
    · exact absurd c25 (by decide)

abbrev mt_X2_about_rm : Room := { frames := 2, cells := 0, slots := 0, locals := 42 }
set_option maxHeartbeats 4000000 in
set_option maxRecDepth 100000 in
theorem mt_X2_about (l : Launch) (dC : Nat → ClassId) (dI : Nat → Nat → Nat) (cA : ClassId) (sz : Nat) (y0 : Nat) (q1 : Nat) (q2 : Nat) (q3 : Nat) (q4 : Nat) (q5 : Nat) (rn : Nat) (tv : Int32) (sf : Nat → Int32) (lf : Nat → Int32) (mn : Int32) (rf : Nat → Int32) (nf : Nat → Int32) (ct : Int32) (il : Int32) (gf : Nat → Int32) (Vw : Nat → List Int32) (w : Nat) (k : Nat) (hW : MW Vw sf lf) (hw : w < 2) (hrn : rn ∈ rnS) (hok : okL rn (Vw w)) (hk : k + 2 < (Vw w).length) (ha1 : atL (Vw w) (k + 2) = atL (Vw w) k) (ha2 : sgI (atL (Vw w) (k + 1)) = sgI (atL (Vw w) k)) (ha3 : abI (abI (atL (Vw w) (k + 1)) - abI (atL (Vw w) k)) = 1) : Met l yX2_about wsX2_about mt_X2_about_rm (va_Pc [.ref y0, .int (nI w), .int (nI k)] (gB (dC, dI) [(cA, .int)] [(y0, .inr (2, [.int tv, .int (nI rn), .ref q1, .ref q2, .int mn, .ref q3, .ref q4, .int ct, .int il, .ref q5])), (q1, .inl (cA, (2, .inl sf))), (q2, .inl (cA, (60, .inl lf))), (q3, .inl (cA, (320, .inl rf))), (q4, .inl (cA, (320, .inl nf))), (q5, .inl (cA, (6, .inl gf)))] sz)) (gM (dC, dI) (some (.int (atL (Vw w) (k + 1)))) (fun u : (Nat → Int32) => MW (upW Vw w ((((Vw w).set k (atL (Vw w) (k + 1))).set (k + 1) (atL (Vw w) k)).set (k + 2) (atL (Vw w) (k + 1)))) sf u) (fun u : (Nat → Int32) => [(y0, .inr (2, [.int 0, .int (nI rn), .ref q1, .ref q2, .int mn, .ref q3, .ref q4, .int ct, .int il, .ref q5])), (q1, .inl (cA, (2, .inl sf))), (q2, .inl (cA, (60, .inl u))), (q3, .inl (cA, (320, .inl rf))), (q4, .inl (cA, (320, .inl nf))), (q5, .inl (cA, (6, .inl gf)))]) (va_A [(y0, .inr (2, [.int tv, .int (nI rn), .ref q1, .ref q2, .int mn, .ref q3, .ref q4, .int ct, .int il, .ref q5])), (q1, .inl (cA, (2, .inl sf))), (q2, .inl (cA, (60, .inl lf))), (q3, .inl (cA, (320, .inl rf))), (q4, .inl (cA, (320, .inl nf))), (q5, .inl (cA, (6, .inl gf)))] sz)) 0 0 (va_A [(y0, .inr (2, [.int tv, .int (nI rn), .ref q1, .ref q2, .int mn, .ref q3, .ref q4, .int ct, .int il, .ref q5])), (q1, .inl (cA, (2, .inl sf))), (q2, .inl (cA, (60, .inl lf))), (q3, .inl (cA, (320, .inl rf))), (q4, .inl (cA, (320, .inl nf))), (q5, .inl (cA, (6, .inl gf)))] sz) := by
  refine g_ofM (cc := cX2_about) (maxL := 5) (ret := (some .int)) (by decide) rfl (Nat.le_of_ble_eq_true rfl) (fun p e s m below meth c ls hx hb hr hml hts hown hlocks hP hK hl hin A hA hD hS => ?_)
  have hl : lv_has ls 5 [(0, .ref y0), (1, .int (nI w)), (2, .int (nI k))] := hl
  have hWl := (hW w hw).2.1
  refine lv_aload_n hx hb dX2_about_0 rfl (lv_at hl 0 rfl) ?_
  refine lv_iconst (v := 0) hx hb dX2_about_1 (by decide) ?_
  refine va_put (D := (dC, dI)) (ci := 2) (v := .int 0) (ty := .int) (C := RX2) (T := TX2) (N := 10) hx hb hts (in_X2_about_2) tyX2 tyX2_ok nmX2 hown hK hP hD hS 0 rfl rfl 0 (by decide) (hts (.fieldLink RX2 29 "BraidWordsModel" "thrown" "I") (List.mem_of_getElem? (i := 1) rfl)) (fun _ h9 => h9) rfl (by decide +kernel) rfl rfl (Nat.le_of_ble_eq_true rfl) dX2_about_2 (fun H locs hP hD hS => ?_)
  have hP : va_P (dC, dI) vwCl [(y0, .inr (2, [.int 0, .int (nI rn), .ref q1, .ref q2, .int mn, .ref q3, .ref q4, .int ct, .int il, .ref q5])), (q1, .inl (cA, (2, .inl sf))), (q2, .inl (cA, (60, .inl lf))), (q3, .inl (cA, (320, .inl rf))), (q4, .inl (cA, (320, .inl nf))), (q5, .inl (cA, (6, .inl gf)))] H := hP
  have hD : va_D A [(y0, .inr (2, [.int 0, .int (nI rn), .ref q1, .ref q2, .int mn, .ref q3, .ref q4, .int ct, .int il, .ref q5])), (q1, .inl (cA, (2, .inl sf))), (q2, .inl (cA, (60, .inl lf))), (q3, .inl (cA, (320, .inl rf))), (q4, .inl (cA, (320, .inl nf))), (q5, .inl (cA, (6, .inl gf)))] := hD
  refine lv_iload_n hx hb dX2_about_5 rfl (lv_at hl 1 rfl) ?_
  refine g_RSi (As := [.int (nI w)]) (rest := []) ⟨hx, hb, hml, hown, hts⟩ (mt_X2_isWord l dC dI cA H.size (nI w)) (va_cwS 1 hts gX2_about_X2_isWord rfl rfl rfl hdX2_isWord ⟨Nat.le_of_ble_eq_true rfl, Nat.le_of_ble_eq_true rfl⟩) hP hK hD [] (by decide) rfl rfl hl.1 rfl (Nat.le_of_ble_eq_true rfl) dX2_about_6 (Nat.zero_le _) (Nat.zero_le _) ?_
  rw [show (inI (nI w) 0 1) = 1 from inI_w hw]
  refine lv_if_eq (tgt := 28) hx hb dX2_about_9 (by decide) (fun c9 => ?_) (fun c9 => ?_)
  · exact absurd c9 (by decide)
  · have c9 : ¬ 1 = 0 := g_eqF 1 0 (by omega) (by omega) c9
    refine lv_iload_n hx hb dX2_about_12 rfl (lv_at hl 2 rfl) ?_
    refine lv_iconst (v := 0) hx hb dX2_about_13 (by decide) ?_
    refine lv_aload_n hx hb dX2_about_14 rfl (lv_at hl 0 rfl) ?_
    refine va_get (D := (dC, dI)) (ci := 2) (v := .ref q1) (C := RX2) (T := TX2) (N := 10) hx hb hts (in_X2_about_2) hown hK hP 0 rfl rfl 2 (by decide) (hts (.fieldLink RX2 13 "BraidWordsModel" "size" "[I") (List.mem_of_getElem? (i := 2) rfl)) (fun _ h9 => h9) rfl dX2_about_15 ?_
    refine lv_iload_n hx hb dX2_about_18 rfl (lv_at hl 1 rfl) ?_
    refine va_iald hx hb hK hP 1 0 rfl rfl (vp_in_nI (by omega) (by decide)) dX2_about_19 ?_
    rw [show (nI w).toNatClampNeg = w from nI_clamp (by omega)]
    rw [(hW w (by omega)).1]
    refine lv_iconst (v := 3) hx hb dX2_about_20 (by decide) ?_
    refine lv_isub hx hb dX2_about_21 ?_
    refine g_RSi (As := [.int (nI k), .int 0, .int ((nI ((Vw w).length)) - 3)]) (rest := []) ⟨hx, hb, hml, hown, hts⟩ (mt_X2_isIn l dC dI cA H.size (nI k) 0 ((nI ((Vw w).length)) - 3)) (va_cwS 3 hts gX2_about_X2_isIn rfl rfl rfl hdX2_isIn ⟨Nat.le_of_ble_eq_true rfl, Nat.le_of_ble_eq_true rfl⟩) hP hK hD [] (by decide) rfl rfl hl.1 rfl (Nat.le_of_ble_eq_true rfl) dX2_about_22 (Nat.zero_le _) (Nat.zero_le _) ?_
    rw [show (inI (nI k) 0 ((nI ((Vw w).length)) - 3)) = 1 from inI_pl (d := 3) (by omega) (by omega) (by decide)]
    refine lv_if_ne (tgt := 34) hx hb dX2_about_25 (by decide) (fun c25 => ?_) (fun c25 => ?_)
    · have c25 : ¬ 1 = 0 := g_neT 1 0 (by omega) (by omega) c25
      refine lv_aload_n hx hb dX2_about_34 rfl (lv_at hl 0 rfl) ?_
      refine lv_iload_n hx hb dX2_about_35 rfl (lv_at hl 1 rfl) ?_
      refine lv_iload_n hx hb dX2_about_36 rfl (lv_at hl 2 rfl) ?_
      refine g_RVi (As := [.int (nI w), .int (nI k)]) (rest := []) ⟨hx, hb, hml, hown, hts⟩ (mt_X2_at l dC dI cA H.size y0 q1 q2 q3 q4 q5 rn 0 sf lf mn rf nf ct il gf w k (by first | omega | (simp only [List.length_append, List.length_cons, List.length_nil, List.length_set, turnL_len]; omega)) (by first | omega | (simp only [List.length_append, List.length_cons, List.length_nil, List.length_set, turnL_len]; omega))) (cwV 2 hts gX2_about_X2_at rfl rfl rfl hdX2_at ⟨Nat.le_of_ble_eq_true rfl, Nat.le_of_ble_eq_true rfl⟩) hP hK hD [0, 1, 2, 3, 4, 5] (by decide) rfl (va_recv hK hP (ci := 2) (q0 := 0) rfl rfl) rfl hl.1 rfl (Nat.le_of_ble_eq_true rfl) dX2_about_37 (Nat.zero_le _) (Nat.zero_le _) ?_
      rw [(hW w (by omega)).2.2 k (by omega)]
      refine lv_istore_n (lv' := [(3, .int (atL (Vw w) k)), (0, .ref y0), (1, .int (nI w)), (2, .int (nI k))]) hx hb dX2_about_40 rfl hl (by decide) rfl (fun ls hl => ?_)
      refine lv_aload_n hx hb dX2_about_41 rfl (lv_at hl 1 rfl) ?_
      refine lv_iload_n hx hb dX2_about_42 rfl (lv_at hl 2 rfl) ?_
      refine lv_iload_n hx hb dX2_about_43 rfl (lv_at hl 3 rfl) ?_
      refine lv_iconst (v := 1) hx hb dX2_about_44 (by decide) ?_
      refine lv_iadd hx hb dX2_about_45 ?_
      rw [show (nI k) + 1 = nI (k + 1) from nI_add k 1]
      refine g_RVi (As := [.int (nI w), .int (nI (k + 1))]) (rest := []) ⟨hx, hb, hml, hown, hts⟩ (mt_X2_at l dC dI cA H.size y0 q1 q2 q3 q4 q5 rn 0 sf lf mn rf nf ct il gf w (k + 1) (by first | omega | (simp only [List.length_append, List.length_cons, List.length_nil, List.length_set, turnL_len]; omega)) (by first | omega | (simp only [List.length_append, List.length_cons, List.length_nil, List.length_set, turnL_len]; omega))) (cwV 2 hts gX2_about_X2_at rfl rfl rfl hdX2_at ⟨Nat.le_of_ble_eq_true rfl, Nat.le_of_ble_eq_true rfl⟩) hP hK hD [0, 1, 2, 3, 4, 5] (by decide) rfl (va_recv hK hP (ci := 2) (q0 := 0) rfl rfl) rfl hl.1 rfl (Nat.le_of_ble_eq_true rfl) dX2_about_46 (Nat.zero_le _) (Nat.zero_le _) ?_
      rw [(hW w (by omega)).2.2 (k + 1) (by omega)]
      refine lv_istore (lv' := [(4, .int (atL (Vw w) (k + 1))), (3, .int (atL (Vw w) k)), (0, .ref y0), (1, .int (nI w)), (2, .int (nI k))]) hx hb dX2_about_49 hl (by decide) rfl (fun ls hl => ?_)
      refine lv_aload_n hx hb dX2_about_51 rfl (lv_at hl 2 rfl) ?_
      refine lv_iload_n hx hb dX2_about_52 rfl (lv_at hl 3 rfl) ?_
      refine lv_iload_n hx hb dX2_about_53 rfl (lv_at hl 4 rfl) ?_
      refine lv_iconst (v := 2) hx hb dX2_about_54 (by decide) ?_
      refine lv_iadd hx hb dX2_about_55 ?_
      rw [show (nI k) + 2 = nI (k + 2) from nI_add k 2]
      refine g_RVi (As := [.int (nI w), .int (nI (k + 2))]) (rest := []) ⟨hx, hb, hml, hown, hts⟩ (mt_X2_at l dC dI cA H.size y0 q1 q2 q3 q4 q5 rn 0 sf lf mn rf nf ct il gf w (k + 2) (by first | omega | (simp only [List.length_append, List.length_cons, List.length_nil, List.length_set, turnL_len]; omega)) (by first | omega | (simp only [List.length_append, List.length_cons, List.length_nil, List.length_set, turnL_len]; omega))) (cwV 2 hts gX2_about_X2_at rfl rfl rfl hdX2_at ⟨Nat.le_of_ble_eq_true rfl, Nat.le_of_ble_eq_true rfl⟩) hP hK hD [0, 1, 2, 3, 4, 5] (by decide) rfl (va_recv hK hP (ci := 2) (q0 := 0) rfl rfl) rfl hl.1 rfl (Nat.le_of_ble_eq_true rfl) dX2_about_56 (Nat.zero_le _) (Nat.zero_le _) ?_
      rw [(hW w (by omega)).2.2 (k + 2) (by omega)]
      refine lv_iload_n hx hb dX2_about_59 rfl (lv_at hl 1 rfl) ?_
      refine lv_icmp_ne (tgt := 96) hx hb dX2_about_60 (by decide) (fun c60 => ?_) (fun c60 => ?_)
      · exact absurd ha1 c60
      · refine lv_iload_n hx hb dX2_about_63 rfl (lv_at hl 1 rfl) ?_
        refine lv_if_le (tgt := 71) hx hb dX2_about_64 (by decide) (fun c64 => ?_) (fun c64 => ?_)
        · refine lv_iconst (v := 0) hx hb dX2_about_71 (by decide) ?_
          refine lv_iload hx hb dX2_about_72 (lv_at hl 0 rfl) ?_
          refine lv_if_le (tgt := 81) hx hb dX2_about_74 (by decide) (fun c74 => ?_) (fun c74 => ?_)
          · refine lv_iconst (v := 0) hx hb dX2_about_81 (by decide) ?_
            refine lv_icmp_ne (tgt := 96) hx hb dX2_about_82 (by decide) (fun c82 => ?_) (fun c82 => ?_)
            · exact absurd rfl c82
            · refine lv_iload_n hx hb dX2_about_85 rfl (lv_at hl 1 rfl) ?_
              refine lv_iload hx hb dX2_about_86 (lv_at hl 0 rfl) ?_
              refine lv_isub hx hb dX2_about_88 ?_
              refine va_mabs hx hb (hml.trans hl.1.symm) hown (hts (.methodLink RX2 47 Lib.Math.abs.name) (List.mem_of_getElem? (i := 3) rfl)) (hts (.static Lib.Math.abs.name) (List.mem_of_getElem? (i := 4) rfl)) (hts (.initialized "java/lang/Math") (List.mem_of_getElem? (i := 5) rfl)) (hts (.code Lib.Math.abs.name Lib.Math.abs.code 1 (some .int)) (List.mem_of_getElem? (i := 6) rfl)) (Nat.le_of_ble_eq_true rfl) (Nat.le_of_ble_eq_true rfl) (Nat.zero_le _) (Nat.zero_le _) dX2_about_89 ?_
              rw [mabs_eq]
              refine lv_iconst (v := 1) hx hb dX2_about_92 (by decide) ?_
              refine lv_icmp_eq (tgt := 102) hx hb dX2_about_93 (by decide) (fun c93 => ?_) (fun c93 => ?_)
              · refine lv_aload_n hx hb dX2_about_102 rfl (lv_at hl 2 rfl) ?_
                refine lv_iload_n hx hb dX2_about_103 rfl (lv_at hl 3 rfl) ?_
                refine lv_iload_n hx hb dX2_about_104 rfl (lv_at hl 4 rfl) ?_
                refine lv_iload hx hb dX2_about_105 (lv_at hl 0 rfl) ?_
                refine g_MVv (As := [.int (nI w), .int (nI k), .int (atL (Vw w) (k + 1))]) (rest := []) ⟨hx, hb, hml, hown, hts⟩ (mt_X2_put l dC dI cA H.size y0 q1 q2 q3 q4 q5 rn 0 sf lf mn rf nf ct il gf w k (atL (Vw w) (k + 1)) (by first | omega | (simp only [List.length_append, List.length_cons, List.length_nil, List.length_set, turnL_len]; omega)) (by first | omega | (simp only [List.length_append, List.length_cons, List.length_nil, List.length_set, turnL_len]; omega))) (cwV 3 hts gX2_about_X2_put rfl rfl rfl hdX2_put ⟨Nat.le_of_ble_eq_true rfl, Nat.le_of_ble_eq_true rfl⟩) hP hK hD hS hA [0, 1, 2, 3, 4, 5] (by decide) rfl (va_recv hK hP (ci := 2) (q0 := 0) rfl rfl) rfl hl.1 rfl (Nat.le_of_ble_eq_true rfl) dX2_about_107 (Nat.zero_le _) (Nat.zero_le _) (fun u9 => [(y0, .inr (2, [.int 0, .int (nI rn), .ref q1, .ref q2, .int mn, .ref q3, .ref q4, .int ct, .int il, .ref q5])), (q1, .inl (cA, (2, .inl sf))), (q2, .inl (cA, (60, .inl (upd lf (30 * w + k) (atL (Vw w) (k + 1)))))), (q3, .inl (cA, (320, .inl rf))), (q4, .inl (cA, (320, .inl nf))), (q5, .inl (cA, (6, .inl gf)))]) (fun _ => rfl) (fun _ => rfl) (fun u H locs hw_1 hP hD hS => ?_)
                have hw_1 : True := hw_1
                have hP : va_P (dC, dI) vwCl [(y0, .inr (2, [.int 0, .int (nI rn), .ref q1, .ref q2, .int mn, .ref q3, .ref q4, .int ct, .int il, .ref q5])), (q1, .inl (cA, (2, .inl sf))), (q2, .inl (cA, (60, .inl (upd lf (30 * w + k) (atL (Vw w) (k + 1)))))), (q3, .inl (cA, (320, .inl rf))), (q4, .inl (cA, (320, .inl nf))), (q5, .inl (cA, (6, .inl gf)))] H := hP
                have hD : va_D A [(y0, .inr (2, [.int 0, .int (nI rn), .ref q1, .ref q2, .int mn, .ref q3, .ref q4, .int ct, .int il, .ref q5])), (q1, .inl (cA, (2, .inl sf))), (q2, .inl (cA, (60, .inl (upd lf (30 * w + k) (atL (Vw w) (k + 1)))))), (q3, .inl (cA, (320, .inl rf))), (q4, .inl (cA, (320, .inl nf))), (q5, .inl (cA, (6, .inl gf)))] := hD
                refine lv_aload_n hx hb dX2_about_110 rfl (lv_at hl 2 rfl) ?_
                refine lv_iload_n hx hb dX2_about_111 rfl (lv_at hl 3 rfl) ?_
                refine lv_iload_n hx hb dX2_about_112 rfl (lv_at hl 4 rfl) ?_
                refine lv_iconst (v := 1) hx hb dX2_about_113 (by decide) ?_
                refine lv_iadd hx hb dX2_about_114 ?_
                rw [show (nI k) + 1 = nI (k + 1) from nI_add k 1]
                refine lv_iload_n hx hb dX2_about_115 rfl (lv_at hl 1 rfl) ?_
                refine g_MVv (As := [.int (nI w), .int (nI (k + 1)), .int (atL (Vw w) k)]) (rest := []) ⟨hx, hb, hml, hown, hts⟩ (mt_X2_put l dC dI cA H.size y0 q1 q2 q3 q4 q5 rn 0 sf (upd lf (30 * w + k) (atL (Vw w) (k + 1))) mn rf nf ct il gf w (k + 1) (atL (Vw w) k) (by first | omega | (simp only [List.length_append, List.length_cons, List.length_nil, List.length_set, turnL_len]; omega)) (by first | omega | (simp only [List.length_append, List.length_cons, List.length_nil, List.length_set, turnL_len]; omega))) (cwV 3 hts gX2_about_X2_put rfl rfl rfl hdX2_put ⟨Nat.le_of_ble_eq_true rfl, Nat.le_of_ble_eq_true rfl⟩) hP hK hD hS hA [0, 1, 2, 3, 4, 5] (by decide) rfl (va_recv hK hP (ci := 2) (q0 := 0) rfl rfl) rfl hl.1 rfl (Nat.le_of_ble_eq_true rfl) dX2_about_116 (Nat.zero_le _) (Nat.zero_le _) (fun u9 => [(y0, .inr (2, [.int 0, .int (nI rn), .ref q1, .ref q2, .int mn, .ref q3, .ref q4, .int ct, .int il, .ref q5])), (q1, .inl (cA, (2, .inl sf))), (q2, .inl (cA, (60, .inl (upd (upd lf (30 * w + k) (atL (Vw w) (k + 1))) (30 * w + (k + 1)) (atL (Vw w) k))))), (q3, .inl (cA, (320, .inl rf))), (q4, .inl (cA, (320, .inl nf))), (q5, .inl (cA, (6, .inl gf)))]) (fun _ => rfl) (fun _ => rfl) (fun u H locs hw_2 hP hD hS => ?_)
                have hw_2 : True := hw_2
                have hP : va_P (dC, dI) vwCl [(y0, .inr (2, [.int 0, .int (nI rn), .ref q1, .ref q2, .int mn, .ref q3, .ref q4, .int ct, .int il, .ref q5])), (q1, .inl (cA, (2, .inl sf))), (q2, .inl (cA, (60, .inl (upd (upd lf (30 * w + k) (atL (Vw w) (k + 1))) (30 * w + (k + 1)) (atL (Vw w) k))))), (q3, .inl (cA, (320, .inl rf))), (q4, .inl (cA, (320, .inl nf))), (q5, .inl (cA, (6, .inl gf)))] H := hP
                have hD : va_D A [(y0, .inr (2, [.int 0, .int (nI rn), .ref q1, .ref q2, .int mn, .ref q3, .ref q4, .int ct, .int il, .ref q5])), (q1, .inl (cA, (2, .inl sf))), (q2, .inl (cA, (60, .inl (upd (upd lf (30 * w + k) (atL (Vw w) (k + 1))) (30 * w + (k + 1)) (atL (Vw w) k))))), (q3, .inl (cA, (320, .inl rf))), (q4, .inl (cA, (320, .inl nf))), (q5, .inl (cA, (6, .inl gf)))] := hD
                refine lv_aload_n hx hb dX2_about_119 rfl (lv_at hl 2 rfl) ?_
                refine lv_iload_n hx hb dX2_about_120 rfl (lv_at hl 3 rfl) ?_
                refine lv_iload_n hx hb dX2_about_121 rfl (lv_at hl 4 rfl) ?_
                refine lv_iconst (v := 2) hx hb dX2_about_122 (by decide) ?_
                refine lv_iadd hx hb dX2_about_123 ?_
                rw [show (nI k) + 2 = nI (k + 2) from nI_add k 2]
                refine lv_iload hx hb dX2_about_124 (lv_at hl 0 rfl) ?_
                refine g_MVv (As := [.int (nI w), .int (nI (k + 2)), .int (atL (Vw w) (k + 1))]) (rest := []) ⟨hx, hb, hml, hown, hts⟩ (mt_X2_put l dC dI cA H.size y0 q1 q2 q3 q4 q5 rn 0 sf (upd (upd lf (30 * w + k) (atL (Vw w) (k + 1))) (30 * w + (k + 1)) (atL (Vw w) k)) mn rf nf ct il gf w (k + 2) (atL (Vw w) (k + 1)) (by first | omega | (simp only [List.length_append, List.length_cons, List.length_nil, List.length_set, turnL_len]; omega)) (by first | omega | (simp only [List.length_append, List.length_cons, List.length_nil, List.length_set, turnL_len]; omega))) (cwV 3 hts gX2_about_X2_put rfl rfl rfl hdX2_put ⟨Nat.le_of_ble_eq_true rfl, Nat.le_of_ble_eq_true rfl⟩) hP hK hD hS hA [0, 1, 2, 3, 4, 5] (by decide) rfl (va_recv hK hP (ci := 2) (q0 := 0) rfl rfl) rfl hl.1 rfl (Nat.le_of_ble_eq_true rfl) dX2_about_126 (Nat.zero_le _) (Nat.zero_le _) (fun u9 => [(y0, .inr (2, [.int 0, .int (nI rn), .ref q1, .ref q2, .int mn, .ref q3, .ref q4, .int ct, .int il, .ref q5])), (q1, .inl (cA, (2, .inl sf))), (q2, .inl (cA, (60, .inl (upd (upd (upd lf (30 * w + k) (atL (Vw w) (k + 1))) (30 * w + (k + 1)) (atL (Vw w) k)) (30 * w + (k + 2)) (atL (Vw w) (k + 1)))))), (q3, .inl (cA, (320, .inl rf))), (q4, .inl (cA, (320, .inl nf))), (q5, .inl (cA, (6, .inl gf)))]) (fun _ => rfl) (fun _ => rfl) (fun u H locs hw_3 hP hD hS => ?_)
                have hw_3 : True := hw_3
                have hP : va_P (dC, dI) vwCl [(y0, .inr (2, [.int 0, .int (nI rn), .ref q1, .ref q2, .int mn, .ref q3, .ref q4, .int ct, .int il, .ref q5])), (q1, .inl (cA, (2, .inl sf))), (q2, .inl (cA, (60, .inl (upd (upd (upd lf (30 * w + k) (atL (Vw w) (k + 1))) (30 * w + (k + 1)) (atL (Vw w) k)) (30 * w + (k + 2)) (atL (Vw w) (k + 1)))))), (q3, .inl (cA, (320, .inl rf))), (q4, .inl (cA, (320, .inl nf))), (q5, .inl (cA, (6, .inl gf)))] H := hP
                have hD : va_D A [(y0, .inr (2, [.int 0, .int (nI rn), .ref q1, .ref q2, .int mn, .ref q3, .ref q4, .int ct, .int il, .ref q5])), (q1, .inl (cA, (2, .inl sf))), (q2, .inl (cA, (60, .inl (upd (upd (upd lf (30 * w + k) (atL (Vw w) (k + 1))) (30 * w + (k + 1)) (atL (Vw w) k)) (30 * w + (k + 2)) (atL (Vw w) (k + 1)))))), (q3, .inl (cA, (320, .inl rf))), (q4, .inl (cA, (320, .inl nf))), (q5, .inl (cA, (6, .inl gf)))] := hD
                refine lv_iload hx hb dX2_about_129 (lv_at hl 0 rfl) ?_
                exact g_endMi hx hb hr hlocks hP hS dX2_about_131 (upd (upd (upd lf (30 * w + k) (atL (Vw w) (k + 1))) (30 * w + (k + 1)) (atL (Vw w) k)) (30 * w + (k + 2)) (atL (Vw w) (k + 1))) rfl rfl (MW_set3 hW hw (by omega) (by omega) (by omega))
              · exact absurd (ok_ab1 hrn (okL_at hok (show k < (Vw w).length by omega)) (okL_at hok (show k + 1 < (Vw w).length by omega)) ha2 ha3) c93
          · refine lv_iconst (v := 1) hx hb dX2_about_77 (by decide) ?_
            refine lv_goto (tgt := 82) hx hb dX2_about_78 (by decide) ?_
            refine lv_icmp_ne (tgt := 96) hx hb dX2_about_82 (by decide) (fun c82 => ?_) (fun c82 => ?_)
            · exact absurd ha2 (by first | (rw [ok_sgp rn hrn _ (okL_at hok (show k + 1 < (Vw w).length by omega)) c74, ok_sgn rn hrn _ (okL_at hok (show k < (Vw w).length by omega)) c64]; decide) | (rw [ok_sgn rn hrn _ (okL_at hok (show k + 1 < (Vw w).length by omega)) c74, ok_sgp rn hrn _ (okL_at hok (show k < (Vw w).length by omega)) c64]; decide))
            · exact absurd c82 (by decide)
        · refine lv_iconst (v := 1) hx hb dX2_about_67 (by decide) ?_
          refine lv_goto (tgt := 72) hx hb dX2_about_68 (by decide) ?_
          refine lv_iload hx hb dX2_about_72 (lv_at hl 0 rfl) ?_
          refine lv_if_le (tgt := 81) hx hb dX2_about_74 (by decide) (fun c74 => ?_) (fun c74 => ?_)
          · refine lv_iconst (v := 0) hx hb dX2_about_81 (by decide) ?_
            refine lv_icmp_ne (tgt := 96) hx hb dX2_about_82 (by decide) (fun c82 => ?_) (fun c82 => ?_)
            · exact absurd ha2 (by first | (rw [ok_sgp rn hrn _ (okL_at hok (show k + 1 < (Vw w).length by omega)) c74, ok_sgn rn hrn _ (okL_at hok (show k < (Vw w).length by omega)) c64]; decide) | (rw [ok_sgn rn hrn _ (okL_at hok (show k + 1 < (Vw w).length by omega)) c74, ok_sgp rn hrn _ (okL_at hok (show k < (Vw w).length by omega)) c64]; decide))
            · exact absurd c82 (by decide)
          · refine lv_iconst (v := 1) hx hb dX2_about_77 (by decide) ?_
            refine lv_goto (tgt := 82) hx hb dX2_about_78 (by decide) ?_
            refine lv_icmp_ne (tgt := 96) hx hb dX2_about_82 (by decide) (fun c82 => ?_) (fun c82 => ?_)
            · exact absurd rfl c82
            · refine lv_iload_n hx hb dX2_about_85 rfl (lv_at hl 1 rfl) ?_
              refine lv_iload hx hb dX2_about_86 (lv_at hl 0 rfl) ?_
              refine lv_isub hx hb dX2_about_88 ?_
              refine va_mabs hx hb (hml.trans hl.1.symm) hown (hts (.methodLink RX2 47 Lib.Math.abs.name) (List.mem_of_getElem? (i := 3) rfl)) (hts (.static Lib.Math.abs.name) (List.mem_of_getElem? (i := 4) rfl)) (hts (.initialized "java/lang/Math") (List.mem_of_getElem? (i := 5) rfl)) (hts (.code Lib.Math.abs.name Lib.Math.abs.code 1 (some .int)) (List.mem_of_getElem? (i := 6) rfl)) (Nat.le_of_ble_eq_true rfl) (Nat.le_of_ble_eq_true rfl) (Nat.zero_le _) (Nat.zero_le _) dX2_about_89 ?_
              rw [mabs_eq]
              refine lv_iconst (v := 1) hx hb dX2_about_92 (by decide) ?_
              refine lv_icmp_eq (tgt := 102) hx hb dX2_about_93 (by decide) (fun c93 => ?_) (fun c93 => ?_)
              · refine lv_aload_n hx hb dX2_about_102 rfl (lv_at hl 2 rfl) ?_
                refine lv_iload_n hx hb dX2_about_103 rfl (lv_at hl 3 rfl) ?_
                refine lv_iload_n hx hb dX2_about_104 rfl (lv_at hl 4 rfl) ?_
                refine lv_iload hx hb dX2_about_105 (lv_at hl 0 rfl) ?_
                refine g_MVv (As := [.int (nI w), .int (nI k), .int (atL (Vw w) (k + 1))]) (rest := []) ⟨hx, hb, hml, hown, hts⟩ (mt_X2_put l dC dI cA H.size y0 q1 q2 q3 q4 q5 rn 0 sf lf mn rf nf ct il gf w k (atL (Vw w) (k + 1)) (by first | omega | (simp only [List.length_append, List.length_cons, List.length_nil, List.length_set, turnL_len]; omega)) (by first | omega | (simp only [List.length_append, List.length_cons, List.length_nil, List.length_set, turnL_len]; omega))) (cwV 3 hts gX2_about_X2_put rfl rfl rfl hdX2_put ⟨Nat.le_of_ble_eq_true rfl, Nat.le_of_ble_eq_true rfl⟩) hP hK hD hS hA [0, 1, 2, 3, 4, 5] (by decide) rfl (va_recv hK hP (ci := 2) (q0 := 0) rfl rfl) rfl hl.1 rfl (Nat.le_of_ble_eq_true rfl) dX2_about_107 (Nat.zero_le _) (Nat.zero_le _) (fun u9 => [(y0, .inr (2, [.int 0, .int (nI rn), .ref q1, .ref q2, .int mn, .ref q3, .ref q4, .int ct, .int il, .ref q5])), (q1, .inl (cA, (2, .inl sf))), (q2, .inl (cA, (60, .inl (upd lf (30 * w + k) (atL (Vw w) (k + 1)))))), (q3, .inl (cA, (320, .inl rf))), (q4, .inl (cA, (320, .inl nf))), (q5, .inl (cA, (6, .inl gf)))]) (fun _ => rfl) (fun _ => rfl) (fun u H locs hw_4 hP hD hS => ?_)
                have hw_4 : True := hw_4
                have hP : va_P (dC, dI) vwCl [(y0, .inr (2, [.int 0, .int (nI rn), .ref q1, .ref q2, .int mn, .ref q3, .ref q4, .int ct, .int il, .ref q5])), (q1, .inl (cA, (2, .inl sf))), (q2, .inl (cA, (60, .inl (upd lf (30 * w + k) (atL (Vw w) (k + 1)))))), (q3, .inl (cA, (320, .inl rf))), (q4, .inl (cA, (320, .inl nf))), (q5, .inl (cA, (6, .inl gf)))] H := hP
                have hD : va_D A [(y0, .inr (2, [.int 0, .int (nI rn), .ref q1, .ref q2, .int mn, .ref q3, .ref q4, .int ct, .int il, .ref q5])), (q1, .inl (cA, (2, .inl sf))), (q2, .inl (cA, (60, .inl (upd lf (30 * w + k) (atL (Vw w) (k + 1)))))), (q3, .inl (cA, (320, .inl rf))), (q4, .inl (cA, (320, .inl nf))), (q5, .inl (cA, (6, .inl gf)))] := hD
                refine lv_aload_n hx hb dX2_about_110 rfl (lv_at hl 2 rfl) ?_
                refine lv_iload_n hx hb dX2_about_111 rfl (lv_at hl 3 rfl) ?_
                refine lv_iload_n hx hb dX2_about_112 rfl (lv_at hl 4 rfl) ?_
                refine lv_iconst (v := 1) hx hb dX2_about_113 (by decide) ?_
                refine lv_iadd hx hb dX2_about_114 ?_
                rw [show (nI k) + 1 = nI (k + 1) from nI_add k 1]
                refine lv_iload_n hx hb dX2_about_115 rfl (lv_at hl 1 rfl) ?_
                refine g_MVv (As := [.int (nI w), .int (nI (k + 1)), .int (atL (Vw w) k)]) (rest := []) ⟨hx, hb, hml, hown, hts⟩ (mt_X2_put l dC dI cA H.size y0 q1 q2 q3 q4 q5 rn 0 sf (upd lf (30 * w + k) (atL (Vw w) (k + 1))) mn rf nf ct il gf w (k + 1) (atL (Vw w) k) (by first | omega | (simp only [List.length_append, List.length_cons, List.length_nil, List.length_set, turnL_len]; omega)) (by first | omega | (simp only [List.length_append, List.length_cons, List.length_nil, List.length_set, turnL_len]; omega))) (cwV 3 hts gX2_about_X2_put rfl rfl rfl hdX2_put ⟨Nat.le_of_ble_eq_true rfl, Nat.le_of_ble_eq_true rfl⟩) hP hK hD hS hA [0, 1, 2, 3, 4, 5] (by decide) rfl (va_recv hK hP (ci := 2) (q0 := 0) rfl rfl) rfl hl.1 rfl (Nat.le_of_ble_eq_true rfl) dX2_about_116 (Nat.zero_le _) (Nat.zero_le _) (fun u9 => [(y0, .inr (2, [.int 0, .int (nI rn), .ref q1, .ref q2, .int mn, .ref q3, .ref q4, .int ct, .int il, .ref q5])), (q1, .inl (cA, (2, .inl sf))), (q2, .inl (cA, (60, .inl (upd (upd lf (30 * w + k) (atL (Vw w) (k + 1))) (30 * w + (k + 1)) (atL (Vw w) k))))), (q3, .inl (cA, (320, .inl rf))), (q4, .inl (cA, (320, .inl nf))), (q5, .inl (cA, (6, .inl gf)))]) (fun _ => rfl) (fun _ => rfl) (fun u H locs hw_5 hP hD hS => ?_)
                have hw_5 : True := hw_5
                have hP : va_P (dC, dI) vwCl [(y0, .inr (2, [.int 0, .int (nI rn), .ref q1, .ref q2, .int mn, .ref q3, .ref q4, .int ct, .int il, .ref q5])), (q1, .inl (cA, (2, .inl sf))), (q2, .inl (cA, (60, .inl (upd (upd lf (30 * w + k) (atL (Vw w) (k + 1))) (30 * w + (k + 1)) (atL (Vw w) k))))), (q3, .inl (cA, (320, .inl rf))), (q4, .inl (cA, (320, .inl nf))), (q5, .inl (cA, (6, .inl gf)))] H := hP
                have hD : va_D A [(y0, .inr (2, [.int 0, .int (nI rn), .ref q1, .ref q2, .int mn, .ref q3, .ref q4, .int ct, .int il, .ref q5])), (q1, .inl (cA, (2, .inl sf))), (q2, .inl (cA, (60, .inl (upd (upd lf (30 * w + k) (atL (Vw w) (k + 1))) (30 * w + (k + 1)) (atL (Vw w) k))))), (q3, .inl (cA, (320, .inl rf))), (q4, .inl (cA, (320, .inl nf))), (q5, .inl (cA, (6, .inl gf)))] := hD
                refine lv_aload_n hx hb dX2_about_119 rfl (lv_at hl 2 rfl) ?_
                refine lv_iload_n hx hb dX2_about_120 rfl (lv_at hl 3 rfl) ?_
                refine lv_iload_n hx hb dX2_about_121 rfl (lv_at hl 4 rfl) ?_
                refine lv_iconst (v := 2) hx hb dX2_about_122 (by decide) ?_
                refine lv_iadd hx hb dX2_about_123 ?_
                rw [show (nI k) + 2 = nI (k + 2) from nI_add k 2]
                refine lv_iload hx hb dX2_about_124 (lv_at hl 0 rfl) ?_
                refine g_MVv (As := [.int (nI w), .int (nI (k + 2)), .int (atL (Vw w) (k + 1))]) (rest := []) ⟨hx, hb, hml, hown, hts⟩ (mt_X2_put l dC dI cA H.size y0 q1 q2 q3 q4 q5 rn 0 sf (upd (upd lf (30 * w + k) (atL (Vw w) (k + 1))) (30 * w + (k + 1)) (atL (Vw w) k)) mn rf nf ct il gf w (k + 2) (atL (Vw w) (k + 1)) (by first | omega | (simp only [List.length_append, List.length_cons, List.length_nil, List.length_set, turnL_len]; omega)) (by first | omega | (simp only [List.length_append, List.length_cons, List.length_nil, List.length_set, turnL_len]; omega))) (cwV 3 hts gX2_about_X2_put rfl rfl rfl hdX2_put ⟨Nat.le_of_ble_eq_true rfl, Nat.le_of_ble_eq_true rfl⟩) hP hK hD hS hA [0, 1, 2, 3, 4, 5] (by decide) rfl (va_recv hK hP (ci := 2) (q0 := 0) rfl rfl) rfl hl.1 rfl (Nat.le_of_ble_eq_true rfl) dX2_about_126 (Nat.zero_le _) (Nat.zero_le _) (fun u9 => [(y0, .inr (2, [.int 0, .int (nI rn), .ref q1, .ref q2, .int mn, .ref q3, .ref q4, .int ct, .int il, .ref q5])), (q1, .inl (cA, (2, .inl sf))), (q2, .inl (cA, (60, .inl (upd (upd (upd lf (30 * w + k) (atL (Vw w) (k + 1))) (30 * w + (k + 1)) (atL (Vw w) k)) (30 * w + (k + 2)) (atL (Vw w) (k + 1)))))), (q3, .inl (cA, (320, .inl rf))), (q4, .inl (cA, (320, .inl nf))), (q5, .inl (cA, (6, .inl gf)))]) (fun _ => rfl) (fun _ => rfl) (fun u H locs hw_6 hP hD hS => ?_)
                have hw_6 : True := hw_6
                have hP : va_P (dC, dI) vwCl [(y0, .inr (2, [.int 0, .int (nI rn), .ref q1, .ref q2, .int mn, .ref q3, .ref q4, .int ct, .int il, .ref q5])), (q1, .inl (cA, (2, .inl sf))), (q2, .inl (cA, (60, .inl (upd (upd (upd lf (30 * w + k) (atL (Vw w) (k + 1))) (30 * w + (k + 1)) (atL (Vw w) k)) (30 * w + (k + 2)) (atL (Vw w) (k + 1)))))), (q3, .inl (cA, (320, .inl rf))), (q4, .inl (cA, (320, .inl nf))), (q5, .inl (cA, (6, .inl gf)))] H := hP
                have hD : va_D A [(y0, .inr (2, [.int 0, .int (nI rn), .ref q1, .ref q2, .int mn, .ref q3, .ref q4, .int ct, .int il, .ref q5])), (q1, .inl (cA, (2, .inl sf))), (q2, .inl (cA, (60, .inl (upd (upd (upd lf (30 * w + k) (atL (Vw w) (k + 1))) (30 * w + (k + 1)) (atL (Vw w) k)) (30 * w + (k + 2)) (atL (Vw w) (k + 1)))))), (q3, .inl (cA, (320, .inl rf))), (q4, .inl (cA, (320, .inl nf))), (q5, .inl (cA, (6, .inl gf)))] := hD
                refine lv_iload hx hb dX2_about_129 (lv_at hl 0 rfl) ?_
                exact g_endMi hx hb hr hlocks hP hS dX2_about_131 (upd (upd (upd lf (30 * w + k) (atL (Vw w) (k + 1))) (30 * w + (k + 1)) (atL (Vw w) k)) (30 * w + (k + 2)) (atL (Vw w) (k + 1))) rfl rfl (MW_set3 hW hw (by omega) (by omega) (by omega))
              · exact absurd (ok_ab1 hrn (okL_at hok (show k < (Vw w).length by omega)) (okL_at hok (show k + 1 < (Vw w).length by omega)) ha2 ha3) c93
    · exact absurd c25 (by decide)

abbrev mt_X2_about_1b_rm : Room := { frames := 2, cells := 0, slots := 0, locals := 42 }
set_option maxHeartbeats 4000000 in
set_option maxRecDepth 100000 in
theorem mt_X2_about_1b (l : Launch) (dC : Nat → ClassId) (dI : Nat → Nat → Nat) (cA : ClassId) (sz : Nat) (y0 : Nat) (q1 : Nat) (q2 : Nat) (q3 : Nat) (q4 : Nat) (q5 : Nat) (rn : Nat) (tv : Int32) (sf : Nat → Int32) (lf : Nat → Int32) (mn : Int32) (rf : Nat → Int32) (nf : Nat → Int32) (ct : Int32) (il : Int32) (gf : Nat → Int32) (Vw : Nat → List Int32) (w : Nat) (x : Int32) (hW : MW Vw sf lf) (hw : w < 2) (hbad : x < 0 ∨ nI ((Vw w).length - 2) ≤ x) : Met l yX2_about wsX2_about mt_X2_about_1b_rm (va_Pc [.ref y0, .int (nI w), .int x] (gB (dC, dI) [(cA, .int)] [(y0, .inr (2, [.int tv, .int (nI rn), .ref q1, .ref q2, .int mn, .ref q3, .ref q4, .int ct, .int il, .ref q5])), (q1, .inl (cA, (2, .inl sf))), (q2, .inl (cA, (60, .inl lf))), (q3, .inl (cA, (320, .inl rf))), (q4, .inl (cA, (320, .inl nf))), (q5, .inl (cA, (6, .inl gf)))] sz)) (gM (dC, dI) (some (.int 0)) (fun u : Unit => True) (fun u : Unit => [(y0, .inr (2, [.int 1, .int (nI rn), .ref q1, .ref q2, .int mn, .ref q3, .ref q4, .int ct, .int il, .ref q5])), (q1, .inl (cA, (2, .inl sf))), (q2, .inl (cA, (60, .inl lf))), (q3, .inl (cA, (320, .inl rf))), (q4, .inl (cA, (320, .inl nf))), (q5, .inl (cA, (6, .inl gf)))]) (va_A [(y0, .inr (2, [.int tv, .int (nI rn), .ref q1, .ref q2, .int mn, .ref q3, .ref q4, .int ct, .int il, .ref q5])), (q1, .inl (cA, (2, .inl sf))), (q2, .inl (cA, (60, .inl lf))), (q3, .inl (cA, (320, .inl rf))), (q4, .inl (cA, (320, .inl nf))), (q5, .inl (cA, (6, .inl gf)))] sz)) 0 0 (va_A [(y0, .inr (2, [.int tv, .int (nI rn), .ref q1, .ref q2, .int mn, .ref q3, .ref q4, .int ct, .int il, .ref q5])), (q1, .inl (cA, (2, .inl sf))), (q2, .inl (cA, (60, .inl lf))), (q3, .inl (cA, (320, .inl rf))), (q4, .inl (cA, (320, .inl nf))), (q5, .inl (cA, (6, .inl gf)))] sz) := by
  refine g_ofM (cc := cX2_about) (maxL := 5) (ret := (some .int)) (by decide) rfl (Nat.le_of_ble_eq_true rfl) (fun p e s m below meth c ls hx hb hr hml hts hown hlocks hP hK hl hin A hA hD hS => ?_)
  have hl : lv_has ls 5 [(0, .ref y0), (1, .int (nI w)), (2, .int x)] := hl
  have hWl := (hW w hw).2.1
  refine lv_aload_n hx hb dX2_about_0 rfl (lv_at hl 0 rfl) ?_
  refine lv_iconst (v := 0) hx hb dX2_about_1 (by decide) ?_
  refine va_put (D := (dC, dI)) (ci := 2) (v := .int 0) (ty := .int) (C := RX2) (T := TX2) (N := 10) hx hb hts (in_X2_about_2) tyX2 tyX2_ok nmX2 hown hK hP hD hS 0 rfl rfl 0 (by decide) (hts (.fieldLink RX2 29 "BraidWordsModel" "thrown" "I") (List.mem_of_getElem? (i := 1) rfl)) (fun _ h9 => h9) rfl (by decide +kernel) rfl rfl (Nat.le_of_ble_eq_true rfl) dX2_about_2 (fun H locs hP hD hS => ?_)
  have hP : va_P (dC, dI) vwCl [(y0, .inr (2, [.int 0, .int (nI rn), .ref q1, .ref q2, .int mn, .ref q3, .ref q4, .int ct, .int il, .ref q5])), (q1, .inl (cA, (2, .inl sf))), (q2, .inl (cA, (60, .inl lf))), (q3, .inl (cA, (320, .inl rf))), (q4, .inl (cA, (320, .inl nf))), (q5, .inl (cA, (6, .inl gf)))] H := hP
  have hD : va_D A [(y0, .inr (2, [.int 0, .int (nI rn), .ref q1, .ref q2, .int mn, .ref q3, .ref q4, .int ct, .int il, .ref q5])), (q1, .inl (cA, (2, .inl sf))), (q2, .inl (cA, (60, .inl lf))), (q3, .inl (cA, (320, .inl rf))), (q4, .inl (cA, (320, .inl nf))), (q5, .inl (cA, (6, .inl gf)))] := hD
  refine lv_iload_n hx hb dX2_about_5 rfl (lv_at hl 1 rfl) ?_
  refine g_RSi (As := [.int (nI w)]) (rest := []) ⟨hx, hb, hml, hown, hts⟩ (mt_X2_isWord l dC dI cA H.size (nI w)) (va_cwS 1 hts gX2_about_X2_isWord rfl rfl rfl hdX2_isWord ⟨Nat.le_of_ble_eq_true rfl, Nat.le_of_ble_eq_true rfl⟩) hP hK hD [] (by decide) rfl rfl hl.1 rfl (Nat.le_of_ble_eq_true rfl) dX2_about_6 (Nat.zero_le _) (Nat.zero_le _) ?_
  rw [show (inI (nI w) 0 1) = 1 from inI_w hw]
  refine lv_if_eq (tgt := 28) hx hb dX2_about_9 (by decide) (fun c9 => ?_) (fun c9 => ?_)
  · exact absurd c9 (by decide)
  · have c9 : ¬ 1 = 0 := g_eqF 1 0 (by omega) (by omega) c9
    refine lv_iload_n hx hb dX2_about_12 rfl (lv_at hl 2 rfl) ?_
    refine lv_iconst (v := 0) hx hb dX2_about_13 (by decide) ?_
    refine lv_aload_n hx hb dX2_about_14 rfl (lv_at hl 0 rfl) ?_
    refine va_get (D := (dC, dI)) (ci := 2) (v := .ref q1) (C := RX2) (T := TX2) (N := 10) hx hb hts (in_X2_about_2) hown hK hP 0 rfl rfl 2 (by decide) (hts (.fieldLink RX2 13 "BraidWordsModel" "size" "[I") (List.mem_of_getElem? (i := 2) rfl)) (fun _ h9 => h9) rfl dX2_about_15 ?_
    refine lv_iload_n hx hb dX2_about_18 rfl (lv_at hl 1 rfl) ?_
    refine va_iald hx hb hK hP 1 0 rfl rfl (vp_in_nI (by omega) (by decide)) dX2_about_19 ?_
    rw [show (nI w).toNatClampNeg = w from nI_clamp (by omega)]
    rw [(hW w (by omega)).1]
    refine lv_iconst (v := 3) hx hb dX2_about_20 (by decide) ?_
    refine lv_isub hx hb dX2_about_21 ?_
    refine g_RSi (As := [.int x, .int 0, .int ((nI ((Vw w).length)) - 3)]) (rest := []) ⟨hx, hb, hml, hown, hts⟩ (mt_X2_isIn l dC dI cA H.size x 0 ((nI ((Vw w).length)) - 3)) (va_cwS 3 hts gX2_about_X2_isIn rfl rfl rfl hdX2_isIn ⟨Nat.le_of_ble_eq_true rfl, Nat.le_of_ble_eq_true rfl⟩) hP hK hD [] (by decide) rfl rfl hl.1 rfl (Nat.le_of_ble_eq_true rfl) dX2_about_22 (Nat.zero_le _) (Nat.zero_le _) ?_
    rw [show (inI x 0 ((nI ((Vw w).length)) - 3)) = 0 from inI_b (d := 3) hWl (by omega) hbad]
    refine lv_if_ne (tgt := 34) hx hb dX2_about_25 (by decide) (fun c25 => ?_) (fun c25 => ?_)
    · exact absurd (by decide) c25
    · have c25 : 0 = 0 := g_neF 0 0 (by omega) (by omega) c25
      refine lv_aload_n hx hb dX2_about_28 rfl (lv_at hl 0 rfl) ?_
      refine lv_iconst (v := 1) hx hb dX2_about_29 (by decide) ?_
      refine g_MVi (As := [.int 1]) (rest := []) ⟨hx, hb, hml, hown, hts⟩ (mt_X2_no l dC dI cA H.size y0 q1 q2 q3 q4 q5 rn 0 sf lf mn rf nf ct il gf 1) (cwV 1 hts gX2_about_X2_no rfl rfl rfl hdX2_no ⟨Nat.le_of_ble_eq_true rfl, Nat.le_of_ble_eq_true rfl⟩) hP hK hD hS hA [0, 1, 2, 3, 4, 5] (by decide) rfl (va_recv hK hP (ci := 2) (q0 := 0) rfl rfl) rfl hl.1 rfl (Nat.le_of_ble_eq_true rfl) dX2_about_30 (Nat.zero_le _) (Nat.zero_le _) (fun u9 => [(y0, .inr (2, [.int 1, .int (nI rn), .ref q1, .ref q2, .int mn, .ref q3, .ref q4, .int ct, .int il, .ref q5])), (q1, .inl (cA, (2, .inl sf))), (q2, .inl (cA, (60, .inl lf))), (q3, .inl (cA, (320, .inl rf))), (q4, .inl (cA, (320, .inl nf))), (q5, .inl (cA, (6, .inl gf)))]) (fun _ => rfl) (fun _ => rfl) (fun u H locs hw_1 hP hD hS => ?_)
      have hw_1 : True := hw_1
      have hP : va_P (dC, dI) vwCl [(y0, .inr (2, [.int 1, .int (nI rn), .ref q1, .ref q2, .int mn, .ref q3, .ref q4, .int ct, .int il, .ref q5])), (q1, .inl (cA, (2, .inl sf))), (q2, .inl (cA, (60, .inl lf))), (q3, .inl (cA, (320, .inl rf))), (q4, .inl (cA, (320, .inl nf))), (q5, .inl (cA, (6, .inl gf)))] H := hP
      have hD : va_D A [(y0, .inr (2, [.int 1, .int (nI rn), .ref q1, .ref q2, .int mn, .ref q3, .ref q4, .int ct, .int il, .ref q5])), (q1, .inl (cA, (2, .inl sf))), (q2, .inl (cA, (60, .inl lf))), (q3, .inl (cA, (320, .inl rf))), (q4, .inl (cA, (320, .inl nf))), (q5, .inl (cA, (6, .inl gf)))] := hD
      exact g_endMi hx hb hr hlocks hP hS dX2_about_33 () rfl rfl trivial

abbrev mt_X2_about_2_rm : Room := { frames := 2, cells := 0, slots := 0, locals := 42 }
set_option maxHeartbeats 4000000 in
set_option maxRecDepth 100000 in
theorem mt_X2_about_2 (l : Launch) (dC : Nat → ClassId) (dI : Nat → Nat → Nat) (cA : ClassId) (sz : Nat) (y0 : Nat) (q1 : Nat) (q2 : Nat) (q3 : Nat) (q4 : Nat) (q5 : Nat) (rn : Nat) (tv : Int32) (sf : Nat → Int32) (lf : Nat → Int32) (mn : Int32) (rf : Nat → Int32) (nf : Nat → Int32) (ct : Int32) (il : Int32) (gf : Nat → Int32) (Vw : Nat → List Int32) (w : Nat) (k : Nat) (hW : MW Vw sf lf) (hw : w < 2) (hrn : rn ∈ rnS) (hok : okL rn (Vw w)) (hk : k + 2 < (Vw w).length) (hno9 : ¬ (atL (Vw w) (k + 2) = atL (Vw w) k ∧ sgI (atL (Vw w) (k + 1)) = sgI (atL (Vw w) k) ∧ abI (abI (atL (Vw w) (k + 1)) - abI (atL (Vw w) k)) = 1)) : Met l yX2_about wsX2_about mt_X2_about_2_rm (va_Pc [.ref y0, .int (nI w), .int (nI k)] (gB (dC, dI) [(cA, .int)] [(y0, .inr (2, [.int tv, .int (nI rn), .ref q1, .ref q2, .int mn, .ref q3, .ref q4, .int ct, .int il, .ref q5])), (q1, .inl (cA, (2, .inl sf))), (q2, .inl (cA, (60, .inl lf))), (q3, .inl (cA, (320, .inl rf))), (q4, .inl (cA, (320, .inl nf))), (q5, .inl (cA, (6, .inl gf)))] sz)) (gM (dC, dI) (some (.int 0)) (fun u : Unit => True) (fun u : Unit => [(y0, .inr (2, [.int 2, .int (nI rn), .ref q1, .ref q2, .int mn, .ref q3, .ref q4, .int ct, .int il, .ref q5])), (q1, .inl (cA, (2, .inl sf))), (q2, .inl (cA, (60, .inl lf))), (q3, .inl (cA, (320, .inl rf))), (q4, .inl (cA, (320, .inl nf))), (q5, .inl (cA, (6, .inl gf)))]) (va_A [(y0, .inr (2, [.int tv, .int (nI rn), .ref q1, .ref q2, .int mn, .ref q3, .ref q4, .int ct, .int il, .ref q5])), (q1, .inl (cA, (2, .inl sf))), (q2, .inl (cA, (60, .inl lf))), (q3, .inl (cA, (320, .inl rf))), (q4, .inl (cA, (320, .inl nf))), (q5, .inl (cA, (6, .inl gf)))] sz)) 0 0 (va_A [(y0, .inr (2, [.int tv, .int (nI rn), .ref q1, .ref q2, .int mn, .ref q3, .ref q4, .int ct, .int il, .ref q5])), (q1, .inl (cA, (2, .inl sf))), (q2, .inl (cA, (60, .inl lf))), (q3, .inl (cA, (320, .inl rf))), (q4, .inl (cA, (320, .inl nf))), (q5, .inl (cA, (6, .inl gf)))] sz) := by
  refine g_ofM (cc := cX2_about) (maxL := 5) (ret := (some .int)) (by decide) rfl (Nat.le_of_ble_eq_true rfl) (fun p e s m below meth c ls hx hb hr hml hts hown hlocks hP hK hl hin A hA hD hS => ?_)
  have hl : lv_has ls 5 [(0, .ref y0), (1, .int (nI w)), (2, .int (nI k))] := hl
  have hWl := (hW w hw).2.1
  refine lv_aload_n hx hb dX2_about_0 rfl (lv_at hl 0 rfl) ?_
  refine lv_iconst (v := 0) hx hb dX2_about_1 (by decide) ?_
  refine va_put (D := (dC, dI)) (ci := 2) (v := .int 0) (ty := .int) (C := RX2) (T := TX2) (N := 10) hx hb hts (in_X2_about_2) tyX2 tyX2_ok nmX2 hown hK hP hD hS 0 rfl rfl 0 (by decide) (hts (.fieldLink RX2 29 "BraidWordsModel" "thrown" "I") (List.mem_of_getElem? (i := 1) rfl)) (fun _ h9 => h9) rfl (by decide +kernel) rfl rfl (Nat.le_of_ble_eq_true rfl) dX2_about_2 (fun H locs hP hD hS => ?_)
  have hP : va_P (dC, dI) vwCl [(y0, .inr (2, [.int 0, .int (nI rn), .ref q1, .ref q2, .int mn, .ref q3, .ref q4, .int ct, .int il, .ref q5])), (q1, .inl (cA, (2, .inl sf))), (q2, .inl (cA, (60, .inl lf))), (q3, .inl (cA, (320, .inl rf))), (q4, .inl (cA, (320, .inl nf))), (q5, .inl (cA, (6, .inl gf)))] H := hP
  have hD : va_D A [(y0, .inr (2, [.int 0, .int (nI rn), .ref q1, .ref q2, .int mn, .ref q3, .ref q4, .int ct, .int il, .ref q5])), (q1, .inl (cA, (2, .inl sf))), (q2, .inl (cA, (60, .inl lf))), (q3, .inl (cA, (320, .inl rf))), (q4, .inl (cA, (320, .inl nf))), (q5, .inl (cA, (6, .inl gf)))] := hD
  refine lv_iload_n hx hb dX2_about_5 rfl (lv_at hl 1 rfl) ?_
  refine g_RSi (As := [.int (nI w)]) (rest := []) ⟨hx, hb, hml, hown, hts⟩ (mt_X2_isWord l dC dI cA H.size (nI w)) (va_cwS 1 hts gX2_about_X2_isWord rfl rfl rfl hdX2_isWord ⟨Nat.le_of_ble_eq_true rfl, Nat.le_of_ble_eq_true rfl⟩) hP hK hD [] (by decide) rfl rfl hl.1 rfl (Nat.le_of_ble_eq_true rfl) dX2_about_6 (Nat.zero_le _) (Nat.zero_le _) ?_
  rw [show (inI (nI w) 0 1) = 1 from inI_w hw]
  refine lv_if_eq (tgt := 28) hx hb dX2_about_9 (by decide) (fun c9 => ?_) (fun c9 => ?_)
  · exact absurd c9 (by decide)
  · have c9 : ¬ 1 = 0 := g_eqF 1 0 (by omega) (by omega) c9
    refine lv_iload_n hx hb dX2_about_12 rfl (lv_at hl 2 rfl) ?_
    refine lv_iconst (v := 0) hx hb dX2_about_13 (by decide) ?_
    refine lv_aload_n hx hb dX2_about_14 rfl (lv_at hl 0 rfl) ?_
    refine va_get (D := (dC, dI)) (ci := 2) (v := .ref q1) (C := RX2) (T := TX2) (N := 10) hx hb hts (in_X2_about_2) hown hK hP 0 rfl rfl 2 (by decide) (hts (.fieldLink RX2 13 "BraidWordsModel" "size" "[I") (List.mem_of_getElem? (i := 2) rfl)) (fun _ h9 => h9) rfl dX2_about_15 ?_
    refine lv_iload_n hx hb dX2_about_18 rfl (lv_at hl 1 rfl) ?_
    refine va_iald hx hb hK hP 1 0 rfl rfl (vp_in_nI (by omega) (by decide)) dX2_about_19 ?_
    rw [show (nI w).toNatClampNeg = w from nI_clamp (by omega)]
    rw [(hW w (by omega)).1]
    refine lv_iconst (v := 3) hx hb dX2_about_20 (by decide) ?_
    refine lv_isub hx hb dX2_about_21 ?_
    refine g_RSi (As := [.int (nI k), .int 0, .int ((nI ((Vw w).length)) - 3)]) (rest := []) ⟨hx, hb, hml, hown, hts⟩ (mt_X2_isIn l dC dI cA H.size (nI k) 0 ((nI ((Vw w).length)) - 3)) (va_cwS 3 hts gX2_about_X2_isIn rfl rfl rfl hdX2_isIn ⟨Nat.le_of_ble_eq_true rfl, Nat.le_of_ble_eq_true rfl⟩) hP hK hD [] (by decide) rfl rfl hl.1 rfl (Nat.le_of_ble_eq_true rfl) dX2_about_22 (Nat.zero_le _) (Nat.zero_le _) ?_
    rw [show (inI (nI k) 0 ((nI ((Vw w).length)) - 3)) = 1 from inI_pl (d := 3) (by omega) (by omega) (by decide)]
    refine lv_if_ne (tgt := 34) hx hb dX2_about_25 (by decide) (fun c25 => ?_) (fun c25 => ?_)
    · have c25 : ¬ 1 = 0 := g_neT 1 0 (by omega) (by omega) c25
      refine lv_aload_n hx hb dX2_about_34 rfl (lv_at hl 0 rfl) ?_
      refine lv_iload_n hx hb dX2_about_35 rfl (lv_at hl 1 rfl) ?_
      refine lv_iload_n hx hb dX2_about_36 rfl (lv_at hl 2 rfl) ?_
      refine g_RVi (As := [.int (nI w), .int (nI k)]) (rest := []) ⟨hx, hb, hml, hown, hts⟩ (mt_X2_at l dC dI cA H.size y0 q1 q2 q3 q4 q5 rn 0 sf lf mn rf nf ct il gf w k (by first | omega | (simp only [List.length_append, List.length_cons, List.length_nil, List.length_set, turnL_len]; omega)) (by first | omega | (simp only [List.length_append, List.length_cons, List.length_nil, List.length_set, turnL_len]; omega))) (cwV 2 hts gX2_about_X2_at rfl rfl rfl hdX2_at ⟨Nat.le_of_ble_eq_true rfl, Nat.le_of_ble_eq_true rfl⟩) hP hK hD [0, 1, 2, 3, 4, 5] (by decide) rfl (va_recv hK hP (ci := 2) (q0 := 0) rfl rfl) rfl hl.1 rfl (Nat.le_of_ble_eq_true rfl) dX2_about_37 (Nat.zero_le _) (Nat.zero_le _) ?_
      rw [(hW w (by omega)).2.2 k (by omega)]
      refine lv_istore_n (lv' := [(3, .int (atL (Vw w) k)), (0, .ref y0), (1, .int (nI w)), (2, .int (nI k))]) hx hb dX2_about_40 rfl hl (by decide) rfl (fun ls hl => ?_)
      refine lv_aload_n hx hb dX2_about_41 rfl (lv_at hl 1 rfl) ?_
      refine lv_iload_n hx hb dX2_about_42 rfl (lv_at hl 2 rfl) ?_
      refine lv_iload_n hx hb dX2_about_43 rfl (lv_at hl 3 rfl) ?_
      refine lv_iconst (v := 1) hx hb dX2_about_44 (by decide) ?_
      refine lv_iadd hx hb dX2_about_45 ?_
      rw [show (nI k) + 1 = nI (k + 1) from nI_add k 1]
      refine g_RVi (As := [.int (nI w), .int (nI (k + 1))]) (rest := []) ⟨hx, hb, hml, hown, hts⟩ (mt_X2_at l dC dI cA H.size y0 q1 q2 q3 q4 q5 rn 0 sf lf mn rf nf ct il gf w (k + 1) (by first | omega | (simp only [List.length_append, List.length_cons, List.length_nil, List.length_set, turnL_len]; omega)) (by first | omega | (simp only [List.length_append, List.length_cons, List.length_nil, List.length_set, turnL_len]; omega))) (cwV 2 hts gX2_about_X2_at rfl rfl rfl hdX2_at ⟨Nat.le_of_ble_eq_true rfl, Nat.le_of_ble_eq_true rfl⟩) hP hK hD [0, 1, 2, 3, 4, 5] (by decide) rfl (va_recv hK hP (ci := 2) (q0 := 0) rfl rfl) rfl hl.1 rfl (Nat.le_of_ble_eq_true rfl) dX2_about_46 (Nat.zero_le _) (Nat.zero_le _) ?_
      rw [(hW w (by omega)).2.2 (k + 1) (by omega)]
      refine lv_istore (lv' := [(4, .int (atL (Vw w) (k + 1))), (3, .int (atL (Vw w) k)), (0, .ref y0), (1, .int (nI w)), (2, .int (nI k))]) hx hb dX2_about_49 hl (by decide) rfl (fun ls hl => ?_)
      refine lv_aload_n hx hb dX2_about_51 rfl (lv_at hl 2 rfl) ?_
      refine lv_iload_n hx hb dX2_about_52 rfl (lv_at hl 3 rfl) ?_
      refine lv_iload_n hx hb dX2_about_53 rfl (lv_at hl 4 rfl) ?_
      refine lv_iconst (v := 2) hx hb dX2_about_54 (by decide) ?_
      refine lv_iadd hx hb dX2_about_55 ?_
      rw [show (nI k) + 2 = nI (k + 2) from nI_add k 2]
      refine g_RVi (As := [.int (nI w), .int (nI (k + 2))]) (rest := []) ⟨hx, hb, hml, hown, hts⟩ (mt_X2_at l dC dI cA H.size y0 q1 q2 q3 q4 q5 rn 0 sf lf mn rf nf ct il gf w (k + 2) (by first | omega | (simp only [List.length_append, List.length_cons, List.length_nil, List.length_set, turnL_len]; omega)) (by first | omega | (simp only [List.length_append, List.length_cons, List.length_nil, List.length_set, turnL_len]; omega))) (cwV 2 hts gX2_about_X2_at rfl rfl rfl hdX2_at ⟨Nat.le_of_ble_eq_true rfl, Nat.le_of_ble_eq_true rfl⟩) hP hK hD [0, 1, 2, 3, 4, 5] (by decide) rfl (va_recv hK hP (ci := 2) (q0 := 0) rfl rfl) rfl hl.1 rfl (Nat.le_of_ble_eq_true rfl) dX2_about_56 (Nat.zero_le _) (Nat.zero_le _) ?_
      rw [(hW w (by omega)).2.2 (k + 2) (by omega)]
      refine lv_iload_n hx hb dX2_about_59 rfl (lv_at hl 1 rfl) ?_
      refine lv_icmp_ne (tgt := 96) hx hb dX2_about_60 (by decide) (fun c60 => ?_) (fun c60 => ?_)
      · refine lv_aload_n hx hb dX2_about_96 rfl (lv_at hl 2 rfl) ?_
        refine lv_iconst (v := 2) hx hb dX2_about_97 (by decide) ?_
        refine g_MVi (As := [.int 2]) (rest := []) ⟨hx, hb, hml, hown, hts⟩ (mt_X2_no l dC dI cA H.size y0 q1 q2 q3 q4 q5 rn 0 sf lf mn rf nf ct il gf 2) (cwV 1 hts gX2_about_X2_no rfl rfl rfl hdX2_no ⟨Nat.le_of_ble_eq_true rfl, Nat.le_of_ble_eq_true rfl⟩) hP hK hD hS hA [0, 1, 2, 3, 4, 5] (by decide) rfl (va_recv hK hP (ci := 2) (q0 := 0) rfl rfl) rfl hl.1 rfl (Nat.le_of_ble_eq_true rfl) dX2_about_98 (Nat.zero_le _) (Nat.zero_le _) (fun u9 => [(y0, .inr (2, [.int 2, .int (nI rn), .ref q1, .ref q2, .int mn, .ref q3, .ref q4, .int ct, .int il, .ref q5])), (q1, .inl (cA, (2, .inl sf))), (q2, .inl (cA, (60, .inl lf))), (q3, .inl (cA, (320, .inl rf))), (q4, .inl (cA, (320, .inl nf))), (q5, .inl (cA, (6, .inl gf)))]) (fun _ => rfl) (fun _ => rfl) (fun u H locs hw_1 hP hD hS => ?_)
        have hw_1 : True := hw_1
        have hP : va_P (dC, dI) vwCl [(y0, .inr (2, [.int 2, .int (nI rn), .ref q1, .ref q2, .int mn, .ref q3, .ref q4, .int ct, .int il, .ref q5])), (q1, .inl (cA, (2, .inl sf))), (q2, .inl (cA, (60, .inl lf))), (q3, .inl (cA, (320, .inl rf))), (q4, .inl (cA, (320, .inl nf))), (q5, .inl (cA, (6, .inl gf)))] H := hP
        have hD : va_D A [(y0, .inr (2, [.int 2, .int (nI rn), .ref q1, .ref q2, .int mn, .ref q3, .ref q4, .int ct, .int il, .ref q5])), (q1, .inl (cA, (2, .inl sf))), (q2, .inl (cA, (60, .inl lf))), (q3, .inl (cA, (320, .inl rf))), (q4, .inl (cA, (320, .inl nf))), (q5, .inl (cA, (6, .inl gf)))] := hD
        exact g_endMi hx hb hr hlocks hP hS dX2_about_101 () rfl rfl trivial
      · refine lv_iload_n hx hb dX2_about_63 rfl (lv_at hl 1 rfl) ?_
        refine lv_if_le (tgt := 71) hx hb dX2_about_64 (by decide) (fun c64 => ?_) (fun c64 => ?_)
        · refine lv_iconst (v := 0) hx hb dX2_about_71 (by decide) ?_
          refine lv_iload hx hb dX2_about_72 (lv_at hl 0 rfl) ?_
          refine lv_if_le (tgt := 81) hx hb dX2_about_74 (by decide) (fun c74 => ?_) (fun c74 => ?_)
          · refine lv_iconst (v := 0) hx hb dX2_about_81 (by decide) ?_
            refine lv_icmp_ne (tgt := 96) hx hb dX2_about_82 (by decide) (fun c82 => ?_) (fun c82 => ?_)
            · exact absurd rfl c82
            · refine lv_iload_n hx hb dX2_about_85 rfl (lv_at hl 1 rfl) ?_
              refine lv_iload hx hb dX2_about_86 (lv_at hl 0 rfl) ?_
              refine lv_isub hx hb dX2_about_88 ?_
              refine va_mabs hx hb (hml.trans hl.1.symm) hown (hts (.methodLink RX2 47 Lib.Math.abs.name) (List.mem_of_getElem? (i := 3) rfl)) (hts (.static Lib.Math.abs.name) (List.mem_of_getElem? (i := 4) rfl)) (hts (.initialized "java/lang/Math") (List.mem_of_getElem? (i := 5) rfl)) (hts (.code Lib.Math.abs.name Lib.Math.abs.code 1 (some .int)) (List.mem_of_getElem? (i := 6) rfl)) (Nat.le_of_ble_eq_true rfl) (Nat.le_of_ble_eq_true rfl) (Nat.zero_le _) (Nat.zero_le _) dX2_about_89 ?_
              rw [mabs_eq]
              refine lv_iconst (v := 1) hx hb dX2_about_92 (by decide) ?_
              refine lv_icmp_eq (tgt := 102) hx hb dX2_about_93 (by decide) (fun c93 => ?_) (fun c93 => ?_)
              · exact absurd ⟨c60, ok_ab2 hrn (okL_at hok (show k < (Vw w).length by omega)) (okL_at hok (show k + 1 < (Vw w).length by omega)) (by first | exact Or.inl ⟨c64, c74⟩ | exact Or.inr ⟨c64, c74⟩) c93⟩ hno9
              · refine lv_aload_n hx hb dX2_about_96 rfl (lv_at hl 2 rfl) ?_
                refine lv_iconst (v := 2) hx hb dX2_about_97 (by decide) ?_
                refine g_MVi (As := [.int 2]) (rest := []) ⟨hx, hb, hml, hown, hts⟩ (mt_X2_no l dC dI cA H.size y0 q1 q2 q3 q4 q5 rn 0 sf lf mn rf nf ct il gf 2) (cwV 1 hts gX2_about_X2_no rfl rfl rfl hdX2_no ⟨Nat.le_of_ble_eq_true rfl, Nat.le_of_ble_eq_true rfl⟩) hP hK hD hS hA [0, 1, 2, 3, 4, 5] (by decide) rfl (va_recv hK hP (ci := 2) (q0 := 0) rfl rfl) rfl hl.1 rfl (Nat.le_of_ble_eq_true rfl) dX2_about_98 (Nat.zero_le _) (Nat.zero_le _) (fun u9 => [(y0, .inr (2, [.int 2, .int (nI rn), .ref q1, .ref q2, .int mn, .ref q3, .ref q4, .int ct, .int il, .ref q5])), (q1, .inl (cA, (2, .inl sf))), (q2, .inl (cA, (60, .inl lf))), (q3, .inl (cA, (320, .inl rf))), (q4, .inl (cA, (320, .inl nf))), (q5, .inl (cA, (6, .inl gf)))]) (fun _ => rfl) (fun _ => rfl) (fun u H locs hw_2 hP hD hS => ?_)
                have hw_2 : True := hw_2
                have hP : va_P (dC, dI) vwCl [(y0, .inr (2, [.int 2, .int (nI rn), .ref q1, .ref q2, .int mn, .ref q3, .ref q4, .int ct, .int il, .ref q5])), (q1, .inl (cA, (2, .inl sf))), (q2, .inl (cA, (60, .inl lf))), (q3, .inl (cA, (320, .inl rf))), (q4, .inl (cA, (320, .inl nf))), (q5, .inl (cA, (6, .inl gf)))] H := hP
                have hD : va_D A [(y0, .inr (2, [.int 2, .int (nI rn), .ref q1, .ref q2, .int mn, .ref q3, .ref q4, .int ct, .int il, .ref q5])), (q1, .inl (cA, (2, .inl sf))), (q2, .inl (cA, (60, .inl lf))), (q3, .inl (cA, (320, .inl rf))), (q4, .inl (cA, (320, .inl nf))), (q5, .inl (cA, (6, .inl gf)))] := hD
                exact g_endMi hx hb hr hlocks hP hS dX2_about_101 () rfl rfl trivial
          · refine lv_iconst (v := 1) hx hb dX2_about_77 (by decide) ?_
            refine lv_goto (tgt := 82) hx hb dX2_about_78 (by decide) ?_
            refine lv_icmp_ne (tgt := 96) hx hb dX2_about_82 (by decide) (fun c82 => ?_) (fun c82 => ?_)
            · refine lv_aload_n hx hb dX2_about_96 rfl (lv_at hl 2 rfl) ?_
              refine lv_iconst (v := 2) hx hb dX2_about_97 (by decide) ?_
              refine g_MVi (As := [.int 2]) (rest := []) ⟨hx, hb, hml, hown, hts⟩ (mt_X2_no l dC dI cA H.size y0 q1 q2 q3 q4 q5 rn 0 sf lf mn rf nf ct il gf 2) (cwV 1 hts gX2_about_X2_no rfl rfl rfl hdX2_no ⟨Nat.le_of_ble_eq_true rfl, Nat.le_of_ble_eq_true rfl⟩) hP hK hD hS hA [0, 1, 2, 3, 4, 5] (by decide) rfl (va_recv hK hP (ci := 2) (q0 := 0) rfl rfl) rfl hl.1 rfl (Nat.le_of_ble_eq_true rfl) dX2_about_98 (Nat.zero_le _) (Nat.zero_le _) (fun u9 => [(y0, .inr (2, [.int 2, .int (nI rn), .ref q1, .ref q2, .int mn, .ref q3, .ref q4, .int ct, .int il, .ref q5])), (q1, .inl (cA, (2, .inl sf))), (q2, .inl (cA, (60, .inl lf))), (q3, .inl (cA, (320, .inl rf))), (q4, .inl (cA, (320, .inl nf))), (q5, .inl (cA, (6, .inl gf)))]) (fun _ => rfl) (fun _ => rfl) (fun u H locs hw_3 hP hD hS => ?_)
              have hw_3 : True := hw_3
              have hP : va_P (dC, dI) vwCl [(y0, .inr (2, [.int 2, .int (nI rn), .ref q1, .ref q2, .int mn, .ref q3, .ref q4, .int ct, .int il, .ref q5])), (q1, .inl (cA, (2, .inl sf))), (q2, .inl (cA, (60, .inl lf))), (q3, .inl (cA, (320, .inl rf))), (q4, .inl (cA, (320, .inl nf))), (q5, .inl (cA, (6, .inl gf)))] H := hP
              have hD : va_D A [(y0, .inr (2, [.int 2, .int (nI rn), .ref q1, .ref q2, .int mn, .ref q3, .ref q4, .int ct, .int il, .ref q5])), (q1, .inl (cA, (2, .inl sf))), (q2, .inl (cA, (60, .inl lf))), (q3, .inl (cA, (320, .inl rf))), (q4, .inl (cA, (320, .inl nf))), (q5, .inl (cA, (6, .inl gf)))] := hD
              exact g_endMi hx hb hr hlocks hP hS dX2_about_101 () rfl rfl trivial
            · exact absurd c82 (by decide)
        · refine lv_iconst (v := 1) hx hb dX2_about_67 (by decide) ?_
          refine lv_goto (tgt := 72) hx hb dX2_about_68 (by decide) ?_
          refine lv_iload hx hb dX2_about_72 (lv_at hl 0 rfl) ?_
          refine lv_if_le (tgt := 81) hx hb dX2_about_74 (by decide) (fun c74 => ?_) (fun c74 => ?_)
          · refine lv_iconst (v := 0) hx hb dX2_about_81 (by decide) ?_
            refine lv_icmp_ne (tgt := 96) hx hb dX2_about_82 (by decide) (fun c82 => ?_) (fun c82 => ?_)
            · refine lv_aload_n hx hb dX2_about_96 rfl (lv_at hl 2 rfl) ?_
              refine lv_iconst (v := 2) hx hb dX2_about_97 (by decide) ?_
              refine g_MVi (As := [.int 2]) (rest := []) ⟨hx, hb, hml, hown, hts⟩ (mt_X2_no l dC dI cA H.size y0 q1 q2 q3 q4 q5 rn 0 sf lf mn rf nf ct il gf 2) (cwV 1 hts gX2_about_X2_no rfl rfl rfl hdX2_no ⟨Nat.le_of_ble_eq_true rfl, Nat.le_of_ble_eq_true rfl⟩) hP hK hD hS hA [0, 1, 2, 3, 4, 5] (by decide) rfl (va_recv hK hP (ci := 2) (q0 := 0) rfl rfl) rfl hl.1 rfl (Nat.le_of_ble_eq_true rfl) dX2_about_98 (Nat.zero_le _) (Nat.zero_le _) (fun u9 => [(y0, .inr (2, [.int 2, .int (nI rn), .ref q1, .ref q2, .int mn, .ref q3, .ref q4, .int ct, .int il, .ref q5])), (q1, .inl (cA, (2, .inl sf))), (q2, .inl (cA, (60, .inl lf))), (q3, .inl (cA, (320, .inl rf))), (q4, .inl (cA, (320, .inl nf))), (q5, .inl (cA, (6, .inl gf)))]) (fun _ => rfl) (fun _ => rfl) (fun u H locs hw_4 hP hD hS => ?_)
              have hw_4 : True := hw_4
              have hP : va_P (dC, dI) vwCl [(y0, .inr (2, [.int 2, .int (nI rn), .ref q1, .ref q2, .int mn, .ref q3, .ref q4, .int ct, .int il, .ref q5])), (q1, .inl (cA, (2, .inl sf))), (q2, .inl (cA, (60, .inl lf))), (q3, .inl (cA, (320, .inl rf))), (q4, .inl (cA, (320, .inl nf))), (q5, .inl (cA, (6, .inl gf)))] H := hP
              have hD : va_D A [(y0, .inr (2, [.int 2, .int (nI rn), .ref q1, .ref q2, .int mn, .ref q3, .ref q4, .int ct, .int il, .ref q5])), (q1, .inl (cA, (2, .inl sf))), (q2, .inl (cA, (60, .inl lf))), (q3, .inl (cA, (320, .inl rf))), (q4, .inl (cA, (320, .inl nf))), (q5, .inl (cA, (6, .inl gf)))] := hD
              exact g_endMi hx hb hr hlocks hP hS dX2_about_101 () rfl rfl trivial
            · exact absurd c82 (by decide)
          · refine lv_iconst (v := 1) hx hb dX2_about_77 (by decide) ?_
            refine lv_goto (tgt := 82) hx hb dX2_about_78 (by decide) ?_
            refine lv_icmp_ne (tgt := 96) hx hb dX2_about_82 (by decide) (fun c82 => ?_) (fun c82 => ?_)
            · exact absurd rfl c82
            · refine lv_iload_n hx hb dX2_about_85 rfl (lv_at hl 1 rfl) ?_
              refine lv_iload hx hb dX2_about_86 (lv_at hl 0 rfl) ?_
              refine lv_isub hx hb dX2_about_88 ?_
              refine va_mabs hx hb (hml.trans hl.1.symm) hown (hts (.methodLink RX2 47 Lib.Math.abs.name) (List.mem_of_getElem? (i := 3) rfl)) (hts (.static Lib.Math.abs.name) (List.mem_of_getElem? (i := 4) rfl)) (hts (.initialized "java/lang/Math") (List.mem_of_getElem? (i := 5) rfl)) (hts (.code Lib.Math.abs.name Lib.Math.abs.code 1 (some .int)) (List.mem_of_getElem? (i := 6) rfl)) (Nat.le_of_ble_eq_true rfl) (Nat.le_of_ble_eq_true rfl) (Nat.zero_le _) (Nat.zero_le _) dX2_about_89 ?_
              rw [mabs_eq]
              refine lv_iconst (v := 1) hx hb dX2_about_92 (by decide) ?_
              refine lv_icmp_eq (tgt := 102) hx hb dX2_about_93 (by decide) (fun c93 => ?_) (fun c93 => ?_)
              · exact absurd ⟨c60, ok_ab2 hrn (okL_at hok (show k < (Vw w).length by omega)) (okL_at hok (show k + 1 < (Vw w).length by omega)) (by first | exact Or.inl ⟨c64, c74⟩ | exact Or.inr ⟨c64, c74⟩) c93⟩ hno9
              · refine lv_aload_n hx hb dX2_about_96 rfl (lv_at hl 2 rfl) ?_
                refine lv_iconst (v := 2) hx hb dX2_about_97 (by decide) ?_
                refine g_MVi (As := [.int 2]) (rest := []) ⟨hx, hb, hml, hown, hts⟩ (mt_X2_no l dC dI cA H.size y0 q1 q2 q3 q4 q5 rn 0 sf lf mn rf nf ct il gf 2) (cwV 1 hts gX2_about_X2_no rfl rfl rfl hdX2_no ⟨Nat.le_of_ble_eq_true rfl, Nat.le_of_ble_eq_true rfl⟩) hP hK hD hS hA [0, 1, 2, 3, 4, 5] (by decide) rfl (va_recv hK hP (ci := 2) (q0 := 0) rfl rfl) rfl hl.1 rfl (Nat.le_of_ble_eq_true rfl) dX2_about_98 (Nat.zero_le _) (Nat.zero_le _) (fun u9 => [(y0, .inr (2, [.int 2, .int (nI rn), .ref q1, .ref q2, .int mn, .ref q3, .ref q4, .int ct, .int il, .ref q5])), (q1, .inl (cA, (2, .inl sf))), (q2, .inl (cA, (60, .inl lf))), (q3, .inl (cA, (320, .inl rf))), (q4, .inl (cA, (320, .inl nf))), (q5, .inl (cA, (6, .inl gf)))]) (fun _ => rfl) (fun _ => rfl) (fun u H locs hw_5 hP hD hS => ?_)
                have hw_5 : True := hw_5
                have hP : va_P (dC, dI) vwCl [(y0, .inr (2, [.int 2, .int (nI rn), .ref q1, .ref q2, .int mn, .ref q3, .ref q4, .int ct, .int il, .ref q5])), (q1, .inl (cA, (2, .inl sf))), (q2, .inl (cA, (60, .inl lf))), (q3, .inl (cA, (320, .inl rf))), (q4, .inl (cA, (320, .inl nf))), (q5, .inl (cA, (6, .inl gf)))] H := hP
                have hD : va_D A [(y0, .inr (2, [.int 2, .int (nI rn), .ref q1, .ref q2, .int mn, .ref q3, .ref q4, .int ct, .int il, .ref q5])), (q1, .inl (cA, (2, .inl sf))), (q2, .inl (cA, (60, .inl lf))), (q3, .inl (cA, (320, .inl rf))), (q4, .inl (cA, (320, .inl nf))), (q5, .inl (cA, (6, .inl gf)))] := hD
                exact g_endMi hx hb hr hlocks hP hS dX2_about_101 () rfl rfl trivial
    · exact absurd c25 (by decide)

abbrev mt_X2_cut_rm : Room := { frames := 3, cells := 0, slots := 0, locals := 87 }
set_option maxHeartbeats 4000000 in
set_option maxRecDepth 100000 in
theorem mt_X2_cut (l : Launch) (dC : Nat → ClassId) (dI : Nat → Nat → Nat) (cA : ClassId) (sz : Nat) (y0 : Nat) (q1 : Nat) (q2 : Nat) (q3 : Nat) (q4 : Nat) (q5 : Nat) (rn : Nat) (tv : Int32) (sf : Nat → Int32) (lf : Nat → Int32) (mn : Int32) (rf : Nat → Int32) (nf : Nat → Int32) (ct : Int32) (il : Int32) (gf : Nat → Int32) (Vw : Nat → List Int32) (w : Nat) (b9 : Nat) (e9 : Nat) (hW : MW Vw sf lf) (hw : w < 2) (hrn : rn ∈ rnS) (hok : okL rn (Vw w)) (he : enF (Vw w) 0 = some e9) (hb9 : bg (Vw w) e9 = some b9) (hk : (cutL (Vw w) b9 e9).length ≤ 30) : Met l yX2_cut wsX2_cut mt_X2_cut_rm (va_Pc [.ref y0, .int (nI w)] (gB (dC, dI) [(cA, .int)] [(y0, .inr (2, [.int tv, .int (nI rn), .ref q1, .ref q2, .int mn, .ref q3, .ref q4, .int ct, .int il, .ref q5])), (q1, .inl (cA, (2, .inl sf))), (q2, .inl (cA, (60, .inl lf))), (q3, .inl (cA, (320, .inl rf))), (q4, .inl (cA, (320, .inl nf))), (q5, .inl (cA, (6, .inl gf)))] sz)) (gM (dC, dI) (some (.int (nI (cutL (Vw w) b9 e9).length))) (fun u : (Nat → Int32) × (Nat → Int32) × (Nat → Int32) × (Nat → Int32) => MW (upW Vw w (cutL (Vw w) b9 e9)) u.1 u.2.1) (fun u : (Nat → Int32) × (Nat → Int32) × (Nat → Int32) × (Nat → Int32) => [(y0, .inr (2, [.int 0, .int (nI rn), .ref q1, .ref q2, .int (nI ((cutL (Vw w) b9 e9).length)), .ref q3, .ref q4, .int ct, .int il, .ref q5])), (q1, .inl (cA, (2, .inl u.1))), (q2, .inl (cA, (60, .inl u.2.1))), (q3, .inl (cA, (320, .inl u.2.2.1))), (q4, .inl (cA, (320, .inl u.2.2.2))), (q5, .inl (cA, (6, .inl gf)))]) (va_A [(y0, .inr (2, [.int tv, .int (nI rn), .ref q1, .ref q2, .int mn, .ref q3, .ref q4, .int ct, .int il, .ref q5])), (q1, .inl (cA, (2, .inl sf))), (q2, .inl (cA, (60, .inl lf))), (q3, .inl (cA, (320, .inl rf))), (q4, .inl (cA, (320, .inl nf))), (q5, .inl (cA, (6, .inl gf)))] sz)) 0 0 (va_A [(y0, .inr (2, [.int tv, .int (nI rn), .ref q1, .ref q2, .int mn, .ref q3, .ref q4, .int ct, .int il, .ref q5])), (q1, .inl (cA, (2, .inl sf))), (q2, .inl (cA, (60, .inl lf))), (q3, .inl (cA, (320, .inl rf))), (q4, .inl (cA, (320, .inl nf))), (q5, .inl (cA, (6, .inl gf)))] sz) := by
  refine g_ofM (cc := cX2_cut) (maxL := 3) (ret := (some .int)) (by decide) rfl (Nat.le_of_ble_eq_true rfl) (fun p e s m below meth c ls hx hb hr hml hts hown hlocks hP hK hl hin A hA hD hS => ?_)
  have hl : lv_has ls 3 [(0, .ref y0), (1, .int (nI w))] := hl
  have hWl := (hW w hw).2.1
  obtain ⟨-, he2, -, -⟩ := enF_spec he
  have hbl := bg_lt hb9
  have hcl := cutL_len hbl he2
  have hcn : cnL (Vw w) b9 (e9 - (b9 + 1)) ≤ e9 - (b9 + 1) := cnL_le
  refine lv_aload_n hx hb dX2_cut_0 rfl (lv_at hl 0 rfl) ?_
  refine lv_iconst (v := 0) hx hb dX2_cut_1 (by decide) ?_
  refine va_put (D := (dC, dI)) (ci := 2) (v := .int 0) (ty := .int) (C := RX2) (T := TX2) (N := 10) hx hb hts (in_X2_cut_2) tyX2 tyX2_ok nmX2 hown hK hP hD hS 0 rfl rfl 0 (by decide) (hts (.fieldLink RX2 29 "BraidWordsModel" "thrown" "I") (List.mem_of_getElem? (i := 1) rfl)) (fun _ h9 => h9) rfl (by decide +kernel) rfl rfl (Nat.le_of_ble_eq_true rfl) dX2_cut_2 (fun H locs hP hD hS => ?_)
  have hP : va_P (dC, dI) vwCl [(y0, .inr (2, [.int 0, .int (nI rn), .ref q1, .ref q2, .int mn, .ref q3, .ref q4, .int ct, .int il, .ref q5])), (q1, .inl (cA, (2, .inl sf))), (q2, .inl (cA, (60, .inl lf))), (q3, .inl (cA, (320, .inl rf))), (q4, .inl (cA, (320, .inl nf))), (q5, .inl (cA, (6, .inl gf)))] H := hP
  have hD : va_D A [(y0, .inr (2, [.int 0, .int (nI rn), .ref q1, .ref q2, .int mn, .ref q3, .ref q4, .int ct, .int il, .ref q5])), (q1, .inl (cA, (2, .inl sf))), (q2, .inl (cA, (60, .inl lf))), (q3, .inl (cA, (320, .inl rf))), (q4, .inl (cA, (320, .inl nf))), (q5, .inl (cA, (6, .inl gf)))] := hD
  refine lv_iload_n hx hb dX2_cut_5 rfl (lv_at hl 1 rfl) ?_
  refine g_RSi (As := [.int (nI w)]) (rest := []) ⟨hx, hb, hml, hown, hts⟩ (mt_X2_isWord l dC dI cA H.size (nI w)) (va_cwS 1 hts gX2_cut_X2_isWord rfl rfl rfl hdX2_isWord ⟨Nat.le_of_ble_eq_true rfl, Nat.le_of_ble_eq_true rfl⟩) hP hK hD [] (by decide) rfl rfl hl.1 rfl (Nat.le_of_ble_eq_true rfl) dX2_cut_6 (Nat.zero_le _) (Nat.zero_le _) ?_
  rw [show (inI (nI w) 0 1) = 1 from inI_w hw]
  refine lv_if_ne (tgt := 18) hx hb dX2_cut_9 (by decide) (fun c9 => ?_) (fun c9 => ?_)
  · have c9 : ¬ 1 = 0 := g_neT 1 0 (by omega) (by omega) c9
    refine lv_aload_n hx hb dX2_cut_18 rfl (lv_at hl 0 rfl) ?_
    refine lv_iload_n hx hb dX2_cut_19 rfl (lv_at hl 1 rfl) ?_
    refine g_MVv (As := [.int (nI w)]) (rest := []) ⟨hx, hb, hml, hown, hts⟩ (mt_X2_load l dC dI cA H.size y0 q1 q2 q3 q4 q5 rn 0 sf lf mn rf nf ct il gf Vw w hW hw) (cwV 1 hts gX2_cut_X2_load rfl rfl rfl hdX2_load ⟨Nat.le_of_ble_eq_true rfl, Nat.le_of_ble_eq_true rfl⟩) hP hK hD hS hA [0, 1, 2, 3, 4, 5] (by decide) rfl (va_recv hK hP (ci := 2) (q0 := 0) rfl rfl) rfl hl.1 rfl (Nat.le_of_ble_eq_true rfl) dX2_cut_20 (Nat.zero_le _) (Nat.zero_le _) (fun u9 => [(y0, .inr (2, [.int 0, .int (nI rn), .ref q1, .ref q2, .int (nI ((Vw w).length)), .ref q3, .ref q4, .int ct, .int il, .ref q5])), (q1, .inl (cA, (2, .inl sf))), (q2, .inl (cA, (60, .inl lf))), (q3, .inl (cA, (320, .inl u9))), (q4, .inl (cA, (320, .inl nf))), (q5, .inl (cA, (6, .inl gf)))]) (fun _ => rfl) (fun _ => rfl) (fun u H locs hw_2 hP hD hS => ?_)
    obtain ⟨r1_1, rfl⟩ : ∃ z, z = u := ⟨_, rfl⟩
    have hw_2 : MR (Vw w) r1_1 := hw_2
    have hP : va_P (dC, dI) vwCl [(y0, .inr (2, [.int 0, .int (nI rn), .ref q1, .ref q2, .int (nI ((Vw w).length)), .ref q3, .ref q4, .int ct, .int il, .ref q5])), (q1, .inl (cA, (2, .inl sf))), (q2, .inl (cA, (60, .inl lf))), (q3, .inl (cA, (320, .inl r1_1))), (q4, .inl (cA, (320, .inl nf))), (q5, .inl (cA, (6, .inl gf)))] H := hP
    have hD : va_D A [(y0, .inr (2, [.int 0, .int (nI rn), .ref q1, .ref q2, .int (nI ((Vw w).length)), .ref q3, .ref q4, .int ct, .int il, .ref q5])), (q1, .inl (cA, (2, .inl sf))), (q2, .inl (cA, (60, .inl lf))), (q3, .inl (cA, (320, .inl r1_1))), (q4, .inl (cA, (320, .inl nf))), (q5, .inl (cA, (6, .inl gf)))] := hD
    refine lv_aload_n hx hb dX2_cut_23 rfl (lv_at hl 0 rfl) ?_
    refine g_RVi (As := []) (rest := []) ⟨hx, hb, hml, hown, hts⟩ (mt_X2_ends l dC dI cA H.size y0 q1 q2 q3 q4 q5 rn 0 sf lf r1_1 nf ct il gf (Vw w) hw_2 hrn hok) (cwV 0 hts gX2_cut_X2_ends rfl rfl rfl hdX2_ends ⟨Nat.le_of_ble_eq_true rfl, Nat.le_of_ble_eq_true rfl⟩) hP hK hD [0, 1, 2, 3, 4, 5] (by decide) rfl (va_recv hK hP (ci := 2) (q0 := 0) rfl rfl) rfl hl.1 rfl (Nat.le_of_ble_eq_true rfl) dX2_cut_24 (Nat.zero_le _) (Nat.zero_le _) ?_
    rw [show oiI (enF (Vw w) 0) = nI e9 from by rw [he]; rfl]
    refine lv_istore_n (lv' := [(2, .int (nI e9)), (0, .ref y0), (1, .int (nI w))]) hx hb dX2_cut_27 rfl hl (by decide) rfl (fun ls hl => ?_)
    refine lv_iload_n hx hb dX2_cut_28 rfl (lv_at hl 0 rfl) ?_
    refine lv_iconst (v := (-1)) hx hb dX2_cut_29 (by decide) ?_
    refine lv_icmp_eq (tgt := 48) hx hb dX2_cut_30 (by decide) (fun c30 => ?_) (fun c30 => ?_)
    · exact absurd c30 (nI_nm1 (by omega))
    · refine lv_aload_n hx hb dX2_cut_33 rfl (lv_at hl 1 rfl) ?_
      refine va_get (D := (dC, dI)) (ci := 2) (v := .int (nI ((Vw w).length))) (C := RX2) (T := TX2) (N := 10) hx hb hts (in_X2_cut_2) hown hK hP 0 rfl rfl 4 (by decide) (hts (.fieldLink RX2 36 "BraidWordsModel" "many" "I") (List.mem_of_getElem? (i := 2) rfl)) (fun _ h9 => h9) rfl dX2_cut_34 ?_
      refine lv_aload_n hx hb dX2_cut_37 rfl (lv_at hl 1 rfl) ?_
      refine lv_iload_n hx hb dX2_cut_38 rfl (lv_at hl 0 rfl) ?_
      refine g_RVi (As := [.int (nI e9)]) (rest := [.int (nI ((Vw w).length))]) ⟨hx, hb, hml, hown, hts⟩ (mt_X2_more l dC dI cA H.size y0 q1 q2 q3 q4 q5 rn 0 sf lf r1_1 nf ct il gf (Vw w) b9 e9 hw_2 hrn hok (by first | omega | (simp only [List.length_append, List.length_cons, List.length_nil, List.length_set, turnL_len]; omega)) hb9) (cwV 1 hts gX2_cut_X2_more rfl rfl rfl hdX2_more ⟨Nat.le_of_ble_eq_true rfl, Nat.le_of_ble_eq_true rfl⟩) hP hK hD [0, 1, 2, 3, 4, 5] (by decide) rfl (va_recv hK hP (ci := 2) (q0 := 0) rfl rfl) rfl hl.1 rfl (Nat.le_of_ble_eq_true rfl) dX2_cut_39 (Nat.zero_le _) (Nat.zero_le _) ?_
      refine lv_iadd hx hb dX2_cut_42 ?_
      rw [cut_more hbl he2]
      refine lv_bipush (v := 30) hx hb dX2_cut_43 (by decide) ?_
      refine lv_icmp_le (tgt := 54) hx hb dX2_cut_45 (by decide) (fun c45 => ?_) (fun c45 => ?_)
      · have c45 : ((cutL (Vw w) b9 e9).length) ≤ 30 := g_leT ((cutL (Vw w) b9 e9).length) 30 (by omega) (by omega) c45
        refine lv_aload_n hx hb dX2_cut_54 rfl (lv_at hl 1 rfl) ?_
        refine lv_iload_n hx hb dX2_cut_55 rfl (lv_at hl 0 rfl) ?_
        refine g_MVv (As := [.int (nI e9)]) (rest := []) ⟨hx, hb, hml, hown, hts⟩ (mt_X2_cutAt l dC dI cA H.size y0 q1 q2 q3 q4 q5 rn 0 sf lf r1_1 nf ct il gf (Vw w) b9 e9 hw_2 hrn hok (by first | omega | (simp only [List.length_append, List.length_cons, List.length_nil, List.length_set, turnL_len]; omega)) hb9 (by first | omega | (simp only [List.length_append, List.length_cons, List.length_nil, List.length_set, turnL_len]; omega))) (cwV 1 hts gX2_cut_X2_cutAt rfl rfl rfl hdX2_cutAt ⟨Nat.le_of_ble_eq_true rfl, Nat.le_of_ble_eq_true rfl⟩) hP hK hD hS hA [0, 1, 2, 3, 4, 5] (by decide) rfl (va_recv hK hP (ci := 2) (q0 := 0) rfl rfl) rfl hl.1 rfl (Nat.le_of_ble_eq_true rfl) dX2_cut_56 (Nat.zero_le _) (Nat.zero_le _) (fun u9 => [(y0, .inr (2, [.int 0, .int (nI rn), .ref q1, .ref q2, .int (nI ((cutL (Vw w) b9 e9).length)), .ref q3, .ref q4, .int ct, .int il, .ref q5])), (q1, .inl (cA, (2, .inl sf))), (q2, .inl (cA, (60, .inl lf))), (q3, .inl (cA, (320, .inl u9.1))), (q4, .inl (cA, (320, .inl u9.2))), (q5, .inl (cA, (6, .inl gf)))]) (fun _ => rfl) (fun _ => rfl) (fun u H locs hw_5 hP hD hS => ?_)
        obtain ⟨r1_3, n1_4⟩ := u
        have hw_5 : MR (cutL (Vw w) b9 e9) r1_3 := hw_5
        have hP : va_P (dC, dI) vwCl [(y0, .inr (2, [.int 0, .int (nI rn), .ref q1, .ref q2, .int (nI ((cutL (Vw w) b9 e9).length)), .ref q3, .ref q4, .int ct, .int il, .ref q5])), (q1, .inl (cA, (2, .inl sf))), (q2, .inl (cA, (60, .inl lf))), (q3, .inl (cA, (320, .inl r1_3))), (q4, .inl (cA, (320, .inl n1_4))), (q5, .inl (cA, (6, .inl gf)))] H := hP
        have hD : va_D A [(y0, .inr (2, [.int 0, .int (nI rn), .ref q1, .ref q2, .int (nI ((cutL (Vw w) b9 e9).length)), .ref q3, .ref q4, .int ct, .int il, .ref q5])), (q1, .inl (cA, (2, .inl sf))), (q2, .inl (cA, (60, .inl lf))), (q3, .inl (cA, (320, .inl r1_3))), (q4, .inl (cA, (320, .inl n1_4))), (q5, .inl (cA, (6, .inl gf)))] := hD
        refine lv_aload_n hx hb dX2_cut_59 rfl (lv_at hl 1 rfl) ?_
        refine lv_iload_n hx hb dX2_cut_60 rfl (lv_at hl 2 rfl) ?_
        refine g_MVv (As := [.int (nI w)]) (rest := []) ⟨hx, hb, hml, hown, hts⟩ (mt_X2_store l dC dI cA H.size y0 q1 q2 q3 q4 q5 rn 0 sf lf r1_3 n1_4 ct il gf (cutL (Vw w) b9 e9) w (by first | omega | (simp only [List.length_append, List.length_cons, List.length_nil, List.length_set, turnL_len]; omega)) hw_5 hk) (cwV 1 hts gX2_cut_X2_store rfl rfl rfl hdX2_store ⟨Nat.le_of_ble_eq_true rfl, Nat.le_of_ble_eq_true rfl⟩) hP hK hD hS hA [0, 1, 2, 3, 4, 5] (by decide) rfl (va_recv hK hP (ci := 2) (q0 := 0) rfl rfl) rfl hl.1 rfl (Nat.le_of_ble_eq_true rfl) dX2_cut_61 (Nat.zero_le _) (Nat.zero_le _) (fun u9 => [(y0, .inr (2, [.int 0, .int (nI rn), .ref q1, .ref q2, .int (nI (cutL (Vw w) b9 e9).length), .ref q3, .ref q4, .int ct, .int il, .ref q5])), (q1, .inl (cA, (2, .inl u9.2))), (q2, .inl (cA, (60, .inl u9.1))), (q3, .inl (cA, (320, .inl r1_3))), (q4, .inl (cA, (320, .inl n1_4))), (q5, .inl (cA, (6, .inl gf)))]) (fun _ => rfl) (fun _ => rfl) (fun u H locs hw_8 hP hD hS => ?_)
        obtain ⟨l1_6, s1_7⟩ := u
        have hw_8 : s1_7 = upd sf w (nI (cutL (Vw w) b9 e9).length) ∧ (∀ i, i < (cutL (Vw w) b9 e9).length → l1_6 (30 * w + i) = atL (cutL (Vw w) b9 e9) i) ∧ ∀ j, (j < 30 * w ∨ 30 * w + 30 ≤ j) → l1_6 j = lf j := hw_8
        have hP : va_P (dC, dI) vwCl [(y0, .inr (2, [.int 0, .int (nI rn), .ref q1, .ref q2, .int (nI (cutL (Vw w) b9 e9).length), .ref q3, .ref q4, .int ct, .int il, .ref q5])), (q1, .inl (cA, (2, .inl s1_7))), (q2, .inl (cA, (60, .inl l1_6))), (q3, .inl (cA, (320, .inl r1_3))), (q4, .inl (cA, (320, .inl n1_4))), (q5, .inl (cA, (6, .inl gf)))] H := hP
        have hD : va_D A [(y0, .inr (2, [.int 0, .int (nI rn), .ref q1, .ref q2, .int (nI (cutL (Vw w) b9 e9).length), .ref q3, .ref q4, .int ct, .int il, .ref q5])), (q1, .inl (cA, (2, .inl s1_7))), (q2, .inl (cA, (60, .inl l1_6))), (q3, .inl (cA, (320, .inl r1_3))), (q4, .inl (cA, (320, .inl n1_4))), (q5, .inl (cA, (6, .inl gf)))] := hD
        refine lv_aload_n hx hb dX2_cut_64 rfl (lv_at hl 1 rfl) ?_
        refine va_get (D := (dC, dI)) (ci := 2) (v := .int (nI (cutL (Vw w) b9 e9).length)) (C := RX2) (T := TX2) (N := 10) hx hb hts (in_X2_cut_2) hown hK hP 0 rfl rfl 4 (by decide) (hts (.fieldLink RX2 36 "BraidWordsModel" "many" "I") (List.mem_of_getElem? (i := 2) rfl)) (fun _ h9 => h9) rfl dX2_cut_65 ?_
        exact g_endMi hx hb hr hlocks hP hS dX2_cut_68 (s1_7, l1_6, r1_3, n1_4) rfl rfl (MW_store hW hw hw_8.1 hw_8.2.1 hw_8.2.2 (hk))
      · exact absurd (g_leF ((cutL (Vw w) b9 e9).length) 30 (by omega) (by omega) c45) (by omega)
  · exact absurd c9 (by decide)

abbrev mt_X2_cut_2_rm : Room := { frames := 3, cells := 0, slots := 0, locals := 66 }
set_option maxHeartbeats 4000000 in
set_option maxRecDepth 100000 in
theorem mt_X2_cut_2 (l : Launch) (dC : Nat → ClassId) (dI : Nat → Nat → Nat) (cA : ClassId) (sz : Nat) (y0 : Nat) (q1 : Nat) (q2 : Nat) (q3 : Nat) (q4 : Nat) (q5 : Nat) (rn : Nat) (tv : Int32) (sf : Nat → Int32) (lf : Nat → Int32) (mn : Int32) (rf : Nat → Int32) (nf : Nat → Int32) (ct : Int32) (il : Int32) (gf : Nat → Int32) (Vw : Nat → List Int32) (w : Nat) (hW : MW Vw sf lf) (hw : w < 2) (hrn : rn ∈ rnS) (hok : okL rn (Vw w)) (he : enF (Vw w) 0 = none) : Met l yX2_cut wsX2_cut mt_X2_cut_2_rm (va_Pc [.ref y0, .int (nI w)] (gB (dC, dI) [(cA, .int)] [(y0, .inr (2, [.int tv, .int (nI rn), .ref q1, .ref q2, .int mn, .ref q3, .ref q4, .int ct, .int il, .ref q5])), (q1, .inl (cA, (2, .inl sf))), (q2, .inl (cA, (60, .inl lf))), (q3, .inl (cA, (320, .inl rf))), (q4, .inl (cA, (320, .inl nf))), (q5, .inl (cA, (6, .inl gf)))] sz)) (gM (dC, dI) (some (.int 0)) (fun u : (Nat → Int32) => True) (fun u : (Nat → Int32) => [(y0, .inr (2, [.int 2, .int (nI rn), .ref q1, .ref q2, .int (nI ((Vw w).length)), .ref q3, .ref q4, .int ct, .int il, .ref q5])), (q1, .inl (cA, (2, .inl sf))), (q2, .inl (cA, (60, .inl lf))), (q3, .inl (cA, (320, .inl u))), (q4, .inl (cA, (320, .inl nf))), (q5, .inl (cA, (6, .inl gf)))]) (va_A [(y0, .inr (2, [.int tv, .int (nI rn), .ref q1, .ref q2, .int mn, .ref q3, .ref q4, .int ct, .int il, .ref q5])), (q1, .inl (cA, (2, .inl sf))), (q2, .inl (cA, (60, .inl lf))), (q3, .inl (cA, (320, .inl rf))), (q4, .inl (cA, (320, .inl nf))), (q5, .inl (cA, (6, .inl gf)))] sz)) 0 0 (va_A [(y0, .inr (2, [.int tv, .int (nI rn), .ref q1, .ref q2, .int mn, .ref q3, .ref q4, .int ct, .int il, .ref q5])), (q1, .inl (cA, (2, .inl sf))), (q2, .inl (cA, (60, .inl lf))), (q3, .inl (cA, (320, .inl rf))), (q4, .inl (cA, (320, .inl nf))), (q5, .inl (cA, (6, .inl gf)))] sz) := by
  refine g_ofM (cc := cX2_cut) (maxL := 3) (ret := (some .int)) (by decide) rfl (Nat.le_of_ble_eq_true rfl) (fun p e s m below meth c ls hx hb hr hml hts hown hlocks hP hK hl hin A hA hD hS => ?_)
  have hl : lv_has ls 3 [(0, .ref y0), (1, .int (nI w))] := hl
  have hWl := (hW w hw).2.1
  refine lv_aload_n hx hb dX2_cut_0 rfl (lv_at hl 0 rfl) ?_
  refine lv_iconst (v := 0) hx hb dX2_cut_1 (by decide) ?_
  refine va_put (D := (dC, dI)) (ci := 2) (v := .int 0) (ty := .int) (C := RX2) (T := TX2) (N := 10) hx hb hts (in_X2_cut_2) tyX2 tyX2_ok nmX2 hown hK hP hD hS 0 rfl rfl 0 (by decide) (hts (.fieldLink RX2 29 "BraidWordsModel" "thrown" "I") (List.mem_of_getElem? (i := 1) rfl)) (fun _ h9 => h9) rfl (by decide +kernel) rfl rfl (Nat.le_of_ble_eq_true rfl) dX2_cut_2 (fun H locs hP hD hS => ?_)
  have hP : va_P (dC, dI) vwCl [(y0, .inr (2, [.int 0, .int (nI rn), .ref q1, .ref q2, .int mn, .ref q3, .ref q4, .int ct, .int il, .ref q5])), (q1, .inl (cA, (2, .inl sf))), (q2, .inl (cA, (60, .inl lf))), (q3, .inl (cA, (320, .inl rf))), (q4, .inl (cA, (320, .inl nf))), (q5, .inl (cA, (6, .inl gf)))] H := hP
  have hD : va_D A [(y0, .inr (2, [.int 0, .int (nI rn), .ref q1, .ref q2, .int mn, .ref q3, .ref q4, .int ct, .int il, .ref q5])), (q1, .inl (cA, (2, .inl sf))), (q2, .inl (cA, (60, .inl lf))), (q3, .inl (cA, (320, .inl rf))), (q4, .inl (cA, (320, .inl nf))), (q5, .inl (cA, (6, .inl gf)))] := hD
  refine lv_iload_n hx hb dX2_cut_5 rfl (lv_at hl 1 rfl) ?_
  refine g_RSi (As := [.int (nI w)]) (rest := []) ⟨hx, hb, hml, hown, hts⟩ (mt_X2_isWord l dC dI cA H.size (nI w)) (va_cwS 1 hts gX2_cut_X2_isWord rfl rfl rfl hdX2_isWord ⟨Nat.le_of_ble_eq_true rfl, Nat.le_of_ble_eq_true rfl⟩) hP hK hD [] (by decide) rfl rfl hl.1 rfl (Nat.le_of_ble_eq_true rfl) dX2_cut_6 (Nat.zero_le _) (Nat.zero_le _) ?_
  rw [show (inI (nI w) 0 1) = 1 from inI_w hw]
  refine lv_if_ne (tgt := 18) hx hb dX2_cut_9 (by decide) (fun c9 => ?_) (fun c9 => ?_)
  · have c9 : ¬ 1 = 0 := g_neT 1 0 (by omega) (by omega) c9
    refine lv_aload_n hx hb dX2_cut_18 rfl (lv_at hl 0 rfl) ?_
    refine lv_iload_n hx hb dX2_cut_19 rfl (lv_at hl 1 rfl) ?_
    refine g_MVv (As := [.int (nI w)]) (rest := []) ⟨hx, hb, hml, hown, hts⟩ (mt_X2_load l dC dI cA H.size y0 q1 q2 q3 q4 q5 rn 0 sf lf mn rf nf ct il gf Vw w hW hw) (cwV 1 hts gX2_cut_X2_load rfl rfl rfl hdX2_load ⟨Nat.le_of_ble_eq_true rfl, Nat.le_of_ble_eq_true rfl⟩) hP hK hD hS hA [0, 1, 2, 3, 4, 5] (by decide) rfl (va_recv hK hP (ci := 2) (q0 := 0) rfl rfl) rfl hl.1 rfl (Nat.le_of_ble_eq_true rfl) dX2_cut_20 (Nat.zero_le _) (Nat.zero_le _) (fun u9 => [(y0, .inr (2, [.int 0, .int (nI rn), .ref q1, .ref q2, .int (nI ((Vw w).length)), .ref q3, .ref q4, .int ct, .int il, .ref q5])), (q1, .inl (cA, (2, .inl sf))), (q2, .inl (cA, (60, .inl lf))), (q3, .inl (cA, (320, .inl u9))), (q4, .inl (cA, (320, .inl nf))), (q5, .inl (cA, (6, .inl gf)))]) (fun _ => rfl) (fun _ => rfl) (fun u H locs hw_2 hP hD hS => ?_)
    obtain ⟨r1_1, rfl⟩ : ∃ z, z = u := ⟨_, rfl⟩
    have hw_2 : MR (Vw w) r1_1 := hw_2
    have hP : va_P (dC, dI) vwCl [(y0, .inr (2, [.int 0, .int (nI rn), .ref q1, .ref q2, .int (nI ((Vw w).length)), .ref q3, .ref q4, .int ct, .int il, .ref q5])), (q1, .inl (cA, (2, .inl sf))), (q2, .inl (cA, (60, .inl lf))), (q3, .inl (cA, (320, .inl r1_1))), (q4, .inl (cA, (320, .inl nf))), (q5, .inl (cA, (6, .inl gf)))] H := hP
    have hD : va_D A [(y0, .inr (2, [.int 0, .int (nI rn), .ref q1, .ref q2, .int (nI ((Vw w).length)), .ref q3, .ref q4, .int ct, .int il, .ref q5])), (q1, .inl (cA, (2, .inl sf))), (q2, .inl (cA, (60, .inl lf))), (q3, .inl (cA, (320, .inl r1_1))), (q4, .inl (cA, (320, .inl nf))), (q5, .inl (cA, (6, .inl gf)))] := hD
    refine lv_aload_n hx hb dX2_cut_23 rfl (lv_at hl 0 rfl) ?_
    refine g_RVi (As := []) (rest := []) ⟨hx, hb, hml, hown, hts⟩ (mt_X2_ends l dC dI cA H.size y0 q1 q2 q3 q4 q5 rn 0 sf lf r1_1 nf ct il gf (Vw w) hw_2 hrn hok) (cwV 0 hts gX2_cut_X2_ends rfl rfl rfl hdX2_ends ⟨Nat.le_of_ble_eq_true rfl, Nat.le_of_ble_eq_true rfl⟩) hP hK hD [0, 1, 2, 3, 4, 5] (by decide) rfl (va_recv hK hP (ci := 2) (q0 := 0) rfl rfl) rfl hl.1 rfl (Nat.le_of_ble_eq_true rfl) dX2_cut_24 (Nat.zero_le _) (Nat.zero_le _) ?_
    rw [show oiI (enF (Vw w) 0) = -1 from by rw [he]; rfl]
    refine lv_istore_n (lv' := [(2, .int (-1)), (0, .ref y0), (1, .int (nI w))]) hx hb dX2_cut_27 rfl hl (by decide) rfl (fun ls hl => ?_)
    refine lv_iload_n hx hb dX2_cut_28 rfl (lv_at hl 0 rfl) ?_
    refine lv_iconst (v := (-1)) hx hb dX2_cut_29 (by decide) ?_
    refine lv_icmp_eq (tgt := 48) hx hb dX2_cut_30 (by decide) (fun c30 => ?_) (fun c30 => ?_)
    · refine lv_aload_n hx hb dX2_cut_48 rfl (lv_at hl 1 rfl) ?_
      refine lv_iconst (v := 2) hx hb dX2_cut_49 (by decide) ?_
      refine g_MVi (As := [.int 2]) (rest := []) ⟨hx, hb, hml, hown, hts⟩ (mt_X2_no l dC dI cA H.size y0 q1 q2 q3 q4 q5 rn 0 sf lf (nI ((Vw w).length)) r1_1 nf ct il gf 2) (cwV 1 hts gX2_cut_X2_no rfl rfl rfl hdX2_no ⟨Nat.le_of_ble_eq_true rfl, Nat.le_of_ble_eq_true rfl⟩) hP hK hD hS hA [0, 1, 2, 3, 4, 5] (by decide) rfl (va_recv hK hP (ci := 2) (q0 := 0) rfl rfl) rfl hl.1 rfl (Nat.le_of_ble_eq_true rfl) dX2_cut_50 (Nat.zero_le _) (Nat.zero_le _) (fun u9 => [(y0, .inr (2, [.int 2, .int (nI rn), .ref q1, .ref q2, .int (nI ((Vw w).length)), .ref q3, .ref q4, .int ct, .int il, .ref q5])), (q1, .inl (cA, (2, .inl sf))), (q2, .inl (cA, (60, .inl lf))), (q3, .inl (cA, (320, .inl r1_1))), (q4, .inl (cA, (320, .inl nf))), (q5, .inl (cA, (6, .inl gf)))]) (fun _ => rfl) (fun _ => rfl) (fun u H locs hw_3 hP hD hS => ?_)
      have hw_3 : True := hw_3
      have hP : va_P (dC, dI) vwCl [(y0, .inr (2, [.int 2, .int (nI rn), .ref q1, .ref q2, .int (nI ((Vw w).length)), .ref q3, .ref q4, .int ct, .int il, .ref q5])), (q1, .inl (cA, (2, .inl sf))), (q2, .inl (cA, (60, .inl lf))), (q3, .inl (cA, (320, .inl r1_1))), (q4, .inl (cA, (320, .inl nf))), (q5, .inl (cA, (6, .inl gf)))] H := hP
      have hD : va_D A [(y0, .inr (2, [.int 2, .int (nI rn), .ref q1, .ref q2, .int (nI ((Vw w).length)), .ref q3, .ref q4, .int ct, .int il, .ref q5])), (q1, .inl (cA, (2, .inl sf))), (q2, .inl (cA, (60, .inl lf))), (q3, .inl (cA, (320, .inl r1_1))), (q4, .inl (cA, (320, .inl nf))), (q5, .inl (cA, (6, .inl gf)))] := hD
      exact g_endMi hx hb hr hlocks hP hS dX2_cut_53 r1_1 rfl rfl trivial
    · exact absurd (by decide) c30
  · exact absurd c9 (by decide)

abbrev mt_X2_cut_2b_rm : Room := { frames := 3, cells := 0, slots := 0, locals := 69 }
set_option maxHeartbeats 4000000 in
set_option maxRecDepth 100000 in
theorem mt_X2_cut_2b (l : Launch) (dC : Nat → ClassId) (dI : Nat → Nat → Nat) (cA : ClassId) (sz : Nat) (y0 : Nat) (q1 : Nat) (q2 : Nat) (q3 : Nat) (q4 : Nat) (q5 : Nat) (rn : Nat) (tv : Int32) (sf : Nat → Int32) (lf : Nat → Int32) (mn : Int32) (rf : Nat → Int32) (nf : Nat → Int32) (ct : Int32) (il : Int32) (gf : Nat → Int32) (Vw : Nat → List Int32) (w : Nat) (b9 : Nat) (e9 : Nat) (hW : MW Vw sf lf) (hw : w < 2) (hrn : rn ∈ rnS) (hok : okL rn (Vw w)) (he : enF (Vw w) 0 = some e9) (hb9 : bg (Vw w) e9 = some b9) (hk : 30 < (cutL (Vw w) b9 e9).length) : Met l yX2_cut wsX2_cut mt_X2_cut_2b_rm (va_Pc [.ref y0, .int (nI w)] (gB (dC, dI) [(cA, .int)] [(y0, .inr (2, [.int tv, .int (nI rn), .ref q1, .ref q2, .int mn, .ref q3, .ref q4, .int ct, .int il, .ref q5])), (q1, .inl (cA, (2, .inl sf))), (q2, .inl (cA, (60, .inl lf))), (q3, .inl (cA, (320, .inl rf))), (q4, .inl (cA, (320, .inl nf))), (q5, .inl (cA, (6, .inl gf)))] sz)) (gM (dC, dI) (some (.int 0)) (fun u : (Nat → Int32) => True) (fun u : (Nat → Int32) => [(y0, .inr (2, [.int 2, .int (nI rn), .ref q1, .ref q2, .int (nI ((Vw w).length)), .ref q3, .ref q4, .int ct, .int il, .ref q5])), (q1, .inl (cA, (2, .inl sf))), (q2, .inl (cA, (60, .inl lf))), (q3, .inl (cA, (320, .inl u))), (q4, .inl (cA, (320, .inl nf))), (q5, .inl (cA, (6, .inl gf)))]) (va_A [(y0, .inr (2, [.int tv, .int (nI rn), .ref q1, .ref q2, .int mn, .ref q3, .ref q4, .int ct, .int il, .ref q5])), (q1, .inl (cA, (2, .inl sf))), (q2, .inl (cA, (60, .inl lf))), (q3, .inl (cA, (320, .inl rf))), (q4, .inl (cA, (320, .inl nf))), (q5, .inl (cA, (6, .inl gf)))] sz)) 0 0 (va_A [(y0, .inr (2, [.int tv, .int (nI rn), .ref q1, .ref q2, .int mn, .ref q3, .ref q4, .int ct, .int il, .ref q5])), (q1, .inl (cA, (2, .inl sf))), (q2, .inl (cA, (60, .inl lf))), (q3, .inl (cA, (320, .inl rf))), (q4, .inl (cA, (320, .inl nf))), (q5, .inl (cA, (6, .inl gf)))] sz) := by
  refine g_ofM (cc := cX2_cut) (maxL := 3) (ret := (some .int)) (by decide) rfl (Nat.le_of_ble_eq_true rfl) (fun p e s m below meth c ls hx hb hr hml hts hown hlocks hP hK hl hin A hA hD hS => ?_)
  have hl : lv_has ls 3 [(0, .ref y0), (1, .int (nI w))] := hl
  have hWl := (hW w hw).2.1
  obtain ⟨-, he2, -, -⟩ := enF_spec he
  have hbl := bg_lt hb9
  have hcl := cutL_len hbl he2
  have hcn : cnL (Vw w) b9 (e9 - (b9 + 1)) ≤ e9 - (b9 + 1) := cnL_le
  refine lv_aload_n hx hb dX2_cut_0 rfl (lv_at hl 0 rfl) ?_
  refine lv_iconst (v := 0) hx hb dX2_cut_1 (by decide) ?_
  refine va_put (D := (dC, dI)) (ci := 2) (v := .int 0) (ty := .int) (C := RX2) (T := TX2) (N := 10) hx hb hts (in_X2_cut_2) tyX2 tyX2_ok nmX2 hown hK hP hD hS 0 rfl rfl 0 (by decide) (hts (.fieldLink RX2 29 "BraidWordsModel" "thrown" "I") (List.mem_of_getElem? (i := 1) rfl)) (fun _ h9 => h9) rfl (by decide +kernel) rfl rfl (Nat.le_of_ble_eq_true rfl) dX2_cut_2 (fun H locs hP hD hS => ?_)
  have hP : va_P (dC, dI) vwCl [(y0, .inr (2, [.int 0, .int (nI rn), .ref q1, .ref q2, .int mn, .ref q3, .ref q4, .int ct, .int il, .ref q5])), (q1, .inl (cA, (2, .inl sf))), (q2, .inl (cA, (60, .inl lf))), (q3, .inl (cA, (320, .inl rf))), (q4, .inl (cA, (320, .inl nf))), (q5, .inl (cA, (6, .inl gf)))] H := hP
  have hD : va_D A [(y0, .inr (2, [.int 0, .int (nI rn), .ref q1, .ref q2, .int mn, .ref q3, .ref q4, .int ct, .int il, .ref q5])), (q1, .inl (cA, (2, .inl sf))), (q2, .inl (cA, (60, .inl lf))), (q3, .inl (cA, (320, .inl rf))), (q4, .inl (cA, (320, .inl nf))), (q5, .inl (cA, (6, .inl gf)))] := hD
  refine lv_iload_n hx hb dX2_cut_5 rfl (lv_at hl 1 rfl) ?_
  refine g_RSi (As := [.int (nI w)]) (rest := []) ⟨hx, hb, hml, hown, hts⟩ (mt_X2_isWord l dC dI cA H.size (nI w)) (va_cwS 1 hts gX2_cut_X2_isWord rfl rfl rfl hdX2_isWord ⟨Nat.le_of_ble_eq_true rfl, Nat.le_of_ble_eq_true rfl⟩) hP hK hD [] (by decide) rfl rfl hl.1 rfl (Nat.le_of_ble_eq_true rfl) dX2_cut_6 (Nat.zero_le _) (Nat.zero_le _) ?_
  rw [show (inI (nI w) 0 1) = 1 from inI_w hw]
  refine lv_if_ne (tgt := 18) hx hb dX2_cut_9 (by decide) (fun c9 => ?_) (fun c9 => ?_)
  · have c9 : ¬ 1 = 0 := g_neT 1 0 (by omega) (by omega) c9
    refine lv_aload_n hx hb dX2_cut_18 rfl (lv_at hl 0 rfl) ?_
    refine lv_iload_n hx hb dX2_cut_19 rfl (lv_at hl 1 rfl) ?_
    refine g_MVv (As := [.int (nI w)]) (rest := []) ⟨hx, hb, hml, hown, hts⟩ (mt_X2_load l dC dI cA H.size y0 q1 q2 q3 q4 q5 rn 0 sf lf mn rf nf ct il gf Vw w hW hw) (cwV 1 hts gX2_cut_X2_load rfl rfl rfl hdX2_load ⟨Nat.le_of_ble_eq_true rfl, Nat.le_of_ble_eq_true rfl⟩) hP hK hD hS hA [0, 1, 2, 3, 4, 5] (by decide) rfl (va_recv hK hP (ci := 2) (q0 := 0) rfl rfl) rfl hl.1 rfl (Nat.le_of_ble_eq_true rfl) dX2_cut_20 (Nat.zero_le _) (Nat.zero_le _) (fun u9 => [(y0, .inr (2, [.int 0, .int (nI rn), .ref q1, .ref q2, .int (nI ((Vw w).length)), .ref q3, .ref q4, .int ct, .int il, .ref q5])), (q1, .inl (cA, (2, .inl sf))), (q2, .inl (cA, (60, .inl lf))), (q3, .inl (cA, (320, .inl u9))), (q4, .inl (cA, (320, .inl nf))), (q5, .inl (cA, (6, .inl gf)))]) (fun _ => rfl) (fun _ => rfl) (fun u H locs hw_2 hP hD hS => ?_)
    obtain ⟨r1_1, rfl⟩ : ∃ z, z = u := ⟨_, rfl⟩
    have hw_2 : MR (Vw w) r1_1 := hw_2
    have hP : va_P (dC, dI) vwCl [(y0, .inr (2, [.int 0, .int (nI rn), .ref q1, .ref q2, .int (nI ((Vw w).length)), .ref q3, .ref q4, .int ct, .int il, .ref q5])), (q1, .inl (cA, (2, .inl sf))), (q2, .inl (cA, (60, .inl lf))), (q3, .inl (cA, (320, .inl r1_1))), (q4, .inl (cA, (320, .inl nf))), (q5, .inl (cA, (6, .inl gf)))] H := hP
    have hD : va_D A [(y0, .inr (2, [.int 0, .int (nI rn), .ref q1, .ref q2, .int (nI ((Vw w).length)), .ref q3, .ref q4, .int ct, .int il, .ref q5])), (q1, .inl (cA, (2, .inl sf))), (q2, .inl (cA, (60, .inl lf))), (q3, .inl (cA, (320, .inl r1_1))), (q4, .inl (cA, (320, .inl nf))), (q5, .inl (cA, (6, .inl gf)))] := hD
    refine lv_aload_n hx hb dX2_cut_23 rfl (lv_at hl 0 rfl) ?_
    refine g_RVi (As := []) (rest := []) ⟨hx, hb, hml, hown, hts⟩ (mt_X2_ends l dC dI cA H.size y0 q1 q2 q3 q4 q5 rn 0 sf lf r1_1 nf ct il gf (Vw w) hw_2 hrn hok) (cwV 0 hts gX2_cut_X2_ends rfl rfl rfl hdX2_ends ⟨Nat.le_of_ble_eq_true rfl, Nat.le_of_ble_eq_true rfl⟩) hP hK hD [0, 1, 2, 3, 4, 5] (by decide) rfl (va_recv hK hP (ci := 2) (q0 := 0) rfl rfl) rfl hl.1 rfl (Nat.le_of_ble_eq_true rfl) dX2_cut_24 (Nat.zero_le _) (Nat.zero_le _) ?_
    rw [show oiI (enF (Vw w) 0) = nI e9 from by rw [he]; rfl]
    refine lv_istore_n (lv' := [(2, .int (nI e9)), (0, .ref y0), (1, .int (nI w))]) hx hb dX2_cut_27 rfl hl (by decide) rfl (fun ls hl => ?_)
    refine lv_iload_n hx hb dX2_cut_28 rfl (lv_at hl 0 rfl) ?_
    refine lv_iconst (v := (-1)) hx hb dX2_cut_29 (by decide) ?_
    refine lv_icmp_eq (tgt := 48) hx hb dX2_cut_30 (by decide) (fun c30 => ?_) (fun c30 => ?_)
    · exact absurd c30 (nI_nm1 (by omega))
    · refine lv_aload_n hx hb dX2_cut_33 rfl (lv_at hl 1 rfl) ?_
      refine va_get (D := (dC, dI)) (ci := 2) (v := .int (nI ((Vw w).length))) (C := RX2) (T := TX2) (N := 10) hx hb hts (in_X2_cut_2) hown hK hP 0 rfl rfl 4 (by decide) (hts (.fieldLink RX2 36 "BraidWordsModel" "many" "I") (List.mem_of_getElem? (i := 2) rfl)) (fun _ h9 => h9) rfl dX2_cut_34 ?_
      refine lv_aload_n hx hb dX2_cut_37 rfl (lv_at hl 1 rfl) ?_
      refine lv_iload_n hx hb dX2_cut_38 rfl (lv_at hl 0 rfl) ?_
      refine g_RVi (As := [.int (nI e9)]) (rest := [.int (nI ((Vw w).length))]) ⟨hx, hb, hml, hown, hts⟩ (mt_X2_more l dC dI cA H.size y0 q1 q2 q3 q4 q5 rn 0 sf lf r1_1 nf ct il gf (Vw w) b9 e9 hw_2 hrn hok (by first | omega | (simp only [List.length_append, List.length_cons, List.length_nil, List.length_set, turnL_len]; omega)) hb9) (cwV 1 hts gX2_cut_X2_more rfl rfl rfl hdX2_more ⟨Nat.le_of_ble_eq_true rfl, Nat.le_of_ble_eq_true rfl⟩) hP hK hD [0, 1, 2, 3, 4, 5] (by decide) rfl (va_recv hK hP (ci := 2) (q0 := 0) rfl rfl) rfl hl.1 rfl (Nat.le_of_ble_eq_true rfl) dX2_cut_39 (Nat.zero_le _) (Nat.zero_le _) ?_
      refine lv_iadd hx hb dX2_cut_42 ?_
      rw [cut_more hbl he2]
      refine lv_bipush (v := 30) hx hb dX2_cut_43 (by decide) ?_
      refine lv_icmp_le (tgt := 54) hx hb dX2_cut_45 (by decide) (fun c45 => ?_) (fun c45 => ?_)
      · exact absurd (g_leT ((cutL (Vw w) b9 e9).length) 30 (by omega) (by omega) c45) (by omega)
      · have c45 : 30 < ((cutL (Vw w) b9 e9).length) := g_leF ((cutL (Vw w) b9 e9).length) 30 (by omega) (by omega) c45
        refine lv_aload_n hx hb dX2_cut_48 rfl (lv_at hl 1 rfl) ?_
        refine lv_iconst (v := 2) hx hb dX2_cut_49 (by decide) ?_
        refine g_MVi (As := [.int 2]) (rest := []) ⟨hx, hb, hml, hown, hts⟩ (mt_X2_no l dC dI cA H.size y0 q1 q2 q3 q4 q5 rn 0 sf lf (nI ((Vw w).length)) r1_1 nf ct il gf 2) (cwV 1 hts gX2_cut_X2_no rfl rfl rfl hdX2_no ⟨Nat.le_of_ble_eq_true rfl, Nat.le_of_ble_eq_true rfl⟩) hP hK hD hS hA [0, 1, 2, 3, 4, 5] (by decide) rfl (va_recv hK hP (ci := 2) (q0 := 0) rfl rfl) rfl hl.1 rfl (Nat.le_of_ble_eq_true rfl) dX2_cut_50 (Nat.zero_le _) (Nat.zero_le _) (fun u9 => [(y0, .inr (2, [.int 2, .int (nI rn), .ref q1, .ref q2, .int (nI ((Vw w).length)), .ref q3, .ref q4, .int ct, .int il, .ref q5])), (q1, .inl (cA, (2, .inl sf))), (q2, .inl (cA, (60, .inl lf))), (q3, .inl (cA, (320, .inl r1_1))), (q4, .inl (cA, (320, .inl nf))), (q5, .inl (cA, (6, .inl gf)))]) (fun _ => rfl) (fun _ => rfl) (fun u H locs hw_3 hP hD hS => ?_)
        have hw_3 : True := hw_3
        have hP : va_P (dC, dI) vwCl [(y0, .inr (2, [.int 2, .int (nI rn), .ref q1, .ref q2, .int (nI ((Vw w).length)), .ref q3, .ref q4, .int ct, .int il, .ref q5])), (q1, .inl (cA, (2, .inl sf))), (q2, .inl (cA, (60, .inl lf))), (q3, .inl (cA, (320, .inl r1_1))), (q4, .inl (cA, (320, .inl nf))), (q5, .inl (cA, (6, .inl gf)))] H := hP
        have hD : va_D A [(y0, .inr (2, [.int 2, .int (nI rn), .ref q1, .ref q2, .int (nI ((Vw w).length)), .ref q3, .ref q4, .int ct, .int il, .ref q5])), (q1, .inl (cA, (2, .inl sf))), (q2, .inl (cA, (60, .inl lf))), (q3, .inl (cA, (320, .inl r1_1))), (q4, .inl (cA, (320, .inl nf))), (q5, .inl (cA, (6, .inl gf)))] := hD
        exact g_endMi hx hb hr hlocks hP hS dX2_cut_53 r1_1 rfl rfl trivial
  · exact absurd c9 (by decide)

abbrev mt_X2_letter_rm : Room := { frames := 2, cells := 0, slots := 0, locals := 42 }
set_option maxHeartbeats 4000000 in
set_option maxRecDepth 100000 in
theorem mt_X2_letter (l : Launch) (dC : Nat → ClassId) (dI : Nat → Nat → Nat) (cA : ClassId) (sz : Nat) (y0 : Nat) (q1 : Nat) (q2 : Nat) (q3 : Nat) (q4 : Nat) (q5 : Nat) (rn : Nat) (tv : Int32) (sf : Nat → Int32) (lf : Nat → Int32) (mn : Int32) (rf : Nat → Int32) (nf : Nat → Int32) (ct : Int32) (il : Int32) (gf : Nat → Int32) (Vw : Nat → List Int32) (w : Nat) (k : Nat) (hW : MW Vw sf lf) (hw : w < 2) (hk : k < (Vw w).length) : Met l yX2_letter wsX2_letter mt_X2_letter_rm (va_Pc [.ref y0, .int (nI w), .int (nI k)] (gB (dC, dI) [(cA, .int)] [(y0, .inr (2, [.int tv, .int (nI rn), .ref q1, .ref q2, .int mn, .ref q3, .ref q4, .int ct, .int il, .ref q5])), (q1, .inl (cA, (2, .inl sf))), (q2, .inl (cA, (60, .inl lf))), (q3, .inl (cA, (320, .inl rf))), (q4, .inl (cA, (320, .inl nf))), (q5, .inl (cA, (6, .inl gf)))] sz)) (gM (dC, dI) (some (.int (atL (Vw w) k))) (fun u : Unit => True) (fun u : Unit => [(y0, .inr (2, [.int 0, .int (nI rn), .ref q1, .ref q2, .int mn, .ref q3, .ref q4, .int ct, .int il, .ref q5])), (q1, .inl (cA, (2, .inl sf))), (q2, .inl (cA, (60, .inl lf))), (q3, .inl (cA, (320, .inl rf))), (q4, .inl (cA, (320, .inl nf))), (q5, .inl (cA, (6, .inl gf)))]) (va_A [(y0, .inr (2, [.int tv, .int (nI rn), .ref q1, .ref q2, .int mn, .ref q3, .ref q4, .int ct, .int il, .ref q5])), (q1, .inl (cA, (2, .inl sf))), (q2, .inl (cA, (60, .inl lf))), (q3, .inl (cA, (320, .inl rf))), (q4, .inl (cA, (320, .inl nf))), (q5, .inl (cA, (6, .inl gf)))] sz)) 0 0 (va_A [(y0, .inr (2, [.int tv, .int (nI rn), .ref q1, .ref q2, .int mn, .ref q3, .ref q4, .int ct, .int il, .ref q5])), (q1, .inl (cA, (2, .inl sf))), (q2, .inl (cA, (60, .inl lf))), (q3, .inl (cA, (320, .inl rf))), (q4, .inl (cA, (320, .inl nf))), (q5, .inl (cA, (6, .inl gf)))] sz) := by
  refine g_ofM (cc := cX2_letter) (maxL := 3) (ret := (some .int)) (by decide) rfl (Nat.le_of_ble_eq_true rfl) (fun p e s m below meth c ls hx hb hr hml hts hown hlocks hP hK hl hin A hA hD hS => ?_)
  have hl : lv_has ls 3 [(0, .ref y0), (1, .int (nI w)), (2, .int (nI k))] := hl
  have hWl := (hW w hw).2.1
  refine lv_aload_n hx hb dX2_letter_0 rfl (lv_at hl 0 rfl) ?_
  refine lv_iconst (v := 0) hx hb dX2_letter_1 (by decide) ?_
  refine va_put (D := (dC, dI)) (ci := 2) (v := .int 0) (ty := .int) (C := RX2) (T := TX2) (N := 10) hx hb hts (in_X2_letter_2) tyX2 tyX2_ok nmX2 hown hK hP hD hS 0 rfl rfl 0 (by decide) (hts (.fieldLink RX2 29 "BraidWordsModel" "thrown" "I") (List.mem_of_getElem? (i := 1) rfl)) (fun _ h9 => h9) rfl (by decide +kernel) rfl rfl (Nat.le_of_ble_eq_true rfl) dX2_letter_2 (fun H locs hP hD hS => ?_)
  have hP : va_P (dC, dI) vwCl [(y0, .inr (2, [.int 0, .int (nI rn), .ref q1, .ref q2, .int mn, .ref q3, .ref q4, .int ct, .int il, .ref q5])), (q1, .inl (cA, (2, .inl sf))), (q2, .inl (cA, (60, .inl lf))), (q3, .inl (cA, (320, .inl rf))), (q4, .inl (cA, (320, .inl nf))), (q5, .inl (cA, (6, .inl gf)))] H := hP
  have hD : va_D A [(y0, .inr (2, [.int 0, .int (nI rn), .ref q1, .ref q2, .int mn, .ref q3, .ref q4, .int ct, .int il, .ref q5])), (q1, .inl (cA, (2, .inl sf))), (q2, .inl (cA, (60, .inl lf))), (q3, .inl (cA, (320, .inl rf))), (q4, .inl (cA, (320, .inl nf))), (q5, .inl (cA, (6, .inl gf)))] := hD
  refine lv_iload_n hx hb dX2_letter_5 rfl (lv_at hl 1 rfl) ?_
  refine g_RSi (As := [.int (nI w)]) (rest := []) ⟨hx, hb, hml, hown, hts⟩ (mt_X2_isWord l dC dI cA H.size (nI w)) (va_cwS 1 hts gX2_letter_X2_isWord rfl rfl rfl hdX2_isWord ⟨Nat.le_of_ble_eq_true rfl, Nat.le_of_ble_eq_true rfl⟩) hP hK hD [] (by decide) rfl rfl hl.1 rfl (Nat.le_of_ble_eq_true rfl) dX2_letter_6 (Nat.zero_le _) (Nat.zero_le _) ?_
  rw [show (inI (nI w) 0 1) = 1 from inI_w hw]
  refine lv_if_eq (tgt := 37) hx hb dX2_letter_9 (by decide) (fun c9 => ?_) (fun c9 => ?_)
  · exact absurd c9 (by decide)
  · have c9 : ¬ 1 = 0 := g_eqF 1 0 (by omega) (by omega) c9
    refine lv_iload_n hx hb dX2_letter_12 rfl (lv_at hl 2 rfl) ?_
    refine lv_iconst (v := 0) hx hb dX2_letter_13 (by decide) ?_
    refine lv_aload_n hx hb dX2_letter_14 rfl (lv_at hl 0 rfl) ?_
    refine va_get (D := (dC, dI)) (ci := 2) (v := .ref q1) (C := RX2) (T := TX2) (N := 10) hx hb hts (in_X2_letter_2) hown hK hP 0 rfl rfl 2 (by decide) (hts (.fieldLink RX2 13 "BraidWordsModel" "size" "[I") (List.mem_of_getElem? (i := 2) rfl)) (fun _ h9 => h9) rfl dX2_letter_15 ?_
    refine lv_iload_n hx hb dX2_letter_18 rfl (lv_at hl 1 rfl) ?_
    refine va_iald hx hb hK hP 1 0 rfl rfl (vp_in_nI (by omega) (by decide)) dX2_letter_19 ?_
    rw [show (nI w).toNatClampNeg = w from nI_clamp (by omega)]
    rw [(hW w (by omega)).1]
    refine lv_iconst (v := 1) hx hb dX2_letter_20 (by decide) ?_
    refine lv_isub hx hb dX2_letter_21 ?_
    refine g_RSi (As := [.int (nI k), .int 0, .int ((nI ((Vw w).length)) - 1)]) (rest := []) ⟨hx, hb, hml, hown, hts⟩ (mt_X2_isIn l dC dI cA H.size (nI k) 0 ((nI ((Vw w).length)) - 1)) (va_cwS 3 hts gX2_letter_X2_isIn rfl rfl rfl hdX2_isIn ⟨Nat.le_of_ble_eq_true rfl, Nat.le_of_ble_eq_true rfl⟩) hP hK hD [] (by decide) rfl rfl hl.1 rfl (Nat.le_of_ble_eq_true rfl) dX2_letter_22 (Nat.zero_le _) (Nat.zero_le _) ?_
    rw [show (inI (nI k) 0 ((nI ((Vw w).length)) - 1)) = 1 from inI_pl (d := 1) (by omega) (by omega) (by decide)]
    refine lv_if_eq (tgt := 37) hx hb dX2_letter_25 (by decide) (fun c25 => ?_) (fun c25 => ?_)
    · exact absurd c25 (by decide)
    · have c25 : ¬ 1 = 0 := g_eqF 1 0 (by omega) (by omega) c25
      refine lv_aload_n hx hb dX2_letter_28 rfl (lv_at hl 0 rfl) ?_
      refine lv_iload_n hx hb dX2_letter_29 rfl (lv_at hl 1 rfl) ?_
      refine lv_iload_n hx hb dX2_letter_30 rfl (lv_at hl 2 rfl) ?_
      refine g_RVi (As := [.int (nI w), .int (nI k)]) (rest := []) ⟨hx, hb, hml, hown, hts⟩ (mt_X2_at l dC dI cA H.size y0 q1 q2 q3 q4 q5 rn 0 sf lf mn rf nf ct il gf w k (by first | omega | (simp only [List.length_append, List.length_cons, List.length_nil, List.length_set, turnL_len]; omega)) (by first | omega | (simp only [List.length_append, List.length_cons, List.length_nil, List.length_set, turnL_len]; omega))) (cwV 2 hts gX2_letter_X2_at rfl rfl rfl hdX2_at ⟨Nat.le_of_ble_eq_true rfl, Nat.le_of_ble_eq_true rfl⟩) hP hK hD [0, 1, 2, 3, 4, 5] (by decide) rfl (va_recv hK hP (ci := 2) (q0 := 0) rfl rfl) rfl hl.1 rfl (Nat.le_of_ble_eq_true rfl) dX2_letter_31 (Nat.zero_le _) (Nat.zero_le _) ?_
      rw [(hW w (by omega)).2.2 k (by omega)]
      refine lv_goto (tgt := 42) hx hb dX2_letter_34 (by decide) ?_
      exact g_endMi hx hb hr hlocks hP hS dX2_letter_42 () rfl rfl trivial

abbrev mt_X2_letter_1b_rm : Room := { frames := 2, cells := 0, slots := 0, locals := 42 }
set_option maxHeartbeats 4000000 in
set_option maxRecDepth 100000 in
theorem mt_X2_letter_1b (l : Launch) (dC : Nat → ClassId) (dI : Nat → Nat → Nat) (cA : ClassId) (sz : Nat) (y0 : Nat) (q1 : Nat) (q2 : Nat) (q3 : Nat) (q4 : Nat) (q5 : Nat) (rn : Nat) (tv : Int32) (sf : Nat → Int32) (lf : Nat → Int32) (mn : Int32) (rf : Nat → Int32) (nf : Nat → Int32) (ct : Int32) (il : Int32) (gf : Nat → Int32) (Vw : Nat → List Int32) (w : Nat) (x : Int32) (hW : MW Vw sf lf) (hw : w < 2) (hbad : x < 0 ∨ nI (Vw w).length ≤ x) : Met l yX2_letter wsX2_letter mt_X2_letter_1b_rm (va_Pc [.ref y0, .int (nI w), .int x] (gB (dC, dI) [(cA, .int)] [(y0, .inr (2, [.int tv, .int (nI rn), .ref q1, .ref q2, .int mn, .ref q3, .ref q4, .int ct, .int il, .ref q5])), (q1, .inl (cA, (2, .inl sf))), (q2, .inl (cA, (60, .inl lf))), (q3, .inl (cA, (320, .inl rf))), (q4, .inl (cA, (320, .inl nf))), (q5, .inl (cA, (6, .inl gf)))] sz)) (gM (dC, dI) (some (.int 0)) (fun u : Unit => True) (fun u : Unit => [(y0, .inr (2, [.int 1, .int (nI rn), .ref q1, .ref q2, .int mn, .ref q3, .ref q4, .int ct, .int il, .ref q5])), (q1, .inl (cA, (2, .inl sf))), (q2, .inl (cA, (60, .inl lf))), (q3, .inl (cA, (320, .inl rf))), (q4, .inl (cA, (320, .inl nf))), (q5, .inl (cA, (6, .inl gf)))]) (va_A [(y0, .inr (2, [.int tv, .int (nI rn), .ref q1, .ref q2, .int mn, .ref q3, .ref q4, .int ct, .int il, .ref q5])), (q1, .inl (cA, (2, .inl sf))), (q2, .inl (cA, (60, .inl lf))), (q3, .inl (cA, (320, .inl rf))), (q4, .inl (cA, (320, .inl nf))), (q5, .inl (cA, (6, .inl gf)))] sz)) 0 0 (va_A [(y0, .inr (2, [.int tv, .int (nI rn), .ref q1, .ref q2, .int mn, .ref q3, .ref q4, .int ct, .int il, .ref q5])), (q1, .inl (cA, (2, .inl sf))), (q2, .inl (cA, (60, .inl lf))), (q3, .inl (cA, (320, .inl rf))), (q4, .inl (cA, (320, .inl nf))), (q5, .inl (cA, (6, .inl gf)))] sz) := by
  refine g_ofM (cc := cX2_letter) (maxL := 3) (ret := (some .int)) (by decide) rfl (Nat.le_of_ble_eq_true rfl) (fun p e s m below meth c ls hx hb hr hml hts hown hlocks hP hK hl hin A hA hD hS => ?_)
  have hl : lv_has ls 3 [(0, .ref y0), (1, .int (nI w)), (2, .int x)] := hl
  have hWl := (hW w hw).2.1
  refine lv_aload_n hx hb dX2_letter_0 rfl (lv_at hl 0 rfl) ?_
  refine lv_iconst (v := 0) hx hb dX2_letter_1 (by decide) ?_
  refine va_put (D := (dC, dI)) (ci := 2) (v := .int 0) (ty := .int) (C := RX2) (T := TX2) (N := 10) hx hb hts (in_X2_letter_2) tyX2 tyX2_ok nmX2 hown hK hP hD hS 0 rfl rfl 0 (by decide) (hts (.fieldLink RX2 29 "BraidWordsModel" "thrown" "I") (List.mem_of_getElem? (i := 1) rfl)) (fun _ h9 => h9) rfl (by decide +kernel) rfl rfl (Nat.le_of_ble_eq_true rfl) dX2_letter_2 (fun H locs hP hD hS => ?_)
  have hP : va_P (dC, dI) vwCl [(y0, .inr (2, [.int 0, .int (nI rn), .ref q1, .ref q2, .int mn, .ref q3, .ref q4, .int ct, .int il, .ref q5])), (q1, .inl (cA, (2, .inl sf))), (q2, .inl (cA, (60, .inl lf))), (q3, .inl (cA, (320, .inl rf))), (q4, .inl (cA, (320, .inl nf))), (q5, .inl (cA, (6, .inl gf)))] H := hP
  have hD : va_D A [(y0, .inr (2, [.int 0, .int (nI rn), .ref q1, .ref q2, .int mn, .ref q3, .ref q4, .int ct, .int il, .ref q5])), (q1, .inl (cA, (2, .inl sf))), (q2, .inl (cA, (60, .inl lf))), (q3, .inl (cA, (320, .inl rf))), (q4, .inl (cA, (320, .inl nf))), (q5, .inl (cA, (6, .inl gf)))] := hD
  refine lv_iload_n hx hb dX2_letter_5 rfl (lv_at hl 1 rfl) ?_
  refine g_RSi (As := [.int (nI w)]) (rest := []) ⟨hx, hb, hml, hown, hts⟩ (mt_X2_isWord l dC dI cA H.size (nI w)) (va_cwS 1 hts gX2_letter_X2_isWord rfl rfl rfl hdX2_isWord ⟨Nat.le_of_ble_eq_true rfl, Nat.le_of_ble_eq_true rfl⟩) hP hK hD [] (by decide) rfl rfl hl.1 rfl (Nat.le_of_ble_eq_true rfl) dX2_letter_6 (Nat.zero_le _) (Nat.zero_le _) ?_
  rw [show (inI (nI w) 0 1) = 1 from inI_w hw]
  refine lv_if_eq (tgt := 37) hx hb dX2_letter_9 (by decide) (fun c9 => ?_) (fun c9 => ?_)
  · exact absurd c9 (by decide)
  · have c9 : ¬ 1 = 0 := g_eqF 1 0 (by omega) (by omega) c9
    refine lv_iload_n hx hb dX2_letter_12 rfl (lv_at hl 2 rfl) ?_
    refine lv_iconst (v := 0) hx hb dX2_letter_13 (by decide) ?_
    refine lv_aload_n hx hb dX2_letter_14 rfl (lv_at hl 0 rfl) ?_
    refine va_get (D := (dC, dI)) (ci := 2) (v := .ref q1) (C := RX2) (T := TX2) (N := 10) hx hb hts (in_X2_letter_2) hown hK hP 0 rfl rfl 2 (by decide) (hts (.fieldLink RX2 13 "BraidWordsModel" "size" "[I") (List.mem_of_getElem? (i := 2) rfl)) (fun _ h9 => h9) rfl dX2_letter_15 ?_
    refine lv_iload_n hx hb dX2_letter_18 rfl (lv_at hl 1 rfl) ?_
    refine va_iald hx hb hK hP 1 0 rfl rfl (vp_in_nI (by omega) (by decide)) dX2_letter_19 ?_
    rw [show (nI w).toNatClampNeg = w from nI_clamp (by omega)]
    rw [(hW w (by omega)).1]
    refine lv_iconst (v := 1) hx hb dX2_letter_20 (by decide) ?_
    refine lv_isub hx hb dX2_letter_21 ?_
    refine g_RSi (As := [.int x, .int 0, .int ((nI ((Vw w).length)) - 1)]) (rest := []) ⟨hx, hb, hml, hown, hts⟩ (mt_X2_isIn l dC dI cA H.size x 0 ((nI ((Vw w).length)) - 1)) (va_cwS 3 hts gX2_letter_X2_isIn rfl rfl rfl hdX2_isIn ⟨Nat.le_of_ble_eq_true rfl, Nat.le_of_ble_eq_true rfl⟩) hP hK hD [] (by decide) rfl rfl hl.1 rfl (Nat.le_of_ble_eq_true rfl) dX2_letter_22 (Nat.zero_le _) (Nat.zero_le _) ?_
    rw [show (inI x 0 ((nI ((Vw w).length)) - 1)) = 0 from inI_b (d := 1) hWl (by omega) hbad]
    refine lv_if_eq (tgt := 37) hx hb dX2_letter_25 (by decide) (fun c25 => ?_) (fun c25 => ?_)
    · have c25 : 0 = 0 := g_eqT 0 0 (by omega) (by omega) c25
      refine lv_aload_n hx hb dX2_letter_37 rfl (lv_at hl 0 rfl) ?_
      refine lv_iconst (v := 1) hx hb dX2_letter_38 (by decide) ?_
      refine g_MVi (As := [.int 1]) (rest := []) ⟨hx, hb, hml, hown, hts⟩ (mt_X2_no l dC dI cA H.size y0 q1 q2 q3 q4 q5 rn 0 sf lf mn rf nf ct il gf 1) (cwV 1 hts gX2_letter_X2_no rfl rfl rfl hdX2_no ⟨Nat.le_of_ble_eq_true rfl, Nat.le_of_ble_eq_true rfl⟩) hP hK hD hS hA [0, 1, 2, 3, 4, 5] (by decide) rfl (va_recv hK hP (ci := 2) (q0 := 0) rfl rfl) rfl hl.1 rfl (Nat.le_of_ble_eq_true rfl) dX2_letter_39 (Nat.zero_le _) (Nat.zero_le _) (fun u9 => [(y0, .inr (2, [.int 1, .int (nI rn), .ref q1, .ref q2, .int mn, .ref q3, .ref q4, .int ct, .int il, .ref q5])), (q1, .inl (cA, (2, .inl sf))), (q2, .inl (cA, (60, .inl lf))), (q3, .inl (cA, (320, .inl rf))), (q4, .inl (cA, (320, .inl nf))), (q5, .inl (cA, (6, .inl gf)))]) (fun _ => rfl) (fun _ => rfl) (fun u H locs hw_1 hP hD hS => ?_)
      have hw_1 : True := hw_1
      have hP : va_P (dC, dI) vwCl [(y0, .inr (2, [.int 1, .int (nI rn), .ref q1, .ref q2, .int mn, .ref q3, .ref q4, .int ct, .int il, .ref q5])), (q1, .inl (cA, (2, .inl sf))), (q2, .inl (cA, (60, .inl lf))), (q3, .inl (cA, (320, .inl rf))), (q4, .inl (cA, (320, .inl nf))), (q5, .inl (cA, (6, .inl gf)))] H := hP
      have hD : va_D A [(y0, .inr (2, [.int 1, .int (nI rn), .ref q1, .ref q2, .int mn, .ref q3, .ref q4, .int ct, .int il, .ref q5])), (q1, .inl (cA, (2, .inl sf))), (q2, .inl (cA, (60, .inl lf))), (q3, .inl (cA, (320, .inl rf))), (q4, .inl (cA, (320, .inl nf))), (q5, .inl (cA, (6, .inl gf)))] := hD
      exact g_endMi hx hb hr hlocks hP hS dX2_letter_42 () rfl rfl trivial
    · exact absurd (by decide) c25

abbrev mt_X2_count_rm : Room := { frames := 3, cells := 0, slots := 0, locals := 66 }
set_option maxHeartbeats 4000000 in
set_option maxRecDepth 100000 in
theorem mt_X2_count (l : Launch) (dC : Nat → ClassId) (dI : Nat → Nat → Nat) (cA : ClassId) (sz : Nat) (y0 : Nat) (q1 : Nat) (q2 : Nat) (q3 : Nat) (q4 : Nat) (q5 : Nat) (rn : Nat) (tv : Int32) (sf : Nat → Int32) (lf : Nat → Int32) (mn : Int32) (rf : Nat → Int32) (nf : Nat → Int32) (ct : Int32) (il : Int32) (gf : Nat → Int32) (Vw : Nat → List Int32) (q : Nat) (hW : MW Vw sf lf) (hrn : rn ∈ rnS) (hr6 : rn ≤ 6) (hok : ∀ w, w < 2 → okL rn (Vw w)) (hq : q < 5) : Met l yX2_count wsX2_count mt_X2_count_rm (va_Pc [.ref y0, .int (nI q)] (gB (dC, dI) [(cA, .int)] [(y0, .inr (2, [.int tv, .int (nI rn), .ref q1, .ref q2, .int mn, .ref q3, .ref q4, .int ct, .int il, .ref q5])), (q1, .inl (cA, (2, .inl sf))), (q2, .inl (cA, (60, .inl lf))), (q3, .inl (cA, (320, .inl rf))), (q4, .inl (cA, (320, .inl nf))), (q5, .inl (cA, (6, .inl gf)))] sz)) (gM (dC, dI) (some (.int (coI rn (Vw 0) (Vw 1) q))) (fun u : Unit => True) (fun u : Unit => [(y0, .inr (2, [.int 0, .int (nI rn), .ref q1, .ref q2, .int mn, .ref q3, .ref q4, .int ct, .int il, .ref q5])), (q1, .inl (cA, (2, .inl sf))), (q2, .inl (cA, (60, .inl lf))), (q3, .inl (cA, (320, .inl rf))), (q4, .inl (cA, (320, .inl nf))), (q5, .inl (cA, (6, .inl gf)))]) (va_A [(y0, .inr (2, [.int tv, .int (nI rn), .ref q1, .ref q2, .int mn, .ref q3, .ref q4, .int ct, .int il, .ref q5])), (q1, .inl (cA, (2, .inl sf))), (q2, .inl (cA, (60, .inl lf))), (q3, .inl (cA, (320, .inl rf))), (q4, .inl (cA, (320, .inl nf))), (q5, .inl (cA, (6, .inl gf)))] sz)) 0 0 (va_A [(y0, .inr (2, [.int tv, .int (nI rn), .ref q1, .ref q2, .int mn, .ref q3, .ref q4, .int ct, .int il, .ref q5])), (q1, .inl (cA, (2, .inl sf))), (q2, .inl (cA, (60, .inl lf))), (q3, .inl (cA, (320, .inl rf))), (q4, .inl (cA, (320, .inl nf))), (q5, .inl (cA, (6, .inl gf)))] sz) := by
  refine g_ofM (cc := cX2_count) (maxL := 2) (ret := (some .int)) (by decide) rfl (Nat.le_of_ble_eq_true rfl) (fun p e s m below meth c ls hx hb hr hml hts hown hlocks hP hK hl hin A hA hD hS => ?_)
  have hl : lv_has ls 2 [(0, .ref y0), (1, .int (nI q))] := hl
  refine lv_aload_n hx hb dX2_count_0 rfl (lv_at hl 0 rfl) ?_
  refine lv_iconst (v := 0) hx hb dX2_count_1 (by decide) ?_
  refine va_put (D := (dC, dI)) (ci := 2) (v := .int 0) (ty := .int) (C := RX2) (T := TX2) (N := 10) hx hb hts (in_X2_count_2) tyX2 tyX2_ok nmX2 hown hK hP hD hS 0 rfl rfl 0 (by decide) (hts (.fieldLink RX2 29 "BraidWordsModel" "thrown" "I") (List.mem_of_getElem? (i := 1) rfl)) (fun _ h9 => h9) rfl (by decide +kernel) rfl rfl (Nat.le_of_ble_eq_true rfl) dX2_count_2 (fun H locs hP hD hS => ?_)
  have hP : va_P (dC, dI) vwCl [(y0, .inr (2, [.int 0, .int (nI rn), .ref q1, .ref q2, .int mn, .ref q3, .ref q4, .int ct, .int il, .ref q5])), (q1, .inl (cA, (2, .inl sf))), (q2, .inl (cA, (60, .inl lf))), (q3, .inl (cA, (320, .inl rf))), (q4, .inl (cA, (320, .inl nf))), (q5, .inl (cA, (6, .inl gf)))] H := hP
  have hD : va_D A [(y0, .inr (2, [.int 0, .int (nI rn), .ref q1, .ref q2, .int mn, .ref q3, .ref q4, .int ct, .int il, .ref q5])), (q1, .inl (cA, (2, .inl sf))), (q2, .inl (cA, (60, .inl lf))), (q3, .inl (cA, (320, .inl rf))), (q4, .inl (cA, (320, .inl nf))), (q5, .inl (cA, (6, .inl gf)))] := hD
  refine lv_iload_n hx hb dX2_count_5 rfl (lv_at hl 1 rfl) ?_
  refine lv_iconst (v := 0) hx hb dX2_count_6 (by decide) ?_
  refine lv_iconst (v := 4) hx hb dX2_count_7 (by decide) ?_
  refine g_RSi (As := [.int (nI q), .int 0, .int 4]) (rest := []) ⟨hx, hb, hml, hown, hts⟩ (mt_X2_isIn l dC dI cA H.size (nI q) 0 4) (va_cwS 3 hts gX2_count_X2_isIn rfl rfl rfl hdX2_isIn ⟨Nat.le_of_ble_eq_true rfl, Nat.le_of_ble_eq_true rfl⟩) hP hK hD [] (by decide) rfl rfl hl.1 rfl (Nat.le_of_ble_eq_true rfl) dX2_count_8 (Nat.zero_le _) (Nat.zero_le _) ?_
  rw [show (inI (nI q) 0 4) = 1 from inI_cy (b := 4) (by omega) (by decide)]
  refine lv_if_eq (tgt := 22) hx hb dX2_count_11 (by decide) (fun c11 => ?_) (fun c11 => ?_)
  · exact absurd c11 (by decide)
  · have c11 : ¬ 1 = 0 := g_eqF 1 0 (by omega) (by omega) c11
    refine lv_aload_n hx hb dX2_count_14 rfl (lv_at hl 0 rfl) ?_
    refine lv_iload_n hx hb dX2_count_15 rfl (lv_at hl 1 rfl) ?_
    refine g_RVi (As := [.int (nI q)]) (rest := []) ⟨hx, hb, hml, hown, hts⟩ (mt_X2_counted l dC dI cA H.size y0 q1 q2 q3 q4 q5 rn 0 sf lf mn rf nf ct il gf Vw q hW hrn hr6 hok hq) (cwV 1 hts gX2_count_X2_counted rfl rfl rfl hdX2_counted ⟨Nat.le_of_ble_eq_true rfl, Nat.le_of_ble_eq_true rfl⟩) hP hK hD [0, 1, 2, 3, 4, 5] (by decide) rfl (va_recv hK hP (ci := 2) (q0 := 0) rfl rfl) rfl hl.1 rfl (Nat.le_of_ble_eq_true rfl) dX2_count_16 (Nat.zero_le _) (Nat.zero_le _) ?_
    refine lv_goto (tgt := 27) hx hb dX2_count_19 (by decide) ?_
    exact g_endMi hx hb hr hlocks hP hS dX2_count_27 () rfl rfl trivial

abbrev mt_X2_end_rm : Room := { frames := 3, cells := 0, slots := 0, locals := 73 }
set_option maxHeartbeats 4000000 in
set_option maxRecDepth 100000 in
theorem mt_X2_end (l : Launch) (dC : Nat → ClassId) (dI : Nat → Nat → Nat) (cA : ClassId) (sz : Nat) (y0 : Nat) (q1 : Nat) (q2 : Nat) (q3 : Nat) (q4 : Nat) (q5 : Nat) (rn : Nat) (tv : Int32) (sf : Nat → Int32) (lf : Nat → Int32) (mn : Int32) (rf : Nat → Int32) (nf : Nat → Int32) (ct : Int32) (il : Int32) (gf : Nat → Int32) (Vw : Nat → List Int32) (w : Nat) (r : Nat) (hW : MW Vw sf lf) (hrn : rn ∈ rnS) (hr6 : rn ≤ 6) (hok : ∀ w, w < 2 → okL rn (Vw w)) (hw : w < 2) (hrr : r < rn) : Met l yX2_end wsX2_end mt_X2_end_rm (va_Pc [.ref y0, .int (nI w), .int (nI r)] (gB (dC, dI) [(cA, .int)] [(y0, .inr (2, [.int tv, .int (nI rn), .ref q1, .ref q2, .int mn, .ref q3, .ref q4, .int ct, .int il, .ref q5])), (q1, .inl (cA, (2, .inl sf))), (q2, .inl (cA, (60, .inl lf))), (q3, .inl (cA, (320, .inl rf))), (q4, .inl (cA, (320, .inl nf))), (q5, .inl (cA, (6, .inl gf)))] sz)) (gM (dC, dI) (some (.int (plE (Vw w) (nI r) (Vw w).length))) (fun u : (Nat → Int32) => True) (fun u : (Nat → Int32) => [(y0, .inr (2, [.int 0, .int (nI rn), .ref q1, .ref q2, .int mn, .ref q3, .ref q4, .int ct, .int il, .ref q5])), (q1, .inl (cA, (2, .inl sf))), (q2, .inl (cA, (60, .inl lf))), (q3, .inl (cA, (320, .inl rf))), (q4, .inl (cA, (320, .inl nf))), (q5, .inl (cA, (6, .inl u)))]) (va_A [(y0, .inr (2, [.int tv, .int (nI rn), .ref q1, .ref q2, .int mn, .ref q3, .ref q4, .int ct, .int il, .ref q5])), (q1, .inl (cA, (2, .inl sf))), (q2, .inl (cA, (60, .inl lf))), (q3, .inl (cA, (320, .inl rf))), (q4, .inl (cA, (320, .inl nf))), (q5, .inl (cA, (6, .inl gf)))] sz)) 0 0 (va_A [(y0, .inr (2, [.int tv, .int (nI rn), .ref q1, .ref q2, .int mn, .ref q3, .ref q4, .int ct, .int il, .ref q5])), (q1, .inl (cA, (2, .inl sf))), (q2, .inl (cA, (60, .inl lf))), (q3, .inl (cA, (320, .inl rf))), (q4, .inl (cA, (320, .inl nf))), (q5, .inl (cA, (6, .inl gf)))] sz) := by
  refine g_ofM (cc := cX2_end) (maxL := 3) (ret := (some .int)) (by decide) rfl (Nat.le_of_ble_eq_true rfl) (fun p e s m below meth c ls hx hb hr hml hts hown hlocks hP hK hl hin A hA hD hS => ?_)
  have hl : lv_has ls 3 [(0, .ref y0), (1, .int (nI w)), (2, .int (nI r))] := hl
  refine lv_aload_n hx hb dX2_end_0 rfl (lv_at hl 0 rfl) ?_
  refine lv_iconst (v := 0) hx hb dX2_end_1 (by decide) ?_
  refine va_put (D := (dC, dI)) (ci := 2) (v := .int 0) (ty := .int) (C := RX2) (T := TX2) (N := 10) hx hb hts (in_X2_end_2) tyX2 tyX2_ok nmX2 hown hK hP hD hS 0 rfl rfl 0 (by decide) (hts (.fieldLink RX2 29 "BraidWordsModel" "thrown" "I") (List.mem_of_getElem? (i := 1) rfl)) (fun _ h9 => h9) rfl (by decide +kernel) rfl rfl (Nat.le_of_ble_eq_true rfl) dX2_end_2 (fun H locs hP hD hS => ?_)
  have hP : va_P (dC, dI) vwCl [(y0, .inr (2, [.int 0, .int (nI rn), .ref q1, .ref q2, .int mn, .ref q3, .ref q4, .int ct, .int il, .ref q5])), (q1, .inl (cA, (2, .inl sf))), (q2, .inl (cA, (60, .inl lf))), (q3, .inl (cA, (320, .inl rf))), (q4, .inl (cA, (320, .inl nf))), (q5, .inl (cA, (6, .inl gf)))] H := hP
  have hD : va_D A [(y0, .inr (2, [.int 0, .int (nI rn), .ref q1, .ref q2, .int mn, .ref q3, .ref q4, .int ct, .int il, .ref q5])), (q1, .inl (cA, (2, .inl sf))), (q2, .inl (cA, (60, .inl lf))), (q3, .inl (cA, (320, .inl rf))), (q4, .inl (cA, (320, .inl nf))), (q5, .inl (cA, (6, .inl gf)))] := hD
  refine lv_iload_n hx hb dX2_end_5 rfl (lv_at hl 1 rfl) ?_
  refine g_RSi (As := [.int (nI w)]) (rest := []) ⟨hx, hb, hml, hown, hts⟩ (mt_X2_isWord l dC dI cA H.size (nI w)) (va_cwS 1 hts gX2_end_X2_isWord rfl rfl rfl hdX2_isWord ⟨Nat.le_of_ble_eq_true rfl, Nat.le_of_ble_eq_true rfl⟩) hP hK hD [] (by decide) rfl rfl hl.1 rfl (Nat.le_of_ble_eq_true rfl) dX2_end_6 (Nat.zero_le _) (Nat.zero_le _) ?_
  rw [show (inI (nI w) 0 1) = 1 from inI_w hw]
  refine lv_if_eq (tgt := 29) hx hb dX2_end_9 (by decide) (fun c9 => ?_) (fun c9 => ?_)
  · exact absurd c9 (by decide)
  · have c9 : ¬ 1 = 0 := g_eqF 1 0 (by omega) (by omega) c9
    refine lv_aload_n hx hb dX2_end_12 rfl (lv_at hl 0 rfl) ?_
    refine lv_iload_n hx hb dX2_end_13 rfl (lv_at hl 2 rfl) ?_
    refine g_RVi (As := [.int (nI r)]) (rest := []) ⟨hx, hb, hml, hown, hts⟩ (mt_X2_isRope l dC dI cA H.size y0 q1 q2 q3 q4 q5 rn 0 sf lf mn rf nf ct il gf (nI r)) (cwV 1 hts gX2_end_X2_isRope rfl rfl rfl hdX2_isRope ⟨Nat.le_of_ble_eq_true rfl, Nat.le_of_ble_eq_true rfl⟩) hP hK hD [0, 1, 2, 3, 4, 5] (by decide) rfl (va_recv hK hP (ci := 2) (q0 := 0) rfl rfl) rfl hl.1 rfl (Nat.le_of_ble_eq_true rfl) dX2_end_14 (Nat.zero_le _) (Nat.zero_le _) ?_
    rw [show (inI (nI r) 0 (nI rn - 1)) = 1 from inI_pl (d := 1) (by omega) (by omega) (by decide)]
    refine lv_if_eq (tgt := 29) hx hb dX2_end_17 (by decide) (fun c17 => ?_) (fun c17 => ?_)
    · exact absurd c17 (by decide)
    · have c17 : ¬ 1 = 0 := g_eqF 1 0 (by omega) (by omega) c17
      refine lv_aload_n hx hb dX2_end_20 rfl (lv_at hl 0 rfl) ?_
      refine lv_iload_n hx hb dX2_end_21 rfl (lv_at hl 1 rfl) ?_
      refine lv_iload_n hx hb dX2_end_22 rfl (lv_at hl 2 rfl) ?_
      refine g_MVi (As := [.int (nI w), .int (nI r)]) (rest := []) ⟨hx, hb, hml, hown, hts⟩ (mt_X2_endOf l dC dI cA H.size y0 q1 q2 q3 q4 q5 rn 0 sf lf mn rf nf ct il gf Vw w r hW hrn hr6 hok hw hrr) (cwV 2 hts gX2_end_X2_endOf rfl rfl rfl hdX2_endOf ⟨Nat.le_of_ble_eq_true rfl, Nat.le_of_ble_eq_true rfl⟩) hP hK hD hS hA [0, 1, 2, 3, 4, 5] (by decide) rfl (va_recv hK hP (ci := 2) (q0 := 0) rfl rfl) rfl hl.1 rfl (Nat.le_of_ble_eq_true rfl) dX2_end_23 (Nat.zero_le _) (Nat.zero_le _) (fun u9 => [(y0, .inr (2, [.int 0, .int (nI rn), .ref q1, .ref q2, .int mn, .ref q3, .ref q4, .int ct, .int il, .ref q5])), (q1, .inl (cA, (2, .inl sf))), (q2, .inl (cA, (60, .inl lf))), (q3, .inl (cA, (320, .inl rf))), (q4, .inl (cA, (320, .inl nf))), (q5, .inl (cA, (6, .inl u9)))]) (fun _ => rfl) (fun _ => rfl) (fun u H locs hw_2 hP hD hS => ?_)
      obtain ⟨g9_1, rfl⟩ : ∃ z, z = u := ⟨_, rfl⟩
      have hw_2 : True := hw_2
      have hP : va_P (dC, dI) vwCl [(y0, .inr (2, [.int 0, .int (nI rn), .ref q1, .ref q2, .int mn, .ref q3, .ref q4, .int ct, .int il, .ref q5])), (q1, .inl (cA, (2, .inl sf))), (q2, .inl (cA, (60, .inl lf))), (q3, .inl (cA, (320, .inl rf))), (q4, .inl (cA, (320, .inl nf))), (q5, .inl (cA, (6, .inl g9_1)))] H := hP
      have hD : va_D A [(y0, .inr (2, [.int 0, .int (nI rn), .ref q1, .ref q2, .int mn, .ref q3, .ref q4, .int ct, .int il, .ref q5])), (q1, .inl (cA, (2, .inl sf))), (q2, .inl (cA, (60, .inl lf))), (q3, .inl (cA, (320, .inl rf))), (q4, .inl (cA, (320, .inl nf))), (q5, .inl (cA, (6, .inl g9_1)))] := hD
      refine lv_goto (tgt := 34) hx hb dX2_end_26 (by decide) ?_
      exact g_endMi hx hb hr hlocks hP hS dX2_end_34 g9_1 rfl rfl trivial

abbrev mt_X2_end_1b_rm : Room := { frames := 2, cells := 0, slots := 0, locals := 43 }
set_option maxHeartbeats 4000000 in
set_option maxRecDepth 100000 in
theorem mt_X2_end_1b (l : Launch) (dC : Nat → ClassId) (dI : Nat → Nat → Nat) (cA : ClassId) (sz : Nat) (y0 : Nat) (q1 : Nat) (q2 : Nat) (q3 : Nat) (q4 : Nat) (q5 : Nat) (rn : Nat) (tv : Int32) (sf : Nat → Int32) (lf : Nat → Int32) (mn : Int32) (rf : Nat → Int32) (nf : Nat → Int32) (ct : Int32) (il : Int32) (gf : Nat → Int32) (w : Nat) (x : Int32) (hw : w < 2) (hr6 : rn ≤ 6) (hbad : x < 0 ∨ nI rn ≤ x) : Met l yX2_end wsX2_end mt_X2_end_1b_rm (va_Pc [.ref y0, .int (nI w), .int x] (gB (dC, dI) [(cA, .int)] [(y0, .inr (2, [.int tv, .int (nI rn), .ref q1, .ref q2, .int mn, .ref q3, .ref q4, .int ct, .int il, .ref q5])), (q1, .inl (cA, (2, .inl sf))), (q2, .inl (cA, (60, .inl lf))), (q3, .inl (cA, (320, .inl rf))), (q4, .inl (cA, (320, .inl nf))), (q5, .inl (cA, (6, .inl gf)))] sz)) (gM (dC, dI) (some (.int 0)) (fun u : Unit => True) (fun u : Unit => [(y0, .inr (2, [.int 1, .int (nI rn), .ref q1, .ref q2, .int mn, .ref q3, .ref q4, .int ct, .int il, .ref q5])), (q1, .inl (cA, (2, .inl sf))), (q2, .inl (cA, (60, .inl lf))), (q3, .inl (cA, (320, .inl rf))), (q4, .inl (cA, (320, .inl nf))), (q5, .inl (cA, (6, .inl gf)))]) (va_A [(y0, .inr (2, [.int tv, .int (nI rn), .ref q1, .ref q2, .int mn, .ref q3, .ref q4, .int ct, .int il, .ref q5])), (q1, .inl (cA, (2, .inl sf))), (q2, .inl (cA, (60, .inl lf))), (q3, .inl (cA, (320, .inl rf))), (q4, .inl (cA, (320, .inl nf))), (q5, .inl (cA, (6, .inl gf)))] sz)) 0 0 (va_A [(y0, .inr (2, [.int tv, .int (nI rn), .ref q1, .ref q2, .int mn, .ref q3, .ref q4, .int ct, .int il, .ref q5])), (q1, .inl (cA, (2, .inl sf))), (q2, .inl (cA, (60, .inl lf))), (q3, .inl (cA, (320, .inl rf))), (q4, .inl (cA, (320, .inl nf))), (q5, .inl (cA, (6, .inl gf)))] sz) := by
  refine g_ofM (cc := cX2_end) (maxL := 3) (ret := (some .int)) (by decide) rfl (Nat.le_of_ble_eq_true rfl) (fun p e s m below meth c ls hx hb hr hml hts hown hlocks hP hK hl hin A hA hD hS => ?_)
  have hl : lv_has ls 3 [(0, .ref y0), (1, .int (nI w)), (2, .int x)] := hl
  refine lv_aload_n hx hb dX2_end_0 rfl (lv_at hl 0 rfl) ?_
  refine lv_iconst (v := 0) hx hb dX2_end_1 (by decide) ?_
  refine va_put (D := (dC, dI)) (ci := 2) (v := .int 0) (ty := .int) (C := RX2) (T := TX2) (N := 10) hx hb hts (in_X2_end_2) tyX2 tyX2_ok nmX2 hown hK hP hD hS 0 rfl rfl 0 (by decide) (hts (.fieldLink RX2 29 "BraidWordsModel" "thrown" "I") (List.mem_of_getElem? (i := 1) rfl)) (fun _ h9 => h9) rfl (by decide +kernel) rfl rfl (Nat.le_of_ble_eq_true rfl) dX2_end_2 (fun H locs hP hD hS => ?_)
  have hP : va_P (dC, dI) vwCl [(y0, .inr (2, [.int 0, .int (nI rn), .ref q1, .ref q2, .int mn, .ref q3, .ref q4, .int ct, .int il, .ref q5])), (q1, .inl (cA, (2, .inl sf))), (q2, .inl (cA, (60, .inl lf))), (q3, .inl (cA, (320, .inl rf))), (q4, .inl (cA, (320, .inl nf))), (q5, .inl (cA, (6, .inl gf)))] H := hP
  have hD : va_D A [(y0, .inr (2, [.int 0, .int (nI rn), .ref q1, .ref q2, .int mn, .ref q3, .ref q4, .int ct, .int il, .ref q5])), (q1, .inl (cA, (2, .inl sf))), (q2, .inl (cA, (60, .inl lf))), (q3, .inl (cA, (320, .inl rf))), (q4, .inl (cA, (320, .inl nf))), (q5, .inl (cA, (6, .inl gf)))] := hD
  refine lv_iload_n hx hb dX2_end_5 rfl (lv_at hl 1 rfl) ?_
  refine g_RSi (As := [.int (nI w)]) (rest := []) ⟨hx, hb, hml, hown, hts⟩ (mt_X2_isWord l dC dI cA H.size (nI w)) (va_cwS 1 hts gX2_end_X2_isWord rfl rfl rfl hdX2_isWord ⟨Nat.le_of_ble_eq_true rfl, Nat.le_of_ble_eq_true rfl⟩) hP hK hD [] (by decide) rfl rfl hl.1 rfl (Nat.le_of_ble_eq_true rfl) dX2_end_6 (Nat.zero_le _) (Nat.zero_le _) ?_
  rw [show (inI (nI w) 0 1) = 1 from inI_w hw]
  refine lv_if_eq (tgt := 29) hx hb dX2_end_9 (by decide) (fun c9 => ?_) (fun c9 => ?_)
  · exact absurd c9 (by decide)
  · have c9 : ¬ 1 = 0 := g_eqF 1 0 (by omega) (by omega) c9
    refine lv_aload_n hx hb dX2_end_12 rfl (lv_at hl 0 rfl) ?_
    refine lv_iload_n hx hb dX2_end_13 rfl (lv_at hl 2 rfl) ?_
    refine g_RVi (As := [.int x]) (rest := []) ⟨hx, hb, hml, hown, hts⟩ (mt_X2_isRope l dC dI cA H.size y0 q1 q2 q3 q4 q5 rn 0 sf lf mn rf nf ct il gf x) (cwV 1 hts gX2_end_X2_isRope rfl rfl rfl hdX2_isRope ⟨Nat.le_of_ble_eq_true rfl, Nat.le_of_ble_eq_true rfl⟩) hP hK hD [0, 1, 2, 3, 4, 5] (by decide) rfl (va_recv hK hP (ci := 2) (q0 := 0) rfl rfl) rfl hl.1 rfl (Nat.le_of_ble_eq_true rfl) dX2_end_14 (Nat.zero_le _) (Nat.zero_le _) ?_
    rw [show (inI x 0 (nI rn - 1)) = 0 from inI_b (d := 1) (show rn ≤ 30 by omega) (by omega) hbad]
    refine lv_if_eq (tgt := 29) hx hb dX2_end_17 (by decide) (fun c17 => ?_) (fun c17 => ?_)
    · have c17 : 0 = 0 := g_eqT 0 0 (by omega) (by omega) c17
      refine lv_aload_n hx hb dX2_end_29 rfl (lv_at hl 0 rfl) ?_
      refine lv_iconst (v := 1) hx hb dX2_end_30 (by decide) ?_
      refine g_MVi (As := [.int 1]) (rest := []) ⟨hx, hb, hml, hown, hts⟩ (mt_X2_no l dC dI cA H.size y0 q1 q2 q3 q4 q5 rn 0 sf lf mn rf nf ct il gf 1) (cwV 1 hts gX2_end_X2_no rfl rfl rfl hdX2_no ⟨Nat.le_of_ble_eq_true rfl, Nat.le_of_ble_eq_true rfl⟩) hP hK hD hS hA [0, 1, 2, 3, 4, 5] (by decide) rfl (va_recv hK hP (ci := 2) (q0 := 0) rfl rfl) rfl hl.1 rfl (Nat.le_of_ble_eq_true rfl) dX2_end_31 (Nat.zero_le _) (Nat.zero_le _) (fun u9 => [(y0, .inr (2, [.int 1, .int (nI rn), .ref q1, .ref q2, .int mn, .ref q3, .ref q4, .int ct, .int il, .ref q5])), (q1, .inl (cA, (2, .inl sf))), (q2, .inl (cA, (60, .inl lf))), (q3, .inl (cA, (320, .inl rf))), (q4, .inl (cA, (320, .inl nf))), (q5, .inl (cA, (6, .inl gf)))]) (fun _ => rfl) (fun _ => rfl) (fun u H locs hw_1 hP hD hS => ?_)
      have hw_1 : True := hw_1
      have hP : va_P (dC, dI) vwCl [(y0, .inr (2, [.int 1, .int (nI rn), .ref q1, .ref q2, .int mn, .ref q3, .ref q4, .int ct, .int il, .ref q5])), (q1, .inl (cA, (2, .inl sf))), (q2, .inl (cA, (60, .inl lf))), (q3, .inl (cA, (320, .inl rf))), (q4, .inl (cA, (320, .inl nf))), (q5, .inl (cA, (6, .inl gf)))] H := hP
      have hD : va_D A [(y0, .inr (2, [.int 1, .int (nI rn), .ref q1, .ref q2, .int mn, .ref q3, .ref q4, .int ct, .int il, .ref q5])), (q1, .inl (cA, (2, .inl sf))), (q2, .inl (cA, (60, .inl lf))), (q3, .inl (cA, (320, .inl rf))), (q4, .inl (cA, (320, .inl nf))), (q5, .inl (cA, (6, .inl gf)))] := hD
      exact g_endMi hx hb hr hlocks hP hS dX2_end_34 () rfl rfl trivial
    · exact absurd (by decide) c17

abbrev mt_X2_crosses_rm : Room := { frames := 2, cells := 0, slots := 0, locals := 50 }
set_option maxHeartbeats 4000000 in
set_option maxRecDepth 100000 in
theorem mt_X2_crosses (l : Launch) (dC : Nat → ClassId) (dI : Nat → Nat → Nat) (cA : ClassId) (sz : Nat) (y0 : Nat) (q1 : Nat) (q2 : Nat) (q3 : Nat) (q4 : Nat) (q5 : Nat) (rn : Nat) (tv : Int32) (sf : Nat → Int32) (lf : Nat → Int32) (mn : Int32) (rf : Nat → Int32) (nf : Nat → Int32) (ct : Int32) (il : Int32) (gf : Nat → Int32) (Vw : Nat → List Int32) (w : Nat) (a : Nat) (b : Nat) (hW : MW Vw sf lf) (hrn : rn ∈ rnS) (hr6 : rn ≤ 6) (hok : ∀ w, w < 2 → okL rn (Vw w)) (hw : w < 2) (ha : a < rn) (hb9 : b < rn) (hab : ¬ a = b) : Met l yX2_crosses wsX2_crosses mt_X2_crosses_rm (va_Pc [.ref y0, .int (nI w), .int (nI a), .int (nI b)] (gB (dC, dI) [(cA, .int)] [(y0, .inr (2, [.int tv, .int (nI rn), .ref q1, .ref q2, .int mn, .ref q3, .ref q4, .int ct, .int il, .ref q5])), (q1, .inl (cA, (2, .inl sf))), (q2, .inl (cA, (60, .inl lf))), (q3, .inl (cA, (320, .inl rf))), (q4, .inl (cA, (320, .inl nf))), (q5, .inl (cA, (6, .inl gf)))] sz)) (gM (dC, dI) (some (.int (crS (Vw w) (nI a) (nI b) (Vw w).length))) (fun u : (Nat → Int32) => True) (fun u : (Nat → Int32) => [(y0, .inr (2, [.int 0, .int (nI rn), .ref q1, .ref q2, .int mn, .ref q3, .ref q4, .int ct, .int il, .ref q5])), (q1, .inl (cA, (2, .inl sf))), (q2, .inl (cA, (60, .inl lf))), (q3, .inl (cA, (320, .inl rf))), (q4, .inl (cA, (320, .inl nf))), (q5, .inl (cA, (6, .inl u)))]) (va_A [(y0, .inr (2, [.int tv, .int (nI rn), .ref q1, .ref q2, .int mn, .ref q3, .ref q4, .int ct, .int il, .ref q5])), (q1, .inl (cA, (2, .inl sf))), (q2, .inl (cA, (60, .inl lf))), (q3, .inl (cA, (320, .inl rf))), (q4, .inl (cA, (320, .inl nf))), (q5, .inl (cA, (6, .inl gf)))] sz)) 0 0 (va_A [(y0, .inr (2, [.int tv, .int (nI rn), .ref q1, .ref q2, .int mn, .ref q3, .ref q4, .int ct, .int il, .ref q5])), (q1, .inl (cA, (2, .inl sf))), (q2, .inl (cA, (60, .inl lf))), (q3, .inl (cA, (320, .inl rf))), (q4, .inl (cA, (320, .inl nf))), (q5, .inl (cA, (6, .inl gf)))] sz) := by
  refine g_ofM (cc := cX2_crosses) (maxL := 4) (ret := (some .int)) (by decide) rfl (Nat.le_of_ble_eq_true rfl) (fun p e s m below meth c ls hx hb hr hml hts hown hlocks hP hK hl hin A hA hD hS => ?_)
  have hl : lv_has ls 4 [(0, .ref y0), (1, .int (nI w)), (2, .int (nI a)), (3, .int (nI b))] := hl
  refine lv_aload_n hx hb dX2_crosses_0 rfl (lv_at hl 0 rfl) ?_
  refine lv_iconst (v := 0) hx hb dX2_crosses_1 (by decide) ?_
  refine va_put (D := (dC, dI)) (ci := 2) (v := .int 0) (ty := .int) (C := RX2) (T := TX2) (N := 10) hx hb hts (in_X2_crosses_2) tyX2 tyX2_ok nmX2 hown hK hP hD hS 0 rfl rfl 0 (by decide) (hts (.fieldLink RX2 29 "BraidWordsModel" "thrown" "I") (List.mem_of_getElem? (i := 1) rfl)) (fun _ h9 => h9) rfl (by decide +kernel) rfl rfl (Nat.le_of_ble_eq_true rfl) dX2_crosses_2 (fun H locs hP hD hS => ?_)
  have hP : va_P (dC, dI) vwCl [(y0, .inr (2, [.int 0, .int (nI rn), .ref q1, .ref q2, .int mn, .ref q3, .ref q4, .int ct, .int il, .ref q5])), (q1, .inl (cA, (2, .inl sf))), (q2, .inl (cA, (60, .inl lf))), (q3, .inl (cA, (320, .inl rf))), (q4, .inl (cA, (320, .inl nf))), (q5, .inl (cA, (6, .inl gf)))] H := hP
  have hD : va_D A [(y0, .inr (2, [.int 0, .int (nI rn), .ref q1, .ref q2, .int mn, .ref q3, .ref q4, .int ct, .int il, .ref q5])), (q1, .inl (cA, (2, .inl sf))), (q2, .inl (cA, (60, .inl lf))), (q3, .inl (cA, (320, .inl rf))), (q4, .inl (cA, (320, .inl nf))), (q5, .inl (cA, (6, .inl gf)))] := hD
  refine lv_iload_n hx hb dX2_crosses_5 rfl (lv_at hl 1 rfl) ?_
  refine g_RSi (As := [.int (nI w)]) (rest := []) ⟨hx, hb, hml, hown, hts⟩ (mt_X2_isWord l dC dI cA H.size (nI w)) (va_cwS 1 hts gX2_crosses_X2_isWord rfl rfl rfl hdX2_isWord ⟨Nat.le_of_ble_eq_true rfl, Nat.le_of_ble_eq_true rfl⟩) hP hK hD [] (by decide) rfl rfl hl.1 rfl (Nat.le_of_ble_eq_true rfl) dX2_crosses_6 (Nat.zero_le _) (Nat.zero_le _) ?_
  rw [show (inI (nI w) 0 1) = 1 from inI_w hw]
  refine lv_if_eq (tgt := 28) hx hb dX2_crosses_9 (by decide) (fun c9 => ?_) (fun c9 => ?_)
  · exact absurd c9 (by decide)
  · have c9 : ¬ 1 = 0 := g_eqF 1 0 (by omega) (by omega) c9
    refine lv_aload_n hx hb dX2_crosses_12 rfl (lv_at hl 0 rfl) ?_
    refine lv_iload_n hx hb dX2_crosses_13 rfl (lv_at hl 2 rfl) ?_
    refine g_RVi (As := [.int (nI a)]) (rest := []) ⟨hx, hb, hml, hown, hts⟩ (mt_X2_isRope l dC dI cA H.size y0 q1 q2 q3 q4 q5 rn 0 sf lf mn rf nf ct il gf (nI a)) (cwV 1 hts gX2_crosses_X2_isRope rfl rfl rfl hdX2_isRope ⟨Nat.le_of_ble_eq_true rfl, Nat.le_of_ble_eq_true rfl⟩) hP hK hD [0, 1, 2, 3, 4, 5] (by decide) rfl (va_recv hK hP (ci := 2) (q0 := 0) rfl rfl) rfl hl.1 rfl (Nat.le_of_ble_eq_true rfl) dX2_crosses_14 (Nat.zero_le _) (Nat.zero_le _) ?_
    rw [show (inI (nI a) 0 (nI rn - 1)) = 1 from inI_pl (d := 1) (by omega) (by omega) (by decide)]
    refine lv_if_eq (tgt := 28) hx hb dX2_crosses_17 (by decide) (fun c17 => ?_) (fun c17 => ?_)
    · exact absurd c17 (by decide)
    · have c17 : ¬ 1 = 0 := g_eqF 1 0 (by omega) (by omega) c17
      refine lv_aload_n hx hb dX2_crosses_20 rfl (lv_at hl 0 rfl) ?_
      refine lv_iload_n hx hb dX2_crosses_21 rfl (lv_at hl 3 rfl) ?_
      refine g_RVi (As := [.int (nI b)]) (rest := []) ⟨hx, hb, hml, hown, hts⟩ (mt_X2_isRope l dC dI cA H.size y0 q1 q2 q3 q4 q5 rn 0 sf lf mn rf nf ct il gf (nI b)) (cwV 1 hts gX2_crosses_X2_isRope rfl rfl rfl hdX2_isRope ⟨Nat.le_of_ble_eq_true rfl, Nat.le_of_ble_eq_true rfl⟩) hP hK hD [0, 1, 2, 3, 4, 5] (by decide) rfl (va_recv hK hP (ci := 2) (q0 := 0) rfl rfl) rfl hl.1 rfl (Nat.le_of_ble_eq_true rfl) dX2_crosses_22 (Nat.zero_le _) (Nat.zero_le _) ?_
      rw [show (inI (nI b) 0 (nI rn - 1)) = 1 from inI_pl (d := 1) (by omega) (by omega) (by decide)]
      refine lv_if_ne (tgt := 34) hx hb dX2_crosses_25 (by decide) (fun c25 => ?_) (fun c25 => ?_)
      · have c25 : ¬ 1 = 0 := g_neT 1 0 (by omega) (by omega) c25
        refine lv_iload_n hx hb dX2_crosses_34 rfl (lv_at hl 2 rfl) ?_
        refine lv_iload_n hx hb dX2_crosses_35 rfl (lv_at hl 3 rfl) ?_
        refine lv_icmp_ne (tgt := 47) hx hb dX2_crosses_36 (by decide) (fun c36 => ?_) (fun c36 => ?_)
        · have c36 : ¬ a = b := g_neT a b (by omega) (by omega) c36
          refine lv_aload_n hx hb dX2_crosses_47 rfl (lv_at hl 0 rfl) ?_
          refine lv_iload_n hx hb dX2_crosses_48 rfl (lv_at hl 1 rfl) ?_
          refine lv_iload_n hx hb dX2_crosses_49 rfl (lv_at hl 2 rfl) ?_
          refine lv_iload_n hx hb dX2_crosses_50 rfl (lv_at hl 3 rfl) ?_
          refine g_MVi (As := [.int (nI w), .int (nI a), .int (nI b)]) (rest := []) ⟨hx, hb, hml, hown, hts⟩ (mt_X2_hang l dC dI cA H.size y0 q1 q2 q3 q4 q5 rn 0 sf lf mn rf nf ct il gf Vw w (nI a) (nI b) hW hrn hr6 hok hw) (cwV 3 hts gX2_crosses_X2_hang rfl rfl rfl hdX2_hang ⟨Nat.le_of_ble_eq_true rfl, Nat.le_of_ble_eq_true rfl⟩) hP hK hD hS hA [0, 1, 2, 3, 4, 5] (by decide) rfl (va_recv hK hP (ci := 2) (q0 := 0) rfl rfl) rfl hl.1 rfl (Nat.le_of_ble_eq_true rfl) dX2_crosses_51 (Nat.zero_le _) (Nat.zero_le _) (fun u9 => [(y0, .inr (2, [.int 0, .int (nI rn), .ref q1, .ref q2, .int mn, .ref q3, .ref q4, .int ct, .int il, .ref q5])), (q1, .inl (cA, (2, .inl sf))), (q2, .inl (cA, (60, .inl lf))), (q3, .inl (cA, (320, .inl rf))), (q4, .inl (cA, (320, .inl nf))), (q5, .inl (cA, (6, .inl u9)))]) (fun _ => rfl) (fun _ => rfl) (fun u H locs hw_2 hP hD hS => ?_)
          obtain ⟨g9_1, rfl⟩ : ∃ z, z = u := ⟨_, rfl⟩
          have hw_2 : ∀ p, p < rn → g9_1 p = hgF (Vw w) (Vw w).length p := hw_2
          have hP : va_P (dC, dI) vwCl [(y0, .inr (2, [.int 0, .int (nI rn), .ref q1, .ref q2, .int mn, .ref q3, .ref q4, .int ct, .int il, .ref q5])), (q1, .inl (cA, (2, .inl sf))), (q2, .inl (cA, (60, .inl lf))), (q3, .inl (cA, (320, .inl rf))), (q4, .inl (cA, (320, .inl nf))), (q5, .inl (cA, (6, .inl g9_1)))] H := hP
          have hD : va_D A [(y0, .inr (2, [.int 0, .int (nI rn), .ref q1, .ref q2, .int mn, .ref q3, .ref q4, .int ct, .int il, .ref q5])), (q1, .inl (cA, (2, .inl sf))), (q2, .inl (cA, (60, .inl lf))), (q3, .inl (cA, (320, .inl rf))), (q4, .inl (cA, (320, .inl nf))), (q5, .inl (cA, (6, .inl g9_1)))] := hD
          exact g_endMi hx hb hr hlocks hP hS dX2_crosses_54 g9_1 rfl (by rw [hs_cr hrn hr6 (hok w hw) ha hb9 hab (Nat.le_refl _)]) trivial
        · exact absurd (g_neF a b (by omega) (by omega) c36) (by omega)
      · exact absurd c25 (by decide)

abbrev mt_X2_crosses_1b_rm : Room := { frames := 2, cells := 0, slots := 0, locals := 43 }
set_option maxHeartbeats 4000000 in
set_option maxRecDepth 100000 in
theorem mt_X2_crosses_1b (l : Launch) (dC : Nat → ClassId) (dI : Nat → Nat → Nat) (cA : ClassId) (sz : Nat) (y0 : Nat) (q1 : Nat) (q2 : Nat) (q3 : Nat) (q4 : Nat) (q5 : Nat) (rn : Nat) (tv : Int32) (sf : Nat → Int32) (lf : Nat → Int32) (mn : Int32) (rf : Nat → Int32) (nf : Nat → Int32) (ct : Int32) (il : Int32) (gf : Nat → Int32) (w : Nat) (x : Int32) (y : Int32) (hw : w < 2) (hr6 : rn ≤ 6) (hbad : x < 0 ∨ nI rn ≤ x) : Met l yX2_crosses wsX2_crosses mt_X2_crosses_1b_rm (va_Pc [.ref y0, .int (nI w), .int x, .int y] (gB (dC, dI) [(cA, .int)] [(y0, .inr (2, [.int tv, .int (nI rn), .ref q1, .ref q2, .int mn, .ref q3, .ref q4, .int ct, .int il, .ref q5])), (q1, .inl (cA, (2, .inl sf))), (q2, .inl (cA, (60, .inl lf))), (q3, .inl (cA, (320, .inl rf))), (q4, .inl (cA, (320, .inl nf))), (q5, .inl (cA, (6, .inl gf)))] sz)) (gM (dC, dI) (some (.int 0)) (fun u : Unit => True) (fun u : Unit => [(y0, .inr (2, [.int 1, .int (nI rn), .ref q1, .ref q2, .int mn, .ref q3, .ref q4, .int ct, .int il, .ref q5])), (q1, .inl (cA, (2, .inl sf))), (q2, .inl (cA, (60, .inl lf))), (q3, .inl (cA, (320, .inl rf))), (q4, .inl (cA, (320, .inl nf))), (q5, .inl (cA, (6, .inl gf)))]) (va_A [(y0, .inr (2, [.int tv, .int (nI rn), .ref q1, .ref q2, .int mn, .ref q3, .ref q4, .int ct, .int il, .ref q5])), (q1, .inl (cA, (2, .inl sf))), (q2, .inl (cA, (60, .inl lf))), (q3, .inl (cA, (320, .inl rf))), (q4, .inl (cA, (320, .inl nf))), (q5, .inl (cA, (6, .inl gf)))] sz)) 0 0 (va_A [(y0, .inr (2, [.int tv, .int (nI rn), .ref q1, .ref q2, .int mn, .ref q3, .ref q4, .int ct, .int il, .ref q5])), (q1, .inl (cA, (2, .inl sf))), (q2, .inl (cA, (60, .inl lf))), (q3, .inl (cA, (320, .inl rf))), (q4, .inl (cA, (320, .inl nf))), (q5, .inl (cA, (6, .inl gf)))] sz) := by
  refine g_ofM (cc := cX2_crosses) (maxL := 4) (ret := (some .int)) (by decide) rfl (Nat.le_of_ble_eq_true rfl) (fun p e s m below meth c ls hx hb hr hml hts hown hlocks hP hK hl hin A hA hD hS => ?_)
  have hl : lv_has ls 4 [(0, .ref y0), (1, .int (nI w)), (2, .int x), (3, .int y)] := hl
  refine lv_aload_n hx hb dX2_crosses_0 rfl (lv_at hl 0 rfl) ?_
  refine lv_iconst (v := 0) hx hb dX2_crosses_1 (by decide) ?_
  refine va_put (D := (dC, dI)) (ci := 2) (v := .int 0) (ty := .int) (C := RX2) (T := TX2) (N := 10) hx hb hts (in_X2_crosses_2) tyX2 tyX2_ok nmX2 hown hK hP hD hS 0 rfl rfl 0 (by decide) (hts (.fieldLink RX2 29 "BraidWordsModel" "thrown" "I") (List.mem_of_getElem? (i := 1) rfl)) (fun _ h9 => h9) rfl (by decide +kernel) rfl rfl (Nat.le_of_ble_eq_true rfl) dX2_crosses_2 (fun H locs hP hD hS => ?_)
  have hP : va_P (dC, dI) vwCl [(y0, .inr (2, [.int 0, .int (nI rn), .ref q1, .ref q2, .int mn, .ref q3, .ref q4, .int ct, .int il, .ref q5])), (q1, .inl (cA, (2, .inl sf))), (q2, .inl (cA, (60, .inl lf))), (q3, .inl (cA, (320, .inl rf))), (q4, .inl (cA, (320, .inl nf))), (q5, .inl (cA, (6, .inl gf)))] H := hP
  have hD : va_D A [(y0, .inr (2, [.int 0, .int (nI rn), .ref q1, .ref q2, .int mn, .ref q3, .ref q4, .int ct, .int il, .ref q5])), (q1, .inl (cA, (2, .inl sf))), (q2, .inl (cA, (60, .inl lf))), (q3, .inl (cA, (320, .inl rf))), (q4, .inl (cA, (320, .inl nf))), (q5, .inl (cA, (6, .inl gf)))] := hD
  refine lv_iload_n hx hb dX2_crosses_5 rfl (lv_at hl 1 rfl) ?_
  refine g_RSi (As := [.int (nI w)]) (rest := []) ⟨hx, hb, hml, hown, hts⟩ (mt_X2_isWord l dC dI cA H.size (nI w)) (va_cwS 1 hts gX2_crosses_X2_isWord rfl rfl rfl hdX2_isWord ⟨Nat.le_of_ble_eq_true rfl, Nat.le_of_ble_eq_true rfl⟩) hP hK hD [] (by decide) rfl rfl hl.1 rfl (Nat.le_of_ble_eq_true rfl) dX2_crosses_6 (Nat.zero_le _) (Nat.zero_le _) ?_
  rw [show (inI (nI w) 0 1) = 1 from inI_w hw]
  refine lv_if_eq (tgt := 28) hx hb dX2_crosses_9 (by decide) (fun c9 => ?_) (fun c9 => ?_)
  · exact absurd c9 (by decide)
  · have c9 : ¬ 1 = 0 := g_eqF 1 0 (by omega) (by omega) c9
    refine lv_aload_n hx hb dX2_crosses_12 rfl (lv_at hl 0 rfl) ?_
    refine lv_iload_n hx hb dX2_crosses_13 rfl (lv_at hl 2 rfl) ?_
    refine g_RVi (As := [.int x]) (rest := []) ⟨hx, hb, hml, hown, hts⟩ (mt_X2_isRope l dC dI cA H.size y0 q1 q2 q3 q4 q5 rn 0 sf lf mn rf nf ct il gf x) (cwV 1 hts gX2_crosses_X2_isRope rfl rfl rfl hdX2_isRope ⟨Nat.le_of_ble_eq_true rfl, Nat.le_of_ble_eq_true rfl⟩) hP hK hD [0, 1, 2, 3, 4, 5] (by decide) rfl (va_recv hK hP (ci := 2) (q0 := 0) rfl rfl) rfl hl.1 rfl (Nat.le_of_ble_eq_true rfl) dX2_crosses_14 (Nat.zero_le _) (Nat.zero_le _) ?_
    rw [show (inI x 0 (nI rn - 1)) = 0 from inI_b (d := 1) (show rn ≤ 30 by omega) (by omega) hbad]
    refine lv_if_eq (tgt := 28) hx hb dX2_crosses_17 (by decide) (fun c17 => ?_) (fun c17 => ?_)
    · have c17 : 0 = 0 := g_eqT 0 0 (by omega) (by omega) c17
      refine lv_aload_n hx hb dX2_crosses_28 rfl (lv_at hl 0 rfl) ?_
      refine lv_iconst (v := 1) hx hb dX2_crosses_29 (by decide) ?_
      refine g_MVi (As := [.int 1]) (rest := []) ⟨hx, hb, hml, hown, hts⟩ (mt_X2_no l dC dI cA H.size y0 q1 q2 q3 q4 q5 rn 0 sf lf mn rf nf ct il gf 1) (cwV 1 hts gX2_crosses_X2_no rfl rfl rfl hdX2_no ⟨Nat.le_of_ble_eq_true rfl, Nat.le_of_ble_eq_true rfl⟩) hP hK hD hS hA [0, 1, 2, 3, 4, 5] (by decide) rfl (va_recv hK hP (ci := 2) (q0 := 0) rfl rfl) rfl hl.1 rfl (Nat.le_of_ble_eq_true rfl) dX2_crosses_30 (Nat.zero_le _) (Nat.zero_le _) (fun u9 => [(y0, .inr (2, [.int 1, .int (nI rn), .ref q1, .ref q2, .int mn, .ref q3, .ref q4, .int ct, .int il, .ref q5])), (q1, .inl (cA, (2, .inl sf))), (q2, .inl (cA, (60, .inl lf))), (q3, .inl (cA, (320, .inl rf))), (q4, .inl (cA, (320, .inl nf))), (q5, .inl (cA, (6, .inl gf)))]) (fun _ => rfl) (fun _ => rfl) (fun u H locs hw_1 hP hD hS => ?_)
      have hw_1 : True := hw_1
      have hP : va_P (dC, dI) vwCl [(y0, .inr (2, [.int 1, .int (nI rn), .ref q1, .ref q2, .int mn, .ref q3, .ref q4, .int ct, .int il, .ref q5])), (q1, .inl (cA, (2, .inl sf))), (q2, .inl (cA, (60, .inl lf))), (q3, .inl (cA, (320, .inl rf))), (q4, .inl (cA, (320, .inl nf))), (q5, .inl (cA, (6, .inl gf)))] H := hP
      have hD : va_D A [(y0, .inr (2, [.int 1, .int (nI rn), .ref q1, .ref q2, .int mn, .ref q3, .ref q4, .int ct, .int il, .ref q5])), (q1, .inl (cA, (2, .inl sf))), (q2, .inl (cA, (60, .inl lf))), (q3, .inl (cA, (320, .inl rf))), (q4, .inl (cA, (320, .inl nf))), (q5, .inl (cA, (6, .inl gf)))] := hD
      exact g_endMi hx hb hr hlocks hP hS dX2_crosses_33 () rfl rfl trivial
    · exact absurd (by decide) c17

abbrev mt_X2_crosses_1c_rm : Room := { frames := 2, cells := 0, slots := 0, locals := 43 }
set_option maxHeartbeats 4000000 in
set_option maxRecDepth 100000 in
theorem mt_X2_crosses_1c (l : Launch) (dC : Nat → ClassId) (dI : Nat → Nat → Nat) (cA : ClassId) (sz : Nat) (y0 : Nat) (q1 : Nat) (q2 : Nat) (q3 : Nat) (q4 : Nat) (q5 : Nat) (rn : Nat) (tv : Int32) (sf : Nat → Int32) (lf : Nat → Int32) (mn : Int32) (rf : Nat → Int32) (nf : Nat → Int32) (ct : Int32) (il : Int32) (gf : Nat → Int32) (w : Nat) (a : Nat) (y : Int32) (hw : w < 2) (hr6 : rn ≤ 6) (ha : a < rn) (hbad : y < 0 ∨ nI rn ≤ y) : Met l yX2_crosses wsX2_crosses mt_X2_crosses_1c_rm (va_Pc [.ref y0, .int (nI w), .int (nI a), .int y] (gB (dC, dI) [(cA, .int)] [(y0, .inr (2, [.int tv, .int (nI rn), .ref q1, .ref q2, .int mn, .ref q3, .ref q4, .int ct, .int il, .ref q5])), (q1, .inl (cA, (2, .inl sf))), (q2, .inl (cA, (60, .inl lf))), (q3, .inl (cA, (320, .inl rf))), (q4, .inl (cA, (320, .inl nf))), (q5, .inl (cA, (6, .inl gf)))] sz)) (gM (dC, dI) (some (.int 0)) (fun u : Unit => True) (fun u : Unit => [(y0, .inr (2, [.int 1, .int (nI rn), .ref q1, .ref q2, .int mn, .ref q3, .ref q4, .int ct, .int il, .ref q5])), (q1, .inl (cA, (2, .inl sf))), (q2, .inl (cA, (60, .inl lf))), (q3, .inl (cA, (320, .inl rf))), (q4, .inl (cA, (320, .inl nf))), (q5, .inl (cA, (6, .inl gf)))]) (va_A [(y0, .inr (2, [.int tv, .int (nI rn), .ref q1, .ref q2, .int mn, .ref q3, .ref q4, .int ct, .int il, .ref q5])), (q1, .inl (cA, (2, .inl sf))), (q2, .inl (cA, (60, .inl lf))), (q3, .inl (cA, (320, .inl rf))), (q4, .inl (cA, (320, .inl nf))), (q5, .inl (cA, (6, .inl gf)))] sz)) 0 0 (va_A [(y0, .inr (2, [.int tv, .int (nI rn), .ref q1, .ref q2, .int mn, .ref q3, .ref q4, .int ct, .int il, .ref q5])), (q1, .inl (cA, (2, .inl sf))), (q2, .inl (cA, (60, .inl lf))), (q3, .inl (cA, (320, .inl rf))), (q4, .inl (cA, (320, .inl nf))), (q5, .inl (cA, (6, .inl gf)))] sz) := by
  refine g_ofM (cc := cX2_crosses) (maxL := 4) (ret := (some .int)) (by decide) rfl (Nat.le_of_ble_eq_true rfl) (fun p e s m below meth c ls hx hb hr hml hts hown hlocks hP hK hl hin A hA hD hS => ?_)
  have hl : lv_has ls 4 [(0, .ref y0), (1, .int (nI w)), (2, .int (nI a)), (3, .int y)] := hl
  refine lv_aload_n hx hb dX2_crosses_0 rfl (lv_at hl 0 rfl) ?_
  refine lv_iconst (v := 0) hx hb dX2_crosses_1 (by decide) ?_
  refine va_put (D := (dC, dI)) (ci := 2) (v := .int 0) (ty := .int) (C := RX2) (T := TX2) (N := 10) hx hb hts (in_X2_crosses_2) tyX2 tyX2_ok nmX2 hown hK hP hD hS 0 rfl rfl 0 (by decide) (hts (.fieldLink RX2 29 "BraidWordsModel" "thrown" "I") (List.mem_of_getElem? (i := 1) rfl)) (fun _ h9 => h9) rfl (by decide +kernel) rfl rfl (Nat.le_of_ble_eq_true rfl) dX2_crosses_2 (fun H locs hP hD hS => ?_)
  have hP : va_P (dC, dI) vwCl [(y0, .inr (2, [.int 0, .int (nI rn), .ref q1, .ref q2, .int mn, .ref q3, .ref q4, .int ct, .int il, .ref q5])), (q1, .inl (cA, (2, .inl sf))), (q2, .inl (cA, (60, .inl lf))), (q3, .inl (cA, (320, .inl rf))), (q4, .inl (cA, (320, .inl nf))), (q5, .inl (cA, (6, .inl gf)))] H := hP
  have hD : va_D A [(y0, .inr (2, [.int 0, .int (nI rn), .ref q1, .ref q2, .int mn, .ref q3, .ref q4, .int ct, .int il, .ref q5])), (q1, .inl (cA, (2, .inl sf))), (q2, .inl (cA, (60, .inl lf))), (q3, .inl (cA, (320, .inl rf))), (q4, .inl (cA, (320, .inl nf))), (q5, .inl (cA, (6, .inl gf)))] := hD
  refine lv_iload_n hx hb dX2_crosses_5 rfl (lv_at hl 1 rfl) ?_
  refine g_RSi (As := [.int (nI w)]) (rest := []) ⟨hx, hb, hml, hown, hts⟩ (mt_X2_isWord l dC dI cA H.size (nI w)) (va_cwS 1 hts gX2_crosses_X2_isWord rfl rfl rfl hdX2_isWord ⟨Nat.le_of_ble_eq_true rfl, Nat.le_of_ble_eq_true rfl⟩) hP hK hD [] (by decide) rfl rfl hl.1 rfl (Nat.le_of_ble_eq_true rfl) dX2_crosses_6 (Nat.zero_le _) (Nat.zero_le _) ?_
  rw [show (inI (nI w) 0 1) = 1 from inI_w hw]
  refine lv_if_eq (tgt := 28) hx hb dX2_crosses_9 (by decide) (fun c9 => ?_) (fun c9 => ?_)
  · exact absurd c9 (by decide)
  · have c9 : ¬ 1 = 0 := g_eqF 1 0 (by omega) (by omega) c9
    refine lv_aload_n hx hb dX2_crosses_12 rfl (lv_at hl 0 rfl) ?_
    refine lv_iload_n hx hb dX2_crosses_13 rfl (lv_at hl 2 rfl) ?_
    refine g_RVi (As := [.int (nI a)]) (rest := []) ⟨hx, hb, hml, hown, hts⟩ (mt_X2_isRope l dC dI cA H.size y0 q1 q2 q3 q4 q5 rn 0 sf lf mn rf nf ct il gf (nI a)) (cwV 1 hts gX2_crosses_X2_isRope rfl rfl rfl hdX2_isRope ⟨Nat.le_of_ble_eq_true rfl, Nat.le_of_ble_eq_true rfl⟩) hP hK hD [0, 1, 2, 3, 4, 5] (by decide) rfl (va_recv hK hP (ci := 2) (q0 := 0) rfl rfl) rfl hl.1 rfl (Nat.le_of_ble_eq_true rfl) dX2_crosses_14 (Nat.zero_le _) (Nat.zero_le _) ?_
    rw [show (inI (nI a) 0 (nI rn - 1)) = 1 from inI_pl (d := 1) (by omega) (by omega) (by decide)]
    refine lv_if_eq (tgt := 28) hx hb dX2_crosses_17 (by decide) (fun c17 => ?_) (fun c17 => ?_)
    · exact absurd c17 (by decide)
    · have c17 : ¬ 1 = 0 := g_eqF 1 0 (by omega) (by omega) c17
      refine lv_aload_n hx hb dX2_crosses_20 rfl (lv_at hl 0 rfl) ?_
      refine lv_iload_n hx hb dX2_crosses_21 rfl (lv_at hl 3 rfl) ?_
      refine g_RVi (As := [.int y]) (rest := []) ⟨hx, hb, hml, hown, hts⟩ (mt_X2_isRope l dC dI cA H.size y0 q1 q2 q3 q4 q5 rn 0 sf lf mn rf nf ct il gf y) (cwV 1 hts gX2_crosses_X2_isRope rfl rfl rfl hdX2_isRope ⟨Nat.le_of_ble_eq_true rfl, Nat.le_of_ble_eq_true rfl⟩) hP hK hD [0, 1, 2, 3, 4, 5] (by decide) rfl (va_recv hK hP (ci := 2) (q0 := 0) rfl rfl) rfl hl.1 rfl (Nat.le_of_ble_eq_true rfl) dX2_crosses_22 (Nat.zero_le _) (Nat.zero_le _) ?_
      rw [show (inI y 0 (nI rn - 1)) = 0 from inI_b (d := 1) (show rn ≤ 30 by omega) (by omega) hbad]
      refine lv_if_ne (tgt := 34) hx hb dX2_crosses_25 (by decide) (fun c25 => ?_) (fun c25 => ?_)
      · exact absurd (by decide) c25
      · have c25 : 0 = 0 := g_neF 0 0 (by omega) (by omega) c25
        refine lv_aload_n hx hb dX2_crosses_28 rfl (lv_at hl 0 rfl) ?_
        refine lv_iconst (v := 1) hx hb dX2_crosses_29 (by decide) ?_
        refine g_MVi (As := [.int 1]) (rest := []) ⟨hx, hb, hml, hown, hts⟩ (mt_X2_no l dC dI cA H.size y0 q1 q2 q3 q4 q5 rn 0 sf lf mn rf nf ct il gf 1) (cwV 1 hts gX2_crosses_X2_no rfl rfl rfl hdX2_no ⟨Nat.le_of_ble_eq_true rfl, Nat.le_of_ble_eq_true rfl⟩) hP hK hD hS hA [0, 1, 2, 3, 4, 5] (by decide) rfl (va_recv hK hP (ci := 2) (q0 := 0) rfl rfl) rfl hl.1 rfl (Nat.le_of_ble_eq_true rfl) dX2_crosses_30 (Nat.zero_le _) (Nat.zero_le _) (fun u9 => [(y0, .inr (2, [.int 1, .int (nI rn), .ref q1, .ref q2, .int mn, .ref q3, .ref q4, .int ct, .int il, .ref q5])), (q1, .inl (cA, (2, .inl sf))), (q2, .inl (cA, (60, .inl lf))), (q3, .inl (cA, (320, .inl rf))), (q4, .inl (cA, (320, .inl nf))), (q5, .inl (cA, (6, .inl gf)))]) (fun _ => rfl) (fun _ => rfl) (fun u H locs hw_1 hP hD hS => ?_)
        have hw_1 : True := hw_1
        have hP : va_P (dC, dI) vwCl [(y0, .inr (2, [.int 1, .int (nI rn), .ref q1, .ref q2, .int mn, .ref q3, .ref q4, .int ct, .int il, .ref q5])), (q1, .inl (cA, (2, .inl sf))), (q2, .inl (cA, (60, .inl lf))), (q3, .inl (cA, (320, .inl rf))), (q4, .inl (cA, (320, .inl nf))), (q5, .inl (cA, (6, .inl gf)))] H := hP
        have hD : va_D A [(y0, .inr (2, [.int 1, .int (nI rn), .ref q1, .ref q2, .int mn, .ref q3, .ref q4, .int ct, .int il, .ref q5])), (q1, .inl (cA, (2, .inl sf))), (q2, .inl (cA, (60, .inl lf))), (q3, .inl (cA, (320, .inl rf))), (q4, .inl (cA, (320, .inl nf))), (q5, .inl (cA, (6, .inl gf)))] := hD
        exact g_endMi hx hb hr hlocks hP hS dX2_crosses_33 () rfl rfl trivial

abbrev mt_X2_crosses_2_rm : Room := { frames := 2, cells := 0, slots := 0, locals := 43 }
set_option maxHeartbeats 4000000 in
set_option maxRecDepth 100000 in
theorem mt_X2_crosses_2 (l : Launch) (dC : Nat → ClassId) (dI : Nat → Nat → Nat) (cA : ClassId) (sz : Nat) (y0 : Nat) (q1 : Nat) (q2 : Nat) (q3 : Nat) (q4 : Nat) (q5 : Nat) (rn : Nat) (tv : Int32) (sf : Nat → Int32) (lf : Nat → Int32) (mn : Int32) (rf : Nat → Int32) (nf : Nat → Int32) (ct : Int32) (il : Int32) (gf : Nat → Int32) (w : Nat) (a : Nat) (hw : w < 2) (hr6 : rn ≤ 6) (ha : a < rn) : Met l yX2_crosses wsX2_crosses mt_X2_crosses_2_rm (va_Pc [.ref y0, .int (nI w), .int (nI a), .int (nI a)] (gB (dC, dI) [(cA, .int)] [(y0, .inr (2, [.int tv, .int (nI rn), .ref q1, .ref q2, .int mn, .ref q3, .ref q4, .int ct, .int il, .ref q5])), (q1, .inl (cA, (2, .inl sf))), (q2, .inl (cA, (60, .inl lf))), (q3, .inl (cA, (320, .inl rf))), (q4, .inl (cA, (320, .inl nf))), (q5, .inl (cA, (6, .inl gf)))] sz)) (gM (dC, dI) (some (.int 0)) (fun u : Unit => True) (fun u : Unit => [(y0, .inr (2, [.int 2, .int (nI rn), .ref q1, .ref q2, .int mn, .ref q3, .ref q4, .int ct, .int il, .ref q5])), (q1, .inl (cA, (2, .inl sf))), (q2, .inl (cA, (60, .inl lf))), (q3, .inl (cA, (320, .inl rf))), (q4, .inl (cA, (320, .inl nf))), (q5, .inl (cA, (6, .inl gf)))]) (va_A [(y0, .inr (2, [.int tv, .int (nI rn), .ref q1, .ref q2, .int mn, .ref q3, .ref q4, .int ct, .int il, .ref q5])), (q1, .inl (cA, (2, .inl sf))), (q2, .inl (cA, (60, .inl lf))), (q3, .inl (cA, (320, .inl rf))), (q4, .inl (cA, (320, .inl nf))), (q5, .inl (cA, (6, .inl gf)))] sz)) 0 0 (va_A [(y0, .inr (2, [.int tv, .int (nI rn), .ref q1, .ref q2, .int mn, .ref q3, .ref q4, .int ct, .int il, .ref q5])), (q1, .inl (cA, (2, .inl sf))), (q2, .inl (cA, (60, .inl lf))), (q3, .inl (cA, (320, .inl rf))), (q4, .inl (cA, (320, .inl nf))), (q5, .inl (cA, (6, .inl gf)))] sz) := by
  refine g_ofM (cc := cX2_crosses) (maxL := 4) (ret := (some .int)) (by decide) rfl (Nat.le_of_ble_eq_true rfl) (fun p e s m below meth c ls hx hb hr hml hts hown hlocks hP hK hl hin A hA hD hS => ?_)
  have hl : lv_has ls 4 [(0, .ref y0), (1, .int (nI w)), (2, .int (nI a)), (3, .int (nI a))] := hl
  refine lv_aload_n hx hb dX2_crosses_0 rfl (lv_at hl 0 rfl) ?_
  refine lv_iconst (v := 0) hx hb dX2_crosses_1 (by decide) ?_
  refine va_put (D := (dC, dI)) (ci := 2) (v := .int 0) (ty := .int) (C := RX2) (T := TX2) (N := 10) hx hb hts (in_X2_crosses_2) tyX2 tyX2_ok nmX2 hown hK hP hD hS 0 rfl rfl 0 (by decide) (hts (.fieldLink RX2 29 "BraidWordsModel" "thrown" "I") (List.mem_of_getElem? (i := 1) rfl)) (fun _ h9 => h9) rfl (by decide +kernel) rfl rfl (Nat.le_of_ble_eq_true rfl) dX2_crosses_2 (fun H locs hP hD hS => ?_)
  have hP : va_P (dC, dI) vwCl [(y0, .inr (2, [.int 0, .int (nI rn), .ref q1, .ref q2, .int mn, .ref q3, .ref q4, .int ct, .int il, .ref q5])), (q1, .inl (cA, (2, .inl sf))), (q2, .inl (cA, (60, .inl lf))), (q3, .inl (cA, (320, .inl rf))), (q4, .inl (cA, (320, .inl nf))), (q5, .inl (cA, (6, .inl gf)))] H := hP
  have hD : va_D A [(y0, .inr (2, [.int 0, .int (nI rn), .ref q1, .ref q2, .int mn, .ref q3, .ref q4, .int ct, .int il, .ref q5])), (q1, .inl (cA, (2, .inl sf))), (q2, .inl (cA, (60, .inl lf))), (q3, .inl (cA, (320, .inl rf))), (q4, .inl (cA, (320, .inl nf))), (q5, .inl (cA, (6, .inl gf)))] := hD
  refine lv_iload_n hx hb dX2_crosses_5 rfl (lv_at hl 1 rfl) ?_
  refine g_RSi (As := [.int (nI w)]) (rest := []) ⟨hx, hb, hml, hown, hts⟩ (mt_X2_isWord l dC dI cA H.size (nI w)) (va_cwS 1 hts gX2_crosses_X2_isWord rfl rfl rfl hdX2_isWord ⟨Nat.le_of_ble_eq_true rfl, Nat.le_of_ble_eq_true rfl⟩) hP hK hD [] (by decide) rfl rfl hl.1 rfl (Nat.le_of_ble_eq_true rfl) dX2_crosses_6 (Nat.zero_le _) (Nat.zero_le _) ?_
  rw [show (inI (nI w) 0 1) = 1 from inI_w hw]
  refine lv_if_eq (tgt := 28) hx hb dX2_crosses_9 (by decide) (fun c9 => ?_) (fun c9 => ?_)
  · exact absurd c9 (by decide)
  · have c9 : ¬ 1 = 0 := g_eqF 1 0 (by omega) (by omega) c9
    refine lv_aload_n hx hb dX2_crosses_12 rfl (lv_at hl 0 rfl) ?_
    refine lv_iload_n hx hb dX2_crosses_13 rfl (lv_at hl 2 rfl) ?_
    refine g_RVi (As := [.int (nI a)]) (rest := []) ⟨hx, hb, hml, hown, hts⟩ (mt_X2_isRope l dC dI cA H.size y0 q1 q2 q3 q4 q5 rn 0 sf lf mn rf nf ct il gf (nI a)) (cwV 1 hts gX2_crosses_X2_isRope rfl rfl rfl hdX2_isRope ⟨Nat.le_of_ble_eq_true rfl, Nat.le_of_ble_eq_true rfl⟩) hP hK hD [0, 1, 2, 3, 4, 5] (by decide) rfl (va_recv hK hP (ci := 2) (q0 := 0) rfl rfl) rfl hl.1 rfl (Nat.le_of_ble_eq_true rfl) dX2_crosses_14 (Nat.zero_le _) (Nat.zero_le _) ?_
    rw [show (inI (nI a) 0 (nI rn - 1)) = 1 from inI_pl (d := 1) (by omega) (by omega) (by decide)]
    refine lv_if_eq (tgt := 28) hx hb dX2_crosses_17 (by decide) (fun c17 => ?_) (fun c17 => ?_)
    · exact absurd c17 (by decide)
    · have c17 : ¬ 1 = 0 := g_eqF 1 0 (by omega) (by omega) c17
      refine lv_aload_n hx hb dX2_crosses_20 rfl (lv_at hl 0 rfl) ?_
      refine lv_iload_n hx hb dX2_crosses_21 rfl (lv_at hl 3 rfl) ?_
      refine g_RVi (As := [.int (nI a)]) (rest := []) ⟨hx, hb, hml, hown, hts⟩ (mt_X2_isRope l dC dI cA H.size y0 q1 q2 q3 q4 q5 rn 0 sf lf mn rf nf ct il gf (nI a)) (cwV 1 hts gX2_crosses_X2_isRope rfl rfl rfl hdX2_isRope ⟨Nat.le_of_ble_eq_true rfl, Nat.le_of_ble_eq_true rfl⟩) hP hK hD [0, 1, 2, 3, 4, 5] (by decide) rfl (va_recv hK hP (ci := 2) (q0 := 0) rfl rfl) rfl hl.1 rfl (Nat.le_of_ble_eq_true rfl) dX2_crosses_22 (Nat.zero_le _) (Nat.zero_le _) ?_
      rw [show (inI (nI a) 0 (nI rn - 1)) = 1 from inI_pl (d := 1) (by omega) (by omega) (by decide)]
      refine lv_if_ne (tgt := 34) hx hb dX2_crosses_25 (by decide) (fun c25 => ?_) (fun c25 => ?_)
      · have c25 : ¬ 1 = 0 := g_neT 1 0 (by omega) (by omega) c25
        refine lv_iload_n hx hb dX2_crosses_34 rfl (lv_at hl 2 rfl) ?_
        refine lv_iload_n hx hb dX2_crosses_35 rfl (lv_at hl 3 rfl) ?_
        refine lv_icmp_ne (tgt := 47) hx hb dX2_crosses_36 (by decide) (fun c36 => ?_) (fun c36 => ?_)
        · exact absurd (g_neT a a (by omega) (by omega) c36) (by omega)
        · have c36 : a = a := g_neF a a (by omega) (by omega) c36
          refine lv_aload_n hx hb dX2_crosses_39 rfl (lv_at hl 0 rfl) ?_
          refine lv_iconst (v := 2) hx hb dX2_crosses_40 (by decide) ?_
          refine g_MVi (As := [.int 2]) (rest := []) ⟨hx, hb, hml, hown, hts⟩ (mt_X2_no l dC dI cA H.size y0 q1 q2 q3 q4 q5 rn 0 sf lf mn rf nf ct il gf 2) (cwV 1 hts gX2_crosses_X2_no rfl rfl rfl hdX2_no ⟨Nat.le_of_ble_eq_true rfl, Nat.le_of_ble_eq_true rfl⟩) hP hK hD hS hA [0, 1, 2, 3, 4, 5] (by decide) rfl (va_recv hK hP (ci := 2) (q0 := 0) rfl rfl) rfl hl.1 rfl (Nat.le_of_ble_eq_true rfl) dX2_crosses_41 (Nat.zero_le _) (Nat.zero_le _) (fun u9 => [(y0, .inr (2, [.int 2, .int (nI rn), .ref q1, .ref q2, .int mn, .ref q3, .ref q4, .int ct, .int il, .ref q5])), (q1, .inl (cA, (2, .inl sf))), (q2, .inl (cA, (60, .inl lf))), (q3, .inl (cA, (320, .inl rf))), (q4, .inl (cA, (320, .inl nf))), (q5, .inl (cA, (6, .inl gf)))]) (fun _ => rfl) (fun _ => rfl) (fun u H locs hw_1 hP hD hS => ?_)
          have hw_1 : True := hw_1
          have hP : va_P (dC, dI) vwCl [(y0, .inr (2, [.int 2, .int (nI rn), .ref q1, .ref q2, .int mn, .ref q3, .ref q4, .int ct, .int il, .ref q5])), (q1, .inl (cA, (2, .inl sf))), (q2, .inl (cA, (60, .inl lf))), (q3, .inl (cA, (320, .inl rf))), (q4, .inl (cA, (320, .inl nf))), (q5, .inl (cA, (6, .inl gf)))] H := hP
          have hD : va_D A [(y0, .inr (2, [.int 2, .int (nI rn), .ref q1, .ref q2, .int mn, .ref q3, .ref q4, .int ct, .int il, .ref q5])), (q1, .inl (cA, (2, .inl sf))), (q2, .inl (cA, (60, .inl lf))), (q3, .inl (cA, (320, .inl rf))), (q4, .inl (cA, (320, .inl nf))), (q5, .inl (cA, (6, .inl gf)))] := hD
          refine lv_goto (tgt := 54) hx hb dX2_crosses_44 (by decide) ?_
          exact g_endMi hx hb hr hlocks hP hS dX2_crosses_54 () rfl rfl trivial
      · exact absurd c25 (by decide)

abbrev mt_X2_handle_rm : Room := { frames := 4, cells := 0, slots := 0, locals := 92 }
set_option maxHeartbeats 4000000 in
set_option maxRecDepth 100000 in
theorem mt_X2_handle (l : Launch) (dC : Nat → ClassId) (dI : Nat → Nat → Nat) (cA : ClassId) (sz : Nat) (y0 : Nat) (q1 : Nat) (q2 : Nat) (q3 : Nat) (q4 : Nat) (q5 : Nat) (rn : Nat) (tv : Int32) (sf : Nat → Int32) (lf : Nat → Int32) (mn : Int32) (rf : Nat → Int32) (nf : Nat → Int32) (ct : Int32) (il : Int32) (gf : Nat → Int32) (Vw : Nat → List Int32) (w : Nat) (q : Nat) (hW : MW Vw sf lf) (hrn : rn ∈ rnS) (hr6 : rn ≤ 6) (hok : ∀ w, w < 2 → okL rn (Vw w)) (hw : w < 2) (hq : q < 3) : Met l yX2_handle wsX2_handle mt_X2_handle_rm (va_Pc [.ref y0, .int (nI w), .int (nI q)] (gB (dC, dI) [(cA, .int)] [(y0, .inr (2, [.int tv, .int (nI rn), .ref q1, .ref q2, .int mn, .ref q3, .ref q4, .int ct, .int il, .ref q5])), (q1, .inl (cA, (2, .inl sf))), (q2, .inl (cA, (60, .inl lf))), (q3, .inl (cA, (320, .inl rf))), (q4, .inl (cA, (320, .inl nf))), (q5, .inl (cA, (6, .inl gf)))] sz)) (gM (dC, dI) (some (.int (haL (Vw w) q))) (fun u : (Nat → Int32) => True) (fun u : (Nat → Int32) => [(y0, .inr (2, [.int 0, .int (nI rn), .ref q1, .ref q2, .int (nI ((Vw w).length)), .ref q3, .ref q4, .int ct, .int il, .ref q5])), (q1, .inl (cA, (2, .inl sf))), (q2, .inl (cA, (60, .inl lf))), (q3, .inl (cA, (320, .inl u))), (q4, .inl (cA, (320, .inl nf))), (q5, .inl (cA, (6, .inl gf)))]) (va_A [(y0, .inr (2, [.int tv, .int (nI rn), .ref q1, .ref q2, .int mn, .ref q3, .ref q4, .int ct, .int il, .ref q5])), (q1, .inl (cA, (2, .inl sf))), (q2, .inl (cA, (60, .inl lf))), (q3, .inl (cA, (320, .inl rf))), (q4, .inl (cA, (320, .inl nf))), (q5, .inl (cA, (6, .inl gf)))] sz)) 0 0 (va_A [(y0, .inr (2, [.int tv, .int (nI rn), .ref q1, .ref q2, .int mn, .ref q3, .ref q4, .int ct, .int il, .ref q5])), (q1, .inl (cA, (2, .inl sf))), (q2, .inl (cA, (60, .inl lf))), (q3, .inl (cA, (320, .inl rf))), (q4, .inl (cA, (320, .inl nf))), (q5, .inl (cA, (6, .inl gf)))] sz) := by
  refine g_ofM (cc := cX2_handle) (maxL := 3) (ret := (some .int)) (by decide) rfl (Nat.le_of_ble_eq_true rfl) (fun p e s m below meth c ls hx hb hr hml hts hown hlocks hP hK hl hin A hA hD hS => ?_)
  have hl : lv_has ls 3 [(0, .ref y0), (1, .int (nI w)), (2, .int (nI q))] := hl
  refine lv_aload_n hx hb dX2_handle_0 rfl (lv_at hl 0 rfl) ?_
  refine lv_iconst (v := 0) hx hb dX2_handle_1 (by decide) ?_
  refine va_put (D := (dC, dI)) (ci := 2) (v := .int 0) (ty := .int) (C := RX2) (T := TX2) (N := 10) hx hb hts (in_X2_handle_2) tyX2 tyX2_ok nmX2 hown hK hP hD hS 0 rfl rfl 0 (by decide) (hts (.fieldLink RX2 29 "BraidWordsModel" "thrown" "I") (List.mem_of_getElem? (i := 1) rfl)) (fun _ h9 => h9) rfl (by decide +kernel) rfl rfl (Nat.le_of_ble_eq_true rfl) dX2_handle_2 (fun H locs hP hD hS => ?_)
  have hP : va_P (dC, dI) vwCl [(y0, .inr (2, [.int 0, .int (nI rn), .ref q1, .ref q2, .int mn, .ref q3, .ref q4, .int ct, .int il, .ref q5])), (q1, .inl (cA, (2, .inl sf))), (q2, .inl (cA, (60, .inl lf))), (q3, .inl (cA, (320, .inl rf))), (q4, .inl (cA, (320, .inl nf))), (q5, .inl (cA, (6, .inl gf)))] H := hP
  have hD : va_D A [(y0, .inr (2, [.int 0, .int (nI rn), .ref q1, .ref q2, .int mn, .ref q3, .ref q4, .int ct, .int il, .ref q5])), (q1, .inl (cA, (2, .inl sf))), (q2, .inl (cA, (60, .inl lf))), (q3, .inl (cA, (320, .inl rf))), (q4, .inl (cA, (320, .inl nf))), (q5, .inl (cA, (6, .inl gf)))] := hD
  refine lv_iload_n hx hb dX2_handle_5 rfl (lv_at hl 1 rfl) ?_
  refine g_RSi (As := [.int (nI w)]) (rest := []) ⟨hx, hb, hml, hown, hts⟩ (mt_X2_isWord l dC dI cA H.size (nI w)) (va_cwS 1 hts gX2_handle_X2_isWord rfl rfl rfl hdX2_isWord ⟨Nat.le_of_ble_eq_true rfl, Nat.le_of_ble_eq_true rfl⟩) hP hK hD [] (by decide) rfl rfl hl.1 rfl (Nat.le_of_ble_eq_true rfl) dX2_handle_6 (Nat.zero_le _) (Nat.zero_le _) ?_
  rw [show (inI (nI w) 0 1) = 1 from inI_w hw]
  refine lv_if_eq (tgt := 30) hx hb dX2_handle_9 (by decide) (fun c9 => ?_) (fun c9 => ?_)
  · exact absurd c9 (by decide)
  · have c9 : ¬ 1 = 0 := g_eqF 1 0 (by omega) (by omega) c9
    refine lv_iload_n hx hb dX2_handle_12 rfl (lv_at hl 2 rfl) ?_
    refine lv_iconst (v := 0) hx hb dX2_handle_13 (by decide) ?_
    refine lv_iconst (v := 2) hx hb dX2_handle_14 (by decide) ?_
    refine g_RSi (As := [.int (nI q), .int 0, .int 2]) (rest := []) ⟨hx, hb, hml, hown, hts⟩ (mt_X2_isIn l dC dI cA H.size (nI q) 0 2) (va_cwS 3 hts gX2_handle_X2_isIn rfl rfl rfl hdX2_isIn ⟨Nat.le_of_ble_eq_true rfl, Nat.le_of_ble_eq_true rfl⟩) hP hK hD [] (by decide) rfl rfl hl.1 rfl (Nat.le_of_ble_eq_true rfl) dX2_handle_15 (Nat.zero_le _) (Nat.zero_le _) ?_
    rw [show (inI (nI q) 0 2) = 1 from inI_cy (b := 2) (by omega) (by decide)]
    refine lv_if_eq (tgt := 30) hx hb dX2_handle_18 (by decide) (fun c18 => ?_) (fun c18 => ?_)
    · exact absurd c18 (by decide)
    · have c18 : ¬ 1 = 0 := g_eqF 1 0 (by omega) (by omega) c18
      refine lv_aload_n hx hb dX2_handle_21 rfl (lv_at hl 0 rfl) ?_
      refine lv_iload_n hx hb dX2_handle_22 rfl (lv_at hl 1 rfl) ?_
      refine lv_iload_n hx hb dX2_handle_23 rfl (lv_at hl 2 rfl) ?_
      refine g_MVi (As := [.int (nI w), .int (nI q)]) (rest := []) ⟨hx, hb, hml, hown, hts⟩ (mt_X2_handleTold l dC dI cA H.size y0 q1 q2 q3 q4 q5 rn 0 sf lf mn rf nf ct il gf Vw w q hW hrn hr6 hok hw hq) (cwV 2 hts gX2_handle_X2_handleTold rfl rfl rfl hdX2_handleTold ⟨Nat.le_of_ble_eq_true rfl, Nat.le_of_ble_eq_true rfl⟩) hP hK hD hS hA [0, 1, 2, 3, 4, 5] (by decide) rfl (va_recv hK hP (ci := 2) (q0 := 0) rfl rfl) rfl hl.1 rfl (Nat.le_of_ble_eq_true rfl) dX2_handle_24 (Nat.zero_le _) (Nat.zero_le _) (fun u9 => [(y0, .inr (2, [.int 0, .int (nI rn), .ref q1, .ref q2, .int (nI ((Vw w).length)), .ref q3, .ref q4, .int ct, .int il, .ref q5])), (q1, .inl (cA, (2, .inl sf))), (q2, .inl (cA, (60, .inl lf))), (q3, .inl (cA, (320, .inl u9))), (q4, .inl (cA, (320, .inl nf))), (q5, .inl (cA, (6, .inl gf)))]) (fun _ => rfl) (fun _ => rfl) (fun u H locs hw_2 hP hD hS => ?_)
      obtain ⟨r1_1, rfl⟩ : ∃ z, z = u := ⟨_, rfl⟩
      have hw_2 : True := hw_2
      have hP : va_P (dC, dI) vwCl [(y0, .inr (2, [.int 0, .int (nI rn), .ref q1, .ref q2, .int (nI ((Vw w).length)), .ref q3, .ref q4, .int ct, .int il, .ref q5])), (q1, .inl (cA, (2, .inl sf))), (q2, .inl (cA, (60, .inl lf))), (q3, .inl (cA, (320, .inl r1_1))), (q4, .inl (cA, (320, .inl nf))), (q5, .inl (cA, (6, .inl gf)))] H := hP
      have hD : va_D A [(y0, .inr (2, [.int 0, .int (nI rn), .ref q1, .ref q2, .int (nI ((Vw w).length)), .ref q3, .ref q4, .int ct, .int il, .ref q5])), (q1, .inl (cA, (2, .inl sf))), (q2, .inl (cA, (60, .inl lf))), (q3, .inl (cA, (320, .inl r1_1))), (q4, .inl (cA, (320, .inl nf))), (q5, .inl (cA, (6, .inl gf)))] := hD
      refine lv_goto (tgt := 35) hx hb dX2_handle_27 (by decide) ?_
      exact g_endMi hx hb hr hlocks hP hS dX2_handle_35 r1_1 rfl rfl trivial

abbrev mt_X2_handle_1b_rm : Room := { frames := 2, cells := 0, slots := 0, locals := 42 }
set_option maxHeartbeats 4000000 in
set_option maxRecDepth 100000 in
theorem mt_X2_handle_1b (l : Launch) (dC : Nat → ClassId) (dI : Nat → Nat → Nat) (cA : ClassId) (sz : Nat) (y0 : Nat) (q1 : Nat) (q2 : Nat) (q3 : Nat) (q4 : Nat) (q5 : Nat) (rn : Nat) (tv : Int32) (sf : Nat → Int32) (lf : Nat → Int32) (mn : Int32) (rf : Nat → Int32) (nf : Nat → Int32) (ct : Int32) (il : Int32) (gf : Nat → Int32) (w : Nat) (x : Int32) (hw : w < 2) (hbad : x < 0 ∨ nI 3 ≤ x) : Met l yX2_handle wsX2_handle mt_X2_handle_1b_rm (va_Pc [.ref y0, .int (nI w), .int x] (gB (dC, dI) [(cA, .int)] [(y0, .inr (2, [.int tv, .int (nI rn), .ref q1, .ref q2, .int mn, .ref q3, .ref q4, .int ct, .int il, .ref q5])), (q1, .inl (cA, (2, .inl sf))), (q2, .inl (cA, (60, .inl lf))), (q3, .inl (cA, (320, .inl rf))), (q4, .inl (cA, (320, .inl nf))), (q5, .inl (cA, (6, .inl gf)))] sz)) (gM (dC, dI) (some (.int 0)) (fun u : Unit => True) (fun u : Unit => [(y0, .inr (2, [.int 1, .int (nI rn), .ref q1, .ref q2, .int mn, .ref q3, .ref q4, .int ct, .int il, .ref q5])), (q1, .inl (cA, (2, .inl sf))), (q2, .inl (cA, (60, .inl lf))), (q3, .inl (cA, (320, .inl rf))), (q4, .inl (cA, (320, .inl nf))), (q5, .inl (cA, (6, .inl gf)))]) (va_A [(y0, .inr (2, [.int tv, .int (nI rn), .ref q1, .ref q2, .int mn, .ref q3, .ref q4, .int ct, .int il, .ref q5])), (q1, .inl (cA, (2, .inl sf))), (q2, .inl (cA, (60, .inl lf))), (q3, .inl (cA, (320, .inl rf))), (q4, .inl (cA, (320, .inl nf))), (q5, .inl (cA, (6, .inl gf)))] sz)) 0 0 (va_A [(y0, .inr (2, [.int tv, .int (nI rn), .ref q1, .ref q2, .int mn, .ref q3, .ref q4, .int ct, .int il, .ref q5])), (q1, .inl (cA, (2, .inl sf))), (q2, .inl (cA, (60, .inl lf))), (q3, .inl (cA, (320, .inl rf))), (q4, .inl (cA, (320, .inl nf))), (q5, .inl (cA, (6, .inl gf)))] sz) := by
  refine g_ofM (cc := cX2_handle) (maxL := 3) (ret := (some .int)) (by decide) rfl (Nat.le_of_ble_eq_true rfl) (fun p e s m below meth c ls hx hb hr hml hts hown hlocks hP hK hl hin A hA hD hS => ?_)
  have hl : lv_has ls 3 [(0, .ref y0), (1, .int (nI w)), (2, .int x)] := hl
  refine lv_aload_n hx hb dX2_handle_0 rfl (lv_at hl 0 rfl) ?_
  refine lv_iconst (v := 0) hx hb dX2_handle_1 (by decide) ?_
  refine va_put (D := (dC, dI)) (ci := 2) (v := .int 0) (ty := .int) (C := RX2) (T := TX2) (N := 10) hx hb hts (in_X2_handle_2) tyX2 tyX2_ok nmX2 hown hK hP hD hS 0 rfl rfl 0 (by decide) (hts (.fieldLink RX2 29 "BraidWordsModel" "thrown" "I") (List.mem_of_getElem? (i := 1) rfl)) (fun _ h9 => h9) rfl (by decide +kernel) rfl rfl (Nat.le_of_ble_eq_true rfl) dX2_handle_2 (fun H locs hP hD hS => ?_)
  have hP : va_P (dC, dI) vwCl [(y0, .inr (2, [.int 0, .int (nI rn), .ref q1, .ref q2, .int mn, .ref q3, .ref q4, .int ct, .int il, .ref q5])), (q1, .inl (cA, (2, .inl sf))), (q2, .inl (cA, (60, .inl lf))), (q3, .inl (cA, (320, .inl rf))), (q4, .inl (cA, (320, .inl nf))), (q5, .inl (cA, (6, .inl gf)))] H := hP
  have hD : va_D A [(y0, .inr (2, [.int 0, .int (nI rn), .ref q1, .ref q2, .int mn, .ref q3, .ref q4, .int ct, .int il, .ref q5])), (q1, .inl (cA, (2, .inl sf))), (q2, .inl (cA, (60, .inl lf))), (q3, .inl (cA, (320, .inl rf))), (q4, .inl (cA, (320, .inl nf))), (q5, .inl (cA, (6, .inl gf)))] := hD
  refine lv_iload_n hx hb dX2_handle_5 rfl (lv_at hl 1 rfl) ?_
  refine g_RSi (As := [.int (nI w)]) (rest := []) ⟨hx, hb, hml, hown, hts⟩ (mt_X2_isWord l dC dI cA H.size (nI w)) (va_cwS 1 hts gX2_handle_X2_isWord rfl rfl rfl hdX2_isWord ⟨Nat.le_of_ble_eq_true rfl, Nat.le_of_ble_eq_true rfl⟩) hP hK hD [] (by decide) rfl rfl hl.1 rfl (Nat.le_of_ble_eq_true rfl) dX2_handle_6 (Nat.zero_le _) (Nat.zero_le _) ?_
  rw [show (inI (nI w) 0 1) = 1 from inI_w hw]
  refine lv_if_eq (tgt := 30) hx hb dX2_handle_9 (by decide) (fun c9 => ?_) (fun c9 => ?_)
  · exact absurd c9 (by decide)
  · have c9 : ¬ 1 = 0 := g_eqF 1 0 (by omega) (by omega) c9
    refine lv_iload_n hx hb dX2_handle_12 rfl (lv_at hl 2 rfl) ?_
    refine lv_iconst (v := 0) hx hb dX2_handle_13 (by decide) ?_
    refine lv_iconst (v := 2) hx hb dX2_handle_14 (by decide) ?_
    refine g_RSi (As := [.int x, .int 0, .int 2]) (rest := []) ⟨hx, hb, hml, hown, hts⟩ (mt_X2_isIn l dC dI cA H.size x 0 2) (va_cwS 3 hts gX2_handle_X2_isIn rfl rfl rfl hdX2_isIn ⟨Nat.le_of_ble_eq_true rfl, Nat.le_of_ble_eq_true rfl⟩) hP hK hD [] (by decide) rfl rfl hl.1 rfl (Nat.le_of_ble_eq_true rfl) dX2_handle_15 (Nat.zero_le _) (Nat.zero_le _) ?_
    rw [show (inI x 0 2) = 0 from inI_c (b := 2) hbad (by decide)]
    refine lv_if_eq (tgt := 30) hx hb dX2_handle_18 (by decide) (fun c18 => ?_) (fun c18 => ?_)
    · have c18 : 0 = 0 := g_eqT 0 0 (by omega) (by omega) c18
      refine lv_aload_n hx hb dX2_handle_30 rfl (lv_at hl 0 rfl) ?_
      refine lv_iconst (v := 1) hx hb dX2_handle_31 (by decide) ?_
      refine g_MVi (As := [.int 1]) (rest := []) ⟨hx, hb, hml, hown, hts⟩ (mt_X2_no l dC dI cA H.size y0 q1 q2 q3 q4 q5 rn 0 sf lf mn rf nf ct il gf 1) (cwV 1 hts gX2_handle_X2_no rfl rfl rfl hdX2_no ⟨Nat.le_of_ble_eq_true rfl, Nat.le_of_ble_eq_true rfl⟩) hP hK hD hS hA [0, 1, 2, 3, 4, 5] (by decide) rfl (va_recv hK hP (ci := 2) (q0 := 0) rfl rfl) rfl hl.1 rfl (Nat.le_of_ble_eq_true rfl) dX2_handle_32 (Nat.zero_le _) (Nat.zero_le _) (fun u9 => [(y0, .inr (2, [.int 1, .int (nI rn), .ref q1, .ref q2, .int mn, .ref q3, .ref q4, .int ct, .int il, .ref q5])), (q1, .inl (cA, (2, .inl sf))), (q2, .inl (cA, (60, .inl lf))), (q3, .inl (cA, (320, .inl rf))), (q4, .inl (cA, (320, .inl nf))), (q5, .inl (cA, (6, .inl gf)))]) (fun _ => rfl) (fun _ => rfl) (fun u H locs hw_1 hP hD hS => ?_)
      have hw_1 : True := hw_1
      have hP : va_P (dC, dI) vwCl [(y0, .inr (2, [.int 1, .int (nI rn), .ref q1, .ref q2, .int mn, .ref q3, .ref q4, .int ct, .int il, .ref q5])), (q1, .inl (cA, (2, .inl sf))), (q2, .inl (cA, (60, .inl lf))), (q3, .inl (cA, (320, .inl rf))), (q4, .inl (cA, (320, .inl nf))), (q5, .inl (cA, (6, .inl gf)))] H := hP
      have hD : va_D A [(y0, .inr (2, [.int 1, .int (nI rn), .ref q1, .ref q2, .int mn, .ref q3, .ref q4, .int ct, .int il, .ref q5])), (q1, .inl (cA, (2, .inl sf))), (q2, .inl (cA, (60, .inl lf))), (q3, .inl (cA, (320, .inl rf))), (q4, .inl (cA, (320, .inl nf))), (q5, .inl (cA, (6, .inl gf)))] := hD
      exact g_endMi hx hb hr hlocks hP hS dX2_handle_35 () rfl rfl trivial
    · exact absurd (by decide) c18

abbrev mt_X2_plain_rm : Room := { frames := 5, cells := 0, slots := 0, locals := 130 }
set_option maxHeartbeats 4000000 in
set_option maxRecDepth 100000 in
theorem mt_X2_plain (l : Launch) (dC : Nat → ClassId) (dI : Nat → Nat → Nat) (cA : ClassId) (sz : Nat) (y0 : Nat) (q1 : Nat) (q2 : Nat) (q3 : Nat) (q4 : Nat) (q5 : Nat) (rn : Nat) (tv : Int32) (sf : Nat → Int32) (lf : Nat → Int32) (mn : Int32) (rf : Nat → Int32) (nf : Nat → Int32) (ct : Int32) (il : Int32) (gf : Nat → Int32) (Vw : Nat → List Int32) (w : Nat) (q : Nat) (hW : MW Vw sf lf) (hrn : rn ∈ rnS) (hr6 : rn ≤ 6) (hok : ∀ w, w < 2 → okL rn (Vw w)) (hw : w < 2) (hq : q < 4) : Met l yX2_plain wsX2_plain mt_X2_plain_rm (va_Pc [.ref y0, .int (nI w), .int (nI q)] (gB (dC, dI) [(cA, .int)] [(y0, .inr (2, [.int tv, .int (nI rn), .ref q1, .ref q2, .int mn, .ref q3, .ref q4, .int ct, .int il, .ref q5])), (q1, .inl (cA, (2, .inl sf))), (q2, .inl (cA, (60, .inl lf))), (q3, .inl (cA, (320, .inl rf))), (q4, .inl (cA, (320, .inl nf))), (q5, .inl (cA, (6, .inl gf)))] sz)) (gM (dC, dI) (some (.int (paI (plain (Vw w)) q))) (fun u : Int32 × (Nat → Int32) × (Nat → Int32) × Int32 × Int32 => True) (fun u : Int32 × (Nat → Int32) × (Nat → Int32) × Int32 × Int32 => [(y0, .inr (2, [.int 0, .int (nI rn), .ref q1, .ref q2, .int u.1, .ref q3, .ref q4, .int u.2.2.2.1, .int u.2.2.2.2, .ref q5])), (q1, .inl (cA, (2, .inl sf))), (q2, .inl (cA, (60, .inl lf))), (q3, .inl (cA, (320, .inl u.2.1))), (q4, .inl (cA, (320, .inl u.2.2.1))), (q5, .inl (cA, (6, .inl gf)))]) (va_A [(y0, .inr (2, [.int tv, .int (nI rn), .ref q1, .ref q2, .int mn, .ref q3, .ref q4, .int ct, .int il, .ref q5])), (q1, .inl (cA, (2, .inl sf))), (q2, .inl (cA, (60, .inl lf))), (q3, .inl (cA, (320, .inl rf))), (q4, .inl (cA, (320, .inl nf))), (q5, .inl (cA, (6, .inl gf)))] sz)) 0 0 (va_A [(y0, .inr (2, [.int tv, .int (nI rn), .ref q1, .ref q2, .int mn, .ref q3, .ref q4, .int ct, .int il, .ref q5])), (q1, .inl (cA, (2, .inl sf))), (q2, .inl (cA, (60, .inl lf))), (q3, .inl (cA, (320, .inl rf))), (q4, .inl (cA, (320, .inl nf))), (q5, .inl (cA, (6, .inl gf)))] sz) := by
  refine g_ofM (cc := cX2_plain) (maxL := 3) (ret := (some .int)) (by decide) rfl (Nat.le_of_ble_eq_true rfl) (fun p e s m below meth c ls hx hb hr hml hts hown hlocks hP hK hl hin A hA hD hS => ?_)
  have hl : lv_has ls 3 [(0, .ref y0), (1, .int (nI w)), (2, .int (nI q))] := hl
  refine lv_aload_n hx hb dX2_plain_0 rfl (lv_at hl 0 rfl) ?_
  refine lv_iconst (v := 0) hx hb dX2_plain_1 (by decide) ?_
  refine va_put (D := (dC, dI)) (ci := 2) (v := .int 0) (ty := .int) (C := RX2) (T := TX2) (N := 10) hx hb hts (in_X2_plain_2) tyX2 tyX2_ok nmX2 hown hK hP hD hS 0 rfl rfl 0 (by decide) (hts (.fieldLink RX2 29 "BraidWordsModel" "thrown" "I") (List.mem_of_getElem? (i := 1) rfl)) (fun _ h9 => h9) rfl (by decide +kernel) rfl rfl (Nat.le_of_ble_eq_true rfl) dX2_plain_2 (fun H locs hP hD hS => ?_)
  have hP : va_P (dC, dI) vwCl [(y0, .inr (2, [.int 0, .int (nI rn), .ref q1, .ref q2, .int mn, .ref q3, .ref q4, .int ct, .int il, .ref q5])), (q1, .inl (cA, (2, .inl sf))), (q2, .inl (cA, (60, .inl lf))), (q3, .inl (cA, (320, .inl rf))), (q4, .inl (cA, (320, .inl nf))), (q5, .inl (cA, (6, .inl gf)))] H := hP
  have hD : va_D A [(y0, .inr (2, [.int 0, .int (nI rn), .ref q1, .ref q2, .int mn, .ref q3, .ref q4, .int ct, .int il, .ref q5])), (q1, .inl (cA, (2, .inl sf))), (q2, .inl (cA, (60, .inl lf))), (q3, .inl (cA, (320, .inl rf))), (q4, .inl (cA, (320, .inl nf))), (q5, .inl (cA, (6, .inl gf)))] := hD
  refine lv_iload_n hx hb dX2_plain_5 rfl (lv_at hl 1 rfl) ?_
  refine g_RSi (As := [.int (nI w)]) (rest := []) ⟨hx, hb, hml, hown, hts⟩ (mt_X2_isWord l dC dI cA H.size (nI w)) (va_cwS 1 hts gX2_plain_X2_isWord rfl rfl rfl hdX2_isWord ⟨Nat.le_of_ble_eq_true rfl, Nat.le_of_ble_eq_true rfl⟩) hP hK hD [] (by decide) rfl rfl hl.1 rfl (Nat.le_of_ble_eq_true rfl) dX2_plain_6 (Nat.zero_le _) (Nat.zero_le _) ?_
  rw [show (inI (nI w) 0 1) = 1 from inI_w hw]
  refine lv_if_eq (tgt := 30) hx hb dX2_plain_9 (by decide) (fun c9 => ?_) (fun c9 => ?_)
  · exact absurd c9 (by decide)
  · have c9 : ¬ 1 = 0 := g_eqF 1 0 (by omega) (by omega) c9
    refine lv_iload_n hx hb dX2_plain_12 rfl (lv_at hl 2 rfl) ?_
    refine lv_iconst (v := 0) hx hb dX2_plain_13 (by decide) ?_
    refine lv_iconst (v := 3) hx hb dX2_plain_14 (by decide) ?_
    refine g_RSi (As := [.int (nI q), .int 0, .int 3]) (rest := []) ⟨hx, hb, hml, hown, hts⟩ (mt_X2_isIn l dC dI cA H.size (nI q) 0 3) (va_cwS 3 hts gX2_plain_X2_isIn rfl rfl rfl hdX2_isIn ⟨Nat.le_of_ble_eq_true rfl, Nat.le_of_ble_eq_true rfl⟩) hP hK hD [] (by decide) rfl rfl hl.1 rfl (Nat.le_of_ble_eq_true rfl) dX2_plain_15 (Nat.zero_le _) (Nat.zero_le _) ?_
    rw [show (inI (nI q) 0 3) = 1 from inI_cy (b := 3) (by omega) (by decide)]
    refine lv_if_eq (tgt := 30) hx hb dX2_plain_18 (by decide) (fun c18 => ?_) (fun c18 => ?_)
    · exact absurd c18 (by decide)
    · have c18 : ¬ 1 = 0 := g_eqF 1 0 (by omega) (by omega) c18
      refine lv_aload_n hx hb dX2_plain_21 rfl (lv_at hl 0 rfl) ?_
      refine lv_iload_n hx hb dX2_plain_22 rfl (lv_at hl 1 rfl) ?_
      refine lv_iload_n hx hb dX2_plain_23 rfl (lv_at hl 2 rfl) ?_
      refine g_MVi (As := [.int (nI w), .int (nI q)]) (rest := []) ⟨hx, hb, hml, hown, hts⟩ (mt_X2_plainTold l dC dI cA H.size y0 q1 q2 q3 q4 q5 rn 0 sf lf mn rf nf ct il gf Vw w q hW hrn hr6 hok hw hq) (cwV 2 hts gX2_plain_X2_plainTold rfl rfl rfl hdX2_plainTold ⟨Nat.le_of_ble_eq_true rfl, Nat.le_of_ble_eq_true rfl⟩) hP hK hD hS hA [0, 1, 2, 3, 4, 5] (by decide) rfl (va_recv hK hP (ci := 2) (q0 := 0) rfl rfl) rfl hl.1 rfl (Nat.le_of_ble_eq_true rfl) dX2_plain_24 (Nat.zero_le _) (Nat.zero_le _) (fun u9 => [(y0, .inr (2, [.int 0, .int (nI rn), .ref q1, .ref q2, .int u9.1, .ref q3, .ref q4, .int u9.2.2.2.1, .int u9.2.2.2.2, .ref q5])), (q1, .inl (cA, (2, .inl sf))), (q2, .inl (cA, (60, .inl lf))), (q3, .inl (cA, (320, .inl u9.2.1))), (q4, .inl (cA, (320, .inl u9.2.2.1))), (q5, .inl (cA, (6, .inl gf)))]) (fun _ => rfl) (fun _ => rfl) (fun u H locs hw_6 hP hD hS => ?_)
      obtain ⟨m1_1, r1_2, n1_3, c1_4, i1_5⟩ := u
      have hw_6 : True := hw_6
      have hP : va_P (dC, dI) vwCl [(y0, .inr (2, [.int 0, .int (nI rn), .ref q1, .ref q2, .int m1_1, .ref q3, .ref q4, .int c1_4, .int i1_5, .ref q5])), (q1, .inl (cA, (2, .inl sf))), (q2, .inl (cA, (60, .inl lf))), (q3, .inl (cA, (320, .inl r1_2))), (q4, .inl (cA, (320, .inl n1_3))), (q5, .inl (cA, (6, .inl gf)))] H := hP
      have hD : va_D A [(y0, .inr (2, [.int 0, .int (nI rn), .ref q1, .ref q2, .int m1_1, .ref q3, .ref q4, .int c1_4, .int i1_5, .ref q5])), (q1, .inl (cA, (2, .inl sf))), (q2, .inl (cA, (60, .inl lf))), (q3, .inl (cA, (320, .inl r1_2))), (q4, .inl (cA, (320, .inl n1_3))), (q5, .inl (cA, (6, .inl gf)))] := hD
      refine lv_goto (tgt := 35) hx hb dX2_plain_27 (by decide) ?_
      exact g_endMi hx hb hr hlocks hP hS dX2_plain_35 (m1_1, r1_2, n1_3, c1_4, i1_5) rfl rfl trivial

abbrev mt_X2_plain_1b_rm : Room := { frames := 2, cells := 0, slots := 0, locals := 42 }
set_option maxHeartbeats 4000000 in
set_option maxRecDepth 100000 in
theorem mt_X2_plain_1b (l : Launch) (dC : Nat → ClassId) (dI : Nat → Nat → Nat) (cA : ClassId) (sz : Nat) (y0 : Nat) (q1 : Nat) (q2 : Nat) (q3 : Nat) (q4 : Nat) (q5 : Nat) (rn : Nat) (tv : Int32) (sf : Nat → Int32) (lf : Nat → Int32) (mn : Int32) (rf : Nat → Int32) (nf : Nat → Int32) (ct : Int32) (il : Int32) (gf : Nat → Int32) (w : Nat) (x : Int32) (hw : w < 2) (hbad : x < 0 ∨ nI 4 ≤ x) : Met l yX2_plain wsX2_plain mt_X2_plain_1b_rm (va_Pc [.ref y0, .int (nI w), .int x] (gB (dC, dI) [(cA, .int)] [(y0, .inr (2, [.int tv, .int (nI rn), .ref q1, .ref q2, .int mn, .ref q3, .ref q4, .int ct, .int il, .ref q5])), (q1, .inl (cA, (2, .inl sf))), (q2, .inl (cA, (60, .inl lf))), (q3, .inl (cA, (320, .inl rf))), (q4, .inl (cA, (320, .inl nf))), (q5, .inl (cA, (6, .inl gf)))] sz)) (gM (dC, dI) (some (.int 0)) (fun u : Unit => True) (fun u : Unit => [(y0, .inr (2, [.int 1, .int (nI rn), .ref q1, .ref q2, .int mn, .ref q3, .ref q4, .int ct, .int il, .ref q5])), (q1, .inl (cA, (2, .inl sf))), (q2, .inl (cA, (60, .inl lf))), (q3, .inl (cA, (320, .inl rf))), (q4, .inl (cA, (320, .inl nf))), (q5, .inl (cA, (6, .inl gf)))]) (va_A [(y0, .inr (2, [.int tv, .int (nI rn), .ref q1, .ref q2, .int mn, .ref q3, .ref q4, .int ct, .int il, .ref q5])), (q1, .inl (cA, (2, .inl sf))), (q2, .inl (cA, (60, .inl lf))), (q3, .inl (cA, (320, .inl rf))), (q4, .inl (cA, (320, .inl nf))), (q5, .inl (cA, (6, .inl gf)))] sz)) 0 0 (va_A [(y0, .inr (2, [.int tv, .int (nI rn), .ref q1, .ref q2, .int mn, .ref q3, .ref q4, .int ct, .int il, .ref q5])), (q1, .inl (cA, (2, .inl sf))), (q2, .inl (cA, (60, .inl lf))), (q3, .inl (cA, (320, .inl rf))), (q4, .inl (cA, (320, .inl nf))), (q5, .inl (cA, (6, .inl gf)))] sz) := by
  refine g_ofM (cc := cX2_plain) (maxL := 3) (ret := (some .int)) (by decide) rfl (Nat.le_of_ble_eq_true rfl) (fun p e s m below meth c ls hx hb hr hml hts hown hlocks hP hK hl hin A hA hD hS => ?_)
  have hl : lv_has ls 3 [(0, .ref y0), (1, .int (nI w)), (2, .int x)] := hl
  refine lv_aload_n hx hb dX2_plain_0 rfl (lv_at hl 0 rfl) ?_
  refine lv_iconst (v := 0) hx hb dX2_plain_1 (by decide) ?_
  refine va_put (D := (dC, dI)) (ci := 2) (v := .int 0) (ty := .int) (C := RX2) (T := TX2) (N := 10) hx hb hts (in_X2_plain_2) tyX2 tyX2_ok nmX2 hown hK hP hD hS 0 rfl rfl 0 (by decide) (hts (.fieldLink RX2 29 "BraidWordsModel" "thrown" "I") (List.mem_of_getElem? (i := 1) rfl)) (fun _ h9 => h9) rfl (by decide +kernel) rfl rfl (Nat.le_of_ble_eq_true rfl) dX2_plain_2 (fun H locs hP hD hS => ?_)
  have hP : va_P (dC, dI) vwCl [(y0, .inr (2, [.int 0, .int (nI rn), .ref q1, .ref q2, .int mn, .ref q3, .ref q4, .int ct, .int il, .ref q5])), (q1, .inl (cA, (2, .inl sf))), (q2, .inl (cA, (60, .inl lf))), (q3, .inl (cA, (320, .inl rf))), (q4, .inl (cA, (320, .inl nf))), (q5, .inl (cA, (6, .inl gf)))] H := hP
  have hD : va_D A [(y0, .inr (2, [.int 0, .int (nI rn), .ref q1, .ref q2, .int mn, .ref q3, .ref q4, .int ct, .int il, .ref q5])), (q1, .inl (cA, (2, .inl sf))), (q2, .inl (cA, (60, .inl lf))), (q3, .inl (cA, (320, .inl rf))), (q4, .inl (cA, (320, .inl nf))), (q5, .inl (cA, (6, .inl gf)))] := hD
  refine lv_iload_n hx hb dX2_plain_5 rfl (lv_at hl 1 rfl) ?_
  refine g_RSi (As := [.int (nI w)]) (rest := []) ⟨hx, hb, hml, hown, hts⟩ (mt_X2_isWord l dC dI cA H.size (nI w)) (va_cwS 1 hts gX2_plain_X2_isWord rfl rfl rfl hdX2_isWord ⟨Nat.le_of_ble_eq_true rfl, Nat.le_of_ble_eq_true rfl⟩) hP hK hD [] (by decide) rfl rfl hl.1 rfl (Nat.le_of_ble_eq_true rfl) dX2_plain_6 (Nat.zero_le _) (Nat.zero_le _) ?_
  rw [show (inI (nI w) 0 1) = 1 from inI_w hw]
  refine lv_if_eq (tgt := 30) hx hb dX2_plain_9 (by decide) (fun c9 => ?_) (fun c9 => ?_)
  · exact absurd c9 (by decide)
  · have c9 : ¬ 1 = 0 := g_eqF 1 0 (by omega) (by omega) c9
    refine lv_iload_n hx hb dX2_plain_12 rfl (lv_at hl 2 rfl) ?_
    refine lv_iconst (v := 0) hx hb dX2_plain_13 (by decide) ?_
    refine lv_iconst (v := 3) hx hb dX2_plain_14 (by decide) ?_
    refine g_RSi (As := [.int x, .int 0, .int 3]) (rest := []) ⟨hx, hb, hml, hown, hts⟩ (mt_X2_isIn l dC dI cA H.size x 0 3) (va_cwS 3 hts gX2_plain_X2_isIn rfl rfl rfl hdX2_isIn ⟨Nat.le_of_ble_eq_true rfl, Nat.le_of_ble_eq_true rfl⟩) hP hK hD [] (by decide) rfl rfl hl.1 rfl (Nat.le_of_ble_eq_true rfl) dX2_plain_15 (Nat.zero_le _) (Nat.zero_le _) ?_
    rw [show (inI x 0 3) = 0 from inI_c (b := 3) hbad (by decide)]
    refine lv_if_eq (tgt := 30) hx hb dX2_plain_18 (by decide) (fun c18 => ?_) (fun c18 => ?_)
    · have c18 : 0 = 0 := g_eqT 0 0 (by omega) (by omega) c18
      refine lv_aload_n hx hb dX2_plain_30 rfl (lv_at hl 0 rfl) ?_
      refine lv_iconst (v := 1) hx hb dX2_plain_31 (by decide) ?_
      refine g_MVi (As := [.int 1]) (rest := []) ⟨hx, hb, hml, hown, hts⟩ (mt_X2_no l dC dI cA H.size y0 q1 q2 q3 q4 q5 rn 0 sf lf mn rf nf ct il gf 1) (cwV 1 hts gX2_plain_X2_no rfl rfl rfl hdX2_no ⟨Nat.le_of_ble_eq_true rfl, Nat.le_of_ble_eq_true rfl⟩) hP hK hD hS hA [0, 1, 2, 3, 4, 5] (by decide) rfl (va_recv hK hP (ci := 2) (q0 := 0) rfl rfl) rfl hl.1 rfl (Nat.le_of_ble_eq_true rfl) dX2_plain_32 (Nat.zero_le _) (Nat.zero_le _) (fun u9 => [(y0, .inr (2, [.int 1, .int (nI rn), .ref q1, .ref q2, .int mn, .ref q3, .ref q4, .int ct, .int il, .ref q5])), (q1, .inl (cA, (2, .inl sf))), (q2, .inl (cA, (60, .inl lf))), (q3, .inl (cA, (320, .inl rf))), (q4, .inl (cA, (320, .inl nf))), (q5, .inl (cA, (6, .inl gf)))]) (fun _ => rfl) (fun _ => rfl) (fun u H locs hw_1 hP hD hS => ?_)
      have hw_1 : True := hw_1
      have hP : va_P (dC, dI) vwCl [(y0, .inr (2, [.int 1, .int (nI rn), .ref q1, .ref q2, .int mn, .ref q3, .ref q4, .int ct, .int il, .ref q5])), (q1, .inl (cA, (2, .inl sf))), (q2, .inl (cA, (60, .inl lf))), (q3, .inl (cA, (320, .inl rf))), (q4, .inl (cA, (320, .inl nf))), (q5, .inl (cA, (6, .inl gf)))] H := hP
      have hD : va_D A [(y0, .inr (2, [.int 1, .int (nI rn), .ref q1, .ref q2, .int mn, .ref q3, .ref q4, .int ct, .int il, .ref q5])), (q1, .inl (cA, (2, .inl sf))), (q2, .inl (cA, (60, .inl lf))), (q3, .inl (cA, (320, .inl rf))), (q4, .inl (cA, (320, .inl nf))), (q5, .inl (cA, (6, .inl gf)))] := hD
      exact g_endMi hx hb hr hlocks hP hS dX2_plain_35 () rfl rfl trivial
    · exact absurd (by decide) c18

abbrev mt_X2_same_rm : Room := { frames := 5, cells := 0, slots := 0, locals := 128 }
set_option maxHeartbeats 4000000 in
set_option maxRecDepth 100000 in
theorem mt_X2_same (l : Launch) (dC : Nat → ClassId) (dI : Nat → Nat → Nat) (cA : ClassId) (sz : Nat) (y0 : Nat) (q1 : Nat) (q2 : Nat) (q3 : Nat) (q4 : Nat) (q5 : Nat) (rn : Nat) (tv : Int32) (sf : Nat → Int32) (lf : Nat → Int32) (mn : Int32) (rf : Nat → Int32) (nf : Nat → Int32) (ct : Int32) (il : Int32) (gf : Nat → Int32) (Vw : Nat → List Int32) (hW : MW Vw sf lf) (hrn : rn ∈ rnS) (hr6 : rn ≤ 6) (hok : ∀ w, w < 2 → okL rn (Vw w)) : Met l yX2_same wsX2_same mt_X2_same_rm (va_Pc [.ref y0] (gB (dC, dI) [(cA, .int)] [(y0, .inr (2, [.int tv, .int (nI rn), .ref q1, .ref q2, .int mn, .ref q3, .ref q4, .int ct, .int il, .ref q5])), (q1, .inl (cA, (2, .inl sf))), (q2, .inl (cA, (60, .inl lf))), (q3, .inl (cA, (320, .inl rf))), (q4, .inl (cA, (320, .inl nf))), (q5, .inl (cA, (6, .inl gf)))] sz)) (gM (dC, dI) (some (.int (saI (plain (turnL (Vw 0) ++ Vw 1))))) (fun u : Int32 × (Nat → Int32) × (Nat → Int32) × Int32 × Int32 => True) (fun u : Int32 × (Nat → Int32) × (Nat → Int32) × Int32 × Int32 => [(y0, .inr (2, [.int 0, .int (nI rn), .ref q1, .ref q2, .int u.1, .ref q3, .ref q4, .int u.2.2.2.1, .int u.2.2.2.2, .ref q5])), (q1, .inl (cA, (2, .inl sf))), (q2, .inl (cA, (60, .inl lf))), (q3, .inl (cA, (320, .inl u.2.1))), (q4, .inl (cA, (320, .inl u.2.2.1))), (q5, .inl (cA, (6, .inl gf)))]) (va_A [(y0, .inr (2, [.int tv, .int (nI rn), .ref q1, .ref q2, .int mn, .ref q3, .ref q4, .int ct, .int il, .ref q5])), (q1, .inl (cA, (2, .inl sf))), (q2, .inl (cA, (60, .inl lf))), (q3, .inl (cA, (320, .inl rf))), (q4, .inl (cA, (320, .inl nf))), (q5, .inl (cA, (6, .inl gf)))] sz)) 0 0 (va_A [(y0, .inr (2, [.int tv, .int (nI rn), .ref q1, .ref q2, .int mn, .ref q3, .ref q4, .int ct, .int il, .ref q5])), (q1, .inl (cA, (2, .inl sf))), (q2, .inl (cA, (60, .inl lf))), (q3, .inl (cA, (320, .inl rf))), (q4, .inl (cA, (320, .inl nf))), (q5, .inl (cA, (6, .inl gf)))] sz) := by
  refine g_ofM (cc := cX2_same) (maxL := 1) (ret := (some .int)) (by decide) rfl (Nat.le_of_ble_eq_true rfl) (fun p e s m below meth c ls hx hb hr hml hts hown hlocks hP hK hl hin A hA hD hS => ?_)
  have hl : lv_has ls 1 [(0, .ref y0)] := hl
  refine lv_aload_n hx hb dX2_same_0 rfl (lv_at hl 0 rfl) ?_
  refine lv_iconst (v := 0) hx hb dX2_same_1 (by decide) ?_
  refine va_put (D := (dC, dI)) (ci := 2) (v := .int 0) (ty := .int) (C := RX2) (T := TX2) (N := 10) hx hb hts (in_X2_same_2) tyX2 tyX2_ok nmX2 hown hK hP hD hS 0 rfl rfl 0 (by decide) (hts (.fieldLink RX2 29 "BraidWordsModel" "thrown" "I") (List.mem_of_getElem? (i := 1) rfl)) (fun _ h9 => h9) rfl (by decide +kernel) rfl rfl (Nat.le_of_ble_eq_true rfl) dX2_same_2 (fun H locs hP hD hS => ?_)
  have hP : va_P (dC, dI) vwCl [(y0, .inr (2, [.int 0, .int (nI rn), .ref q1, .ref q2, .int mn, .ref q3, .ref q4, .int ct, .int il, .ref q5])), (q1, .inl (cA, (2, .inl sf))), (q2, .inl (cA, (60, .inl lf))), (q3, .inl (cA, (320, .inl rf))), (q4, .inl (cA, (320, .inl nf))), (q5, .inl (cA, (6, .inl gf)))] H := hP
  have hD : va_D A [(y0, .inr (2, [.int 0, .int (nI rn), .ref q1, .ref q2, .int mn, .ref q3, .ref q4, .int ct, .int il, .ref q5])), (q1, .inl (cA, (2, .inl sf))), (q2, .inl (cA, (60, .inl lf))), (q3, .inl (cA, (320, .inl rf))), (q4, .inl (cA, (320, .inl nf))), (q5, .inl (cA, (6, .inl gf)))] := hD
  refine lv_aload_n hx hb dX2_same_5 rfl (lv_at hl 0 rfl) ?_
  refine g_MVi (As := []) (rest := []) ⟨hx, hb, hml, hown, hts⟩ (mt_X2_sameTold l dC dI cA H.size y0 q1 q2 q3 q4 q5 rn 0 sf lf mn rf nf ct il gf Vw hW hrn hr6 hok) (cwV 0 hts gX2_same_X2_sameTold rfl rfl rfl hdX2_sameTold ⟨Nat.le_of_ble_eq_true rfl, Nat.le_of_ble_eq_true rfl⟩) hP hK hD hS hA [0, 1, 2, 3, 4, 5] (by decide) rfl (va_recv hK hP (ci := 2) (q0 := 0) rfl rfl) rfl hl.1 rfl (Nat.le_of_ble_eq_true rfl) dX2_same_6 (Nat.zero_le _) (Nat.zero_le _) (fun u9 => [(y0, .inr (2, [.int 0, .int (nI rn), .ref q1, .ref q2, .int u9.1, .ref q3, .ref q4, .int u9.2.2.2.1, .int u9.2.2.2.2, .ref q5])), (q1, .inl (cA, (2, .inl sf))), (q2, .inl (cA, (60, .inl lf))), (q3, .inl (cA, (320, .inl u9.2.1))), (q4, .inl (cA, (320, .inl u9.2.2.1))), (q5, .inl (cA, (6, .inl gf)))]) (fun _ => rfl) (fun _ => rfl) (fun u H locs hw_6 hP hD hS => ?_)
  obtain ⟨m1_1, r1_2, n1_3, c1_4, i1_5⟩ := u
  have hw_6 : True := hw_6
  have hP : va_P (dC, dI) vwCl [(y0, .inr (2, [.int 0, .int (nI rn), .ref q1, .ref q2, .int m1_1, .ref q3, .ref q4, .int c1_4, .int i1_5, .ref q5])), (q1, .inl (cA, (2, .inl sf))), (q2, .inl (cA, (60, .inl lf))), (q3, .inl (cA, (320, .inl r1_2))), (q4, .inl (cA, (320, .inl n1_3))), (q5, .inl (cA, (6, .inl gf)))] H := hP
  have hD : va_D A [(y0, .inr (2, [.int 0, .int (nI rn), .ref q1, .ref q2, .int m1_1, .ref q3, .ref q4, .int c1_4, .int i1_5, .ref q5])), (q1, .inl (cA, (2, .inl sf))), (q2, .inl (cA, (60, .inl lf))), (q3, .inl (cA, (320, .inl r1_2))), (q4, .inl (cA, (320, .inl n1_3))), (q5, .inl (cA, (6, .inl gf)))] := hD
  exact g_endMi hx hb hr hlocks hP hS dX2_same_9 (m1_1, r1_2, n1_3, c1_4, i1_5) rfl rfl trivial

abbrev mt_X2_ahead_rm : Room := { frames := 5, cells := 0, slots := 0, locals := 128 }
set_option maxHeartbeats 4000000 in
set_option maxRecDepth 100000 in
theorem mt_X2_ahead (l : Launch) (dC : Nat → ClassId) (dI : Nat → Nat → Nat) (cA : ClassId) (sz : Nat) (y0 : Nat) (q1 : Nat) (q2 : Nat) (q3 : Nat) (q4 : Nat) (q5 : Nat) (rn : Nat) (tv : Int32) (sf : Nat → Int32) (lf : Nat → Int32) (mn : Int32) (rf : Nat → Int32) (nf : Nat → Int32) (ct : Int32) (il : Int32) (gf : Nat → Int32) (Vw : Nat → List Int32) (hW : MW Vw sf lf) (hrn : rn ∈ rnS) (hr6 : rn ≤ 6) (hok : ∀ w, w < 2 → okL rn (Vw w)) : Met l yX2_ahead wsX2_ahead mt_X2_ahead_rm (va_Pc [.ref y0] (gB (dC, dI) [(cA, .int)] [(y0, .inr (2, [.int tv, .int (nI rn), .ref q1, .ref q2, .int mn, .ref q3, .ref q4, .int ct, .int il, .ref q5])), (q1, .inl (cA, (2, .inl sf))), (q2, .inl (cA, (60, .inl lf))), (q3, .inl (cA, (320, .inl rf))), (q4, .inl (cA, (320, .inl nf))), (q5, .inl (cA, (6, .inl gf)))] sz)) (gM (dC, dI) (some (.int (paI (plain (turnL (Vw 0) ++ Vw 1)) 2))) (fun u : Int32 × (Nat → Int32) × (Nat → Int32) × Int32 × Int32 => True) (fun u : Int32 × (Nat → Int32) × (Nat → Int32) × Int32 × Int32 => [(y0, .inr (2, [.int 0, .int (nI rn), .ref q1, .ref q2, .int u.1, .ref q3, .ref q4, .int u.2.2.2.1, .int u.2.2.2.2, .ref q5])), (q1, .inl (cA, (2, .inl sf))), (q2, .inl (cA, (60, .inl lf))), (q3, .inl (cA, (320, .inl u.2.1))), (q4, .inl (cA, (320, .inl u.2.2.1))), (q5, .inl (cA, (6, .inl gf)))]) (va_A [(y0, .inr (2, [.int tv, .int (nI rn), .ref q1, .ref q2, .int mn, .ref q3, .ref q4, .int ct, .int il, .ref q5])), (q1, .inl (cA, (2, .inl sf))), (q2, .inl (cA, (60, .inl lf))), (q3, .inl (cA, (320, .inl rf))), (q4, .inl (cA, (320, .inl nf))), (q5, .inl (cA, (6, .inl gf)))] sz)) 0 0 (va_A [(y0, .inr (2, [.int tv, .int (nI rn), .ref q1, .ref q2, .int mn, .ref q3, .ref q4, .int ct, .int il, .ref q5])), (q1, .inl (cA, (2, .inl sf))), (q2, .inl (cA, (60, .inl lf))), (q3, .inl (cA, (320, .inl rf))), (q4, .inl (cA, (320, .inl nf))), (q5, .inl (cA, (6, .inl gf)))] sz) := by
  refine g_ofM (cc := cX2_ahead) (maxL := 1) (ret := (some .int)) (by decide) rfl (Nat.le_of_ble_eq_true rfl) (fun p e s m below meth c ls hx hb hr hml hts hown hlocks hP hK hl hin A hA hD hS => ?_)
  have hl : lv_has ls 1 [(0, .ref y0)] := hl
  refine lv_aload_n hx hb dX2_ahead_0 rfl (lv_at hl 0 rfl) ?_
  refine lv_iconst (v := 0) hx hb dX2_ahead_1 (by decide) ?_
  refine va_put (D := (dC, dI)) (ci := 2) (v := .int 0) (ty := .int) (C := RX2) (T := TX2) (N := 10) hx hb hts (in_X2_ahead_2) tyX2 tyX2_ok nmX2 hown hK hP hD hS 0 rfl rfl 0 (by decide) (hts (.fieldLink RX2 29 "BraidWordsModel" "thrown" "I") (List.mem_of_getElem? (i := 1) rfl)) (fun _ h9 => h9) rfl (by decide +kernel) rfl rfl (Nat.le_of_ble_eq_true rfl) dX2_ahead_2 (fun H locs hP hD hS => ?_)
  have hP : va_P (dC, dI) vwCl [(y0, .inr (2, [.int 0, .int (nI rn), .ref q1, .ref q2, .int mn, .ref q3, .ref q4, .int ct, .int il, .ref q5])), (q1, .inl (cA, (2, .inl sf))), (q2, .inl (cA, (60, .inl lf))), (q3, .inl (cA, (320, .inl rf))), (q4, .inl (cA, (320, .inl nf))), (q5, .inl (cA, (6, .inl gf)))] H := hP
  have hD : va_D A [(y0, .inr (2, [.int 0, .int (nI rn), .ref q1, .ref q2, .int mn, .ref q3, .ref q4, .int ct, .int il, .ref q5])), (q1, .inl (cA, (2, .inl sf))), (q2, .inl (cA, (60, .inl lf))), (q3, .inl (cA, (320, .inl rf))), (q4, .inl (cA, (320, .inl nf))), (q5, .inl (cA, (6, .inl gf)))] := hD
  refine lv_aload_n hx hb dX2_ahead_5 rfl (lv_at hl 0 rfl) ?_
  refine g_MVi (As := []) (rest := []) ⟨hx, hb, hml, hown, hts⟩ (mt_X2_aheadTold l dC dI cA H.size y0 q1 q2 q3 q4 q5 rn 0 sf lf mn rf nf ct il gf Vw hW hrn hr6 hok) (cwV 0 hts gX2_ahead_X2_aheadTold rfl rfl rfl hdX2_aheadTold ⟨Nat.le_of_ble_eq_true rfl, Nat.le_of_ble_eq_true rfl⟩) hP hK hD hS hA [0, 1, 2, 3, 4, 5] (by decide) rfl (va_recv hK hP (ci := 2) (q0 := 0) rfl rfl) rfl hl.1 rfl (Nat.le_of_ble_eq_true rfl) dX2_ahead_6 (Nat.zero_le _) (Nat.zero_le _) (fun u9 => [(y0, .inr (2, [.int 0, .int (nI rn), .ref q1, .ref q2, .int u9.1, .ref q3, .ref q4, .int u9.2.2.2.1, .int u9.2.2.2.2, .ref q5])), (q1, .inl (cA, (2, .inl sf))), (q2, .inl (cA, (60, .inl lf))), (q3, .inl (cA, (320, .inl u9.2.1))), (q4, .inl (cA, (320, .inl u9.2.2.1))), (q5, .inl (cA, (6, .inl gf)))]) (fun _ => rfl) (fun _ => rfl) (fun u H locs hw_6 hP hD hS => ?_)
  obtain ⟨m1_1, r1_2, n1_3, c1_4, i1_5⟩ := u
  have hw_6 : True := hw_6
  have hP : va_P (dC, dI) vwCl [(y0, .inr (2, [.int 0, .int (nI rn), .ref q1, .ref q2, .int m1_1, .ref q3, .ref q4, .int c1_4, .int i1_5, .ref q5])), (q1, .inl (cA, (2, .inl sf))), (q2, .inl (cA, (60, .inl lf))), (q3, .inl (cA, (320, .inl r1_2))), (q4, .inl (cA, (320, .inl n1_3))), (q5, .inl (cA, (6, .inl gf)))] H := hP
  have hD : va_D A [(y0, .inr (2, [.int 0, .int (nI rn), .ref q1, .ref q2, .int m1_1, .ref q3, .ref q4, .int c1_4, .int i1_5, .ref q5])), (q1, .inl (cA, (2, .inl sf))), (q2, .inl (cA, (60, .inl lf))), (q3, .inl (cA, (320, .inl r1_2))), (q4, .inl (cA, (320, .inl n1_3))), (q5, .inl (cA, (6, .inl gf)))] := hD
  exact g_endMi hx hb hr hlocks hP hS dX2_ahead_9 (m1_1, r1_2, n1_3, c1_4, i1_5) rfl rfl trivial
