/-! 25: where ropes end, how often two cross, the signs of all letters: all three are the braid's own -/
def pls : List Int32 := [0, 1, 2, 3, 4, 5]
/-- what a letter adds to the crossings of two ropes -/
def prD (x p q : Int32) : Int32 := if ¬ plB x p = p ∧ ¬ plB x q = q then sgI x else 0
def prA (x : Int32) (s : Int32 × Int32 × Int32) : Int32 × Int32 × Int32 := (plB x s.1, plB x s.2.1, s.2.2 + prD x s.1 s.2.1)
def okP (s : Int32 × Int32 × Int32) : Prop := s.1 ∈ pls ∧ s.2.1 ∈ pls
theorem pr_in : ∀ x ∈ okList, ∀ p ∈ pls, plB x p ∈ pls := by decide +kernel
theorem pr_back : ∀ x ∈ okList, ∀ p ∈ pls, plB (-x) (plB x p) = p := by decide +kernel
theorem pr_back2 : ∀ x ∈ okList, ∀ p ∈ pls, ∀ q ∈ pls, prD x p q + prD (-x) (plB x p) (plB x q) = 0 := by decide +kernel
theorem pr_far : ∀ x ∈ okList, ∀ y ∈ okList, farI x y → ∀ p ∈ pls, plB x (plB y p) = plB y (plB x p) := by unfold farI; decide +kernel
theorem pr_far2 : ∀ x ∈ okList, ∀ y ∈ okList, farI x y → ∀ p ∈ pls, ∀ q ∈ pls, prD y p q + prD x (plB y p) (plB y q) = prD x p q + prD y (plB x p) (plB x q) := by unfold farI; decide +kernel
theorem pr_near : ∀ x ∈ okList, ∀ y ∈ okList, nearI x y → ∀ p ∈ pls, plB x (plB y (plB x p)) = plB y (plB x (plB y p)) := by unfold nearI; decide +kernel
theorem pr_near2 : ∀ x ∈ okList, ∀ y ∈ okList, nearI x y → ∀ p ∈ pls, ∀ q ∈ pls, prD x p q + (prD y (plB x p) (plB x q) + prD x (plB y (plB x p)) (plB y (plB x q))) = prD y p q + (prD x (plB y p) (plB y q) + prD y (plB x (plB y p)) (plB x (plB y q))) := by unfold nearI; decide +kernel
theorem pr_rep : REP prA okP := by
  refine ⟨fun x hx s hs => ⟨pr_in x hx _ hs.1, pr_in x hx _ hs.2⟩, fun x hx s hs => ?_, fun x hx y hy hf s hs => ?_, fun x hx y hy hn s hs => ?_⟩
  · refine Prod.ext (pr_back x hx _ hs.1) (Prod.ext (pr_back x hx _ hs.2) ?_)
    show s.2.2 + prD x s.1 s.2.1 + prD (-x) (plB x s.1) (plB x s.2.1) = s.2.2
    rw [Int32.add_assoc, pr_back2 x hx _ hs.1 _ hs.2, Int32.add_zero]
  · refine Prod.ext (pr_far x hx y hy hf _ hs.1) (Prod.ext (pr_far x hx y hy hf _ hs.2) ?_)
    show s.2.2 + prD y s.1 s.2.1 + prD x (plB y s.1) (plB y s.2.1) = s.2.2 + prD x s.1 s.2.1 + prD y (plB x s.1) (plB x s.2.1)
    rw [Int32.add_assoc, Int32.add_assoc, pr_far2 x hx y hy hf _ hs.1 _ hs.2]
  · refine Prod.ext (pr_near x hx y hy hn _ hs.1) (Prod.ext (pr_near x hx y hy hn _ hs.2) ?_)
    show s.2.2 + prD x s.1 s.2.1 + prD y (plB x s.1) (plB x s.2.1) + prD x (plB y (plB x s.1)) (plB y (plB x s.2.1)) = s.2.2 + prD y s.1 s.2.1 + prD x (plB y s.1) (plB y s.2.1) + prD y (plB x (plB y s.1)) (plB x (plB y s.2.1))
    rw [Int32.add_assoc, Int32.add_assoc, Int32.add_assoc, Int32.add_assoc, pr_near2 x hx y hy hn _ hs.1 _ hs.2]
theorem pr_fo {L : List Int32} {a b : Int32} : ∀ {k : Nat}, k ≤ L.length → foS prA (L.take k) (a, b, 0) = (plE L a k, plE L b k, crS L a b k)
  | 0, _ => rfl
  | k + 1, h => by
    rw [foS_take (by omega), pr_fo (k := k) (by omega)]
    rfl
theorem pr_all {L : List Int32} {a b : Int32} : foS prA L (a, b, 0) = (plE L a L.length, plE L b L.length, crS L a b L.length) := by
  have h := pr_fo (L := L) (a := a) (b := b) (Nat.le_refl _)
  rw [List.take_length] at h
  exact h
theorem pl_in {r : Nat} (h : r < 6) : nI r ∈ pls := by
  obtain rfl | rfl | rfl | rfl | rfl | rfl : r = 0 ∨ r = 1 ∨ r = 2 ∨ r = 3 ∨ r = 4 ∨ r = 5 := by omega
  all_goals decide +kernel
/-- the same braid: the same ends, the same crossings -/
theorem pr_same {L M : List Int32} (he : EQ prA okP L M) {r o : Nat} (hr : r < 6) (ho : o < 6) : plE L (nI r) L.length = plE M (nI r) M.length ∧ crS L (nI r) (nI o) L.length = crS M (nI r) (nI o) M.length := by
  have h := he (nI r, nI o, 0) ⟨pl_in hr, pl_in ho⟩
  rw [pr_all, pr_all] at h
  have h1 := congrArg Prod.fst h
  have h2 := congrArg (fun z => z.2.2) h
  exact ⟨h1, h2⟩
/-- signs added -/
def smA (x s : Int32) : Int32 := s + sgI x
theorem sm_back : ∀ x ∈ okList, sgI x + sgI (-x) = 0 := by decide +kernel
theorem sm_rep : REP smA (fun _ => True) := by
  refine ⟨fun _ _ _ _ => trivial, fun x hx s _ => ?_, fun x hx y hy _ s _ => ?_, fun x hx y hy hn s _ => ?_⟩
  · show s + sgI x + sgI (-x) = s
    rw [Int32.add_assoc, sm_back x hx, Int32.add_zero]
  · show s + sgI y + sgI x = s + sgI x + sgI y
    rw [Int32.add_assoc, Int32.add_comm (sgI y), ← Int32.add_assoc]
  · show s + sgI x + sgI y + sgI x = s + sgI y + sgI x + sgI y
    rw [hn.1]
theorem sm_fo {L : List Int32} : ∀ {k : Nat}, k ≤ L.length → foS smA (L.take k) 0 = accL L sgI k
  | 0, _ => rfl
  | k + 1, h => by
    rw [foS_take (by omega), sm_fo (k := k) (by omega)]
    rfl
theorem sm_all {L : List Int32} : foS smA L 0 = accL L sgI L.length := by
  have h := sm_fo (L := L) (Nat.le_refl _)
  rw [List.take_length] at h
  exact h
theorem sm_plain {L : List Int32} {z : Nat × List Int32} (hL : okW L) (hz : plain L = some z) : accL L sgI L.length = accL z.2 sgI z.2.length := by
  have h := (plain_eq sm_rep hL hz).2.1 0 trivial
  rw [sm_all, sm_all] at h
  exact h
/-- an empty plain form of both: the same ends and crossings -/
theorem same_ends {L M : List Int32} (hL : okW L) (hM : okW M) {z : Nat × List Int32} (hz : plain (turnL L ++ M) = some z) (h0 : z.2.length = 0) {r o : Nat} (hr : r < 6) (ho : o < 6) : plE L (nI r) L.length = plE M (nI r) M.length ∧ crS L (nI r) (nI o) L.length = crS M (nI r) (nI o) M.length := by
  have h1 := (plain_eq pr_rep (okW_app (okW_turn hL) hM) hz).2.1
  rw [List.length_eq_zero_iff.mp h0] at h1
  -- L ~ L ++ (turn L ++ M) ~ M
  have h2 : EQ prA okP (L ++ (turnL L ++ M)) (L ++ []) := EQ_app pr_rep hL EQ_rf h1
  have h3 : EQ prA okP (L ++ turnL L ++ M) ([] ++ M) := EQ_app pr_rep (okW_app hL (okW_turn hL)) (EQ_turn1 pr_rep hL) EQ_rf
  rw [List.append_nil] at h2
  rw [List.append_assoc] at h3
  exact pr_same (EQ_tr (EQ_sy h2) h3) hr ho
/-- a sum of signs, as a whole number -/
def siN (L : List Int32) : Nat → Int
  | 0 => 0
  | k + 1 => siN L k + (sgI (atL L k)).toInt
theorem okx_si : ∀ x ∈ okList, (sgI x).toInt = 1 ∨ (sgI x).toInt = -1 := by decide +kernel
theorem siN_le {L : List Int32} (hL : okW L) : ∀ {k : Nat}, k ≤ L.length → (-(k : Int) ≤ siN L k ∧ siN L k ≤ k) ∧ (siN L k - k) % 2 = 0
  | 0, _ => by
    show (-((0 : Nat) : Int) ≤ 0 ∧ (0 : Int) ≤ ((0 : Nat) : Int)) ∧ ((0 : Int) - ((0 : Nat) : Int)) % 2 = 0
    omega
  | k + 1, h => by
    obtain ⟨⟨h1, h2⟩, h3⟩ := siN_le hL (k := k) (by omega)
    have h4 := okx_si _ (okW_at hL (show k < L.length by omega))
    show (-((k + 1 : Nat) : Int) ≤ siN L k + (sgI (atL L k)).toInt ∧ siN L k + (sgI (atL L k)).toInt ≤ ((k + 1 : Nat) : Int)) ∧ (siN L k + (sgI (atL L k)).toInt - ((k + 1 : Nat) : Int)) % 2 = 0
    omega
theorem siN_acc {L : List Int32} (hL : okW L) (hn : L.length ≤ 1000) : ∀ {k : Nat}, k ≤ L.length → (accL L sgI k).toInt = siN L k
  | 0, _ => by
    show (0 : Int32).toInt = 0
    decide
  | k + 1, h => by
    have ih := siN_acc hL hn (k := k) (by omega)
    obtain ⟨⟨h1, h2⟩, -⟩ := siN_le hL (k := k) (by omega)
    have h4 := okx_si _ (okW_at hL (show k < L.length by omega))
    show (accL L sgI k + sgI (atL L k)).toInt = siN L k + (sgI (atL L k)).toInt
    rw [Jvm.Kit.i32_add (by rw [ih]; omega) (by rw [ih]; omega), ih]
