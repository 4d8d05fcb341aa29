/-! 81: what the law asks of one word, of its handle and its plain form; of both; of a word before and behind a move -/
theorem siR {L : List Int32} (hL : okW L) (hn : L.length ≤ 1000) : ∃ k, k ≤ L.length ∧ (L.length - k) % 2 = 0 ∧ (accL L sgI L.length = nI k ∨ accL L sgI L.length = -nI k) := by
  have h1 := siN_acc hL hn (Nat.le_refl _)
  obtain ⟨⟨h2, h3⟩, h4⟩ := siN_le hL (Nat.le_refl L.length)
  refine ⟨(siN L L.length).natAbs, by omega, by omega, ?_⟩
  rcases Int.le_total 0 (siN L L.length) with c | c
  · left
    refine Int32.toInt_inj.mp ?_
    rw [h1, nI_toInt (by omega)]
    omega
  · right
    refine Int32.toInt_inj.mp ?_
    rw [h1, Jvm.Kit.i32_neg (by rw [nI_toInt (by omega)]; omega), nI_toInt (by omega)]
    omega
theorem abk : ∀ k, k < 128 → abI (nI k) = nI k ∧ abI (-nI k) = nI k := by decide +kernel
theorem ev1 : ∀ n, n < 31 → ∀ k, k ≤ n → (n - k) % 2 = 0 → (nI k - nI n) - (nI k - nI n) / 2 * 2 = 0 ∧ (-nI k - nI n) - (-nI k - nI n) / 2 * 2 = 0 := by decide +kernel
theorem ev2 : ∀ p, p < 101 → ∀ k, k < 31 → k ≤ p → (p - k) % 2 = 0 → (nI p - nI k) - (nI p - nI k) / 2 * 2 = 0 ∧ (nI p - -nI k) - (nI p - -nI k) / 2 * 2 = 0 := by decide +kernel
/-- the signs of a word, beside its length -/
theorem fS {L : List Int32} (hL : okW L) (hn : L.length ≤ 30) : ¬ nI L.length < abI (accL L sgI L.length) ∧ (accL L sgI L.length - nI L.length) - (accL L sgI L.length - nI L.length) / 2 * 2 = 0 := by
  obtain ⟨k, h1, h2, h3⟩ := siR hL (by omega)
  obtain ⟨a1, a2⟩ := abk k (by omega)
  obtain ⟨e1, e2⟩ := ev1 L.length (by omega) k h1 h2
  rcases h3 with h | h
  · rw [h, a1]; exact ⟨nI_nlt h1 (by omega), e1⟩
  · rw [h, a2]; exact ⟨nI_nlt h1 (by omega), e2⟩
theorem haNo {L : List Int32} (h : enF L 0 = none) : haL L 0 = -1 ∧ haL L 1 = -1 ∧ haL L 2 = 0 := ha_no h
/-- the handle's numbers -/
theorem fH {L : List Int32} (hn : L.length ≤ 30) : (0 ≤ haL L 0 ↔ 0 ≤ haL L 1) ∧ (¬ 0 ≤ haL L 0 → haL L 2 = 0) ∧ ¬ nI L.length ≤ haL L 1 ∧ (¬ haL L 0 < 0 → haL L 0 < haL L 1) ∧ (0 ≤ haL L 0 ↔ ¬ enF L 0 = none) := by
  rcases h : enF L 0 with _ | e
  · obtain ⟨h0, h1, h2⟩ := ha_no h
    rw [h0, h1, h2]
    have q : ¬ (0 : Int32) ≤ -1 := by decide
    exact ⟨Iff.rfl, fun _ => rfl, fun z => absurd (Int32.le_trans (nI_pos' (by omega)) z) q, fun z => absurd (show (-1 : Int32) < 0 by decide) z, ⟨fun z => absurd z q, fun z => absurd rfl z⟩⟩
  · obtain ⟨-, he, ⟨b, hb⟩, -⟩ := enF_spec h
    obtain ⟨h0, h1, h2⟩ := ha_yes h hb he
    have hbe := bg_lt hb
    rw [h0, h1]
    have p0 : 0 ≤ nI b := nI_pos' (by omega)
    have p1 : 0 ≤ nI e := nI_pos' (by omega)
    exact ⟨⟨fun _ => p1, fun _ => p0⟩, fun z => absurd p0 z, nI_ge he (by omega), fun _ => nI_lt hbe (by omega), ⟨fun _ z => (nomatch z), fun _ => p0⟩⟩
/-- plain forms keep to the ropes -/
theorem mpL_ok {rn : Nat} (hr : rn ∈ rnS) : ∀ {r c : Nat} {L : List Int32} {z : Nat × List Int32}, okL rn L → mpL r c L = some z → okL rn z.2
  | 0, c, L, z, hL, hz => by
    unfold mpL at hz
    split at hz
    · next hn => cases hz; exact hL
    · cases hz
  | r + 1, c, L, z, hL, hz => by
    unfold mpL at hz
    split at hz
    · next hn => cases hz; exact hL
    · next e he =>
      split at hz
      · cases hz
      · obtain ⟨-, he2, ⟨b, hb⟩, -⟩ := enF_spec he
        rw [hb] at hz
        have hbe := bg_lt hb
        exact mpL_ok hr (okL_cut hr hL (b := b) (e := e) (by omega)) hz
theorem okr_h : ∀ rn ∈ rnS, (0 : Int32) < nI rn ∧ ∀ x ∈ okr rn, abI x < nI rn ∧ ¬ abI x = 0 := by decide +kernel
theorem sg_n9 : ∀ x ∈ okList, ¬ sgI x = -9 := by decide +kernel
theorem lo_nil {P : List Int32} (h : P.length = 0) : loL P (P.length - 1) = 0 := by
  obtain rfl := List.length_eq_zero_iff.mp h
  rfl
theorem lo_in {rn : Nat} {P : List Int32} (hP : okL rn P) (h : ¬ P.length = 0) : loL P (P.length - 1) ∈ okr rn := by
  obtain ⟨j, j1, j2, -⟩ := loL_at (okW_of hP) (k := P.length - 1) (by omega)
  rw [j2]
  exact okL_at hP (by omega)
/-- a plain form's numbers -/
theorem fP {rn : Nat} (hr : rn ∈ rnS) {L : List Int32} (hL : okL rn L) (hn : L.length ≤ 30) : (paI (plain L) 0 = -9 → paI (plain L) 1 = -9 ∧ paI (plain L) 2 = -9 ∧ paI (plain L) 3 = -9 ∧ 0 ≤ haL L 0) ∧
    (¬ paI (plain L) 0 = -9 → ¬ 100 < paI (plain L) 0 ∧ ¬ paI (plain L) 0 < abI (accL L sgI L.length) ∧ (paI (plain L) 0 - accL L sgI L.length) - (paI (plain L) 0 - accL L sgI L.length) / 2 * 2 = 0 ∧ ¬ paI (plain L) 1 < 0 ∧ ¬ 100 < paI (plain L) 1 ∧ (paI (plain L) 1 = 0 ↔ ¬ 0 ≤ haL L 0) ∧ (paI (plain L) 2 = 0 ↔ paI (plain L) 0 = 0) ∧ (paI (plain L) 3 = 0 ↔ paI (plain L) 0 = 0) ∧ paI (plain L) 3 < nI rn) := by
  have hW := okW_of hL
  obtain ⟨-, -, -, -, hfe⟩ := fH (L := L) hn
  rcases hz : plain L with _ | z
  · refine ⟨fun _ => ⟨rfl, rfl, rfl, hfe.mpr (fun q => ?_)⟩, fun q => absurd rfl q⟩
    have := mpL_end (r := 100) (c := 0) q
    rw [show plain L = mpL 100 0 L from rfl, this] at hz
    cases hz
  · obtain ⟨s1, s2⟩ := plain_small' (show L.length ≤ 100 by omega) hz
    obtain ⟨p1, p2, p3, -, p5⟩ := mpL_eq sm_rep hW (show mpL 100 0 L = some z from hz)
    have hok := mpL_ok hr hL (show mpL 100 0 L = some z from hz)
    have hsm := sm_plain hW hz
    obtain ⟨k, k1, k2, k3⟩ := siR hW (by omega)
    obtain ⟨k', q1, q2, q3⟩ := siR p1 (by omega)
    obtain ⟨a1, a2⟩ := abk k (by omega)
    obtain ⟨b1, b2⟩ := abk k' (by omega)
    have hkk : k' = k := by
      have e1 : abI (accL L sgI L.length) = nI k := by rcases k3 with h | h <;> rw [h] <;> assumption
      have e2 : abI (accL z.2 sgI z.2.length) = nI k' := by rcases q3 with h | h <;> rw [h] <;> assumption
      rw [hsm, e2] at e1
      exact (nI_eq (by omega) (by omega)).mp e1
    subst hkk
    have e1 : abI (accL L sgI L.length) = nI k' := by rcases k3 with h | h <;> rw [h] <;> assumption
    obtain ⟨v1, v2⟩ := ev2 z.2.length (by omega) k' (by omega) q1 q2
    have h9 : paI (some z) 0 = nI z.2.length := rfl
    have h91 : paI (some z) 1 = nI z.1 := rfl
    have h92 : paI (some z) 2 = sgP z.2 := rfl
    have h93 : paI (some z) 3 = abI (loL z.2 (z.2.length - 1)) := rfl
    refine ⟨fun q => absurd q (by rw [h9]; exact nI_nm9 (by omega)), fun _ => ?_⟩
    rw [h9, h91, h92, h93, e1]
    have hz0 : nI z.2.length = 0 ↔ z.2.length = 0 := nI_eq (b := 0) (by omega) (by omega)
    obtain ⟨r1, r2⟩ := okr_h rn hr
    refine ⟨nI_nlt (b := z.2.length) (a := 100) s2 (by omega), nI_nlt q1 (by omega), by rcases k3 with h | h <;> rw [h] <;> assumption, nI_pos (by omega), nI_nlt (b := z.1) (a := 100) s1 (by omega), ?_, ?_, ?_, ?_⟩
    · rw [show (nI z.1 = 0 ↔ z.1 = 0) from nI_eq (b := 0) (by omega) (by omega)]
      constructor
      · intro h q
        have := p5 (hfe.mp q)
        omega
      · intro h
        have hnn : enF L 0 = none := by
          rcases hq : enF L 0 with _ | e
          · rfl
          · exact absurd (hfe.mpr (by rw [hq]; exact fun z => by cases z)) h
        have := mpL_end (r := 100) (c := 0) hnn
        rw [show plain L = mpL 100 0 L from rfl, this] at hz
        cases hz
        rfl
    · rw [hz0]; exact sgP_zero p1
    · rw [hz0]
      constructor
      · intro h
        rcases Nat.eq_zero_or_pos z.2.length with q | q
        · exact q
        · exact absurd h (r2 _ (lo_in hok (by omega))).2
      · intro h
        rw [lo_nil h]
        decide
    · rcases Nat.eq_zero_or_pos z.2.length with q | q
      · rw [lo_nil q]
        exact r1
      · exact (r2 _ (lo_in hok (by omega))).1
theorem sgP_n9 {P : List Int32} (hP : okW P) : ¬ sgP P = -9 := by
  rcases Nat.eq_zero_or_pos P.length with q | q
  · unfold sgP; rw [lo_nil q]; decide
  · obtain ⟨j, j1, j2, -⟩ := loL_at hP (k := P.length - 1) (by omega)
    unfold sgP
    rw [j2]
    exact sg_n9 _ (okW_at hP (by omega))
/-- the same braid, or not; ahead -/
theorem fC {L : List Int32} (hL : okW L) : (saI (plain L) = 1 ↔ paI (plain L) 2 = 0) ∧ (saI (plain L) = -9 ↔ paI (plain L) 2 = -9) := by
  rcases hz : plain L with _ | z
  · exact ⟨⟨fun q => absurd q (show ¬ (-9 : Int32) = 1 by decide), fun q => absurd q (show ¬ (-9 : Int32) = 0 by decide)⟩, ⟨fun _ => rfl, fun _ => rfl⟩⟩
  · obtain ⟨p1, -, -⟩ := plain_eq sm_rep hL hz
    have h92 : paI (some z) 2 = sgP z.2 := rfl
    rw [h92]
    have hs : saI (some z) = if z.2.length = 0 then 1 else 0 := rfl
    rw [hs]
    by_cases q : z.2.length = 0
    · rw [if_pos q]
      exact ⟨⟨fun _ => (sgP_zero p1).mpr q, fun _ => rfl⟩, ⟨fun w => absurd w (by decide), fun w => absurd w (sgP_n9 p1)⟩⟩
    · rw [if_neg q]
      exact ⟨⟨fun w => absurd w (by decide), fun w => absurd ((sgP_zero p1).mp w) q⟩, ⟨fun w => absurd w (by decide), fun w => absurd w (sgP_n9 p1)⟩⟩
theorem sa_1 {L : List Int32} (h : saI (plain L) = 1) : ∃ z, plain L = some z ∧ z.2.length = 0 := by
  rcases hz : plain L with _ | z
  · rw [hz] at h; exact absurd h (show ¬ (-9 : Int32) = 1 by decide)
  · refine ⟨z, rfl, ?_⟩
    rw [hz] at h
    have hs : saI (some z) = if z.2.length = 0 then 1 else 0 := rfl
    rw [hs] at h
    by_cases q : z.2.length = 0
    · exact q
    · rw [if_neg q] at h; exact absurd h (by decide)
theorem fE {L M : List Int32} (hL : okW L) (hM : okW M) (h : saI (plain (turnL L ++ M)) = 1) {r o : Nat} (hr : r < 6) (ho : o < 6) : plE L (nI r) L.length = plE M (nI r) M.length ∧ crS L (nI r) (nI o) L.length = crS M (nI r) (nI o) M.length := by
  obtain ⟨z, h1, h2⟩ := sa_1 h
  exact same_ends hL hM h1 h2 hr ho
/-- behind a move: the sign of the plain form, the ends, the crossings -/
theorem fM {L M : List Int32} (hL : okW L) (hM : okW M) (h : mvR L M) (h1 : ¬ paI (plain L) 2 = -9) (h2 : ¬ paI (plain M) 2 = -9) : paI (plain M) 2 = paI (plain L) 2 := by
  rcases hz : plain L with _ | z
  · rw [hz] at h1; exact absurd rfl h1
  · rcases hz' : plain M with _ | z'
    · rw [hz'] at h2; exact absurd rfl h2
    · exact (sg_same hL hM (h _ _ _ dy_rep) hz hz').symm
theorem fMe {L M : List Int32} (h : mvR L M) {r o : Nat} (hr : r < 6) (ho : o < 6) : plE M (nI r) M.length = plE L (nI r) L.length ∧ crS M (nI r) (nI o) M.length = crS L (nI r) (nI o) L.length := by
  obtain ⟨a, b⟩ := pr_same (h _ _ _ pr_rep) hr ho
  exact ⟨a.symm, b.symm⟩
theorem mv_two {L0 L1 M0 M1 : List Int32} (h0 : okW L0) (h1 : okW L1) (k0 : okW M0) (a : mvR L0 M0) (b : mvR L1 M1) : mvR (turnL L0 ++ L1) (turnL M0 ++ M1) := fun σ act ok hr => EQ_app hr (okW_turn h0) (EQ_inv hr h0 k0 (a σ act ok hr)) (b σ act ok hr)
theorem fMs {L M : List Int32} (hL : okW L) (hM : okW M) (h : mvR L M) (h1 : ¬ saI (plain L) = -9) (h2 : ¬ saI (plain M) = -9) : saI (plain M) = saI (plain L) ∧ paI (plain M) 2 = paI (plain L) 2 := by
  have e := fM hL hM h (fun q => h1 ((fC hL).2.mpr q)) (fun q => h2 ((fC hM).2.mpr q))
  refine ⟨?_, e⟩
  rcases hz : plain L with _ | z
  · rw [hz] at h1; exact absurd rfl h1
  · rcases hz' : plain M with _ | z'
    · rw [hz'] at h2; exact absurd rfl h2
    · obtain ⟨p1, -, -⟩ := plain_eq sm_rep hL hz
      obtain ⟨p2, -, -⟩ := plain_eq sm_rep hM hz'
      rw [hz, hz'] at e
      have e : sgP z'.2 = sgP z.2 := e
      have hs : saI (some z) = if z.2.length = 0 then 1 else 0 := rfl
      have hs' : saI (some z') = if z'.2.length = 0 then 1 else 0 := rfl
      rw [hs, hs']
      by_cases q : z.2.length = 0
      · rw [if_pos q, if_pos ((sgP_zero p2).mp (e.trans ((sgP_zero p1).mpr q)))]
      · rw [if_neg q, if_neg (fun w => q ((sgP_zero p1).mp (e.symm.trans ((sgP_zero p2).mpr w))))]
/-- the crossings that the law keeps -/
def cvV (rn : Nat) (L : List Int32) (r o : Nat) : Int32 := if o = r ∨ ¬ o < rn then 0 else crS L (nI r) (nI o) L.length
def cvG (rn : Nat) (L0 L1 : List Int32) (i o : Nat) : Int32 := if i < rn then cvV rn L0 i o else cvV rn L1 (i - rn) o
def cvF (G : Nat → Nat → Int32) (F : Nat → Nat → Int32) (i k : Nat) : Prop := ∀ a b, F a b = if a < i ∨ (a = i ∧ b < k) then G a b else 0
theorem cvF_0 {G : Nat → Nat → Int32} : cvF G (fun _ _ => 0) 0 0 := fun a b => by rw [if_neg (by omega)]
theorem cvF_st {G F : Nat → Nat → Int32} {i k : Nat} {v : Int32} (h : cvF G F i k) (hv : v = G i k) : cvF G (updF F i k v) i (k + 1) := fun a b => by
  unfold updF
  by_cases e : a = i
  · subst e
    rw [if_pos rfl]
    by_cases e2 : b = k
    · subst e2; rw [if_pos (by omega), pk_us]; exact hv
    · rw [pk_un e2, h a b]
      by_cases c : b < k
      · rw [if_pos (by omega), if_pos (by omega)]
      · rw [if_neg (by omega), if_neg (by omega)]
  · rw [if_neg e, h a b]
    by_cases c : a < i
    · rw [if_pos (by omega), if_pos (by omega)]
    · rw [if_neg (by omega), if_neg (by omega)]
theorem cvF_sk {G F : Nat → Nat → Int32} {i k : Nat} (h : cvF G F i k) (hv : G i k = 0) : cvF G F i (k + 1) := fun a b => by
  rw [h a b]
  by_cases c : a < i ∨ (a = i ∧ b < k)
  · rw [if_pos c, if_pos (by omega)]
  · rw [if_neg c]
    by_cases c2 : a = i ∧ b = k
    · obtain ⟨rfl, rfl⟩ := c2
      rw [if_pos (by omega), hv]
    · rw [if_neg (by omega)]
theorem cvF_row {G F : Nat → Nat → Int32} {i rn : Nat} (h : cvF G F i rn) (hv : ∀ b, rn ≤ b → G i b = 0) : cvF G F (i + 1) 0 := fun a b => by
  rw [h a b]
  by_cases c : a < i ∨ (a = i ∧ b < rn)
  · rw [if_pos c, if_pos (by omega)]
  · rw [if_neg c]
    by_cases c2 : a = i
    · subst c2
      rw [if_pos (by omega), hv b (by omega)]
    · rw [if_neg (by omega)]
theorem cvF_at {G F : Nat → Nat → Int32} {i k a b : Nat} (h : cvF G F i k) (hc : a < i ∨ (a = i ∧ b < k)) : F a b = G a b := by rw [h a b, if_pos hc]
theorem cvG_0 {rn : Nat} {L0 L1 : List Int32} {r o : Nat} (h : r < rn) (ho : o < rn) (hne : ¬ o = r) : cvG rn L0 L1 r o = crS L0 (nI r) (nI o) L0.length := by
  unfold cvG cvV
  rw [if_pos h, if_neg (by omega)]
theorem cvG_1 {rn : Nat} {L0 L1 : List Int32} {r o : Nat} (ho : o < rn) (hne : ¬ o = r) : cvG rn L0 L1 (rn + r) o = crS L1 (nI r) (nI o) L1.length := by
  unfold cvG cvV
  rw [if_neg (by omega), show rn + r - rn = r by omega, if_neg (by omega)]
theorem cvG_0s {rn : Nat} {L0 L1 : List Int32} {r : Nat} (h : r < rn) : cvG rn L0 L1 r r = 0 := by
  unfold cvG cvV
  rw [if_pos h, if_pos (Or.inl rfl)]
theorem cvG_1s {rn : Nat} {L0 L1 : List Int32} {r : Nat} : cvG rn L0 L1 (rn + r) r = 0 := by
  unfold cvG cvV
  rw [if_neg (by omega), show rn + r - rn = r by omega, if_pos (Or.inl rfl)]
theorem cvG_0o {rn : Nat} {L0 L1 : List Int32} {r b : Nat} (h : r < rn) (hb : rn ≤ b) : cvG rn L0 L1 r b = 0 := by
  unfold cvG cvV
  rw [if_pos h, if_pos (Or.inr (by omega))]
theorem cvG_1o {rn : Nat} {L0 L1 : List Int32} {r b : Nat} (hb : rn ≤ b) : cvG rn L0 L1 (rn + r) b = 0 := by
  unfold cvG cvV
  rw [if_neg (by omega), if_pos (Or.inr (by omega))]
