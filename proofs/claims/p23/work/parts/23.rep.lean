/-! 23: what a word does, letter by letter; words that do the same, whatever keeps the rules of braids -/
def foS {σ : Type} (act : Int32 → σ → σ) : List Int32 → σ → σ
  | [], s => s
  | x :: L, s => foS act L (act x s)
theorem foS_app {σ : Type} {act : Int32 → σ → σ} : ∀ {L M : List Int32} {s : σ}, foS act (L ++ M) s = foS act M (foS act L s)
  | [], _, _ => rfl
  | _ :: L, _, _ => foS_app (L := L)
theorem foS_take {σ : Type} {act : Int32 → σ → σ} {L : List Int32} {k : Nat} {s : σ} (h : k < L.length) : foS act (L.take (k + 1)) s = act (atL L k) (foS act (L.take k) s) := by
  rw [← take_snoc h, foS_app]; rfl
def farI (x y : Int32) : Prop := abI x + 1 < abI y ∨ abI y + 1 < abI x
def nearI (x y : Int32) : Prop := sgI x = sgI y ∧ (abI y = abI x + 1 ∨ abI x = abI y + 1)
/-- act keeps the rules of braids, where ok holds -/
def REP {σ : Type} (act : Int32 → σ → σ) (ok : σ → Prop) : Prop :=
  (∀ x ∈ okList, ∀ s, ok s → ok (act x s)) ∧ (∀ x ∈ okList, ∀ s, ok s → act (-x) (act x s) = s) ∧
  (∀ x ∈ okList, ∀ y ∈ okList, farI x y → ∀ s, ok s → act x (act y s) = act y (act x s)) ∧
  (∀ x ∈ okList, ∀ y ∈ okList, nearI x y → ∀ s, ok s → act x (act y (act x s)) = act y (act x (act y s)))
def okW (L : List Int32) : Prop := ∀ x ∈ L, x ∈ okList
theorem okW_of {rn : Nat} {L : List Int32} (h : okL rn L) : okW L := fun x hx => (List.mem_filter.mp (h x hx)).1
theorem okW_app {L M : List Int32} (h : okW L) (h2 : okW M) : okW (L ++ M) := fun x hx => (List.mem_append.mp hx).elim (h x) (h2 x)
theorem okW_l {L M : List Int32} (h : okW (L ++ M)) : okW L := fun x hx => h x (List.mem_append_left _ hx)
theorem okW_r {L M : List Int32} (h : okW (L ++ M)) : okW M := fun x hx => h x (List.mem_append_right _ hx)
theorem okW_at {L : List Int32} (h : okW L) {i : Nat} (hi : i < L.length) : atL L i ∈ okList := by
  rw [atL_in hi]; exact h _ (List.getElem_mem hi)
theorem okW_nil : okW [] := fun _ h => nomatch h
theorem okx_neg : ∀ x ∈ okList, -x ∈ okList ∧ - -x = x ∧ abI (-x) = abI x ∧ sgI (-x) = -sgI x := by decide +kernel
def EQ {σ : Type} (act : Int32 → σ → σ) (ok : σ → Prop) (A B : List Int32) : Prop := ∀ s, ok s → foS act A s = foS act B s
section
variable {σ : Type} {act : Int32 → σ → σ} {ok : σ → Prop}
theorem fo_ok (h : REP act ok) : ∀ {L : List Int32} {s : σ}, okW L → ok s → ok (foS act L s)
  | [], _, _, hs => hs
  | x :: L, s, hL, hs => fo_ok h (L := L) (fun y hy => hL y (List.mem_cons_of_mem _ hy)) (h.1 x (hL x List.mem_cons_self) s hs)
theorem EQ_rf {A : List Int32} : EQ act ok A A := fun _ _ => rfl
theorem EQ_sy {A B : List Int32} (h : EQ act ok A B) : EQ act ok B A := fun s hs => (h s hs).symm
theorem EQ_tr {A B C : List Int32} (h : EQ act ok A B) (h2 : EQ act ok B C) : EQ act ok A C := fun s hs => (h s hs).trans (h2 s hs)
theorem EQ_app (h : REP act ok) {A A' B B' : List Int32} (hA : okW A) (h1 : EQ act ok A A') (h2 : EQ act ok B B') : EQ act ok (A ++ B) (A' ++ B') := fun s hs => by
  rw [foS_app, foS_app, ← h1 s hs]
  exact h2 _ (fo_ok h hA hs)
theorem EQ_mid (h : REP act ok) {P A A' Q : List Int32} (hP : okW P) (hA : okW A) (h1 : EQ act ok A A') : EQ act ok (P ++ A ++ Q) (P ++ A' ++ Q) :=
  EQ_app h (okW_app hP hA) (EQ_app h hP EQ_rf h1) EQ_rf
theorem EQ_out (h : REP act ok) {x : Int32} (hx : x ∈ okList) : EQ act ok [x, -x] [] := fun s hs => h.2.1 x hx s hs
theorem EQ_out2 (h : REP act ok) {x : Int32} (hx : x ∈ okList) : EQ act ok [-x, x] [] := fun s hs => by
  obtain ⟨h1, h2, -, -⟩ := okx_neg x hx
  have h3 := h.2.1 (-x) h1 s hs
  rw [h2] at h3
  exact h3
theorem EQ_turn2 (h : REP act ok) : ∀ {L : List Int32}, okW L → EQ act ok (turnL L ++ L) []
  | [], _ => EQ_rf
  | x :: L, hL => by
    have hx := hL x List.mem_cons_self
    have hL' : okW L := fun y hy => hL y (List.mem_cons_of_mem _ hy)
    have ht : okW (turnL L) := fun y hy => by
      unfold turnL at hy
      obtain ⟨z, hz, rfl⟩ := List.mem_map.mp hy
      exact (okx_neg z (hL' z (List.mem_reverse.mp hz))).1
    have e1 : turnL (x :: L) ++ x :: L = turnL L ++ [-x, x] ++ L := by
      unfold turnL; simp
    rw [e1]
    refine EQ_tr (EQ_mid h ht (fun y hy => ?_) (EQ_out2 h hx)) ?_
    · rcases List.mem_cons.mp hy with q | q
      · rw [q]; exact (okx_neg x hx).1
      · rw [List.mem_singleton.mp q]; exact hx
    · rw [List.append_nil]
      exact EQ_turn2 h hL'
theorem okW_turn {L : List Int32} (hL : okW L) : okW (turnL L) := fun y hy => by
  unfold turnL at hy
  obtain ⟨z, hz, rfl⟩ := List.mem_map.mp hy
  exact (okx_neg z (hL z (List.mem_reverse.mp hz))).1
theorem turn_turn {L : List Int32} (hL : okW L) : turnL (turnL L) = L := by
  have e : turnL (turnL L) = (L.map (fun x => -x)).map (fun x => -x) := by
    unfold turnL; rw [← List.map_reverse, List.reverse_reverse]
  rw [e, List.map_map]
  exact (List.map_congr_left (g := id) (fun x hx => (okx_neg x (hL x hx)).2.1)).trans (List.map_id L)
theorem EQ_turn1 (h : REP act ok) {L : List Int32} (hL : okW L) : EQ act ok (L ++ turnL L) [] := by
  have h1 := EQ_turn2 h (okW_turn hL)
  rw [turn_turn hL] at h1
  exact h1
theorem EQ_inv (h : REP act ok) {A B : List Int32} (hA : okW A) (hB : okW B) (h1 : EQ act ok A B) : EQ act ok (turnL A) (turnL B) := by
  -- turn A ~ turn A, B, turn B ~ turn A, A, turn B ~ turn B
  have e1 : EQ act ok (turnL A ++ (B ++ turnL B)) (turnL A ++ []) := EQ_app h (okW_turn hA) EQ_rf (EQ_turn1 h hB)
  have e2 : EQ act ok (turnL A ++ A ++ turnL B) ([] ++ turnL B) := EQ_app h (okW_app (okW_turn hA) hA) (EQ_turn2 h hA) EQ_rf
  have e3 : EQ act ok (turnL A ++ A ++ turnL B) (turnL A ++ B ++ turnL B) := EQ_mid h (okW_turn hA) hA h1
  rw [List.append_nil] at e1
  rw [← List.append_assoc] at e1
  exact EQ_tr (EQ_sy e1) (EQ_tr (EQ_sy e3) e2)
/-- a letter of the height above, between a letter and the same one turned round -/
theorem okx_up : ∀ x ∈ okList, ∀ y ∈ okList, abI y = abI x + 1 → (sgI x * (abI x + 1) ∈ okList ∧ -sgI x * (abI x + 1) = -(sgI x * (abI x + 1)) ∧ nearI x (sgI x * (abI x + 1))) ∧ ((y = sgI x * (abI x + 1) ∧ sgI y * abI x = x) ∨ (y = -(sgI x * (abI x + 1)) ∧ sgI y * abI x = -x)) := by
  unfold nearI; decide +kernel
theorem EQ_up1 (h : REP act ok) {x t : Int32} (hx : x ∈ okList) (ht : t ∈ okList) (hn : nearI x t) : EQ act ok [x, t, -x] [-t, x, t] := fun s hs => by
  obtain ⟨h1, h2, -, -⟩ := okx_neg t ht
  have hs' : ok (act (-t) s) := h.1 (-t) h1 s hs
  have e1 : act t (act (-t) s) = s := by
    have := h.2.1 (-t) h1 s hs
    rw [h2] at this
    exact this
  have e2 := h.2.2.2 x hx t ht hn (act (-t) s) hs'
  rw [e1] at e2
  have hs2 : ok (act t (act x (act (-t) s))) := h.1 t ht _ (h.1 x hx _ hs')
  show act (-x) (act t (act x s)) = act t (act x (act (-t) s))
  rw [← e2]
  exact h.2.1 x hx _ hs2
theorem okW_l3 {x y z : Int32} (hx : x ∈ okList) (hy : y ∈ okList) (hz : z ∈ okList) : okW [x, y, z] := fun w hw => by
  rcases List.mem_cons.mp hw with q | q
  · rw [q]; exact hx
  · rcases List.mem_cons.mp q with q | q
    · rw [q]; exact hy
    · rw [List.mem_singleton.mp q]; exact hz
theorem okW_l2 {x y : Int32} (hx : x ∈ okList) (hy : y ∈ okList) : okW [x, y] := fun w hw => by
  rcases List.mem_cons.mp hw with q | q
  · rw [q]; exact hx
  · rw [List.mem_singleton.mp q]; exact hy
theorem okW_l1 {x : Int32} (hx : x ∈ okList) : okW [x] := fun w hw => by rw [List.mem_singleton.mp hw]; exact hx
theorem EQ_up (h : REP act ok) {x y : Int32} (hx : x ∈ okList) (hy : y ∈ okList) (hyx : abI y = abI x + 1) : EQ act ok [x, y, -x] [-sgI x * (abI x + 1), sgI y * abI x, sgI x * (abI x + 1)] := by
  obtain ⟨⟨h1, h2, h3⟩, h4⟩ := okx_up x hx y hy hyx
  obtain ⟨n1, n2, -, -⟩ := okx_neg _ h1
  obtain ⟨m1, m2, -, -⟩ := okx_neg x hx
  have hu := EQ_up1 h hx h1 h3
  rw [h2]
  rcases h4 with ⟨h4, h5⟩ | ⟨h4, h5⟩
  · rw [h5]
    rw [← h4] at hu ⊢
    exact hu
  · have hv := EQ_inv h (okW_l3 hx h1 m1) (okW_l3 n1 hx h1) hu
    rw [h5, h4]
    have e1 : turnL [x, sgI x * (abI x + 1), -x] = [x, -(sgI x * (abI x + 1)), -x] := by
      show [- -x, -(sgI x * (abI x + 1)), -x] = _
      rw [m2]
    have e2 : turnL [-(sgI x * (abI x + 1)), x, sgI x * (abI x + 1)] = [-(sgI x * (abI x + 1)), -x, sgI x * (abI x + 1)] := by
      show [-(sgI x * (abI x + 1)), -x, - -(sgI x * (abI x + 1))] = _
      rw [n2]
    rw [e1, e2] at hv
    exact hv
theorem okx_far : ∀ x ∈ okList, ∀ y ∈ okList, ¬ abI y = abI x → ¬ abI y = abI x - 1 → ¬ abI y = abI x + 1 → farI x y ∧ farI (-x) y := by
  unfold farI; decide +kernel
theorem EQ_past (h : REP act ok) {x y : Int32} (hx : x ∈ okList) (hy : y ∈ okList) (hf : farI x y) : EQ act ok [x, y, -x] [y] := fun s hs => by
  show act (-x) (act y (act x s)) = act y s
  rw [← h.2.2.1 x hx y hy hf s hs]
  exact h.2.1 x hx _ (h.1 y hy s hs)
/-- a handle cut: the same braid -/
theorem ck_ok (h : REP act ok) {L : List Int32} (hL : okW L) {b e : Nat} (he : e < L.length) (hbe : b < e) (hneg : atL L b = -atL L e)
    (hin : ∀ j, b < j → j < e → ¬ abI (atL L j) = abI (atL L b) ∧ ¬ abI (atL L j) = abI (atL L b) - 1) :
    ∀ k, (b < k → k ≤ e → okW (ckL L b e k) ∧ EQ act ok (L.take k ++ [-atL L b]) (ckL L b e k)) ∧ ((k ≤ b ∨ e < k) → k ≤ L.length → okW (ckL L b e k) ∧ EQ act ok (L.take k) (ckL L b e k))
  | 0 => ⟨fun h1 => absurd h1 (Nat.not_lt_zero b), fun _ _ => ⟨okW_nil, EQ_rf⟩⟩
  | k + 1 => by
    have ih := ck_ok h hL he hbe hneg hin k
    have hx := okW_at hL (show b < L.length by omega)
    have hnx := (okx_neg _ hx).1
    have hee : atL L e = -atL L b := by
      rw [hneg]; exact ((okx_neg _ (okW_at hL he)).2.1).symm
    have hT : ∀ k, okW (L.take k) := fun k y hy => hL y (List.mem_of_mem_take hy)
    refine ⟨fun h1 h2 => ?_, fun h1 h2 => ?_⟩
    · have hy := okW_at hL (show k < L.length by omega)
      by_cases c : k = b
      · subst c
        obtain ⟨o1, q1⟩ := ih.2 (Or.inl (Nat.le_refl _)) (by omega)
        rw [ckL_skip (Or.inl rfl), ← take_snoc (by omega)]
        refine ⟨o1, EQ_tr ?_ q1⟩
        have e1 : L.take k ++ [atL L k] ++ [-atL L k] = L.take k ++ [atL L k, -atL L k] := by simp
        rw [e1]
        have h3 := EQ_app h (hT k) (EQ_rf (A := L.take k)) (EQ_out h hx)
        rw [List.append_nil] at h3
        exact h3
      · obtain ⟨o1, q1⟩ := ih.1 (by omega) (by omega)
        obtain ⟨i1, i2⟩ := hin k (by omega) (by omega)
        have q2 : EQ act ok (L.take k ++ [atL L k] ++ [-atL L b]) (L.take k ++ [-atL L b] ++ [atL L b, atL L k, -atL L b]) := by
          have e1 : L.take k ++ [-atL L b] ++ [atL L b, atL L k, -atL L b] = L.take k ++ [-atL L b, atL L b] ++ [atL L k, -atL L b] := by simp
          have e2 : L.take k ++ [atL L k] ++ [-atL L b] = L.take k ++ [] ++ [atL L k, -atL L b] := by simp
          rw [e1, e2]
          exact EQ_mid h (hT k) okW_nil (EQ_sy (EQ_out2 h hx))
        rw [← take_snoc (show k < L.length by omega)]
        by_cases c2 : abI (atL L k) = abI (atL L b) + 1
        · rw [ckL_three (by omega) (by omega) c2]
          obtain ⟨⟨u1, u2, -⟩, -⟩ := okx_up _ hx _ hy c2
          have u3 : sgI (atL L k) * abI (atL L b) ∈ okList := by
            obtain ⟨-, u4⟩ := okx_up _ hx _ hy c2
            rcases u4 with ⟨-, u5⟩ | ⟨-, u5⟩
            · rw [u5]; exact hx
            · rw [u5]; exact hnx
          have u6 : -sgI (atL L b) * (abI (atL L b) + 1) ∈ okList := by rw [u2]; exact (okx_neg _ u1).1
          refine ⟨okW_app (okW_app (okW_app o1 (okW_l1 u6)) (okW_l1 u3)) (okW_l1 u1), EQ_tr q2 ?_⟩
          have e3 : ckL L b e k ++ [-sgI (atL L b) * (abI (atL L b) + 1)] ++ [sgI (atL L k) * abI (atL L b)] ++ [sgI (atL L b) * (abI (atL L b) + 1)] = ckL L b e k ++ [-sgI (atL L b) * (abI (atL L b) + 1), sgI (atL L k) * abI (atL L b), sgI (atL L b) * (abI (atL L b) + 1)] := by simp
          rw [e3]
          exact EQ_app h (okW_app (hT k) (okW_l1 hnx)) q1 (EQ_up h hx hy c2)
        · rw [ckL_one c (by omega) (fun q => c2 q.2.2)]
          refine ⟨okW_app o1 (okW_l1 hy), EQ_tr q2 ?_⟩
          exact EQ_app h (okW_app (hT k) (okW_l1 hnx)) q1 (EQ_past h hx hy (okx_far _ hx _ hy i1 i2 c2).1)
    · by_cases c : k = e
      · subst c
        obtain ⟨o1, q1⟩ := ih.1 hbe (Nat.le_refl _)
        rw [ckL_skip (Or.inr rfl), ← take_snoc he, hee]
        exact ⟨o1, q1⟩
      · obtain ⟨o1, q1⟩ := ih.2 (by omega) (by omega)
        rw [ckL_one (by omega) c (fun q => by omega), ← take_snoc (by omega)]
        exact ⟨okW_app o1 (okW_l1 (okW_at hL (by omega))), EQ_app h (hT k) q1 EQ_rf⟩
end
