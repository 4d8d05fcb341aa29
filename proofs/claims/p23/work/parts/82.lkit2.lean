/-! 82: calls that change the world, beside a pool; what holds at all places of the law -/
section PM9
variable {p : Program} {l : Launch} {e : Env} {R : Room} {s : State} {m : MethodId} {args : Array Value} {below : List Frame} {meth : Method} {c : Code} {H : Heap} {locs : List Loc} {cells slots : Nat} {Q : State → Prop}
variable {y : MethodName} {bytes cc : ByteArray} {maxL nL mc ms n index pc : Nat} {ret : Option FieldType} {ws ws' : List Cond} {rm : Room} {Ts : List Cond} {own C : String} {b : Addr} {As av rest st0 : List Value} {ls : Array Slot}
variable {D : va_G} {cl : List vw_C} {tys : List (ClassId × FieldType)} {w wc wr X pl : va_W} {A A0 : Nat → Prop} {H0 : Heap} {a : Array Value} {v : Option Value}
theorem g_keepMP {S : Type} {post : S → Prop} {w1 : S → va_W} (hr : CallRun p l e R s m args below meth c H locs cells slots mc ms (F0 m pc ls st0) rest (gM D v post w1 (va_A wc H.size) a) (va_A wc H.size))
    (hP : va_P D vwCl (X ++ pl) H) (hD : va_D A0 (X ++ pl)) (hS : va_S A0 H0 H locs) (hA : ∀ q, H0.size ≤ q → A0 q) (isC : List Nat) (hC : isC.map (fun i => X[i]?) = wc.map some) (hC' : isC.map (fun i => (X ++ pl)[i]?) = wc.map some) (w2 : S → va_W) (hM : ∀ u, g_mix X isC (w1 u) = (w2 u).map some) (hF : ∀ u, (w2 u).map Prod.fst = X.map Prod.fst)
    (kk : ∀ (u : S) (H1 : Heap) (locs1 : List Loc), post u → va_P D vwCl (w2 u ++ pl) H1 → va_D A0 (w2 u ++ pl) → va_S A0 H0 H1 locs1 → W p l e R s m args below meth c H1 locs1 (cells + mc) (slots + ms) Q (F0 m (pc + 3) ls (v.toList ++ rest))) : W p l e R s m args below meth c H locs cells slots Q (F0 m pc ls st0) := by
  intro T hT Xs
  obtain ⟨v', st₀, t, T', L, h0, X', hL, e1, ⟨⟨hv, u, hpo, hP1⟩, hz, hk⟩, st⟩ := hr T hT Xs
  cases hv
  rw [h0] at hz hk
  have hf := va_free (wc := wc) hD hS hA isC hC'
  have hPX : va_P D vwCl X H := fun k q hq => hP k q (by rw [List.getElem?_append_left (List.getElem?_eq_some_iff.mp hq).1]; exact hq)
  have hDX : va_D A0 X := ⟨fun i j p q hp hq e => hD.1 i j p q (by rw [List.getElem?_append_left (List.getElem?_eq_some_iff.mp hp).1]; exact hp) (by rw [List.getElem?_append_left (List.getElem?_eq_some_iff.mp hq).1]; exact hq) e, fun k q hq => hD.2 k q (by rw [List.getElem?_append_left (List.getElem?_eq_some_iff.mp hq).1]; exact hq)⟩
  have hk1 : ∀ q : Nat, q < H.size → ¬ va_A wc H.size q → T'.heap[q]? = H[q]? := fun q h1 h2 => by rw [e1]; exact hk q h1 h2
  have hPl : va_P D vwCl pl T'.heap := fun k q hq => by
    have h2 : (X ++ pl)[X.length + k]? = some q := by rw [List.getElem?_append_right (Nat.le_add_right _ _), Nat.add_sub_cancel_left]; exact hq
    have hl := (hP _ q h2).lt
    refine (hP _ q h2).kept (hk1 q.1 hl (fun h => ?_))
    rcases h with ⟨j, z, h⟩ | h
    · obtain ⟨i, h5, h6⟩ := va_in_of isC hC h
      have hj : i < X.length := (List.getElem?_eq_some_iff.mp h6).1
      have h6' : (X ++ pl)[i]? = some (q.1, z) := by rw [List.getElem?_append_left hj]; exact h6
      have hij := hD.1 _ _ q (q.1, z) h2 h6' rfl
      omega
    · omega
  obtain ⟨t2, a1, b1⟩ := kk u T'.heap (locs ++ L) hpo (va_P.app (g_mixP hPX hDX hC hk1 (by rw [e1]; exact hP1) (hM u)) hPl) (g_mixD hD (by rw [List.map_append, List.map_append, hF u]))
    ⟨Nat.le_trans hS.1 (by rw [e1]; exact hz), fun q h1 h2 => by rw [e1, hk q (Nat.lt_of_lt_of_le h1 hS.1) (fun z => h2 (hf q z))]; exact hS.2.1 q h1 h2, fun q hq => by
      rcases List.mem_append.mp hq with h | h
      · exact hS.2.2 q h
      · exact hf _ (hL q h)⟩ T' rfl X'
  exact ⟨t2, st t2 a1, b1⟩
theorem g_MVPi {S : Type} {post : S → Prop} {w1 : S → va_W} {r : Int32} (S9 : CallFix p m c cc nL s args Ts own) (hM9 : Met l y ws rm (va_Pc (.ref b :: As) (gB D tys wc H.size)) (gM D (some (.int r)) post w1 (va_A wc H.size)) 0 0 (va_A wc H.size)) (cw : CallW R s args own C index y bytes maxL ret ws rm 0 0 n) (hP : va_P D vwCl (X ++ pl) H) (hKc : va_K D vwCl tys s) (hD : va_D A0 (X ++ pl)) (hS : va_S A0 H0 H locs) (hA : ∀ q, H0.size ≤ q → A0 q) (isC : List Nat) (hn : va_nd isC = true) (hC : isC.map (fun i => X[i]?) = wc.map some) (hC' : isC.map (fun i => (X ++ pl)[i]?) = wc.map some) (hrv : ∃ cellB : Cell, H[b]? = some cellB ∧ cellB.vm.isStatics = false ∧ s.vm.findClass C = some cellB.cls) (hlen : As.length = n) (hls : ls.size = nL) (hst : st0 = As.reverse ++ .ref b :: rest) (hroom : (rest.map fun v => v.category).sum ≤ 8) (hdg : decode cc pc = .ok (.invokevirtual index, 3)) (hc : cells ≤ R.cells) (hs : slots ≤ R.slots) (w2 : S → va_W) (hM : ∀ u, g_mix X isC (w1 u) = (w2 u).map some) (hF : ∀ u, (w2 u).map Prod.fst = X.map Prod.fst) (kk : ∀ (u : S) (H1 : Heap) (locs1 : List Loc), post u → va_P D vwCl (w2 u ++ pl) H1 → va_D A0 (w2 u ++ pl) → va_S A0 H0 H1 locs1 → W p l e R s m args below meth c H1 locs1 cells slots Q (F0 m (pc + 3) ls (.int r :: rest))) : W p l e R s m args below meth c H locs cells slots Q (F0 m pc ls st0) :=
  g_keepMP (v := some (.int r)) (W.runV S9 hM9 cw ⟨g_blind, hrv, g_pre (g_subP hP isC hC') hKc (hD.sub isC hn hC')⟩ rfl hlen hls hst (lv_room hroom) hdg ⟨hc, hs⟩) hP hD hS hA isC hC hC' w2 hM hF kk
end PM9
/-- what holds at all places of the law -/
def lwC (p : Program) (l : Launch) (s : State) (m : MethodId) (c : Code) (b9 LL : Nat) (xs : Nat → Int32) (dC : Nat → ClassId) (dI : Nat → Nat → Nat) (cA cAA cAAA : ClassId) (A : Nat → Prop) : Prop := p.tables.exec = Jvm.exec ∧ c.code = cL_law ∧ c.maxLocals = 17 ∧ s.vm.findClass RL = some m.cls ∧ (∀ w ∈ wsL_law, w.before ([.ref b9] : List Value).toArray s = true) ∧ l.stackTraces = false ∧ va_K (dC, dI) vwCl [(cA, .int), (cAA, .array .int), (cAAA, .array (.array .int))] s ∧ (∀ q, s.heap.size ≤ q → A q) ∧ xN b9 LL xs A s.heap s ∧ LL ≤ 260 ∧ (Cond.classLink RL 106 "[[[I").before ([.ref b9] : List Value).toArray s = true ∧ (Cond.arrayOver (.array .int)).before ([.ref b9] : List Value).toArray s = true ∧ (Cond.arrayOver (.array (.array .int))).before ([.ref b9] : List Value).toArray s = true
