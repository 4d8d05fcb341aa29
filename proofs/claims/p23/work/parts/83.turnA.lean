/-! 83: a turn of the law: its arrays, ends and crossings -/
/-- the crossings of pairs of a word -/
def crP (L : List Int32) : Nat → Nat → Int32 := fun r o => crS L (nI r) (nI o) L.length
theorem shl31 : ∀ p, p < 7 → (1 : Int32) <<< (nI p &&& 31) = 1 <<< nI p := by decide +kernel
theorem ef_st {f g : Nat → Int32} {r : Nat} (h : ∀ j, j < r → f j = g j) : ∀ j, j < r + 1 → upd f r (g r) j = g j := fun j hj => by
  by_cases e : j = r
  · subst e; exact pk_us
  · rw [pk_un e]; exact h j (by omega)

set_option maxHeartbeats 4000000 in
set_option maxRecDepth 100000 in
/-- a turn of the law: its number, its arrays -/
theorem lw_a {p : Program} {l : Launch} {e : Env} {s : State} {m : MethodId} {below : List Frame} {meth : Method} {c : Code} {Q : State → Prop} {dC : Nat → ClassId} {dI : Nat → Nat → Nat} {cA cAA cAAA : ClassId} {A : Nat → Prop} {b9 LL : Nat} {xs : Nat → Int32} (E : lwC p l s m c b9 LL xs dC dI cA cAA cAAA A) (x0 : Nat) (r0 : Nat) (r1 : Nat) (r2 : Nat) (r3 : Nat) (a0 : Nat) (a1 : Nat) (a2 : Nat) (a3 : Nat) (y0 : Nat) (q0 : Nat) (p0 : Nat) (p1 : Nat) (rn : Nat) (L0 : List Int32) (f0 : Nat → Int32) (L1 : List Int32) (f1 : Nat → Int32) (n2 : Int32) (f2 : Nat → Int32) (n3 : Int32) (f3 : Nat → Int32) (t9 : Nat) (hR0 : RI L0 f0) (hR1 : RI L1 f1) (hk0 : okL rn L0) (hk1 : okL rn L1) (hl0 : L0.length ≤ 30) (hl1 : L1.length ≤ 30) (hrn : rn ∈ rnS) (hr6 : rn ≤ 6) (hr3 : 3 ≤ rn) (ht9 : t9 < 30) {H : Heap} {locs : List Loc} {cells slots : Nat} (hcz : cells ≤ 600000) (hsz : slots ≤ 7000000) (hP : va_P (dC, dI) vwCl [(x0, .inr (1, [.ref r0, .ref r1, .ref r2, .ref r3, .int (nI rn)])), (r0, .inr (0, [.ref a0, .int (nI L0.length)])), (a0, .inl (cA, (100, .inl f0))), (r1, .inr (0, [.ref a1, .int (nI L1.length)])), (a1, .inl (cA, (100, .inl f1))), (r2, .inr (0, [.ref a2, .int n2])), (a2, .inl (cA, (100, .inl f2))), (r3, .inr (0, [.ref a3, .int n3])), (a3, .inl (cA, (100, .inl f3))), (y0, .inr (2, [.int (nI rn), .ref q0])), (q0, .inl (cAA, (2, .inr (.inr (.inr (.inr (w2f p0 p1))))))), (p0, .inl (cA, (L0.length, .inl (atL L0)))), (p1, .inl (cA, (L1.length, .inl (atL L1))))] H) (hD : va_D A [(x0, .inr (1, [.ref r0, .ref r1, .ref r2, .ref r3, .int (nI rn)])), (r0, .inr (0, [.ref a0, .int (nI L0.length)])), (a0, .inl (cA, (100, .inl f0))), (r1, .inr (0, [.ref a1, .int (nI L1.length)])), (a1, .inl (cA, (100, .inl f1))), (r2, .inr (0, [.ref a2, .int n2])), (a2, .inl (cA, (100, .inl f2))), (r3, .inr (0, [.ref a3, .int n3])), (a3, .inl (cA, (100, .inl f3))), (y0, .inr (2, [.int (nI rn), .ref q0])), (q0, .inl (cAA, (2, .inr (.inr (.inr (.inr (w2f p0 p1))))))), (p0, .inl (cA, (L0.length, .inl (atL L0)))), (p1, .inl (cA, (L1.length, .inl (atL L1))))]) (hS : va_S A s.heap H locs) {ls : Array Slot} (hl : lv_has ls 17 [(4, .int (nI t9)), (3, .int (nI rn)), (2, .ref y0), (1, .ref x0), (0, .ref b9)])
    (K : ∀ (cells1 slots1 : Nat), cells1 ≤ cells + 18 → slots1 ≤ slots + 100 → ∀ (x5 : Int32) (ea : Nat) (e0 : Nat) (e1 : Nat) (ca : Nat) (c0 : Nat) (c1 : Nat) (Rr : Nat → Nat) (H1 : Heap) (locs1 : List Loc) (ls1 : Array Slot), va_P (dC, dI) vwCl ([(x0, .inr (1, [.ref r0, .ref r1, .ref r2, .ref r3, .int (nI rn)])), (r0, .inr (0, [.ref a0, .int (nI L0.length)])), (a0, .inl (cA, (100, .inl f0))), (r1, .inr (0, [.ref a1, .int (nI L1.length)])), (a1, .inl (cA, (100, .inl f1))), (r2, .inr (0, [.ref a2, .int n2])), (a2, .inl (cA, (100, .inl f2))), (r3, .inr (0, [.ref a3, .int n3])), (a3, .inl (cA, (100, .inl f3))), (y0, .inr (2, [.int (nI rn), .ref q0])), (q0, .inl (cAA, (2, .inr (.inr (.inr (.inr (w2f p0 p1))))))), (p0, .inl (cA, (L0.length, .inl (atL L0)))), (p1, .inl (cA, (L1.length, .inl (atL L1)))), (ea, .inl (cAA, (2, .inr (.inr (.inr (.inr (w2f e0 e1))))))), (e0, .inl (cA, (rn, .inl (fun _ => 0)))), (e1, .inl (cA, (rn, .inl (fun _ => 0)))), (ca, .inl (cAAA, (2, .inr (.inr (.inr (.inr (w2f c0 c1))))))), (c0, .inl (cAA, (rn, .inr (.inr (.inr (.inr (crF Rr))))))), (c1, .inl (cAA, (rn, .inr (.inr (.inr (.inr (crG Rr rn)))))))] ++ plR cA rn (2 * rn) Rr (fun _ _ => 0)) H1 → va_D A ([(x0, .inr (1, [.ref r0, .ref r1, .ref r2, .ref r3, .int (nI rn)])), (r0, .inr (0, [.ref a0, .int (nI L0.length)])), (a0, .inl (cA, (100, .inl f0))), (r1, .inr (0, [.ref a1, .int (nI L1.length)])), (a1, .inl (cA, (100, .inl f1))), (r2, .inr (0, [.ref a2, .int n2])), (a2, .inl (cA, (100, .inl f2))), (r3, .inr (0, [.ref a3, .int n3])), (a3, .inl (cA, (100, .inl f3))), (y0, .inr (2, [.int (nI rn), .ref q0])), (q0, .inl (cAA, (2, .inr (.inr (.inr (.inr (w2f p0 p1))))))), (p0, .inl (cA, (L0.length, .inl (atL L0)))), (p1, .inl (cA, (L1.length, .inl (atL L1)))), (ea, .inl (cAA, (2, .inr (.inr (.inr (.inr (w2f e0 e1))))))), (e0, .inl (cA, (rn, .inl (fun _ => 0)))), (e1, .inl (cA, (rn, .inl (fun _ => 0)))), (ca, .inl (cAAA, (2, .inr (.inr (.inr (.inr (w2f c0 c1))))))), (c0, .inl (cAA, (rn, .inr (.inr (.inr (.inr (crF Rr))))))), (c1, .inl (cAA, (rn, .inr (.inr (.inr (.inr (crG Rr rn)))))))] ++ plR cA rn (2 * rn) Rr (fun _ _ => 0)) → va_S A s.heap H1 locs1 → lv_has ls1 17 [(8, .int 0), (7, .ref ca), (6, .ref ea), (5, .int x5), (4, .int (nI t9)), (3, .int (nI rn)), (2, .ref y0), (1, .ref x0), (0, .ref b9)] → W p l e room_1 s m ([.ref b9] : List Value).toArray below meth c H1 locs1 cells1 slots1 Q (F0 m 83 ls1 [])) : W p l e room_1 s m ([.ref b9] : List Value).toArray below meth c H locs cells slots Q (F0 m 36 ls []) := by
  obtain ⟨hx, hb, hml, hown, hts, htr, hK, hA, hXX, hL2, hm3, ho2, ho3⟩ := id E
  have hK1 : va_K (dC, dI) vwCl [(cA, .int)] s := hK.sub [0] rfl
  have hK2 : va_K (dC, dI) vwCl [(cA, .int), (cAA, .array .int)] s := hK.sub [0, 1] rfl
  have hW0 := okW_of hk0
  have hW1 := okW_of hk1
  have hrr : rn * rn ≤ 36 := Nat.mul_le_mul hr6 hr6
  refine lv_aload_n hx hb dL_law_36 rfl (lv_at hl 4 rfl) ?_
  refine lv_iload hx hb dL_law_37 (lv_at hl 0 rfl) ?_
  refine lv_bipush (v := 16) hx hb dL_law_39 (by decide) ?_
  refine lv_irem hx hb dL_law_41 (by decide) ?_
  rw [show nI t9 - nI t9 / 16 * 16 = nI (t9 % 16) from pk_rem (by omega) (by decide) (by decide)]
  refine g_RXSi xS_st (As := [.ref b9, .int (nI (t9 % 16))]) (rest := []) ⟨hx, hb, hml, hown, hts⟩ (mt_L_cell l dC dI cA H.size b9 LL xs (t9 % 16) (by omega) (by omega)) (va_cwS 2 hts gL_law_L_cell rfl rfl rfl hdL_cell ⟨Nat.le_of_ble_eq_true rfl, Nat.le_of_ble_eq_true rfl⟩) hP hK1 hD hS hA hXX.1.2 [] (by decide) rfl rfl hl.1 rfl (Nat.le_of_ble_eq_true rfl) dL_law_42 (by show _ ≤ 600130; omega) (by show _ ≤ 7301080; omega) ?_
  refine lv_iload hx hb dL_law_45 (lv_at hl 0 rfl) ?_
  refine lv_bipush (v := 16) hx hb dL_law_47 (by decide) ?_
  refine lv_idiv hx hb dL_law_49 (by decide) ?_
  rw [show nI t9 / 16 = nI (t9 / 16) from pk_div (by omega) (by decide) (by decide)]
  refine lv_bipush (v := 6) hx hb dL_law_50 (by decide) ?_
  refine lv_imul hx hb dL_law_52 ?_
  rw [show ((nI (t9 / 16)) * 6 : Int32) = nI ((t9 / 16) * 6) from pk_mul (t9 / 16) 6]
  refine lv_ishr hx hb dL_law_53 ?_
  refine lv_sipush (v := 257) hx hb dL_law_54 (by decide) ?_
  refine lv_iload hx hb dL_law_57 (lv_at hl 0 rfl) ?_
  refine lv_imul hx hb dL_law_59 ?_
  rw [show ((257 : Int32) * (nI t9) : Int32) = nI (257 * t9) from pk_mul 257 t9]
  refine lv_iadd hx hb dL_law_60 ?_
  obtain ⟨x5, hx5⟩ : ∃ x, x = ((ceV LL xs (t9 % 16)) >>> (nI ((t9 / 16) * 6) &&& 31)) + (nI (257 * t9)) := ⟨_, rfl⟩
  rw [← hx5]
  refine lv_istore (lv' := [(5, .int x5), (4, .int (nI t9)), (3, .int (nI rn)), (2, .ref y0), (1, .ref x0), (0, .ref b9)]) hx hb dL_law_61 hl (by decide) rfl (fun ls hl => ?_)
  refine lv_iconst (v := 2) hx hb dL_law_63 (by decide) ?_
  refine lv_iload_n hx hb dL_law_64 rfl (lv_at hl 2 rfl) ?_
  refine va_mk2 hx hb hown (hts (.classLink RL 105 "[[I") (List.mem_of_getElem? (i := 3) rfl)) ho2 (hts (.arrayClass .int) (List.mem_of_getElem? (i := 4) rfl)) hK 0 1 rfl rfl hP hD hS hA (k := rn) (by omega) (by show _ ≤ 600130; omega) (by show _ ≤ 7301080; omega) dL_law_65 (fun ea e0 e1 H hP hD hS => ?_)
  have hP : va_P (dC, dI) vwCl [(x0, .inr (1, [.ref r0, .ref r1, .ref r2, .ref r3, .int (nI rn)])), (r0, .inr (0, [.ref a0, .int (nI L0.length)])), (a0, .inl (cA, (100, .inl f0))), (r1, .inr (0, [.ref a1, .int (nI L1.length)])), (a1, .inl (cA, (100, .inl f1))), (r2, .inr (0, [.ref a2, .int n2])), (a2, .inl (cA, (100, .inl f2))), (r3, .inr (0, [.ref a3, .int n3])), (a3, .inl (cA, (100, .inl f3))), (y0, .inr (2, [.int (nI rn), .ref q0])), (q0, .inl (cAA, (2, .inr (.inr (.inr (.inr (w2f p0 p1))))))), (p0, .inl (cA, (L0.length, .inl (atL L0)))), (p1, .inl (cA, (L1.length, .inl (atL L1)))), (ea, .inl (cAA, (2, .inr (.inr (.inr (.inr (w2f e0 e1))))))), (e0, .inl (cA, (rn, .inl (fun _ => 0)))), (e1, .inl (cA, (rn, .inl (fun _ => 0))))] H := hP
  have hD : va_D A [(x0, .inr (1, [.ref r0, .ref r1, .ref r2, .ref r3, .int (nI rn)])), (r0, .inr (0, [.ref a0, .int (nI L0.length)])), (a0, .inl (cA, (100, .inl f0))), (r1, .inr (0, [.ref a1, .int (nI L1.length)])), (a1, .inl (cA, (100, .inl f1))), (r2, .inr (0, [.ref a2, .int n2])), (a2, .inl (cA, (100, .inl f2))), (r3, .inr (0, [.ref a3, .int n3])), (a3, .inl (cA, (100, .inl f3))), (y0, .inr (2, [.int (nI rn), .ref q0])), (q0, .inl (cAA, (2, .inr (.inr (.inr (.inr (w2f p0 p1))))))), (p0, .inl (cA, (L0.length, .inl (atL L0)))), (p1, .inl (cA, (L1.length, .inl (atL L1)))), (ea, .inl (cAA, (2, .inr (.inr (.inr (.inr (w2f e0 e1))))))), (e0, .inl (cA, (rn, .inl (fun _ => 0)))), (e1, .inl (cA, (rn, .inl (fun _ => 0))))] := hD
  refine lv_astore (lv' := [(6, .ref ea), (5, .int x5), (4, .int (nI t9)), (3, .int (nI rn)), (2, .ref y0), (1, .ref x0), (0, .ref b9)]) hx hb dL_law_69 hl (by decide) rfl (fun ls hl => ?_)
  refine lv_iconst (v := 2) hx hb dL_law_71 (by decide) ?_
  refine lv_iload_n hx hb dL_law_72 rfl (lv_at hl 3 rfl) ?_
  refine lv_iload_n hx hb dL_law_73 rfl (lv_at hl 3 rfl) ?_
  refine va_mk3 hx hb hown hm3 ho3 ho2 (hts (.arrayClass .int) (List.mem_of_getElem? (i := 4) rfl)) hK 0 1 2 rfl rfl rfl hP hD hS hA (k := rn) (by omega) (by show _ ≤ 600130; omega) (by show _ ≤ 7301080; omega) dL_law_74 (fun ca c0 c1 Rr H hP hD hS => ?_)
  have hP : va_P (dC, dI) vwCl ([(x0, .inr (1, [.ref r0, .ref r1, .ref r2, .ref r3, .int (nI rn)])), (r0, .inr (0, [.ref a0, .int (nI L0.length)])), (a0, .inl (cA, (100, .inl f0))), (r1, .inr (0, [.ref a1, .int (nI L1.length)])), (a1, .inl (cA, (100, .inl f1))), (r2, .inr (0, [.ref a2, .int n2])), (a2, .inl (cA, (100, .inl f2))), (r3, .inr (0, [.ref a3, .int n3])), (a3, .inl (cA, (100, .inl f3))), (y0, .inr (2, [.int (nI rn), .ref q0])), (q0, .inl (cAA, (2, .inr (.inr (.inr (.inr (w2f p0 p1))))))), (p0, .inl (cA, (L0.length, .inl (atL L0)))), (p1, .inl (cA, (L1.length, .inl (atL L1)))), (ea, .inl (cAA, (2, .inr (.inr (.inr (.inr (w2f e0 e1))))))), (e0, .inl (cA, (rn, .inl (fun _ => 0)))), (e1, .inl (cA, (rn, .inl (fun _ => 0)))), (ca, .inl (cAAA, (2, .inr (.inr (.inr (.inr (w2f c0 c1))))))), (c0, .inl (cAA, (rn, .inr (.inr (.inr (.inr (crF Rr))))))), (c1, .inl (cAA, (rn, .inr (.inr (.inr (.inr (crG Rr rn)))))))] ++ plR cA rn (2 * rn) Rr (fun _ _ => 0)) H := hP
  have hD : va_D A ([(x0, .inr (1, [.ref r0, .ref r1, .ref r2, .ref r3, .int (nI rn)])), (r0, .inr (0, [.ref a0, .int (nI L0.length)])), (a0, .inl (cA, (100, .inl f0))), (r1, .inr (0, [.ref a1, .int (nI L1.length)])), (a1, .inl (cA, (100, .inl f1))), (r2, .inr (0, [.ref a2, .int n2])), (a2, .inl (cA, (100, .inl f2))), (r3, .inr (0, [.ref a3, .int n3])), (a3, .inl (cA, (100, .inl f3))), (y0, .inr (2, [.int (nI rn), .ref q0])), (q0, .inl (cAA, (2, .inr (.inr (.inr (.inr (w2f p0 p1))))))), (p0, .inl (cA, (L0.length, .inl (atL L0)))), (p1, .inl (cA, (L1.length, .inl (atL L1)))), (ea, .inl (cAA, (2, .inr (.inr (.inr (.inr (w2f e0 e1))))))), (e0, .inl (cA, (rn, .inl (fun _ => 0)))), (e1, .inl (cA, (rn, .inl (fun _ => 0)))), (ca, .inl (cAAA, (2, .inr (.inr (.inr (.inr (w2f c0 c1))))))), (c0, .inl (cAA, (rn, .inr (.inr (.inr (.inr (crF Rr))))))), (c1, .inl (cAA, (rn, .inr (.inr (.inr (.inr (crG Rr rn)))))))] ++ plR cA rn (2 * rn) Rr (fun _ _ => 0)) := hD
  refine lv_astore (lv' := [(7, .ref ca), (6, .ref ea), (5, .int x5), (4, .int (nI t9)), (3, .int (nI rn)), (2, .ref y0), (1, .ref x0), (0, .ref b9)]) hx hb dL_law_78 hl (by decide) rfl (fun ls hl => ?_)
  refine lv_iconst (v := 0) hx hb dL_law_80 (by decide) ?_
  refine lv_istore (lv' := [(8, .int 0), (7, .ref ca), (6, .ref ea), (5, .int x5), (4, .int (nI t9)), (3, .int (nI rn)), (2, .ref y0), (1, .ref x0), (0, .ref b9)]) hx hb dL_law_81 hl (by decide) rfl (fun ls hl => ?_)
  exact K ((cells + 3) + (1 + 2 * (1 + rn))) ((slots + (2 + 2 * rn)) + (2 + 2 * (rn + rn * rn))) (by omega) (by omega) x5 ea e0 e1 ca c0 c1 Rr _ _ _ hP hD hS (lv_sub hl [0, 1, 2, 3, 4, 5, 6, 7, 8] rfl)

set_option maxHeartbeats 4000000 in
set_option maxRecDepth 100000 in
/-- ends and crossings, of word 0 -/
theorem lw_b0 {p : Program} {l : Launch} {e : Env} {s : State} {m : MethodId} {below : List Frame} {meth : Method} {c : Code} {Q : State → Prop} {dC : Nat → ClassId} {dI : Nat → Nat → Nat} {cA cAA cAAA : ClassId} {A : Nat → Prop} {b9 LL : Nat} {xs : Nat → Int32} (E : lwC p l s m c b9 LL xs dC dI cA cAA cAAA A) (x0 : Nat) (r0 : Nat) (r1 : Nat) (r2 : Nat) (r3 : Nat) (a0 : Nat) (a1 : Nat) (a2 : Nat) (a3 : Nat) (y0 : Nat) (q0 : Nat) (p0 : Nat) (p1 : Nat) (rn : Nat) (L0 : List Int32) (f0 : Nat → Int32) (L1 : List Int32) (f1 : Nat → Int32) (n2 : Int32) (f2 : Nat → Int32) (n3 : Int32) (f3 : Nat → Int32) (t9 : Nat) (x5 : Int32) (ea : Nat) (e0 : Nat) (e1 : Nat) (ca : Nat) (c0 : Nat) (c1 : Nat) (Rr : Nat → Nat) (g0 : Nat → Int32) (g1 : Nat → Int32) (Fq : Nat → Nat → Int32) (hR0 : RI L0 f0) (hR1 : RI L1 f1) (hk0 : okL rn L0) (hk1 : okL rn L1) (hl0 : L0.length ≤ 30) (hl1 : L1.length ≤ 30) (hrn : rn ∈ rnS) (hr6 : rn ≤ 6) (hr3 : 3 ≤ rn) (hF0 : cvF (cvG rn L0 L1) Fq 0 0) {H : Heap} {locs : List Loc} {cells slots : Nat} (hcz : cells ≤ 600130) (hsz : slots ≤ 7301080) (hP : va_P (dC, dI) vwCl ([(x0, .inr (1, [.ref r0, .ref r1, .ref r2, .ref r3, .int (nI rn)])), (r0, .inr (0, [.ref a0, .int (nI L0.length)])), (a0, .inl (cA, (100, .inl f0))), (r1, .inr (0, [.ref a1, .int (nI L1.length)])), (a1, .inl (cA, (100, .inl f1))), (r2, .inr (0, [.ref a2, .int n2])), (a2, .inl (cA, (100, .inl f2))), (r3, .inr (0, [.ref a3, .int n3])), (a3, .inl (cA, (100, .inl f3))), (y0, .inr (2, [.int (nI rn), .ref q0])), (q0, .inl (cAA, (2, .inr (.inr (.inr (.inr (w2f p0 p1))))))), (p0, .inl (cA, (L0.length, .inl (atL L0)))), (p1, .inl (cA, (L1.length, .inl (atL L1)))), (ea, .inl (cAA, (2, .inr (.inr (.inr (.inr (w2f e0 e1))))))), (e0, .inl (cA, (rn, .inl g0))), (e1, .inl (cA, (rn, .inl g1))), (ca, .inl (cAAA, (2, .inr (.inr (.inr (.inr (w2f c0 c1))))))), (c0, .inl (cAA, (rn, .inr (.inr (.inr (.inr (crF Rr))))))), (c1, .inl (cAA, (rn, .inr (.inr (.inr (.inr (crG Rr rn)))))))] ++ plR cA rn (2 * rn) Rr Fq) H) (hD : va_D A ([(x0, .inr (1, [.ref r0, .ref r1, .ref r2, .ref r3, .int (nI rn)])), (r0, .inr (0, [.ref a0, .int (nI L0.length)])), (a0, .inl (cA, (100, .inl f0))), (r1, .inr (0, [.ref a1, .int (nI L1.length)])), (a1, .inl (cA, (100, .inl f1))), (r2, .inr (0, [.ref a2, .int n2])), (a2, .inl (cA, (100, .inl f2))), (r3, .inr (0, [.ref a3, .int n3])), (a3, .inl (cA, (100, .inl f3))), (y0, .inr (2, [.int (nI rn), .ref q0])), (q0, .inl (cAA, (2, .inr (.inr (.inr (.inr (w2f p0 p1))))))), (p0, .inl (cA, (L0.length, .inl (atL L0)))), (p1, .inl (cA, (L1.length, .inl (atL L1)))), (ea, .inl (cAA, (2, .inr (.inr (.inr (.inr (w2f e0 e1))))))), (e0, .inl (cA, (rn, .inl g0))), (e1, .inl (cA, (rn, .inl g1))), (ca, .inl (cAAA, (2, .inr (.inr (.inr (.inr (w2f c0 c1))))))), (c0, .inl (cAA, (rn, .inr (.inr (.inr (.inr (crF Rr))))))), (c1, .inl (cAA, (rn, .inr (.inr (.inr (.inr (crG Rr rn)))))))] ++ plR cA rn (2 * rn) Rr Fq)) (hS : va_S A s.heap H locs) {ls : Array Slot} (hl : lv_has ls 17 [(8, .int 0), (7, .ref ca), (6, .ref ea), (5, .int x5), (4, .int (nI t9)), (3, .int (nI rn)), (2, .ref y0), (1, .ref x0), (0, .ref b9)])
    (K : ∀ (ef : Nat → Int32) (F : Nat → Nat → Int32) (H1 : Heap) (locs1 : List Loc) (ls1 : Array Slot), (∀ j, j < rn → ef j = plE L0 (nI j) L0.length) → cvF (cvG rn L0 L1) F (rn) 0 → va_P (dC, dI) vwCl ([(x0, .inr (1, [.ref r0, .ref r1, .ref r2, .ref r3, .int (nI rn)])), (r0, .inr (0, [.ref a0, .int (nI L0.length)])), (a0, .inl (cA, (100, .inl f0))), (r1, .inr (0, [.ref a1, .int (nI L1.length)])), (a1, .inl (cA, (100, .inl f1))), (r2, .inr (0, [.ref a2, .int n2])), (a2, .inl (cA, (100, .inl f2))), (r3, .inr (0, [.ref a3, .int n3])), (a3, .inl (cA, (100, .inl f3))), (y0, .inr (2, [.int (nI rn), .ref q0])), (q0, .inl (cAA, (2, .inr (.inr (.inr (.inr (w2f p0 p1))))))), (p0, .inl (cA, (L0.length, .inl (atL L0)))), (p1, .inl (cA, (L1.length, .inl (atL L1)))), (ea, .inl (cAA, (2, .inr (.inr (.inr (.inr (w2f e0 e1))))))), (e0, .inl (cA, (rn, .inl ef))), (e1, .inl (cA, (rn, .inl g1))), (ca, .inl (cAAA, (2, .inr (.inr (.inr (.inr (w2f c0 c1))))))), (c0, .inl (cAA, (rn, .inr (.inr (.inr (.inr (crF Rr))))))), (c1, .inl (cAA, (rn, .inr (.inr (.inr (.inr (crG Rr rn)))))))] ++ plR cA rn (2 * rn) Rr F) H1 → va_D A ([(x0, .inr (1, [.ref r0, .ref r1, .ref r2, .ref r3, .int (nI rn)])), (r0, .inr (0, [.ref a0, .int (nI L0.length)])), (a0, .inl (cA, (100, .inl f0))), (r1, .inr (0, [.ref a1, .int (nI L1.length)])), (a1, .inl (cA, (100, .inl f1))), (r2, .inr (0, [.ref a2, .int n2])), (a2, .inl (cA, (100, .inl f2))), (r3, .inr (0, [.ref a3, .int n3])), (a3, .inl (cA, (100, .inl f3))), (y0, .inr (2, [.int (nI rn), .ref q0])), (q0, .inl (cAA, (2, .inr (.inr (.inr (.inr (w2f p0 p1))))))), (p0, .inl (cA, (L0.length, .inl (atL L0)))), (p1, .inl (cA, (L1.length, .inl (atL L1)))), (ea, .inl (cAA, (2, .inr (.inr (.inr (.inr (w2f e0 e1))))))), (e0, .inl (cA, (rn, .inl ef))), (e1, .inl (cA, (rn, .inl g1))), (ca, .inl (cAAA, (2, .inr (.inr (.inr (.inr (w2f c0 c1))))))), (c0, .inl (cAA, (rn, .inr (.inr (.inr (.inr (crF Rr))))))), (c1, .inl (cAA, (rn, .inr (.inr (.inr (.inr (crG Rr rn)))))))] ++ plR cA rn (2 * rn) Rr F) → va_S A s.heap H1 locs1 → lv_has ls1 17 [(9, .int (accL L0 sgI L0.length)), (8, .int 0), (7, .ref ca), (6, .ref ea), (5, .int x5), (4, .int (nI t9)), (3, .int (nI rn)), (2, .ref y0), (1, .ref x0), (0, .ref b9)] → W p l e room_1 s m ([.ref b9] : List Value).toArray below meth c H1 locs1 cells slots Q (F0 m 342 ls1 [])) : W p l e room_1 s m ([.ref b9] : List Value).toArray below meth c H locs cells slots Q (F0 m 83 ls []) := by
  obtain ⟨hx, hb, hml, hown, hts, htr, hK, hA, hXX, hL2, hm3, ho2, ho3⟩ := id E
  have hK1 : va_K (dC, dI) vwCl [(cA, .int)] s := hK.sub [0] rfl
  have hK2 : va_K (dC, dI) vwCl [(cA, .int), (cAA, .array .int)] s := hK.sub [0, 1] rfl
  have hW0 := okW_of hk0
  have hW1 := okW_of hk1
  refine lv_iload hx hb dL_law_83 (lv_at hl 0 rfl) ?_
  refine lv_iconst (v := 2) hx hb dL_law_85 (by decide) ?_
  refine lv_icmp_ge (tgt := 763) hx hb dL_law_86 (by decide) (fun c86 => ?_) (fun c86 => ?_)
  · exact absurd c86 (by decide)
  · have c86 : 0 < 2 := g_geF 0 2 (by omega) (by omega) c86
    refine lv_iconst (v := 0) hx hb dL_law_89 (by decide) ?_
    refine lv_istore (lv' := [(9, .int 0), (8, .int 0), (7, .ref ca), (6, .ref ea), (5, .int x5), (4, .int (nI t9)), (3, .int (nI rn)), (2, .ref y0), (1, .ref x0), (0, .ref b9)]) hx hb dL_law_90 hl (by decide) rfl (fun ls hl => ?_)
    refine lv_iconst (v := 0) hx hb dL_law_92 (by decide) ?_
    refine lv_istore (lv' := [(10, .int 0), (9, .int 0), (8, .int 0), (7, .ref ca), (6, .ref ea), (5, .int x5), (4, .int (nI t9)), (3, .int (nI rn)), (2, .ref y0), (1, .ref x0), (0, .ref b9)]) hx hb dL_law_93 hl (by decide) rfl (fun ls hl => ?_)
    refine lv_iconst (v := 0) hx hb dL_law_95 (by decide) ?_
    refine lv_istore (lv' := [(11, .int 0), (10, .int 0), (9, .int 0), (8, .int 0), (7, .ref ca), (6, .ref ea), (5, .int x5), (4, .int (nI t9)), (3, .int (nI rn)), (2, .ref y0), (1, .ref x0), (0, .ref b9)]) hx hb dL_law_96 hl (by decide) rfl (fun ls hl => ?_)
    have lpr98 : ∀ (d : Nat) (r : Nat) (ef : Nat → Int32) (F : Nat → Nat → Int32) (hr9 : r ≤ rn) (hef : ∀ j, j < r → ef j = plE L0 (nI j) L0.length) (hF : cvF (cvG rn L0 L1) F (r) 0), rn - r < d → ∀ (H : Heap) (locs : List Loc), va_P (dC, dI) vwCl ([(x0, .inr (1, [.ref r0, .ref r1, .ref r2, .ref r3, .int (nI rn)])), (r0, .inr (0, [.ref a0, .int (nI L0.length)])), (a0, .inl (cA, (100, .inl f0))), (r1, .inr (0, [.ref a1, .int (nI L1.length)])), (a1, .inl (cA, (100, .inl f1))), (r2, .inr (0, [.ref a2, .int n2])), (a2, .inl (cA, (100, .inl f2))), (r3, .inr (0, [.ref a3, .int n3])), (a3, .inl (cA, (100, .inl f3))), (y0, .inr (2, [.int (nI rn), .ref q0])), (q0, .inl (cAA, (2, .inr (.inr (.inr (.inr (w2f p0 p1))))))), (p0, .inl (cA, (L0.length, .inl (atL L0)))), (p1, .inl (cA, (L1.length, .inl (atL L1)))), (ea, .inl (cAA, (2, .inr (.inr (.inr (.inr (w2f e0 e1))))))), (e0, .inl (cA, (rn, .inl ef))), (e1, .inl (cA, (rn, .inl g1))), (ca, .inl (cAAA, (2, .inr (.inr (.inr (.inr (w2f c0 c1))))))), (c0, .inl (cAA, (rn, .inr (.inr (.inr (.inr (crF Rr))))))), (c1, .inl (cAA, (rn, .inr (.inr (.inr (.inr (crG Rr rn)))))))] ++ plR cA rn (2 * rn) Rr F) H → va_D A ([(x0, .inr (1, [.ref r0, .ref r1, .ref r2, .ref r3, .int (nI rn)])), (r0, .inr (0, [.ref a0, .int (nI L0.length)])), (a0, .inl (cA, (100, .inl f0))), (r1, .inr (0, [.ref a1, .int (nI L1.length)])), (a1, .inl (cA, (100, .inl f1))), (r2, .inr (0, [.ref a2, .int n2])), (a2, .inl (cA, (100, .inl f2))), (r3, .inr (0, [.ref a3, .int n3])), (a3, .inl (cA, (100, .inl f3))), (y0, .inr (2, [.int (nI rn), .ref q0])), (q0, .inl (cAA, (2, .inr (.inr (.inr (.inr (w2f p0 p1))))))), (p0, .inl (cA, (L0.length, .inl (atL L0)))), (p1, .inl (cA, (L1.length, .inl (atL L1)))), (ea, .inl (cAA, (2, .inr (.inr (.inr (.inr (w2f e0 e1))))))), (e0, .inl (cA, (rn, .inl ef))), (e1, .inl (cA, (rn, .inl g1))), (ca, .inl (cAAA, (2, .inr (.inr (.inr (.inr (w2f c0 c1))))))), (c0, .inl (cAA, (rn, .inr (.inr (.inr (.inr (crF Rr))))))), (c1, .inl (cAA, (rn, .inr (.inr (.inr (.inr (crG Rr rn)))))))] ++ plR cA rn (2 * rn) Rr F) → va_S A s.heap H locs → ∀ ls : Array Slot, lv_has ls 17 [(11, .int (nI r)), (10, .int (mkI L0 r)), (9, .int (sumP (crP L0) r)), (8, .int 0), (7, .ref ca), (6, .ref ea), (5, .int x5), (4, .int (nI t9)), (3, .int (nI rn)), (2, .ref y0), (1, .ref x0), (0, .ref b9)] → W p l e room_1 s m ([.ref b9] : List Value).toArray below meth c H locs cells slots Q (F0 m 98 ls []) := by
      intro d
      induction d with
      | zero => intro r ef F hr9 hef hF hd; exact absurd hd (Nat.not_lt_zero _)
      | succ d ih98 =>
        intro r ef F hr9 hef hF hd H locs hP hD hS ls hl
        refine lv_iload hx hb dL_law_98 (lv_at hl 0 rfl) ?_
        refine lv_iload_n hx hb dL_law_100 rfl (lv_at hl 8 rfl) ?_
        refine lv_icmp_ge (tgt := 285) hx hb dL_law_101 (by decide) (fun c101 => ?_) (fun c101 => ?_)
        · have c101 : rn ≤ r := g_geT r rn (by omega) (by omega) c101
          have hre : rn = r := by omega
          subst hre
          refine lv_iload hx hb dL_law_285 (lv_at hl 1 rfl) ?_
          refine lv_iconst (v := 1) hx hb dL_law_287 (by decide) ?_
          refine lv_iload_n hx hb dL_law_288 rfl (lv_at hl 8 rfl) ?_
          refine lv_ishl hx hb dL_law_289 ?_
          rw [show (1 : Int32) <<< (nI rn &&& 31) = 1 <<< nI rn from shl31 rn (by omega)]
          refine lv_iconst (v := 1) hx hb dL_law_290 (by decide) ?_
          refine lv_isub hx hb dL_law_291 ?_
          refine lv_icmp_ne (tgt := 340) hx hb dL_law_292 (by decide) (fun c292 => ?_) (fun c292 => ?_)
          · exact absurd (mk_end hrn hr6 hk0) c292
          · refine lv_iload hx hb dL_law_295 (lv_at hl 2 rfl) ?_
            refine lv_aload_n hx hb dL_law_297 rfl (lv_at hl 10 rfl) ?_
            refine lv_iconst (v := 3) hx hb dL_law_298 (by decide) ?_
            refine lv_iload hx hb dL_law_299 (lv_at hl 3 rfl) ?_
            refine lv_iadd hx hb dL_law_301 ?_
            rw [show (3 : Int32) + 0 = 3 from by decide]
            refine g_RVi (As := [.int 3]) (rest := [.int (sumP (crP L0) rn)]) ⟨hx, hb, hml, hown, hts⟩ (mt_X1_count l dC dI cA H.size x0 r0 r1 r2 r3 rn a0 a1 L0 f0 L1 f1 3 hR0 hR1 (by first | omega | (simp only [List.length_append, List.length_cons, List.length_nil, List.length_set, turnL_len]; omega))) (cwV 1 hts gL_law_X1_count rfl rfl rfl hdX1_count ⟨Nat.le_of_ble_eq_true rfl, Nat.le_of_ble_eq_true rfl⟩) hP hK1 hD [0, 1, 2, 3, 4] (by decide) rfl (va_recv hK hP (ci := 1) (q0 := 0) rfl rfl) rfl hl.1 rfl (Nat.le_of_ble_eq_true rfl) dL_law_302 (by show _ ≤ 600130; omega) (by show _ ≤ 7301080; omega) ?_
            refine lv_icmp_ne (tgt := 340) hx hb dL_law_305 (by decide) (fun c305 => ?_) (fun c305 => ?_)
            · exact absurd (show sumP (crP L0) rn = coI rn L0 L1 3 from sum_cr hrn hr6 hk0 (Nat.le_refl _)) c305
            · rw [show sumP (crP L0) rn = accL L0 sgI L0.length from sum_cr hrn hr6 hk0 (Nat.le_refl _)] at hl
              refine lv_iload hx hb dL_law_308 (lv_at hl 2 rfl) ?_
              refine va_mabs hx hb (hml.trans hl.1.symm) hown (hts (.methodLink RL 57 Lib.Math.abs.name) (List.mem_of_getElem? (i := 5) rfl)) (hts (.static Lib.Math.abs.name) (List.mem_of_getElem? (i := 6) rfl)) (hts (.initialized "java/lang/Math") (List.mem_of_getElem? (i := 7) rfl)) (hts (.code Lib.Math.abs.name Lib.Math.abs.code 1 (some .int)) (List.mem_of_getElem? (i := 8) rfl)) (Nat.le_of_ble_eq_true rfl) (Nat.le_of_ble_eq_true rfl) (by show _ ≤ 600130; omega) (by show _ ≤ 7301080; omega) dL_law_310 ?_
              rw [mabs_eq]
              refine lv_aload_n hx hb dL_law_313 rfl (lv_at hl 10 rfl) ?_
              refine lv_iconst (v := 1) hx hb dL_law_314 (by decide) ?_
              refine lv_iload hx hb dL_law_315 (lv_at hl 3 rfl) ?_
              refine lv_iadd hx hb dL_law_317 ?_
              rw [show (1 : Int32) + 0 = 1 from by decide]
              refine g_RVi (As := [.int 1]) (rest := [.int (abI (accL L0 sgI L0.length))]) ⟨hx, hb, hml, hown, hts⟩ (mt_X1_count l dC dI cA H.size x0 r0 r1 r2 r3 rn a0 a1 L0 f0 L1 f1 1 hR0 hR1 (by first | omega | (simp only [List.length_append, List.length_cons, List.length_nil, List.length_set, turnL_len]; omega))) (cwV 1 hts gL_law_X1_count rfl rfl rfl hdX1_count ⟨Nat.le_of_ble_eq_true rfl, Nat.le_of_ble_eq_true rfl⟩) hP hK1 hD [0, 1, 2, 3, 4] (by decide) rfl (va_recv hK hP (ci := 1) (q0 := 0) rfl rfl) rfl hl.1 rfl (Nat.le_of_ble_eq_true rfl) dL_law_318 (by show _ ≤ 600130; omega) (by show _ ≤ 7301080; omega) ?_
              refine lv_icmp_gt (tgt := 340) hx hb dL_law_321 (by decide) (fun c321 => ?_) (fun c321 => ?_)
              · exact absurd c321 (fS hW0 hl0).1
              · refine lv_iload hx hb dL_law_324 (lv_at hl 2 rfl) ?_
                refine lv_aload_n hx hb dL_law_326 rfl (lv_at hl 10 rfl) ?_
                refine lv_iconst (v := 1) hx hb dL_law_327 (by decide) ?_
                refine lv_iload hx hb dL_law_328 (lv_at hl 3 rfl) ?_
                refine lv_iadd hx hb dL_law_330 ?_
                rw [show (1 : Int32) + 0 = 1 from by decide]
                refine g_RVi (As := [.int 1]) (rest := [.int (accL L0 sgI L0.length)]) ⟨hx, hb, hml, hown, hts⟩ (mt_X1_count l dC dI cA H.size x0 r0 r1 r2 r3 rn a0 a1 L0 f0 L1 f1 1 hR0 hR1 (by first | omega | (simp only [List.length_append, List.length_cons, List.length_nil, List.length_set, turnL_len]; omega))) (cwV 1 hts gL_law_X1_count rfl rfl rfl hdX1_count ⟨Nat.le_of_ble_eq_true rfl, Nat.le_of_ble_eq_true rfl⟩) hP hK1 hD [0, 1, 2, 3, 4] (by decide) rfl (va_recv hK hP (ci := 1) (q0 := 0) rfl rfl) rfl hl.1 rfl (Nat.le_of_ble_eq_true rfl) dL_law_331 (by show _ ≤ 600130; omega) (by show _ ≤ 7301080; omega) ?_
                refine lv_isub hx hb dL_law_334 ?_
                refine lv_iconst (v := 2) hx hb dL_law_335 (by decide) ?_
                refine lv_irem hx hb dL_law_336 (by decide) ?_
                refine lv_if_eq (tgt := 342) hx hb dL_law_337 (by decide) (fun c337 => ?_) (fun c337 => ?_)
                · exact K ef F _ _ _ hef hF hP hD hS (lv_sub hl [2, 3, 4, 5, 6, 7, 8, 9, 10, 11] rfl)
                · exact absurd (fS hW0 hl0).2 c337
        · have c101 : r < rn := g_geF r rn (by omega) (by omega) c101
          refine lv_aload hx hb dL_law_104 (lv_at hl 5 rfl) ?_
          refine lv_iload hx hb dL_law_106 (lv_at hl 3 rfl) ?_
          refine va_ald2 hx hb hK hP 13 1 rfl rfl (vp_in_nI (n := 0) (by omega) (by decide)) dL_law_108 ?_
          rw [show va_rf ((w2f e0 e1) (0 : Int32).toNatClampNeg) = .ref e0 from (by rw [show (0 : Int32).toNatClampNeg = 0 from by decide]; rfl)]
          refine lv_iload hx hb dL_law_109 (lv_at hl 0 rfl) ?_
          refine lv_aload_n hx hb dL_law_111 rfl (lv_at hl 10 rfl) ?_
          refine lv_iload hx hb dL_law_112 (lv_at hl 3 rfl) ?_
          refine lv_iload hx hb dL_law_114 (lv_at hl 0 rfl) ?_
          refine g_RVi (As := [.int 0, .int (nI r)]) (rest := [.int (nI r), .ref e0]) ⟨hx, hb, hml, hown, hts⟩ (mt_X1_end0 l dC dI cA H.size x0 r0 r1 r2 r3 rn a0 L0 f0 (nI r) hR0 (nI_pos (by omega)) (nI_lt (by omega) (by omega))) (cwV 2 hts gL_law_X1_end rfl rfl rfl hdX1_end ⟨Nat.le_of_ble_eq_true rfl, Nat.le_of_ble_eq_true rfl⟩) hP hK1 hD [0, 1, 2] (by decide) rfl (va_recv hK hP (ci := 1) (q0 := 0) rfl rfl) rfl hl.1 rfl (Nat.le_of_ble_eq_true rfl) dL_law_116 (by show _ ≤ 600130; omega) (by show _ ≤ 7301080; omega) ?_
          refine va_iast hx hb hK hP hD hS 14 0 rfl rfl (vp_in_nI (by omega) (by omega)) dL_law_119 (fun H locs hP hD hS => ?_)
          rw [show (nI r).toNatClampNeg = r from nI_clamp (by omega)] at hP hD
          have hP : va_P (dC, dI) vwCl ([(x0, .inr (1, [.ref r0, .ref r1, .ref r2, .ref r3, .int (nI rn)])), (r0, .inr (0, [.ref a0, .int (nI L0.length)])), (a0, .inl (cA, (100, .inl f0))), (r1, .inr (0, [.ref a1, .int (nI L1.length)])), (a1, .inl (cA, (100, .inl f1))), (r2, .inr (0, [.ref a2, .int n2])), (a2, .inl (cA, (100, .inl f2))), (r3, .inr (0, [.ref a3, .int n3])), (a3, .inl (cA, (100, .inl f3))), (y0, .inr (2, [.int (nI rn), .ref q0])), (q0, .inl (cAA, (2, .inr (.inr (.inr (.inr (w2f p0 p1))))))), (p0, .inl (cA, (L0.length, .inl (atL L0)))), (p1, .inl (cA, (L1.length, .inl (atL L1)))), (ea, .inl (cAA, (2, .inr (.inr (.inr (.inr (w2f e0 e1))))))), (e0, .inl (cA, (rn, .inl (upd ef r (plE L0 (nI r) L0.length))))), (e1, .inl (cA, (rn, .inl g1))), (ca, .inl (cAAA, (2, .inr (.inr (.inr (.inr (w2f c0 c1))))))), (c0, .inl (cAA, (rn, .inr (.inr (.inr (.inr (crF Rr))))))), (c1, .inl (cAA, (rn, .inr (.inr (.inr (.inr (crG Rr rn)))))))] ++ plR cA rn (2 * rn) Rr F) H := hP
          have hD : va_D A ([(x0, .inr (1, [.ref r0, .ref r1, .ref r2, .ref r3, .int (nI rn)])), (r0, .inr (0, [.ref a0, .int (nI L0.length)])), (a0, .inl (cA, (100, .inl f0))), (r1, .inr (0, [.ref a1, .int (nI L1.length)])), (a1, .inl (cA, (100, .inl f1))), (r2, .inr (0, [.ref a2, .int n2])), (a2, .inl (cA, (100, .inl f2))), (r3, .inr (0, [.ref a3, .int n3])), (a3, .inl (cA, (100, .inl f3))), (y0, .inr (2, [.int (nI rn), .ref q0])), (q0, .inl (cAA, (2, .inr (.inr (.inr (.inr (w2f p0 p1))))))), (p0, .inl (cA, (L0.length, .inl (atL L0)))), (p1, .inl (cA, (L1.length, .inl (atL L1)))), (ea, .inl (cAA, (2, .inr (.inr (.inr (.inr (w2f e0 e1))))))), (e0, .inl (cA, (rn, .inl (upd ef r (plE L0 (nI r) L0.length))))), (e1, .inl (cA, (rn, .inl g1))), (ca, .inl (cAAA, (2, .inr (.inr (.inr (.inr (w2f c0 c1))))))), (c0, .inl (cAA, (rn, .inr (.inr (.inr (.inr (crF Rr))))))), (c1, .inl (cAA, (rn, .inr (.inr (.inr (.inr (crG Rr rn)))))))] ++ plR cA rn (2 * rn) Rr F) := hD
          refine lv_iload hx hb dL_law_120 (lv_at hl 1 rfl) ?_
          refine lv_iconst (v := 1) hx hb dL_law_122 (by decide) ?_
          refine lv_aload hx hb dL_law_123 (lv_at hl 5 rfl) ?_
          refine lv_iload hx hb dL_law_125 (lv_at hl 3 rfl) ?_
          refine va_ald2 hx hb hK hP 13 1 rfl rfl (vp_in_nI (n := 0) (by omega) (by decide)) dL_law_127 ?_
          rw [show va_rf ((w2f e0 e1) (0 : Int32).toNatClampNeg) = .ref e0 from (by rw [show (0 : Int32).toNatClampNeg = 0 from by decide]; rfl)]
          refine lv_iload hx hb dL_law_128 (lv_at hl 0 rfl) ?_
          refine va_iald hx hb hK hP 14 0 rfl rfl (vp_in_nI (by omega) (by omega)) dL_law_130 ?_
          rw [show (nI r).toNatClampNeg = r from nI_clamp (by omega)]
          rw [show (upd ef r (plE L0 (nI r) L0.length)) r = plE L0 (nI r) L0.length from pk_us]
          refine lv_ishl hx hb dL_law_131 ?_
          obtain ⟨p9, hp9, hpe⟩ := pl_lt hrn hk0 (show r < rn by omega) (Nat.le_refl L0.length)
          rw [show (1 : Int32) <<< (plE L0 (nI r) L0.length &&& 31) = 1 <<< plE L0 (nI r) L0.length from by rw [hpe]; exact shl31 p9 (by omega)]
          refine lv_ior hx hb dL_law_132 ?_
          rw [show mkI L0 r ||| (1 <<< plE L0 (nI r) L0.length) = mkI L0 (r + 1) from rfl]
          refine lv_istore (lv' := [(10, .int (mkI L0 (r + 1))), (11, .int (nI r)), (9, .int (sumP (crP L0) r)), (8, .int 0), (7, .ref ca), (6, .ref ea), (5, .int x5), (4, .int (nI t9)), (3, .int (nI rn)), (2, .ref y0), (1, .ref x0), (0, .ref b9)]) hx hb dL_law_133 hl (by decide) rfl (fun ls hl => ?_)
          refine lv_iconst (v := 0) hx hb dL_law_135 (by decide) ?_
          refine lv_istore (lv' := [(12, .int 0), (10, .int (mkI L0 (r + 1))), (11, .int (nI r)), (9, .int (sumP (crP L0) r)), (8, .int 0), (7, .ref ca), (6, .ref ea), (5, .int x5), (4, .int (nI t9)), (3, .int (nI rn)), (2, .ref y0), (1, .ref x0), (0, .ref b9)]) hx hb dL_law_136 hl (by decide) rfl (fun ls hl => ?_)
          have lpo138 : ∀ (d : Nat) (o : Nat) (F2 : Nat → Nat → Int32) (ho9 : o ≤ rn) (hF2 : cvF (cvG rn L0 L1) F2 (r) o), rn - o < d → ∀ (H : Heap) (locs : List Loc), va_P (dC, dI) vwCl ([(x0, .inr (1, [.ref r0, .ref r1, .ref r2, .ref r3, .int (nI rn)])), (r0, .inr (0, [.ref a0, .int (nI L0.length)])), (a0, .inl (cA, (100, .inl f0))), (r1, .inr (0, [.ref a1, .int (nI L1.length)])), (a1, .inl (cA, (100, .inl f1))), (r2, .inr (0, [.ref a2, .int n2])), (a2, .inl (cA, (100, .inl f2))), (r3, .inr (0, [.ref a3, .int n3])), (a3, .inl (cA, (100, .inl f3))), (y0, .inr (2, [.int (nI rn), .ref q0])), (q0, .inl (cAA, (2, .inr (.inr (.inr (.inr (w2f p0 p1))))))), (p0, .inl (cA, (L0.length, .inl (atL L0)))), (p1, .inl (cA, (L1.length, .inl (atL L1)))), (ea, .inl (cAA, (2, .inr (.inr (.inr (.inr (w2f e0 e1))))))), (e0, .inl (cA, (rn, .inl (upd ef r (plE L0 (nI r) L0.length))))), (e1, .inl (cA, (rn, .inl g1))), (ca, .inl (cAAA, (2, .inr (.inr (.inr (.inr (w2f c0 c1))))))), (c0, .inl (cAA, (rn, .inr (.inr (.inr (.inr (crF Rr))))))), (c1, .inl (cAA, (rn, .inr (.inr (.inr (.inr (crG Rr rn)))))))] ++ plR cA rn (2 * rn) Rr F2) H → va_D A ([(x0, .inr (1, [.ref r0, .ref r1, .ref r2, .ref r3, .int (nI rn)])), (r0, .inr (0, [.ref a0, .int (nI L0.length)])), (a0, .inl (cA, (100, .inl f0))), (r1, .inr (0, [.ref a1, .int (nI L1.length)])), (a1, .inl (cA, (100, .inl f1))), (r2, .inr (0, [.ref a2, .int n2])), (a2, .inl (cA, (100, .inl f2))), (r3, .inr (0, [.ref a3, .int n3])), (a3, .inl (cA, (100, .inl f3))), (y0, .inr (2, [.int (nI rn), .ref q0])), (q0, .inl (cAA, (2, .inr (.inr (.inr (.inr (w2f p0 p1))))))), (p0, .inl (cA, (L0.length, .inl (atL L0)))), (p1, .inl (cA, (L1.length, .inl (atL L1)))), (ea, .inl (cAA, (2, .inr (.inr (.inr (.inr (w2f e0 e1))))))), (e0, .inl (cA, (rn, .inl (upd ef r (plE L0 (nI r) L0.length))))), (e1, .inl (cA, (rn, .inl g1))), (ca, .inl (cAAA, (2, .inr (.inr (.inr (.inr (w2f c0 c1))))))), (c0, .inl (cAA, (rn, .inr (.inr (.inr (.inr (crF Rr))))))), (c1, .inl (cAA, (rn, .inr (.inr (.inr (.inr (crG Rr rn)))))))] ++ plR cA rn (2 * rn) Rr F2) → va_S A s.heap H locs → ∀ ls : Array Slot, lv_has ls 17 [(12, .int (nI o)), (11, .int (nI r)), (10, .int (mkI L0 (r + 1))), (9, .int (sumP (crP L0) r)), (8, .int 0), (7, .ref ca), (6, .ref ea), (5, .int x5), (4, .int (nI t9)), (3, .int (nI rn)), (2, .ref y0), (1, .ref x0), (0, .ref b9)] → W p l e room_1 s m ([.ref b9] : List Value).toArray below meth c H locs cells slots Q (F0 m 138 ls []) := by
            intro d
            induction d with
            | zero => intro o F2 ho9 hF2 hd; exact absurd hd (Nat.not_lt_zero _)
            | succ d ih138 =>
              intro o F2 ho9 hF2 hd H locs hP hD hS ls hl
              refine lv_iload hx hb dL_law_138 (lv_at hl 0 rfl) ?_
              refine lv_iload_n hx hb dL_law_140 rfl (lv_at hl 9 rfl) ?_
              refine lv_icmp_ge (tgt := 178) hx hb dL_law_141 (by decide) (fun c141 => ?_) (fun c141 => ?_)
              · have c141 : rn ≤ o := g_geT o rn (by omega) (by omega) c141
                have hoe : o = rn := by omega
                rw [hoe] at hF2
                have hF3 := cvF_row hF2 (fun b hb9 => cvG_0o (by omega) hb9)
                refine lv_iconst (v := 0) hx hb dL_law_178 (by decide) ?_
                refine lv_istore (lv' := [(12, .int 0), (11, .int (nI r)), (10, .int (mkI L0 (r + 1))), (9, .int (sumP (crP L0) r)), (8, .int 0), (7, .ref ca), (6, .ref ea), (5, .int x5), (4, .int (nI t9)), (3, .int (nI rn)), (2, .ref y0), (1, .ref x0), (0, .ref b9)]) hx hb dL_law_179 hl (by decide) rfl (fun ls hl => ?_)
                rw [show sumP (crP L0) r = sumP (crP L0) r + rowP (crP L0) r 0 from (Int32.add_zero _).symm] at hl
                have lpu181 : ∀ (d : Nat) (u : Nat) (hu9 : u ≤ r), r - u < d → ∀ ls : Array Slot, lv_has ls 17 [(12, .int (nI u)), (11, .int (nI r)), (10, .int (mkI L0 (r + 1))), (9, .int (sumP (crP L0) r + rowP (crP L0) r u)), (8, .int 0), (7, .ref ca), (6, .ref ea), (5, .int x5), (4, .int (nI t9)), (3, .int (nI rn)), (2, .ref y0), (1, .ref x0), (0, .ref b9)] → W p l e room_1 s m ([.ref b9] : List Value).toArray below meth c H locs cells slots Q (F0 m 181 ls []) := by
                  intro d
                  induction d with
                  | zero => intro u hu9 hd; exact absurd hd (Nat.not_lt_zero _)
                  | succ d ih181 =>
                    intro u hu9 hd ls hl
                    refine lv_iload hx hb dL_law_181 (lv_at hl 0 rfl) ?_
                    refine lv_iload hx hb dL_law_183 (lv_at hl 1 rfl) ?_
                    refine lv_icmp_ge (tgt := 279) hx hb dL_law_185 (by decide) (fun c185 => ?_) (fun c185 => ?_)
                    · have c185 : r ≤ u := g_geT u r (by omega) (by omega) c185
                      have hue : u = r := by omega
                      rw [hue] at hl
                      refine lv_iinc (v := nI (r + 1)) (lv' := [(11, .int (nI (r + 1))), (12, .int (nI r)), (10, .int (mkI L0 (r + 1))), (9, .int (sumP (crP L0) r + rowP (crP L0) r r)), (8, .int 0), (7, .ref ca), (6, .ref ea), (5, .int x5), (4, .int (nI t9)), (3, .int (nI rn)), (2, .ref y0), (1, .ref x0), (0, .ref b9)]) hx hb dL_law_279 hl (k := 1) rfl (g_inc _) (by decide) rfl (fun ls hl => ?_)
                      refine lv_goto (tgt := 98) hx hb dL_law_282 (by decide) ?_
                      exact ih98 (r + 1) (upd ef r (plE L0 (nI r) L0.length)) F2 (by omega) (ef_st hef) hF3 (by omega) _ _ hP hD hS _ (lv_sub hl [0, 2, 3, 4, 5, 6, 7, 8, 9, 10, 11, 12] rfl)
                    · have c185 : u < r := g_geF u r (by omega) (by omega) c185
                      refine lv_iload hx hb dL_law_188 (lv_at hl 3 rfl) ?_
                      refine lv_aload hx hb dL_law_190 (lv_at hl 5 rfl) ?_
                      refine lv_iload hx hb dL_law_192 (lv_at hl 4 rfl) ?_
                      refine va_ald2 hx hb hK hP 16 2 rfl rfl (vp_in_nI (n := 0) (by omega) (by decide)) dL_law_194 ?_
                      rw [show va_rf ((w2f c0 c1) (0 : Int32).toNatClampNeg) = .ref c0 from (by rw [show (0 : Int32).toNatClampNeg = 0 from by decide]; rfl)]
                      refine lv_iload hx hb dL_law_195 (lv_at hl 1 rfl) ?_
                      refine va_ald2 hx hb hK hP 17 1 rfl rfl (vp_in_nI (by omega) (by omega)) dL_law_197 ?_
                      rw [show va_rf ((crF Rr) (nI r).toNatClampNeg) = .ref (Rr r) from (by rw [nI_clamp (by omega)]; rfl)]
                      refine lv_iload hx hb dL_law_198 (lv_at hl 0 rfl) ?_
                      refine va_pld hx hb hK hP 0 rfl (i := r) (k := u) (by omega) (by omega) (by omega) dL_law_200 ?_
                      rw [show F2 r u = crP L0 r u from (cvF_at hF3 (Or.inl (by omega))).trans (cvG_0 (by omega) (by omega) (by omega))]
                      refine lv_iadd hx hb dL_law_201 ?_
                      rw [show (sumP (crP L0) r + rowP (crP L0) r u) + crP L0 r u = sumP (crP L0) r + rowP (crP L0) r (u + 1) from Int32.add_assoc _ _ _]
                      refine lv_istore (lv' := [(9, .int (sumP (crP L0) r + rowP (crP L0) r (u + 1))), (12, .int (nI u)), (11, .int (nI r)), (10, .int (mkI L0 (r + 1))), (8, .int 0), (7, .ref ca), (6, .ref ea), (5, .int x5), (4, .int (nI t9)), (3, .int (nI rn)), (2, .ref y0), (1, .ref x0), (0, .ref b9)]) hx hb dL_law_202 hl (by decide) rfl (fun ls hl => ?_)
                      refine lv_aload hx hb dL_law_204 (lv_at hl 5 rfl) ?_
                      refine lv_iload hx hb dL_law_206 (lv_at hl 4 rfl) ?_
                      refine va_ald2 hx hb hK hP 16 2 rfl rfl (vp_in_nI (n := 0) (by omega) (by decide)) dL_law_208 ?_
                      rw [show va_rf ((w2f c0 c1) (0 : Int32).toNatClampNeg) = .ref c0 from (by rw [show (0 : Int32).toNatClampNeg = 0 from by decide]; rfl)]
                      refine lv_iload hx hb dL_law_209 (lv_at hl 2 rfl) ?_
                      refine va_ald2 hx hb hK hP 17 1 rfl rfl (vp_in_nI (by omega) (by omega)) dL_law_211 ?_
                      rw [show va_rf ((crF Rr) (nI r).toNatClampNeg) = .ref (Rr r) from (by rw [nI_clamp (by omega)]; rfl)]
                      refine lv_iload hx hb dL_law_212 (lv_at hl 1 rfl) ?_
                      refine va_pld hx hb hK hP 0 rfl (i := r) (k := u) (by omega) (by omega) (by omega) dL_law_214 ?_
                      rw [show F2 r u = crP L0 r u from (cvF_at hF3 (Or.inl (by omega))).trans (cvG_0 (by omega) (by omega) (by omega))]
                      refine lv_aload hx hb dL_law_215 (lv_at hl 5 rfl) ?_
                      refine lv_iload hx hb dL_law_217 (lv_at hl 4 rfl) ?_
                      refine va_ald2 hx hb hK hP 16 2 rfl rfl (vp_in_nI (n := 0) (by omega) (by decide)) dL_law_219 ?_
                      rw [show va_rf ((w2f c0 c1) (0 : Int32).toNatClampNeg) = .ref c0 from (by rw [show (0 : Int32).toNatClampNeg = 0 from by decide]; rfl)]
                      refine lv_iload hx hb dL_law_220 (lv_at hl 1 rfl) ?_
                      refine va_ald2 hx hb hK hP 17 1 rfl rfl (vp_in_nI (by omega) (by omega)) dL_law_222 ?_
                      rw [show va_rf ((crF Rr) (nI u).toNatClampNeg) = .ref (Rr u) from (by rw [nI_clamp (by omega)]; rfl)]
                      refine lv_iload hx hb dL_law_223 (lv_at hl 2 rfl) ?_
                      refine va_pld hx hb hK hP 0 rfl (i := u) (k := r) (by omega) (by omega) (by omega) dL_law_225 ?_
                      rw [show F2 u r = crP L0 u r from (cvF_at hF3 (Or.inl (by omega))).trans (cvG_0 (by omega) (by omega) (by omega))]
                      refine lv_icmp_eq (tgt := 231) hx hb dL_law_226 (by decide) (fun c226 => ?_) (fun c226 => ?_)
                      · refine lv_aload hx hb dL_law_231 (lv_at hl 5 rfl) ?_
                        refine lv_iload hx hb dL_law_233 (lv_at hl 4 rfl) ?_
                        refine va_ald2 hx hb hK hP 16 2 rfl rfl (vp_in_nI (n := 0) (by omega) (by decide)) dL_law_235 ?_
                        rw [show va_rf ((w2f c0 c1) (0 : Int32).toNatClampNeg) = .ref c0 from (by rw [show (0 : Int32).toNatClampNeg = 0 from by decide]; rfl)]
                        refine lv_iload hx hb dL_law_236 (lv_at hl 2 rfl) ?_
                        refine va_ald2 hx hb hK hP 17 1 rfl rfl (vp_in_nI (by omega) (by omega)) dL_law_238 ?_
                        rw [show va_rf ((crF Rr) (nI r).toNatClampNeg) = .ref (Rr r) from (by rw [nI_clamp (by omega)]; rfl)]
                        refine lv_iload hx hb dL_law_239 (lv_at hl 1 rfl) ?_
                        refine va_pld hx hb hK hP 0 rfl (i := r) (k := u) (by omega) (by omega) (by omega) dL_law_241 ?_
                        rw [show F2 r u = crP L0 r u from (cvF_at hF3 (Or.inl (by omega))).trans (cvG_0 (by omega) (by omega) (by omega))]
                        refine lv_iconst (v := 1) hx hb dL_law_242 (by decide) ?_
                        refine lv_iand hx hb dL_law_243 ?_
                        refine lv_aload hx hb dL_law_244 (lv_at hl 6 rfl) ?_
                        refine lv_iload hx hb dL_law_246 (lv_at hl 4 rfl) ?_
                        refine va_ald2 hx hb hK hP 13 1 rfl rfl (vp_in_nI (n := 0) (by omega) (by decide)) dL_law_248 ?_
                        rw [show va_rf ((w2f e0 e1) (0 : Int32).toNatClampNeg) = .ref e0 from (by rw [show (0 : Int32).toNatClampNeg = 0 from by decide]; rfl)]
                        refine lv_iload hx hb dL_law_249 (lv_at hl 2 rfl) ?_
                        refine va_iald hx hb hK hP 14 0 rfl rfl (vp_in_nI (by omega) (by omega)) dL_law_251 ?_
                        rw [show (nI r).toNatClampNeg = r from nI_clamp (by omega)]
                        rw [show (upd ef r (plE L0 (nI r) L0.length)) r = plE L0 (nI r) L0.length from pk_us]
                        refine lv_aload hx hb dL_law_252 (lv_at hl 6 rfl) ?_
                        refine lv_iload hx hb dL_law_254 (lv_at hl 4 rfl) ?_
                        refine va_ald2 hx hb hK hP 13 1 rfl rfl (vp_in_nI (n := 0) (by omega) (by decide)) dL_law_256 ?_
                        rw [show va_rf ((w2f e0 e1) (0 : Int32).toNatClampNeg) = .ref e0 from (by rw [show (0 : Int32).toNatClampNeg = 0 from by decide]; rfl)]
                        refine lv_iload hx hb dL_law_257 (lv_at hl 1 rfl) ?_
                        refine va_iald hx hb hK hP 14 0 rfl rfl (vp_in_nI (by omega) (by omega)) dL_law_259 ?_
                        rw [show (nI u).toNatClampNeg = u from nI_clamp (by omega)]
                        rw [show (upd ef r (plE L0 (nI r) L0.length)) u = plE L0 (nI u) L0.length from (pk_un (by omega)).trans (hef u (by omega))]
                        refine lv_icmp_ge (tgt := 267) hx hb dL_law_260 (by decide) (fun c260 => ?_) (fun c260 => ?_)
                        · refine lv_iconst (v := 0) hx hb dL_law_267 (by decide) ?_
                          refine lv_icmp_eq (tgt := 273) hx hb dL_law_268 (by decide) (fun c268 => ?_) (fun c268 => ?_)
                          · refine lv_iinc (v := nI (u + 1)) (lv' := [(12, .int (nI (u + 1))), (9, .int (sumP (crP L0) r + rowP (crP L0) r (u + 1))), (11, .int (nI r)), (10, .int (mkI L0 (r + 1))), (8, .int 0), (7, .ref ca), (6, .ref ea), (5, .int x5), (4, .int (nI t9)), (3, .int (nI rn)), (2, .ref y0), (1, .ref x0), (0, .ref b9)]) hx hb dL_law_273 hl (k := 1) rfl (g_inc _) (by decide) rfl (fun ls hl => ?_)
                            refine lv_goto (tgt := 181) hx hb dL_law_276 (by decide) ?_
                            exact ih181 (u + 1) (by omega) (by omega) _ (lv_sub hl [0, 2, 3, 1, 4, 5, 6, 7, 8, 9, 10, 11, 12] rfl)
                          · exact absurd ((cr_par hW0 (by omega) (by omega) (Nat.le_refl _)).trans (if_neg (Int32.not_lt.mpr c260))) c268
                        · refine lv_iconst (v := 1) hx hb dL_law_263 (by decide) ?_
                          refine lv_goto (tgt := 268) hx hb dL_law_264 (by decide) ?_
                          refine lv_icmp_eq (tgt := 273) hx hb dL_law_268 (by decide) (fun c268 => ?_) (fun c268 => ?_)
                          · refine lv_iinc (v := nI (u + 1)) (lv' := [(12, .int (nI (u + 1))), (9, .int (sumP (crP L0) r + rowP (crP L0) r (u + 1))), (11, .int (nI r)), (10, .int (mkI L0 (r + 1))), (8, .int 0), (7, .ref ca), (6, .ref ea), (5, .int x5), (4, .int (nI t9)), (3, .int (nI rn)), (2, .ref y0), (1, .ref x0), (0, .ref b9)]) hx hb dL_law_273 hl (k := 1) rfl (g_inc _) (by decide) rfl (fun ls hl => ?_)
                            refine lv_goto (tgt := 181) hx hb dL_law_276 (by decide) ?_
                            exact ih181 (u + 1) (by omega) (by omega) _ (lv_sub hl [0, 2, 3, 1, 4, 5, 6, 7, 8, 9, 10, 11, 12] rfl)
                          · exact absurd ((cr_par hW0 (by omega) (by omega) (Nat.le_refl _)).trans (if_pos (Int32.not_le.mp c260))) c268
                      · exact absurd (show crP L0 r u = crP L0 u r from crS_sy) c226
                exact lpu181 ((r - 0) + 1) 0 (Nat.zero_le _) (Nat.lt_succ_self _) _ (lv_sub hl [0, 1, 2, 3, 4, 5, 6, 7, 8, 9, 10, 11, 12] rfl)
              · have c141 : o < rn := g_geF o rn (by omega) (by omega) c141
                refine lv_iload hx hb dL_law_144 (lv_at hl 0 rfl) ?_
                refine lv_iload hx hb dL_law_146 (lv_at hl 1 rfl) ?_
                refine lv_icmp_eq (tgt := 172) hx hb dL_law_148 (by decide) (fun c148 => ?_) (fun c148 => ?_)
                · have c148 : o = r := g_eqT o r (by omega) (by omega) c148
                  refine lv_iinc (v := nI (o + 1)) (lv' := [(12, .int (nI (o + 1))), (11, .int (nI r)), (10, .int (mkI L0 (r + 1))), (9, .int (sumP (crP L0) r)), (8, .int 0), (7, .ref ca), (6, .ref ea), (5, .int x5), (4, .int (nI t9)), (3, .int (nI rn)), (2, .ref y0), (1, .ref x0), (0, .ref b9)]) hx hb dL_law_172 hl (k := 0) rfl (g_inc _) (by decide) rfl (fun ls hl => ?_)
                  refine lv_goto (tgt := 138) hx hb dL_law_175 (by decide) ?_
                  exact ih138 (o + 1) F2 (by omega) (cvF_sk hF2 (by rw [c148]; exact cvG_0s (by omega))) (by omega) _ _ hP hD hS _ (lv_sub hl [0, 1, 2, 3, 4, 5, 6, 7, 8, 9, 10, 11, 12] rfl)
                · have c148 : ¬ o = r := g_eqF o r (by omega) (by omega) c148
                  refine lv_aload hx hb dL_law_151 (lv_at hl 5 rfl) ?_
                  refine lv_iload hx hb dL_law_153 (lv_at hl 4 rfl) ?_
                  refine va_ald2 hx hb hK hP 16 2 rfl rfl (vp_in_nI (n := 0) (by omega) (by decide)) dL_law_155 ?_
                  rw [show va_rf ((w2f c0 c1) (0 : Int32).toNatClampNeg) = .ref c0 from (by rw [show (0 : Int32).toNatClampNeg = 0 from by decide]; rfl)]
                  refine lv_iload hx hb dL_law_156 (lv_at hl 1 rfl) ?_
                  refine va_ald2 hx hb hK hP 17 1 rfl rfl (vp_in_nI (by omega) (by omega)) dL_law_158 ?_
                  rw [show va_rf ((crF Rr) (nI r).toNatClampNeg) = .ref (Rr r) from (by rw [nI_clamp (by omega)]; rfl)]
                  refine lv_iload hx hb dL_law_159 (lv_at hl 0 rfl) ?_
                  refine lv_aload_n hx hb dL_law_161 rfl (lv_at hl 11 rfl) ?_
                  refine lv_iload hx hb dL_law_162 (lv_at hl 4 rfl) ?_
                  refine lv_iload hx hb dL_law_164 (lv_at hl 1 rfl) ?_
                  refine lv_iload hx hb dL_law_166 (lv_at hl 0 rfl) ?_
                  refine g_RVi (As := [.int 0, .int (nI r), .int (nI o)]) (rest := [.int (nI o), .ref (Rr r)]) ⟨hx, hb, hml, hown, hts⟩ (mt_X1_crosses0 l dC dI cA H.size x0 r0 r1 r2 r3 rn a0 L0 f0 (nI r) (nI o) hR0 (nI_pos (by omega)) (nI_lt (by omega) (by omega)) (nI_pos (by omega)) (nI_lt (by omega) (by omega)) (nI_ne (by omega) (by omega) (fun q9 => c148 q9.symm))) (cwV 3 hts gL_law_X1_crosses rfl rfl rfl hdX1_crosses ⟨Nat.le_of_ble_eq_true rfl, Nat.le_of_ble_eq_true rfl⟩) hP hK1 hD [0, 1, 2] (by decide) rfl (va_recv hK hP (ci := 1) (q0 := 0) rfl rfl) rfl hl.1 rfl (Nat.le_of_ble_eq_true rfl) dL_law_168 (by show _ ≤ 600130; omega) (by show _ ≤ 7301080; omega) ?_
                  refine va_pst hx hb hK hP hD hS 0 rfl (i := r) (k := o) (by omega) (by omega) (by omega) dL_law_171 (fun H locs hP hD hS => ?_)
                  have hP : va_P (dC, dI) vwCl ([(x0, .inr (1, [.ref r0, .ref r1, .ref r2, .ref r3, .int (nI rn)])), (r0, .inr (0, [.ref a0, .int (nI L0.length)])), (a0, .inl (cA, (100, .inl f0))), (r1, .inr (0, [.ref a1, .int (nI L1.length)])), (a1, .inl (cA, (100, .inl f1))), (r2, .inr (0, [.ref a2, .int n2])), (a2, .inl (cA, (100, .inl f2))), (r3, .inr (0, [.ref a3, .int n3])), (a3, .inl (cA, (100, .inl f3))), (y0, .inr (2, [.int (nI rn), .ref q0])), (q0, .inl (cAA, (2, .inr (.inr (.inr (.inr (w2f p0 p1))))))), (p0, .inl (cA, (L0.length, .inl (atL L0)))), (p1, .inl (cA, (L1.length, .inl (atL L1)))), (ea, .inl (cAA, (2, .inr (.inr (.inr (.inr (w2f e0 e1))))))), (e0, .inl (cA, (rn, .inl (upd ef r (plE L0 (nI r) L0.length))))), (e1, .inl (cA, (rn, .inl g1))), (ca, .inl (cAAA, (2, .inr (.inr (.inr (.inr (w2f c0 c1))))))), (c0, .inl (cAA, (rn, .inr (.inr (.inr (.inr (crF Rr))))))), (c1, .inl (cAA, (rn, .inr (.inr (.inr (.inr (crG Rr rn)))))))] ++ plR cA rn (2 * rn) Rr (updF F2 r o (crS L0 (nI r) (nI o) L0.length))) H := hP
                  have hD : va_D A ([(x0, .inr (1, [.ref r0, .ref r1, .ref r2, .ref r3, .int (nI rn)])), (r0, .inr (0, [.ref a0, .int (nI L0.length)])), (a0, .inl (cA, (100, .inl f0))), (r1, .inr (0, [.ref a1, .int (nI L1.length)])), (a1, .inl (cA, (100, .inl f1))), (r2, .inr (0, [.ref a2, .int n2])), (a2, .inl (cA, (100, .inl f2))), (r3, .inr (0, [.ref a3, .int n3])), (a3, .inl (cA, (100, .inl f3))), (y0, .inr (2, [.int (nI rn), .ref q0])), (q0, .inl (cAA, (2, .inr (.inr (.inr (.inr (w2f p0 p1))))))), (p0, .inl (cA, (L0.length, .inl (atL L0)))), (p1, .inl (cA, (L1.length, .inl (atL L1)))), (ea, .inl (cAA, (2, .inr (.inr (.inr (.inr (w2f e0 e1))))))), (e0, .inl (cA, (rn, .inl (upd ef r (plE L0 (nI r) L0.length))))), (e1, .inl (cA, (rn, .inl g1))), (ca, .inl (cAAA, (2, .inr (.inr (.inr (.inr (w2f c0 c1))))))), (c0, .inl (cAA, (rn, .inr (.inr (.inr (.inr (crF Rr))))))), (c1, .inl (cAA, (rn, .inr (.inr (.inr (.inr (crG Rr rn)))))))] ++ plR cA rn (2 * rn) Rr (updF F2 r o (crS L0 (nI r) (nI o) L0.length))) := hD
                  refine lv_iinc (v := nI (o + 1)) (lv' := [(12, .int (nI (o + 1))), (11, .int (nI r)), (10, .int (mkI L0 (r + 1))), (9, .int (sumP (crP L0) r)), (8, .int 0), (7, .ref ca), (6, .ref ea), (5, .int x5), (4, .int (nI t9)), (3, .int (nI rn)), (2, .ref y0), (1, .ref x0), (0, .ref b9)]) hx hb dL_law_172 hl (k := 0) rfl (g_inc _) (by decide) rfl (fun ls hl => ?_)
                  refine lv_goto (tgt := 138) hx hb dL_law_175 (by decide) ?_
                  exact ih138 (o + 1) (updF F2 r o (crS L0 (nI r) (nI o) L0.length)) (by omega) (cvF_st hF2 (cvG_0 (by omega) (by omega) c148).symm) (by omega) _ _ hP hD hS _ (lv_sub hl [0, 1, 2, 3, 4, 5, 6, 7, 8, 9, 10, 11, 12] rfl)
          exact lpo138 ((rn - 0) + 1) 0 F (Nat.zero_le _) hF (Nat.lt_succ_self _) _ _ hP hD hS _ (lv_sub hl [0, 2, 1, 3, 4, 5, 6, 7, 8, 9, 10, 11, 12] rfl)
    exact lpr98 ((rn - 0) + 1) 0 g0 Fq (Nat.zero_le _) (fun j hj => absurd hj (Nat.not_lt_zero j)) hF0 (Nat.lt_succ_self _) _ _ hP hD hS _ (lv_sub hl [0, 1, 2, 3, 4, 5, 6, 7, 8, 9, 10, 11] rfl)

set_option maxHeartbeats 4000000 in
set_option maxRecDepth 100000 in
/-- ends and crossings, of word 1 -/
theorem lw_b1 {p : Program} {l : Launch} {e : Env} {s : State} {m : MethodId} {below : List Frame} {meth : Method} {c : Code} {Q : State → Prop} {dC : Nat → ClassId} {dI : Nat → Nat → Nat} {cA cAA cAAA : ClassId} {A : Nat → Prop} {b9 LL : Nat} {xs : Nat → Int32} (E : lwC p l s m c b9 LL xs dC dI cA cAA cAAA A) (x0 : Nat) (r0 : Nat) (r1 : Nat) (r2 : Nat) (r3 : Nat) (a0 : Nat) (a1 : Nat) (a2 : Nat) (a3 : Nat) (y0 : Nat) (q0 : Nat) (p0 : Nat) (p1 : Nat) (rn : Nat) (L0 : List Int32) (f0 : Nat → Int32) (L1 : List Int32) (f1 : Nat → Int32) (n2 : Int32) (f2 : Nat → Int32) (n3 : Int32) (f3 : Nat → Int32) (t9 : Nat) (x5 : Int32) (ea : Nat) (e0 : Nat) (e1 : Nat) (ca : Nat) (c0 : Nat) (c1 : Nat) (Rr : Nat → Nat) (g0 : Nat → Int32) (g1 : Nat → Int32) (Fq : Nat → Nat → Int32) (hR0 : RI L0 f0) (hR1 : RI L1 f1) (hk0 : okL rn L0) (hk1 : okL rn L1) (hl0 : L0.length ≤ 30) (hl1 : L1.length ≤ 30) (hrn : rn ∈ rnS) (hr6 : rn ≤ 6) (hr3 : 3 ≤ rn) (hF0 : cvF (cvG rn L0 L1) Fq rn 0) {H : Heap} {locs : List Loc} {cells slots : Nat} (hcz : cells ≤ 600130) (hsz : slots ≤ 7301080) (hP : va_P (dC, dI) vwCl ([(x0, .inr (1, [.ref r0, .ref r1, .ref r2, .ref r3, .int (nI rn)])), (r0, .inr (0, [.ref a0, .int (nI L0.length)])), (a0, .inl (cA, (100, .inl f0))), (r1, .inr (0, [.ref a1, .int (nI L1.length)])), (a1, .inl (cA, (100, .inl f1))), (r2, .inr (0, [.ref a2, .int n2])), (a2, .inl (cA, (100, .inl f2))), (r3, .inr (0, [.ref a3, .int n3])), (a3, .inl (cA, (100, .inl f3))), (y0, .inr (2, [.int (nI rn), .ref q0])), (q0, .inl (cAA, (2, .inr (.inr (.inr (.inr (w2f p0 p1))))))), (p0, .inl (cA, (L0.length, .inl (atL L0)))), (p1, .inl (cA, (L1.length, .inl (atL L1)))), (ea, .inl (cAA, (2, .inr (.inr (.inr (.inr (w2f e0 e1))))))), (e0, .inl (cA, (rn, .inl g0))), (e1, .inl (cA, (rn, .inl g1))), (ca, .inl (cAAA, (2, .inr (.inr (.inr (.inr (w2f c0 c1))))))), (c0, .inl (cAA, (rn, .inr (.inr (.inr (.inr (crF Rr))))))), (c1, .inl (cAA, (rn, .inr (.inr (.inr (.inr (crG Rr rn)))))))] ++ plR cA rn (2 * rn) Rr Fq) H) (hD : va_D A ([(x0, .inr (1, [.ref r0, .ref r1, .ref r2, .ref r3, .int (nI rn)])), (r0, .inr (0, [.ref a0, .int (nI L0.length)])), (a0, .inl (cA, (100, .inl f0))), (r1, .inr (0, [.ref a1, .int (nI L1.length)])), (a1, .inl (cA, (100, .inl f1))), (r2, .inr (0, [.ref a2, .int n2])), (a2, .inl (cA, (100, .inl f2))), (r3, .inr (0, [.ref a3, .int n3])), (a3, .inl (cA, (100, .inl f3))), (y0, .inr (2, [.int (nI rn), .ref q0])), (q0, .inl (cAA, (2, .inr (.inr (.inr (.inr (w2f p0 p1))))))), (p0, .inl (cA, (L0.length, .inl (atL L0)))), (p1, .inl (cA, (L1.length, .inl (atL L1)))), (ea, .inl (cAA, (2, .inr (.inr (.inr (.inr (w2f e0 e1))))))), (e0, .inl (cA, (rn, .inl g0))), (e1, .inl (cA, (rn, .inl g1))), (ca, .inl (cAAA, (2, .inr (.inr (.inr (.inr (w2f c0 c1))))))), (c0, .inl (cAA, (rn, .inr (.inr (.inr (.inr (crF Rr))))))), (c1, .inl (cAA, (rn, .inr (.inr (.inr (.inr (crG Rr rn)))))))] ++ plR cA rn (2 * rn) Rr Fq)) (hS : va_S A s.heap H locs) {ls : Array Slot} (hl : lv_has ls 17 [(8, .int 1), (7, .ref ca), (6, .ref ea), (5, .int x5), (4, .int (nI t9)), (3, .int (nI rn)), (2, .ref y0), (1, .ref x0), (0, .ref b9)])
    (K : ∀ (ef : Nat → Int32) (F : Nat → Nat → Int32) (H1 : Heap) (locs1 : List Loc) (ls1 : Array Slot), (∀ j, j < rn → ef j = plE L1 (nI j) L1.length) → cvF (cvG rn L0 L1) F (rn + rn) 0 → va_P (dC, dI) vwCl ([(x0, .inr (1, [.ref r0, .ref r1, .ref r2, .ref r3, .int (nI rn)])), (r0, .inr (0, [.ref a0, .int (nI L0.length)])), (a0, .inl (cA, (100, .inl f0))), (r1, .inr (0, [.ref a1, .int (nI L1.length)])), (a1, .inl (cA, (100, .inl f1))), (r2, .inr (0, [.ref a2, .int n2])), (a2, .inl (cA, (100, .inl f2))), (r3, .inr (0, [.ref a3, .int n3])), (a3, .inl (cA, (100, .inl f3))), (y0, .inr (2, [.int (nI rn), .ref q0])), (q0, .inl (cAA, (2, .inr (.inr (.inr (.inr (w2f p0 p1))))))), (p0, .inl (cA, (L0.length, .inl (atL L0)))), (p1, .inl (cA, (L1.length, .inl (atL L1)))), (ea, .inl (cAA, (2, .inr (.inr (.inr (.inr (w2f e0 e1))))))), (e0, .inl (cA, (rn, .inl g0))), (e1, .inl (cA, (rn, .inl ef))), (ca, .inl (cAAA, (2, .inr (.inr (.inr (.inr (w2f c0 c1))))))), (c0, .inl (cAA, (rn, .inr (.inr (.inr (.inr (crF Rr))))))), (c1, .inl (cAA, (rn, .inr (.inr (.inr (.inr (crG Rr rn)))))))] ++ plR cA rn (2 * rn) Rr F) H1 → va_D A ([(x0, .inr (1, [.ref r0, .ref r1, .ref r2, .ref r3, .int (nI rn)])), (r0, .inr (0, [.ref a0, .int (nI L0.length)])), (a0, .inl (cA, (100, .inl f0))), (r1, .inr (0, [.ref a1, .int (nI L1.length)])), (a1, .inl (cA, (100, .inl f1))), (r2, .inr (0, [.ref a2, .int n2])), (a2, .inl (cA, (100, .inl f2))), (r3, .inr (0, [.ref a3, .int n3])), (a3, .inl (cA, (100, .inl f3))), (y0, .inr (2, [.int (nI rn), .ref q0])), (q0, .inl (cAA, (2, .inr (.inr (.inr (.inr (w2f p0 p1))))))), (p0, .inl (cA, (L0.length, .inl (atL L0)))), (p1, .inl (cA, (L1.length, .inl (atL L1)))), (ea, .inl (cAA, (2, .inr (.inr (.inr (.inr (w2f e0 e1))))))), (e0, .inl (cA, (rn, .inl g0))), (e1, .inl (cA, (rn, .inl ef))), (ca, .inl (cAAA, (2, .inr (.inr (.inr (.inr (w2f c0 c1))))))), (c0, .inl (cAA, (rn, .inr (.inr (.inr (.inr (crF Rr))))))), (c1, .inl (cAA, (rn, .inr (.inr (.inr (.inr (crG Rr rn)))))))] ++ plR cA rn (2 * rn) Rr F) → va_S A s.heap H1 locs1 → lv_has ls1 17 [(9, .int (accL L1 sgI L1.length)), (8, .int 1), (7, .ref ca), (6, .ref ea), (5, .int x5), (4, .int (nI t9)), (3, .int (nI rn)), (2, .ref y0), (1, .ref x0), (0, .ref b9)] → W p l e room_1 s m ([.ref b9] : List Value).toArray below meth c H1 locs1 cells slots Q (F0 m 342 ls1 [])) : W p l e room_1 s m ([.ref b9] : List Value).toArray below meth c H locs cells slots Q (F0 m 83 ls []) := by
  obtain ⟨hx, hb, hml, hown, hts, htr, hK, hA, hXX, hL2, hm3, ho2, ho3⟩ := id E
  have hK1 : va_K (dC, dI) vwCl [(cA, .int)] s := hK.sub [0] rfl
  have hK2 : va_K (dC, dI) vwCl [(cA, .int), (cAA, .array .int)] s := hK.sub [0, 1] rfl
  have hW0 := okW_of hk0
  have hW1 := okW_of hk1
  refine lv_iload hx hb dL_law_83 (lv_at hl 0 rfl) ?_
  refine lv_iconst (v := 2) hx hb dL_law_85 (by decide) ?_
  refine lv_icmp_ge (tgt := 763) hx hb dL_law_86 (by decide) (fun c86 => ?_) (fun c86 => ?_)
  · exact absurd c86 (by decide)
  · have c86 : 1 < 2 := g_geF 1 2 (by omega) (by omega) c86
    refine lv_iconst (v := 0) hx hb dL_law_89 (by decide) ?_
    refine lv_istore (lv' := [(9, .int 0), (8, .int 1), (7, .ref ca), (6, .ref ea), (5, .int x5), (4, .int (nI t9)), (3, .int (nI rn)), (2, .ref y0), (1, .ref x0), (0, .ref b9)]) hx hb dL_law_90 hl (by decide) rfl (fun ls hl => ?_)
    refine lv_iconst (v := 0) hx hb dL_law_92 (by decide) ?_
    refine lv_istore (lv' := [(10, .int 0), (9, .int 0), (8, .int 1), (7, .ref ca), (6, .ref ea), (5, .int x5), (4, .int (nI t9)), (3, .int (nI rn)), (2, .ref y0), (1, .ref x0), (0, .ref b9)]) hx hb dL_law_93 hl (by decide) rfl (fun ls hl => ?_)
    refine lv_iconst (v := 0) hx hb dL_law_95 (by decide) ?_
    refine lv_istore (lv' := [(11, .int 0), (10, .int 0), (9, .int 0), (8, .int 1), (7, .ref ca), (6, .ref ea), (5, .int x5), (4, .int (nI t9)), (3, .int (nI rn)), (2, .ref y0), (1, .ref x0), (0, .ref b9)]) hx hb dL_law_96 hl (by decide) rfl (fun ls hl => ?_)
    have lpr98 : ∀ (d : Nat) (r : Nat) (ef : Nat → Int32) (F : Nat → Nat → Int32) (hr9 : r ≤ rn) (hef : ∀ j, j < r → ef j = plE L1 (nI j) L1.length) (hF : cvF (cvG rn L0 L1) F (rn + r) 0), rn - r < d → ∀ (H : Heap) (locs : List Loc), va_P (dC, dI) vwCl ([(x0, .inr (1, [.ref r0, .ref r1, .ref r2, .ref r3, .int (nI rn)])), (r0, .inr (0, [.ref a0, .int (nI L0.length)])), (a0, .inl (cA, (100, .inl f0))), (r1, .inr (0, [.ref a1, .int (nI L1.length)])), (a1, .inl (cA, (100, .inl f1))), (r2, .inr (0, [.ref a2, .int n2])), (a2, .inl (cA, (100, .inl f2))), (r3, .inr (0, [.ref a3, .int n3])), (a3, .inl (cA, (100, .inl f3))), (y0, .inr (2, [.int (nI rn), .ref q0])), (q0, .inl (cAA, (2, .inr (.inr (.inr (.inr (w2f p0 p1))))))), (p0, .inl (cA, (L0.length, .inl (atL L0)))), (p1, .inl (cA, (L1.length, .inl (atL L1)))), (ea, .inl (cAA, (2, .inr (.inr (.inr (.inr (w2f e0 e1))))))), (e0, .inl (cA, (rn, .inl g0))), (e1, .inl (cA, (rn, .inl ef))), (ca, .inl (cAAA, (2, .inr (.inr (.inr (.inr (w2f c0 c1))))))), (c0, .inl (cAA, (rn, .inr (.inr (.inr (.inr (crF Rr))))))), (c1, .inl (cAA, (rn, .inr (.inr (.inr (.inr (crG Rr rn)))))))] ++ plR cA rn (2 * rn) Rr F) H → va_D A ([(x0, .inr (1, [.ref r0, .ref r1, .ref r2, .ref r3, .int (nI rn)])), (r0, .inr (0, [.ref a0, .int (nI L0.length)])), (a0, .inl (cA, (100, .inl f0))), (r1, .inr (0, [.ref a1, .int (nI L1.length)])), (a1, .inl (cA, (100, .inl f1))), (r2, .inr (0, [.ref a2, .int n2])), (a2, .inl (cA, (100, .inl f2))), (r3, .inr (0, [.ref a3, .int n3])), (a3, .inl (cA, (100, .inl f3))), (y0, .inr (2, [.int (nI rn), .ref q0])), (q0, .inl (cAA, (2, .inr (.inr (.inr (.inr (w2f p0 p1))))))), (p0, .inl (cA, (L0.length, .inl (atL L0)))), (p1, .inl (cA, (L1.length, .inl (atL L1)))), (ea, .inl (cAA, (2, .inr (.inr (.inr (.inr (w2f e0 e1))))))), (e0, .inl (cA, (rn, .inl g0))), (e1, .inl (cA, (rn, .inl ef))), (ca, .inl (cAAA, (2, .inr (.inr (.inr (.inr (w2f c0 c1))))))), (c0, .inl (cAA, (rn, .inr (.inr (.inr (.inr (crF Rr))))))), (c1, .inl (cAA, (rn, .inr (.inr (.inr (.inr (crG Rr rn)))))))] ++ plR cA rn (2 * rn) Rr F) → va_S A s.heap H locs → ∀ ls : Array Slot, lv_has ls 17 [(11, .int (nI r)), (10, .int (mkI L1 r)), (9, .int (sumP (crP L1) r)), (8, .int 1), (7, .ref ca), (6, .ref ea), (5, .int x5), (4, .int (nI t9)), (3, .int (nI rn)), (2, .ref y0), (1, .ref x0), (0, .ref b9)] → W p l e room_1 s m ([.ref b9] : List Value).toArray below meth c H locs cells slots Q (F0 m 98 ls []) := by
      intro d
      induction d with
      | zero => intro r ef F hr9 hef hF hd; exact absurd hd (Nat.not_lt_zero _)
      | succ d ih98 =>
        intro r ef F hr9 hef hF hd H locs hP hD hS ls hl
        refine lv_iload hx hb dL_law_98 (lv_at hl 0 rfl) ?_
        refine lv_iload_n hx hb dL_law_100 rfl (lv_at hl 8 rfl) ?_
        refine lv_icmp_ge (tgt := 285) hx hb dL_law_101 (by decide) (fun c101 => ?_) (fun c101 => ?_)
        · have c101 : rn ≤ r := g_geT r rn (by omega) (by omega) c101
          have hre : rn = r := by omega
          subst hre
          refine lv_iload hx hb dL_law_285 (lv_at hl 1 rfl) ?_
          refine lv_iconst (v := 1) hx hb dL_law_287 (by decide) ?_
          refine lv_iload_n hx hb dL_law_288 rfl (lv_at hl 8 rfl) ?_
          refine lv_ishl hx hb dL_law_289 ?_
          rw [show (1 : Int32) <<< (nI rn &&& 31) = 1 <<< nI rn from shl31 rn (by omega)]
          refine lv_iconst (v := 1) hx hb dL_law_290 (by decide) ?_
          refine lv_isub hx hb dL_law_291 ?_
          refine lv_icmp_ne (tgt := 340) hx hb dL_law_292 (by decide) (fun c292 => ?_) (fun c292 => ?_)
          · exact absurd (mk_end hrn hr6 hk1) c292
          · refine lv_iload hx hb dL_law_295 (lv_at hl 2 rfl) ?_
            refine lv_aload_n hx hb dL_law_297 rfl (lv_at hl 10 rfl) ?_
            refine lv_iconst (v := 3) hx hb dL_law_298 (by decide) ?_
            refine lv_iload hx hb dL_law_299 (lv_at hl 3 rfl) ?_
            refine lv_iadd hx hb dL_law_301 ?_
            rw [show (3 : Int32) + 1 = 4 from by decide]
            refine g_RVi (As := [.int 4]) (rest := [.int (sumP (crP L1) rn)]) ⟨hx, hb, hml, hown, hts⟩ (mt_X1_count l dC dI cA H.size x0 r0 r1 r2 r3 rn a0 a1 L0 f0 L1 f1 4 hR0 hR1 (by first | omega | (simp only [List.length_append, List.length_cons, List.length_nil, List.length_set, turnL_len]; omega))) (cwV 1 hts gL_law_X1_count rfl rfl rfl hdX1_count ⟨Nat.le_of_ble_eq_true rfl, Nat.le_of_ble_eq_true rfl⟩) hP hK1 hD [0, 1, 2, 3, 4] (by decide) rfl (va_recv hK hP (ci := 1) (q0 := 0) rfl rfl) rfl hl.1 rfl (Nat.le_of_ble_eq_true rfl) dL_law_302 (by show _ ≤ 600130; omega) (by show _ ≤ 7301080; omega) ?_
            refine lv_icmp_ne (tgt := 340) hx hb dL_law_305 (by decide) (fun c305 => ?_) (fun c305 => ?_)
            · exact absurd (show sumP (crP L1) rn = coI rn L0 L1 4 from sum_cr hrn hr6 hk1 (Nat.le_refl _)) c305
            · rw [show sumP (crP L1) rn = accL L1 sgI L1.length from sum_cr hrn hr6 hk1 (Nat.le_refl _)] at hl
              refine lv_iload hx hb dL_law_308 (lv_at hl 2 rfl) ?_
              refine va_mabs hx hb (hml.trans hl.1.symm) hown (hts (.methodLink RL 57 Lib.Math.abs.name) (List.mem_of_getElem? (i := 5) rfl)) (hts (.static Lib.Math.abs.name) (List.mem_of_getElem? (i := 6) rfl)) (hts (.initialized "java/lang/Math") (List.mem_of_getElem? (i := 7) rfl)) (hts (.code Lib.Math.abs.name Lib.Math.abs.code 1 (some .int)) (List.mem_of_getElem? (i := 8) rfl)) (Nat.le_of_ble_eq_true rfl) (Nat.le_of_ble_eq_true rfl) (by show _ ≤ 600130; omega) (by show _ ≤ 7301080; omega) dL_law_310 ?_
              rw [mabs_eq]
              refine lv_aload_n hx hb dL_law_313 rfl (lv_at hl 10 rfl) ?_
              refine lv_iconst (v := 1) hx hb dL_law_314 (by decide) ?_
              refine lv_iload hx hb dL_law_315 (lv_at hl 3 rfl) ?_
              refine lv_iadd hx hb dL_law_317 ?_
              rw [show (1 : Int32) + 1 = 2 from by decide]
              refine g_RVi (As := [.int 2]) (rest := [.int (abI (accL L1 sgI L1.length))]) ⟨hx, hb, hml, hown, hts⟩ (mt_X1_count l dC dI cA H.size x0 r0 r1 r2 r3 rn a0 a1 L0 f0 L1 f1 2 hR0 hR1 (by first | omega | (simp only [List.length_append, List.length_cons, List.length_nil, List.length_set, turnL_len]; omega))) (cwV 1 hts gL_law_X1_count rfl rfl rfl hdX1_count ⟨Nat.le_of_ble_eq_true rfl, Nat.le_of_ble_eq_true rfl⟩) hP hK1 hD [0, 1, 2, 3, 4] (by decide) rfl (va_recv hK hP (ci := 1) (q0 := 0) rfl rfl) rfl hl.1 rfl (Nat.le_of_ble_eq_true rfl) dL_law_318 (by show _ ≤ 600130; omega) (by show _ ≤ 7301080; omega) ?_
              refine lv_icmp_gt (tgt := 340) hx hb dL_law_321 (by decide) (fun c321 => ?_) (fun c321 => ?_)
              · exact absurd c321 (fS hW1 hl1).1
              · refine lv_iload hx hb dL_law_324 (lv_at hl 2 rfl) ?_
                refine lv_aload_n hx hb dL_law_326 rfl (lv_at hl 10 rfl) ?_
                refine lv_iconst (v := 1) hx hb dL_law_327 (by decide) ?_
                refine lv_iload hx hb dL_law_328 (lv_at hl 3 rfl) ?_
                refine lv_iadd hx hb dL_law_330 ?_
                rw [show (1 : Int32) + 1 = 2 from by decide]
                refine g_RVi (As := [.int 2]) (rest := [.int (accL L1 sgI L1.length)]) ⟨hx, hb, hml, hown, hts⟩ (mt_X1_count l dC dI cA H.size x0 r0 r1 r2 r3 rn a0 a1 L0 f0 L1 f1 2 hR0 hR1 (by first | omega | (simp only [List.length_append, List.length_cons, List.length_nil, List.length_set, turnL_len]; omega))) (cwV 1 hts gL_law_X1_count rfl rfl rfl hdX1_count ⟨Nat.le_of_ble_eq_true rfl, Nat.le_of_ble_eq_true rfl⟩) hP hK1 hD [0, 1, 2, 3, 4] (by decide) rfl (va_recv hK hP (ci := 1) (q0 := 0) rfl rfl) rfl hl.1 rfl (Nat.le_of_ble_eq_true rfl) dL_law_331 (by show _ ≤ 600130; omega) (by show _ ≤ 7301080; omega) ?_
                refine lv_isub hx hb dL_law_334 ?_
                refine lv_iconst (v := 2) hx hb dL_law_335 (by decide) ?_
                refine lv_irem hx hb dL_law_336 (by decide) ?_
                refine lv_if_eq (tgt := 342) hx hb dL_law_337 (by decide) (fun c337 => ?_) (fun c337 => ?_)
                · exact K ef F _ _ _ hef hF hP hD hS (lv_sub hl [2, 3, 4, 5, 6, 7, 8, 9, 10, 11] rfl)
                · exact absurd (fS hW1 hl1).2 c337
        · have c101 : r < rn := g_geF r rn (by omega) (by omega) c101
          refine lv_aload hx hb dL_law_104 (lv_at hl 5 rfl) ?_
          refine lv_iload hx hb dL_law_106 (lv_at hl 3 rfl) ?_
          refine va_ald2 hx hb hK hP 13 1 rfl rfl (vp_in_nI (n := 1) (by omega) (by decide)) dL_law_108 ?_
          rw [show va_rf ((w2f e0 e1) (1 : Int32).toNatClampNeg) = .ref e1 from (by rw [show (1 : Int32).toNatClampNeg = 1 from by decide]; rfl)]
          refine lv_iload hx hb dL_law_109 (lv_at hl 0 rfl) ?_
          refine lv_aload_n hx hb dL_law_111 rfl (lv_at hl 10 rfl) ?_
          refine lv_iload hx hb dL_law_112 (lv_at hl 3 rfl) ?_
          refine lv_iload hx hb dL_law_114 (lv_at hl 0 rfl) ?_
          refine g_RVi (As := [.int 1, .int (nI r)]) (rest := [.int (nI r), .ref e1]) ⟨hx, hb, hml, hown, hts⟩ (mt_X1_end1 l dC dI cA H.size x0 r0 r1 r2 r3 rn a1 L1 f1 (nI r) hR1 (nI_pos (by omega)) (nI_lt (by omega) (by omega))) (cwV 2 hts gL_law_X1_end rfl rfl rfl hdX1_end ⟨Nat.le_of_ble_eq_true rfl, Nat.le_of_ble_eq_true rfl⟩) hP hK1 hD [0, 3, 4] (by decide) rfl (va_recv hK hP (ci := 1) (q0 := 0) rfl rfl) rfl hl.1 rfl (Nat.le_of_ble_eq_true rfl) dL_law_116 (by show _ ≤ 600130; omega) (by show _ ≤ 7301080; omega) ?_
          refine va_iast hx hb hK hP hD hS 15 0 rfl rfl (vp_in_nI (by omega) (by omega)) dL_law_119 (fun H locs hP hD hS => ?_)
          rw [show (nI r).toNatClampNeg = r from nI_clamp (by omega)] at hP hD
          have hP : va_P (dC, dI) vwCl ([(x0, .inr (1, [.ref r0, .ref r1, .ref r2, .ref r3, .int (nI rn)])), (r0, .inr (0, [.ref a0, .int (nI L0.length)])), (a0, .inl (cA, (100, .inl f0))), (r1, .inr (0, [.ref a1, .int (nI L1.length)])), (a1, .inl (cA, (100, .inl f1))), (r2, .inr (0, [.ref a2, .int n2])), (a2, .inl (cA, (100, .inl f2))), (r3, .inr (0, [.ref a3, .int n3])), (a3, .inl (cA, (100, .inl f3))), (y0, .inr (2, [.int (nI rn), .ref q0])), (q0, .inl (cAA, (2, .inr (.inr (.inr (.inr (w2f p0 p1))))))), (p0, .inl (cA, (L0.length, .inl (atL L0)))), (p1, .inl (cA, (L1.length, .inl (atL L1)))), (ea, .inl (cAA, (2, .inr (.inr (.inr (.inr (w2f e0 e1))))))), (e0, .inl (cA, (rn, .inl g0))), (e1, .inl (cA, (rn, .inl (upd ef r (plE L1 (nI r) L1.length))))), (ca, .inl (cAAA, (2, .inr (.inr (.inr (.inr (w2f c0 c1))))))), (c0, .inl (cAA, (rn, .inr (.inr (.inr (.inr (crF Rr))))))), (c1, .inl (cAA, (rn, .inr (.inr (.inr (.inr (crG Rr rn)))))))] ++ plR cA rn (2 * rn) Rr F) H := hP
          have hD : va_D A ([(x0, .inr (1, [.ref r0, .ref r1, .ref r2, .ref r3, .int (nI rn)])), (r0, .inr (0, [.ref a0, .int (nI L0.length)])), (a0, .inl (cA, (100, .inl f0))), (r1, .inr (0, [.ref a1, .int (nI L1.length)])), (a1, .inl (cA, (100, .inl f1))), (r2, .inr (0, [.ref a2, .int n2])), (a2, .inl (cA, (100, .inl f2))), (r3, .inr (0, [.ref a3, .int n3])), (a3, .inl (cA, (100, .inl f3))), (y0, .inr (2, [.int (nI rn), .ref q0])), (q0, .inl (cAA, (2, .inr (.inr (.inr (.inr (w2f p0 p1))))))), (p0, .inl (cA, (L0.length, .inl (atL L0)))), (p1, .inl (cA, (L1.length, .inl (atL L1)))), (ea, .inl (cAA, (2, .inr (.inr (.inr (.inr (w2f e0 e1))))))), (e0, .inl (cA, (rn, .inl g0))), (e1, .inl (cA, (rn, .inl (upd ef r (plE L1 (nI r) L1.length))))), (ca, .inl (cAAA, (2, .inr (.inr (.inr (.inr (w2f c0 c1))))))), (c0, .inl (cAA, (rn, .inr (.inr (.inr (.inr (crF Rr))))))), (c1, .inl (cAA, (rn, .inr (.inr (.inr (.inr (crG Rr rn)))))))] ++ plR cA rn (2 * rn) Rr F) := hD
          refine lv_iload hx hb dL_law_120 (lv_at hl 1 rfl) ?_
          refine lv_iconst (v := 1) hx hb dL_law_122 (by decide) ?_
          refine lv_aload hx hb dL_law_123 (lv_at hl 5 rfl) ?_
          refine lv_iload hx hb dL_law_125 (lv_at hl 3 rfl) ?_
          refine va_ald2 hx hb hK hP 13 1 rfl rfl (vp_in_nI (n := 1) (by omega) (by decide)) dL_law_127 ?_
          rw [show va_rf ((w2f e0 e1) (1 : Int32).toNatClampNeg) = .ref e1 from (by rw [show (1 : Int32).toNatClampNeg = 1 from by decide]; rfl)]
          refine lv_iload hx hb dL_law_128 (lv_at hl 0 rfl) ?_
          refine va_iald hx hb hK hP 15 0 rfl rfl (vp_in_nI (by omega) (by omega)) dL_law_130 ?_
          rw [show (nI r).toNatClampNeg = r from nI_clamp (by omega)]
          rw [show (upd ef r (plE L1 (nI r) L1.length)) r = plE L1 (nI r) L1.length from pk_us]
          refine lv_ishl hx hb dL_law_131 ?_
          obtain ⟨p9, hp9, hpe⟩ := pl_lt hrn hk1 (show r < rn by omega) (Nat.le_refl L1.length)
          rw [show (1 : Int32) <<< (plE L1 (nI r) L1.length &&& 31) = 1 <<< plE L1 (nI r) L1.length from by rw [hpe]; exact shl31 p9 (by omega)]
          refine lv_ior hx hb dL_law_132 ?_
          rw [show mkI L1 r ||| (1 <<< plE L1 (nI r) L1.length) = mkI L1 (r + 1) from rfl]
          refine lv_istore (lv' := [(10, .int (mkI L1 (r + 1))), (11, .int (nI r)), (9, .int (sumP (crP L1) r)), (8, .int 1), (7, .ref ca), (6, .ref ea), (5, .int x5), (4, .int (nI t9)), (3, .int (nI rn)), (2, .ref y0), (1, .ref x0), (0, .ref b9)]) hx hb dL_law_133 hl (by decide) rfl (fun ls hl => ?_)
          refine lv_iconst (v := 0) hx hb dL_law_135 (by decide) ?_
          refine lv_istore (lv' := [(12, .int 0), (10, .int (mkI L1 (r + 1))), (11, .int (nI r)), (9, .int (sumP (crP L1) r)), (8, .int 1), (7, .ref ca), (6, .ref ea), (5, .int x5), (4, .int (nI t9)), (3, .int (nI rn)), (2, .ref y0), (1, .ref x0), (0, .ref b9)]) hx hb dL_law_136 hl (by decide) rfl (fun ls hl => ?_)
          have lpo138 : ∀ (d : Nat) (o : Nat) (F2 : Nat → Nat → Int32) (ho9 : o ≤ rn) (hF2 : cvF (cvG rn L0 L1) F2 (rn + r) o), rn - o < d → ∀ (H : Heap) (locs : List Loc), va_P (dC, dI) vwCl ([(x0, .inr (1, [.ref r0, .ref r1, .ref r2, .ref r3, .int (nI rn)])), (r0, .inr (0, [.ref a0, .int (nI L0.length)])), (a0, .inl (cA, (100, .inl f0))), (r1, .inr (0, [.ref a1, .int (nI L1.length)])), (a1, .inl (cA, (100, .inl f1))), (r2, .inr (0, [.ref a2, .int n2])), (a2, .inl (cA, (100, .inl f2))), (r3, .inr (0, [.ref a3, .int n3])), (a3, .inl (cA, (100, .inl f3))), (y0, .inr (2, [.int (nI rn), .ref q0])), (q0, .inl (cAA, (2, .inr (.inr (.inr (.inr (w2f p0 p1))))))), (p0, .inl (cA, (L0.length, .inl (atL L0)))), (p1, .inl (cA, (L1.length, .inl (atL L1)))), (ea, .inl (cAA, (2, .inr (.inr (.inr (.inr (w2f e0 e1))))))), (e0, .inl (cA, (rn, .inl g0))), (e1, .inl (cA, (rn, .inl (upd ef r (plE L1 (nI r) L1.length))))), (ca, .inl (cAAA, (2, .inr (.inr (.inr (.inr (w2f c0 c1))))))), (c0, .inl (cAA, (rn, .inr (.inr (.inr (.inr (crF Rr))))))), (c1, .inl (cAA, (rn, .inr (.inr (.inr (.inr (crG Rr rn)))))))] ++ plR cA rn (2 * rn) Rr F2) H → va_D A ([(x0, .inr (1, [.ref r0, .ref r1, .ref r2, .ref r3, .int (nI rn)])), (r0, .inr (0, [.ref a0, .int (nI L0.length)])), (a0, .inl (cA, (100, .inl f0))), (r1, .inr (0, [.ref a1, .int (nI L1.length)])), (a1, .inl (cA, (100, .inl f1))), (r2, .inr (0, [.ref a2, .int n2])), (a2, .inl (cA, (100, .inl f2))), (r3, .inr (0, [.ref a3, .int n3])), (a3, .inl (cA, (100, .inl f3))), (y0, .inr (2, [.int (nI rn), .ref q0])), (q0, .inl (cAA, (2, .inr (.inr (.inr (.inr (w2f p0 p1))))))), (p0, .inl (cA, (L0.length, .inl (atL L0)))), (p1, .inl (cA, (L1.length, .inl (atL L1)))), (ea, .inl (cAA, (2, .inr (.inr (.inr (.inr (w2f e0 e1))))))), (e0, .inl (cA, (rn, .inl g0))), (e1, .inl (cA, (rn, .inl (upd ef r (plE L1 (nI r) L1.length))))), (ca, .inl (cAAA, (2, .inr (.inr (.inr (.inr (w2f c0 c1))))))), (c0, .inl (cAA, (rn, .inr (.inr (.inr (.inr (crF Rr))))))), (c1, .inl (cAA, (rn, .inr (.inr (.inr (.inr (crG Rr rn)))))))] ++ plR cA rn (2 * rn) Rr F2) → va_S A s.heap H locs → ∀ ls : Array Slot, lv_has ls 17 [(12, .int (nI o)), (11, .int (nI r)), (10, .int (mkI L1 (r + 1))), (9, .int (sumP (crP L1) r)), (8, .int 1), (7, .ref ca), (6, .ref ea), (5, .int x5), (4, .int (nI t9)), (3, .int (nI rn)), (2, .ref y0), (1, .ref x0), (0, .ref b9)] → W p l e room_1 s m ([.ref b9] : List Value).toArray below meth c H locs cells slots Q (F0 m 138 ls []) := by
            intro d
            induction d with
            | zero => intro o F2 ho9 hF2 hd; exact absurd hd (Nat.not_lt_zero _)
            | succ d ih138 =>
              intro o F2 ho9 hF2 hd H locs hP hD hS ls hl
              refine lv_iload hx hb dL_law_138 (lv_at hl 0 rfl) ?_
              refine lv_iload_n hx hb dL_law_140 rfl (lv_at hl 9 rfl) ?_
              refine lv_icmp_ge (tgt := 178) hx hb dL_law_141 (by decide) (fun c141 => ?_) (fun c141 => ?_)
              · have c141 : rn ≤ o := g_geT o rn (by omega) (by omega) c141
                have hoe : o = rn := by omega
                rw [hoe] at hF2
                have hF3 := cvF_row hF2 (fun b hb9 => cvG_1o hb9)
                refine lv_iconst (v := 0) hx hb dL_law_178 (by decide) ?_
                refine lv_istore (lv' := [(12, .int 0), (11, .int (nI r)), (10, .int (mkI L1 (r + 1))), (9, .int (sumP (crP L1) r)), (8, .int 1), (7, .ref ca), (6, .ref ea), (5, .int x5), (4, .int (nI t9)), (3, .int (nI rn)), (2, .ref y0), (1, .ref x0), (0, .ref b9)]) hx hb dL_law_179 hl (by decide) rfl (fun ls hl => ?_)
                rw [show sumP (crP L1) r = sumP (crP L1) r + rowP (crP L1) r 0 from (Int32.add_zero _).symm] at hl
                have lpu181 : ∀ (d : Nat) (u : Nat) (hu9 : u ≤ r), r - u < d → ∀ ls : Array Slot, lv_has ls 17 [(12, .int (nI u)), (11, .int (nI r)), (10, .int (mkI L1 (r + 1))), (9, .int (sumP (crP L1) r + rowP (crP L1) r u)), (8, .int 1), (7, .ref ca), (6, .ref ea), (5, .int x5), (4, .int (nI t9)), (3, .int (nI rn)), (2, .ref y0), (1, .ref x0), (0, .ref b9)] → W p l e room_1 s m ([.ref b9] : List Value).toArray below meth c H locs cells slots Q (F0 m 181 ls []) := by
                  intro d
                  induction d with
                  | zero => intro u hu9 hd; exact absurd hd (Nat.not_lt_zero _)
                  | succ d ih181 =>
                    intro u hu9 hd ls hl
                    refine lv_iload hx hb dL_law_181 (lv_at hl 0 rfl) ?_
                    refine lv_iload hx hb dL_law_183 (lv_at hl 1 rfl) ?_
                    refine lv_icmp_ge (tgt := 279) hx hb dL_law_185 (by decide) (fun c185 => ?_) (fun c185 => ?_)
                    · have c185 : r ≤ u := g_geT u r (by omega) (by omega) c185
                      have hue : u = r := by omega
                      rw [hue] at hl
                      refine lv_iinc (v := nI (r + 1)) (lv' := [(11, .int (nI (r + 1))), (12, .int (nI r)), (10, .int (mkI L1 (r + 1))), (9, .int (sumP (crP L1) r + rowP (crP L1) r r)), (8, .int 1), (7, .ref ca), (6, .ref ea), (5, .int x5), (4, .int (nI t9)), (3, .int (nI rn)), (2, .ref y0), (1, .ref x0), (0, .ref b9)]) hx hb dL_law_279 hl (k := 1) rfl (g_inc _) (by decide) rfl (fun ls hl => ?_)
                      refine lv_goto (tgt := 98) hx hb dL_law_282 (by decide) ?_
                      exact ih98 (r + 1) (upd ef r (plE L1 (nI r) L1.length)) F2 (by omega) (ef_st hef) hF3 (by omega) _ _ hP hD hS _ (lv_sub hl [0, 2, 3, 4, 5, 6, 7, 8, 9, 10, 11, 12] rfl)
                    · have c185 : u < r := g_geF u r (by omega) (by omega) c185
                      refine lv_iload hx hb dL_law_188 (lv_at hl 3 rfl) ?_
                      refine lv_aload hx hb dL_law_190 (lv_at hl 5 rfl) ?_
                      refine lv_iload hx hb dL_law_192 (lv_at hl 4 rfl) ?_
                      refine va_ald2 hx hb hK hP 16 2 rfl rfl (vp_in_nI (n := 1) (by omega) (by decide)) dL_law_194 ?_
                      rw [show va_rf ((w2f c0 c1) (1 : Int32).toNatClampNeg) = .ref c1 from (by rw [show (1 : Int32).toNatClampNeg = 1 from by decide]; rfl)]
                      refine lv_iload hx hb dL_law_195 (lv_at hl 1 rfl) ?_
                      refine va_ald2 hx hb hK hP 18 1 rfl rfl (vp_in_nI (by omega) (by omega)) dL_law_197 ?_
                      rw [show va_rf ((crG Rr rn) (nI r).toNatClampNeg) = .ref (Rr (rn + r)) from (by rw [nI_clamp (by omega)]; rfl)]
                      refine lv_iload hx hb dL_law_198 (lv_at hl 0 rfl) ?_
                      refine va_pld hx hb hK hP 0 rfl (i := (rn + r)) (k := u) (by omega) (by omega) (by omega) dL_law_200 ?_
                      rw [show F2 (rn + r) u = crP L1 r u from (cvF_at hF3 (Or.inl (by omega))).trans (cvG_1 (by omega) (by omega))]
                      refine lv_iadd hx hb dL_law_201 ?_
                      rw [show (sumP (crP L1) r + rowP (crP L1) r u) + crP L1 r u = sumP (crP L1) r + rowP (crP L1) r (u + 1) from Int32.add_assoc _ _ _]
                      refine lv_istore (lv' := [(9, .int (sumP (crP L1) r + rowP (crP L1) r (u + 1))), (12, .int (nI u)), (11, .int (nI r)), (10, .int (mkI L1 (r + 1))), (8, .int 1), (7, .ref ca), (6, .ref ea), (5, .int x5), (4, .int (nI t9)), (3, .int (nI rn)), (2, .ref y0), (1, .ref x0), (0, .ref b9)]) hx hb dL_law_202 hl (by decide) rfl (fun ls hl => ?_)
                      refine lv_aload hx hb dL_law_204 (lv_at hl 5 rfl) ?_
                      refine lv_iload hx hb dL_law_206 (lv_at hl 4 rfl) ?_
                      refine va_ald2 hx hb hK hP 16 2 rfl rfl (vp_in_nI (n := 1) (by omega) (by decide)) dL_law_208 ?_
                      rw [show va_rf ((w2f c0 c1) (1 : Int32).toNatClampNeg) = .ref c1 from (by rw [show (1 : Int32).toNatClampNeg = 1 from by decide]; rfl)]
                      refine lv_iload hx hb dL_law_209 (lv_at hl 2 rfl) ?_
                      refine va_ald2 hx hb hK hP 18 1 rfl rfl (vp_in_nI (by omega) (by omega)) dL_law_211 ?_
                      rw [show va_rf ((crG Rr rn) (nI r).toNatClampNeg) = .ref (Rr (rn + r)) from (by rw [nI_clamp (by omega)]; rfl)]
                      refine lv_iload hx hb dL_law_212 (lv_at hl 1 rfl) ?_
                      refine va_pld hx hb hK hP 0 rfl (i := (rn + r)) (k := u) (by omega) (by omega) (by omega) dL_law_214 ?_
                      rw [show F2 (rn + r) u = crP L1 r u from (cvF_at hF3 (Or.inl (by omega))).trans (cvG_1 (by omega) (by omega))]
                      refine lv_aload hx hb dL_law_215 (lv_at hl 5 rfl) ?_
                      refine lv_iload hx hb dL_law_217 (lv_at hl 4 rfl) ?_
                      refine va_ald2 hx hb hK hP 16 2 rfl rfl (vp_in_nI (n := 1) (by omega) (by decide)) dL_law_219 ?_
                      rw [show va_rf ((w2f c0 c1) (1 : Int32).toNatClampNeg) = .ref c1 from (by rw [show (1 : Int32).toNatClampNeg = 1 from by decide]; rfl)]
                      refine lv_iload hx hb dL_law_220 (lv_at hl 1 rfl) ?_
                      refine va_ald2 hx hb hK hP 18 1 rfl rfl (vp_in_nI (by omega) (by omega)) dL_law_222 ?_
                      rw [show va_rf ((crG Rr rn) (nI u).toNatClampNeg) = .ref (Rr (rn + u)) from (by rw [nI_clamp (by omega)]; rfl)]
                      refine lv_iload hx hb dL_law_223 (lv_at hl 2 rfl) ?_
                      refine va_pld hx hb hK hP 0 rfl (i := (rn + u)) (k := r) (by omega) (by omega) (by omega) dL_law_225 ?_
                      rw [show F2 (rn + u) r = crP L1 u r from (cvF_at hF3 (Or.inl (by omega))).trans (cvG_1 (by omega) (by omega))]
                      refine lv_icmp_eq (tgt := 231) hx hb dL_law_226 (by decide) (fun c226 => ?_) (fun c226 => ?_)
                      · refine lv_aload hx hb dL_law_231 (lv_at hl 5 rfl) ?_
                        refine lv_iload hx hb dL_law_233 (lv_at hl 4 rfl) ?_
                        refine va_ald2 hx hb hK hP 16 2 rfl rfl (vp_in_nI (n := 1) (by omega) (by decide)) dL_law_235 ?_
                        rw [show va_rf ((w2f c0 c1) (1 : Int32).toNatClampNeg) = .ref c1 from (by rw [show (1 : Int32).toNatClampNeg = 1 from by decide]; rfl)]
                        refine lv_iload hx hb dL_law_236 (lv_at hl 2 rfl) ?_
                        refine va_ald2 hx hb hK hP 18 1 rfl rfl (vp_in_nI (by omega) (by omega)) dL_law_238 ?_
                        rw [show va_rf ((crG Rr rn) (nI r).toNatClampNeg) = .ref (Rr (rn + r)) from (by rw [nI_clamp (by omega)]; rfl)]
                        refine lv_iload hx hb dL_law_239 (lv_at hl 1 rfl) ?_
                        refine va_pld hx hb hK hP 0 rfl (i := (rn + r)) (k := u) (by omega) (by omega) (by omega) dL_law_241 ?_
                        rw [show F2 (rn + r) u = crP L1 r u from (cvF_at hF3 (Or.inl (by omega))).trans (cvG_1 (by omega) (by omega))]
                        refine lv_iconst (v := 1) hx hb dL_law_242 (by decide) ?_
                        refine lv_iand hx hb dL_law_243 ?_
                        refine lv_aload hx hb dL_law_244 (lv_at hl 6 rfl) ?_
                        refine lv_iload hx hb dL_law_246 (lv_at hl 4 rfl) ?_
                        refine va_ald2 hx hb hK hP 13 1 rfl rfl (vp_in_nI (n := 1) (by omega) (by decide)) dL_law_248 ?_
                        rw [show va_rf ((w2f e0 e1) (1 : Int32).toNatClampNeg) = .ref e1 from (by rw [show (1 : Int32).toNatClampNeg = 1 from by decide]; rfl)]
                        refine lv_iload hx hb dL_law_249 (lv_at hl 2 rfl) ?_
                        refine va_iald hx hb hK hP 15 0 rfl rfl (vp_in_nI (by omega) (by omega)) dL_law_251 ?_
                        rw [show (nI r).toNatClampNeg = r from nI_clamp (by omega)]
                        rw [show (upd ef r (plE L1 (nI r) L1.length)) r = plE L1 (nI r) L1.length from pk_us]
                        refine lv_aload hx hb dL_law_252 (lv_at hl 6 rfl) ?_
                        refine lv_iload hx hb dL_law_254 (lv_at hl 4 rfl) ?_
                        refine va_ald2 hx hb hK hP 13 1 rfl rfl (vp_in_nI (n := 1) (by omega) (by decide)) dL_law_256 ?_
                        rw [show va_rf ((w2f e0 e1) (1 : Int32).toNatClampNeg) = .ref e1 from (by rw [show (1 : Int32).toNatClampNeg = 1 from by decide]; rfl)]
                        refine lv_iload hx hb dL_law_257 (lv_at hl 1 rfl) ?_
                        refine va_iald hx hb hK hP 15 0 rfl rfl (vp_in_nI (by omega) (by omega)) dL_law_259 ?_
                        rw [show (nI u).toNatClampNeg = u from nI_clamp (by omega)]
                        rw [show (upd ef r (plE L1 (nI r) L1.length)) u = plE L1 (nI u) L1.length from (pk_un (by omega)).trans (hef u (by omega))]
                        refine lv_icmp_ge (tgt := 267) hx hb dL_law_260 (by decide) (fun c260 => ?_) (fun c260 => ?_)
                        · refine lv_iconst (v := 0) hx hb dL_law_267 (by decide) ?_
                          refine lv_icmp_eq (tgt := 273) hx hb dL_law_268 (by decide) (fun c268 => ?_) (fun c268 => ?_)
                          · refine lv_iinc (v := nI (u + 1)) (lv' := [(12, .int (nI (u + 1))), (9, .int (sumP (crP L1) r + rowP (crP L1) r (u + 1))), (11, .int (nI r)), (10, .int (mkI L1 (r + 1))), (8, .int 1), (7, .ref ca), (6, .ref ea), (5, .int x5), (4, .int (nI t9)), (3, .int (nI rn)), (2, .ref y0), (1, .ref x0), (0, .ref b9)]) hx hb dL_law_273 hl (k := 1) rfl (g_inc _) (by decide) rfl (fun ls hl => ?_)
                            refine lv_goto (tgt := 181) hx hb dL_law_276 (by decide) ?_
                            exact ih181 (u + 1) (by omega) (by omega) _ (lv_sub hl [0, 2, 3, 1, 4, 5, 6, 7, 8, 9, 10, 11, 12] rfl)
                          · exact absurd ((cr_par hW1 (by omega) (by omega) (Nat.le_refl _)).trans (if_neg (Int32.not_lt.mpr c260))) c268
                        · refine lv_iconst (v := 1) hx hb dL_law_263 (by decide) ?_
                          refine lv_goto (tgt := 268) hx hb dL_law_264 (by decide) ?_
                          refine lv_icmp_eq (tgt := 273) hx hb dL_law_268 (by decide) (fun c268 => ?_) (fun c268 => ?_)
                          · refine lv_iinc (v := nI (u + 1)) (lv' := [(12, .int (nI (u + 1))), (9, .int (sumP (crP L1) r + rowP (crP L1) r (u + 1))), (11, .int (nI r)), (10, .int (mkI L1 (r + 1))), (8, .int 1), (7, .ref ca), (6, .ref ea), (5, .int x5), (4, .int (nI t9)), (3, .int (nI rn)), (2, .ref y0), (1, .ref x0), (0, .ref b9)]) hx hb dL_law_273 hl (k := 1) rfl (g_inc _) (by decide) rfl (fun ls hl => ?_)
                            refine lv_goto (tgt := 181) hx hb dL_law_276 (by decide) ?_
                            exact ih181 (u + 1) (by omega) (by omega) _ (lv_sub hl [0, 2, 3, 1, 4, 5, 6, 7, 8, 9, 10, 11, 12] rfl)
                          · exact absurd ((cr_par hW1 (by omega) (by omega) (Nat.le_refl _)).trans (if_pos (Int32.not_le.mp c260))) c268
                      · exact absurd (show crP L1 r u = crP L1 u r from crS_sy) c226
                exact lpu181 ((r - 0) + 1) 0 (Nat.zero_le _) (Nat.lt_succ_self _) _ (lv_sub hl [0, 1, 2, 3, 4, 5, 6, 7, 8, 9, 10, 11, 12] rfl)
              · have c141 : o < rn := g_geF o rn (by omega) (by omega) c141
                refine lv_iload hx hb dL_law_144 (lv_at hl 0 rfl) ?_
                refine lv_iload hx hb dL_law_146 (lv_at hl 1 rfl) ?_
                refine lv_icmp_eq (tgt := 172) hx hb dL_law_148 (by decide) (fun c148 => ?_) (fun c148 => ?_)
                · have c148 : o = r := g_eqT o r (by omega) (by omega) c148
                  refine lv_iinc (v := nI (o + 1)) (lv' := [(12, .int (nI (o + 1))), (11, .int (nI r)), (10, .int (mkI L1 (r + 1))), (9, .int (sumP (crP L1) r)), (8, .int 1), (7, .ref ca), (6, .ref ea), (5, .int x5), (4, .int (nI t9)), (3, .int (nI rn)), (2, .ref y0), (1, .ref x0), (0, .ref b9)]) hx hb dL_law_172 hl (k := 0) rfl (g_inc _) (by decide) rfl (fun ls hl => ?_)
                  refine lv_goto (tgt := 138) hx hb dL_law_175 (by decide) ?_
                  exact ih138 (o + 1) F2 (by omega) (cvF_sk hF2 (by rw [c148]; exact cvG_1s)) (by omega) _ _ hP hD hS _ (lv_sub hl [0, 1, 2, 3, 4, 5, 6, 7, 8, 9, 10, 11, 12] rfl)
                · have c148 : ¬ o = r := g_eqF o r (by omega) (by omega) c148
                  refine lv_aload hx hb dL_law_151 (lv_at hl 5 rfl) ?_
                  refine lv_iload hx hb dL_law_153 (lv_at hl 4 rfl) ?_
                  refine va_ald2 hx hb hK hP 16 2 rfl rfl (vp_in_nI (n := 1) (by omega) (by decide)) dL_law_155 ?_
                  rw [show va_rf ((w2f c0 c1) (1 : Int32).toNatClampNeg) = .ref c1 from (by rw [show (1 : Int32).toNatClampNeg = 1 from by decide]; rfl)]
                  refine lv_iload hx hb dL_law_156 (lv_at hl 1 rfl) ?_
                  refine va_ald2 hx hb hK hP 18 1 rfl rfl (vp_in_nI (by omega) (by omega)) dL_law_158 ?_
                  rw [show va_rf ((crG Rr rn) (nI r).toNatClampNeg) = .ref (Rr (rn + r)) from (by rw [nI_clamp (by omega)]; rfl)]
                  refine lv_iload hx hb dL_law_159 (lv_at hl 0 rfl) ?_
                  refine lv_aload_n hx hb dL_law_161 rfl (lv_at hl 11 rfl) ?_
                  refine lv_iload hx hb dL_law_162 (lv_at hl 4 rfl) ?_
                  refine lv_iload hx hb dL_law_164 (lv_at hl 1 rfl) ?_
                  refine lv_iload hx hb dL_law_166 (lv_at hl 0 rfl) ?_
                  refine g_RVi (As := [.int 1, .int (nI r), .int (nI o)]) (rest := [.int (nI o), .ref (Rr (rn + r))]) ⟨hx, hb, hml, hown, hts⟩ (mt_X1_crosses1 l dC dI cA H.size x0 r0 r1 r2 r3 rn a1 L1 f1 (nI r) (nI o) hR1 (nI_pos (by omega)) (nI_lt (by omega) (by omega)) (nI_pos (by omega)) (nI_lt (by omega) (by omega)) (nI_ne (by omega) (by omega) (fun q9 => c148 q9.symm))) (cwV 3 hts gL_law_X1_crosses rfl rfl rfl hdX1_crosses ⟨Nat.le_of_ble_eq_true rfl, Nat.le_of_ble_eq_true rfl⟩) hP hK1 hD [0, 3, 4] (by decide) rfl (va_recv hK hP (ci := 1) (q0 := 0) rfl rfl) rfl hl.1 rfl (Nat.le_of_ble_eq_true rfl) dL_law_168 (by show _ ≤ 600130; omega) (by show _ ≤ 7301080; omega) ?_
                  refine va_pst hx hb hK hP hD hS 0 rfl (i := (rn + r)) (k := o) (by omega) (by omega) (by omega) dL_law_171 (fun H locs hP hD hS => ?_)
                  have hP : va_P (dC, dI) vwCl ([(x0, .inr (1, [.ref r0, .ref r1, .ref r2, .ref r3, .int (nI rn)])), (r0, .inr (0, [.ref a0, .int (nI L0.length)])), (a0, .inl (cA, (100, .inl f0))), (r1, .inr (0, [.ref a1, .int (nI L1.length)])), (a1, .inl (cA, (100, .inl f1))), (r2, .inr (0, [.ref a2, .int n2])), (a2, .inl (cA, (100, .inl f2))), (r3, .inr (0, [.ref a3, .int n3])), (a3, .inl (cA, (100, .inl f3))), (y0, .inr (2, [.int (nI rn), .ref q0])), (q0, .inl (cAA, (2, .inr (.inr (.inr (.inr (w2f p0 p1))))))), (p0, .inl (cA, (L0.length, .inl (atL L0)))), (p1, .inl (cA, (L1.length, .inl (atL L1)))), (ea, .inl (cAA, (2, .inr (.inr (.inr (.inr (w2f e0 e1))))))), (e0, .inl (cA, (rn, .inl g0))), (e1, .inl (cA, (rn, .inl (upd ef r (plE L1 (nI r) L1.length))))), (ca, .inl (cAAA, (2, .inr (.inr (.inr (.inr (w2f c0 c1))))))), (c0, .inl (cAA, (rn, .inr (.inr (.inr (.inr (crF Rr))))))), (c1, .inl (cAA, (rn, .inr (.inr (.inr (.inr (crG Rr rn)))))))] ++ plR cA rn (2 * rn) Rr (updF F2 (rn + r) o (crS L1 (nI r) (nI o) L1.length))) H := hP
                  have hD : va_D A ([(x0, .inr (1, [.ref r0, .ref r1, .ref r2, .ref r3, .int (nI rn)])), (r0, .inr (0, [.ref a0, .int (nI L0.length)])), (a0, .inl (cA, (100, .inl f0))), (r1, .inr (0, [.ref a1, .int (nI L1.length)])), (a1, .inl (cA, (100, .inl f1))), (r2, .inr (0, [.ref a2, .int n2])), (a2, .inl (cA, (100, .inl f2))), (r3, .inr (0, [.ref a3, .int n3])), (a3, .inl (cA, (100, .inl f3))), (y0, .inr (2, [.int (nI rn), .ref q0])), (q0, .inl (cAA, (2, .inr (.inr (.inr (.inr (w2f p0 p1))))))), (p0, .inl (cA, (L0.length, .inl (atL L0)))), (p1, .inl (cA, (L1.length, .inl (atL L1)))), (ea, .inl (cAA, (2, .inr (.inr (.inr (.inr (w2f e0 e1))))))), (e0, .inl (cA, (rn, .inl g0))), (e1, .inl (cA, (rn, .inl (upd ef r (plE L1 (nI r) L1.length))))), (ca, .inl (cAAA, (2, .inr (.inr (.inr (.inr (w2f c0 c1))))))), (c0, .inl (cAA, (rn, .inr (.inr (.inr (.inr (crF Rr))))))), (c1, .inl (cAA, (rn, .inr (.inr (.inr (.inr (crG Rr rn)))))))] ++ plR cA rn (2 * rn) Rr (updF F2 (rn + r) o (crS L1 (nI r) (nI o) L1.length))) := hD
                  refine lv_iinc (v := nI (o + 1)) (lv' := [(12, .int (nI (o + 1))), (11, .int (nI r)), (10, .int (mkI L1 (r + 1))), (9, .int (sumP (crP L1) r)), (8, .int 1), (7, .ref ca), (6, .ref ea), (5, .int x5), (4, .int (nI t9)), (3, .int (nI rn)), (2, .ref y0), (1, .ref x0), (0, .ref b9)]) hx hb dL_law_172 hl (k := 0) rfl (g_inc _) (by decide) rfl (fun ls hl => ?_)
                  refine lv_goto (tgt := 138) hx hb dL_law_175 (by decide) ?_
                  exact ih138 (o + 1) (updF F2 (rn + r) o (crS L1 (nI r) (nI o) L1.length)) (by omega) (cvF_st hF2 (cvG_1 (by omega) c148).symm) (by omega) _ _ hP hD hS _ (lv_sub hl [0, 1, 2, 3, 4, 5, 6, 7, 8, 9, 10, 11, 12] rfl)
          exact lpo138 ((rn - 0) + 1) 0 F (Nat.zero_le _) hF (Nat.lt_succ_self _) _ _ hP hD hS _ (lv_sub hl [0, 2, 1, 3, 4, 5, 6, 7, 8, 9, 10, 11, 12] rfl)
    exact lpr98 ((rn - 0) + 1) 0 g1 Fq (Nat.zero_le _) (fun j hj => absurd hj (Nat.not_lt_zero j)) hF0 (Nat.lt_succ_self _) _ _ hP hD hS _ (lv_sub hl [0, 1, 2, 3, 4, 5, 6, 7, 8, 9, 10, 11] rfl)
