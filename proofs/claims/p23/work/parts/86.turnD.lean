/-! 86: a turn of the law: behind a move -/

set_option maxHeartbeats 4000000 in
set_option maxRecDepth 100000 in
/-- behind a move: word 0 -/
theorem lw_d2_0 {p : Program} {l : Launch} {e : Env} {s : State} {m : MethodId} {below : List Frame} {meth : Method} {c : Code} {Q : State → Prop} {dC : Nat → ClassId} {dI : Nat → Nat → Nat} {cA cAA cAAA : ClassId} {A : Nat → Prop} {b9 LL : Nat} {xs : Nat → Int32} (E : lwC p l s m c b9 LL xs dC dI cA cAA cAAA A) (x0 : Nat) (r0 : Nat) (r1 : Nat) (r2 : Nat) (r3 : Nat) (a0 : Nat) (a1 : Nat) (a2 : Nat) (a3 : Nat) (y0 : Nat) (q0 : Nat) (p0 : Nat) (p1 : Nat) (rn : Nat) (L0 : List Int32) (f0 : Nat → Int32) (L1 : List Int32) (f1 : Nat → Int32) (n2 : Int32) (f2 : Nat → Int32) (n3 : Int32) (f3 : Nat → Int32) (t9 : Nat) (x5 : Int32) (ea : Nat) (e0 : Nat) (e1 : Nat) (ca : Nat) (c0 : Nat) (c1 : Nat) (Rr : Nat → Nat) (g0 : Nat → Int32) (g1 : Nat → Int32) (F : Nat → Nat → Int32) (K0 : List Int32) (K1 : List Int32) (sg : Nat) (hR0 : RI L0 f0) (hR1 : RI L1 f1) (hk0 : okL rn L0) (hk1 : okL rn L1) (hl0 : L0.length ≤ 30) (hl1 : L1.length ≤ 30) (hrn : rn ∈ rnS) (hr6 : rn ≤ 6) (hr3 : 3 ≤ rn) (hJ0 : okL rn K0) (hJ1 : okL rn K1) (hm0 : mvR K0 L0) (hm1 : mvR K1 L1) (hg0 : ∀ j, j < rn → g0 j = plE K0 (nI j) K0.length) (hg1 : ∀ j, j < rn → g1 j = plE K1 (nI j) K1.length) (hF : cvF (cvG rn K0 K1) F (rn + rn) 0) {H : Heap} {locs : List Loc} {cells slots : Nat} (hcz : cells ≤ 600130) (hsz : slots ≤ 7301080) (hP : va_P (dC, dI) vwCl ([(x0, .inr (1, [.ref r0, .ref r1, .ref r2, .ref r3, .int (nI rn)])), (r0, .inr (0, [.ref a0, .int (nI L0.length)])), (a0, .inl (cA, (100, .inl f0))), (r1, .inr (0, [.ref a1, .int (nI L1.length)])), (a1, .inl (cA, (100, .inl f1))), (r2, .inr (0, [.ref a2, .int n2])), (a2, .inl (cA, (100, .inl f2))), (r3, .inr (0, [.ref a3, .int n3])), (a3, .inl (cA, (100, .inl f3))), (y0, .inr (2, [.int (nI rn), .ref q0])), (q0, .inl (cAA, (2, .inr (.inr (.inr (.inr (w2f p0 p1))))))), (p0, .inl (cA, (L0.length, .inl (atL L0)))), (p1, .inl (cA, (L1.length, .inl (atL L1)))), (ea, .inl (cAA, (2, .inr (.inr (.inr (.inr (w2f e0 e1))))))), (e0, .inl (cA, (rn, .inl g0))), (e1, .inl (cA, (rn, .inl g1))), (ca, .inl (cAAA, (2, .inr (.inr (.inr (.inr (w2f c0 c1))))))), (c0, .inl (cAA, (rn, .inr (.inr (.inr (.inr (crF Rr))))))), (c1, .inl (cAA, (rn, .inr (.inr (.inr (.inr (crG Rr rn))))))), (sg, .inl (cA, (2, .inl (upd (upd (fun _ => 0) 0 (paI (plain K0) 2)) 1 (paI (plain K1) 2)))))] ++ plR cA rn (2 * rn) Rr F) H) (hD : va_D A ([(x0, .inr (1, [.ref r0, .ref r1, .ref r2, .ref r3, .int (nI rn)])), (r0, .inr (0, [.ref a0, .int (nI L0.length)])), (a0, .inl (cA, (100, .inl f0))), (r1, .inr (0, [.ref a1, .int (nI L1.length)])), (a1, .inl (cA, (100, .inl f1))), (r2, .inr (0, [.ref a2, .int n2])), (a2, .inl (cA, (100, .inl f2))), (r3, .inr (0, [.ref a3, .int n3])), (a3, .inl (cA, (100, .inl f3))), (y0, .inr (2, [.int (nI rn), .ref q0])), (q0, .inl (cAA, (2, .inr (.inr (.inr (.inr (w2f p0 p1))))))), (p0, .inl (cA, (L0.length, .inl (atL L0)))), (p1, .inl (cA, (L1.length, .inl (atL L1)))), (ea, .inl (cAA, (2, .inr (.inr (.inr (.inr (w2f e0 e1))))))), (e0, .inl (cA, (rn, .inl g0))), (e1, .inl (cA, (rn, .inl g1))), (ca, .inl (cAAA, (2, .inr (.inr (.inr (.inr (w2f c0 c1))))))), (c0, .inl (cAA, (rn, .inr (.inr (.inr (.inr (crF Rr))))))), (c1, .inl (cAA, (rn, .inr (.inr (.inr (.inr (crG Rr rn))))))), (sg, .inl (cA, (2, .inl (upd (upd (fun _ => 0) 0 (paI (plain K0) 2)) 1 (paI (plain K1) 2)))))] ++ plR cA rn (2 * rn) Rr F)) (hS : va_S A s.heap H locs) {ls : Array Slot} (hl : lv_has ls 17 [(10, .ref sg), (9, .int (paI (plain (turnL K0 ++ K1)) 2)), (8, .int (saI (plain (turnL K0 ++ K1)))), (7, .ref ca), (6, .ref ea), (5, .int x5), (4, .int (nI t9)), (3, .int (nI rn)), (2, .ref y0), (1, .ref x0), (0, .ref b9)])
    (K : ∀ (m2 : Int32) (k2 : Nat → Int32) (m3 : Int32) (k3 : Nat → Int32) (H1 : Heap) (locs1 : List Loc) (ls1 : Array Slot), va_P (dC, dI) vwCl ([(x0, .inr (1, [.ref r0, .ref r1, .ref r2, .ref r3, .int (nI rn)])), (r0, .inr (0, [.ref a0, .int (nI L0.length)])), (a0, .inl (cA, (100, .inl f0))), (r1, .inr (0, [.ref a1, .int (nI L1.length)])), (a1, .inl (cA, (100, .inl f1))), (r2, .inr (0, [.ref a2, .int m2])), (a2, .inl (cA, (100, .inl k2))), (r3, .inr (0, [.ref a3, .int m3])), (a3, .inl (cA, (100, .inl k3))), (y0, .inr (2, [.int (nI rn), .ref q0])), (q0, .inl (cAA, (2, .inr (.inr (.inr (.inr (w2f p0 p1))))))), (p0, .inl (cA, (L0.length, .inl (atL L0)))), (p1, .inl (cA, (L1.length, .inl (atL L1)))), (ea, .inl (cAA, (2, .inr (.inr (.inr (.inr (w2f e0 e1))))))), (e0, .inl (cA, (rn, .inl g0))), (e1, .inl (cA, (rn, .inl g1))), (ca, .inl (cAAA, (2, .inr (.inr (.inr (.inr (w2f c0 c1))))))), (c0, .inl (cAA, (rn, .inr (.inr (.inr (.inr (crF Rr))))))), (c1, .inl (cAA, (rn, .inr (.inr (.inr (.inr (crG Rr rn))))))), (sg, .inl (cA, (2, .inl (upd (upd (fun _ => 0) 0 (paI (plain K0) 2)) 1 (paI (plain K1) 2)))))] ++ plR cA rn (2 * rn) Rr F) H1 → va_D A ([(x0, .inr (1, [.ref r0, .ref r1, .ref r2, .ref r3, .int (nI rn)])), (r0, .inr (0, [.ref a0, .int (nI L0.length)])), (a0, .inl (cA, (100, .inl f0))), (r1, .inr (0, [.ref a1, .int (nI L1.length)])), (a1, .inl (cA, (100, .inl f1))), (r2, .inr (0, [.ref a2, .int m2])), (a2, .inl (cA, (100, .inl k2))), (r3, .inr (0, [.ref a3, .int m3])), (a3, .inl (cA, (100, .inl k3))), (y0, .inr (2, [.int (nI rn), .ref q0])), (q0, .inl (cAA, (2, .inr (.inr (.inr (.inr (w2f p0 p1))))))), (p0, .inl (cA, (L0.length, .inl (atL L0)))), (p1, .inl (cA, (L1.length, .inl (atL L1)))), (ea, .inl (cAA, (2, .inr (.inr (.inr (.inr (w2f e0 e1))))))), (e0, .inl (cA, (rn, .inl g0))), (e1, .inl (cA, (rn, .inl g1))), (ca, .inl (cAAA, (2, .inr (.inr (.inr (.inr (w2f c0 c1))))))), (c0, .inl (cAA, (rn, .inr (.inr (.inr (.inr (crF Rr))))))), (c1, .inl (cAA, (rn, .inr (.inr (.inr (.inr (crG Rr rn))))))), (sg, .inl (cA, (2, .inl (upd (upd (fun _ => 0) 0 (paI (plain K0) 2)) 1 (paI (plain K1) 2)))))] ++ plR cA rn (2 * rn) Rr F) → va_S A s.heap H1 locs1 → lv_has ls1 17 [(12, .int 1), (10, .ref sg), (9, .int (paI (plain (turnL K0 ++ K1)) 2)), (8, .int (saI (plain (turnL K0 ++ K1)))), (7, .ref ca), (6, .ref ea), (5, .int x5), (4, .int (nI t9)), (3, .int (nI rn)), (2, .ref y0), (1, .ref x0), (0, .ref b9)] → W p l e room_1 s m ([.ref b9] : List Value).toArray below meth c H1 locs1 cells slots Q (F0 m 971 ls1 [])) : W p l e room_1 s m ([.ref b9] : List Value).toArray below meth c H locs cells slots Q (F0 m 968 ls []) := by
  obtain ⟨hx, hb, hml, hown, hts, htr, hK, hA, hXX, hL2, hm3, ho2, ho3⟩ := id E
  have hK1 : va_K (dC, dI) vwCl [(cA, .int)] s := hK.sub [0] rfl
  have hK2 : va_K (dC, dI) vwCl [(cA, .int), (cAA, .array .int)] s := hK.sub [0, 1] rfl
  have hW0 := okW_of hk0
  have hW1 := okW_of hk1
  refine lv_iconst (v := 0) hx hb dL_law_968 (by decide) ?_
  refine lv_istore (lv' := [(12, .int 0), (10, .ref sg), (9, .int (paI (plain (turnL K0 ++ K1)) 2)), (8, .int (saI (plain (turnL K0 ++ K1)))), (7, .ref ca), (6, .ref ea), (5, .int x5), (4, .int (nI t9)), (3, .int (nI rn)), (2, .ref y0), (1, .ref x0), (0, .ref b9)]) hx hb dL_law_969 hl (by decide) rfl (fun ls hl => ?_)
  refine lv_iload hx hb dL_law_971 (lv_at hl 0 rfl) ?_
  refine lv_iconst (v := 2) hx hb dL_law_973 (by decide) ?_
  refine lv_icmp_ge (tgt := 1106) hx hb dL_law_974 (by decide) (fun c974 => ?_) (fun c974 => ?_)
  · exact absurd c974 (by decide)
  · have c974 : 0 < 2 := g_geF 0 2 (by omega) (by omega) c974
    refine lv_aload hx hb dL_law_977 (lv_at hl 1 rfl) ?_
    refine lv_iload hx hb dL_law_979 (lv_at hl 0 rfl) ?_
    refine va_iald hx hb hK hP 19 0 rfl rfl (vp_in_nI (n := 0) (by omega) (by decide)) dL_law_981 ?_
    rw [show (0 : Int32).toNatClampNeg = 0 from by decide]
    rw [show (upd (upd (fun _ => 0) 0 (paI (plain K0) 2)) 1 (paI (plain K1) 2)) 0 = paI (plain K0) 2 from (pk_un (by decide)).trans pk_us]
    refine lv_bipush (v := (-9)) hx hb dL_law_982 (by decide) ?_
    refine lv_icmp_eq (tgt := 1016) hx hb dL_law_984 (by decide) (fun c984 => ?_) (fun c984 => ?_)
    · refine lv_iconst (v := 0) hx hb dL_law_1016 (by decide) ?_
      refine lv_istore (lv' := [(13, .int 0), (12, .int 0), (10, .ref sg), (9, .int (paI (plain (turnL K0 ++ K1)) 2)), (8, .int (saI (plain (turnL K0 ++ K1)))), (7, .ref ca), (6, .ref ea), (5, .int x5), (4, .int (nI t9)), (3, .int (nI rn)), (2, .ref y0), (1, .ref x0), (0, .ref b9)]) hx hb dL_law_1017 hl (by decide) rfl (fun ls hl => ?_)
      have lpr1019 : ∀ (d : Nat) (r : Nat) (hr9 : r ≤ rn), rn - r < d → ∀ ls : Array Slot, lv_has ls 17 [(13, .int (nI r)), (12, .int 0), (10, .ref sg), (9, .int (paI (plain (turnL K0 ++ K1)) 2)), (8, .int (saI (plain (turnL K0 ++ K1)))), (7, .ref ca), (6, .ref ea), (5, .int x5), (4, .int (nI t9)), (3, .int (nI rn)), (2, .ref y0), (1, .ref x0), (0, .ref b9)] → W p l e room_1 s m ([.ref b9] : List Value).toArray below meth c H locs cells slots Q (F0 m 1019 ls []) := by
        intro d
        induction d with
        | zero => intro r hr9 hd; exact absurd hd (Nat.not_lt_zero _)
        | succ d ih1019 =>
          intro r hr9 hd ls hl
          refine lv_iload hx hb dL_law_1019 (lv_at hl 0 rfl) ?_
          refine lv_iload_n hx hb dL_law_1021 rfl (lv_at hl 9 rfl) ?_
          refine lv_icmp_ge (tgt := 1100) hx hb dL_law_1022 (by decide) (fun c1022 => ?_) (fun c1022 => ?_)
          · have c1022 : rn ≤ r := g_geT r rn (by omega) (by omega) c1022
            refine lv_iinc (v := 1) (lv' := [(12, .int 1), (13, .int (nI r)), (10, .ref sg), (9, .int (paI (plain (turnL K0 ++ K1)) 2)), (8, .int (saI (plain (turnL K0 ++ K1)))), (7, .ref ca), (6, .ref ea), (5, .int x5), (4, .int (nI t9)), (3, .int (nI rn)), (2, .ref y0), (1, .ref x0), (0, .ref b9)]) hx hb dL_law_1100 hl (k := 1) rfl (by decide) (by decide) rfl (fun ls hl => ?_)
            refine lv_goto (tgt := 971) hx hb dL_law_1103 (by decide) ?_
            exact K n2 f2 n3 f3 _ _ _ hP hD hS (lv_sub hl [0, 2, 3, 4, 5, 6, 7, 8, 9, 10, 11, 12] rfl)
          · have c1022 : r < rn := g_geF r rn (by omega) (by omega) c1022
            refine lv_aload_n hx hb dL_law_1025 rfl (lv_at hl 11 rfl) ?_
            refine lv_iload hx hb dL_law_1026 (lv_at hl 1 rfl) ?_
            refine lv_iload hx hb dL_law_1028 (lv_at hl 0 rfl) ?_
            refine g_RVi (As := [.int 0, .int (nI r)]) (rest := []) ⟨hx, hb, hml, hown, hts⟩ (mt_X1_end0 l dC dI cA H.size x0 r0 r1 r2 r3 rn a0 L0 f0 (nI r) hR0 (nI_pos (by omega)) (nI_lt (by omega) (by omega))) (cwV 2 hts gL_law_X1_end rfl rfl rfl hdX1_end ⟨Nat.le_of_ble_eq_true rfl, Nat.le_of_ble_eq_true rfl⟩) hP hK1 hD [0, 1, 2] (by decide) rfl (va_recv hK hP (ci := 1) (q0 := 0) rfl rfl) rfl hl.1 rfl (Nat.le_of_ble_eq_true rfl) dL_law_1030 (by show _ ≤ 600130; omega) (by show _ ≤ 7301080; omega) ?_
            refine lv_aload hx hb dL_law_1033 (lv_at hl 6 rfl) ?_
            refine lv_iload hx hb dL_law_1035 (lv_at hl 1 rfl) ?_
            refine va_ald2 hx hb hK hP 13 1 rfl rfl (vp_in_nI (n := 0) (by omega) (by decide)) dL_law_1037 ?_
            rw [show va_rf ((w2f e0 e1) (0 : Int32).toNatClampNeg) = .ref e0 from (by rw [show (0 : Int32).toNatClampNeg = 0 from by decide]; rfl)]
            refine lv_iload hx hb dL_law_1038 (lv_at hl 0 rfl) ?_
            refine va_iald hx hb hK hP 14 0 rfl rfl (vp_in_nI (by omega) (by omega)) dL_law_1040 ?_
            rw [show (nI r).toNatClampNeg = r from nI_clamp (by omega)]
            rw [show g0 r = plE K0 (nI r) K0.length from hg0 r (by omega)]
            refine lv_icmp_eq (tgt := 1046) hx hb dL_law_1041 (by decide) (fun c1041 => ?_) (fun c1041 => ?_)
            · refine lv_iconst (v := 0) hx hb dL_law_1046 (by decide) ?_
              refine lv_istore (lv' := [(14, .int 0), (13, .int (nI r)), (12, .int 0), (10, .ref sg), (9, .int (paI (plain (turnL K0 ++ K1)) 2)), (8, .int (saI (plain (turnL K0 ++ K1)))), (7, .ref ca), (6, .ref ea), (5, .int x5), (4, .int (nI t9)), (3, .int (nI rn)), (2, .ref y0), (1, .ref x0), (0, .ref b9)]) hx hb dL_law_1047 hl (by decide) rfl (fun ls hl => ?_)
              have lpo1049 : ∀ (d : Nat) (o : Nat) (ho9 : o ≤ rn), rn - o < d → ∀ ls : Array Slot, lv_has ls 17 [(14, .int (nI o)), (13, .int (nI r)), (12, .int 0), (10, .ref sg), (9, .int (paI (plain (turnL K0 ++ K1)) 2)), (8, .int (saI (plain (turnL K0 ++ K1)))), (7, .ref ca), (6, .ref ea), (5, .int x5), (4, .int (nI t9)), (3, .int (nI rn)), (2, .ref y0), (1, .ref x0), (0, .ref b9)] → W p l e room_1 s m ([.ref b9] : List Value).toArray below meth c H locs cells slots Q (F0 m 1049 ls []) := by
                intro d
                induction d with
                | zero => intro o ho9 hd; exact absurd hd (Nat.not_lt_zero _)
                | succ d ih1049 =>
                  intro o ho9 hd ls hl
                  refine lv_iload hx hb dL_law_1049 (lv_at hl 0 rfl) ?_
                  refine lv_iload_n hx hb dL_law_1051 rfl (lv_at hl 10 rfl) ?_
                  refine lv_icmp_ge (tgt := 1094) hx hb dL_law_1052 (by decide) (fun c1052 => ?_) (fun c1052 => ?_)
                  · have c1052 : rn ≤ o := g_geT o rn (by omega) (by omega) c1052
                    refine lv_iinc (v := nI (r + 1)) (lv' := [(13, .int (nI (r + 1))), (14, .int (nI o)), (12, .int 0), (10, .ref sg), (9, .int (paI (plain (turnL K0 ++ K1)) 2)), (8, .int (saI (plain (turnL K0 ++ K1)))), (7, .ref ca), (6, .ref ea), (5, .int x5), (4, .int (nI t9)), (3, .int (nI rn)), (2, .ref y0), (1, .ref x0), (0, .ref b9)]) hx hb dL_law_1094 hl (k := 1) rfl (g_inc _) (by decide) rfl (fun ls hl => ?_)
                    refine lv_goto (tgt := 1019) hx hb dL_law_1097 (by decide) ?_
                    exact ih1019 (r + 1) (by omega) (by omega) _ (lv_sub hl [0, 2, 3, 4, 5, 6, 7, 8, 9, 10, 11, 12, 13] rfl)
                  · have c1052 : o < rn := g_geF o rn (by omega) (by omega) c1052
                    refine lv_iload hx hb dL_law_1055 (lv_at hl 0 rfl) ?_
                    refine lv_iload hx hb dL_law_1057 (lv_at hl 1 rfl) ?_
                    refine lv_icmp_eq (tgt := 1088) hx hb dL_law_1059 (by decide) (fun c1059 => ?_) (fun c1059 => ?_)
                    · have c1059 : o = r := g_eqT o r (by omega) (by omega) c1059
                      refine lv_iinc (v := nI (o + 1)) (lv' := [(14, .int (nI (o + 1))), (13, .int (nI r)), (12, .int 0), (10, .ref sg), (9, .int (paI (plain (turnL K0 ++ K1)) 2)), (8, .int (saI (plain (turnL K0 ++ K1)))), (7, .ref ca), (6, .ref ea), (5, .int x5), (4, .int (nI t9)), (3, .int (nI rn)), (2, .ref y0), (1, .ref x0), (0, .ref b9)]) hx hb dL_law_1088 hl (k := 0) rfl (g_inc _) (by decide) rfl (fun ls hl => ?_)
                      refine lv_goto (tgt := 1049) hx hb dL_law_1091 (by decide) ?_
                      exact ih1049 (o + 1) (by omega) (by omega) _ (lv_sub hl [0, 1, 2, 3, 4, 5, 6, 7, 8, 9, 10, 11, 12, 13] rfl)
                    · have c1059 : ¬ o = r := g_eqF o r (by omega) (by omega) c1059
                      refine lv_aload_n hx hb dL_law_1062 rfl (lv_at hl 12 rfl) ?_
                      refine lv_iload hx hb dL_law_1063 (lv_at hl 2 rfl) ?_
                      refine lv_iload hx hb dL_law_1065 (lv_at hl 1 rfl) ?_
                      refine lv_iload hx hb dL_law_1067 (lv_at hl 0 rfl) ?_
                      refine g_RVi (As := [.int 0, .int (nI r), .int (nI o)]) (rest := []) ⟨hx, hb, hml, hown, hts⟩ (mt_X1_crosses0 l dC dI cA H.size x0 r0 r1 r2 r3 rn a0 L0 f0 (nI r) (nI o) hR0 (nI_pos (by omega)) (nI_lt (by omega) (by omega)) (nI_pos (by omega)) (nI_lt (by omega) (by omega)) (nI_ne (by omega) (by omega) (fun q9 => c1059 q9.symm))) (cwV 3 hts gL_law_X1_crosses rfl rfl rfl hdX1_crosses ⟨Nat.le_of_ble_eq_true rfl, Nat.le_of_ble_eq_true rfl⟩) hP hK1 hD [0, 1, 2] (by decide) rfl (va_recv hK hP (ci := 1) (q0 := 0) rfl rfl) rfl hl.1 rfl (Nat.le_of_ble_eq_true rfl) dL_law_1069 (by show _ ≤ 600130; omega) (by show _ ≤ 7301080; omega) ?_
                      refine lv_aload hx hb dL_law_1072 (lv_at hl 6 rfl) ?_
                      refine lv_iload hx hb dL_law_1074 (lv_at hl 2 rfl) ?_
                      refine va_ald2 hx hb hK hP 16 2 rfl rfl (vp_in_nI (n := 0) (by omega) (by decide)) dL_law_1076 ?_
                      rw [show va_rf ((w2f c0 c1) (0 : Int32).toNatClampNeg) = .ref c0 from (by rw [show (0 : Int32).toNatClampNeg = 0 from by decide]; rfl)]
                      refine lv_iload hx hb dL_law_1077 (lv_at hl 1 rfl) ?_
                      refine va_ald2 hx hb hK hP 17 1 rfl rfl (vp_in_nI (by omega) (by omega)) dL_law_1079 ?_
                      rw [show va_rf ((crF Rr) (nI r).toNatClampNeg) = .ref (Rr r) from (by rw [nI_clamp (by omega)]; rfl)]
                      refine lv_iload hx hb dL_law_1080 (lv_at hl 0 rfl) ?_
                      refine va_pld hx hb hK hP 0 rfl (i := r) (k := o) (by omega) (by omega) (by omega) dL_law_1082 ?_
                      rw [show F r o = crS K0 (nI r) (nI o) K0.length from (cvF_at hF (Or.inl (by omega))).trans (cvG_0 (by omega) (by omega) c1059)]
                      refine lv_icmp_eq (tgt := 1088) hx hb dL_law_1083 (by decide) (fun c1083 => ?_) (fun c1083 => ?_)
                      · refine lv_iinc (v := nI (o + 1)) (lv' := [(14, .int (nI (o + 1))), (13, .int (nI r)), (12, .int 0), (10, .ref sg), (9, .int (paI (plain (turnL K0 ++ K1)) 2)), (8, .int (saI (plain (turnL K0 ++ K1)))), (7, .ref ca), (6, .ref ea), (5, .int x5), (4, .int (nI t9)), (3, .int (nI rn)), (2, .ref y0), (1, .ref x0), (0, .ref b9)]) hx hb dL_law_1088 hl (k := 0) rfl (g_inc _) (by decide) rfl (fun ls hl => ?_)
                        refine lv_goto (tgt := 1049) hx hb dL_law_1091 (by decide) ?_
                        exact ih1049 (o + 1) (by omega) (by omega) _ (lv_sub hl [0, 1, 2, 3, 4, 5, 6, 7, 8, 9, 10, 11, 12, 13] rfl)
                      · exact absurd (fMe hm0 (show r < 6 by omega) (show o < 6 by omega)).2 c1083
              exact lpo1049 ((rn - 0) + 1) 0 (Nat.zero_le _) (Nat.lt_succ_self _) _ (lv_sub hl [0, 1, 2, 3, 4, 5, 6, 7, 8, 9, 10, 11, 12, 13] rfl)
            · exact absurd (fMe hm0 (show r < 6 by omega) (show r < 6 by omega)).1 c1041
      exact lpr1019 ((rn - 0) + 1) 0 (Nat.zero_le _) (Nat.lt_succ_self _) _ (lv_sub hl [0, 1, 2, 3, 4, 5, 6, 7, 8, 9, 10, 11, 12] rfl)
    · refine lv_aload_n hx hb dL_law_987 rfl (lv_at hl 10 rfl) ?_
      refine lv_iload hx hb dL_law_988 (lv_at hl 0 rfl) ?_
      refine lv_iconst (v := 2) hx hb dL_law_990 (by decide) ?_
      refine g_MVPi (As := [.int 0, .int 2]) (rest := []) ⟨hx, hb, hml, hown, hts⟩ (mt_X1_plain0 l dC dI cA H.size x0 r0 r1 r2 r3 rn a0 L0 f0 a2 n2 f2 a3 n3 f3 2 hR0 (by first | omega | (simp only [List.length_append, List.length_cons, List.length_nil, List.length_set, turnL_len]; omega))) (cwV 2 hts gL_law_X1_plain rfl rfl rfl hdX1_plain ⟨Nat.le_of_ble_eq_true rfl, Nat.le_of_ble_eq_true rfl⟩) hP hK1 hD hS hA [0, 1, 2, 5, 6, 7, 8] (by decide) rfl rfl (va_recv hK hP (ci := 1) (q0 := 0) rfl rfl) rfl hl.1 rfl (Nat.le_of_ble_eq_true rfl) dL_law_991 (by show _ ≤ 600130; omega) (by show _ ≤ 7301080; omega) (fun u9 => [(x0, .inr (1, [.ref r0, .ref r1, .ref r2, .ref r3, .int (nI rn)])), (r0, .inr (0, [.ref a0, .int (nI L0.length)])), (a0, .inl (cA, (100, .inl f0))), (r1, .inr (0, [.ref a1, .int (nI L1.length)])), (a1, .inl (cA, (100, .inl f1))), (r2, .inr (0, [.ref a2, .int u9.1])), (a2, .inl (cA, (100, .inl u9.2.1))), (r3, .inr (0, [.ref a3, .int u9.2.2.1])), (a3, .inl (cA, (100, .inl u9.2.2.2))), (y0, .inr (2, [.int (nI rn), .ref q0])), (q0, .inl (cAA, (2, .inr (.inr (.inr (.inr (w2f p0 p1))))))), (p0, .inl (cA, (L0.length, .inl (atL L0)))), (p1, .inl (cA, (L1.length, .inl (atL L1)))), (ea, .inl (cAA, (2, .inr (.inr (.inr (.inr (w2f e0 e1))))))), (e0, .inl (cA, (rn, .inl g0))), (e1, .inl (cA, (rn, .inl g1))), (ca, .inl (cAAA, (2, .inr (.inr (.inr (.inr (w2f c0 c1))))))), (c0, .inl (cAA, (rn, .inr (.inr (.inr (.inr (crF Rr))))))), (c1, .inl (cAA, (rn, .inr (.inr (.inr (.inr (crG Rr rn))))))), (sg, .inl (cA, (2, .inl (upd (upd (fun _ => 0) 0 (paI (plain K0) 2)) 1 (paI (plain K1) 2)))))]) (fun _ => rfl) (fun _ => rfl) (fun u H locs hw_5 hP hD hS => ?_)
      obtain ⟨m2_1, g2_2, m3_3, g3_4⟩ := u
      have hw_5 : True := hw_5
      have hP : va_P (dC, dI) vwCl ([(x0, .inr (1, [.ref r0, .ref r1, .ref r2, .ref r3, .int (nI rn)])), (r0, .inr (0, [.ref a0, .int (nI L0.length)])), (a0, .inl (cA, (100, .inl f0))), (r1, .inr (0, [.ref a1, .int (nI L1.length)])), (a1, .inl (cA, (100, .inl f1))), (r2, .inr (0, [.ref a2, .int m2_1])), (a2, .inl (cA, (100, .inl g2_2))), (r3, .inr (0, [.ref a3, .int m3_3])), (a3, .inl (cA, (100, .inl g3_4))), (y0, .inr (2, [.int (nI rn), .ref q0])), (q0, .inl (cAA, (2, .inr (.inr (.inr (.inr (w2f p0 p1))))))), (p0, .inl (cA, (L0.length, .inl (atL L0)))), (p1, .inl (cA, (L1.length, .inl (atL L1)))), (ea, .inl (cAA, (2, .inr (.inr (.inr (.inr (w2f e0 e1))))))), (e0, .inl (cA, (rn, .inl g0))), (e1, .inl (cA, (rn, .inl g1))), (ca, .inl (cAAA, (2, .inr (.inr (.inr (.inr (w2f c0 c1))))))), (c0, .inl (cAA, (rn, .inr (.inr (.inr (.inr (crF Rr))))))), (c1, .inl (cAA, (rn, .inr (.inr (.inr (.inr (crG Rr rn))))))), (sg, .inl (cA, (2, .inl (upd (upd (fun _ => 0) 0 (paI (plain K0) 2)) 1 (paI (plain K1) 2)))))] ++ plR cA rn (2 * rn) Rr F) H := hP
      have hD : va_D A ([(x0, .inr (1, [.ref r0, .ref r1, .ref r2, .ref r3, .int (nI rn)])), (r0, .inr (0, [.ref a0, .int (nI L0.length)])), (a0, .inl (cA, (100, .inl f0))), (r1, .inr (0, [.ref a1, .int (nI L1.length)])), (a1, .inl (cA, (100, .inl f1))), (r2, .inr (0, [.ref a2, .int m2_1])), (a2, .inl (cA, (100, .inl g2_2))), (r3, .inr (0, [.ref a3, .int m3_3])), (a3, .inl (cA, (100, .inl g3_4))), (y0, .inr (2, [.int (nI rn), .ref q0])), (q0, .inl (cAA, (2, .inr (.inr (.inr (.inr (w2f p0 p1))))))), (p0, .inl (cA, (L0.length, .inl (atL L0)))), (p1, .inl (cA, (L1.length, .inl (atL L1)))), (ea, .inl (cAA, (2, .inr (.inr (.inr (.inr (w2f e0 e1))))))), (e0, .inl (cA, (rn, .inl g0))), (e1, .inl (cA, (rn, .inl g1))), (ca, .inl (cAAA, (2, .inr (.inr (.inr (.inr (w2f c0 c1))))))), (c0, .inl (cAA, (rn, .inr (.inr (.inr (.inr (crF Rr))))))), (c1, .inl (cAA, (rn, .inr (.inr (.inr (.inr (crG Rr rn))))))), (sg, .inl (cA, (2, .inl (upd (upd (fun _ => 0) 0 (paI (plain K0) 2)) 1 (paI (plain K1) 2)))))] ++ plR cA rn (2 * rn) Rr F) := hD
      refine lv_bipush (v := (-9)) hx hb dL_law_994 (by decide) ?_
      refine lv_icmp_eq (tgt := 1016) hx hb dL_law_996 (by decide) (fun c996 => ?_) (fun c996 => ?_)
      · refine lv_iconst (v := 0) hx hb dL_law_1016 (by decide) ?_
        refine lv_istore (lv' := [(13, .int 0), (12, .int 0), (10, .ref sg), (9, .int (paI (plain (turnL K0 ++ K1)) 2)), (8, .int (saI (plain (turnL K0 ++ K1)))), (7, .ref ca), (6, .ref ea), (5, .int x5), (4, .int (nI t9)), (3, .int (nI rn)), (2, .ref y0), (1, .ref x0), (0, .ref b9)]) hx hb dL_law_1017 hl (by decide) rfl (fun ls hl => ?_)
        have lpr1019 : ∀ (d : Nat) (r : Nat) (hr9 : r ≤ rn), rn - r < d → ∀ ls : Array Slot, lv_has ls 17 [(13, .int (nI r)), (12, .int 0), (10, .ref sg), (9, .int (paI (plain (turnL K0 ++ K1)) 2)), (8, .int (saI (plain (turnL K0 ++ K1)))), (7, .ref ca), (6, .ref ea), (5, .int x5), (4, .int (nI t9)), (3, .int (nI rn)), (2, .ref y0), (1, .ref x0), (0, .ref b9)] → W p l e room_1 s m ([.ref b9] : List Value).toArray below meth c H locs cells slots Q (F0 m 1019 ls []) := by
          intro d
          induction d with
          | zero => intro r hr9 hd; exact absurd hd (Nat.not_lt_zero _)
          | succ d ih1019 =>
            intro r hr9 hd ls hl
            refine lv_iload hx hb dL_law_1019 (lv_at hl 0 rfl) ?_
            refine lv_iload_n hx hb dL_law_1021 rfl (lv_at hl 9 rfl) ?_
            refine lv_icmp_ge (tgt := 1100) hx hb dL_law_1022 (by decide) (fun c1022 => ?_) (fun c1022 => ?_)
            · have c1022 : rn ≤ r := g_geT r rn (by omega) (by omega) c1022
              refine lv_iinc (v := 1) (lv' := [(12, .int 1), (13, .int (nI r)), (10, .ref sg), (9, .int (paI (plain (turnL K0 ++ K1)) 2)), (8, .int (saI (plain (turnL K0 ++ K1)))), (7, .ref ca), (6, .ref ea), (5, .int x5), (4, .int (nI t9)), (3, .int (nI rn)), (2, .ref y0), (1, .ref x0), (0, .ref b9)]) hx hb dL_law_1100 hl (k := 1) rfl (by decide) (by decide) rfl (fun ls hl => ?_)
              refine lv_goto (tgt := 971) hx hb dL_law_1103 (by decide) ?_
              exact K m2_1 g2_2 m3_3 g3_4 _ _ _ hP hD hS (lv_sub hl [0, 2, 3, 4, 5, 6, 7, 8, 9, 10, 11, 12] rfl)
            · have c1022 : r < rn := g_geF r rn (by omega) (by omega) c1022
              refine lv_aload_n hx hb dL_law_1025 rfl (lv_at hl 11 rfl) ?_
              refine lv_iload hx hb dL_law_1026 (lv_at hl 1 rfl) ?_
              refine lv_iload hx hb dL_law_1028 (lv_at hl 0 rfl) ?_
              refine g_RVi (As := [.int 0, .int (nI r)]) (rest := []) ⟨hx, hb, hml, hown, hts⟩ (mt_X1_end0 l dC dI cA H.size x0 r0 r1 r2 r3 rn a0 L0 f0 (nI r) hR0 (nI_pos (by omega)) (nI_lt (by omega) (by omega))) (cwV 2 hts gL_law_X1_end rfl rfl rfl hdX1_end ⟨Nat.le_of_ble_eq_true rfl, Nat.le_of_ble_eq_true rfl⟩) hP hK1 hD [0, 1, 2] (by decide) rfl (va_recv hK hP (ci := 1) (q0 := 0) rfl rfl) rfl hl.1 rfl (Nat.le_of_ble_eq_true rfl) dL_law_1030 (by show _ ≤ 600130; omega) (by show _ ≤ 7301080; omega) ?_
              refine lv_aload hx hb dL_law_1033 (lv_at hl 6 rfl) ?_
              refine lv_iload hx hb dL_law_1035 (lv_at hl 1 rfl) ?_
              refine va_ald2 hx hb hK hP 13 1 rfl rfl (vp_in_nI (n := 0) (by omega) (by decide)) dL_law_1037 ?_
              rw [show va_rf ((w2f e0 e1) (0 : Int32).toNatClampNeg) = .ref e0 from (by rw [show (0 : Int32).toNatClampNeg = 0 from by decide]; rfl)]
              refine lv_iload hx hb dL_law_1038 (lv_at hl 0 rfl) ?_
              refine va_iald hx hb hK hP 14 0 rfl rfl (vp_in_nI (by omega) (by omega)) dL_law_1040 ?_
              rw [show (nI r).toNatClampNeg = r from nI_clamp (by omega)]
              rw [show g0 r = plE K0 (nI r) K0.length from hg0 r (by omega)]
              refine lv_icmp_eq (tgt := 1046) hx hb dL_law_1041 (by decide) (fun c1041 => ?_) (fun c1041 => ?_)
              · refine lv_iconst (v := 0) hx hb dL_law_1046 (by decide) ?_
                refine lv_istore (lv' := [(14, .int 0), (13, .int (nI r)), (12, .int 0), (10, .ref sg), (9, .int (paI (plain (turnL K0 ++ K1)) 2)), (8, .int (saI (plain (turnL K0 ++ K1)))), (7, .ref ca), (6, .ref ea), (5, .int x5), (4, .int (nI t9)), (3, .int (nI rn)), (2, .ref y0), (1, .ref x0), (0, .ref b9)]) hx hb dL_law_1047 hl (by decide) rfl (fun ls hl => ?_)
                have lpo1049 : ∀ (d : Nat) (o : Nat) (ho9 : o ≤ rn), rn - o < d → ∀ ls : Array Slot, lv_has ls 17 [(14, .int (nI o)), (13, .int (nI r)), (12, .int 0), (10, .ref sg), (9, .int (paI (plain (turnL K0 ++ K1)) 2)), (8, .int (saI (plain (turnL K0 ++ K1)))), (7, .ref ca), (6, .ref ea), (5, .int x5), (4, .int (nI t9)), (3, .int (nI rn)), (2, .ref y0), (1, .ref x0), (0, .ref b9)] → W p l e room_1 s m ([.ref b9] : List Value).toArray below meth c H locs cells slots Q (F0 m 1049 ls []) := by
                  intro d
                  induction d with
                  | zero => intro o ho9 hd; exact absurd hd (Nat.not_lt_zero _)
                  | succ d ih1049 =>
                    intro o ho9 hd ls hl
                    refine lv_iload hx hb dL_law_1049 (lv_at hl 0 rfl) ?_
                    refine lv_iload_n hx hb dL_law_1051 rfl (lv_at hl 10 rfl) ?_
                    refine lv_icmp_ge (tgt := 1094) hx hb dL_law_1052 (by decide) (fun c1052 => ?_) (fun c1052 => ?_)
                    · have c1052 : rn ≤ o := g_geT o rn (by omega) (by omega) c1052
                      refine lv_iinc (v := nI (r + 1)) (lv' := [(13, .int (nI (r + 1))), (14, .int (nI o)), (12, .int 0), (10, .ref sg), (9, .int (paI (plain (turnL K0 ++ K1)) 2)), (8, .int (saI (plain (turnL K0 ++ K1)))), (7, .ref ca), (6, .ref ea), (5, .int x5), (4, .int (nI t9)), (3, .int (nI rn)), (2, .ref y0), (1, .ref x0), (0, .ref b9)]) hx hb dL_law_1094 hl (k := 1) rfl (g_inc _) (by decide) rfl (fun ls hl => ?_)
                      refine lv_goto (tgt := 1019) hx hb dL_law_1097 (by decide) ?_
                      exact ih1019 (r + 1) (by omega) (by omega) _ (lv_sub hl [0, 2, 3, 4, 5, 6, 7, 8, 9, 10, 11, 12, 13] rfl)
                    · have c1052 : o < rn := g_geF o rn (by omega) (by omega) c1052
                      refine lv_iload hx hb dL_law_1055 (lv_at hl 0 rfl) ?_
                      refine lv_iload hx hb dL_law_1057 (lv_at hl 1 rfl) ?_
                      refine lv_icmp_eq (tgt := 1088) hx hb dL_law_1059 (by decide) (fun c1059 => ?_) (fun c1059 => ?_)
                      · have c1059 : o = r := g_eqT o r (by omega) (by omega) c1059
                        refine lv_iinc (v := nI (o + 1)) (lv' := [(14, .int (nI (o + 1))), (13, .int (nI r)), (12, .int 0), (10, .ref sg), (9, .int (paI (plain (turnL K0 ++ K1)) 2)), (8, .int (saI (plain (turnL K0 ++ K1)))), (7, .ref ca), (6, .ref ea), (5, .int x5), (4, .int (nI t9)), (3, .int (nI rn)), (2, .ref y0), (1, .ref x0), (0, .ref b9)]) hx hb dL_law_1088 hl (k := 0) rfl (g_inc _) (by decide) rfl (fun ls hl => ?_)
                        refine lv_goto (tgt := 1049) hx hb dL_law_1091 (by decide) ?_
                        exact ih1049 (o + 1) (by omega) (by omega) _ (lv_sub hl [0, 1, 2, 3, 4, 5, 6, 7, 8, 9, 10, 11, 12, 13] rfl)
                      · have c1059 : ¬ o = r := g_eqF o r (by omega) (by omega) c1059
                        refine lv_aload_n hx hb dL_law_1062 rfl (lv_at hl 12 rfl) ?_
                        refine lv_iload hx hb dL_law_1063 (lv_at hl 2 rfl) ?_
                        refine lv_iload hx hb dL_law_1065 (lv_at hl 1 rfl) ?_
                        refine lv_iload hx hb dL_law_1067 (lv_at hl 0 rfl) ?_
                        refine g_RVi (As := [.int 0, .int (nI r), .int (nI o)]) (rest := []) ⟨hx, hb, hml, hown, hts⟩ (mt_X1_crosses0 l dC dI cA H.size x0 r0 r1 r2 r3 rn a0 L0 f0 (nI r) (nI o) hR0 (nI_pos (by omega)) (nI_lt (by omega) (by omega)) (nI_pos (by omega)) (nI_lt (by omega) (by omega)) (nI_ne (by omega) (by omega) (fun q9 => c1059 q9.symm))) (cwV 3 hts gL_law_X1_crosses rfl rfl rfl hdX1_crosses ⟨Nat.le_of_ble_eq_true rfl, Nat.le_of_ble_eq_true rfl⟩) hP hK1 hD [0, 1, 2] (by decide) rfl (va_recv hK hP (ci := 1) (q0 := 0) rfl rfl) rfl hl.1 rfl (Nat.le_of_ble_eq_true rfl) dL_law_1069 (by show _ ≤ 600130; omega) (by show _ ≤ 7301080; omega) ?_
                        refine lv_aload hx hb dL_law_1072 (lv_at hl 6 rfl) ?_
                        refine lv_iload hx hb dL_law_1074 (lv_at hl 2 rfl) ?_
                        refine va_ald2 hx hb hK hP 16 2 rfl rfl (vp_in_nI (n := 0) (by omega) (by decide)) dL_law_1076 ?_
                        rw [show va_rf ((w2f c0 c1) (0 : Int32).toNatClampNeg) = .ref c0 from (by rw [show (0 : Int32).toNatClampNeg = 0 from by decide]; rfl)]
                        refine lv_iload hx hb dL_law_1077 (lv_at hl 1 rfl) ?_
                        refine va_ald2 hx hb hK hP 17 1 rfl rfl (vp_in_nI (by omega) (by omega)) dL_law_1079 ?_
                        rw [show va_rf ((crF Rr) (nI r).toNatClampNeg) = .ref (Rr r) from (by rw [nI_clamp (by omega)]; rfl)]
                        refine lv_iload hx hb dL_law_1080 (lv_at hl 0 rfl) ?_
                        refine va_pld hx hb hK hP 0 rfl (i := r) (k := o) (by omega) (by omega) (by omega) dL_law_1082 ?_
                        rw [show F r o = crS K0 (nI r) (nI o) K0.length from (cvF_at hF (Or.inl (by omega))).trans (cvG_0 (by omega) (by omega) c1059)]
                        refine lv_icmp_eq (tgt := 1088) hx hb dL_law_1083 (by decide) (fun c1083 => ?_) (fun c1083 => ?_)
                        · refine lv_iinc (v := nI (o + 1)) (lv' := [(14, .int (nI (o + 1))), (13, .int (nI r)), (12, .int 0), (10, .ref sg), (9, .int (paI (plain (turnL K0 ++ K1)) 2)), (8, .int (saI (plain (turnL K0 ++ K1)))), (7, .ref ca), (6, .ref ea), (5, .int x5), (4, .int (nI t9)), (3, .int (nI rn)), (2, .ref y0), (1, .ref x0), (0, .ref b9)]) hx hb dL_law_1088 hl (k := 0) rfl (g_inc _) (by decide) rfl (fun ls hl => ?_)
                          refine lv_goto (tgt := 1049) hx hb dL_law_1091 (by decide) ?_
                          exact ih1049 (o + 1) (by omega) (by omega) _ (lv_sub hl [0, 1, 2, 3, 4, 5, 6, 7, 8, 9, 10, 11, 12, 13] rfl)
                        · exact absurd (fMe hm0 (show r < 6 by omega) (show o < 6 by omega)).2 c1083
                exact lpo1049 ((rn - 0) + 1) 0 (Nat.zero_le _) (Nat.lt_succ_self _) _ (lv_sub hl [0, 1, 2, 3, 4, 5, 6, 7, 8, 9, 10, 11, 12, 13] rfl)
              · exact absurd (fMe hm0 (show r < 6 by omega) (show r < 6 by omega)).1 c1041
        exact lpr1019 ((rn - 0) + 1) 0 (Nat.zero_le _) (Nat.lt_succ_self _) _ (lv_sub hl [0, 1, 2, 3, 4, 5, 6, 7, 8, 9, 10, 11, 12] rfl)
      · refine lv_aload_n hx hb dL_law_999 rfl (lv_at hl 10 rfl) ?_
        refine lv_iload hx hb dL_law_1000 (lv_at hl 0 rfl) ?_
        refine lv_iconst (v := 2) hx hb dL_law_1002 (by decide) ?_
        refine g_MVPi (As := [.int 0, .int 2]) (rest := []) ⟨hx, hb, hml, hown, hts⟩ (mt_X1_plain0 l dC dI cA H.size x0 r0 r1 r2 r3 rn a0 L0 f0 a2 m2_1 g2_2 a3 m3_3 g3_4 2 hR0 (by first | omega | (simp only [List.length_append, List.length_cons, List.length_nil, List.length_set, turnL_len]; omega))) (cwV 2 hts gL_law_X1_plain rfl rfl rfl hdX1_plain ⟨Nat.le_of_ble_eq_true rfl, Nat.le_of_ble_eq_true rfl⟩) hP hK1 hD hS hA [0, 1, 2, 5, 6, 7, 8] (by decide) rfl rfl (va_recv hK hP (ci := 1) (q0 := 0) rfl rfl) rfl hl.1 rfl (Nat.le_of_ble_eq_true rfl) dL_law_1003 (by show _ ≤ 600130; omega) (by show _ ≤ 7301080; omega) (fun u9 => [(x0, .inr (1, [.ref r0, .ref r1, .ref r2, .ref r3, .int (nI rn)])), (r0, .inr (0, [.ref a0, .int (nI L0.length)])), (a0, .inl (cA, (100, .inl f0))), (r1, .inr (0, [.ref a1, .int (nI L1.length)])), (a1, .inl (cA, (100, .inl f1))), (r2, .inr (0, [.ref a2, .int u9.1])), (a2, .inl (cA, (100, .inl u9.2.1))), (r3, .inr (0, [.ref a3, .int u9.2.2.1])), (a3, .inl (cA, (100, .inl u9.2.2.2))), (y0, .inr (2, [.int (nI rn), .ref q0])), (q0, .inl (cAA, (2, .inr (.inr (.inr (.inr (w2f p0 p1))))))), (p0, .inl (cA, (L0.length, .inl (atL L0)))), (p1, .inl (cA, (L1.length, .inl (atL L1)))), (ea, .inl (cAA, (2, .inr (.inr (.inr (.inr (w2f e0 e1))))))), (e0, .inl (cA, (rn, .inl g0))), (e1, .inl (cA, (rn, .inl g1))), (ca, .inl (cAAA, (2, .inr (.inr (.inr (.inr (w2f c0 c1))))))), (c0, .inl (cAA, (rn, .inr (.inr (.inr (.inr (crF Rr))))))), (c1, .inl (cAA, (rn, .inr (.inr (.inr (.inr (crG Rr rn))))))), (sg, .inl (cA, (2, .inl (upd (upd (fun _ => 0) 0 (paI (plain K0) 2)) 1 (paI (plain K1) 2)))))]) (fun _ => rfl) (fun _ => rfl) (fun u H locs hw_10 hP hD hS => ?_)
        obtain ⟨m2_6, g2_7, m3_8, g3_9⟩ := u
        have hw_10 : True := hw_10
        have hP : va_P (dC, dI) vwCl ([(x0, .inr (1, [.ref r0, .ref r1, .ref r2, .ref r3, .int (nI rn)])), (r0, .inr (0, [.ref a0, .int (nI L0.length)])), (a0, .inl (cA, (100, .inl f0))), (r1, .inr (0, [.ref a1, .int (nI L1.length)])), (a1, .inl (cA, (100, .inl f1))), (r2, .inr (0, [.ref a2, .int m2_6])), (a2, .inl (cA, (100, .inl g2_7))), (r3, .inr (0, [.ref a3, .int m3_8])), (a3, .inl (cA, (100, .inl g3_9))), (y0, .inr (2, [.int (nI rn), .ref q0])), (q0, .inl (cAA, (2, .inr (.inr (.inr (.inr (w2f p0 p1))))))), (p0, .inl (cA, (L0.length, .inl (atL L0)))), (p1, .inl (cA, (L1.length, .inl (atL L1)))), (ea, .inl (cAA, (2, .inr (.inr (.inr (.inr (w2f e0 e1))))))), (e0, .inl (cA, (rn, .inl g0))), (e1, .inl (cA, (rn, .inl g1))), (ca, .inl (cAAA, (2, .inr (.inr (.inr (.inr (w2f c0 c1))))))), (c0, .inl (cAA, (rn, .inr (.inr (.inr (.inr (crF Rr))))))), (c1, .inl (cAA, (rn, .inr (.inr (.inr (.inr (crG Rr rn))))))), (sg, .inl (cA, (2, .inl (upd (upd (fun _ => 0) 0 (paI (plain K0) 2)) 1 (paI (plain K1) 2)))))] ++ plR cA rn (2 * rn) Rr F) H := hP
        have hD : va_D A ([(x0, .inr (1, [.ref r0, .ref r1, .ref r2, .ref r3, .int (nI rn)])), (r0, .inr (0, [.ref a0, .int (nI L0.length)])), (a0, .inl (cA, (100, .inl f0))), (r1, .inr (0, [.ref a1, .int (nI L1.length)])), (a1, .inl (cA, (100, .inl f1))), (r2, .inr (0, [.ref a2, .int m2_6])), (a2, .inl (cA, (100, .inl g2_7))), (r3, .inr (0, [.ref a3, .int m3_8])), (a3, .inl (cA, (100, .inl g3_9))), (y0, .inr (2, [.int (nI rn), .ref q0])), (q0, .inl (cAA, (2, .inr (.inr (.inr (.inr (w2f p0 p1))))))), (p0, .inl (cA, (L0.length, .inl (atL L0)))), (p1, .inl (cA, (L1.length, .inl (atL L1)))), (ea, .inl (cAA, (2, .inr (.inr (.inr (.inr (w2f e0 e1))))))), (e0, .inl (cA, (rn, .inl g0))), (e1, .inl (cA, (rn, .inl g1))), (ca, .inl (cAAA, (2, .inr (.inr (.inr (.inr (w2f c0 c1))))))), (c0, .inl (cAA, (rn, .inr (.inr (.inr (.inr (crF Rr))))))), (c1, .inl (cAA, (rn, .inr (.inr (.inr (.inr (crG Rr rn))))))), (sg, .inl (cA, (2, .inl (upd (upd (fun _ => 0) 0 (paI (plain K0) 2)) 1 (paI (plain K1) 2)))))] ++ plR cA rn (2 * rn) Rr F) := hD
        refine lv_aload hx hb dL_law_1006 (lv_at hl 1 rfl) ?_
        refine lv_iload hx hb dL_law_1008 (lv_at hl 0 rfl) ?_
        refine va_iald hx hb hK hP 19 0 rfl rfl (vp_in_nI (n := 0) (by omega) (by decide)) dL_law_1010 ?_
        rw [show (0 : Int32).toNatClampNeg = 0 from by decide]
        rw [show (upd (upd (fun _ => 0) 0 (paI (plain K0) 2)) 1 (paI (plain K1) 2)) 0 = paI (plain K0) 2 from (pk_un (by decide)).trans pk_us]
        refine lv_icmp_eq (tgt := 1016) hx hb dL_law_1011 (by decide) (fun c1011 => ?_) (fun c1011 => ?_)
        · refine lv_iconst (v := 0) hx hb dL_law_1016 (by decide) ?_
          refine lv_istore (lv' := [(13, .int 0), (12, .int 0), (10, .ref sg), (9, .int (paI (plain (turnL K0 ++ K1)) 2)), (8, .int (saI (plain (turnL K0 ++ K1)))), (7, .ref ca), (6, .ref ea), (5, .int x5), (4, .int (nI t9)), (3, .int (nI rn)), (2, .ref y0), (1, .ref x0), (0, .ref b9)]) hx hb dL_law_1017 hl (by decide) rfl (fun ls hl => ?_)
          have lpr1019 : ∀ (d : Nat) (r : Nat) (hr9 : r ≤ rn), rn - r < d → ∀ ls : Array Slot, lv_has ls 17 [(13, .int (nI r)), (12, .int 0), (10, .ref sg), (9, .int (paI (plain (turnL K0 ++ K1)) 2)), (8, .int (saI (plain (turnL K0 ++ K1)))), (7, .ref ca), (6, .ref ea), (5, .int x5), (4, .int (nI t9)), (3, .int (nI rn)), (2, .ref y0), (1, .ref x0), (0, .ref b9)] → W p l e room_1 s m ([.ref b9] : List Value).toArray below meth c H locs cells slots Q (F0 m 1019 ls []) := by
            intro d
            induction d with
            | zero => intro r hr9 hd; exact absurd hd (Nat.not_lt_zero _)
            | succ d ih1019 =>
              intro r hr9 hd ls hl
              refine lv_iload hx hb dL_law_1019 (lv_at hl 0 rfl) ?_
              refine lv_iload_n hx hb dL_law_1021 rfl (lv_at hl 9 rfl) ?_
              refine lv_icmp_ge (tgt := 1100) hx hb dL_law_1022 (by decide) (fun c1022 => ?_) (fun c1022 => ?_)
              · have c1022 : rn ≤ r := g_geT r rn (by omega) (by omega) c1022
                refine lv_iinc (v := 1) (lv' := [(12, .int 1), (13, .int (nI r)), (10, .ref sg), (9, .int (paI (plain (turnL K0 ++ K1)) 2)), (8, .int (saI (plain (turnL K0 ++ K1)))), (7, .ref ca), (6, .ref ea), (5, .int x5), (4, .int (nI t9)), (3, .int (nI rn)), (2, .ref y0), (1, .ref x0), (0, .ref b9)]) hx hb dL_law_1100 hl (k := 1) rfl (by decide) (by decide) rfl (fun ls hl => ?_)
                refine lv_goto (tgt := 971) hx hb dL_law_1103 (by decide) ?_
                exact K m2_6 g2_7 m3_8 g3_9 _ _ _ hP hD hS (lv_sub hl [0, 2, 3, 4, 5, 6, 7, 8, 9, 10, 11, 12] rfl)
              · have c1022 : r < rn := g_geF r rn (by omega) (by omega) c1022
                refine lv_aload_n hx hb dL_law_1025 rfl (lv_at hl 11 rfl) ?_
                refine lv_iload hx hb dL_law_1026 (lv_at hl 1 rfl) ?_
                refine lv_iload hx hb dL_law_1028 (lv_at hl 0 rfl) ?_
                refine g_RVi (As := [.int 0, .int (nI r)]) (rest := []) ⟨hx, hb, hml, hown, hts⟩ (mt_X1_end0 l dC dI cA H.size x0 r0 r1 r2 r3 rn a0 L0 f0 (nI r) hR0 (nI_pos (by omega)) (nI_lt (by omega) (by omega))) (cwV 2 hts gL_law_X1_end rfl rfl rfl hdX1_end ⟨Nat.le_of_ble_eq_true rfl, Nat.le_of_ble_eq_true rfl⟩) hP hK1 hD [0, 1, 2] (by decide) rfl (va_recv hK hP (ci := 1) (q0 := 0) rfl rfl) rfl hl.1 rfl (Nat.le_of_ble_eq_true rfl) dL_law_1030 (by show _ ≤ 600130; omega) (by show _ ≤ 7301080; omega) ?_
                refine lv_aload hx hb dL_law_1033 (lv_at hl 6 rfl) ?_
                refine lv_iload hx hb dL_law_1035 (lv_at hl 1 rfl) ?_
                refine va_ald2 hx hb hK hP 13 1 rfl rfl (vp_in_nI (n := 0) (by omega) (by decide)) dL_law_1037 ?_
                rw [show va_rf ((w2f e0 e1) (0 : Int32).toNatClampNeg) = .ref e0 from (by rw [show (0 : Int32).toNatClampNeg = 0 from by decide]; rfl)]
                refine lv_iload hx hb dL_law_1038 (lv_at hl 0 rfl) ?_
                refine va_iald hx hb hK hP 14 0 rfl rfl (vp_in_nI (by omega) (by omega)) dL_law_1040 ?_
                rw [show (nI r).toNatClampNeg = r from nI_clamp (by omega)]
                rw [show g0 r = plE K0 (nI r) K0.length from hg0 r (by omega)]
                refine lv_icmp_eq (tgt := 1046) hx hb dL_law_1041 (by decide) (fun c1041 => ?_) (fun c1041 => ?_)
                · refine lv_iconst (v := 0) hx hb dL_law_1046 (by decide) ?_
                  refine lv_istore (lv' := [(14, .int 0), (13, .int (nI r)), (12, .int 0), (10, .ref sg), (9, .int (paI (plain (turnL K0 ++ K1)) 2)), (8, .int (saI (plain (turnL K0 ++ K1)))), (7, .ref ca), (6, .ref ea), (5, .int x5), (4, .int (nI t9)), (3, .int (nI rn)), (2, .ref y0), (1, .ref x0), (0, .ref b9)]) hx hb dL_law_1047 hl (by decide) rfl (fun ls hl => ?_)
                  have lpo1049 : ∀ (d : Nat) (o : Nat) (ho9 : o ≤ rn), rn - o < d → ∀ ls : Array Slot, lv_has ls 17 [(14, .int (nI o)), (13, .int (nI r)), (12, .int 0), (10, .ref sg), (9, .int (paI (plain (turnL K0 ++ K1)) 2)), (8, .int (saI (plain (turnL K0 ++ K1)))), (7, .ref ca), (6, .ref ea), (5, .int x5), (4, .int (nI t9)), (3, .int (nI rn)), (2, .ref y0), (1, .ref x0), (0, .ref b9)] → W p l e room_1 s m ([.ref b9] : List Value).toArray below meth c H locs cells slots Q (F0 m 1049 ls []) := by
                    intro d
                    induction d with
                    | zero => intro o ho9 hd; exact absurd hd (Nat.not_lt_zero _)
                    | succ d ih1049 =>
                      intro o ho9 hd ls hl
                      refine lv_iload hx hb dL_law_1049 (lv_at hl 0 rfl) ?_
                      refine lv_iload_n hx hb dL_law_1051 rfl (lv_at hl 10 rfl) ?_
                      refine lv_icmp_ge (tgt := 1094) hx hb dL_law_1052 (by decide) (fun c1052 => ?_) (fun c1052 => ?_)
                      · have c1052 : rn ≤ o := g_geT o rn (by omega) (by omega) c1052
                        refine lv_iinc (v := nI (r + 1)) (lv' := [(13, .int (nI (r + 1))), (14, .int (nI o)), (12, .int 0), (10, .ref sg), (9, .int (paI (plain (turnL K0 ++ K1)) 2)), (8, .int (saI (plain (turnL K0 ++ K1)))), (7, .ref ca), (6, .ref ea), (5, .int x5), (4, .int (nI t9)), (3, .int (nI rn)), (2, .ref y0), (1, .ref x0), (0, .ref b9)]) hx hb dL_law_1094 hl (k := 1) rfl (g_inc _) (by decide) rfl (fun ls hl => ?_)
                        refine lv_goto (tgt := 1019) hx hb dL_law_1097 (by decide) ?_
                        exact ih1019 (r + 1) (by omega) (by omega) _ (lv_sub hl [0, 2, 3, 4, 5, 6, 7, 8, 9, 10, 11, 12, 13] rfl)
                      · have c1052 : o < rn := g_geF o rn (by omega) (by omega) c1052
                        refine lv_iload hx hb dL_law_1055 (lv_at hl 0 rfl) ?_
                        refine lv_iload hx hb dL_law_1057 (lv_at hl 1 rfl) ?_
                        refine lv_icmp_eq (tgt := 1088) hx hb dL_law_1059 (by decide) (fun c1059 => ?_) (fun c1059 => ?_)
                        · have c1059 : o = r := g_eqT o r (by omega) (by omega) c1059
                          refine lv_iinc (v := nI (o + 1)) (lv' := [(14, .int (nI (o + 1))), (13, .int (nI r)), (12, .int 0), (10, .ref sg), (9, .int (paI (plain (turnL K0 ++ K1)) 2)), (8, .int (saI (plain (turnL K0 ++ K1)))), (7, .ref ca), (6, .ref ea), (5, .int x5), (4, .int (nI t9)), (3, .int (nI rn)), (2, .ref y0), (1, .ref x0), (0, .ref b9)]) hx hb dL_law_1088 hl (k := 0) rfl (g_inc _) (by decide) rfl (fun ls hl => ?_)
                          refine lv_goto (tgt := 1049) hx hb dL_law_1091 (by decide) ?_
                          exact ih1049 (o + 1) (by omega) (by omega) _ (lv_sub hl [0, 1, 2, 3, 4, 5, 6, 7, 8, 9, 10, 11, 12, 13] rfl)
                        · have c1059 : ¬ o = r := g_eqF o r (by omega) (by omega) c1059
                          refine lv_aload_n hx hb dL_law_1062 rfl (lv_at hl 12 rfl) ?_
                          refine lv_iload hx hb dL_law_1063 (lv_at hl 2 rfl) ?_
                          refine lv_iload hx hb dL_law_1065 (lv_at hl 1 rfl) ?_
                          refine lv_iload hx hb dL_law_1067 (lv_at hl 0 rfl) ?_
                          refine g_RVi (As := [.int 0, .int (nI r), .int (nI o)]) (rest := []) ⟨hx, hb, hml, hown, hts⟩ (mt_X1_crosses0 l dC dI cA H.size x0 r0 r1 r2 r3 rn a0 L0 f0 (nI r) (nI o) hR0 (nI_pos (by omega)) (nI_lt (by omega) (by omega)) (nI_pos (by omega)) (nI_lt (by omega) (by omega)) (nI_ne (by omega) (by omega) (fun q9 => c1059 q9.symm))) (cwV 3 hts gL_law_X1_crosses rfl rfl rfl hdX1_crosses ⟨Nat.le_of_ble_eq_true rfl, Nat.le_of_ble_eq_true rfl⟩) hP hK1 hD [0, 1, 2] (by decide) rfl (va_recv hK hP (ci := 1) (q0 := 0) rfl rfl) rfl hl.1 rfl (Nat.le_of_ble_eq_true rfl) dL_law_1069 (by show _ ≤ 600130; omega) (by show _ ≤ 7301080; omega) ?_
                          refine lv_aload hx hb dL_law_1072 (lv_at hl 6 rfl) ?_
                          refine lv_iload hx hb dL_law_1074 (lv_at hl 2 rfl) ?_
                          refine va_ald2 hx hb hK hP 16 2 rfl rfl (vp_in_nI (n := 0) (by omega) (by decide)) dL_law_1076 ?_
                          rw [show va_rf ((w2f c0 c1) (0 : Int32).toNatClampNeg) = .ref c0 from (by rw [show (0 : Int32).toNatClampNeg = 0 from by decide]; rfl)]
                          refine lv_iload hx hb dL_law_1077 (lv_at hl 1 rfl) ?_
                          refine va_ald2 hx hb hK hP 17 1 rfl rfl (vp_in_nI (by omega) (by omega)) dL_law_1079 ?_
                          rw [show va_rf ((crF Rr) (nI r).toNatClampNeg) = .ref (Rr r) from (by rw [nI_clamp (by omega)]; rfl)]
                          refine lv_iload hx hb dL_law_1080 (lv_at hl 0 rfl) ?_
                          refine va_pld hx hb hK hP 0 rfl (i := r) (k := o) (by omega) (by omega) (by omega) dL_law_1082 ?_
                          rw [show F r o = crS K0 (nI r) (nI o) K0.length from (cvF_at hF (Or.inl (by omega))).trans (cvG_0 (by omega) (by omega) c1059)]
                          refine lv_icmp_eq (tgt := 1088) hx hb dL_law_1083 (by decide) (fun c1083 => ?_) (fun c1083 => ?_)
                          · refine lv_iinc (v := nI (o + 1)) (lv' := [(14, .int (nI (o + 1))), (13, .int (nI r)), (12, .int 0), (10, .ref sg), (9, .int (paI (plain (turnL K0 ++ K1)) 2)), (8, .int (saI (plain (turnL K0 ++ K1)))), (7, .ref ca), (6, .ref ea), (5, .int x5), (4, .int (nI t9)), (3, .int (nI rn)), (2, .ref y0), (1, .ref x0), (0, .ref b9)]) hx hb dL_law_1088 hl (k := 0) rfl (g_inc _) (by decide) rfl (fun ls hl => ?_)
                            refine lv_goto (tgt := 1049) hx hb dL_law_1091 (by decide) ?_
                            exact ih1049 (o + 1) (by omega) (by omega) _ (lv_sub hl [0, 1, 2, 3, 4, 5, 6, 7, 8, 9, 10, 11, 12, 13] rfl)
                          · exact absurd (fMe hm0 (show r < 6 by omega) (show o < 6 by omega)).2 c1083
                  exact lpo1049 ((rn - 0) + 1) 0 (Nat.zero_le _) (Nat.lt_succ_self _) _ (lv_sub hl [0, 1, 2, 3, 4, 5, 6, 7, 8, 9, 10, 11, 12, 13] rfl)
                · exact absurd (fMe hm0 (show r < 6 by omega) (show r < 6 by omega)).1 c1041
          exact lpr1019 ((rn - 0) + 1) 0 (Nat.zero_le _) (Nat.lt_succ_self _) _ (lv_sub hl [0, 1, 2, 3, 4, 5, 6, 7, 8, 9, 10, 11, 12] rfl)
        · exact absurd (fM (okW_of hJ0) hW0 hm0 c984 c996) c1011

set_option maxHeartbeats 4000000 in
set_option maxRecDepth 100000 in
/-- behind a move: word 1 -/
theorem lw_d2_1 {p : Program} {l : Launch} {e : Env} {s : State} {m : MethodId} {below : List Frame} {meth : Method} {c : Code} {Q : State → Prop} {dC : Nat → ClassId} {dI : Nat → Nat → Nat} {cA cAA cAAA : ClassId} {A : Nat → Prop} {b9 LL : Nat} {xs : Nat → Int32} (E : lwC p l s m c b9 LL xs dC dI cA cAA cAAA A) (x0 : Nat) (r0 : Nat) (r1 : Nat) (r2 : Nat) (r3 : Nat) (a0 : Nat) (a1 : Nat) (a2 : Nat) (a3 : Nat) (y0 : Nat) (q0 : Nat) (p0 : Nat) (p1 : Nat) (rn : Nat) (L0 : List Int32) (f0 : Nat → Int32) (L1 : List Int32) (f1 : Nat → Int32) (n2 : Int32) (f2 : Nat → Int32) (n3 : Int32) (f3 : Nat → Int32) (t9 : Nat) (x5 : Int32) (ea : Nat) (e0 : Nat) (e1 : Nat) (ca : Nat) (c0 : Nat) (c1 : Nat) (Rr : Nat → Nat) (g0 : Nat → Int32) (g1 : Nat → Int32) (F : Nat → Nat → Int32) (K0 : List Int32) (K1 : List Int32) (sg : Nat) (hR0 : RI L0 f0) (hR1 : RI L1 f1) (hk0 : okL rn L0) (hk1 : okL rn L1) (hl0 : L0.length ≤ 30) (hl1 : L1.length ≤ 30) (hrn : rn ∈ rnS) (hr6 : rn ≤ 6) (hr3 : 3 ≤ rn) (hJ0 : okL rn K0) (hJ1 : okL rn K1) (hm0 : mvR K0 L0) (hm1 : mvR K1 L1) (hg0 : ∀ j, j < rn → g0 j = plE K0 (nI j) K0.length) (hg1 : ∀ j, j < rn → g1 j = plE K1 (nI j) K1.length) (hF : cvF (cvG rn K0 K1) F (rn + rn) 0) {H : Heap} {locs : List Loc} {cells slots : Nat} (hcz : cells ≤ 600130) (hsz : slots ≤ 7301080) (hP : va_P (dC, dI) vwCl ([(x0, .inr (1, [.ref r0, .ref r1, .ref r2, .ref r3, .int (nI rn)])), (r0, .inr (0, [.ref a0, .int (nI L0.length)])), (a0, .inl (cA, (100, .inl f0))), (r1, .inr (0, [.ref a1, .int (nI L1.length)])), (a1, .inl (cA, (100, .inl f1))), (r2, .inr (0, [.ref a2, .int n2])), (a2, .inl (cA, (100, .inl f2))), (r3, .inr (0, [.ref a3, .int n3])), (a3, .inl (cA, (100, .inl f3))), (y0, .inr (2, [.int (nI rn), .ref q0])), (q0, .inl (cAA, (2, .inr (.inr (.inr (.inr (w2f p0 p1))))))), (p0, .inl (cA, (L0.length, .inl (atL L0)))), (p1, .inl (cA, (L1.length, .inl (atL L1)))), (ea, .inl (cAA, (2, .inr (.inr (.inr (.inr (w2f e0 e1))))))), (e0, .inl (cA, (rn, .inl g0))), (e1, .inl (cA, (rn, .inl g1))), (ca, .inl (cAAA, (2, .inr (.inr (.inr (.inr (w2f c0 c1))))))), (c0, .inl (cAA, (rn, .inr (.inr (.inr (.inr (crF Rr))))))), (c1, .inl (cAA, (rn, .inr (.inr (.inr (.inr (crG Rr rn))))))), (sg, .inl (cA, (2, .inl (upd (upd (fun _ => 0) 0 (paI (plain K0) 2)) 1 (paI (plain K1) 2)))))] ++ plR cA rn (2 * rn) Rr F) H) (hD : va_D A ([(x0, .inr (1, [.ref r0, .ref r1, .ref r2, .ref r3, .int (nI rn)])), (r0, .inr (0, [.ref a0, .int (nI L0.length)])), (a0, .inl (cA, (100, .inl f0))), (r1, .inr (0, [.ref a1, .int (nI L1.length)])), (a1, .inl (cA, (100, .inl f1))), (r2, .inr (0, [.ref a2, .int n2])), (a2, .inl (cA, (100, .inl f2))), (r3, .inr (0, [.ref a3, .int n3])), (a3, .inl (cA, (100, .inl f3))), (y0, .inr (2, [.int (nI rn), .ref q0])), (q0, .inl (cAA, (2, .inr (.inr (.inr (.inr (w2f p0 p1))))))), (p0, .inl (cA, (L0.length, .inl (atL L0)))), (p1, .inl (cA, (L1.length, .inl (atL L1)))), (ea, .inl (cAA, (2, .inr (.inr (.inr (.inr (w2f e0 e1))))))), (e0, .inl (cA, (rn, .inl g0))), (e1, .inl (cA, (rn, .inl g1))), (ca, .inl (cAAA, (2, .inr (.inr (.inr (.inr (w2f c0 c1))))))), (c0, .inl (cAA, (rn, .inr (.inr (.inr (.inr (crF Rr))))))), (c1, .inl (cAA, (rn, .inr (.inr (.inr (.inr (crG Rr rn))))))), (sg, .inl (cA, (2, .inl (upd (upd (fun _ => 0) 0 (paI (plain K0) 2)) 1 (paI (plain K1) 2)))))] ++ plR cA rn (2 * rn) Rr F)) (hS : va_S A s.heap H locs) {ls : Array Slot} (hl : lv_has ls 17 [(12, .int 1), (10, .ref sg), (9, .int (paI (plain (turnL K0 ++ K1)) 2)), (8, .int (saI (plain (turnL K0 ++ K1)))), (7, .ref ca), (6, .ref ea), (5, .int x5), (4, .int (nI t9)), (3, .int (nI rn)), (2, .ref y0), (1, .ref x0), (0, .ref b9)])
    (K : ∀ (m2 : Int32) (k2 : Nat → Int32) (m3 : Int32) (k3 : Nat → Int32) (H1 : Heap) (locs1 : List Loc) (ls1 : Array Slot), va_P (dC, dI) vwCl ([(x0, .inr (1, [.ref r0, .ref r1, .ref r2, .ref r3, .int (nI rn)])), (r0, .inr (0, [.ref a0, .int (nI L0.length)])), (a0, .inl (cA, (100, .inl f0))), (r1, .inr (0, [.ref a1, .int (nI L1.length)])), (a1, .inl (cA, (100, .inl f1))), (r2, .inr (0, [.ref a2, .int m2])), (a2, .inl (cA, (100, .inl k2))), (r3, .inr (0, [.ref a3, .int m3])), (a3, .inl (cA, (100, .inl k3))), (y0, .inr (2, [.int (nI rn), .ref q0])), (q0, .inl (cAA, (2, .inr (.inr (.inr (.inr (w2f p0 p1))))))), (p0, .inl (cA, (L0.length, .inl (atL L0)))), (p1, .inl (cA, (L1.length, .inl (atL L1)))), (ea, .inl (cAA, (2, .inr (.inr (.inr (.inr (w2f e0 e1))))))), (e0, .inl (cA, (rn, .inl g0))), (e1, .inl (cA, (rn, .inl g1))), (ca, .inl (cAAA, (2, .inr (.inr (.inr (.inr (w2f c0 c1))))))), (c0, .inl (cAA, (rn, .inr (.inr (.inr (.inr (crF Rr))))))), (c1, .inl (cAA, (rn, .inr (.inr (.inr (.inr (crG Rr rn))))))), (sg, .inl (cA, (2, .inl (upd (upd (fun _ => 0) 0 (paI (plain K0) 2)) 1 (paI (plain K1) 2)))))] ++ plR cA rn (2 * rn) Rr F) H1 → va_D A ([(x0, .inr (1, [.ref r0, .ref r1, .ref r2, .ref r3, .int (nI rn)])), (r0, .inr (0, [.ref a0, .int (nI L0.length)])), (a0, .inl (cA, (100, .inl f0))), (r1, .inr (0, [.ref a1, .int (nI L1.length)])), (a1, .inl (cA, (100, .inl f1))), (r2, .inr (0, [.ref a2, .int m2])), (a2, .inl (cA, (100, .inl k2))), (r3, .inr (0, [.ref a3, .int m3])), (a3, .inl (cA, (100, .inl k3))), (y0, .inr (2, [.int (nI rn), .ref q0])), (q0, .inl (cAA, (2, .inr (.inr (.inr (.inr (w2f p0 p1))))))), (p0, .inl (cA, (L0.length, .inl (atL L0)))), (p1, .inl (cA, (L1.length, .inl (atL L1)))), (ea, .inl (cAA, (2, .inr (.inr (.inr (.inr (w2f e0 e1))))))), (e0, .inl (cA, (rn, .inl g0))), (e1, .inl (cA, (rn, .inl g1))), (ca, .inl (cAAA, (2, .inr (.inr (.inr (.inr (w2f c0 c1))))))), (c0, .inl (cAA, (rn, .inr (.inr (.inr (.inr (crF Rr))))))), (c1, .inl (cAA, (rn, .inr (.inr (.inr (.inr (crG Rr rn))))))), (sg, .inl (cA, (2, .inl (upd (upd (fun _ => 0) 0 (paI (plain K0) 2)) 1 (paI (plain K1) 2)))))] ++ plR cA rn (2 * rn) Rr F) → va_S A s.heap H1 locs1 → lv_has ls1 17 [(12, .int 2), (10, .ref sg), (9, .int (paI (plain (turnL K0 ++ K1)) 2)), (8, .int (saI (plain (turnL K0 ++ K1)))), (7, .ref ca), (6, .ref ea), (5, .int x5), (4, .int (nI t9)), (3, .int (nI rn)), (2, .ref y0), (1, .ref x0), (0, .ref b9)] → W p l e room_1 s m ([.ref b9] : List Value).toArray below meth c H1 locs1 cells slots Q (F0 m 971 ls1 [])) : W p l e room_1 s m ([.ref b9] : List Value).toArray below meth c H locs cells slots Q (F0 m 971 ls []) := by
  obtain ⟨hx, hb, hml, hown, hts, htr, hK, hA, hXX, hL2, hm3, ho2, ho3⟩ := id E
  have hK1 : va_K (dC, dI) vwCl [(cA, .int)] s := hK.sub [0] rfl
  have hK2 : va_K (dC, dI) vwCl [(cA, .int), (cAA, .array .int)] s := hK.sub [0, 1] rfl
  have hW0 := okW_of hk0
  have hW1 := okW_of hk1
  refine lv_iload hx hb dL_law_971 (lv_at hl 0 rfl) ?_
  refine lv_iconst (v := 2) hx hb dL_law_973 (by decide) ?_
  refine lv_icmp_ge (tgt := 1106) hx hb dL_law_974 (by decide) (fun c974 => ?_) (fun c974 => ?_)
  · exact absurd c974 (by decide)
  · have c974 : 1 < 2 := g_geF 1 2 (by omega) (by omega) c974
    refine lv_aload hx hb dL_law_977 (lv_at hl 1 rfl) ?_
    refine lv_iload hx hb dL_law_979 (lv_at hl 0 rfl) ?_
    refine va_iald hx hb hK hP 19 0 rfl rfl (vp_in_nI (n := 1) (by omega) (by decide)) dL_law_981 ?_
    rw [show (1 : Int32).toNatClampNeg = 1 from by decide]
    rw [show (upd (upd (fun _ => 0) 0 (paI (plain K0) 2)) 1 (paI (plain K1) 2)) 1 = paI (plain K1) 2 from pk_us]
    refine lv_bipush (v := (-9)) hx hb dL_law_982 (by decide) ?_
    refine lv_icmp_eq (tgt := 1016) hx hb dL_law_984 (by decide) (fun c984 => ?_) (fun c984 => ?_)
    · refine lv_iconst (v := 0) hx hb dL_law_1016 (by decide) ?_
      refine lv_istore (lv' := [(13, .int 0), (12, .int 1), (10, .ref sg), (9, .int (paI (plain (turnL K0 ++ K1)) 2)), (8, .int (saI (plain (turnL K0 ++ K1)))), (7, .ref ca), (6, .ref ea), (5, .int x5), (4, .int (nI t9)), (3, .int (nI rn)), (2, .ref y0), (1, .ref x0), (0, .ref b9)]) hx hb dL_law_1017 hl (by decide) rfl (fun ls hl => ?_)
      have lpr1019 : ∀ (d : Nat) (r : Nat) (hr9 : r ≤ rn), rn - r < d → ∀ ls : Array Slot, lv_has ls 17 [(13, .int (nI r)), (12, .int 1), (10, .ref sg), (9, .int (paI (plain (turnL K0 ++ K1)) 2)), (8, .int (saI (plain (turnL K0 ++ K1)))), (7, .ref ca), (6, .ref ea), (5, .int x5), (4, .int (nI t9)), (3, .int (nI rn)), (2, .ref y0), (1, .ref x0), (0, .ref b9)] → W p l e room_1 s m ([.ref b9] : List Value).toArray below meth c H locs cells slots Q (F0 m 1019 ls []) := by
        intro d
        induction d with
        | zero => intro r hr9 hd; exact absurd hd (Nat.not_lt_zero _)
        | succ d ih1019 =>
          intro r hr9 hd ls hl
          refine lv_iload hx hb dL_law_1019 (lv_at hl 0 rfl) ?_
          refine lv_iload_n hx hb dL_law_1021 rfl (lv_at hl 9 rfl) ?_
          refine lv_icmp_ge (tgt := 1100) hx hb dL_law_1022 (by decide) (fun c1022 => ?_) (fun c1022 => ?_)
          · have c1022 : rn ≤ r := g_geT r rn (by omega) (by omega) c1022
            refine lv_iinc (v := 2) (lv' := [(12, .int 2), (13, .int (nI r)), (10, .ref sg), (9, .int (paI (plain (turnL K0 ++ K1)) 2)), (8, .int (saI (plain (turnL K0 ++ K1)))), (7, .ref ca), (6, .ref ea), (5, .int x5), (4, .int (nI t9)), (3, .int (nI rn)), (2, .ref y0), (1, .ref x0), (0, .ref b9)]) hx hb dL_law_1100 hl (k := 1) rfl (by decide) (by decide) rfl (fun ls hl => ?_)
            refine lv_goto (tgt := 971) hx hb dL_law_1103 (by decide) ?_
            exact K n2 f2 n3 f3 _ _ _ hP hD hS (lv_sub hl [0, 2, 3, 4, 5, 6, 7, 8, 9, 10, 11, 12] rfl)
          · have c1022 : r < rn := g_geF r rn (by omega) (by omega) c1022
            refine lv_aload_n hx hb dL_law_1025 rfl (lv_at hl 11 rfl) ?_
            refine lv_iload hx hb dL_law_1026 (lv_at hl 1 rfl) ?_
            refine lv_iload hx hb dL_law_1028 (lv_at hl 0 rfl) ?_
            refine g_RVi (As := [.int 1, .int (nI r)]) (rest := []) ⟨hx, hb, hml, hown, hts⟩ (mt_X1_end1 l dC dI cA H.size x0 r0 r1 r2 r3 rn a1 L1 f1 (nI r) hR1 (nI_pos (by omega)) (nI_lt (by omega) (by omega))) (cwV 2 hts gL_law_X1_end rfl rfl rfl hdX1_end ⟨Nat.le_of_ble_eq_true rfl, Nat.le_of_ble_eq_true rfl⟩) hP hK1 hD [0, 3, 4] (by decide) rfl (va_recv hK hP (ci := 1) (q0 := 0) rfl rfl) rfl hl.1 rfl (Nat.le_of_ble_eq_true rfl) dL_law_1030 (by show _ ≤ 600130; omega) (by show _ ≤ 7301080; omega) ?_
            refine lv_aload hx hb dL_law_1033 (lv_at hl 6 rfl) ?_
            refine lv_iload hx hb dL_law_1035 (lv_at hl 1 rfl) ?_
            refine va_ald2 hx hb hK hP 13 1 rfl rfl (vp_in_nI (n := 1) (by omega) (by decide)) dL_law_1037 ?_
            rw [show va_rf ((w2f e0 e1) (1 : Int32).toNatClampNeg) = .ref e1 from (by rw [show (1 : Int32).toNatClampNeg = 1 from by decide]; rfl)]
            refine lv_iload hx hb dL_law_1038 (lv_at hl 0 rfl) ?_
            refine va_iald hx hb hK hP 15 0 rfl rfl (vp_in_nI (by omega) (by omega)) dL_law_1040 ?_
            rw [show (nI r).toNatClampNeg = r from nI_clamp (by omega)]
            rw [show g1 r = plE K1 (nI r) K1.length from hg1 r (by omega)]
            refine lv_icmp_eq (tgt := 1046) hx hb dL_law_1041 (by decide) (fun c1041 => ?_) (fun c1041 => ?_)
            · refine lv_iconst (v := 0) hx hb dL_law_1046 (by decide) ?_
              refine lv_istore (lv' := [(14, .int 0), (13, .int (nI r)), (12, .int 1), (10, .ref sg), (9, .int (paI (plain (turnL K0 ++ K1)) 2)), (8, .int (saI (plain (turnL K0 ++ K1)))), (7, .ref ca), (6, .ref ea), (5, .int x5), (4, .int (nI t9)), (3, .int (nI rn)), (2, .ref y0), (1, .ref x0), (0, .ref b9)]) hx hb dL_law_1047 hl (by decide) rfl (fun ls hl => ?_)
              have lpo1049 : ∀ (d : Nat) (o : Nat) (ho9 : o ≤ rn), rn - o < d → ∀ ls : Array Slot, lv_has ls 17 [(14, .int (nI o)), (13, .int (nI r)), (12, .int 1), (10, .ref sg), (9, .int (paI (plain (turnL K0 ++ K1)) 2)), (8, .int (saI (plain (turnL K0 ++ K1)))), (7, .ref ca), (6, .ref ea), (5, .int x5), (4, .int (nI t9)), (3, .int (nI rn)), (2, .ref y0), (1, .ref x0), (0, .ref b9)] → W p l e room_1 s m ([.ref b9] : List Value).toArray below meth c H locs cells slots Q (F0 m 1049 ls []) := by
                intro d
                induction d with
                | zero => intro o ho9 hd; exact absurd hd (Nat.not_lt_zero _)
                | succ d ih1049 =>
                  intro o ho9 hd ls hl
                  refine lv_iload hx hb dL_law_1049 (lv_at hl 0 rfl) ?_
                  refine lv_iload_n hx hb dL_law_1051 rfl (lv_at hl 10 rfl) ?_
                  refine lv_icmp_ge (tgt := 1094) hx hb dL_law_1052 (by decide) (fun c1052 => ?_) (fun c1052 => ?_)
                  · have c1052 : rn ≤ o := g_geT o rn (by omega) (by omega) c1052
                    refine lv_iinc (v := nI (r + 1)) (lv' := [(13, .int (nI (r + 1))), (14, .int (nI o)), (12, .int 1), (10, .ref sg), (9, .int (paI (plain (turnL K0 ++ K1)) 2)), (8, .int (saI (plain (turnL K0 ++ K1)))), (7, .ref ca), (6, .ref ea), (5, .int x5), (4, .int (nI t9)), (3, .int (nI rn)), (2, .ref y0), (1, .ref x0), (0, .ref b9)]) hx hb dL_law_1094 hl (k := 1) rfl (g_inc _) (by decide) rfl (fun ls hl => ?_)
                    refine lv_goto (tgt := 1019) hx hb dL_law_1097 (by decide) ?_
                    exact ih1019 (r + 1) (by omega) (by omega) _ (lv_sub hl [0, 2, 3, 4, 5, 6, 7, 8, 9, 10, 11, 12, 13] rfl)
                  · have c1052 : o < rn := g_geF o rn (by omega) (by omega) c1052
                    refine lv_iload hx hb dL_law_1055 (lv_at hl 0 rfl) ?_
                    refine lv_iload hx hb dL_law_1057 (lv_at hl 1 rfl) ?_
                    refine lv_icmp_eq (tgt := 1088) hx hb dL_law_1059 (by decide) (fun c1059 => ?_) (fun c1059 => ?_)
                    · have c1059 : o = r := g_eqT o r (by omega) (by omega) c1059
                      refine lv_iinc (v := nI (o + 1)) (lv' := [(14, .int (nI (o + 1))), (13, .int (nI r)), (12, .int 1), (10, .ref sg), (9, .int (paI (plain (turnL K0 ++ K1)) 2)), (8, .int (saI (plain (turnL K0 ++ K1)))), (7, .ref ca), (6, .ref ea), (5, .int x5), (4, .int (nI t9)), (3, .int (nI rn)), (2, .ref y0), (1, .ref x0), (0, .ref b9)]) hx hb dL_law_1088 hl (k := 0) rfl (g_inc _) (by decide) rfl (fun ls hl => ?_)
                      refine lv_goto (tgt := 1049) hx hb dL_law_1091 (by decide) ?_
                      exact ih1049 (o + 1) (by omega) (by omega) _ (lv_sub hl [0, 1, 2, 3, 4, 5, 6, 7, 8, 9, 10, 11, 12, 13] rfl)
                    · have c1059 : ¬ o = r := g_eqF o r (by omega) (by omega) c1059
                      refine lv_aload_n hx hb dL_law_1062 rfl (lv_at hl 12 rfl) ?_
                      refine lv_iload hx hb dL_law_1063 (lv_at hl 2 rfl) ?_
                      refine lv_iload hx hb dL_law_1065 (lv_at hl 1 rfl) ?_
                      refine lv_iload hx hb dL_law_1067 (lv_at hl 0 rfl) ?_
                      refine g_RVi (As := [.int 1, .int (nI r), .int (nI o)]) (rest := []) ⟨hx, hb, hml, hown, hts⟩ (mt_X1_crosses1 l dC dI cA H.size x0 r0 r1 r2 r3 rn a1 L1 f1 (nI r) (nI o) hR1 (nI_pos (by omega)) (nI_lt (by omega) (by omega)) (nI_pos (by omega)) (nI_lt (by omega) (by omega)) (nI_ne (by omega) (by omega) (fun q9 => c1059 q9.symm))) (cwV 3 hts gL_law_X1_crosses rfl rfl rfl hdX1_crosses ⟨Nat.le_of_ble_eq_true rfl, Nat.le_of_ble_eq_true rfl⟩) hP hK1 hD [0, 3, 4] (by decide) rfl (va_recv hK hP (ci := 1) (q0 := 0) rfl rfl) rfl hl.1 rfl (Nat.le_of_ble_eq_true rfl) dL_law_1069 (by show _ ≤ 600130; omega) (by show _ ≤ 7301080; omega) ?_
                      refine lv_aload hx hb dL_law_1072 (lv_at hl 6 rfl) ?_
                      refine lv_iload hx hb dL_law_1074 (lv_at hl 2 rfl) ?_
                      refine va_ald2 hx hb hK hP 16 2 rfl rfl (vp_in_nI (n := 1) (by omega) (by decide)) dL_law_1076 ?_
                      rw [show va_rf ((w2f c0 c1) (1 : Int32).toNatClampNeg) = .ref c1 from (by rw [show (1 : Int32).toNatClampNeg = 1 from by decide]; rfl)]
                      refine lv_iload hx hb dL_law_1077 (lv_at hl 1 rfl) ?_
                      refine va_ald2 hx hb hK hP 18 1 rfl rfl (vp_in_nI (by omega) (by omega)) dL_law_1079 ?_
                      rw [show va_rf ((crG Rr rn) (nI r).toNatClampNeg) = .ref (Rr (rn + r)) from (by rw [nI_clamp (by omega)]; rfl)]
                      refine lv_iload hx hb dL_law_1080 (lv_at hl 0 rfl) ?_
                      refine va_pld hx hb hK hP 0 rfl (i := (rn + r)) (k := o) (by omega) (by omega) (by omega) dL_law_1082 ?_
                      rw [show F (rn + r) o = crS K1 (nI r) (nI o) K1.length from (cvF_at hF (Or.inl (by omega))).trans (cvG_1 (by omega) c1059)]
                      refine lv_icmp_eq (tgt := 1088) hx hb dL_law_1083 (by decide) (fun c1083 => ?_) (fun c1083 => ?_)
                      · refine lv_iinc (v := nI (o + 1)) (lv' := [(14, .int (nI (o + 1))), (13, .int (nI r)), (12, .int 1), (10, .ref sg), (9, .int (paI (plain (turnL K0 ++ K1)) 2)), (8, .int (saI (plain (turnL K0 ++ K1)))), (7, .ref ca), (6, .ref ea), (5, .int x5), (4, .int (nI t9)), (3, .int (nI rn)), (2, .ref y0), (1, .ref x0), (0, .ref b9)]) hx hb dL_law_1088 hl (k := 0) rfl (g_inc _) (by decide) rfl (fun ls hl => ?_)
                        refine lv_goto (tgt := 1049) hx hb dL_law_1091 (by decide) ?_
                        exact ih1049 (o + 1) (by omega) (by omega) _ (lv_sub hl [0, 1, 2, 3, 4, 5, 6, 7, 8, 9, 10, 11, 12, 13] rfl)
                      · exact absurd (fMe hm1 (show r < 6 by omega) (show o < 6 by omega)).2 c1083
              exact lpo1049 ((rn - 0) + 1) 0 (Nat.zero_le _) (Nat.lt_succ_self _) _ (lv_sub hl [0, 1, 2, 3, 4, 5, 6, 7, 8, 9, 10, 11, 12, 13] rfl)
            · exact absurd (fMe hm1 (show r < 6 by omega) (show r < 6 by omega)).1 c1041
      exact lpr1019 ((rn - 0) + 1) 0 (Nat.zero_le _) (Nat.lt_succ_self _) _ (lv_sub hl [0, 1, 2, 3, 4, 5, 6, 7, 8, 9, 10, 11, 12] rfl)
    · refine lv_aload_n hx hb dL_law_987 rfl (lv_at hl 10 rfl) ?_
      refine lv_iload hx hb dL_law_988 (lv_at hl 0 rfl) ?_
      refine lv_iconst (v := 2) hx hb dL_law_990 (by decide) ?_
      refine g_MVPi (As := [.int 1, .int 2]) (rest := []) ⟨hx, hb, hml, hown, hts⟩ (mt_X1_plain1 l dC dI cA H.size x0 r0 r1 r2 r3 rn a1 L1 f1 a2 n2 f2 a3 n3 f3 2 hR1 (by first | omega | (simp only [List.length_append, List.length_cons, List.length_nil, List.length_set, turnL_len]; omega))) (cwV 2 hts gL_law_X1_plain rfl rfl rfl hdX1_plain ⟨Nat.le_of_ble_eq_true rfl, Nat.le_of_ble_eq_true rfl⟩) hP hK1 hD hS hA [0, 3, 4, 5, 6, 7, 8] (by decide) rfl rfl (va_recv hK hP (ci := 1) (q0 := 0) rfl rfl) rfl hl.1 rfl (Nat.le_of_ble_eq_true rfl) dL_law_991 (by show _ ≤ 600130; omega) (by show _ ≤ 7301080; omega) (fun u9 => [(x0, .inr (1, [.ref r0, .ref r1, .ref r2, .ref r3, .int (nI rn)])), (r0, .inr (0, [.ref a0, .int (nI L0.length)])), (a0, .inl (cA, (100, .inl f0))), (r1, .inr (0, [.ref a1, .int (nI L1.length)])), (a1, .inl (cA, (100, .inl f1))), (r2, .inr (0, [.ref a2, .int u9.1])), (a2, .inl (cA, (100, .inl u9.2.1))), (r3, .inr (0, [.ref a3, .int u9.2.2.1])), (a3, .inl (cA, (100, .inl u9.2.2.2))), (y0, .inr (2, [.int (nI rn), .ref q0])), (q0, .inl (cAA, (2, .inr (.inr (.inr (.inr (w2f p0 p1))))))), (p0, .inl (cA, (L0.length, .inl (atL L0)))), (p1, .inl (cA, (L1.length, .inl (atL L1)))), (ea, .inl (cAA, (2, .inr (.inr (.inr (.inr (w2f e0 e1))))))), (e0, .inl (cA, (rn, .inl g0))), (e1, .inl (cA, (rn, .inl g1))), (ca, .inl (cAAA, (2, .inr (.inr (.inr (.inr (w2f c0 c1))))))), (c0, .inl (cAA, (rn, .inr (.inr (.inr (.inr (crF Rr))))))), (c1, .inl (cAA, (rn, .inr (.inr (.inr (.inr (crG Rr rn))))))), (sg, .inl (cA, (2, .inl (upd (upd (fun _ => 0) 0 (paI (plain K0) 2)) 1 (paI (plain K1) 2)))))]) (fun _ => rfl) (fun _ => rfl) (fun u H locs hw_5 hP hD hS => ?_)
      obtain ⟨m2_1, g2_2, m3_3, g3_4⟩ := u
      have hw_5 : True := hw_5
      have hP : va_P (dC, dI) vwCl ([(x0, .inr (1, [.ref r0, .ref r1, .ref r2, .ref r3, .int (nI rn)])), (r0, .inr (0, [.ref a0, .int (nI L0.length)])), (a0, .inl (cA, (100, .inl f0))), (r1, .inr (0, [.ref a1, .int (nI L1.length)])), (a1, .inl (cA, (100, .inl f1))), (r2, .inr (0, [.ref a2, .int m2_1])), (a2, .inl (cA, (100, .inl g2_2))), (r3, .inr (0, [.ref a3, .int m3_3])), (a3, .inl (cA, (100, .inl g3_4))), (y0, .inr (2, [.int (nI rn), .ref q0])), (q0, .inl (cAA, (2, .inr (.inr (.inr (.inr (w2f p0 p1))))))), (p0, .inl (cA, (L0.length, .inl (atL L0)))), (p1, .inl (cA, (L1.length, .inl (atL L1)))), (ea, .inl (cAA, (2, .inr (.inr (.inr (.inr (w2f e0 e1))))))), (e0, .inl (cA, (rn, .inl g0))), (e1, .inl (cA, (rn, .inl g1))), (ca, .inl (cAAA, (2, .inr (.inr (.inr (.inr (w2f c0 c1))))))), (c0, .inl (cAA, (rn, .inr (.inr (.inr (.inr (crF Rr))))))), (c1, .inl (cAA, (rn, .inr (.inr (.inr (.inr (crG Rr rn))))))), (sg, .inl (cA, (2, .inl (upd (upd (fun _ => 0) 0 (paI (plain K0) 2)) 1 (paI (plain K1) 2)))))] ++ plR cA rn (2 * rn) Rr F) H := hP
      have hD : va_D A ([(x0, .inr (1, [.ref r0, .ref r1, .ref r2, .ref r3, .int (nI rn)])), (r0, .inr (0, [.ref a0, .int (nI L0.length)])), (a0, .inl (cA, (100, .inl f0))), (r1, .inr (0, [.ref a1, .int (nI L1.length)])), (a1, .inl (cA, (100, .inl f1))), (r2, .inr (0, [.ref a2, .int m2_1])), (a2, .inl (cA, (100, .inl g2_2))), (r3, .inr (0, [.ref a3, .int m3_3])), (a3, .inl (cA, (100, .inl g3_4))), (y0, .inr (2, [.int (nI rn), .ref q0])), (q0, .inl (cAA, (2, .inr (.inr (.inr (.inr (w2f p0 p1))))))), (p0, .inl (cA, (L0.length, .inl (atL L0)))), (p1, .inl (cA, (L1.length, .inl (atL L1)))), (ea, .inl (cAA, (2, .inr (.inr (.inr (.inr (w2f e0 e1))))))), (e0, .inl (cA, (rn, .inl g0))), (e1, .inl (cA, (rn, .inl g1))), (ca, .inl (cAAA, (2, .inr (.inr (.inr (.inr (w2f c0 c1))))))), (c0, .inl (cAA, (rn, .inr (.inr (.inr (.inr (crF Rr))))))), (c1, .inl (cAA, (rn, .inr (.inr (.inr (.inr (crG Rr rn))))))), (sg, .inl (cA, (2, .inl (upd (upd (fun _ => 0) 0 (paI (plain K0) 2)) 1 (paI (plain K1) 2)))))] ++ plR cA rn (2 * rn) Rr F) := hD
      refine lv_bipush (v := (-9)) hx hb dL_law_994 (by decide) ?_
      refine lv_icmp_eq (tgt := 1016) hx hb dL_law_996 (by decide) (fun c996 => ?_) (fun c996 => ?_)
      · refine lv_iconst (v := 0) hx hb dL_law_1016 (by decide) ?_
        refine lv_istore (lv' := [(13, .int 0), (12, .int 1), (10, .ref sg), (9, .int (paI (plain (turnL K0 ++ K1)) 2)), (8, .int (saI (plain (turnL K0 ++ K1)))), (7, .ref ca), (6, .ref ea), (5, .int x5), (4, .int (nI t9)), (3, .int (nI rn)), (2, .ref y0), (1, .ref x0), (0, .ref b9)]) hx hb dL_law_1017 hl (by decide) rfl (fun ls hl => ?_)
        have lpr1019 : ∀ (d : Nat) (r : Nat) (hr9 : r ≤ rn), rn - r < d → ∀ ls : Array Slot, lv_has ls 17 [(13, .int (nI r)), (12, .int 1), (10, .ref sg), (9, .int (paI (plain (turnL K0 ++ K1)) 2)), (8, .int (saI (plain (turnL K0 ++ K1)))), (7, .ref ca), (6, .ref ea), (5, .int x5), (4, .int (nI t9)), (3, .int (nI rn)), (2, .ref y0), (1, .ref x0), (0, .ref b9)] → W p l e room_1 s m ([.ref b9] : List Value).toArray below meth c H locs cells slots Q (F0 m 1019 ls []) := by
          intro d
          induction d with
          | zero => intro r hr9 hd; exact absurd hd (Nat.not_lt_zero _)
          | succ d ih1019 =>
            intro r hr9 hd ls hl
            refine lv_iload hx hb dL_law_1019 (lv_at hl 0 rfl) ?_
            refine lv_iload_n hx hb dL_law_1021 rfl (lv_at hl 9 rfl) ?_
            refine lv_icmp_ge (tgt := 1100) hx hb dL_law_1022 (by decide) (fun c1022 => ?_) (fun c1022 => ?_)
            · have c1022 : rn ≤ r := g_geT r rn (by omega) (by omega) c1022
              refine lv_iinc (v := 2) (lv' := [(12, .int 2), (13, .int (nI r)), (10, .ref sg), (9, .int (paI (plain (turnL K0 ++ K1)) 2)), (8, .int (saI (plain (turnL K0 ++ K1)))), (7, .ref ca), (6, .ref ea), (5, .int x5), (4, .int (nI t9)), (3, .int (nI rn)), (2, .ref y0), (1, .ref x0), (0, .ref b9)]) hx hb dL_law_1100 hl (k := 1) rfl (by decide) (by decide) rfl (fun ls hl => ?_)
              refine lv_goto (tgt := 971) hx hb dL_law_1103 (by decide) ?_
              exact K m2_1 g2_2 m3_3 g3_4 _ _ _ hP hD hS (lv_sub hl [0, 2, 3, 4, 5, 6, 7, 8, 9, 10, 11, 12] rfl)
            · have c1022 : r < rn := g_geF r rn (by omega) (by omega) c1022
              refine lv_aload_n hx hb dL_law_1025 rfl (lv_at hl 11 rfl) ?_
              refine lv_iload hx hb dL_law_1026 (lv_at hl 1 rfl) ?_
              refine lv_iload hx hb dL_law_1028 (lv_at hl 0 rfl) ?_
              refine g_RVi (As := [.int 1, .int (nI r)]) (rest := []) ⟨hx, hb, hml, hown, hts⟩ (mt_X1_end1 l dC dI cA H.size x0 r0 r1 r2 r3 rn a1 L1 f1 (nI r) hR1 (nI_pos (by omega)) (nI_lt (by omega) (by omega))) (cwV 2 hts gL_law_X1_end rfl rfl rfl hdX1_end ⟨Nat.le_of_ble_eq_true rfl, Nat.le_of_ble_eq_true rfl⟩) hP hK1 hD [0, 3, 4] (by decide) rfl (va_recv hK hP (ci := 1) (q0 := 0) rfl rfl) rfl hl.1 rfl (Nat.le_of_ble_eq_true rfl) dL_law_1030 (by show _ ≤ 600130; omega) (by show _ ≤ 7301080; omega) ?_
              refine lv_aload hx hb dL_law_1033 (lv_at hl 6 rfl) ?_
              refine lv_iload hx hb dL_law_1035 (lv_at hl 1 rfl) ?_
              refine va_ald2 hx hb hK hP 13 1 rfl rfl (vp_in_nI (n := 1) (by omega) (by decide)) dL_law_1037 ?_
              rw [show va_rf ((w2f e0 e1) (1 : Int32).toNatClampNeg) = .ref e1 from (by rw [show (1 : Int32).toNatClampNeg = 1 from by decide]; rfl)]
              refine lv_iload hx hb dL_law_1038 (lv_at hl 0 rfl) ?_
              refine va_iald hx hb hK hP 15 0 rfl rfl (vp_in_nI (by omega) (by omega)) dL_law_1040 ?_
              rw [show (nI r).toNatClampNeg = r from nI_clamp (by omega)]
              rw [show g1 r = plE K1 (nI r) K1.length from hg1 r (by omega)]
              refine lv_icmp_eq (tgt := 1046) hx hb dL_law_1041 (by decide) (fun c1041 => ?_) (fun c1041 => ?_)
              · refine lv_iconst (v := 0) hx hb dL_law_1046 (by decide) ?_
                refine lv_istore (lv' := [(14, .int 0), (13, .int (nI r)), (12, .int 1), (10, .ref sg), (9, .int (paI (plain (turnL K0 ++ K1)) 2)), (8, .int (saI (plain (turnL K0 ++ K1)))), (7, .ref ca), (6, .ref ea), (5, .int x5), (4, .int (nI t9)), (3, .int (nI rn)), (2, .ref y0), (1, .ref x0), (0, .ref b9)]) hx hb dL_law_1047 hl (by decide) rfl (fun ls hl => ?_)
                have lpo1049 : ∀ (d : Nat) (o : Nat) (ho9 : o ≤ rn), rn - o < d → ∀ ls : Array Slot, lv_has ls 17 [(14, .int (nI o)), (13, .int (nI r)), (12, .int 1), (10, .ref sg), (9, .int (paI (plain (turnL K0 ++ K1)) 2)), (8, .int (saI (plain (turnL K0 ++ K1)))), (7, .ref ca), (6, .ref ea), (5, .int x5), (4, .int (nI t9)), (3, .int (nI rn)), (2, .ref y0), (1, .ref x0), (0, .ref b9)] → W p l e room_1 s m ([.ref b9] : List Value).toArray below meth c H locs cells slots Q (F0 m 1049 ls []) := by
                  intro d
                  induction d with
                  | zero => intro o ho9 hd; exact absurd hd (Nat.not_lt_zero _)
                  | succ d ih1049 =>
                    intro o ho9 hd ls hl
                    refine lv_iload hx hb dL_law_1049 (lv_at hl 0 rfl) ?_
                    refine lv_iload_n hx hb dL_law_1051 rfl (lv_at hl 10 rfl) ?_
                    refine lv_icmp_ge (tgt := 1094) hx hb dL_law_1052 (by decide) (fun c1052 => ?_) (fun c1052 => ?_)
                    · have c1052 : rn ≤ o := g_geT o rn (by omega) (by omega) c1052
                      refine lv_iinc (v := nI (r + 1)) (lv' := [(13, .int (nI (r + 1))), (14, .int (nI o)), (12, .int 1), (10, .ref sg), (9, .int (paI (plain (turnL K0 ++ K1)) 2)), (8, .int (saI (plain (turnL K0 ++ K1)))), (7, .ref ca), (6, .ref ea), (5, .int x5), (4, .int (nI t9)), (3, .int (nI rn)), (2, .ref y0), (1, .ref x0), (0, .ref b9)]) hx hb dL_law_1094 hl (k := 1) rfl (g_inc _) (by decide) rfl (fun ls hl => ?_)
                      refine lv_goto (tgt := 1019) hx hb dL_law_1097 (by decide) ?_
                      exact ih1019 (r + 1) (by omega) (by omega) _ (lv_sub hl [0, 2, 3, 4, 5, 6, 7, 8, 9, 10, 11, 12, 13] rfl)
                    · have c1052 : o < rn := g_geF o rn (by omega) (by omega) c1052
                      refine lv_iload hx hb dL_law_1055 (lv_at hl 0 rfl) ?_
                      refine lv_iload hx hb dL_law_1057 (lv_at hl 1 rfl) ?_
                      refine lv_icmp_eq (tgt := 1088) hx hb dL_law_1059 (by decide) (fun c1059 => ?_) (fun c1059 => ?_)
                      · have c1059 : o = r := g_eqT o r (by omega) (by omega) c1059
                        refine lv_iinc (v := nI (o + 1)) (lv' := [(14, .int (nI (o + 1))), (13, .int (nI r)), (12, .int 1), (10, .ref sg), (9, .int (paI (plain (turnL K0 ++ K1)) 2)), (8, .int (saI (plain (turnL K0 ++ K1)))), (7, .ref ca), (6, .ref ea), (5, .int x5), (4, .int (nI t9)), (3, .int (nI rn)), (2, .ref y0), (1, .ref x0), (0, .ref b9)]) hx hb dL_law_1088 hl (k := 0) rfl (g_inc _) (by decide) rfl (fun ls hl => ?_)
                        refine lv_goto (tgt := 1049) hx hb dL_law_1091 (by decide) ?_
                        exact ih1049 (o + 1) (by omega) (by omega) _ (lv_sub hl [0, 1, 2, 3, 4, 5, 6, 7, 8, 9, 10, 11, 12, 13] rfl)
                      · have c1059 : ¬ o = r := g_eqF o r (by omega) (by omega) c1059
                        refine lv_aload_n hx hb dL_law_1062 rfl (lv_at hl 12 rfl) ?_
                        refine lv_iload hx hb dL_law_1063 (lv_at hl 2 rfl) ?_
                        refine lv_iload hx hb dL_law_1065 (lv_at hl 1 rfl) ?_
                        refine lv_iload hx hb dL_law_1067 (lv_at hl 0 rfl) ?_
                        refine g_RVi (As := [.int 1, .int (nI r), .int (nI o)]) (rest := []) ⟨hx, hb, hml, hown, hts⟩ (mt_X1_crosses1 l dC dI cA H.size x0 r0 r1 r2 r3 rn a1 L1 f1 (nI r) (nI o) hR1 (nI_pos (by omega)) (nI_lt (by omega) (by omega)) (nI_pos (by omega)) (nI_lt (by omega) (by omega)) (nI_ne (by omega) (by omega) (fun q9 => c1059 q9.symm))) (cwV 3 hts gL_law_X1_crosses rfl rfl rfl hdX1_crosses ⟨Nat.le_of_ble_eq_true rfl, Nat.le_of_ble_eq_true rfl⟩) hP hK1 hD [0, 3, 4] (by decide) rfl (va_recv hK hP (ci := 1) (q0 := 0) rfl rfl) rfl hl.1 rfl (Nat.le_of_ble_eq_true rfl) dL_law_1069 (by show _ ≤ 600130; omega) (by show _ ≤ 7301080; omega) ?_
                        refine lv_aload hx hb dL_law_1072 (lv_at hl 6 rfl) ?_
                        refine lv_iload hx hb dL_law_1074 (lv_at hl 2 rfl) ?_
                        refine va_ald2 hx hb hK hP 16 2 rfl rfl (vp_in_nI (n := 1) (by omega) (by decide)) dL_law_1076 ?_
                        rw [show va_rf ((w2f c0 c1) (1 : Int32).toNatClampNeg) = .ref c1 from (by rw [show (1 : Int32).toNatClampNeg = 1 from by decide]; rfl)]
                        refine lv_iload hx hb dL_law_1077 (lv_at hl 1 rfl) ?_
                        refine va_ald2 hx hb hK hP 18 1 rfl rfl (vp_in_nI (by omega) (by omega)) dL_law_1079 ?_
                        rw [show va_rf ((crG Rr rn) (nI r).toNatClampNeg) = .ref (Rr (rn + r)) from (by rw [nI_clamp (by omega)]; rfl)]
                        refine lv_iload hx hb dL_law_1080 (lv_at hl 0 rfl) ?_
                        refine va_pld hx hb hK hP 0 rfl (i := (rn + r)) (k := o) (by omega) (by omega) (by omega) dL_law_1082 ?_
                        rw [show F (rn + r) o = crS K1 (nI r) (nI o) K1.length from (cvF_at hF (Or.inl (by omega))).trans (cvG_1 (by omega) c1059)]
                        refine lv_icmp_eq (tgt := 1088) hx hb dL_law_1083 (by decide) (fun c1083 => ?_) (fun c1083 => ?_)
                        · refine lv_iinc (v := nI (o + 1)) (lv' := [(14, .int (nI (o + 1))), (13, .int (nI r)), (12, .int 1), (10, .ref sg), (9, .int (paI (plain (turnL K0 ++ K1)) 2)), (8, .int (saI (plain (turnL K0 ++ K1)))), (7, .ref ca), (6, .ref ea), (5, .int x5), (4, .int (nI t9)), (3, .int (nI rn)), (2, .ref y0), (1, .ref x0), (0, .ref b9)]) hx hb dL_law_1088 hl (k := 0) rfl (g_inc _) (by decide) rfl (fun ls hl => ?_)
                          refine lv_goto (tgt := 1049) hx hb dL_law_1091 (by decide) ?_
                          exact ih1049 (o + 1) (by omega) (by omega) _ (lv_sub hl [0, 1, 2, 3, 4, 5, 6, 7, 8, 9, 10, 11, 12, 13] rfl)
                        · exact absurd (fMe hm1 (show r < 6 by omega) (show o < 6 by omega)).2 c1083
                exact lpo1049 ((rn - 0) + 1) 0 (Nat.zero_le _) (Nat.lt_succ_self _) _ (lv_sub hl [0, 1, 2, 3, 4, 5, 6, 7, 8, 9, 10, 11, 12, 13] rfl)
              · exact absurd (fMe hm1 (show r < 6 by omega) (show r < 6 by omega)).1 c1041
        exact lpr1019 ((rn - 0) + 1) 0 (Nat.zero_le _) (Nat.lt_succ_self _) _ (lv_sub hl [0, 1, 2, 3, 4, 5, 6, 7, 8, 9, 10, 11, 12] rfl)
      · refine lv_aload_n hx hb dL_law_999 rfl (lv_at hl 10 rfl) ?_
        refine lv_iload hx hb dL_law_1000 (lv_at hl 0 rfl) ?_
        refine lv_iconst (v := 2) hx hb dL_law_1002 (by decide) ?_
        refine g_MVPi (As := [.int 1, .int 2]) (rest := []) ⟨hx, hb, hml, hown, hts⟩ (mt_X1_plain1 l dC dI cA H.size x0 r0 r1 r2 r3 rn a1 L1 f1 a2 m2_1 g2_2 a3 m3_3 g3_4 2 hR1 (by first | omega | (simp only [List.length_append, List.length_cons, List.length_nil, List.length_set, turnL_len]; omega))) (cwV 2 hts gL_law_X1_plain rfl rfl rfl hdX1_plain ⟨Nat.le_of_ble_eq_true rfl, Nat.le_of_ble_eq_true rfl⟩) hP hK1 hD hS hA [0, 3, 4, 5, 6, 7, 8] (by decide) rfl rfl (va_recv hK hP (ci := 1) (q0 := 0) rfl rfl) rfl hl.1 rfl (Nat.le_of_ble_eq_true rfl) dL_law_1003 (by show _ ≤ 600130; omega) (by show _ ≤ 7301080; omega) (fun u9 => [(x0, .inr (1, [.ref r0, .ref r1, .ref r2, .ref r3, .int (nI rn)])), (r0, .inr (0, [.ref a0, .int (nI L0.length)])), (a0, .inl (cA, (100, .inl f0))), (r1, .inr (0, [.ref a1, .int (nI L1.length)])), (a1, .inl (cA, (100, .inl f1))), (r2, .inr (0, [.ref a2, .int u9.1])), (a2, .inl (cA, (100, .inl u9.2.1))), (r3, .inr (0, [.ref a3, .int u9.2.2.1])), (a3, .inl (cA, (100, .inl u9.2.2.2))), (y0, .inr (2, [.int (nI rn), .ref q0])), (q0, .inl (cAA, (2, .inr (.inr (.inr (.inr (w2f p0 p1))))))), (p0, .inl (cA, (L0.length, .inl (atL L0)))), (p1, .inl (cA, (L1.length, .inl (atL L1)))), (ea, .inl (cAA, (2, .inr (.inr (.inr (.inr (w2f e0 e1))))))), (e0, .inl (cA, (rn, .inl g0))), (e1, .inl (cA, (rn, .inl g1))), (ca, .inl (cAAA, (2, .inr (.inr (.inr (.inr (w2f c0 c1))))))), (c0, .inl (cAA, (rn, .inr (.inr (.inr (.inr (crF Rr))))))), (c1, .inl (cAA, (rn, .inr (.inr (.inr (.inr (crG Rr rn))))))), (sg, .inl (cA, (2, .inl (upd (upd (fun _ => 0) 0 (paI (plain K0) 2)) 1 (paI (plain K1) 2)))))]) (fun _ => rfl) (fun _ => rfl) (fun u H locs hw_10 hP hD hS => ?_)
        obtain ⟨m2_6, g2_7, m3_8, g3_9⟩ := u
        have hw_10 : True := hw_10
        have hP : va_P (dC, dI) vwCl ([(x0, .inr (1, [.ref r0, .ref r1, .ref r2, .ref r3, .int (nI rn)])), (r0, .inr (0, [.ref a0, .int (nI L0.length)])), (a0, .inl (cA, (100, .inl f0))), (r1, .inr (0, [.ref a1, .int (nI L1.length)])), (a1, .inl (cA, (100, .inl f1))), (r2, .inr (0, [.ref a2, .int m2_6])), (a2, .inl (cA, (100, .inl g2_7))), (r3, .inr (0, [.ref a3, .int m3_8])), (a3, .inl (cA, (100, .inl g3_9))), (y0, .inr (2, [.int (nI rn), .ref q0])), (q0, .inl (cAA, (2, .inr (.inr (.inr (.inr (w2f p0 p1))))))), (p0, .inl (cA, (L0.length, .inl (atL L0)))), (p1, .inl (cA, (L1.length, .inl (atL L1)))), (ea, .inl (cAA, (2, .inr (.inr (.inr (.inr (w2f e0 e1))))))), (e0, .inl (cA, (rn, .inl g0))), (e1, .inl (cA, (rn, .inl g1))), (ca, .inl (cAAA, (2, .inr (.inr (.inr (.inr (w2f c0 c1))))))), (c0, .inl (cAA, (rn, .inr (.inr (.inr (.inr (crF Rr))))))), (c1, .inl (cAA, (rn, .inr (.inr (.inr (.inr (crG Rr rn))))))), (sg, .inl (cA, (2, .inl (upd (upd (fun _ => 0) 0 (paI (plain K0) 2)) 1 (paI (plain K1) 2)))))] ++ plR cA rn (2 * rn) Rr F) H := hP
        have hD : va_D A ([(x0, .inr (1, [.ref r0, .ref r1, .ref r2, .ref r3, .int (nI rn)])), (r0, .inr (0, [.ref a0, .int (nI L0.length)])), (a0, .inl (cA, (100, .inl f0))), (r1, .inr (0, [.ref a1, .int (nI L1.length)])), (a1, .inl (cA, (100, .inl f1))), (r2, .inr (0, [.ref a2, .int m2_6])), (a2, .inl (cA, (100, .inl g2_7))), (r3, .inr (0, [.ref a3, .int m3_8])), (a3, .inl (cA, (100, .inl g3_9))), (y0, .inr (2, [.int (nI rn), .ref q0])), (q0, .inl (cAA, (2, .inr (.inr (.inr (.inr (w2f p0 p1))))))), (p0, .inl (cA, (L0.length, .inl (atL L0)))), (p1, .inl (cA, (L1.length, .inl (atL L1)))), (ea, .inl (cAA, (2, .inr (.inr (.inr (.inr (w2f e0 e1))))))), (e0, .inl (cA, (rn, .inl g0))), (e1, .inl (cA, (rn, .inl g1))), (ca, .inl (cAAA, (2, .inr (.inr (.inr (.inr (w2f c0 c1))))))), (c0, .inl (cAA, (rn, .inr (.inr (.inr (.inr (crF Rr))))))), (c1, .inl (cAA, (rn, .inr (.inr (.inr (.inr (crG Rr rn))))))), (sg, .inl (cA, (2, .inl (upd (upd (fun _ => 0) 0 (paI (plain K0) 2)) 1 (paI (plain K1) 2)))))] ++ plR cA rn (2 * rn) Rr F) := hD
        refine lv_aload hx hb dL_law_1006 (lv_at hl 1 rfl) ?_
        refine lv_iload hx hb dL_law_1008 (lv_at hl 0 rfl) ?_
        refine va_iald hx hb hK hP 19 0 rfl rfl (vp_in_nI (n := 1) (by omega) (by decide)) dL_law_1010 ?_
        rw [show (1 : Int32).toNatClampNeg = 1 from by decide]
        rw [show (upd (upd (fun _ => 0) 0 (paI (plain K0) 2)) 1 (paI (plain K1) 2)) 1 = paI (plain K1) 2 from pk_us]
        refine lv_icmp_eq (tgt := 1016) hx hb dL_law_1011 (by decide) (fun c1011 => ?_) (fun c1011 => ?_)
        · refine lv_iconst (v := 0) hx hb dL_law_1016 (by decide) ?_
          refine lv_istore (lv' := [(13, .int 0), (12, .int 1), (10, .ref sg), (9, .int (paI (plain (turnL K0 ++ K1)) 2)), (8, .int (saI (plain (turnL K0 ++ K1)))), (7, .ref ca), (6, .ref ea), (5, .int x5), (4, .int (nI t9)), (3, .int (nI rn)), (2, .ref y0), (1, .ref x0), (0, .ref b9)]) hx hb dL_law_1017 hl (by decide) rfl (fun ls hl => ?_)
          have lpr1019 : ∀ (d : Nat) (r : Nat) (hr9 : r ≤ rn), rn - r < d → ∀ ls : Array Slot, lv_has ls 17 [(13, .int (nI r)), (12, .int 1), (10, .ref sg), (9, .int (paI (plain (turnL K0 ++ K1)) 2)), (8, .int (saI (plain (turnL K0 ++ K1)))), (7, .ref ca), (6, .ref ea), (5, .int x5), (4, .int (nI t9)), (3, .int (nI rn)), (2, .ref y0), (1, .ref x0), (0, .ref b9)] → W p l e room_1 s m ([.ref b9] : List Value).toArray below meth c H locs cells slots Q (F0 m 1019 ls []) := by
            intro d
            induction d with
            | zero => intro r hr9 hd; exact absurd hd (Nat.not_lt_zero _)
            | succ d ih1019 =>
              intro r hr9 hd ls hl
              refine lv_iload hx hb dL_law_1019 (lv_at hl 0 rfl) ?_
              refine lv_iload_n hx hb dL_law_1021 rfl (lv_at hl 9 rfl) ?_
              refine lv_icmp_ge (tgt := 1100) hx hb dL_law_1022 (by decide) (fun c1022 => ?_) (fun c1022 => ?_)
              · have c1022 : rn ≤ r := g_geT r rn (by omega) (by omega) c1022
                refine lv_iinc (v := 2) (lv' := [(12, .int 2), (13, .int (nI r)), (10, .ref sg), (9, .int (paI (plain (turnL K0 ++ K1)) 2)), (8, .int (saI (plain (turnL K0 ++ K1)))), (7, .ref ca), (6, .ref ea), (5, .int x5), (4, .int (nI t9)), (3, .int (nI rn)), (2, .ref y0), (1, .ref x0), (0, .ref b9)]) hx hb dL_law_1100 hl (k := 1) rfl (by decide) (by decide) rfl (fun ls hl => ?_)
                refine lv_goto (tgt := 971) hx hb dL_law_1103 (by decide) ?_
                exact K m2_6 g2_7 m3_8 g3_9 _ _ _ hP hD hS (lv_sub hl [0, 2, 3, 4, 5, 6, 7, 8, 9, 10, 11, 12] rfl)
              · have c1022 : r < rn := g_geF r rn (by omega) (by omega) c1022
                refine lv_aload_n hx hb dL_law_1025 rfl (lv_at hl 11 rfl) ?_
                refine lv_iload hx hb dL_law_1026 (lv_at hl 1 rfl) ?_
                refine lv_iload hx hb dL_law_1028 (lv_at hl 0 rfl) ?_
                refine g_RVi (As := [.int 1, .int (nI r)]) (rest := []) ⟨hx, hb, hml, hown, hts⟩ (mt_X1_end1 l dC dI cA H.size x0 r0 r1 r2 r3 rn a1 L1 f1 (nI r) hR1 (nI_pos (by omega)) (nI_lt (by omega) (by omega))) (cwV 2 hts gL_law_X1_end rfl rfl rfl hdX1_end ⟨Nat.le_of_ble_eq_true rfl, Nat.le_of_ble_eq_true rfl⟩) hP hK1 hD [0, 3, 4] (by decide) rfl (va_recv hK hP (ci := 1) (q0 := 0) rfl rfl) rfl hl.1 rfl (Nat.le_of_ble_eq_true rfl) dL_law_1030 (by show _ ≤ 600130; omega) (by show _ ≤ 7301080; omega) ?_
                refine lv_aload hx hb dL_law_1033 (lv_at hl 6 rfl) ?_
                refine lv_iload hx hb dL_law_1035 (lv_at hl 1 rfl) ?_
                refine va_ald2 hx hb hK hP 13 1 rfl rfl (vp_in_nI (n := 1) (by omega) (by decide)) dL_law_1037 ?_
                rw [show va_rf ((w2f e0 e1) (1 : Int32).toNatClampNeg) = .ref e1 from (by rw [show (1 : Int32).toNatClampNeg = 1 from by decide]; rfl)]
                refine lv_iload hx hb dL_law_1038 (lv_at hl 0 rfl) ?_
                refine va_iald hx hb hK hP 15 0 rfl rfl (vp_in_nI (by omega) (by omega)) dL_law_1040 ?_
                rw [show (nI r).toNatClampNeg = r from nI_clamp (by omega)]
                rw [show g1 r = plE K1 (nI r) K1.length from hg1 r (by omega)]
                refine lv_icmp_eq (tgt := 1046) hx hb dL_law_1041 (by decide) (fun c1041 => ?_) (fun c1041 => ?_)
                · refine lv_iconst (v := 0) hx hb dL_law_1046 (by decide) ?_
                  refine lv_istore (lv' := [(14, .int 0), (13, .int (nI r)), (12, .int 1), (10, .ref sg), (9, .int (paI (plain (turnL K0 ++ K1)) 2)), (8, .int (saI (plain (turnL K0 ++ K1)))), (7, .ref ca), (6, .ref ea), (5, .int x5), (4, .int (nI t9)), (3, .int (nI rn)), (2, .ref y0), (1, .ref x0), (0, .ref b9)]) hx hb dL_law_1047 hl (by decide) rfl (fun ls hl => ?_)
                  have lpo1049 : ∀ (d : Nat) (o : Nat) (ho9 : o ≤ rn), rn - o < d → ∀ ls : Array Slot, lv_has ls 17 [(14, .int (nI o)), (13, .int (nI r)), (12, .int 1), (10, .ref sg), (9, .int (paI (plain (turnL K0 ++ K1)) 2)), (8, .int (saI (plain (turnL K0 ++ K1)))), (7, .ref ca), (6, .ref ea), (5, .int x5), (4, .int (nI t9)), (3, .int (nI rn)), (2, .ref y0), (1, .ref x0), (0, .ref b9)] → W p l e room_1 s m ([.ref b9] : List Value).toArray below meth c H locs cells slots Q (F0 m 1049 ls []) := by
                    intro d
                    induction d with
                    | zero => intro o ho9 hd; exact absurd hd (Nat.not_lt_zero _)
                    | succ d ih1049 =>
                      intro o ho9 hd ls hl
                      refine lv_iload hx hb dL_law_1049 (lv_at hl 0 rfl) ?_
                      refine lv_iload_n hx hb dL_law_1051 rfl (lv_at hl 10 rfl) ?_
                      refine lv_icmp_ge (tgt := 1094) hx hb dL_law_1052 (by decide) (fun c1052 => ?_) (fun c1052 => ?_)
                      · have c1052 : rn ≤ o := g_geT o rn (by omega) (by omega) c1052
                        refine lv_iinc (v := nI (r + 1)) (lv' := [(13, .int (nI (r + 1))), (14, .int (nI o)), (12, .int 1), (10, .ref sg), (9, .int (paI (plain (turnL K0 ++ K1)) 2)), (8, .int (saI (plain (turnL K0 ++ K1)))), (7, .ref ca), (6, .ref ea), (5, .int x5), (4, .int (nI t9)), (3, .int (nI rn)), (2, .ref y0), (1, .ref x0), (0, .ref b9)]) hx hb dL_law_1094 hl (k := 1) rfl (g_inc _) (by decide) rfl (fun ls hl => ?_)
                        refine lv_goto (tgt := 1019) hx hb dL_law_1097 (by decide) ?_
                        exact ih1019 (r + 1) (by omega) (by omega) _ (lv_sub hl [0, 2, 3, 4, 5, 6, 7, 8, 9, 10, 11, 12, 13] rfl)
                      · have c1052 : o < rn := g_geF o rn (by omega) (by omega) c1052
                        refine lv_iload hx hb dL_law_1055 (lv_at hl 0 rfl) ?_
                        refine lv_iload hx hb dL_law_1057 (lv_at hl 1 rfl) ?_
                        refine lv_icmp_eq (tgt := 1088) hx hb dL_law_1059 (by decide) (fun c1059 => ?_) (fun c1059 => ?_)
                        · have c1059 : o = r := g_eqT o r (by omega) (by omega) c1059
                          refine lv_iinc (v := nI (o + 1)) (lv' := [(14, .int (nI (o + 1))), (13, .int (nI r)), (12, .int 1), (10, .ref sg), (9, .int (paI (plain (turnL K0 ++ K1)) 2)), (8, .int (saI (plain (turnL K0 ++ K1)))), (7, .ref ca), (6, .ref ea), (5, .int x5), (4, .int (nI t9)), (3, .int (nI rn)), (2, .ref y0), (1, .ref x0), (0, .ref b9)]) hx hb dL_law_1088 hl (k := 0) rfl (g_inc _) (by decide) rfl (fun ls hl => ?_)
                          refine lv_goto (tgt := 1049) hx hb dL_law_1091 (by decide) ?_
                          exact ih1049 (o + 1) (by omega) (by omega) _ (lv_sub hl [0, 1, 2, 3, 4, 5, 6, 7, 8, 9, 10, 11, 12, 13] rfl)
                        · have c1059 : ¬ o = r := g_eqF o r (by omega) (by omega) c1059
                          refine lv_aload_n hx hb dL_law_1062 rfl (lv_at hl 12 rfl) ?_
                          refine lv_iload hx hb dL_law_1063 (lv_at hl 2 rfl) ?_
                          refine lv_iload hx hb dL_law_1065 (lv_at hl 1 rfl) ?_
                          refine lv_iload hx hb dL_law_1067 (lv_at hl 0 rfl) ?_
                          refine g_RVi (As := [.int 1, .int (nI r), .int (nI o)]) (rest := []) ⟨hx, hb, hml, hown, hts⟩ (mt_X1_crosses1 l dC dI cA H.size x0 r0 r1 r2 r3 rn a1 L1 f1 (nI r) (nI o) hR1 (nI_pos (by omega)) (nI_lt (by omega) (by omega)) (nI_pos (by omega)) (nI_lt (by omega) (by omega)) (nI_ne (by omega) (by omega) (fun q9 => c1059 q9.symm))) (cwV 3 hts gL_law_X1_crosses rfl rfl rfl hdX1_crosses ⟨Nat.le_of_ble_eq_true rfl, Nat.le_of_ble_eq_true rfl⟩) hP hK1 hD [0, 3, 4] (by decide) rfl (va_recv hK hP (ci := 1) (q0 := 0) rfl rfl) rfl hl.1 rfl (Nat.le_of_ble_eq_true rfl) dL_law_1069 (by show _ ≤ 600130; omega) (by show _ ≤ 7301080; omega) ?_
                          refine lv_aload hx hb dL_law_1072 (lv_at hl 6 rfl) ?_
                          refine lv_iload hx hb dL_law_1074 (lv_at hl 2 rfl) ?_
                          refine va_ald2 hx hb hK hP 16 2 rfl rfl (vp_in_nI (n := 1) (by omega) (by decide)) dL_law_1076 ?_
                          rw [show va_rf ((w2f c0 c1) (1 : Int32).toNatClampNeg) = .ref c1 from (by rw [show (1 : Int32).toNatClampNeg = 1 from by decide]; rfl)]
                          refine lv_iload hx hb dL_law_1077 (lv_at hl 1 rfl) ?_
                          refine va_ald2 hx hb hK hP 18 1 rfl rfl (vp_in_nI (by omega) (by omega)) dL_law_1079 ?_
                          rw [show va_rf ((crG Rr rn) (nI r).toNatClampNeg) = .ref (Rr (rn + r)) from (by rw [nI_clamp (by omega)]; rfl)]
                          refine lv_iload hx hb dL_law_1080 (lv_at hl 0 rfl) ?_
                          refine va_pld hx hb hK hP 0 rfl (i := (rn + r)) (k := o) (by omega) (by omega) (by omega) dL_law_1082 ?_
                          rw [show F (rn + r) o = crS K1 (nI r) (nI o) K1.length from (cvF_at hF (Or.inl (by omega))).trans (cvG_1 (by omega) c1059)]
                          refine lv_icmp_eq (tgt := 1088) hx hb dL_law_1083 (by decide) (fun c1083 => ?_) (fun c1083 => ?_)
                          · refine lv_iinc (v := nI (o + 1)) (lv' := [(14, .int (nI (o + 1))), (13, .int (nI r)), (12, .int 1), (10, .ref sg), (9, .int (paI (plain (turnL K0 ++ K1)) 2)), (8, .int (saI (plain (turnL K0 ++ K1)))), (7, .ref ca), (6, .ref ea), (5, .int x5), (4, .int (nI t9)), (3, .int (nI rn)), (2, .ref y0), (1, .ref x0), (0, .ref b9)]) hx hb dL_law_1088 hl (k := 0) rfl (g_inc _) (by decide) rfl (fun ls hl => ?_)
                            refine lv_goto (tgt := 1049) hx hb dL_law_1091 (by decide) ?_
                            exact ih1049 (o + 1) (by omega) (by omega) _ (lv_sub hl [0, 1, 2, 3, 4, 5, 6, 7, 8, 9, 10, 11, 12, 13] rfl)
                          · exact absurd (fMe hm1 (show r < 6 by omega) (show o < 6 by omega)).2 c1083
                  exact lpo1049 ((rn - 0) + 1) 0 (Nat.zero_le _) (Nat.lt_succ_self _) _ (lv_sub hl [0, 1, 2, 3, 4, 5, 6, 7, 8, 9, 10, 11, 12, 13] rfl)
                · exact absurd (fMe hm1 (show r < 6 by omega) (show r < 6 by omega)).1 c1041
          exact lpr1019 ((rn - 0) + 1) 0 (Nat.zero_le _) (Nat.lt_succ_self _) _ (lv_sub hl [0, 1, 2, 3, 4, 5, 6, 7, 8, 9, 10, 11, 12] rfl)
        · exact absurd (fM (okW_of hJ1) hW1 hm1 c984 c996) c1011

set_option maxHeartbeats 4000000 in
set_option maxRecDepth 100000 in
/-- behind a move: both words -/
theorem lw_d3 {p : Program} {l : Launch} {e : Env} {s : State} {m : MethodId} {below : List Frame} {meth : Method} {c : Code} {Q : State → Prop} {dC : Nat → ClassId} {dI : Nat → Nat → Nat} {cA cAA cAAA : ClassId} {A : Nat → Prop} {b9 LL : Nat} {xs : Nat → Int32} (E : lwC p l s m c b9 LL xs dC dI cA cAA cAAA A) (x0 : Nat) (r0 : Nat) (r1 : Nat) (r2 : Nat) (r3 : Nat) (a0 : Nat) (a1 : Nat) (a2 : Nat) (a3 : Nat) (y0 : Nat) (q0 : Nat) (p0 : Nat) (p1 : Nat) (rn : Nat) (L0 : List Int32) (f0 : Nat → Int32) (L1 : List Int32) (f1 : Nat → Int32) (n2 : Int32) (f2 : Nat → Int32) (n3 : Int32) (f3 : Nat → Int32) (t9 : Nat) (x5 : Int32) (ea : Nat) (e0 : Nat) (e1 : Nat) (ca : Nat) (c0 : Nat) (c1 : Nat) (Rr : Nat → Nat) (g0 : Nat → Int32) (g1 : Nat → Int32) (F : Nat → Nat → Int32) (K0 : List Int32) (K1 : List Int32) (sg : Nat) (hR0 : RI L0 f0) (hR1 : RI L1 f1) (hk0 : okL rn L0) (hk1 : okL rn L1) (hl0 : L0.length ≤ 30) (hl1 : L1.length ≤ 30) (hrn : rn ∈ rnS) (hr6 : rn ≤ 6) (hr3 : 3 ≤ rn) (hJ0 : okL rn K0) (hJ1 : okL rn K1) (hm0 : mvR K0 L0) (hm1 : mvR K1 L1) (hg0 : ∀ j, j < rn → g0 j = plE K0 (nI j) K0.length) (hg1 : ∀ j, j < rn → g1 j = plE K1 (nI j) K1.length) (hF : cvF (cvG rn K0 K1) F (rn + rn) 0) {H : Heap} {locs : List Loc} {cells slots : Nat} (hcz : cells ≤ 600130) (hsz : slots ≤ 7301080) (hP : va_P (dC, dI) vwCl ([(x0, .inr (1, [.ref r0, .ref r1, .ref r2, .ref r3, .int (nI rn)])), (r0, .inr (0, [.ref a0, .int (nI L0.length)])), (a0, .inl (cA, (100, .inl f0))), (r1, .inr (0, [.ref a1, .int (nI L1.length)])), (a1, .inl (cA, (100, .inl f1))), (r2, .inr (0, [.ref a2, .int n2])), (a2, .inl (cA, (100, .inl f2))), (r3, .inr (0, [.ref a3, .int n3])), (a3, .inl (cA, (100, .inl f3))), (y0, .inr (2, [.int (nI rn), .ref q0])), (q0, .inl (cAA, (2, .inr (.inr (.inr (.inr (w2f p0 p1))))))), (p0, .inl (cA, (L0.length, .inl (atL L0)))), (p1, .inl (cA, (L1.length, .inl (atL L1)))), (ea, .inl (cAA, (2, .inr (.inr (.inr (.inr (w2f e0 e1))))))), (e0, .inl (cA, (rn, .inl g0))), (e1, .inl (cA, (rn, .inl g1))), (ca, .inl (cAAA, (2, .inr (.inr (.inr (.inr (w2f c0 c1))))))), (c0, .inl (cAA, (rn, .inr (.inr (.inr (.inr (crF Rr))))))), (c1, .inl (cAA, (rn, .inr (.inr (.inr (.inr (crG Rr rn))))))), (sg, .inl (cA, (2, .inl (upd (upd (fun _ => 0) 0 (paI (plain K0) 2)) 1 (paI (plain K1) 2)))))] ++ plR cA rn (2 * rn) Rr F) H) (hD : va_D A ([(x0, .inr (1, [.ref r0, .ref r1, .ref r2, .ref r3, .int (nI rn)])), (r0, .inr (0, [.ref a0, .int (nI L0.length)])), (a0, .inl (cA, (100, .inl f0))), (r1, .inr (0, [.ref a1, .int (nI L1.length)])), (a1, .inl (cA, (100, .inl f1))), (r2, .inr (0, [.ref a2, .int n2])), (a2, .inl (cA, (100, .inl f2))), (r3, .inr (0, [.ref a3, .int n3])), (a3, .inl (cA, (100, .inl f3))), (y0, .inr (2, [.int (nI rn), .ref q0])), (q0, .inl (cAA, (2, .inr (.inr (.inr (.inr (w2f p0 p1))))))), (p0, .inl (cA, (L0.length, .inl (atL L0)))), (p1, .inl (cA, (L1.length, .inl (atL L1)))), (ea, .inl (cAA, (2, .inr (.inr (.inr (.inr (w2f e0 e1))))))), (e0, .inl (cA, (rn, .inl g0))), (e1, .inl (cA, (rn, .inl g1))), (ca, .inl (cAAA, (2, .inr (.inr (.inr (.inr (w2f c0 c1))))))), (c0, .inl (cAA, (rn, .inr (.inr (.inr (.inr (crF Rr))))))), (c1, .inl (cAA, (rn, .inr (.inr (.inr (.inr (crG Rr rn))))))), (sg, .inl (cA, (2, .inl (upd (upd (fun _ => 0) 0 (paI (plain K0) 2)) 1 (paI (plain K1) 2)))))] ++ plR cA rn (2 * rn) Rr F)) (hS : va_S A s.heap H locs) {ls : Array Slot} (hl : lv_has ls 17 [(12, .int 2), (10, .ref sg), (9, .int (paI (plain (turnL K0 ++ K1)) 2)), (8, .int (saI (plain (turnL K0 ++ K1)))), (7, .ref ca), (6, .ref ea), (5, .int x5), (4, .int (nI t9)), (3, .int (nI rn)), (2, .ref y0), (1, .ref x0), (0, .ref b9)])
    (K : ∀ (m2 : Int32) (k2 : Nat → Int32) (m3 : Int32) (k3 : Nat → Int32) (H1 : Heap) (locs1 : List Loc) (ls1 : Array Slot), va_P (dC, dI) vwCl [(x0, .inr (1, [.ref r0, .ref r1, .ref r2, .ref r3, .int (nI rn)])), (r0, .inr (0, [.ref a0, .int (nI L0.length)])), (a0, .inl (cA, (100, .inl f0))), (r1, .inr (0, [.ref a1, .int (nI L1.length)])), (a1, .inl (cA, (100, .inl f1))), (r2, .inr (0, [.ref a2, .int m2])), (a2, .inl (cA, (100, .inl k2))), (r3, .inr (0, [.ref a3, .int m3])), (a3, .inl (cA, (100, .inl k3))), (y0, .inr (2, [.int (nI rn), .ref q0])), (q0, .inl (cAA, (2, .inr (.inr (.inr (.inr (w2f p0 p1))))))), (p0, .inl (cA, (L0.length, .inl (atL L0)))), (p1, .inl (cA, (L1.length, .inl (atL L1))))] H1 → va_D A [(x0, .inr (1, [.ref r0, .ref r1, .ref r2, .ref r3, .int (nI rn)])), (r0, .inr (0, [.ref a0, .int (nI L0.length)])), (a0, .inl (cA, (100, .inl f0))), (r1, .inr (0, [.ref a1, .int (nI L1.length)])), (a1, .inl (cA, (100, .inl f1))), (r2, .inr (0, [.ref a2, .int m2])), (a2, .inl (cA, (100, .inl k2))), (r3, .inr (0, [.ref a3, .int m3])), (a3, .inl (cA, (100, .inl k3))), (y0, .inr (2, [.int (nI rn), .ref q0])), (q0, .inl (cAA, (2, .inr (.inr (.inr (.inr (w2f p0 p1))))))), (p0, .inl (cA, (L0.length, .inl (atL L0)))), (p1, .inl (cA, (L1.length, .inl (atL L1))))] → va_S A s.heap H1 locs1 → lv_has ls1 17 [(4, .int (nI (t9 + 1))), (3, .int (nI rn)), (2, .ref y0), (1, .ref x0), (0, .ref b9)] → W p l e room_1 s m ([.ref b9] : List Value).toArray below meth c H1 locs1 cells slots Q (F0 m 29 ls1 [])) : W p l e room_1 s m ([.ref b9] : List Value).toArray below meth c H locs cells slots Q (F0 m 971 ls []) := by
  obtain ⟨hx, hb, hml, hown, hts, htr, hK, hA, hXX, hL2, hm3, ho2, ho3⟩ := id E
  have hK1 : va_K (dC, dI) vwCl [(cA, .int)] s := hK.sub [0] rfl
  have hK2 : va_K (dC, dI) vwCl [(cA, .int), (cAA, .array .int)] s := hK.sub [0, 1] rfl
  have hW0 := okW_of hk0
  have hW1 := okW_of hk1
  refine lv_iload hx hb dL_law_971 (lv_at hl 0 rfl) ?_
  refine lv_iconst (v := 2) hx hb dL_law_973 (by decide) ?_
  refine lv_icmp_ge (tgt := 1106) hx hb dL_law_974 (by decide) (fun c974 => ?_) (fun c974 => ?_)
  · have c974 : 2 ≤ 2 := g_geT 2 2 (by omega) (by omega) c974
    refine lv_iload hx hb dL_law_1106 (lv_at hl 3 rfl) ?_
    refine lv_bipush (v := (-9)) hx hb dL_law_1108 (by decide) ?_
    refine lv_icmp_eq (tgt := 1142) hx hb dL_law_1110 (by decide) (fun c1110 => ?_) (fun c1110 => ?_)
    · refine lv_iinc (v := nI (t9 + 1)) (lv' := [(4, .int (nI (t9 + 1))), (12, .int 2), (10, .ref sg), (9, .int (paI (plain (turnL K0 ++ K1)) 2)), (8, .int (saI (plain (turnL K0 ++ K1)))), (7, .ref ca), (6, .ref ea), (5, .int x5), (3, .int (nI rn)), (2, .ref y0), (1, .ref x0), (0, .ref b9)]) hx hb dL_law_1142 hl (k := 7) rfl (g_inc _) (by decide) rfl (fun ls hl => ?_)
      refine lv_goto (tgt := 29) hx hb dL_law_1145 (by decide) ?_
      have hP := g_subP hP [0, 1, 2, 3, 4, 5, 6, 7, 8, 9, 10, 11, 12] (wc := [(x0, .inr (1, [.ref r0, .ref r1, .ref r2, .ref r3, .int (nI rn)])), (r0, .inr (0, [.ref a0, .int (nI L0.length)])), (a0, .inl (cA, (100, .inl f0))), (r1, .inr (0, [.ref a1, .int (nI L1.length)])), (a1, .inl (cA, (100, .inl f1))), (r2, .inr (0, [.ref a2, .int n2])), (a2, .inl (cA, (100, .inl f2))), (r3, .inr (0, [.ref a3, .int n3])), (a3, .inl (cA, (100, .inl f3))), (y0, .inr (2, [.int (nI rn), .ref q0])), (q0, .inl (cAA, (2, .inr (.inr (.inr (.inr (w2f p0 p1))))))), (p0, .inl (cA, (L0.length, .inl (atL L0)))), (p1, .inl (cA, (L1.length, .inl (atL L1))))]) rfl
      have hD := hD.sub (ws' := [(x0, .inr (1, [.ref r0, .ref r1, .ref r2, .ref r3, .int (nI rn)])), (r0, .inr (0, [.ref a0, .int (nI L0.length)])), (a0, .inl (cA, (100, .inl f0))), (r1, .inr (0, [.ref a1, .int (nI L1.length)])), (a1, .inl (cA, (100, .inl f1))), (r2, .inr (0, [.ref a2, .int n2])), (a2, .inl (cA, (100, .inl f2))), (r3, .inr (0, [.ref a3, .int n3])), (a3, .inl (cA, (100, .inl f3))), (y0, .inr (2, [.int (nI rn), .ref q0])), (q0, .inl (cAA, (2, .inr (.inr (.inr (.inr (w2f p0 p1))))))), (p0, .inl (cA, (L0.length, .inl (atL L0)))), (p1, .inl (cA, (L1.length, .inl (atL L1))))]) [0, 1, 2, 3, 4, 5, 6, 7, 8, 9, 10, 11, 12] (by decide) rfl
      have hP : va_P (dC, dI) vwCl [(x0, .inr (1, [.ref r0, .ref r1, .ref r2, .ref r3, .int (nI rn)])), (r0, .inr (0, [.ref a0, .int (nI L0.length)])), (a0, .inl (cA, (100, .inl f0))), (r1, .inr (0, [.ref a1, .int (nI L1.length)])), (a1, .inl (cA, (100, .inl f1))), (r2, .inr (0, [.ref a2, .int n2])), (a2, .inl (cA, (100, .inl f2))), (r3, .inr (0, [.ref a3, .int n3])), (a3, .inl (cA, (100, .inl f3))), (y0, .inr (2, [.int (nI rn), .ref q0])), (q0, .inl (cAA, (2, .inr (.inr (.inr (.inr (w2f p0 p1))))))), (p0, .inl (cA, (L0.length, .inl (atL L0)))), (p1, .inl (cA, (L1.length, .inl (atL L1))))] H := hP
      have hD : va_D A [(x0, .inr (1, [.ref r0, .ref r1, .ref r2, .ref r3, .int (nI rn)])), (r0, .inr (0, [.ref a0, .int (nI L0.length)])), (a0, .inl (cA, (100, .inl f0))), (r1, .inr (0, [.ref a1, .int (nI L1.length)])), (a1, .inl (cA, (100, .inl f1))), (r2, .inr (0, [.ref a2, .int n2])), (a2, .inl (cA, (100, .inl f2))), (r3, .inr (0, [.ref a3, .int n3])), (a3, .inl (cA, (100, .inl f3))), (y0, .inr (2, [.int (nI rn), .ref q0])), (q0, .inl (cAA, (2, .inr (.inr (.inr (.inr (w2f p0 p1))))))), (p0, .inl (cA, (L0.length, .inl (atL L0)))), (p1, .inl (cA, (L1.length, .inl (atL L1))))] := hD
      exact K n2 f2 n3 f3 _ _ _ hP hD hS (lv_sub hl [0, 8, 9, 10, 11] rfl)
    · refine lv_aload_n hx hb dL_law_1113 rfl (lv_at hl 10 rfl) ?_
      refine g_MVPi (As := []) (rest := []) ⟨hx, hb, hml, hown, hts⟩ (mt_X1_same l dC dI cA H.size x0 r0 r1 r2 r3 rn a0 a1 L0 f0 L1 f1 a2 n2 f2 a3 n3 f3 hR0 hR1 (by first | omega | (simp only [List.length_append, List.length_cons, List.length_nil, List.length_set, turnL_len]; omega))) (cwV 0 hts gL_law_X1_same rfl rfl rfl hdX1_same ⟨Nat.le_of_ble_eq_true rfl, Nat.le_of_ble_eq_true rfl⟩) hP hK1 hD hS hA [0, 1, 2, 3, 4, 5, 6, 7, 8] (by decide) rfl rfl (va_recv hK hP (ci := 1) (q0 := 0) rfl rfl) rfl hl.1 rfl (Nat.le_of_ble_eq_true rfl) dL_law_1114 (by show _ ≤ 600130; omega) (by show _ ≤ 7301080; omega) (fun u9 => [(x0, .inr (1, [.ref r0, .ref r1, .ref r2, .ref r3, .int (nI rn)])), (r0, .inr (0, [.ref a0, .int (nI L0.length)])), (a0, .inl (cA, (100, .inl f0))), (r1, .inr (0, [.ref a1, .int (nI L1.length)])), (a1, .inl (cA, (100, .inl f1))), (r2, .inr (0, [.ref a2, .int u9.1])), (a2, .inl (cA, (100, .inl u9.2.1))), (r3, .inr (0, [.ref a3, .int u9.2.2.1])), (a3, .inl (cA, (100, .inl u9.2.2.2))), (y0, .inr (2, [.int (nI rn), .ref q0])), (q0, .inl (cAA, (2, .inr (.inr (.inr (.inr (w2f p0 p1))))))), (p0, .inl (cA, (L0.length, .inl (atL L0)))), (p1, .inl (cA, (L1.length, .inl (atL L1)))), (ea, .inl (cAA, (2, .inr (.inr (.inr (.inr (w2f e0 e1))))))), (e0, .inl (cA, (rn, .inl g0))), (e1, .inl (cA, (rn, .inl g1))), (ca, .inl (cAAA, (2, .inr (.inr (.inr (.inr (w2f c0 c1))))))), (c0, .inl (cAA, (rn, .inr (.inr (.inr (.inr (crF Rr))))))), (c1, .inl (cAA, (rn, .inr (.inr (.inr (.inr (crG Rr rn))))))), (sg, .inl (cA, (2, .inl (upd (upd (fun _ => 0) 0 (paI (plain K0) 2)) 1 (paI (plain K1) 2)))))]) (fun _ => rfl) (fun _ => rfl) (fun u H locs hw_5 hP hD hS => ?_)
      obtain ⟨m2_1, g2_2, m3_3, g3_4⟩ := u
      have hw_5 : True := hw_5
      have hP : va_P (dC, dI) vwCl ([(x0, .inr (1, [.ref r0, .ref r1, .ref r2, .ref r3, .int (nI rn)])), (r0, .inr (0, [.ref a0, .int (nI L0.length)])), (a0, .inl (cA, (100, .inl f0))), (r1, .inr (0, [.ref a1, .int (nI L1.length)])), (a1, .inl (cA, (100, .inl f1))), (r2, .inr (0, [.ref a2, .int m2_1])), (a2, .inl (cA, (100, .inl g2_2))), (r3, .inr (0, [.ref a3, .int m3_3])), (a3, .inl (cA, (100, .inl g3_4))), (y0, .inr (2, [.int (nI rn), .ref q0])), (q0, .inl (cAA, (2, .inr (.inr (.inr (.inr (w2f p0 p1))))))), (p0, .inl (cA, (L0.length, .inl (atL L0)))), (p1, .inl (cA, (L1.length, .inl (atL L1)))), (ea, .inl (cAA, (2, .inr (.inr (.inr (.inr (w2f e0 e1))))))), (e0, .inl (cA, (rn, .inl g0))), (e1, .inl (cA, (rn, .inl g1))), (ca, .inl (cAAA, (2, .inr (.inr (.inr (.inr (w2f c0 c1))))))), (c0, .inl (cAA, (rn, .inr (.inr (.inr (.inr (crF Rr))))))), (c1, .inl (cAA, (rn, .inr (.inr (.inr (.inr (crG Rr rn))))))), (sg, .inl (cA, (2, .inl (upd (upd (fun _ => 0) 0 (paI (plain K0) 2)) 1 (paI (plain K1) 2)))))] ++ plR cA rn (2 * rn) Rr F) H := hP
      have hD : va_D A ([(x0, .inr (1, [.ref r0, .ref r1, .ref r2, .ref r3, .int (nI rn)])), (r0, .inr (0, [.ref a0, .int (nI L0.length)])), (a0, .inl (cA, (100, .inl f0))), (r1, .inr (0, [.ref a1, .int (nI L1.length)])), (a1, .inl (cA, (100, .inl f1))), (r2, .inr (0, [.ref a2, .int m2_1])), (a2, .inl (cA, (100, .inl g2_2))), (r3, .inr (0, [.ref a3, .int m3_3])), (a3, .inl (cA, (100, .inl g3_4))), (y0, .inr (2, [.int (nI rn), .ref q0])), (q0, .inl (cAA, (2, .inr (.inr (.inr (.inr (w2f p0 p1))))))), (p0, .inl (cA, (L0.length, .inl (atL L0)))), (p1, .inl (cA, (L1.length, .inl (atL L1)))), (ea, .inl (cAA, (2, .inr (.inr (.inr (.inr (w2f e0 e1))))))), (e0, .inl (cA, (rn, .inl g0))), (e1, .inl (cA, (rn, .inl g1))), (ca, .inl (cAAA, (2, .inr (.inr (.inr (.inr (w2f c0 c1))))))), (c0, .inl (cAA, (rn, .inr (.inr (.inr (.inr (crF Rr))))))), (c1, .inl (cAA, (rn, .inr (.inr (.inr (.inr (crG Rr rn))))))), (sg, .inl (cA, (2, .inl (upd (upd (fun _ => 0) 0 (paI (plain K0) 2)) 1 (paI (plain K1) 2)))))] ++ plR cA rn (2 * rn) Rr F) := hD
      refine lv_bipush (v := (-9)) hx hb dL_law_1117 (by decide) ?_
      refine lv_icmp_eq (tgt := 1142) hx hb dL_law_1119 (by decide) (fun c1119 => ?_) (fun c1119 => ?_)
      · refine lv_iinc (v := nI (t9 + 1)) (lv' := [(4, .int (nI (t9 + 1))), (12, .int 2), (10, .ref sg), (9, .int (paI (plain (turnL K0 ++ K1)) 2)), (8, .int (saI (plain (turnL K0 ++ K1)))), (7, .ref ca), (6, .ref ea), (5, .int x5), (3, .int (nI rn)), (2, .ref y0), (1, .ref x0), (0, .ref b9)]) hx hb dL_law_1142 hl (k := 7) rfl (g_inc _) (by decide) rfl (fun ls hl => ?_)
        refine lv_goto (tgt := 29) hx hb dL_law_1145 (by decide) ?_
        have hP := g_subP hP [0, 1, 2, 3, 4, 5, 6, 7, 8, 9, 10, 11, 12] (wc := [(x0, .inr (1, [.ref r0, .ref r1, .ref r2, .ref r3, .int (nI rn)])), (r0, .inr (0, [.ref a0, .int (nI L0.length)])), (a0, .inl (cA, (100, .inl f0))), (r1, .inr (0, [.ref a1, .int (nI L1.length)])), (a1, .inl (cA, (100, .inl f1))), (r2, .inr (0, [.ref a2, .int m2_1])), (a2, .inl (cA, (100, .inl g2_2))), (r3, .inr (0, [.ref a3, .int m3_3])), (a3, .inl (cA, (100, .inl g3_4))), (y0, .inr (2, [.int (nI rn), .ref q0])), (q0, .inl (cAA, (2, .inr (.inr (.inr (.inr (w2f p0 p1))))))), (p0, .inl (cA, (L0.length, .inl (atL L0)))), (p1, .inl (cA, (L1.length, .inl (atL L1))))]) rfl
        have hD := hD.sub (ws' := [(x0, .inr (1, [.ref r0, .ref r1, .ref r2, .ref r3, .int (nI rn)])), (r0, .inr (0, [.ref a0, .int (nI L0.length)])), (a0, .inl (cA, (100, .inl f0))), (r1, .inr (0, [.ref a1, .int (nI L1.length)])), (a1, .inl (cA, (100, .inl f1))), (r2, .inr (0, [.ref a2, .int m2_1])), (a2, .inl (cA, (100, .inl g2_2))), (r3, .inr (0, [.ref a3, .int m3_3])), (a3, .inl (cA, (100, .inl g3_4))), (y0, .inr (2, [.int (nI rn), .ref q0])), (q0, .inl (cAA, (2, .inr (.inr (.inr (.inr (w2f p0 p1))))))), (p0, .inl (cA, (L0.length, .inl (atL L0)))), (p1, .inl (cA, (L1.length, .inl (atL L1))))]) [0, 1, 2, 3, 4, 5, 6, 7, 8, 9, 10, 11, 12] (by decide) rfl
        have hP : va_P (dC, dI) vwCl [(x0, .inr (1, [.ref r0, .ref r1, .ref r2, .ref r3, .int (nI rn)])), (r0, .inr (0, [.ref a0, .int (nI L0.length)])), (a0, .inl (cA, (100, .inl f0))), (r1, .inr (0, [.ref a1, .int (nI L1.length)])), (a1, .inl (cA, (100, .inl f1))), (r2, .inr (0, [.ref a2, .int m2_1])), (a2, .inl (cA, (100, .inl g2_2))), (r3, .inr (0, [.ref a3, .int m3_3])), (a3, .inl (cA, (100, .inl g3_4))), (y0, .inr (2, [.int (nI rn), .ref q0])), (q0, .inl (cAA, (2, .inr (.inr (.inr (.inr (w2f p0 p1))))))), (p0, .inl (cA, (L0.length, .inl (atL L0)))), (p1, .inl (cA, (L1.length, .inl (atL L1))))] H := hP
        have hD : va_D A [(x0, .inr (1, [.ref r0, .ref r1, .ref r2, .ref r3, .int (nI rn)])), (r0, .inr (0, [.ref a0, .int (nI L0.length)])), (a0, .inl (cA, (100, .inl f0))), (r1, .inr (0, [.ref a1, .int (nI L1.length)])), (a1, .inl (cA, (100, .inl f1))), (r2, .inr (0, [.ref a2, .int m2_1])), (a2, .inl (cA, (100, .inl g2_2))), (r3, .inr (0, [.ref a3, .int m3_3])), (a3, .inl (cA, (100, .inl g3_4))), (y0, .inr (2, [.int (nI rn), .ref q0])), (q0, .inl (cAA, (2, .inr (.inr (.inr (.inr (w2f p0 p1))))))), (p0, .inl (cA, (L0.length, .inl (atL L0)))), (p1, .inl (cA, (L1.length, .inl (atL L1))))] := hD
        exact K m2_1 g2_2 m3_3 g3_4 _ _ _ hP hD hS (lv_sub hl [0, 8, 9, 10, 11] rfl)
      · refine lv_aload_n hx hb dL_law_1122 rfl (lv_at hl 10 rfl) ?_
        refine g_MVPi (As := []) (rest := []) ⟨hx, hb, hml, hown, hts⟩ (mt_X1_same l dC dI cA H.size x0 r0 r1 r2 r3 rn a0 a1 L0 f0 L1 f1 a2 m2_1 g2_2 a3 m3_3 g3_4 hR0 hR1 (by first | omega | (simp only [List.length_append, List.length_cons, List.length_nil, List.length_set, turnL_len]; omega))) (cwV 0 hts gL_law_X1_same rfl rfl rfl hdX1_same ⟨Nat.le_of_ble_eq_true rfl, Nat.le_of_ble_eq_true rfl⟩) hP hK1 hD hS hA [0, 1, 2, 3, 4, 5, 6, 7, 8] (by decide) rfl rfl (va_recv hK hP (ci := 1) (q0 := 0) rfl rfl) rfl hl.1 rfl (Nat.le_of_ble_eq_true rfl) dL_law_1123 (by show _ ≤ 600130; omega) (by show _ ≤ 7301080; omega) (fun u9 => [(x0, .inr (1, [.ref r0, .ref r1, .ref r2, .ref r3, .int (nI rn)])), (r0, .inr (0, [.ref a0, .int (nI L0.length)])), (a0, .inl (cA, (100, .inl f0))), (r1, .inr (0, [.ref a1, .int (nI L1.length)])), (a1, .inl (cA, (100, .inl f1))), (r2, .inr (0, [.ref a2, .int u9.1])), (a2, .inl (cA, (100, .inl u9.2.1))), (r3, .inr (0, [.ref a3, .int u9.2.2.1])), (a3, .inl (cA, (100, .inl u9.2.2.2))), (y0, .inr (2, [.int (nI rn), .ref q0])), (q0, .inl (cAA, (2, .inr (.inr (.inr (.inr (w2f p0 p1))))))), (p0, .inl (cA, (L0.length, .inl (atL L0)))), (p1, .inl (cA, (L1.length, .inl (atL L1)))), (ea, .inl (cAA, (2, .inr (.inr (.inr (.inr (w2f e0 e1))))))), (e0, .inl (cA, (rn, .inl g0))), (e1, .inl (cA, (rn, .inl g1))), (ca, .inl (cAAA, (2, .inr (.inr (.inr (.inr (w2f c0 c1))))))), (c0, .inl (cAA, (rn, .inr (.inr (.inr (.inr (crF Rr))))))), (c1, .inl (cAA, (rn, .inr (.inr (.inr (.inr (crG Rr rn))))))), (sg, .inl (cA, (2, .inl (upd (upd (fun _ => 0) 0 (paI (plain K0) 2)) 1 (paI (plain K1) 2)))))]) (fun _ => rfl) (fun _ => rfl) (fun u H locs hw_10 hP hD hS => ?_)
        obtain ⟨m2_6, g2_7, m3_8, g3_9⟩ := u
        have hw_10 : True := hw_10
        have hP : va_P (dC, dI) vwCl ([(x0, .inr (1, [.ref r0, .ref r1, .ref r2, .ref r3, .int (nI rn)])), (r0, .inr (0, [.ref a0, .int (nI L0.length)])), (a0, .inl (cA, (100, .inl f0))), (r1, .inr (0, [.ref a1, .int (nI L1.length)])), (a1, .inl (cA, (100, .inl f1))), (r2, .inr (0, [.ref a2, .int m2_6])), (a2, .inl (cA, (100, .inl g2_7))), (r3, .inr (0, [.ref a3, .int m3_8])), (a3, .inl (cA, (100, .inl g3_9))), (y0, .inr (2, [.int (nI rn), .ref q0])), (q0, .inl (cAA, (2, .inr (.inr (.inr (.inr (w2f p0 p1))))))), (p0, .inl (cA, (L0.length, .inl (atL L0)))), (p1, .inl (cA, (L1.length, .inl (atL L1)))), (ea, .inl (cAA, (2, .inr (.inr (.inr (.inr (w2f e0 e1))))))), (e0, .inl (cA, (rn, .inl g0))), (e1, .inl (cA, (rn, .inl g1))), (ca, .inl (cAAA, (2, .inr (.inr (.inr (.inr (w2f c0 c1))))))), (c0, .inl (cAA, (rn, .inr (.inr (.inr (.inr (crF Rr))))))), (c1, .inl (cAA, (rn, .inr (.inr (.inr (.inr (crG Rr rn))))))), (sg, .inl (cA, (2, .inl (upd (upd (fun _ => 0) 0 (paI (plain K0) 2)) 1 (paI (plain K1) 2)))))] ++ plR cA rn (2 * rn) Rr F) H := hP
        have hD : va_D A ([(x0, .inr (1, [.ref r0, .ref r1, .ref r2, .ref r3, .int (nI rn)])), (r0, .inr (0, [.ref a0, .int (nI L0.length)])), (a0, .inl (cA, (100, .inl f0))), (r1, .inr (0, [.ref a1, .int (nI L1.length)])), (a1, .inl (cA, (100, .inl f1))), (r2, .inr (0, [.ref a2, .int m2_6])), (a2, .inl (cA, (100, .inl g2_7))), (r3, .inr (0, [.ref a3, .int m3_8])), (a3, .inl (cA, (100, .inl g3_9))), (y0, .inr (2, [.int (nI rn), .ref q0])), (q0, .inl (cAA, (2, .inr (.inr (.inr (.inr (w2f p0 p1))))))), (p0, .inl (cA, (L0.length, .inl (atL L0)))), (p1, .inl (cA, (L1.length, .inl (atL L1)))), (ea, .inl (cAA, (2, .inr (.inr (.inr (.inr (w2f e0 e1))))))), (e0, .inl (cA, (rn, .inl g0))), (e1, .inl (cA, (rn, .inl g1))), (ca, .inl (cAAA, (2, .inr (.inr (.inr (.inr (w2f c0 c1))))))), (c0, .inl (cAA, (rn, .inr (.inr (.inr (.inr (crF Rr))))))), (c1, .inl (cAA, (rn, .inr (.inr (.inr (.inr (crG Rr rn))))))), (sg, .inl (cA, (2, .inl (upd (upd (fun _ => 0) 0 (paI (plain K0) 2)) 1 (paI (plain K1) 2)))))] ++ plR cA rn (2 * rn) Rr F) := hD
        refine lv_iload hx hb dL_law_1126 (lv_at hl 3 rfl) ?_
        refine lv_icmp_ne (tgt := 1140) hx hb dL_law_1128 (by decide) (fun c1128 => ?_) (fun c1128 => ?_)
        · exact absurd (fMs (okW_app (okW_turn (okW_of hJ0)) (okW_of hJ1)) (okW_app (okW_turn hW0) hW1) (mv_two (okW_of hJ0) (okW_of hJ1) hW0 hm0 hm1) c1110 c1119).1 c1128
        · refine lv_aload_n hx hb dL_law_1131 rfl (lv_at hl 10 rfl) ?_
          refine g_MVPi (As := []) (rest := []) ⟨hx, hb, hml, hown, hts⟩ (mt_X1_ahead l dC dI cA H.size x0 r0 r1 r2 r3 rn a0 a1 L0 f0 L1 f1 a2 m2_6 g2_7 a3 m3_8 g3_9 hR0 hR1 (by first | omega | (simp only [List.length_append, List.length_cons, List.length_nil, List.length_set, turnL_len]; omega))) (cwV 0 hts gL_law_X1_ahead rfl rfl rfl hdX1_ahead ⟨Nat.le_of_ble_eq_true rfl, Nat.le_of_ble_eq_true rfl⟩) hP hK1 hD hS hA [0, 1, 2, 3, 4, 5, 6, 7, 8] (by decide) rfl rfl (va_recv hK hP (ci := 1) (q0 := 0) rfl rfl) rfl hl.1 rfl (Nat.le_of_ble_eq_true rfl) dL_law_1132 (by show _ ≤ 600130; omega) (by show _ ≤ 7301080; omega) (fun u9 => [(x0, .inr (1, [.ref r0, .ref r1, .ref r2, .ref r3, .int (nI rn)])), (r0, .inr (0, [.ref a0, .int (nI L0.length)])), (a0, .inl (cA, (100, .inl f0))), (r1, .inr (0, [.ref a1, .int (nI L1.length)])), (a1, .inl (cA, (100, .inl f1))), (r2, .inr (0, [.ref a2, .int u9.1])), (a2, .inl (cA, (100, .inl u9.2.1))), (r3, .inr (0, [.ref a3, .int u9.2.2.1])), (a3, .inl (cA, (100, .inl u9.2.2.2))), (y0, .inr (2, [.int (nI rn), .ref q0])), (q0, .inl (cAA, (2, .inr (.inr (.inr (.inr (w2f p0 p1))))))), (p0, .inl (cA, (L0.length, .inl (atL L0)))), (p1, .inl (cA, (L1.length, .inl (atL L1)))), (ea, .inl (cAA, (2, .inr (.inr (.inr (.inr (w2f e0 e1))))))), (e0, .inl (cA, (rn, .inl g0))), (e1, .inl (cA, (rn, .inl g1))), (ca, .inl (cAAA, (2, .inr (.inr (.inr (.inr (w2f c0 c1))))))), (c0, .inl (cAA, (rn, .inr (.inr (.inr (.inr (crF Rr))))))), (c1, .inl (cAA, (rn, .inr (.inr (.inr (.inr (crG Rr rn))))))), (sg, .inl (cA, (2, .inl (upd (upd (fun _ => 0) 0 (paI (plain K0) 2)) 1 (paI (plain K1) 2)))))]) (fun _ => rfl) (fun _ => rfl) (fun u H locs hw_15 hP hD hS => ?_)
          obtain ⟨m2_11, g2_12, m3_13, g3_14⟩ := u
          have hw_15 : True := hw_15
          have hP : va_P (dC, dI) vwCl ([(x0, .inr (1, [.ref r0, .ref r1, .ref r2, .ref r3, .int (nI rn)])), (r0, .inr (0, [.ref a0, .int (nI L0.length)])), (a0, .inl (cA, (100, .inl f0))), (r1, .inr (0, [.ref a1, .int (nI L1.length)])), (a1, .inl (cA, (100, .inl f1))), (r2, .inr (0, [.ref a2, .int m2_11])), (a2, .inl (cA, (100, .inl g2_12))), (r3, .inr (0, [.ref a3, .int m3_13])), (a3, .inl (cA, (100, .inl g3_14))), (y0, .inr (2, [.int (nI rn), .ref q0])), (q0, .inl (cAA, (2, .inr (.inr (.inr (.inr (w2f p0 p1))))))), (p0, .inl (cA, (L0.length, .inl (atL L0)))), (p1, .inl (cA, (L1.length, .inl (atL L1)))), (ea, .inl (cAA, (2, .inr (.inr (.inr (.inr (w2f e0 e1))))))), (e0, .inl (cA, (rn, .inl g0))), (e1, .inl (cA, (rn, .inl g1))), (ca, .inl (cAAA, (2, .inr (.inr (.inr (.inr (w2f c0 c1))))))), (c0, .inl (cAA, (rn, .inr (.inr (.inr (.inr (crF Rr))))))), (c1, .inl (cAA, (rn, .inr (.inr (.inr (.inr (crG Rr rn))))))), (sg, .inl (cA, (2, .inl (upd (upd (fun _ => 0) 0 (paI (plain K0) 2)) 1 (paI (plain K1) 2)))))] ++ plR cA rn (2 * rn) Rr F) H := hP
          have hD : va_D A ([(x0, .inr (1, [.ref r0, .ref r1, .ref r2, .ref r3, .int (nI rn)])), (r0, .inr (0, [.ref a0, .int (nI L0.length)])), (a0, .inl (cA, (100, .inl f0))), (r1, .inr (0, [.ref a1, .int (nI L1.length)])), (a1, .inl (cA, (100, .inl f1))), (r2, .inr (0, [.ref a2, .int m2_11])), (a2, .inl (cA, (100, .inl g2_12))), (r3, .inr (0, [.ref a3, .int m3_13])), (a3, .inl (cA, (100, .inl g3_14))), (y0, .inr (2, [.int (nI rn), .ref q0])), (q0, .inl (cAA, (2, .inr (.inr (.inr (.inr (w2f p0 p1))))))), (p0, .inl (cA, (L0.length, .inl (atL L0)))), (p1, .inl (cA, (L1.length, .inl (atL L1)))), (ea, .inl (cAA, (2, .inr (.inr (.inr (.inr (w2f e0 e1))))))), (e0, .inl (cA, (rn, .inl g0))), (e1, .inl (cA, (rn, .inl g1))), (ca, .inl (cAAA, (2, .inr (.inr (.inr (.inr (w2f c0 c1))))))), (c0, .inl (cAA, (rn, .inr (.inr (.inr (.inr (crF Rr))))))), (c1, .inl (cAA, (rn, .inr (.inr (.inr (.inr (crG Rr rn))))))), (sg, .inl (cA, (2, .inl (upd (upd (fun _ => 0) 0 (paI (plain K0) 2)) 1 (paI (plain K1) 2)))))] ++ plR cA rn (2 * rn) Rr F) := hD
          refine lv_iload hx hb dL_law_1135 (lv_at hl 2 rfl) ?_
          refine lv_icmp_eq (tgt := 1142) hx hb dL_law_1137 (by decide) (fun c1137 => ?_) (fun c1137 => ?_)
          · refine lv_iinc (v := nI (t9 + 1)) (lv' := [(4, .int (nI (t9 + 1))), (12, .int 2), (10, .ref sg), (9, .int (paI (plain (turnL K0 ++ K1)) 2)), (8, .int (saI (plain (turnL K0 ++ K1)))), (7, .ref ca), (6, .ref ea), (5, .int x5), (3, .int (nI rn)), (2, .ref y0), (1, .ref x0), (0, .ref b9)]) hx hb dL_law_1142 hl (k := 7) rfl (g_inc _) (by decide) rfl (fun ls hl => ?_)
            refine lv_goto (tgt := 29) hx hb dL_law_1145 (by decide) ?_
            have hP := g_subP hP [0, 1, 2, 3, 4, 5, 6, 7, 8, 9, 10, 11, 12] (wc := [(x0, .inr (1, [.ref r0, .ref r1, .ref r2, .ref r3, .int (nI rn)])), (r0, .inr (0, [.ref a0, .int (nI L0.length)])), (a0, .inl (cA, (100, .inl f0))), (r1, .inr (0, [.ref a1, .int (nI L1.length)])), (a1, .inl (cA, (100, .inl f1))), (r2, .inr (0, [.ref a2, .int m2_11])), (a2, .inl (cA, (100, .inl g2_12))), (r3, .inr (0, [.ref a3, .int m3_13])), (a3, .inl (cA, (100, .inl g3_14))), (y0, .inr (2, [.int (nI rn), .ref q0])), (q0, .inl (cAA, (2, .inr (.inr (.inr (.inr (w2f p0 p1))))))), (p0, .inl (cA, (L0.length, .inl (atL L0)))), (p1, .inl (cA, (L1.length, .inl (atL L1))))]) rfl
            have hD := hD.sub (ws' := [(x0, .inr (1, [.ref r0, .ref r1, .ref r2, .ref r3, .int (nI rn)])), (r0, .inr (0, [.ref a0, .int (nI L0.length)])), (a0, .inl (cA, (100, .inl f0))), (r1, .inr (0, [.ref a1, .int (nI L1.length)])), (a1, .inl (cA, (100, .inl f1))), (r2, .inr (0, [.ref a2, .int m2_11])), (a2, .inl (cA, (100, .inl g2_12))), (r3, .inr (0, [.ref a3, .int m3_13])), (a3, .inl (cA, (100, .inl g3_14))), (y0, .inr (2, [.int (nI rn), .ref q0])), (q0, .inl (cAA, (2, .inr (.inr (.inr (.inr (w2f p0 p1))))))), (p0, .inl (cA, (L0.length, .inl (atL L0)))), (p1, .inl (cA, (L1.length, .inl (atL L1))))]) [0, 1, 2, 3, 4, 5, 6, 7, 8, 9, 10, 11, 12] (by decide) rfl
            have hP : va_P (dC, dI) vwCl [(x0, .inr (1, [.ref r0, .ref r1, .ref r2, .ref r3, .int (nI rn)])), (r0, .inr (0, [.ref a0, .int (nI L0.length)])), (a0, .inl (cA, (100, .inl f0))), (r1, .inr (0, [.ref a1, .int (nI L1.length)])), (a1, .inl (cA, (100, .inl f1))), (r2, .inr (0, [.ref a2, .int m2_11])), (a2, .inl (cA, (100, .inl g2_12))), (r3, .inr (0, [.ref a3, .int m3_13])), (a3, .inl (cA, (100, .inl g3_14))), (y0, .inr (2, [.int (nI rn), .ref q0])), (q0, .inl (cAA, (2, .inr (.inr (.inr (.inr (w2f p0 p1))))))), (p0, .inl (cA, (L0.length, .inl (atL L0)))), (p1, .inl (cA, (L1.length, .inl (atL L1))))] H := hP
            have hD : va_D A [(x0, .inr (1, [.ref r0, .ref r1, .ref r2, .ref r3, .int (nI rn)])), (r0, .inr (0, [.ref a0, .int (nI L0.length)])), (a0, .inl (cA, (100, .inl f0))), (r1, .inr (0, [.ref a1, .int (nI L1.length)])), (a1, .inl (cA, (100, .inl f1))), (r2, .inr (0, [.ref a2, .int m2_11])), (a2, .inl (cA, (100, .inl g2_12))), (r3, .inr (0, [.ref a3, .int m3_13])), (a3, .inl (cA, (100, .inl g3_14))), (y0, .inr (2, [.int (nI rn), .ref q0])), (q0, .inl (cAA, (2, .inr (.inr (.inr (.inr (w2f p0 p1))))))), (p0, .inl (cA, (L0.length, .inl (atL L0)))), (p1, .inl (cA, (L1.length, .inl (atL L1))))] := hD
            exact K m2_11 g2_12 m3_13 g3_14 _ _ _ hP hD hS (lv_sub hl [0, 8, 9, 10, 11] rfl)
          · exact absurd (fMs (okW_app (okW_turn (okW_of hJ0)) (okW_of hJ1)) (okW_app (okW_turn hW0) hW1) (mv_two (okW_of hJ0) (okW_of hJ1) hW0 hm0 hm1) c1110 c1119).2 c1137
  · exact absurd (by decide) c974
