/-! Network.areSides, make -/
def ASs (x m : Nat) : Nat → Nat → Bool
  | 0, _ => true
  | k + 1, t => if diX x m % 2 = diX x (tgX x m t) % 2 then false else ASs x m k (t + 1)
def ASn (x : Nat) : Nat → Nat → Bool
  | 0, _ => true
  | k + 1, m => if ASs x m (sN x) 0 = true then ASn x k (m + 1) else false
theorem as_all : ∀ x, x < 11 → ASn x (nN x) 0 = sdX x := by decide +kernel
theorem par_2 : ∀ a, a < 16 → ∀ b, b < 16 → (nI a &&& 1 = nI b &&& 1 ↔ a % 2 = b % 2) := by decide +kernel
theorem di_6 {x j : Nat} (hx : x < 11) (hj : j < nN x) : diX x j ≤ 6 := (tr_f hx hj).2.2.2.1
/-- what is read by areSides -/
def AI (x : Nat) (I : Nat → Nat → Int32) : Prop := I 50 9 = nI (nN x) ∧ I 51 6 = nI (sN x) ∧ (∀ j t, j < nN x → t < sN x → I 425 (j * 30 + t) = nI (tgX x j t)) ∧ ∀ j, j < nN x → I 426 j = nI (diX x j)
set_option maxRecDepth 100000 in
theorem as_s {d : Nat} {I : Nat → Nat → Int32} {L : Nat → Nat → Int64} {P : Nat → Nat → Option Nat} {n s : Nat} {Q : Qm} (hp : NP P) {x m t : Nat} (hx : x < 11) (hm : m < nN x) (ht : t < sN x) (h : AI x I) : WP (Call (d + 1)) (kod 15) (n, s) (endQ n s Q) 12 [.ref 50, .int (nI m), .int (nI t)] [] (I, L, P, n, s) = if diX x m % 2 = diX x (tgX x m t) % 2 then Q (some (.int 0)) (I, L, P, n, s) else WP (Call (d + 1)) (kod 15) (n, s) (endQ n s Q) 12 [.ref 50, .int (nI m), .int (nI (t + 1))] [] (I, L, P, n, s) := by
  obtain ⟨p50_0, p50_1, p50_2, p50_3, p50_4, p50_5, p50_6, p50_7, p51_0, p51_1, p51_2, p51_3, p51_4, pS, pN⟩ := id hp
  obtain ⟨h1, h2, h3, h4⟩ := h
  have hN := (nN_b x hx).2
  have hs3 := (sN_b x hx).2
  have htg := tg_lt hx hm ht
  have e1 := h3 m t hm ht
  have e2 := h4 m hm
  have e3 := h4 _ htg
  have e4 : (nI (diX x m) &&& 1 = nI (diX x (tgX x m t)) &&& 1) = (diX x m % 2 = diX x (tgX x m t) % 2) := propext (par_2 _ (by have := di_6 hx hm; omega) _ (by have := di_6 hx htg; omega))
  generalize tgX x m t = g at *
  rw [u15_12]
  simp (disch := first | assumption | omega | decide | (refine kdN ?_; omega) | (refine kdS ?_; omega)) only [u15_0, u15_1, u15_3, u15_4, u15_7, u15_10, u15_11, u15_13, u15_14, u15_17, u15_20, u15_23, u15_24, u15_25, u15_28, u15_29, u15_30, u15_31, u15_32, u15_35, u15_38, u15_41, u15_42, u15_43, u15_46, u15_49, u15_52, u15_55, u15_56, oF, oI, oJ, oIl, oLl, oAl, oIs, oLs, oAs, oInc, oBin, oAdd, oSub, oMul, oAnd, oOr, oXor, oDiv, oRem, oNeg, oLBin, oLAdd, oLSub, oLMul, oLDiv, oLNeg, oI2L, oL2I, oLcmp, oDup, oPop, oDupX1, oDup2, oEq, oNe, oLt, oGe, oGt, oLe, oCEq, oCNe, oCLt, oCGe, oCGt, oCLe, oGoto, oTab, oLook, oGetI, oGetR, oPutI, oPutZ, oPutR, oIald, oLald, oAald, oIast, oLast, oAast, oLen, oCallS, oCallV, oCallA, oCallI, oCallIA, oObj, oCopy, oIRet, oZRet, oLRet, oARet, oVRet, ↓gI_0, ↓gL_0, ↓gR_0, ↓gI_s, ↓gL_s, ↓gR_s, ↓pI_i, ↓pL_l, ↓pR_r, ↓p1_i, ↓p1_r, ↓pE_e, ↓pN_z, ↓pN_1, ↓pN_2, ↓pN_3, ↓pN_4, ↓pN_5, ↓pN_6, ↓rl_0, ↓rl_1, ↓rl_2, ↓rl_3, ↓rl_4, ↓hdR_r, ↓hdO_r, va_rf_s, endQ, sL1_0, sL1_ss, sL1_1i, sL1_1r, sL1_1n, sL1_1l, sL2_0, sL2_ss, sL2_1i, sL2_1r, sL2_1n, sL2_1l, List.getElem?_cons_zero, List.getElem?_cons_succ, Option.toList_some, Option.toList_none, List.cons_append, List.nil_append, Nat.reduceAdd, true_and, and_true, and_self, wA_s, wA_w, ↓reduceIte, ite_self, true_or, or_true, tv, tc, tl, tg, t0, tz, tw, tu, tup, tuL, nI_add, pk_mul, upd_s, tup_s, tuL_s, nI_0, i1, i2, i3, i4, nm1, p50_0, p50_1, p50_2, p50_3, p50_4, p50_5, p50_6, p50_7, p51_0, p51_1, p51_4, pS, pN, kd_50, kd_51, kd_52, ln_52, kd_87, ln_87, kd_424, ln_424, kd_425, ln_425, kd_426, ln_426, kd_429, kdN, kdS, h1, h2, ↓n_par hp, ↓n_target hp, e1, e2, e3, e4, z_0]
set_option maxRecDepth 100000 in
theorem as_e {d : Nat} {I : Nat → Nat → Int32} {L : Nat → Nat → Int64} {P : Nat → Nat → Option Nat} {n s : Nat} {Q : Qm} (hp : NP P) {x m : Nat} (hx : x < 11) (h : AI x I) : WP (Call (d + 1)) (kod 15) (n, s) (endQ n s Q) 12 [.ref 50, .int (nI m), .int (nI (sN x))] [] (I, L, P, n, s) = WP (Call (d + 1)) (kod 15) (n, s) (endQ n s Q) 2 [.ref 50, .int (nI (m + 1)), .int (nI (sN x))] [] (I, L, P, n, s) := by
  obtain ⟨p50_0, p50_1, p50_2, p50_3, p50_4, p50_5, p50_6, p50_7, p51_0, p51_1, p51_2, p51_3, p51_4, pS, pN⟩ := id hp
  obtain ⟨h1, h2, h3, h4⟩ := h
  have hs3 := (sN_b x hx).2
  rw [u15_12]
  simp (disch := first | assumption | omega | decide | (refine kdN ?_; omega) | (refine kdS ?_; omega)) only [u15_0, u15_1, u15_3, u15_4, u15_7, u15_10, u15_11, u15_13, u15_14, u15_17, u15_20, u15_23, u15_24, u15_25, u15_28, u15_29, u15_30, u15_31, u15_32, u15_35, u15_38, u15_41, u15_42, u15_43, u15_46, u15_49, u15_52, u15_55, u15_56, oF, oI, oJ, oIl, oLl, oAl, oIs, oLs, oAs, oInc, oBin, oAdd, oSub, oMul, oAnd, oOr, oXor, oDiv, oRem, oNeg, oLBin, oLAdd, oLSub, oLMul, oLDiv, oLNeg, oI2L, oL2I, oLcmp, oDup, oPop, oDupX1, oDup2, oEq, oNe, oLt, oGe, oGt, oLe, oCEq, oCNe, oCLt, oCGe, oCGt, oCLe, oGoto, oTab, oLook, oGetI, oGetR, oPutI, oPutZ, oPutR, oIald, oLald, oAald, oIast, oLast, oAast, oLen, oCallS, oCallV, oCallA, oCallI, oCallIA, oObj, oCopy, oIRet, oZRet, oLRet, oARet, oVRet, ↓gI_0, ↓gL_0, ↓gR_0, ↓gI_s, ↓gL_s, ↓gR_s, ↓pI_i, ↓pL_l, ↓pR_r, ↓p1_i, ↓p1_r, ↓pE_e, ↓pN_z, ↓pN_1, ↓pN_2, ↓pN_3, ↓pN_4, ↓pN_5, ↓pN_6, ↓rl_0, ↓rl_1, ↓rl_2, ↓rl_3, ↓rl_4, ↓hdR_r, ↓hdO_r, va_rf_s, endQ, sL1_0, sL1_ss, sL1_1i, sL1_1r, sL1_1n, sL1_1l, sL2_0, sL2_ss, sL2_1i, sL2_1r, sL2_1n, sL2_1l, List.getElem?_cons_zero, List.getElem?_cons_succ, Option.toList_some, Option.toList_none, List.cons_append, List.nil_append, Nat.reduceAdd, true_and, and_true, and_self, wA_s, wA_w, ↓reduceIte, ite_self, true_or, or_true, tv, tc, tl, tg, t0, tz, tw, tu, tup, tuL, nI_add, pk_mul, upd_s, tup_s, tuL_s, nI_0, i1, i2, i3, i4, nm1, p50_0, p50_1, p50_2, p50_3, p50_4, p50_5, p50_6, p50_7, p51_0, p51_1, p51_4, pS, pN, kd_50, kd_51, kd_52, ln_52, kd_87, ln_87, kd_424, ln_424, kd_425, ln_425, kd_426, ln_426, kd_429, kdN, kdS, h2]
theorem as_ss {d : Nat} {I : Nat → Nat → Int32} {L : Nat → Nat → Int64} {P : Nat → Nat → Option Nat} {n s : Nat} {Q : Qm} (hp : NP P) {x m : Nat} (hx : x < 11) (hm : m < nN x) (h : AI x I) : ∀ k t, k + t = sN x → WP (Call (d + 1)) (kod 15) (n, s) (endQ n s Q) 12 [.ref 50, .int (nI m), .int (nI t)] [] (I, L, P, n, s) = if ASs x m k t = true then WP (Call (d + 1)) (kod 15) (n, s) (endQ n s Q) 2 [.ref 50, .int (nI (m + 1)), .int (nI (sN x))] [] (I, L, P, n, s) else Q (some (.int 0)) (I, L, P, n, s)
  | 0, t, e => by
    have e2 : t = sN x := by omega
    subst e2
    rw [as_e hp hx h]
    simp only [ASs, if_true]
  | k + 1, t, e => by
    rw [as_s hp hx hm (by omega) h, as_ss hp hx hm h k (t + 1) (by omega)]
    simp only [ASs]
    split <;> simp
set_option maxRecDepth 100000 in
theorem as_b {d : Nat} {I : Nat → Nat → Int32} {L : Nat → Nat → Int64} {P : Nat → Nat → Option Nat} {n s : Nat} {Q : Qm} (hp : NP P) {x m : Nat} {v : Value} (hx : x < 11) (hm : m < nN x) (h : AI x I) : WP (Call (d + 1)) (kod 15) (n, s) (endQ n s Q) 2 [.ref 50, .int (nI m), v] [] (I, L, P, n, s) = WP (Call (d + 1)) (kod 15) (n, s) (endQ n s Q) 12 [.ref 50, .int (nI m), .int (nI 0)] [] (I, L, P, n, s) := by
  obtain ⟨p50_0, p50_1, p50_2, p50_3, p50_4, p50_5, p50_6, p50_7, p51_0, p51_1, p51_2, p51_3, p51_4, pS, pN⟩ := id hp
  obtain ⟨h1, h2, h3, h4⟩ := h
  have hN := (nN_b x hx).2
  rw [u15_2]
  simp (disch := first | assumption | omega | decide | (refine kdN ?_; omega) | (refine kdS ?_; omega)) only [u15_0, u15_1, u15_3, u15_4, u15_7, u15_10, u15_11, u15_13, u15_14, u15_17, u15_20, u15_23, u15_24, u15_25, u15_28, u15_29, u15_30, u15_31, u15_32, u15_35, u15_38, u15_41, u15_42, u15_43, u15_46, u15_49, u15_52, u15_55, u15_56, oF, oI, oJ, oIl, oLl, oAl, oIs, oLs, oAs, oInc, oBin, oAdd, oSub, oMul, oAnd, oOr, oXor, oDiv, oRem, oNeg, oLBin, oLAdd, oLSub, oLMul, oLDiv, oLNeg, oI2L, oL2I, oLcmp, oDup, oPop, oDupX1, oDup2, oEq, oNe, oLt, oGe, oGt, oLe, oCEq, oCNe, oCLt, oCGe, oCGt, oCLe, oGoto, oTab, oLook, oGetI, oGetR, oPutI, oPutZ, oPutR, oIald, oLald, oAald, oIast, oLast, oAast, oLen, oCallS, oCallV, oCallA, oCallI, oCallIA, oObj, oCopy, oIRet, oZRet, oLRet, oARet, oVRet, ↓gI_0, ↓gL_0, ↓gR_0, ↓gI_s, ↓gL_s, ↓gR_s, ↓pI_i, ↓pL_l, ↓pR_r, ↓p1_i, ↓p1_r, ↓pE_e, ↓pN_z, ↓pN_1, ↓pN_2, ↓pN_3, ↓pN_4, ↓pN_5, ↓pN_6, ↓rl_0, ↓rl_1, ↓rl_2, ↓rl_3, ↓rl_4, ↓hdR_r, ↓hdO_r, va_rf_s, endQ, sL1_0, sL1_ss, sL1_1i, sL1_1r, sL1_1n, sL1_1l, sL2_0, sL2_ss, sL2_1i, sL2_1r, sL2_1n, sL2_1l, List.getElem?_cons_zero, List.getElem?_cons_succ, Option.toList_some, Option.toList_none, List.cons_append, List.nil_append, Nat.reduceAdd, true_and, and_true, and_self, wA_s, wA_w, ↓reduceIte, ite_self, true_or, or_true, tv, tc, tl, tg, t0, tz, tw, tu, tup, tuL, nI_add, pk_mul, upd_s, tup_s, tuL_s, nI_0, i1, i2, i3, i4, nm1, p50_0, p50_1, p50_2, p50_3, p50_4, p50_5, p50_6, p50_7, p51_0, p51_1, p51_4, pS, pN, kd_50, kd_51, kd_52, ln_52, kd_87, ln_87, kd_424, ln_424, kd_425, ln_425, kd_426, ln_426, kd_429, kdN, kdS, h1]
set_option maxRecDepth 100000 in
theorem as_e2 {d : Nat} {I : Nat → Nat → Int32} {L : Nat → Nat → Int64} {P : Nat → Nat → Option Nat} {n s : Nat} {Q : Qm} (hp : NP P) {x : Nat} {v : Value} (hx : x < 11) (h : AI x I) : WP (Call (d + 1)) (kod 15) (n, s) (endQ n s Q) 2 [.ref 50, .int (nI (nN x)), v] [] (I, L, P, n, s) = Q (some (.int 1)) (I, L, P, n, s) := by
  obtain ⟨p50_0, p50_1, p50_2, p50_3, p50_4, p50_5, p50_6, p50_7, p51_0, p51_1, p51_2, p51_3, p51_4, pS, pN⟩ := id hp
  obtain ⟨h1, h2, h3, h4⟩ := h
  have hN := (nN_b x hx).2
  rw [u15_2]
  simp (disch := first | assumption | omega | decide | (refine kdN ?_; omega) | (refine kdS ?_; omega)) only [u15_0, u15_1, u15_3, u15_4, u15_7, u15_10, u15_11, u15_13, u15_14, u15_17, u15_20, u15_23, u15_24, u15_25, u15_28, u15_29, u15_30, u15_31, u15_32, u15_35, u15_38, u15_41, u15_42, u15_43, u15_46, u15_49, u15_52, u15_55, u15_56, oF, oI, oJ, oIl, oLl, oAl, oIs, oLs, oAs, oInc, oBin, oAdd, oSub, oMul, oAnd, oOr, oXor, oDiv, oRem, oNeg, oLBin, oLAdd, oLSub, oLMul, oLDiv, oLNeg, oI2L, oL2I, oLcmp, oDup, oPop, oDupX1, oDup2, oEq, oNe, oLt, oGe, oGt, oLe, oCEq, oCNe, oCLt, oCGe, oCGt, oCLe, oGoto, oTab, oLook, oGetI, oGetR, oPutI, oPutZ, oPutR, oIald, oLald, oAald, oIast, oLast, oAast, oLen, oCallS, oCallV, oCallA, oCallI, oCallIA, oObj, oCopy, oIRet, oZRet, oLRet, oARet, oVRet, ↓gI_0, ↓gL_0, ↓gR_0, ↓gI_s, ↓gL_s, ↓gR_s, ↓pI_i, ↓pL_l, ↓pR_r, ↓p1_i, ↓p1_r, ↓pE_e, ↓pN_z, ↓pN_1, ↓pN_2, ↓pN_3, ↓pN_4, ↓pN_5, ↓pN_6, ↓rl_0, ↓rl_1, ↓rl_2, ↓rl_3, ↓rl_4, ↓hdR_r, ↓hdO_r, va_rf_s, endQ, sL1_0, sL1_ss, sL1_1i, sL1_1r, sL1_1n, sL1_1l, sL2_0, sL2_ss, sL2_1i, sL2_1r, sL2_1n, sL2_1l, List.getElem?_cons_zero, List.getElem?_cons_succ, Option.toList_some, Option.toList_none, List.cons_append, List.nil_append, Nat.reduceAdd, true_and, and_true, and_self, wA_s, wA_w, ↓reduceIte, ite_self, true_or, or_true, tv, tc, tl, tg, t0, tz, tw, tu, tup, tuL, nI_add, pk_mul, upd_s, tup_s, tuL_s, nI_0, i1, i2, i3, i4, nm1, p50_0, p50_1, p50_2, p50_3, p50_4, p50_5, p50_6, p50_7, p51_0, p51_1, p51_4, pS, pN, kd_50, kd_51, kd_52, ln_52, kd_87, ln_87, kd_424, ln_424, kd_425, ln_425, kd_426, ln_426, kd_429, kdN, kdS, h1, z_1]
theorem as_nn {d : Nat} {I : Nat → Nat → Int32} {L : Nat → Nat → Int64} {P : Nat → Nat → Option Nat} {n s : Nat} {Q : Qm} (hp : NP P) {x : Nat} (hx : x < 11) (h : AI x I) : ∀ k m v, k + m = nN x → WP (Call (d + 1)) (kod 15) (n, s) (endQ n s Q) 2 [.ref 50, .int (nI m), v] [] (I, L, P, n, s) = Q (some (.int (bI (ASn x k m)))) (I, L, P, n, s)
  | 0, m, v, e => by
    have e2 : m = nN x := by omega
    subst e2
    rw [as_e2 hp hx h]
    rfl
  | k + 1, m, v, e => by
    rw [as_b hp hx (by omega) h, as_ss hp hx (by omega) h (sN x) 0 rfl, as_nn hp hx h k (m + 1) _ (by omega)]
    simp only [ASn]
    split <;> rfl
set_option maxRecDepth 100000 in
theorem n_sides {d : Nat} {I : Nat → Nat → Int32} {L : Nat → Nat → Int64} {P : Nat → Nat → Option Nat} {n s : Nat} {Q : Qm} (hp : NP P) {x : Nat} (hx : x < 11) (h : AI x I) : Call (d + 2) 15 [.ref 50] (I, L, P, n, s) Q = Q (some (.int (bI (sdX x)))) (I, L, P, n, s) := by
  have z := as_nn (d := d) (L := L) (n := n) (s := s) (Q := Q) hp hx h (nN x) 0 .null rfl
  rw [as_all x hx] at z
  simp (disch := first | assumption | omega | decide | (refine kdN ?_; omega) | (refine kdS ?_; omega)) only [c15, u15_0, u15_1, u15_3, u15_4, u15_7, u15_10, u15_11, u15_12, u15_13, u15_14, u15_17, u15_20, u15_23, u15_24, u15_25, u15_28, u15_29, u15_30, u15_31, u15_32, u15_35, u15_38, u15_41, u15_42, u15_43, u15_46, u15_49, u15_52, u15_55, u15_56, oF, oI, oJ, oIl, oLl, oAl, oIs, oLs, oAs, oInc, oBin, oAdd, oSub, oMul, oAnd, oOr, oXor, oDiv, oRem, oNeg, oLBin, oLAdd, oLSub, oLMul, oLDiv, oLNeg, oI2L, oL2I, oLcmp, oDup, oPop, oDupX1, oDup2, oEq, oNe, oLt, oGe, oGt, oLe, oCEq, oCNe, oCLt, oCGe, oCGt, oCLe, oGoto, oTab, oLook, oGetI, oGetR, oPutI, oPutZ, oPutR, oIald, oLald, oAald, oIast, oLast, oAast, oLen, oCallS, oCallV, oCallA, oCallI, oCallIA, oObj, oCopy, oIRet, oZRet, oLRet, oARet, oVRet, ↓gI_0, ↓gL_0, ↓gR_0, ↓gI_s, ↓gL_s, ↓gR_s, ↓pI_i, ↓pL_l, ↓pR_r, ↓p1_i, ↓p1_r, ↓pE_e, ↓pN_z, ↓pN_1, ↓pN_2, ↓pN_3, ↓pN_4, ↓pN_5, ↓pN_6, ↓rl_0, ↓rl_1, ↓rl_2, ↓rl_3, ↓rl_4, ↓hdR_r, ↓hdO_r, va_rf_s, endQ, sL1_0, sL1_ss, sL1_1i, sL1_1r, sL1_1n, sL1_1l, sL2_0, sL2_ss, sL2_1i, sL2_1r, sL2_1n, sL2_1l, List.getElem?_cons_zero, List.getElem?_cons_succ, Option.toList_some, Option.toList_none, List.cons_append, List.nil_append, Nat.reduceAdd, true_and, and_true, and_self, wA_s, wA_w, ↓reduceIte, ite_self, true_or, or_true, tv, tc, tl, tg, t0, tz, tw, tu, tup, tuL, nI_add, pk_mul, upd_s, tup_s, tuL_s, nI_0, i1, i2, i3, i4, nm1]
  rw [nI_0] at z
  exact z
set_option maxRecDepth 100000 in
theorem mk_1 {d : Nat} {I : Nat → Nat → Int32} {L : Nat → Nat → Int64} {P : Nat → Nat → Option Nat} {n s : Nat} {Q : Qm} (hp : NP P) {p q : Int32} : Call (d + 5) 10 [.ref 50, .int p, .int q] (I, L, P, n, s) Q = Call (d + 4) 71 [.ref 51, .int p] (wA I 50 (upd (I 50) 8 q), L, P, n, s) fun r h2 => WP (Call (d + 4)) (kod 10) (n, s) (endQ n s Q) 13 [.ref 50, .int p, .int q, .null] (r.toList ++ []) h2 := by
  obtain ⟨p50_0, p50_1, p50_2, p50_3, p50_4, p50_5, p50_6, p50_7, p51_0, p51_1, p51_2, p51_3, p51_4, pS, pN⟩ := id hp
  simp (disch := first | assumption | omega | decide | (refine kdN ?_; omega) | (refine kdS ?_; omega)) only [c10, u10_0, u10_1, u10_2, u10_5, u10_6, u10_9, u10_10, u10_14, u10_17, u10_19, u10_22, u10_23, u10_24, u10_27, u10_28, u10_31, u10_32, u10_33, u10_34, u10_35, u10_38, u10_39, u10_40, u10_41, u10_42, u10_45, u10_46, u10_47, u10_48, u10_49, u10_50, u10_53, u10_56, u10_57, u10_60, u10_63, u10_64, u10_65, u10_68, u10_71, u10_74, u10_75, u10_76, u10_79, u10_82, oF, oI, oJ, oIl, oLl, oAl, oIs, oLs, oAs, oInc, oBin, oAdd, oSub, oMul, oAnd, oOr, oXor, oDiv, oRem, oNeg, oLBin, oLAdd, oLSub, oLMul, oLDiv, oLNeg, oI2L, oL2I, oLcmp, oDup, oPop, oDupX1, oDup2, oEq, oNe, oLt, oGe, oGt, oLe, oCEq, oCNe, oCLt, oCGe, oCGt, oCLe, oGoto, oTab, oLook, oGetI, oGetR, oPutI, oPutZ, oPutR, oIald, oLald, oAald, oIast, oLast, oAast, oLen, oCallS, oCallV, oCallA, oCallI, oCallIA, oObj, oCopy, oIRet, oZRet, oLRet, oARet, oVRet, ↓gI_0, ↓gL_0, ↓gR_0, ↓gI_s, ↓gL_s, ↓gR_s, ↓pI_i, ↓pL_l, ↓pR_r, ↓p1_i, ↓p1_r, ↓pE_e, ↓pN_z, ↓pN_1, ↓pN_2, ↓pN_3, ↓pN_4, ↓pN_5, ↓pN_6, ↓rl_0, ↓rl_1, ↓rl_2, ↓rl_3, ↓rl_4, ↓hdR_r, ↓hdO_r, va_rf_s, endQ, sL1_0, sL1_ss, sL1_1i, sL1_1r, sL1_1n, sL1_1l, sL2_0, sL2_ss, sL2_1i, sL2_1r, sL2_1n, sL2_1l, List.getElem?_cons_zero, List.getElem?_cons_succ, Option.toList_some, Option.toList_none, List.cons_append, List.nil_append, Nat.reduceAdd, true_and, and_true, and_self, wA_s, wA_w, ↓reduceIte, ite_self, true_or, or_true, tv, tc, tl, tg, t0, tz, tw, tu, tup, tuL, nI_add, pk_mul, upd_s, tup_s, tuL_s, nI_0, i1, i2, i3, i4, nm1, p50_0, kd_50, kd_51]
