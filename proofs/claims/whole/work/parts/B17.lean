/-! Network.make as a whole -/
def mB0 (I : Nat → Nat → Int32) : Nat → Nat → Int32 := wA (wA (wA I 424 (fillF (I 424) 2401 (-2))) 50 (upd (I 50) 9 0)) 429 (q4 (I 429) 1 0 0 0)
set_option maxRecDepth 100000 in
theorem mk_2 {d : Nat} {I : Nat → Nat → Int32} {L : Nat → Nat → Int64} {P : Nat → Nat → Option Nat} {n s : Nat} {Q : Qm} (hp : NP P) {p q : Int32} : WP (Call (d + 4)) (kod 10) (n, s) (endQ n s Q) 13 [.ref 50, .int p, .int q, .null] [] (I, L, P, n, s) = Call (d + 4) 12 [.ref 50, .int 0, .int 0, .int 0] (mB0 I, L, P, n, s) fun r h2 => WP (Call (d + 4)) (kod 10) (n, s) (endQ n s Q) 45 [.ref 50, .int p, .int q, .null] (r.toList ++ []) h2 := by
  obtain ⟨p50_0, p50_1, p50_2, p50_3, p50_4, p50_5, p50_6, p50_7, p51_0, p51_1, p51_2, p51_3, p51_4, pS, pN⟩ := id hp
  unfold mB0
  simp (disch := first | assumption | omega | decide | (refine kdN ?_; omega) | (refine kdS ?_; omega)) only [u10_0, u10_1, u10_2, u10_5, u10_6, u10_9, u10_10, u10_13, u10_14, u10_17, u10_19, u10_22, u10_23, u10_24, u10_27, u10_28, u10_31, u10_32, u10_33, u10_34, u10_35, u10_38, u10_39, u10_40, u10_41, u10_42, u10_46, u10_47, u10_48, u10_49, u10_50, u10_53, u10_56, u10_57, u10_60, u10_63, u10_64, u10_65, u10_68, u10_71, u10_74, u10_75, u10_76, u10_79, u10_82, oF, oI, oJ, oIl, oLl, oAl, oIs, oLs, oAs, oInc, oBin, oAdd, oSub, oMul, oAnd, oOr, oXor, oDiv, oRem, oNeg, oLBin, oLAdd, oLSub, oLMul, oLDiv, oLNeg, oI2L, oL2I, oLcmp, oDup, oPop, oDupX1, oDup2, oEq, oNe, oLt, oGe, oGt, oLe, oCEq, oCNe, oCLt, oCGe, oCGt, oCLe, oGoto, oTab, oLook, oGetI, oGetR, oPutI, oPutZ, oPutR, oIald, oLald, oAald, oIast, oLast, oAast, oLen, oCallS, oCallV, oCallA, oCallI, oCallIA, oObj, oCopy, oIRet, oZRet, oLRet, oARet, oVRet, ↓gI_0, ↓gL_0, ↓gR_0, ↓gI_s, ↓gL_s, ↓gR_s, ↓pI_i, ↓pL_l, ↓pR_r, ↓p1_i, ↓p1_r, ↓pE_e, ↓pN_z, ↓pN_1, ↓pN_2, ↓pN_3, ↓pN_4, ↓pN_5, ↓pN_6, ↓rl_0, ↓rl_1, ↓rl_2, ↓rl_3, ↓rl_4, ↓hdR_r, ↓hdO_r, va_rf_s, endQ, sL1_0, sL1_ss, sL1_1i, sL1_1r, sL1_1n, sL1_1l, sL2_0, sL2_ss, sL2_1i, sL2_1r, sL2_1n, sL2_1l, List.getElem?_cons_zero, List.getElem?_cons_succ, Option.toList_some, Option.toList_none, List.cons_append, List.nil_append, Nat.reduceAdd, true_and, and_true, and_self, wA_s, wA_w, ↓reduceIte, ite_self, true_or, or_true, tv, tc, tl, tg, t0, tz, tw, tu, tup, tuL, nI_add, pk_mul, upd_s, tup_s, tuL_s, nI_0, i1, i2, i3, i4, nm1, p50_0, p50_1, p50_2, p50_3, p50_4, p50_5, p50_6, p50_7, p51_0, p51_1, p51_4, pS, pN, kd_50, kd_51, kd_52, ln_52, kd_87, ln_87, kd_424, ln_424, kd_425, ln_425, kd_426, ln_426, kd_429, kdN, kdS, ↓j_fill kd_424, ↓q_become]
set_option maxRecDepth 100000 in
theorem mk_3 {d : Nat} {I : Nat → Nat → Int32} {L : Nat → Nat → Int64} {P : Nat → Nat → Option Nat} {n s : Nat} {Q : Qm} {p q : Int32} {v : Value} {z : Int32} : WP (Call (d + 4)) (kod 10) (n, s) (endQ n s Q) 45 [.ref 50, .int p, .int q, v] [.int z] (I, L, P, n, s) = WP (Call (d + 4)) (kod 10) (n, s) (endQ n s Q) 48 [.ref 50, .int p, .int q, .int (nI 0)] [] (I, L, P, n, s) := by
  simp (disch := first | assumption | omega | decide | (refine kdN ?_; omega) | (refine kdS ?_; omega)) only [u10_0, u10_1, u10_2, u10_5, u10_6, u10_9, u10_10, u10_13, u10_14, u10_17, u10_19, u10_22, u10_23, u10_24, u10_27, u10_28, u10_31, u10_32, u10_33, u10_34, u10_35, u10_38, u10_39, u10_40, u10_41, u10_42, u10_45, u10_46, u10_47, u10_49, u10_50, u10_53, u10_56, u10_57, u10_60, u10_63, u10_64, u10_65, u10_68, u10_71, u10_74, u10_75, u10_76, u10_79, u10_82, oF, oI, oJ, oIl, oLl, oAl, oIs, oLs, oAs, oInc, oBin, oAdd, oSub, oMul, oAnd, oOr, oXor, oDiv, oRem, oNeg, oLBin, oLAdd, oLSub, oLMul, oLDiv, oLNeg, oI2L, oL2I, oLcmp, oDup, oPop, oDupX1, oDup2, oEq, oNe, oLt, oGe, oGt, oLe, oCEq, oCNe, oCLt, oCGe, oCGt, oCLe, oGoto, oTab, oLook, oGetI, oGetR, oPutI, oPutZ, oPutR, oIald, oLald, oAald, oIast, oLast, oAast, oLen, oCallS, oCallV, oCallA, oCallI, oCallIA, oObj, oCopy, oIRet, oZRet, oLRet, oARet, oVRet, ↓gI_0, ↓gL_0, ↓gR_0, ↓gI_s, ↓gL_s, ↓gR_s, ↓pI_i, ↓pL_l, ↓pR_r, ↓p1_i, ↓p1_r, ↓pE_e, ↓pN_z, ↓pN_1, ↓pN_2, ↓pN_3, ↓pN_4, ↓pN_5, ↓pN_6, ↓rl_0, ↓rl_1, ↓rl_2, ↓rl_3, ↓rl_4, ↓hdR_r, ↓hdO_r, va_rf_s, endQ, sL1_0, sL1_ss, sL1_1i, sL1_1r, sL1_1n, sL1_1l, sL2_0, sL2_ss, sL2_1i, sL2_1r, sL2_1n, sL2_1l, List.getElem?_cons_zero, List.getElem?_cons_succ, Option.toList_some, Option.toList_none, List.cons_append, List.nil_append, Nat.reduceAdd, true_and, and_true, and_self, wA_s, wA_w, ↓reduceIte, ite_self, true_or, or_true, tv, tc, tl, tg, t0, tz, tw, tu, tup, tuL, nI_add, pk_mul, upd_s, tup_s, tuL_s, nI_0, i1, i2, i3, i4, nm1]
set_option maxRecDepth 100000 in
theorem mk_4 {d : Nat} {I : Nat → Nat → Int32} {L : Nat → Nat → Int64} {P : Nat → Nat → Option Nat} {n s : Nat} {Q : Qm} (hp : NP P) {p q : Int32} {m c : Nat} (hm : m < c) (hc : c ≤ 336) (h9 : I 50 9 = nI c) : WP (Call (d + 4)) (kod 10) (n, s) (endQ n s Q) 48 [.ref 50, .int p, .int q, .int (nI m)] [] (I, L, P, n, s) = Call (d + 4) 11 [.ref 50, .int (nI m)] (I, L, P, n, s) fun r h2 => WP (Call (d + 4)) (kod 10) (n, s) (endQ n s Q) 68 [.ref 50, .int p, .int q, .int (nI m)] (r.toList ++ []) h2 := by
  obtain ⟨p50_0, p50_1, p50_2, p50_3, p50_4, p50_5, p50_6, p50_7, p51_0, p51_1, p51_2, p51_3, p51_4, pS, pN⟩ := id hp
  have e : (nI m < 336) = True := tl (b := 336) (by omega) (by decide)
  rw [u10_48]
  simp (disch := first | assumption | omega | decide | (refine kdN ?_; omega) | (refine kdS ?_; omega)) only [u10_0, u10_1, u10_2, u10_5, u10_6, u10_9, u10_10, u10_13, u10_14, u10_17, u10_19, u10_22, u10_23, u10_24, u10_27, u10_28, u10_31, u10_32, u10_33, u10_34, u10_35, u10_38, u10_39, u10_40, u10_41, u10_42, u10_45, u10_46, u10_47, u10_49, u10_50, u10_53, u10_56, u10_57, u10_60, u10_63, u10_64, u10_65, u10_71, u10_74, u10_75, u10_76, u10_79, u10_82, oF, oI, oJ, oIl, oLl, oAl, oIs, oLs, oAs, oInc, oBin, oAdd, oSub, oMul, oAnd, oOr, oXor, oDiv, oRem, oNeg, oLBin, oLAdd, oLSub, oLMul, oLDiv, oLNeg, oI2L, oL2I, oLcmp, oDup, oPop, oDupX1, oDup2, oEq, oNe, oLt, oGe, oGt, oLe, oCEq, oCNe, oCLt, oCGe, oCGt, oCLe, oGoto, oTab, oLook, oGetI, oGetR, oPutI, oPutZ, oPutR, oIald, oLald, oAald, oIast, oLast, oAast, oLen, oCallS, oCallV, oCallA, oCallI, oCallIA, oObj, oCopy, oIRet, oZRet, oLRet, oARet, oVRet, ↓gI_0, ↓gL_0, ↓gR_0, ↓gI_s, ↓gL_s, ↓gR_s, ↓pI_i, ↓pL_l, ↓pR_r, ↓p1_i, ↓p1_r, ↓pE_e, ↓pN_z, ↓pN_1, ↓pN_2, ↓pN_3, ↓pN_4, ↓pN_5, ↓pN_6, ↓rl_0, ↓rl_1, ↓rl_2, ↓rl_3, ↓rl_4, ↓hdR_r, ↓hdO_r, va_rf_s, endQ, sL1_0, sL1_ss, sL1_1i, sL1_1r, sL1_1n, sL1_1l, sL2_0, sL2_ss, sL2_1i, sL2_1r, sL2_1n, sL2_1l, List.getElem?_cons_zero, List.getElem?_cons_succ, Option.toList_some, Option.toList_none, List.cons_append, List.nil_append, Nat.reduceAdd, true_and, and_true, and_self, wA_s, wA_w, ↓reduceIte, ite_self, true_or, or_true, tv, tc, tl, tg, t0, tz, tw, tu, tup, tuL, nI_add, pk_mul, upd_s, tup_s, tuL_s, nI_0, i1, i2, i3, i4, nm1, p50_0, p50_1, p50_2, p50_3, p50_4, p50_5, p50_6, p50_7, p51_0, p51_1, p51_4, pS, pN, kd_50, kd_51, kd_52, ln_52, kd_87, ln_87, kd_424, ln_424, kd_425, ln_425, kd_426, ln_426, kd_429, kdN, kdS, h9, e]
set_option maxRecDepth 100000 in
theorem mk_5 {d : Nat} {I : Nat → Nat → Int32} {L : Nat → Nat → Int64} {P : Nat → Nat → Option Nat} {n s : Nat} {Q : Qm} {p q : Int32} {m : Nat} : WP (Call (d + 4)) (kod 10) (n, s) (endQ n s Q) 68 [.ref 50, .int p, .int q, .int (nI m)] [] (I, L, P, n, s) = WP (Call (d + 4)) (kod 10) (n, s) (endQ n s Q) 48 [.ref 50, .int p, .int q, .int (nI (m + 1))] [] (I, L, P, n, s) := by
  simp (disch := first | assumption | omega | decide | (refine kdN ?_; omega) | (refine kdS ?_; omega)) only [u10_0, u10_1, u10_2, u10_5, u10_6, u10_9, u10_10, u10_13, u10_14, u10_17, u10_19, u10_22, u10_23, u10_24, u10_27, u10_28, u10_31, u10_32, u10_33, u10_34, u10_35, u10_38, u10_39, u10_40, u10_41, u10_42, u10_45, u10_46, u10_47, u10_49, u10_50, u10_53, u10_56, u10_57, u10_60, u10_63, u10_64, u10_65, u10_68, u10_71, u10_74, u10_75, u10_76, u10_79, u10_82, oF, oI, oJ, oIl, oLl, oAl, oIs, oLs, oAs, oInc, oBin, oAdd, oSub, oMul, oAnd, oOr, oXor, oDiv, oRem, oNeg, oLBin, oLAdd, oLSub, oLMul, oLDiv, oLNeg, oI2L, oL2I, oLcmp, oDup, oPop, oDupX1, oDup2, oEq, oNe, oLt, oGe, oGt, oLe, oCEq, oCNe, oCLt, oCGe, oCGt, oCLe, oGoto, oTab, oLook, oGetI, oGetR, oPutI, oPutZ, oPutR, oIald, oLald, oAald, oIast, oLast, oAast, oLen, oCallS, oCallV, oCallA, oCallI, oCallIA, oObj, oCopy, oIRet, oZRet, oLRet, oARet, oVRet, ↓gI_0, ↓gL_0, ↓gR_0, ↓gI_s, ↓gL_s, ↓gR_s, ↓pI_i, ↓pL_l, ↓pR_r, ↓p1_i, ↓p1_r, ↓pE_e, ↓pN_z, ↓pN_1, ↓pN_2, ↓pN_3, ↓pN_4, ↓pN_5, ↓pN_6, ↓rl_0, ↓rl_1, ↓rl_2, ↓rl_3, ↓rl_4, ↓hdR_r, ↓hdO_r, va_rf_s, endQ, sL1_0, sL1_ss, sL1_1i, sL1_1r, sL1_1n, sL1_1l, sL2_0, sL2_ss, sL2_1i, sL2_1r, sL2_1n, sL2_1l, List.getElem?_cons_zero, List.getElem?_cons_succ, Option.toList_some, Option.toList_none, List.cons_append, List.nil_append, Nat.reduceAdd, true_and, and_true, and_self, wA_s, wA_w, ↓reduceIte, ite_self, true_or, or_true, tv, tc, tl, tg, t0, tz, tw, tu, tup, tuL, nI_add, pk_mul, upd_s, tup_s, tuL_s, nI_0, i1, i2, i3, i4, nm1]
set_option maxRecDepth 100000 in
theorem mk_6 {d : Nat} {I : Nat → Nat → Int32} {L : Nat → Nat → Int64} {P : Nat → Nat → Option Nat} {n s : Nat} {Q : Qm} (hp : NP P) {p q : Int32} {x : Nat} (hx : x < 11) (h : AI x I) : WP (Call (d + 4)) (kod 10) (n, s) (endQ n s Q) 48 [.ref 50, .int p, .int q, .int (nI (nN x))] [] (I, L, P, n, s) = Q none (wA I 50 (upd (I 50) 10 (bI (sdX x))), L, P, n, s) := by
  obtain ⟨p50_0, p50_1, p50_2, p50_3, p50_4, p50_5, p50_6, p50_7, p51_0, p51_1, p51_2, p51_3, p51_4, pS, pN⟩ := id hp
  have hN := (nN_b x hx).2
  have h9 := h.1
  rw [u10_48]
  simp (disch := first | assumption | omega | decide | (refine kdN ?_; omega) | (refine kdS ?_; omega)) only [u10_0, u10_1, u10_2, u10_5, u10_6, u10_9, u10_10, u10_13, u10_14, u10_17, u10_19, u10_22, u10_23, u10_24, u10_27, u10_28, u10_31, u10_32, u10_33, u10_34, u10_35, u10_38, u10_39, u10_40, u10_41, u10_42, u10_45, u10_46, u10_47, u10_49, u10_50, u10_53, u10_56, u10_57, u10_60, u10_63, u10_64, u10_65, u10_68, u10_71, u10_74, u10_75, u10_76, u10_79, u10_82, oF, oI, oJ, oIl, oLl, oAl, oIs, oLs, oAs, oInc, oBin, oAdd, oSub, oMul, oAnd, oOr, oXor, oDiv, oRem, oNeg, oLBin, oLAdd, oLSub, oLMul, oLDiv, oLNeg, oI2L, oL2I, oLcmp, oDup, oPop, oDupX1, oDup2, oEq, oNe, oLt, oGe, oGt, oLe, oCEq, oCNe, oCLt, oCGe, oCGt, oCLe, oGoto, oTab, oLook, oGetI, oGetR, oPutI, oPutZ, oPutR, oIald, oLald, oAald, oIast, oLast, oAast, oLen, oCallS, oCallV, oCallA, oCallI, oCallIA, oObj, oCopy, oIRet, oZRet, oLRet, oARet, oVRet, ↓gI_0, ↓gL_0, ↓gR_0, ↓gI_s, ↓gL_s, ↓gR_s, ↓pI_i, ↓pL_l, ↓pR_r, ↓p1_i, ↓p1_r, ↓pE_e, ↓pN_z, ↓pN_1, ↓pN_2, ↓pN_3, ↓pN_4, ↓pN_5, ↓pN_6, ↓rl_0, ↓rl_1, ↓rl_2, ↓rl_3, ↓rl_4, ↓hdR_r, ↓hdO_r, va_rf_s, endQ, sL1_0, sL1_ss, sL1_1i, sL1_1r, sL1_1n, sL1_1l, sL2_0, sL2_ss, sL2_1i, sL2_1r, sL2_1n, sL2_1l, List.getElem?_cons_zero, List.getElem?_cons_succ, Option.toList_some, Option.toList_none, List.cons_append, List.nil_append, Nat.reduceAdd, true_and, and_true, and_self, wA_s, wA_w, ↓reduceIte, ite_self, true_or, or_true, tv, tc, tl, tg, t0, tz, tw, tu, tup, tuL, nI_add, pk_mul, upd_s, tup_s, tuL_s, nI_0, i1, i2, i3, i4, nm1, p50_0, p50_1, p50_2, p50_3, p50_4, p50_5, p50_6, p50_7, p51_0, p51_1, p51_4, pS, pN, kd_50, kd_51, kd_52, ln_52, kd_87, ln_87, kd_424, ln_424, kd_425, ln_425, kd_426, ln_426, kd_429, kdN, kdS, h9, ↓n_sides hp hx h, bI_01]
theorem cd_0 : ∀ x, x < 11 → ((1 * nI (qW x) + 0) * nI (qW x) + 0) * nI (qW x) + 0 = nI (cdX x 0) ∧ nI (ndX x 0 0) = 1 ∧ nI (ndX x 0 1) = 0 ∧ nI (ndX x 0 2) = 0 ∧ nI (ndX x 0 3) = 0 ∧ diX x 0 = 0 ∧ paX x 0 = 0 ∧ lsX x 0 = 0 := by decide +kernel
theorem mB_c {x : Nat} {I : Nat → Nat → Int32} (hx : x < 11) (h : I 50 8 = nI (qW x)) : cdW (mB0 I) = nI (cdX x 0) := by
  rw [← (cd_0 x hx).1]
  unfold cdW mB0
  simp (disch := first | assumption | omega | decide | (refine kdN ?_; omega) | (refine kdS ?_; omega)) only [tw, wA_s, tu, h, q4_0, q4_1, q4_2, q4_3]
theorem GI_0 {x : Nat} {I0 I : Nat → Nat → Int32} (hx : x < 11) (h : SR x (sN x) I0 I) (h0 : I0 50 8 = nI (qW x)) : GI x 0 0 1 I0 (wA (wA (wA (wA (wA (wA (mB0 I) 424 (upd (mB0 I 424) (cdX x 0) (nI 0))) (88 + 0) (q4 (mB0 I (88 + 0)) (mB0 I 429 0) (mB0 I 429 1) (mB0 I 429 2) (mB0 I 429 3))) 427 (upd (mB0 I 427) 0 0)) 428 (upd (mB0 I 428) 0 0)) 426 (upd (mB0 I 426) 0 0)) 50 (upd (mB0 I 50) 9 (nI (0 + 1)))) := by
  obtain ⟨h1, h2, h3, h4, h5⟩ := h
  have hb := (sN_b x hx).2
  have hN := (nN_b x hx).1
  obtain ⟨-, d0, d1, d2, d3, d4, d5, d6⟩ := cd_0 x hx
  obtain ⟨-, -, -, -, t5, t6⟩ := tr_f hx hN
  unfold mB0
  refine ⟨⟨?_, ?_, ?_, ?_, by omega⟩, fun t ht k hk => ?_, fun t ht => ?_, fun j hj k hk => ?_, fun e he => ?_, fun j t hj ht => ?_, fun j hj => ?_, fun a ha => ?_⟩
  · simp (disch := first | assumption | omega | decide | (refine kdN ?_; omega) | (refine kdS ?_; omega)) only [tw, wA_s, tu]
    rw [h5 50 (by decide) (by decide) (by omega)]
    exact h0
  · simp (disch := first | assumption | omega | decide | (refine kdN ?_; omega) | (refine kdS ?_; omega)) only [tw, wA_s, upd_s]
  · simp (disch := first | assumption | omega | decide | (refine kdN ?_; omega) | (refine kdS ?_; omega)) only [tw]; exact h1
  · simp (disch := first | assumption | omega | decide | (refine kdN ?_; omega) | (refine kdS ?_; omega)) only [tw]; exact h2
  · simp (disch := first | assumption | omega | decide | (refine kdN ?_; omega) | (refine kdS ?_; omega)) only [tw]; exact h3 t ht k hk
  · simp (disch := first | assumption | omega | decide | (refine kdN ?_; omega) | (refine kdS ?_; omega)) only [tw]; exact h4 t ht
  · have e8 : j = 0 := by omega
    subst e8
    simp (disch := first | assumption | omega | decide | (refine kdN ?_; omega) | (refine kdS ?_; omega)) only [tw, wA_s]
    rcases (by omega : k = 0 ∨ k = 1 ∨ k = 2 ∨ k = 3) with rfl | rfl | rfl | rfl
    · exact d0.symm
    · exact d1.symm
    · exact d2.symm
    · exact d3.symm
  · simp (disch := first | assumption | omega | decide | (refine kdN ?_; omega) | (refine kdS ?_; omega)) only [tw, wA_s]
    by_cases e8 : e = cdX x 0
    · subst e8
      rw [upd_s, t5, if_pos (by decide)]
    · rw [upd_n e8, fillF_in he]
      have e9 : ¬ nuX x e = 0 := fun q => e8 (nu_i hx he q hN)
      rw [if_neg (by omega)]
  · omega
  · have e8 : j = 0 := by omega
    subst e8
    simp (disch := first | assumption | omega | decide | (refine kdN ?_; omega) | (refine kdS ?_; omega)) only [tw, wA_s, upd_s]
    rw [d4, d5, d6]
    exact ⟨rfl, rfl, rfl⟩
  · simp (disch := first | assumption | omega | decide | (refine kdN ?_; omega) | (refine kdS ?_; omega)) only [tw]
    exact h5 a (by omega) (by omega) (by omega)
theorem GI_A {x : Nat} {I0 I : Nat → Nat → Int32} (h : GI x (nN x) 0 (nN x) I0 I) : AI x I := ⟨h.1.2.1, h.1.2.2.2.1, fun j t hj ht => h.2.2.2.2.2.1 j t (Or.inl hj) ht, fun j hj => (h.2.2.2.2.2.2.1 j hj).1⟩
theorem GI_N {x : Nat} {I0 I : Nat → Nat → Int32} (hx : x < 11) (h : GI x (nN x) 0 (nN x) I0 I) : NC x (wA I 50 (upd (I 50) 10 (bI (sdX x)))) ∧ ∀ a, ¬ (50 ≤ a ∧ a < 430) → wA I 50 (upd (I 50) 10 (bI (sdX x))) a = I0 a := by
  obtain ⟨⟨h1, h2, h3, h4, h0⟩, h5, h6, h7, h8, h9, h10, h11⟩ := h
  have hb := (sN_b x hx).2
  refine ⟨⟨⟨hx, ?_, ?_, ?_, ?_, ?_⟩, fun t ht k hk => ?_, fun t ht => ?_, fun j hj k hk => ?_, fun e he => ?_, fun j hj t ht => ?_, fun j hj => ?_⟩, fun a ha => ?_⟩
  · simp (disch := first | assumption | omega | decide | (refine kdN ?_; omega) | (refine kdS ?_; omega)) only [wA_s, tu]; exact h1
  · simp (disch := first | assumption | omega | decide | (refine kdN ?_; omega) | (refine kdS ?_; omega)) only [wA_s, tu]; exact h2
  · simp (disch := first | assumption | omega | decide | (refine kdN ?_; omega) | (refine kdS ?_; omega)) only [wA_s, upd_s]
  · simp (disch := first | assumption | omega | decide | (refine kdN ?_; omega) | (refine kdS ?_; omega)) only [tw]; exact h3
  · simp (disch := first | assumption | omega | decide | (refine kdN ?_; omega) | (refine kdS ?_; omega)) only [tw]; exact h4
  · simp (disch := first | assumption | omega | decide | (refine kdN ?_; omega) | (refine kdS ?_; omega)) only [tw]; exact h5 t ht k hk
  · simp (disch := first | assumption | omega | decide | (refine kdN ?_; omega) | (refine kdS ?_; omega)) only [tw]; exact h6 t ht
  · simp (disch := first | assumption | omega | decide | (refine kdN ?_; omega) | (refine kdS ?_; omega)) only [tw]; exact h7 j hj k hk
  · simp (disch := first | assumption | omega | decide | (refine kdN ?_; omega) | (refine kdS ?_; omega)) only [tw]; exact h8 e he
  · simp (disch := first | assumption | omega | decide | (refine kdN ?_; omega) | (refine kdS ?_; omega)) only [tw]; exact h9 j t (Or.inl hj) ht
  · simp (disch := first | assumption | omega | decide | (refine kdN ?_; omega) | (refine kdS ?_; omega)) only [tw]; exact h10 j hj
  · rw [tw (by omega)]; exact h11 a ha
theorem mk_loop {d : Nat} {L : Nat → Nat → Int64} {P : Nat → Nat → Option Nat} {n s : Nat} {Q : Qm} (hp : NP P) {x : Nat} {I0 : Nat → Nat → Int32} {p q : Int32} (hx : x < 11) (kk : ∀ I', NC x I' → (∀ a, ¬ (50 ≤ a ∧ a < 430) → I' a = I0 a) → Q none (I', L, P, n, s)) : ∀ k m, k + m = nN x → ∀ I, GI x m 0 (ctX x m) I0 I → WP (Call (d + 4)) (kod 10) (n, s) (endQ n s Q) 48 [.ref 50, .int p, .int q, .int (nI m)] [] (I, L, P, n, s)
  | 0, m, e, I, h => by
    have e2 : m = nN x := by omega
    subst e2
    rw [(bf_0 hx).2] at h
    rw [mk_6 hp hx (GI_A h)]
    obtain ⟨g1, g2⟩ := GI_N hx h
    exact kk _ g1 g2
  | k + 1, m, e, I, h => by
    obtain ⟨b1, b2, b3⟩ := bf_n hx (show m < nN x by omega)
    have hN := (nN_b x hx).2
    rw [mk_4 hp b1 (by omega) h.1.2.1]
    refine n_explore (d := d) hp hx (by omega) rfl h fun I' h' => ?_
    rw [show (none : Option Value).toList ++ [] = ([] : List Value) from rfl, mk_5]
    exact mk_loop hp hx kk k (m + 1) (by omega) I' h'
theorem n_make {d : Nat} {I : Nat → Nat → Int32} {L : Nat → Nat → Int64} {P : Nat → Nat → Option Nat} {n s : Nat} {Q : Qm} (hp : NP P) {x : Nat} (hx : x < 11) (kk : ∀ I', NC x I' → (∀ a, ¬ (50 ≤ a ∧ a < 430) → I' a = I a) → Q none (I', L, P, n, s)) : Call (d + 5) 10 [.ref 50, .int (nI (pW x)), .int (nI (qW x))] (I, L, P, n, s) Q := by
  rw [mk_1 hp]
  refine n_smake (d := d) hp hx fun I1 h1 => ?_
  rw [show (none : Option Value).toList ++ [] = ([] : List Value) from rfl, mk_2 hp]
  have h8 : I1 50 8 = nI (qW x) := by
    rw [h1.2.2.2.2 50 (by decide) (by decide) (by omega), wA_s, upd_s]
  have hN := (nN_b x hx).1
  rw [n_enter (N := 0) (c := cdX x 0) hp (by decide) (by unfold mB0; simp (disch := first | assumption | omega | decide | (refine kdN ?_; omega) | (refine kdS ?_; omega)) only [tw, wA_s, upd_s]; rfl) (tr_f hx hN).2.2.2.2.2 (mB_c hx h8)]
  rw [show (some (Value.int (nI 0))).toList ++ [] = ([.int (nI 0)] : List Value) from rfl, mk_3]
  have g := GI_0 hx h1 (by rw [wA_s, upd_s])
  refine mk_loop hp hx (I0 := wA I 50 (upd (I 50) 8 (nI (qW x)))) (fun I' g1 g2 => kk I' g1 fun a ha => ?_) (nN x) 0 rfl _ ?_
  · rw [g2 a ha, tw (by omega)]
  · rw [(bf_0 hx).1]
    exact g
