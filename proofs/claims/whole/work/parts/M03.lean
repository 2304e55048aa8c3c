/-! the reference: classOf, comes -/
theorem iv_0 {q m : Nat} (hq : qOk q) (hm : m < q) : ivX q m = 0 ↔ m = 0 := by
  rcases hq with rfl | rfl | rfl
  · rcases (by omega : m = 0 ∨ m = 1 ∨ m = 2) with rfl | rfl | rfl <;> decide
  · rcases (by omega : m = 0 ∨ m = 1 ∨ m = 2 ∨ m = 3 ∨ m = 4) with rfl | rfl | rfl | rfl | rfl <;> decide
  · rcases (by omega : m = 0 ∨ m = 1 ∨ m = 2 ∨ m = 3 ∨ m = 4 ∨ m = 5 ∨ m = 6) with rfl | rfl | rfl | rfl | rfl | rfl | rfl <;> decide
def byS (q b m : Nat) : Nat := if b = 0 then ivX q m else b
theorem byS_lt {q b m : Nat} (hq : qOk q) (hb : b < q) (hm : m < q) : byS q b m < q := by
  unfold byS
  split
  · exact ivX_lt hq hm
  · exact hb
theorem sq_b {m q : Nat} (hq : qOk q) (hm : m < q) : m * m < 50 := by
  have h : m ≤ 6 := by rcases hq with rfl | rfl | rfl <;> omega
  have := Nat.mul_le_mul h h
  omega
set_option maxRecDepth 100000 in
theorem co_s {d : Nat} {I : Nat → Nat → Int32} {L : Nat → Nat → Int64} {P : Nat → Nat → Option Nat} {n s : Nat} {Q : Qm} {x i q k nm b : Nat} {v6 : Value} (hq : qOk q) (h1 : I 454 1 = nI q) (hx : kd x = 10) (hi : i + 3 < ln x) (bx : ln x ≤ 20000) (hk : k < 4) (hn : nm < 1000) (hb : b < q) : WP (Call (d + 1)) (kod 151) (n, s) (endQ n s Q) 8 [.ref 454, .ref x, .int (nI i), .int (nI nm), .int (nI b), .int (nI k), v6] [] (I, L, P, n, s) = WP (Call (d + 1)) (kod 151) (n, s) (endQ n s Q) 8 [.ref 454, .ref x, .int (nI i), .int (nI (nm + rsd q (I x (i + k)) * rsd q (I x (i + k)))), .int (nI (byS q b (rsd q (I x (i + k))))), .int (nI (k + 1)), .int (nI (rsd q (I x (i + k))))] [] (I, L, P, n, s) := by
  obtain ⟨g0, g1⟩ := qOk_b hq
  have e4 : (nI k < 4) = True := tl (b := 4) hk (by decide)
  have hm := rsd_lt g0 (I x (i + k))
  rw [u151_8]
  by_cases hb0 : b = 0
  · subst hb0
    by_cases hm0 : rsd q (I x (i + k)) = 0
    · have e5 : byS q 0 (rsd q (I x (i + k))) = 0 := by rw [byS, if_pos rfl, hm0]; exact (iv_0 hq g0).mpr rfl
      rw [e5]
      simp (disch := first | assumption | omega | decide | (refine kdN ?_; omega) | (refine kdS ?_; omega)) only [u151_0, u151_1, u151_2, u151_3, u151_5, u151_6, u151_10, u151_11, u151_14, u151_15, u151_16, u151_17, u151_19, u151_20, u151_21, u151_24, u151_26, u151_27, u151_29, u151_31, u151_32, u151_33, u151_34, u151_36, u151_39, u151_41, u151_44, u151_47, u151_48, u151_52, u151_54, u151_55, u151_56, u151_59, u151_60, u151_61, u151_64, u151_67, u151_70, u151_73, u151_76, u151_77, u151_78, u151_81, u151_82, u151_85, u151_86, u151_87, u151_88, u151_90, u151_91, u151_93, u151_95, u151_96, u151_99, u151_100, u151_103, u151_105, u151_106, u151_108, u151_109, u151_110, u151_111, u151_113, u151_114, u151_115, u151_118, u151_119, u151_120, u151_123, u151_124, u151_125, u151_127, u151_130, u151_133, u151_135, oF, oI, oJ, oIl, oLl, oAl, oIs, oLs, oAs, oInc, oBin, oAdd, oSub, oMul, oAnd, oOr, oXor, oDiv, oRem, oNeg, oLBin, oLAdd, oLSub, oLMul, oLDiv, oLNeg, oI2L, oL2I, oLcmp, oDup, oPop, oDupX1, oDup2, oEq, oNe, oLt, oGe, oGt, oLe, oCEq, oCNe, oCLt, oCGe, oCGt, oCLe, oGoto, oTab, oLook, oGetI, oGetR, oPutI, oPutZ, oPutR, oIald, oLald, oAald, oIast, oLast, oAast, oLen, oCallS, oCallV, oCallA, oCallI, oCallIA, oObj, oCopy, oIRet, oZRet, oLRet, oARet, oVRet, ↓gI_0, ↓gL_0, ↓gR_0, ↓gI_s, ↓gL_s, ↓gR_s, ↓pI_i, ↓pL_l, ↓pR_r, ↓p1_i, ↓p1_r, ↓pE_e, ↓pN_z, ↓pN_1, ↓pN_2, ↓pN_3, ↓pN_4, ↓pN_5, ↓pN_6, ↓rl_0, ↓rl_1, ↓rl_2, ↓rl_3, ↓rl_4, ↓hdR_r, ↓hdO_r, va_rf_s, endQ, sL1_0, sL1_ss, sL1_1i, sL1_1r, sL1_1n, sL1_1l, sL2_0, sL2_ss, sL2_1i, sL2_1r, sL2_1n, sL2_1l, List.getElem?_cons_zero, List.getElem?_cons_succ, Option.toList_some, Option.toList_none, List.cons_append, List.nil_append, Nat.reduceAdd, true_and, and_true, and_self, wA_s, wA_w, ↓reduceIte, ite_self, true_or, or_true, tv, tc, tl, tg, t0, tz, tw, tu, tup, tuL, nI_add, pk_mul, upd_s, tup_s, tuL_s, nI_0, i1, i2, i3, i4, nm1, kd_454, e4, hx, h1, ↓m_mod hq h1, hm0, e_0, Int32.mul_zero, Int32.add_zero, Nat.mul_zero, Nat.add_zero]
    · have e5 : byS q 0 (rsd q (I x (i + k))) = ivX q (rsd q (I x (i + k))) := by rw [byS, if_pos rfl]
      rw [e5]
      generalize hg : rsd q (I x (i + k)) = m at *
      have hm1 : 0 < m := by omega
      simp (disch := first | assumption | omega | decide | (refine kdN ?_; omega) | (refine kdS ?_; omega)) only [u151_0, u151_1, u151_2, u151_3, u151_5, u151_6, u151_10, u151_11, u151_14, u151_15, u151_16, u151_17, u151_19, u151_20, u151_21, u151_24, u151_26, u151_27, u151_29, u151_31, u151_32, u151_33, u151_34, u151_36, u151_39, u151_41, u151_44, u151_47, u151_48, u151_52, u151_54, u151_55, u151_56, u151_59, u151_60, u151_61, u151_64, u151_67, u151_70, u151_73, u151_76, u151_77, u151_78, u151_81, u151_82, u151_85, u151_86, u151_87, u151_88, u151_90, u151_91, u151_93, u151_95, u151_96, u151_99, u151_100, u151_103, u151_105, u151_106, u151_108, u151_109, u151_110, u151_111, u151_113, u151_114, u151_115, u151_118, u151_119, u151_120, u151_123, u151_124, u151_125, u151_127, u151_130, u151_133, u151_135, oF, oI, oJ, oIl, oLl, oAl, oIs, oLs, oAs, oInc, oBin, oAdd, oSub, oMul, oAnd, oOr, oXor, oDiv, oRem, oNeg, oLBin, oLAdd, oLSub, oLMul, oLDiv, oLNeg, oI2L, oL2I, oLcmp, oDup, oPop, oDupX1, oDup2, oEq, oNe, oLt, oGe, oGt, oLe, oCEq, oCNe, oCLt, oCGe, oCGt, oCLe, oGoto, oTab, oLook, oGetI, oGetR, oPutI, oPutZ, oPutR, oIald, oLald, oAald, oIast, oLast, oAast, oLen, oCallS, oCallV, oCallA, oCallI, oCallIA, oObj, oCopy, oIRet, oZRet, oLRet, oARet, oVRet, ↓gI_0, ↓gL_0, ↓gR_0, ↓gI_s, ↓gL_s, ↓gR_s, ↓pI_i, ↓pL_l, ↓pR_r, ↓p1_i, ↓p1_r, ↓pE_e, ↓pN_z, ↓pN_1, ↓pN_2, ↓pN_3, ↓pN_4, ↓pN_5, ↓pN_6, ↓rl_0, ↓rl_1, ↓rl_2, ↓rl_3, ↓rl_4, ↓hdR_r, ↓hdO_r, va_rf_s, endQ, sL1_0, sL1_ss, sL1_1i, sL1_1r, sL1_1n, sL1_1l, sL2_0, sL2_ss, sL2_1i, sL2_1r, sL2_1n, sL2_1l, List.getElem?_cons_zero, List.getElem?_cons_succ, Option.toList_some, Option.toList_none, List.cons_append, List.nil_append, Nat.reduceAdd, true_and, and_true, and_self, wA_s, wA_w, ↓reduceIte, ite_self, true_or, or_true, tv, tc, tl, tg, t0, tz, tw, tu, tup, tuL, nI_add, pk_mul, upd_s, tup_s, tuL_s, nI_0, i1, i2, i3, i4, nm1, kd_454, e4, hx, ↓m_mod hq h1, hg, e_0]
      rw [ci hq h1 hm1 hm]
      simp (disch := first | assumption | omega | decide | (refine kdN ?_; omega) | (refine kdS ?_; omega)) only [u151_0, u151_1, u151_2, u151_3, u151_5, u151_6, u151_10, u151_11, u151_14, u151_15, u151_16, u151_17, u151_19, u151_20, u151_21, u151_24, u151_26, u151_27, u151_29, u151_31, u151_32, u151_33, u151_34, u151_36, u151_39, u151_41, u151_44, u151_47, u151_48, u151_52, u151_54, u151_55, u151_56, u151_59, u151_60, u151_61, u151_64, u151_67, u151_70, u151_73, u151_76, u151_77, u151_78, u151_81, u151_82, u151_85, u151_86, u151_87, u151_88, u151_90, u151_91, u151_93, u151_95, u151_96, u151_99, u151_100, u151_103, u151_105, u151_106, u151_108, u151_109, u151_110, u151_111, u151_113, u151_114, u151_115, u151_118, u151_119, u151_120, u151_123, u151_124, u151_125, u151_127, u151_130, u151_133, u151_135, oF, oI, oJ, oIl, oLl, oAl, oIs, oLs, oAs, oInc, oBin, oAdd, oSub, oMul, oAnd, oOr, oXor, oDiv, oRem, oNeg, oLBin, oLAdd, oLSub, oLMul, oLDiv, oLNeg, oI2L, oL2I, oLcmp, oDup, oPop, oDupX1, oDup2, oEq, oNe, oLt, oGe, oGt, oLe, oCEq, oCNe, oCLt, oCGe, oCGt, oCLe, oGoto, oTab, oLook, oGetI, oGetR, oPutI, oPutZ, oPutR, oIald, oLald, oAald, oIast, oLast, oAast, oLen, oCallS, oCallV, oCallA, oCallI, oCallIA, oObj, oCopy, oIRet, oZRet, oLRet, oARet, oVRet, ↓gI_0, ↓gL_0, ↓gR_0, ↓gI_s, ↓gL_s, ↓gR_s, ↓pI_i, ↓pL_l, ↓pR_r, ↓p1_i, ↓p1_r, ↓pE_e, ↓pN_z, ↓pN_1, ↓pN_2, ↓pN_3, ↓pN_4, ↓pN_5, ↓pN_6, ↓rl_0, ↓rl_1, ↓rl_2, ↓rl_3, ↓rl_4, ↓hdR_r, ↓hdO_r, va_rf_s, endQ, sL1_0, sL1_ss, sL1_1i, sL1_1r, sL1_1n, sL1_1l, sL2_0, sL2_ss, sL2_1i, sL2_1r, sL2_1n, sL2_1l, List.getElem?_cons_zero, List.getElem?_cons_succ, Option.toList_some, Option.toList_none, List.cons_append, List.nil_append, Nat.reduceAdd, true_and, and_true, and_self, wA_s, wA_w, ↓reduceIte, ite_self, true_or, or_true, tv, tc, tl, tg, t0, tz, tw, tu, tup, tuL, nI_add, pk_mul, upd_s, tup_s, tuL_s, nI_0, i1, i2, i3, i4, nm1, e_0]
  · have e5 : byS q b (rsd q (I x (i + k))) = b := by rw [byS, if_neg hb0]
    rw [e5]
    have hb1 : 0 < b := by omega
    simp (disch := first | assumption | omega | decide | (refine kdN ?_; omega) | (refine kdS ?_; omega)) only [u151_0, u151_1, u151_2, u151_3, u151_5, u151_6, u151_10, u151_11, u151_14, u151_15, u151_16, u151_17, u151_19, u151_20, u151_21, u151_24, u151_26, u151_27, u151_29, u151_31, u151_32, u151_33, u151_34, u151_36, u151_39, u151_41, u151_44, u151_47, u151_48, u151_52, u151_54, u151_55, u151_56, u151_59, u151_60, u151_61, u151_64, u151_67, u151_70, u151_73, u151_76, u151_77, u151_78, u151_81, u151_82, u151_85, u151_86, u151_87, u151_88, u151_90, u151_91, u151_93, u151_95, u151_96, u151_99, u151_100, u151_103, u151_105, u151_106, u151_108, u151_109, u151_110, u151_111, u151_113, u151_114, u151_115, u151_118, u151_119, u151_120, u151_123, u151_124, u151_125, u151_127, u151_130, u151_133, u151_135, oF, oI, oJ, oIl, oLl, oAl, oIs, oLs, oAs, oInc, oBin, oAdd, oSub, oMul, oAnd, oOr, oXor, oDiv, oRem, oNeg, oLBin, oLAdd, oLSub, oLMul, oLDiv, oLNeg, oI2L, oL2I, oLcmp, oDup, oPop, oDupX1, oDup2, oEq, oNe, oLt, oGe, oGt, oLe, oCEq, oCNe, oCLt, oCGe, oCGt, oCLe, oGoto, oTab, oLook, oGetI, oGetR, oPutI, oPutZ, oPutR, oIald, oLald, oAald, oIast, oLast, oAast, oLen, oCallS, oCallV, oCallA, oCallI, oCallIA, oObj, oCopy, oIRet, oZRet, oLRet, oARet, oVRet, ↓gI_0, ↓gL_0, ↓gR_0, ↓gI_s, ↓gL_s, ↓gR_s, ↓pI_i, ↓pL_l, ↓pR_r, ↓p1_i, ↓p1_r, ↓pE_e, ↓pN_z, ↓pN_1, ↓pN_2, ↓pN_3, ↓pN_4, ↓pN_5, ↓pN_6, ↓rl_0, ↓rl_1, ↓rl_2, ↓rl_3, ↓rl_4, ↓hdR_r, ↓hdO_r, va_rf_s, endQ, sL1_0, sL1_ss, sL1_1i, sL1_1r, sL1_1n, sL1_1l, sL2_0, sL2_ss, sL2_1i, sL2_1r, sL2_1n, sL2_1l, List.getElem?_cons_zero, List.getElem?_cons_succ, Option.toList_some, Option.toList_none, List.cons_append, List.nil_append, Nat.reduceAdd, true_and, and_true, and_self, wA_s, wA_w, ↓reduceIte, ite_self, true_or, or_true, tv, tc, tl, tg, t0, tz, tw, tu, tup, tuL, nI_add, pk_mul, upd_s, tup_s, tuL_s, nI_0, i1, i2, i3, i4, nm1, kd_454, e4, hx, ↓m_mod hq h1]
set_option maxRecDepth 100000 in
theorem co_t {d : Nat} {I : Nat → Nat → Int32} {L : Nat → Nat → Int64} {P : Nat → Nat → Option Nat} {n s : Nat} {Q : Qm} {x i q k b c : Nat} {nm : Int32} (hq : qOk q) (h1 : I 454 1 = nI q) (hx : kd x = 10) (hi : i + 3 < ln x) (bx : ln x ≤ 20000) (hk : k < 4) (hb : b < q) : WP (Call (d + 1)) (kod 151) (n, s) (endQ n s Q) 93 [.ref 454, .ref x, .int (nI i), .int nm, .int (nI b), .int (nI c), .int (nI k)] [] (I, L, P, n, s) = WP (Call (d + 1)) (kod 151) (n, s) (endQ n s Q) 93 [.ref 454, .ref x, .int (nI i), .int nm, .int (nI b), .int (nI (q * c + b * rsd q (I x (i + k)) % q)), .int (nI (k + 1))] [] (I, L, P, n, s) := by
  obtain ⟨g0, g1⟩ := qOk_b hq
  have e4 : (nI k < 4) = True := tl (b := 4) hk (by decide)
  have hm := rsd_lt g0 (I x (i + k))
  have hr : nI (b * rsd q (I x (i + k))) - nI (b * rsd q (I x (i + k))) / nI q * nI q = nI (b * rsd q (I x (i + k)) % q) := pk_rem (by have := Nat.mul_lt_mul'' hb hm; have : q * q < 100 * 100 := Nat.mul_lt_mul'' g1 g1; omega) g0 (by omega)
  rw [u151_93]
  simp (disch := first | assumption | omega | decide | (refine kdN ?_; omega) | (refine kdS ?_; omega)) only [u151_0, u151_1, u151_2, u151_3, u151_5, u151_6, u151_8, u151_10, u151_11, u151_14, u151_15, u151_16, u151_17, u151_19, u151_20, u151_21, u151_24, u151_26, u151_27, u151_29, u151_31, u151_32, u151_33, u151_34, u151_36, u151_39, u151_41, u151_44, u151_47, u151_48, u151_50, u151_52, u151_54, u151_55, u151_56, u151_59, u151_60, u151_61, u151_64, u151_67, u151_70, u151_73, u151_76, u151_77, u151_78, u151_81, u151_82, u151_85, u151_86, u151_87, u151_88, u151_90, u151_91, u151_95, u151_96, u151_99, u151_100, u151_103, u151_105, u151_106, u151_108, u151_109, u151_110, u151_111, u151_113, u151_114, u151_115, u151_118, u151_119, u151_120, u151_123, u151_124, u151_125, u151_127, u151_130, u151_133, u151_135, oF, oI, oJ, oIl, oLl, oAl, oIs, oLs, oAs, oInc, oBin, oAdd, oSub, oMul, oAnd, oOr, oXor, oDiv, oRem, oNeg, oLBin, oLAdd, oLSub, oLMul, oLDiv, oLNeg, oI2L, oL2I, oLcmp, oDup, oPop, oDupX1, oDup2, oEq, oNe, oLt, oGe, oGt, oLe, oCEq, oCNe, oCLt, oCGe, oCGt, oCLe, oGoto, oTab, oLook, oGetI, oGetR, oPutI, oPutZ, oPutR, oIald, oLald, oAald, oIast, oLast, oAast, oLen, oCallS, oCallV, oCallA, oCallI, oCallIA, oObj, oCopy, oIRet, oZRet, oLRet, oARet, oVRet, ↓gI_0, ↓gL_0, ↓gR_0, ↓gI_s, ↓gL_s, ↓gR_s, ↓pI_i, ↓pL_l, ↓pR_r, ↓p1_i, ↓p1_r, ↓pE_e, ↓pN_z, ↓pN_1, ↓pN_2, ↓pN_3, ↓pN_4, ↓pN_5, ↓pN_6, ↓rl_0, ↓rl_1, ↓rl_2, ↓rl_3, ↓rl_4, ↓hdR_r, ↓hdO_r, va_rf_s, endQ, sL1_0, sL1_ss, sL1_1i, sL1_1r, sL1_1n, sL1_1l, sL2_0, sL2_ss, sL2_1i, sL2_1r, sL2_1n, sL2_1l, List.getElem?_cons_zero, List.getElem?_cons_succ, Option.toList_some, Option.toList_none, List.cons_append, List.nil_append, Nat.reduceAdd, true_and, and_true, and_self, wA_s, wA_w, ↓reduceIte, ite_self, true_or, or_true, tv, tc, tl, tg, t0, tz, tw, tu, tup, tuL, nI_add, pk_mul, upd_s, tup_s, tuL_s, nI_0, i1, i2, i3, i4, nm1, kd_454, e4, hx, h1, ↓m_mod hq h1, hr, not_false_eq_true]
def nmF (q a b c e : Nat) : Nat := 0 + a * a + b * b + c * c + e * e
theorem by_f {q a b c e : Nat} (hq : qOk q) (ha : a < q) (hb : b < q) (hc : c < q) : byS q (byS q (byS q (byS q 0 a) b) c) e = fcR q a b c e := by
  have h1 := iv_0 hq ha
  have h2 := iv_0 hq hb
  have h3 := iv_0 hq hc
  unfold fcR byS
  by_cases a0 : a = 0
  · by_cases b0 : b = 0
    · by_cases c0 : c = 0
      · simp [a0, b0, c0, iv_0 hq (qOk_b hq).1]
      · have : ¬ ivX q c = 0 := fun z => c0 (h3.mp z)
        simp [a0, b0, c0, this, iv_0 hq (qOk_b hq).1]
    · have : ¬ ivX q b = 0 := fun z => b0 (h2.mp z)
      simp [a0, b0, this, iv_0 hq (qOk_b hq).1]
  · have : ¬ ivX q a = 0 := fun z => a0 (h1.mp z)
    simp [a0, this]
set_option maxRecDepth 100000 in
theorem m_class {d : Nat} {I : Nat → Nat → Int32} {L : Nat → Nat → Int64} {P : Nat → Nat → Option Nat} {n s : Nat} {Q : Qm} {x i q : Nat} {r0 r1 r2 r3 : Nat} (hq : qOk q) (h1 : I 454 1 = nI q) (hx : kd x = 10) (hi : i + 3 < ln x) (bx : ln x ≤ 20000) (e0 : rsd q (I x (i + 0)) = r0) (e1 : rsd q (I x (i + 1)) = r1) (e2 : rsd q (I x (i + 2)) = r2) (e3 : rsd q (I x (i + 3)) = r3) : Call (d + 2) 151 [.ref 454, .ref x, .int (nI i)] (I, L, P, n, s) Q = Q (some (.int (if nmF q r0 r1 r2 r3 % q = 0 then -1 else nI (cdR q r0 r1 r2 r3)))) (I, L, P, n, s) := by
  obtain ⟨g0, g1⟩ := qOk_b hq
  have b0 := rsd_lt g0 (I x (i + 0))
  have b1 := rsd_lt g0 (I x (i + 1))
  have b2 := rsd_lt g0 (I x (i + 2))
  have b3 := rsd_lt g0 (I x (i + 3))
  rw [e0] at b0
  rw [e1] at b1
  rw [e2] at b2
  rw [e3] at b3
  have s0 := sq_b hq b0
  have s1 := sq_b hq b1
  have s2 := sq_b hq b2
  have s3 := sq_b hq b3
  have t0 := byS_lt hq g0 b0
  have t1 := byS_lt hq t0 b1
  have t2 := byS_lt hq t1 b2
  have t3 := byS_lt hq t2 b3
  have z0 := co_s (d := d) (L := L) (P := P) (n := n) (s := s) (Q := Q) (v6 := .null) hq h1 hx hi bx (k := 0) (nm := 0) (b := 0) (by decide) (by omega) g0
  rw [e0] at z0
  have z1 := co_s (d := d) (L := L) (P := P) (n := n) (s := s) (Q := Q) (v6 := .int (nI r0)) hq h1 hx hi bx (k := 1) (by decide) (show 0 + r0 * r0 < 1000 by omega) t0
  rw [e1] at z1
  have z2 := co_s (d := d) (L := L) (P := P) (n := n) (s := s) (Q := Q) (v6 := .int (nI r1)) hq h1 hx hi bx (k := 2) (by decide) (show 0 + r0 * r0 + r1 * r1 < 1000 by omega) t1
  rw [e2] at z2
  have z3 := co_s (d := d) (L := L) (P := P) (n := n) (s := s) (Q := Q) (v6 := .int (nI r2)) hq h1 hx hi bx (k := 3) (by decide) (show 0 + r0 * r0 + r1 * r1 + r2 * r2 < 1000 by omega) t2
  rw [e3] at z3
  have z := ((z0.trans z1).trans z2).trans z3
  rw [by_f hq b0 b1 b2] at z t3
  have hw : 0 + r0 * r0 + r1 * r1 + r2 * r2 + r3 * r3 = nmF q r0 r1 r2 r3 := rfl
  rw [hw] at z
  have hwb : nmF q r0 r1 r2 r3 < 1000 := by rw [← hw]; omega
  have hr : nI (nmF q r0 r1 r2 r3) - nI (nmF q r0 r1 r2 r3) / nI q * nI q = nI (nmF q r0 r1 r2 r3 % q) := pk_rem (by omega) g0 (by omega)
  have hlt := Nat.mod_lt (nmF q r0 r1 r2 r3) g0
  have e4 : ((4 : Int32) < 4) = False := by decide
  have z4 : nI (3 + 1) = 4 := rfl
  rw [z4] at z
  simp (disch := first | assumption | omega | decide | (refine kdN ?_; omega) | (refine kdS ?_; omega)) only [c151, u151_0, u151_1, u151_2, u151_3, u151_5, u151_6, u151_10, u151_11, u151_14, u151_15, u151_16, u151_17, u151_19, u151_20, u151_21, u151_24, u151_26, u151_27, u151_29, u151_31, u151_32, u151_33, u151_34, u151_36, u151_39, u151_41, u151_44, u151_47, u151_48, u151_50, u151_52, u151_54, u151_55, u151_56, u151_59, u151_60, u151_61, u151_64, u151_67, u151_70, u151_73, u151_76, u151_77, u151_78, u151_81, u151_82, u151_85, u151_86, u151_87, u151_88, u151_90, u151_91, u151_93, u151_95, u151_96, u151_99, u151_100, u151_103, u151_105, u151_106, u151_108, u151_109, u151_110, u151_111, u151_113, u151_114, u151_115, u151_118, u151_119, u151_120, u151_123, u151_124, u151_125, u151_127, u151_130, u151_133, u151_135, oF, oI, oJ, oIl, oLl, oAl, oIs, oLs, oAs, oInc, oBin, oAdd, oSub, oMul, oAnd, oOr, oXor, oDiv, oRem, oNeg, oLBin, oLAdd, oLSub, oLMul, oLDiv, oLNeg, oI2L, oL2I, oLcmp, oDup, oPop, oDupX1, oDup2, oEq, oNe, oLt, oGe, oGt, oLe, oCEq, oCNe, oCLt, oCGe, oCGt, oCLe, oGoto, oTab, oLook, oGetI, oGetR, oPutI, oPutZ, oPutR, oIald, oLald, oAald, oIast, oLast, oAast, oLen, oCallS, oCallV, oCallA, oCallI, oCallIA, oObj, oCopy, oIRet, oZRet, oLRet, oARet, oVRet, ↓gI_0, ↓gL_0, ↓gR_0, ↓gI_s, ↓gL_s, ↓gR_s, ↓pI_i, ↓pL_l, ↓pR_r, ↓p1_i, ↓p1_r, ↓pE_e, ↓pN_z, ↓pN_1, ↓pN_2, ↓pN_3, ↓pN_4, ↓pN_5, ↓pN_6, ↓rl_0, ↓rl_1, ↓rl_2, ↓rl_3, ↓rl_4, ↓hdR_r, ↓hdO_r, va_rf_s, endQ, sL1_0, sL1_ss, sL1_1i, sL1_1r, sL1_1n, sL1_1l, sL2_0, sL2_ss, sL2_1i, sL2_1r, sL2_1n, sL2_1l, List.getElem?_cons_zero, List.getElem?_cons_succ, Option.toList_some, Option.toList_none, List.cons_append, List.nil_append, Nat.reduceAdd, true_and, and_true, and_self, wA_s, wA_w, ↓reduceIte, ite_self, true_or, or_true, tv, tc, tl, tg, t0, tz, tw, tu, tup, tuL, nI_add, pk_mul, upd_s, tup_s, tuL_s, nI_0, i1, i2, i3, i4, nm1]
  rw [nI_0] at z
  refine z.trans ?_
  rw [u151_8]
  by_cases hz : nmF q r0 r1 r2 r3 % q = 0
  · rw [if_pos hz]
    simp (disch := first | assumption | omega | decide | (refine kdN ?_; omega) | (refine kdS ?_; omega)) only [u151_0, u151_1, u151_2, u151_3, u151_5, u151_6, u151_10, u151_11, u151_14, u151_15, u151_16, u151_17, u151_19, u151_20, u151_21, u151_24, u151_26, u151_27, u151_29, u151_31, u151_32, u151_33, u151_34, u151_36, u151_39, u151_41, u151_44, u151_47, u151_48, u151_50, u151_52, u151_54, u151_55, u151_56, u151_59, u151_60, u151_61, u151_64, u151_67, u151_70, u151_73, u151_76, u151_77, u151_78, u151_81, u151_82, u151_85, u151_86, u151_87, u151_88, u151_90, u151_91, u151_95, u151_96, u151_99, u151_100, u151_103, u151_105, u151_106, u151_108, u151_109, u151_110, u151_111, u151_113, u151_114, u151_115, u151_118, u151_119, u151_120, u151_123, u151_124, u151_125, u151_127, u151_130, u151_133, u151_135, oF, oI, oJ, oIl, oLl, oAl, oIs, oLs, oAs, oInc, oBin, oAdd, oSub, oMul, oAnd, oOr, oXor, oDiv, oRem, oNeg, oLBin, oLAdd, oLSub, oLMul, oLDiv, oLNeg, oI2L, oL2I, oLcmp, oDup, oPop, oDupX1, oDup2, oEq, oNe, oLt, oGe, oGt, oLe, oCEq, oCNe, oCLt, oCGe, oCGt, oCLe, oGoto, oTab, oLook, oGetI, oGetR, oPutI, oPutZ, oPutR, oIald, oLald, oAald, oIast, oLast, oAast, oLen, oCallS, oCallV, oCallA, oCallI, oCallIA, oObj, oCopy, oIRet, oZRet, oLRet, oARet, oVRet, ↓gI_0, ↓gL_0, ↓gR_0, ↓gI_s, ↓gL_s, ↓gR_s, ↓pI_i, ↓pL_l, ↓pR_r, ↓p1_i, ↓p1_r, ↓pE_e, ↓pN_z, ↓pN_1, ↓pN_2, ↓pN_3, ↓pN_4, ↓pN_5, ↓pN_6, ↓rl_0, ↓rl_1, ↓rl_2, ↓rl_3, ↓rl_4, ↓hdR_r, ↓hdO_r, va_rf_s, endQ, sL1_0, sL1_ss, sL1_1i, sL1_1r, sL1_1n, sL1_1l, sL2_0, sL2_ss, sL2_1i, sL2_1r, sL2_1n, sL2_1l, List.getElem?_cons_zero, List.getElem?_cons_succ, Option.toList_some, Option.toList_none, List.cons_append, List.nil_append, Nat.reduceAdd, true_and, and_true, and_self, wA_s, wA_w, ↓reduceIte, ite_self, true_or, or_true, tv, tc, tl, tg, t0, tz, tw, tu, tup, tuL, nI_add, pk_mul, upd_s, tup_s, tuL_s, nI_0, i1, i2, i3, i4, nm1, kd_454, e4, h1, hr, hz, e_0, not_false_eq_true]
  · rw [if_neg hz]
    have hz2 : 0 < nmF q r0 r1 r2 r3 % q := by omega
    have y0 := co_t (d := d) (L := L) (P := P) (n := n) (s := s) (Q := Q) (nm := nI (nmF q r0 r1 r2 r3)) hq h1 hx hi bx (k := 0) (c := 0) (by decide) t3
    rw [e0] at y0
    have y1 := co_t (d := d) (L := L) (P := P) (n := n) (s := s) (Q := Q) (nm := nI (nmF q r0 r1 r2 r3)) hq h1 hx hi bx (k := 1) (c := q * 0 + fcR q r0 r1 r2 r3 * r0 % q) (by decide) t3
    rw [e1] at y1
    have y2 := co_t (d := d) (L := L) (P := P) (n := n) (s := s) (Q := Q) (nm := nI (nmF q r0 r1 r2 r3)) hq h1 hx hi bx (k := 2) (c := q * (q * 0 + fcR q r0 r1 r2 r3 * r0 % q) + fcR q r0 r1 r2 r3 * r1 % q) (by decide) t3
    rw [e2] at y2
    have y3 := co_t (d := d) (L := L) (P := P) (n := n) (s := s) (Q := Q) (nm := nI (nmF q r0 r1 r2 r3)) hq h1 hx hi bx (k := 3) (c := q * (q * (q * 0 + fcR q r0 r1 r2 r3 * r0 % q) + fcR q r0 r1 r2 r3 * r1 % q) + fcR q r0 r1 r2 r3 * r2 % q) (by decide) t3
    rw [e3] at y3
    have y := ((y0.trans y1).trans y2).trans y3
    have hcd : q * (q * (q * (q * 0 + fcR q r0 r1 r2 r3 * r0 % q) + fcR q r0 r1 r2 r3 * r1 % q) + fcR q r0 r1 r2 r3 * r2 % q) + fcR q r0 r1 r2 r3 * r3 % q = cdR q r0 r1 r2 r3 := by
      show _ = ((r0 * fcR q r0 r1 r2 r3 % q * q + r1 * fcR q r0 r1 r2 r3 % q) * q + r2 * fcR q r0 r1 r2 r3 % q) * q + r3 * fcR q r0 r1 r2 r3 % q
      simp only [Nat.mul_comm, Nat.mul_zero, Nat.zero_add]
    rw [hcd, z4, nI_0] at y
    simp (disch := first | assumption | omega | decide | (refine kdN ?_; omega) | (refine kdS ?_; omega)) only [u151_0, u151_1, u151_2, u151_3, u151_5, u151_6, u151_10, u151_11, u151_14, u151_15, u151_16, u151_17, u151_19, u151_20, u151_21, u151_24, u151_26, u151_27, u151_29, u151_31, u151_32, u151_33, u151_34, u151_36, u151_39, u151_41, u151_44, u151_47, u151_48, u151_50, u151_52, u151_54, u151_55, u151_56, u151_59, u151_60, u151_61, u151_64, u151_67, u151_70, u151_73, u151_76, u151_77, u151_78, u151_81, u151_82, u151_85, u151_86, u151_87, u151_88, u151_90, u151_91, u151_95, u151_96, u151_99, u151_100, u151_103, u151_105, u151_106, u151_108, u151_109, u151_110, u151_111, u151_113, u151_114, u151_115, u151_118, u151_119, u151_120, u151_123, u151_124, u151_125, u151_127, u151_130, u151_133, u151_135, oF, oI, oJ, oIl, oLl, oAl, oIs, oLs, oAs, oInc, oBin, oAdd, oSub, oMul, oAnd, oOr, oXor, oDiv, oRem, oNeg, oLBin, oLAdd, oLSub, oLMul, oLDiv, oLNeg, oI2L, oL2I, oLcmp, oDup, oPop, oDupX1, oDup2, oEq, oNe, oLt, oGe, oGt, oLe, oCEq, oCNe, oCLt, oCGe, oCGt, oCLe, oGoto, oTab, oLook, oGetI, oGetR, oPutI, oPutZ, oPutR, oIald, oLald, oAald, oIast, oLast, oAast, oLen, oCallS, oCallV, oCallA, oCallI, oCallIA, oObj, oCopy, oIRet, oZRet, oLRet, oARet, oVRet, ↓gI_0, ↓gL_0, ↓gR_0, ↓gI_s, ↓gL_s, ↓gR_s, ↓pI_i, ↓pL_l, ↓pR_r, ↓p1_i, ↓p1_r, ↓pE_e, ↓pN_z, ↓pN_1, ↓pN_2, ↓pN_3, ↓pN_4, ↓pN_5, ↓pN_6, ↓rl_0, ↓rl_1, ↓rl_2, ↓rl_3, ↓rl_4, ↓hdR_r, ↓hdO_r, va_rf_s, endQ, sL1_0, sL1_ss, sL1_1i, sL1_1r, sL1_1n, sL1_1l, sL2_0, sL2_ss, sL2_1i, sL2_1r, sL2_1n, sL2_1l, List.getElem?_cons_zero, List.getElem?_cons_succ, Option.toList_some, Option.toList_none, List.cons_append, List.nil_append, Nat.reduceAdd, true_and, and_true, and_self, wA_s, wA_w, ↓reduceIte, ite_self, true_or, or_true, tv, tc, tl, tg, t0, tz, tw, tu, tup, tuL, nI_add, pk_mul, upd_s, tup_s, tuL_s, nI_0, i1, i2, i3, i4, nm1, kd_454, e4, h1, hr, hz2, not_false_eq_true]
    refine y.trans ?_
    rw [u151_93]
    simp (disch := first | assumption | omega | decide | (refine kdN ?_; omega) | (refine kdS ?_; omega)) only [u151_0, u151_1, u151_2, u151_3, u151_5, u151_6, u151_8, u151_10, u151_11, u151_14, u151_15, u151_16, u151_17, u151_19, u151_20, u151_21, u151_24, u151_26, u151_27, u151_29, u151_31, u151_32, u151_33, u151_34, u151_36, u151_39, u151_41, u151_44, u151_47, u151_48, u151_50, u151_52, u151_54, u151_55, u151_56, u151_59, u151_60, u151_61, u151_64, u151_67, u151_70, u151_73, u151_76, u151_77, u151_78, u151_81, u151_82, u151_85, u151_86, u151_87, u151_88, u151_90, u151_91, u151_95, u151_96, u151_99, u151_100, u151_103, u151_105, u151_106, u151_108, u151_109, u151_110, u151_111, u151_113, u151_114, u151_115, u151_118, u151_119, u151_120, u151_123, u151_124, u151_125, u151_127, u151_130, u151_133, u151_135, oF, oI, oJ, oIl, oLl, oAl, oIs, oLs, oAs, oInc, oBin, oAdd, oSub, oMul, oAnd, oOr, oXor, oDiv, oRem, oNeg, oLBin, oLAdd, oLSub, oLMul, oLDiv, oLNeg, oI2L, oL2I, oLcmp, oDup, oPop, oDupX1, oDup2, oEq, oNe, oLt, oGe, oGt, oLe, oCEq, oCNe, oCLt, oCGe, oCGt, oCLe, oGoto, oTab, oLook, oGetI, oGetR, oPutI, oPutZ, oPutR, oIald, oLald, oAald, oIast, oLast, oAast, oLen, oCallS, oCallV, oCallA, oCallI, oCallIA, oObj, oCopy, oIRet, oZRet, oLRet, oARet, oVRet, ↓gI_0, ↓gL_0, ↓gR_0, ↓gI_s, ↓gL_s, ↓gR_s, ↓pI_i, ↓pL_l, ↓pR_r, ↓p1_i, ↓p1_r, ↓pE_e, ↓pN_z, ↓pN_1, ↓pN_2, ↓pN_3, ↓pN_4, ↓pN_5, ↓pN_6, ↓rl_0, ↓rl_1, ↓rl_2, ↓rl_3, ↓rl_4, ↓hdR_r, ↓hdO_r, va_rf_s, endQ, sL1_0, sL1_ss, sL1_1i, sL1_1r, sL1_1n, sL1_1l, sL2_0, sL2_ss, sL2_1i, sL2_1r, sL2_1n, sL2_1l, List.getElem?_cons_zero, List.getElem?_cons_succ, Option.toList_some, Option.toList_none, List.cons_append, List.nil_append, Nat.reduceAdd, true_and, and_true, and_self, wA_s, wA_w, ↓reduceIte, ite_self, true_or, or_true, tv, tc, tl, tg, t0, tz, tw, tu, tup, tuL, nI_add, pk_mul, upd_s, tup_s, tuL_s, nI_0, i1, i2, i3, i4, nm1, e4]
theorem a_3m : (3 : Int32) + (-1) = 2 := by decide
theorem a_2m : (2 : Int32) + (-1) = 1 := by decide
theorem a_1m : (1 : Int32) + (-1) = 0 := by decide
theorem a_0m : (0 : Int32) + (-1) = -1 := by decide
theorem l_30 : ((3 : Int32) < 0) = False := by decide
theorem l_20 : ((2 : Int32) < 0) = False := by decide
theorem l_10 : ((1 : Int32) < 0) = False := by decide
theorem l_00 : ((0 : Int32) < 0) = False := by decide
theorem l_m0 : ((-1 : Int32) < 0) = True := by decide
set_option maxRecDepth 100000 in
theorem m_comes {d : Nat} {I : Nat → Nat → Int32} {L : Nat → Nat → Int64} {P : Nat → Nat → Option Nat} {n s : Nat} {Q : Qm} (hm : MP P) {q c N : Nat} (hq : qOk q) (h1 : I 454 1 = nI q) (h10 : I 454 10 = nI N) (hc : c < 2401) (hN : N < 336) : Call (d + 1) 152 [.ref 454, .int (nI c)] (I, L, P, n, s) Q = Q none (wA (wA (wA I 459 (upd (I 459) c (nI N))) 458 (upd (upd (upd (upd (I 458) (4 * N + 3) (nI (c % q))) (4 * N + 2) (nI (c / q % q))) (4 * N + 1) (nI (c / q / q % q))) (4 * N) (nI (c / q / q / q % q)))) 454 (upd (I 454) 10 (nI (N + 1))), L, P, n, s) := by
  obtain ⟨m2, m4, m5, m7, m8, m9, m11, m13, m15, m16, m18, m19, m20, m23, m25, m26, m35, m36, m37, m39, m40, m41, m42, m43, m44, m45, m46, m47, m48⟩ := id hm
  obtain ⟨g0, g1⟩ := qOk_b hq
  have hd : ∀ a, a < 2401 → nI a / nI q = nI (a / q) := fun a ha => pk_div (by omega) g0 (by omega)
  have hr : ∀ a, a < 2401 → nI a - nI (a / q) * nI q = nI (a % q) := fun a ha => by rw [← hd a ha]; exact pk_rem (by omega) g0 (by omega)
  have l1 : c / q < 2401 := Nat.lt_of_le_of_lt (Nat.div_le_self _ _) hc
  have l2 : c / q / q < 2401 := Nat.lt_of_le_of_lt (Nat.div_le_self _ _) l1
  have l3 : c / q / q / q < 2401 := Nat.lt_of_le_of_lt (Nat.div_le_self _ _) l2
  have hr' : ∀ a, a < 2401 → nI a - nI (a / q * q) = nI (a % q) := fun a ha => by rw [← hr a ha, pk_mul]
  have hd0 := hd c hc
  have hd1 := hd _ l1
  have hd2 := hd _ l2
  have hd3 := hd _ l3
  have hr0 := hr' c hc
  have hr1 := hr' _ l1
  have hr2 := hr' _ l2
  have hr3 := hr' _ l3
  clear hd hr hr'
  simp (disch := first | assumption | omega | decide | (refine kdN ?_; omega) | (refine kdS ?_; omega)) only [c152, u152_0, u152_1, u152_4, u152_5, u152_6, u152_9, u152_10, u152_11, u152_12, u152_13, u152_14, u152_15, u152_18, u152_19, u152_22, u152_23, u152_24, u152_27, u152_28, u152_29, u152_30, u152_31, u152_32, u152_35, u152_36, u152_37, u152_38, u152_39, u152_42, u152_43, u152_44, u152_47, u152_50, u152_51, u152_52, u152_55, u152_56, u152_57, u152_60, oF, oI, oJ, oIl, oLl, oAl, oIs, oLs, oAs, oInc, oBin, oAdd, oSub, oMul, oAnd, oOr, oXor, oDiv, oRem, oNeg, oLBin, oLAdd, oLSub, oLMul, oLDiv, oLNeg, oI2L, oL2I, oLcmp, oDup, oPop, oDupX1, oDup2, oEq, oNe, oLt, oGe, oGt, oLe, oCEq, oCNe, oCLt, oCGe, oCGt, oCLe, oGoto, oTab, oLook, oGetI, oGetR, oPutI, oPutZ, oPutR, oIald, oLald, oAald, oIast, oLast, oAast, oLen, oCallS, oCallV, oCallA, oCallI, oCallIA, oObj, oCopy, oIRet, oZRet, oLRet, oARet, oVRet, ↓gI_0, ↓gL_0, ↓gR_0, ↓gI_s, ↓gL_s, ↓gR_s, ↓pI_i, ↓pL_l, ↓pR_r, ↓p1_i, ↓p1_r, ↓pE_e, ↓pN_z, ↓pN_1, ↓pN_2, ↓pN_3, ↓pN_4, ↓pN_5, ↓pN_6, ↓rl_0, ↓rl_1, ↓rl_2, ↓rl_3, ↓rl_4, ↓hdR_r, ↓hdO_r, va_rf_s, endQ, sL1_0, sL1_ss, sL1_1i, sL1_1r, sL1_1n, sL1_1l, sL2_0, sL2_ss, sL2_1i, sL2_1r, sL2_1n, sL2_1l, List.getElem?_cons_zero, List.getElem?_cons_succ, Option.toList_some, Option.toList_none, List.cons_append, List.nil_append, Nat.reduceAdd, true_and, and_true, and_self, wA_s, wA_w, ↓reduceIte, ite_self, true_or, or_true, tv, tc, tl, tg, t0, tz, tw, tu, tup, tuL, nI_add, pk_mul, upd_s, tup_s, tuL_s, nI_0, i1, i2, i3, i4, nm1, m8, m7, kd_454, kd_459, ln_459, kd_458, ln_458, h1, h10, hd0, hd1, hd2, hd3, hr0, hr1, hr2, hr3, l_30, l_20, l_10, l_00, l_m0, a_3m, a_2m, a_1m, a_0m, Int32.add_zero, not_false_eq_true]
