/-! loops: a chain of equal states; arrays filled -/
theorem chain {α : Type} (A : Nat → α) (n : Nat) (h : ∀ i, i < n → A i = A (i + 1)) : ∀ i, i ≤ n → A i = A n := by
  intro i hi
  obtain ⟨k, rfl⟩ : ∃ k, n = i + k := ⟨n - i, by omega⟩
  clear hi
  induction k with
  | zero => rfl
  | succ k ih => exact (ih (fun j hj => h j (by omega))).trans (h (i + k) (by omega))
theorem le_10 : ((10 : Nat) ≤ 10 ∧ (10 : Nat) ≤ 12) = True := by decide
theorem le_11 : ((10 : Nat) ≤ 11 ∧ (11 : Nat) ≤ 12) = True := by decide
def fillF {α : Type} (f : Nat → α) (n : Nat) (v : α) : Nat → α := fun k => if k < n then v else f k
theorem fillF_0 {α : Type} {f : Nat → α} {v : α} : fillF f 0 v = f := by
  funext k
  simp [fillF]
theorem fillF_u {f : Nat → Int32} {n : Nat} {v : Int32} : upd (fillF f n v) n v = fillF f (n + 1) v := by
  funext k
  unfold upd fillF
  by_cases h : k = n
  · subst h; simp
  · by_cases h2 : k < n
    · rw [if_neg h, if_pos h2, if_pos (by omega)]
    · rw [if_neg h, if_neg h2, if_neg (by omega)]
theorem fillF_l {f : Nat → Int64} {n : Nat} {v : Int64} : vp_updL (fillF f n v) n v = fillF f (n + 1) v := by
  funext k
  unfold vp_updL fillF
  by_cases h : k = n
  · subst h; simp
  · by_cases h2 : k < n
    · rw [if_neg h, if_pos h2, if_pos (by omega)]
    · rw [if_neg h, if_neg h2, if_neg (by omega)]
theorem fillF_in {α : Type} {f : Nat → α} {n k : Nat} {v : α} (h : k < n) : fillF f n v k = v := if_pos h
theorem fillF_out {α : Type} {f : Nat → α} {n k : Nat} {v : α} (h : ¬ k < n) : fillF f n v k = f k := if_neg h
theorem cl_nI {k : Nat} (h : k < 2 ^ 31) : (nI k).toNatClampNeg = k := nI_clamp h
theorem wA_id {α : Type} {I : Nat → Nat → α} {a : Nat} : wA I a (I a) = I := by
  funext b
  unfold wA
  split
  · rename_i h; rw [h]
  · rfl
set_option maxRecDepth 100000 in
theorem j_fill {d : Nat} {I : Nat → Nat → Int32} {L : Nat → Nat → Int64} {P : Nat → Nat → Option Nat} {n s : Nat} {Q : Qm} {a : Nat} {v : Int32} (ha : kd a = 10) (hl : ln a < 2 ^ 31) : Call (d + 1) 224 [.ref a, .int v] (I, L, P, n, s) Q = Q none (wA I a (fillF (I a) (ln a) v), L, P, n, s) := by
  have step : ∀ i, i < ln a → WP (Call d) (kod 224) (n, s) (endQ n s Q) 5 [.ref a, .int v, .int (nI i), .int (nI (ln a))] [] (wA I a (fillF (I a) i v), L, P, n, s) = WP (Call d) (kod 224) (n, s) (endQ n s Q) 5 [.ref a, .int v, .int (nI (i + 1)), .int (nI (ln a))] [] (wA I a (fillF (I a) (i + 1) v), L, P, n, s) := by
    intro i hi
    rw [u224_5]
    simp only [u224_0, u224_1, u224_2, u224_3, u224_4, u224_6, u224_7, u224_10, u224_11, u224_12, u224_13, u224_14, u224_17, u224_20, oF, oI, oJ, oIl, oLl, oAl, oIs, oLs, oAs, oInc, oBin, oAdd, oSub, oMul, oAnd, oOr, oXor, oDiv, oRem, oNeg, oLBin, oLAdd, oLSub, oLMul, oLDiv, oLNeg, oI2L, oL2I, oLcmp, oDup, oPop, oDupX1, oDup2, oEq, oNe, oLt, oGe, oGt, oLe, oCEq, oCNe, oCLt, oCGe, oCGt, oCLe, oGoto, oTab, oLook, oGetI, oGetR, oPutI, oPutZ, oPutR, oIald, oLald, oAald, oIast, oLast, oAast, oLen, oCallS, oCallV, oCallA, oCallI, oCallIA, oObj, oCopy, oIRet, oZRet, oLRet, oARet, oVRet, ↓gI_0, ↓gL_0, ↓gR_0, ↓gI_s, ↓gL_s, ↓gR_s, ↓pI_i, ↓pL_l, ↓pR_r, ↓p1_i, ↓p1_r, ↓pE_e, ↓pN_z, ↓pN_1, ↓pN_2, ↓pN_3, ↓pN_4, ↓pN_5, ↓pN_6, ↓rl_0, ↓rl_1, ↓rl_2, ↓rl_3, ↓rl_4, ↓hdR_r, ↓hdO_r, va_rf_s, endQ, sL1_0, sL1_ss, sL1_1i, sL1_1r, sL1_1n, sL1_1l, sL2_0, sL2_ss, sL2_1i, sL2_1r, sL2_1n, sL2_1l, List.getElem?_cons_zero, List.getElem?_cons_succ, Option.toList_some, Option.toList_none, List.cons_append, List.nil_append, Nat.reduceAdd, true_and, and_true, and_self, wA_s, wA_w, ↓reduceIte, ite_self, ha, nI_lt hi hl, vp_in_nI hi hl, cl_nI (Nat.lt_trans hi hl), fillF_u, nI_1]
  have fin := chain _ _ step 0 (Nat.zero_le _)
  simp only [c224, u224_0, u224_1, u224_2, u224_3, u224_4, u224_6, u224_7, u224_10, u224_11, u224_12, u224_13, u224_14, u224_17, u224_20, oF, oI, oJ, oIl, oLl, oAl, oIs, oLs, oAs, oInc, oBin, oAdd, oSub, oMul, oAnd, oOr, oXor, oDiv, oRem, oNeg, oLBin, oLAdd, oLSub, oLMul, oLDiv, oLNeg, oI2L, oL2I, oLcmp, oDup, oPop, oDupX1, oDup2, oEq, oNe, oLt, oGe, oGt, oLe, oCEq, oCNe, oCLt, oCGe, oCGt, oCLe, oGoto, oTab, oLook, oGetI, oGetR, oPutI, oPutZ, oPutR, oIald, oLald, oAald, oIast, oLast, oAast, oLen, oCallS, oCallV, oCallA, oCallI, oCallIA, oObj, oCopy, oIRet, oZRet, oLRet, oARet, oVRet, ↓gI_0, ↓gL_0, ↓gR_0, ↓gI_s, ↓gL_s, ↓gR_s, ↓pI_i, ↓pL_l, ↓pR_r, ↓p1_i, ↓p1_r, ↓pE_e, ↓pN_z, ↓pN_1, ↓pN_2, ↓pN_3, ↓pN_4, ↓pN_5, ↓pN_6, ↓rl_0, ↓rl_1, ↓rl_2, ↓rl_3, ↓rl_4, ↓hdR_r, ↓hdO_r, va_rf_s, endQ, sL1_0, sL1_ss, sL1_1i, sL1_1r, sL1_1n, sL1_1l, sL2_0, sL2_ss, sL2_1i, sL2_1r, sL2_1n, sL2_1l, List.getElem?_cons_zero, List.getElem?_cons_succ, Option.toList_some, Option.toList_none, List.cons_append, List.nil_append, Nat.reduceAdd, true_and, and_true, and_self, wA_s, wA_w, ↓reduceIte, ite_self, ha, le_10]
  rw [fillF_0, wA_id] at fin
  refine fin.trans ?_
  rw [u224_5]
  simp only [u224_0, u224_1, u224_2, u224_3, u224_4, u224_6, u224_7, u224_10, u224_11, u224_12, u224_13, u224_14, u224_17, u224_20, oF, oI, oJ, oIl, oLl, oAl, oIs, oLs, oAs, oInc, oBin, oAdd, oSub, oMul, oAnd, oOr, oXor, oDiv, oRem, oNeg, oLBin, oLAdd, oLSub, oLMul, oLDiv, oLNeg, oI2L, oL2I, oLcmp, oDup, oPop, oDupX1, oDup2, oEq, oNe, oLt, oGe, oGt, oLe, oCEq, oCNe, oCLt, oCGe, oCGt, oCLe, oGoto, oTab, oLook, oGetI, oGetR, oPutI, oPutZ, oPutR, oIald, oLald, oAald, oIast, oLast, oAast, oLen, oCallS, oCallV, oCallA, oCallI, oCallIA, oObj, oCopy, oIRet, oZRet, oLRet, oARet, oVRet, ↓gI_0, ↓gL_0, ↓gR_0, ↓gI_s, ↓gL_s, ↓gR_s, ↓pI_i, ↓pL_l, ↓pR_r, ↓p1_i, ↓p1_r, ↓pE_e, ↓pN_z, ↓pN_1, ↓pN_2, ↓pN_3, ↓pN_4, ↓pN_5, ↓pN_6, ↓rl_0, ↓rl_1, ↓rl_2, ↓rl_3, ↓rl_4, ↓hdR_r, ↓hdO_r, va_rf_s, endQ, sL1_0, sL1_ss, sL1_1i, sL1_1r, sL1_1n, sL1_1l, sL2_0, sL2_ss, sL2_1i, sL2_1r, sL2_1n, sL2_1l, List.getElem?_cons_zero, List.getElem?_cons_succ, Option.toList_some, Option.toList_none, List.cons_append, List.nil_append, Nat.reduceAdd, true_and, and_true, and_self, wA_s, wA_w, ↓reduceIte, ite_self, Int32.lt_irrefl]
set_option maxRecDepth 100000 in
theorem j_fillL {d : Nat} {I : Nat → Nat → Int32} {L : Nat → Nat → Int64} {P : Nat → Nat → Option Nat} {n s : Nat} {Q : Qm} {a : Nat} {v : Int64} (ha : kd a = 11) (hl : ln a < 2 ^ 31) : Call (d + 1) 223 [.ref a, .long v] (I, L, P, n, s) Q = Q none (I, wA L a (fillF (L a) (ln a) v), P, n, s) := by
  have step : ∀ i, i < ln a → WP (Call d) (kod 223) (n, s) (endQ n s Q) 6 [.ref a, .long v, .null, .int (nI i), .int (nI (ln a))] [] (I, wA L a (fillF (L a) i v), P, n, s) = WP (Call d) (kod 223) (n, s) (endQ n s Q) 6 [.ref a, .long v, .null, .int (nI (i + 1)), .int (nI (ln a))] [] (I, wA L a (fillF (L a) (i + 1) v), P, n, s) := by
    intro i hi
    rw [u223_6]
    simp only [u223_0, u223_1, u223_2, u223_3, u223_4, u223_7, u223_9, u223_12, u223_13, u223_14, u223_15, u223_16, u223_19, u223_22, oF, oI, oJ, oIl, oLl, oAl, oIs, oLs, oAs, oInc, oBin, oAdd, oSub, oMul, oAnd, oOr, oXor, oDiv, oRem, oNeg, oLBin, oLAdd, oLSub, oLMul, oLDiv, oLNeg, oI2L, oL2I, oLcmp, oDup, oPop, oDupX1, oDup2, oEq, oNe, oLt, oGe, oGt, oLe, oCEq, oCNe, oCLt, oCGe, oCGt, oCLe, oGoto, oTab, oLook, oGetI, oGetR, oPutI, oPutZ, oPutR, oIald, oLald, oAald, oIast, oLast, oAast, oLen, oCallS, oCallV, oCallA, oCallI, oCallIA, oObj, oCopy, oIRet, oZRet, oLRet, oARet, oVRet, ↓gI_0, ↓gL_0, ↓gR_0, ↓gI_s, ↓gL_s, ↓gR_s, ↓pI_i, ↓pL_l, ↓pR_r, ↓p1_i, ↓p1_r, ↓pE_e, ↓pN_z, ↓pN_1, ↓pN_2, ↓pN_3, ↓pN_4, ↓pN_5, ↓pN_6, ↓rl_0, ↓rl_1, ↓rl_2, ↓rl_3, ↓rl_4, ↓hdR_r, ↓hdO_r, va_rf_s, endQ, sL1_0, sL1_ss, sL1_1i, sL1_1r, sL1_1n, sL1_1l, sL2_0, sL2_ss, sL2_1i, sL2_1r, sL2_1n, sL2_1l, List.getElem?_cons_zero, List.getElem?_cons_succ, Option.toList_some, Option.toList_none, List.cons_append, List.nil_append, Nat.reduceAdd, true_and, and_true, and_self, wA_s, wA_w, ↓reduceIte, ite_self, ha, nI_lt hi hl, vp_in_nI hi hl, cl_nI (Nat.lt_trans hi hl), fillF_l, nI_1]
  have fin := chain _ _ step 0 (Nat.zero_le _)
  simp only [c223, u223_0, u223_1, u223_2, u223_3, u223_4, u223_7, u223_9, u223_12, u223_13, u223_14, u223_15, u223_16, u223_19, u223_22, oF, oI, oJ, oIl, oLl, oAl, oIs, oLs, oAs, oInc, oBin, oAdd, oSub, oMul, oAnd, oOr, oXor, oDiv, oRem, oNeg, oLBin, oLAdd, oLSub, oLMul, oLDiv, oLNeg, oI2L, oL2I, oLcmp, oDup, oPop, oDupX1, oDup2, oEq, oNe, oLt, oGe, oGt, oLe, oCEq, oCNe, oCLt, oCGe, oCGt, oCLe, oGoto, oTab, oLook, oGetI, oGetR, oPutI, oPutZ, oPutR, oIald, oLald, oAald, oIast, oLast, oAast, oLen, oCallS, oCallV, oCallA, oCallI, oCallIA, oObj, oCopy, oIRet, oZRet, oLRet, oARet, oVRet, ↓gI_0, ↓gL_0, ↓gR_0, ↓gI_s, ↓gL_s, ↓gR_s, ↓pI_i, ↓pL_l, ↓pR_r, ↓p1_i, ↓p1_r, ↓pE_e, ↓pN_z, ↓pN_1, ↓pN_2, ↓pN_3, ↓pN_4, ↓pN_5, ↓pN_6, ↓rl_0, ↓rl_1, ↓rl_2, ↓rl_3, ↓rl_4, ↓hdR_r, ↓hdO_r, va_rf_s, endQ, sL1_0, sL1_ss, sL1_1i, sL1_1r, sL1_1n, sL1_1l, sL2_0, sL2_ss, sL2_1i, sL2_1r, sL2_1n, sL2_1l, List.getElem?_cons_zero, List.getElem?_cons_succ, Option.toList_some, Option.toList_none, List.cons_append, List.nil_append, Nat.reduceAdd, true_and, and_true, and_self, wA_s, wA_w, ↓reduceIte, ite_self, ha, le_11]
  rw [fillF_0, wA_id] at fin
  refine fin.trans ?_
  rw [u223_6]
  simp only [u223_0, u223_1, u223_2, u223_3, u223_4, u223_7, u223_9, u223_12, u223_13, u223_14, u223_15, u223_16, u223_19, u223_22, oF, oI, oJ, oIl, oLl, oAl, oIs, oLs, oAs, oInc, oBin, oAdd, oSub, oMul, oAnd, oOr, oXor, oDiv, oRem, oNeg, oLBin, oLAdd, oLSub, oLMul, oLDiv, oLNeg, oI2L, oL2I, oLcmp, oDup, oPop, oDupX1, oDup2, oEq, oNe, oLt, oGe, oGt, oLe, oCEq, oCNe, oCLt, oCGe, oCGt, oCLe, oGoto, oTab, oLook, oGetI, oGetR, oPutI, oPutZ, oPutR, oIald, oLald, oAald, oIast, oLast, oAast, oLen, oCallS, oCallV, oCallA, oCallI, oCallIA, oObj, oCopy, oIRet, oZRet, oLRet, oARet, oVRet, ↓gI_0, ↓gL_0, ↓gR_0, ↓gI_s, ↓gL_s, ↓gR_s, ↓pI_i, ↓pL_l, ↓pR_r, ↓p1_i, ↓p1_r, ↓pE_e, ↓pN_z, ↓pN_1, ↓pN_2, ↓pN_3, ↓pN_4, ↓pN_5, ↓pN_6, ↓rl_0, ↓rl_1, ↓rl_2, ↓rl_3, ↓rl_4, ↓hdR_r, ↓hdO_r, va_rf_s, endQ, sL1_0, sL1_ss, sL1_1i, sL1_1r, sL1_1n, sL1_1l, sL2_0, sL2_ss, sL2_1i, sL2_1r, sL2_1n, sL2_1l, List.getElem?_cons_zero, List.getElem?_cons_succ, Option.toList_some, Option.toList_none, List.cons_append, List.nil_append, Nat.reduceAdd, true_and, and_true, and_self, wA_s, wA_w, ↓reduceIte, ite_self, Int32.lt_irrefl]
