/-! classes of Int32 quaternions -/
theorem rem_toI (x y : Int32) : (rem x y).toInt = x.toInt.tmod y.toInt := rem_toInt x y
theorem rem_nI {a b : Nat} (ha : a < 2 ^ 31) (h0 : 0 < b) (hb : b < 2 ^ 31) : rem (nI a) (nI b) = nI (a % b) := pk_rem ha h0 hb
/-- a number's residue -/
def rsd (q : Nat) (x : Int32) : Nat := (x.toInt % q).toNat
theorem rsd_lt {q : Nat} (h : 0 < q) (x : Int32) : rsd q x < q := by
  unfold rsd
  have h1 := Int.emod_nonneg x.toInt (b := (q : Int)) (by omega)
  have h2 := Int.emod_lt_of_pos x.toInt (b := (q : Int)) (by omega)
  omega
theorem eq_nI {x : Int32} {n : Nat} (hn : n < 2 ^ 31) (h : x.toInt = n) : x = nI n := Int32.toInt_inj.mp (by rw [h, nI_toInt hn])
theorem xor_neg {x : Int32} {q : Nat} (hq : q < 2 ^ 31) : x ^^^ nI q < 0 ↔ x < 0 := by
  have e : ∀ z : Int32, z < 0 ↔ z.toBitVec.msb = true := fun z => by
    rw [Int32.lt_iff_toBitVec_slt]
    show z.toBitVec.slt 0#32 = true ↔ _
    rw [BitVec.slt_zero_iff_msb_cond]
  rw [e, e, Int32.toBitVec_xor, BitVec.msb_xor]
  have h1 : (nI q).toBitVec.msb = false := by
    have := (not_congr (e (nI q))).mp (nI_pos hq)
    simpa using this
  rw [h1]
  simp
theorem fmod_nI {x : Int32} {q : Nat} (h0 : 0 < q) (hq : q < 100) : fmod x (nI q) = nI (rsd q x) := by
  have hq2 : q < 2 ^ 31 := by omega
  have ht : (rem x (nI q)).toInt = x.toInt.tmod q := by rw [rem_toI, nI_toInt hq2]
  have hl := rsd_lt h0 x
  have hc : ((rsd q x : Nat) : Int) = x.toInt % q := by
    unfold rsd
    exact Int.toNat_of_nonneg (Int.emod_nonneg _ (by omega))
  apply eq_nI (by omega)
  rw [hc]
  unfold fmod
  have hz : (rem x (nI q) = 0) ↔ x.toInt.tmod q = 0 := by
    rw [← ht]
    exact ⟨fun h => by rw [h]; rfl, fun h => Int32.toInt_inj.mp (by rw [h]; rfl)⟩
  by_cases hx : x < 0
  · rw [if_pos ((xor_neg hq2).mpr hx)]
    have hx2 : x.toInt < 0 := by simpa [Int32.lt_iff_toInt_lt] using hx
    have e1 : x.toInt.tmod q = -((-x.toInt) % q) := by
      have : x.toInt.tmod q = -((-x.toInt).tmod q) := by rw [Int.neg_tmod, Int.neg_neg]
      rw [this, Int.tmod_eq_emod_of_nonneg (by omega)]
    have b1 := Int.emod_nonneg (-x.toInt) (b := (q : Int)) (by omega)
    have b2 := Int.emod_lt_of_pos (-x.toInt) (b := (q : Int)) (by omega)
    have d1 := Int.mul_ediv_add_emod (-x.toInt) q
    by_cases hz2 : rem x (nI q) = 0
    · rw [if_pos hz2, ht, e1]
      have z := hz.mp hz2
      rw [e1] at z
      have : x.toInt % q = 0 := by
        rw [show x.toInt = q * (-((-x.toInt) / q)) by rw [Int.mul_neg]; omega]
        exact Int.mul_emod_right _ _
      omega
    · rw [if_neg hz2]
      have z := fun h => hz2 (hz.mpr h)
      rw [e1] at z
      have b3 : (rem x (nI q)).toInt = -((-x.toInt) % q) := by rw [ht, e1]
      have e2 : (rem x (nI q) + nI q).toInt = -((-x.toInt) % q) + q := by
        rw [Int32.toInt_add, b3, nI_toInt hq2]
        apply Int.bmod_eq_of_le
        · omega
        · omega
      rw [e2]
      have : x.toInt % q = (-((-x.toInt) % q) + q) % q := by
        have : x.toInt = (-((-x.toInt) % q) + q) + q * (-((-x.toInt) / q) - 1) := by
          rw [Int.mul_sub, Int.mul_neg]; omega
        conv => lhs; rw [this]
        exact Int.add_mul_emod_self_left _ _ _
      have z2 : ¬ (-x.toInt) % q = 0 := fun h => z (by omega)
      have t2 := Int.emod_eq_of_lt (a := -((-x.toInt) % q) + q) (b := (q : Int)) (by omega) (by omega)
      omega
  · rw [if_neg (fun h => hx ((xor_neg hq2).mp h))]
    have hx2 : 0 ≤ x.toInt := by
      have : ¬ x.toInt < 0 := by simpa [Int32.lt_iff_toInt_lt] using hx
      omega
    rw [ht, Int.tmod_eq_emod_of_nonneg hx2]
def qOk (q : Nat) : Prop := q = 3 ∨ q = 5 ∨ q = 7
set_option maxRecDepth 100000 in
theorem q_inv_3_0 {d : Nat} {I : Nat → Nat → Int32} {L : Nat → Nat → Int64} {P : Nat → Nat → Option Nat} {n s : Nat} {Q : Qm} : Call (d + 1) 46 [.int 0, .int 3] (I, L, P, n, s) Q = Q (some (.int 0)) (I, L, P, n, s) := by
  simp +decide only [c46, u46_0, u46_1, u46_2, u46_3, u46_4, u46_7, u46_8, u46_9, u46_10, u46_11, u46_12, u46_13, u46_16, u46_17, u46_18, u46_21, u46_24, u46_25, oF, oI, oJ, oIl, oLl, oAl, oIs, oLs, oAs, oInc, oBin, oAdd, oSub, oMul, oAnd, oOr, oXor, oDiv, oRem, oNeg, oLBin, oLAdd, oLSub, oLMul, oLDiv, oLNeg, oI2L, oL2I, oLcmp, oDup, oPop, oDupX1, oDup2, oEq, oNe, oLt, oGe, oGt, oLe, oCEq, oCNe, oCLt, oCGe, oCGt, oCLe, oGoto, oTab, oLook, oGetI, oGetR, oPutI, oPutZ, oPutR, oIald, oLald, oAald, oIast, oLast, oAast, oLen, oCallS, oCallV, oCallA, oCallI, oCallIA, oObj, oCopy, oIRet, oZRet, oLRet, oARet, oVRet, ↓gI_0, ↓gL_0, ↓gR_0, ↓gI_s, ↓gL_s, ↓gR_s, ↓pI_i, ↓pL_l, ↓pR_r, ↓p1_i, ↓p1_r, ↓pE_e, ↓pN_z, ↓pN_1, ↓pN_2, ↓pN_3, ↓pN_4, ↓pN_5, ↓pN_6, ↓rl_0, ↓rl_1, ↓rl_2, ↓rl_3, ↓rl_4, ↓hdR_r, ↓hdO_r, va_rf_s, endQ, sL1_0, sL1_ss, sL1_1i, sL1_1r, sL1_1n, sL1_1l, sL2_0, sL2_ss, sL2_1i, sL2_1r, sL2_1n, sL2_1l, List.getElem?_cons_zero, List.getElem?_cons_succ, Option.toList_some, Option.toList_none, List.cons_append, List.nil_append, Nat.reduceAdd, true_and, and_true, and_self, wA_s, wA_w, ↓reduceIte, ite_self]
  try rfl
set_option maxRecDepth 100000 in
theorem q_inv_3_1 {d : Nat} {I : Nat → Nat → Int32} {L : Nat → Nat → Int64} {P : Nat → Nat → Option Nat} {n s : Nat} {Q : Qm} : Call (d + 1) 46 [.int 1, .int 3] (I, L, P, n, s) Q = Q (some (.int 1)) (I, L, P, n, s) := by
  simp +decide only [c46, u46_0, u46_1, u46_2, u46_3, u46_4, u46_7, u46_8, u46_9, u46_10, u46_11, u46_12, u46_13, u46_16, u46_17, u46_18, u46_21, u46_24, u46_25, oF, oI, oJ, oIl, oLl, oAl, oIs, oLs, oAs, oInc, oBin, oAdd, oSub, oMul, oAnd, oOr, oXor, oDiv, oRem, oNeg, oLBin, oLAdd, oLSub, oLMul, oLDiv, oLNeg, oI2L, oL2I, oLcmp, oDup, oPop, oDupX1, oDup2, oEq, oNe, oLt, oGe, oGt, oLe, oCEq, oCNe, oCLt, oCGe, oCGt, oCLe, oGoto, oTab, oLook, oGetI, oGetR, oPutI, oPutZ, oPutR, oIald, oLald, oAald, oIast, oLast, oAast, oLen, oCallS, oCallV, oCallA, oCallI, oCallIA, oObj, oCopy, oIRet, oZRet, oLRet, oARet, oVRet, ↓gI_0, ↓gL_0, ↓gR_0, ↓gI_s, ↓gL_s, ↓gR_s, ↓pI_i, ↓pL_l, ↓pR_r, ↓p1_i, ↓p1_r, ↓pE_e, ↓pN_z, ↓pN_1, ↓pN_2, ↓pN_3, ↓pN_4, ↓pN_5, ↓pN_6, ↓rl_0, ↓rl_1, ↓rl_2, ↓rl_3, ↓rl_4, ↓hdR_r, ↓hdO_r, va_rf_s, endQ, sL1_0, sL1_ss, sL1_1i, sL1_1r, sL1_1n, sL1_1l, sL2_0, sL2_ss, sL2_1i, sL2_1r, sL2_1n, sL2_1l, List.getElem?_cons_zero, List.getElem?_cons_succ, Option.toList_some, Option.toList_none, List.cons_append, List.nil_append, Nat.reduceAdd, true_and, and_true, and_self, wA_s, wA_w, ↓reduceIte, ite_self]
  try rfl
set_option maxRecDepth 100000 in
theorem q_inv_3_2 {d : Nat} {I : Nat → Nat → Int32} {L : Nat → Nat → Int64} {P : Nat → Nat → Option Nat} {n s : Nat} {Q : Qm} : Call (d + 1) 46 [.int 2, .int 3] (I, L, P, n, s) Q = Q (some (.int 2)) (I, L, P, n, s) := by
  simp +decide only [c46, u46_0, u46_1, u46_2, u46_3, u46_4, u46_7, u46_8, u46_9, u46_10, u46_11, u46_12, u46_13, u46_16, u46_17, u46_18, u46_21, u46_24, u46_25, oF, oI, oJ, oIl, oLl, oAl, oIs, oLs, oAs, oInc, oBin, oAdd, oSub, oMul, oAnd, oOr, oXor, oDiv, oRem, oNeg, oLBin, oLAdd, oLSub, oLMul, oLDiv, oLNeg, oI2L, oL2I, oLcmp, oDup, oPop, oDupX1, oDup2, oEq, oNe, oLt, oGe, oGt, oLe, oCEq, oCNe, oCLt, oCGe, oCGt, oCLe, oGoto, oTab, oLook, oGetI, oGetR, oPutI, oPutZ, oPutR, oIald, oLald, oAald, oIast, oLast, oAast, oLen, oCallS, oCallV, oCallA, oCallI, oCallIA, oObj, oCopy, oIRet, oZRet, oLRet, oARet, oVRet, ↓gI_0, ↓gL_0, ↓gR_0, ↓gI_s, ↓gL_s, ↓gR_s, ↓pI_i, ↓pL_l, ↓pR_r, ↓p1_i, ↓p1_r, ↓pE_e, ↓pN_z, ↓pN_1, ↓pN_2, ↓pN_3, ↓pN_4, ↓pN_5, ↓pN_6, ↓rl_0, ↓rl_1, ↓rl_2, ↓rl_3, ↓rl_4, ↓hdR_r, ↓hdO_r, va_rf_s, endQ, sL1_0, sL1_ss, sL1_1i, sL1_1r, sL1_1n, sL1_1l, sL2_0, sL2_ss, sL2_1i, sL2_1r, sL2_1n, sL2_1l, List.getElem?_cons_zero, List.getElem?_cons_succ, Option.toList_some, Option.toList_none, List.cons_append, List.nil_append, Nat.reduceAdd, true_and, and_true, and_self, wA_s, wA_w, ↓reduceIte, ite_self]
  try rfl
set_option maxRecDepth 100000 in
theorem q_inv_5_0 {d : Nat} {I : Nat → Nat → Int32} {L : Nat → Nat → Int64} {P : Nat → Nat → Option Nat} {n s : Nat} {Q : Qm} : Call (d + 1) 46 [.int 0, .int 5] (I, L, P, n, s) Q = Q (some (.int 0)) (I, L, P, n, s) := by
  simp +decide only [c46, u46_0, u46_1, u46_2, u46_3, u46_4, u46_7, u46_8, u46_9, u46_10, u46_11, u46_12, u46_13, u46_16, u46_17, u46_18, u46_21, u46_24, u46_25, oF, oI, oJ, oIl, oLl, oAl, oIs, oLs, oAs, oInc, oBin, oAdd, oSub, oMul, oAnd, oOr, oXor, oDiv, oRem, oNeg, oLBin, oLAdd, oLSub, oLMul, oLDiv, oLNeg, oI2L, oL2I, oLcmp, oDup, oPop, oDupX1, oDup2, oEq, oNe, oLt, oGe, oGt, oLe, oCEq, oCNe, oCLt, oCGe, oCGt, oCLe, oGoto, oTab, oLook, oGetI, oGetR, oPutI, oPutZ, oPutR, oIald, oLald, oAald, oIast, oLast, oAast, oLen, oCallS, oCallV, oCallA, oCallI, oCallIA, oObj, oCopy, oIRet, oZRet, oLRet, oARet, oVRet, ↓gI_0, ↓gL_0, ↓gR_0, ↓gI_s, ↓gL_s, ↓gR_s, ↓pI_i, ↓pL_l, ↓pR_r, ↓p1_i, ↓p1_r, ↓pE_e, ↓pN_z, ↓pN_1, ↓pN_2, ↓pN_3, ↓pN_4, ↓pN_5, ↓pN_6, ↓rl_0, ↓rl_1, ↓rl_2, ↓rl_3, ↓rl_4, ↓hdR_r, ↓hdO_r, va_rf_s, endQ, sL1_0, sL1_ss, sL1_1i, sL1_1r, sL1_1n, sL1_1l, sL2_0, sL2_ss, sL2_1i, sL2_1r, sL2_1n, sL2_1l, List.getElem?_cons_zero, List.getElem?_cons_succ, Option.toList_some, Option.toList_none, List.cons_append, List.nil_append, Nat.reduceAdd, true_and, and_true, and_self, wA_s, wA_w, ↓reduceIte, ite_self]
  try rfl
set_option maxRecDepth 100000 in
theorem q_inv_5_1 {d : Nat} {I : Nat → Nat → Int32} {L : Nat → Nat → Int64} {P : Nat → Nat → Option Nat} {n s : Nat} {Q : Qm} : Call (d + 1) 46 [.int 1, .int 5] (I, L, P, n, s) Q = Q (some (.int 1)) (I, L, P, n, s) := by
  simp +decide only [c46, u46_0, u46_1, u46_2, u46_3, u46_4, u46_7, u46_8, u46_9, u46_10, u46_11, u46_12, u46_13, u46_16, u46_17, u46_18, u46_21, u46_24, u46_25, oF, oI, oJ, oIl, oLl, oAl, oIs, oLs, oAs, oInc, oBin, oAdd, oSub, oMul, oAnd, oOr, oXor, oDiv, oRem, oNeg, oLBin, oLAdd, oLSub, oLMul, oLDiv, oLNeg, oI2L, oL2I, oLcmp, oDup, oPop, oDupX1, oDup2, oEq, oNe, oLt, oGe, oGt, oLe, oCEq, oCNe, oCLt, oCGe, oCGt, oCLe, oGoto, oTab, oLook, oGetI, oGetR, oPutI, oPutZ, oPutR, oIald, oLald, oAald, oIast, oLast, oAast, oLen, oCallS, oCallV, oCallA, oCallI, oCallIA, oObj, oCopy, oIRet, oZRet, oLRet, oARet, oVRet, ↓gI_0, ↓gL_0, ↓gR_0, ↓gI_s, ↓gL_s, ↓gR_s, ↓pI_i, ↓pL_l, ↓pR_r, ↓p1_i, ↓p1_r, ↓pE_e, ↓pN_z, ↓pN_1, ↓pN_2, ↓pN_3, ↓pN_4, ↓pN_5, ↓pN_6, ↓rl_0, ↓rl_1, ↓rl_2, ↓rl_3, ↓rl_4, ↓hdR_r, ↓hdO_r, va_rf_s, endQ, sL1_0, sL1_ss, sL1_1i, sL1_1r, sL1_1n, sL1_1l, sL2_0, sL2_ss, sL2_1i, sL2_1r, sL2_1n, sL2_1l, List.getElem?_cons_zero, List.getElem?_cons_succ, Option.toList_some, Option.toList_none, List.cons_append, List.nil_append, Nat.reduceAdd, true_and, and_true, and_self, wA_s, wA_w, ↓reduceIte, ite_self]
  try rfl
set_option maxRecDepth 100000 in
theorem q_inv_5_2 {d : Nat} {I : Nat → Nat → Int32} {L : Nat → Nat → Int64} {P : Nat → Nat → Option Nat} {n s : Nat} {Q : Qm} : Call (d + 1) 46 [.int 2, .int 5] (I, L, P, n, s) Q = Q (some (.int 3)) (I, L, P, n, s) := by
  simp +decide only [c46, u46_0, u46_1, u46_2, u46_3, u46_4, u46_7, u46_8, u46_9, u46_10, u46_11, u46_12, u46_13, u46_16, u46_17, u46_18, u46_21, u46_24, u46_25, oF, oI, oJ, oIl, oLl, oAl, oIs, oLs, oAs, oInc, oBin, oAdd, oSub, oMul, oAnd, oOr, oXor, oDiv, oRem, oNeg, oLBin, oLAdd, oLSub, oLMul, oLDiv, oLNeg, oI2L, oL2I, oLcmp, oDup, oPop, oDupX1, oDup2, oEq, oNe, oLt, oGe, oGt, oLe, oCEq, oCNe, oCLt, oCGe, oCGt, oCLe, oGoto, oTab, oLook, oGetI, oGetR, oPutI, oPutZ, oPutR, oIald, oLald, oAald, oIast, oLast, oAast, oLen, oCallS, oCallV, oCallA, oCallI, oCallIA, oObj, oCopy, oIRet, oZRet, oLRet, oARet, oVRet, ↓gI_0, ↓gL_0, ↓gR_0, ↓gI_s, ↓gL_s, ↓gR_s, ↓pI_i, ↓pL_l, ↓pR_r, ↓p1_i, ↓p1_r, ↓pE_e, ↓pN_z, ↓pN_1, ↓pN_2, ↓pN_3, ↓pN_4, ↓pN_5, ↓pN_6, ↓rl_0, ↓rl_1, ↓rl_2, ↓rl_3, ↓rl_4, ↓hdR_r, ↓hdO_r, va_rf_s, endQ, sL1_0, sL1_ss, sL1_1i, sL1_1r, sL1_1n, sL1_1l, sL2_0, sL2_ss, sL2_1i, sL2_1r, sL2_1n, sL2_1l, List.getElem?_cons_zero, List.getElem?_cons_succ, Option.toList_some, Option.toList_none, List.cons_append, List.nil_append, Nat.reduceAdd, true_and, and_true, and_self, wA_s, wA_w, ↓reduceIte, ite_self]
  try rfl
set_option maxRecDepth 100000 in
theorem q_inv_5_3 {d : Nat} {I : Nat → Nat → Int32} {L : Nat → Nat → Int64} {P : Nat → Nat → Option Nat} {n s : Nat} {Q : Qm} : Call (d + 1) 46 [.int 3, .int 5] (I, L, P, n, s) Q = Q (some (.int 2)) (I, L, P, n, s) := by
  simp +decide only [c46, u46_0, u46_1, u46_2, u46_3, u46_4, u46_7, u46_8, u46_9, u46_10, u46_11, u46_12, u46_13, u46_16, u46_17, u46_18, u46_21, u46_24, u46_25, oF, oI, oJ, oIl, oLl, oAl, oIs, oLs, oAs, oInc, oBin, oAdd, oSub, oMul, oAnd, oOr, oXor, oDiv, oRem, oNeg, oLBin, oLAdd, oLSub, oLMul, oLDiv, oLNeg, oI2L, oL2I, oLcmp, oDup, oPop, oDupX1, oDup2, oEq, oNe, oLt, oGe, oGt, oLe, oCEq, oCNe, oCLt, oCGe, oCGt, oCLe, oGoto, oTab, oLook, oGetI, oGetR, oPutI, oPutZ, oPutR, oIald, oLald, oAald, oIast, oLast, oAast, oLen, oCallS, oCallV, oCallA, oCallI, oCallIA, oObj, oCopy, oIRet, oZRet, oLRet, oARet, oVRet, ↓gI_0, ↓gL_0, ↓gR_0, ↓gI_s, ↓gL_s, ↓gR_s, ↓pI_i, ↓pL_l, ↓pR_r, ↓p1_i, ↓p1_r, ↓pE_e, ↓pN_z, ↓pN_1, ↓pN_2, ↓pN_3, ↓pN_4, ↓pN_5, ↓pN_6, ↓rl_0, ↓rl_1, ↓rl_2, ↓rl_3, ↓rl_4, ↓hdR_r, ↓hdO_r, va_rf_s, endQ, sL1_0, sL1_ss, sL1_1i, sL1_1r, sL1_1n, sL1_1l, sL2_0, sL2_ss, sL2_1i, sL2_1r, sL2_1n, sL2_1l, List.getElem?_cons_zero, List.getElem?_cons_succ, Option.toList_some, Option.toList_none, List.cons_append, List.nil_append, Nat.reduceAdd, true_and, and_true, and_self, wA_s, wA_w, ↓reduceIte, ite_self]
  try rfl
set_option maxRecDepth 100000 in
theorem q_inv_5_4 {d : Nat} {I : Nat → Nat → Int32} {L : Nat → Nat → Int64} {P : Nat → Nat → Option Nat} {n s : Nat} {Q : Qm} : Call (d + 1) 46 [.int 4, .int 5] (I, L, P, n, s) Q = Q (some (.int 4)) (I, L, P, n, s) := by
  simp +decide only [c46, u46_0, u46_1, u46_2, u46_3, u46_4, u46_7, u46_8, u46_9, u46_10, u46_11, u46_12, u46_13, u46_16, u46_17, u46_18, u46_21, u46_24, u46_25, oF, oI, oJ, oIl, oLl, oAl, oIs, oLs, oAs, oInc, oBin, oAdd, oSub, oMul, oAnd, oOr, oXor, oDiv, oRem, oNeg, oLBin, oLAdd, oLSub, oLMul, oLDiv, oLNeg, oI2L, oL2I, oLcmp, oDup, oPop, oDupX1, oDup2, oEq, oNe, oLt, oGe, oGt, oLe, oCEq, oCNe, oCLt, oCGe, oCGt, oCLe, oGoto, oTab, oLook, oGetI, oGetR, oPutI, oPutZ, oPutR, oIald, oLald, oAald, oIast, oLast, oAast, oLen, oCallS, oCallV, oCallA, oCallI, oCallIA, oObj, oCopy, oIRet, oZRet, oLRet, oARet, oVRet, ↓gI_0, ↓gL_0, ↓gR_0, ↓gI_s, ↓gL_s, ↓gR_s, ↓pI_i, ↓pL_l, ↓pR_r, ↓p1_i, ↓p1_r, ↓pE_e, ↓pN_z, ↓pN_1, ↓pN_2, ↓pN_3, ↓pN_4, ↓pN_5, ↓pN_6, ↓rl_0, ↓rl_1, ↓rl_2, ↓rl_3, ↓rl_4, ↓hdR_r, ↓hdO_r, va_rf_s, endQ, sL1_0, sL1_ss, sL1_1i, sL1_1r, sL1_1n, sL1_1l, sL2_0, sL2_ss, sL2_1i, sL2_1r, sL2_1n, sL2_1l, List.getElem?_cons_zero, List.getElem?_cons_succ, Option.toList_some, Option.toList_none, List.cons_append, List.nil_append, Nat.reduceAdd, true_and, and_true, and_self, wA_s, wA_w, ↓reduceIte, ite_self]
  try rfl
set_option maxRecDepth 100000 in
theorem q_inv_7_0 {d : Nat} {I : Nat → Nat → Int32} {L : Nat → Nat → Int64} {P : Nat → Nat → Option Nat} {n s : Nat} {Q : Qm} : Call (d + 1) 46 [.int 0, .int 7] (I, L, P, n, s) Q = Q (some (.int 0)) (I, L, P, n, s) := by
  simp +decide only [c46, u46_0, u46_1, u46_2, u46_3, u46_4, u46_7, u46_8, u46_9, u46_10, u46_11, u46_12, u46_13, u46_16, u46_17, u46_18, u46_21, u46_24, u46_25, oF, oI, oJ, oIl, oLl, oAl, oIs, oLs, oAs, oInc, oBin, oAdd, oSub, oMul, oAnd, oOr, oXor, oDiv, oRem, oNeg, oLBin, oLAdd, oLSub, oLMul, oLDiv, oLNeg, oI2L, oL2I, oLcmp, oDup, oPop, oDupX1, oDup2, oEq, oNe, oLt, oGe, oGt, oLe, oCEq, oCNe, oCLt, oCGe, oCGt, oCLe, oGoto, oTab, oLook, oGetI, oGetR, oPutI, oPutZ, oPutR, oIald, oLald, oAald, oIast, oLast, oAast, oLen, oCallS, oCallV, oCallA, oCallI, oCallIA, oObj, oCopy, oIRet, oZRet, oLRet, oARet, oVRet, ↓gI_0, ↓gL_0, ↓gR_0, ↓gI_s, ↓gL_s, ↓gR_s, ↓pI_i, ↓pL_l, ↓pR_r, ↓p1_i, ↓p1_r, ↓pE_e, ↓pN_z, ↓pN_1, ↓pN_2, ↓pN_3, ↓pN_4, ↓pN_5, ↓pN_6, ↓rl_0, ↓rl_1, ↓rl_2, ↓rl_3, ↓rl_4, ↓hdR_r, ↓hdO_r, va_rf_s, endQ, sL1_0, sL1_ss, sL1_1i, sL1_1r, sL1_1n, sL1_1l, sL2_0, sL2_ss, sL2_1i, sL2_1r, sL2_1n, sL2_1l, List.getElem?_cons_zero, List.getElem?_cons_succ, Option.toList_some, Option.toList_none, List.cons_append, List.nil_append, Nat.reduceAdd, true_and, and_true, and_self, wA_s, wA_w, ↓reduceIte, ite_self]
  try rfl
set_option maxRecDepth 100000 in
theorem q_inv_7_1 {d : Nat} {I : Nat → Nat → Int32} {L : Nat → Nat → Int64} {P : Nat → Nat → Option Nat} {n s : Nat} {Q : Qm} : Call (d + 1) 46 [.int 1, .int 7] (I, L, P, n, s) Q = Q (some (.int 1)) (I, L, P, n, s) := by
  simp +decide only [c46, u46_0, u46_1, u46_2, u46_3, u46_4, u46_7, u46_8, u46_9, u46_10, u46_11, u46_12, u46_13, u46_16, u46_17, u46_18, u46_21, u46_24, u46_25, oF, oI, oJ, oIl, oLl, oAl, oIs, oLs, oAs, oInc, oBin, oAdd, oSub, oMul, oAnd, oOr, oXor, oDiv, oRem, oNeg, oLBin, oLAdd, oLSub, oLMul, oLDiv, oLNeg, oI2L, oL2I, oLcmp, oDup, oPop, oDupX1, oDup2, oEq, oNe, oLt, oGe, oGt, oLe, oCEq, oCNe, oCLt, oCGe, oCGt, oCLe, oGoto, oTab, oLook, oGetI, oGetR, oPutI, oPutZ, oPutR, oIald, oLald, oAald, oIast, oLast, oAast, oLen, oCallS, oCallV, oCallA, oCallI, oCallIA, oObj, oCopy, oIRet, oZRet, oLRet, oARet, oVRet, ↓gI_0, ↓gL_0, ↓gR_0, ↓gI_s, ↓gL_s, ↓gR_s, ↓pI_i, ↓pL_l, ↓pR_r, ↓p1_i, ↓p1_r, ↓pE_e, ↓pN_z, ↓pN_1, ↓pN_2, ↓pN_3, ↓pN_4, ↓pN_5, ↓pN_6, ↓rl_0, ↓rl_1, ↓rl_2, ↓rl_3, ↓rl_4, ↓hdR_r, ↓hdO_r, va_rf_s, endQ, sL1_0, sL1_ss, sL1_1i, sL1_1r, sL1_1n, sL1_1l, sL2_0, sL2_ss, sL2_1i, sL2_1r, sL2_1n, sL2_1l, List.getElem?_cons_zero, List.getElem?_cons_succ, Option.toList_some, Option.toList_none, List.cons_append, List.nil_append, Nat.reduceAdd, true_and, and_true, and_self, wA_s, wA_w, ↓reduceIte, ite_self]
  try rfl
set_option maxRecDepth 100000 in
theorem q_inv_7_2 {d : Nat} {I : Nat → Nat → Int32} {L : Nat → Nat → Int64} {P : Nat → Nat → Option Nat} {n s : Nat} {Q : Qm} : Call (d + 1) 46 [.int 2, .int 7] (I, L, P, n, s) Q = Q (some (.int 4)) (I, L, P, n, s) := by
  simp +decide only [c46, u46_0, u46_1, u46_2, u46_3, u46_4, u46_7, u46_8, u46_9, u46_10, u46_11, u46_12, u46_13, u46_16, u46_17, u46_18, u46_21, u46_24, u46_25, oF, oI, oJ, oIl, oLl, oAl, oIs, oLs, oAs, oInc, oBin, oAdd, oSub, oMul, oAnd, oOr, oXor, oDiv, oRem, oNeg, oLBin, oLAdd, oLSub, oLMul, oLDiv, oLNeg, oI2L, oL2I, oLcmp, oDup, oPop, oDupX1, oDup2, oEq, oNe, oLt, oGe, oGt, oLe, oCEq, oCNe, oCLt, oCGe, oCGt, oCLe, oGoto, oTab, oLook, oGetI, oGetR, oPutI, oPutZ, oPutR, oIald, oLald, oAald, oIast, oLast, oAast, oLen, oCallS, oCallV, oCallA, oCallI, oCallIA, oObj, oCopy, oIRet, oZRet, oLRet, oARet, oVRet, ↓gI_0, ↓gL_0, ↓gR_0, ↓gI_s, ↓gL_s, ↓gR_s, ↓pI_i, ↓pL_l, ↓pR_r, ↓p1_i, ↓p1_r, ↓pE_e, ↓pN_z, ↓pN_1, ↓pN_2, ↓pN_3, ↓pN_4, ↓pN_5, ↓pN_6, ↓rl_0, ↓rl_1, ↓rl_2, ↓rl_3, ↓rl_4, ↓hdR_r, ↓hdO_r, va_rf_s, endQ, sL1_0, sL1_ss, sL1_1i, sL1_1r, sL1_1n, sL1_1l, sL2_0, sL2_ss, sL2_1i, sL2_1r, sL2_1n, sL2_1l, List.getElem?_cons_zero, List.getElem?_cons_succ, Option.toList_some, Option.toList_none, List.cons_append, List.nil_append, Nat.reduceAdd, true_and, and_true, and_self, wA_s, wA_w, ↓reduceIte, ite_self]
  try rfl
set_option maxRecDepth 100000 in
theorem q_inv_7_3 {d : Nat} {I : Nat → Nat → Int32} {L : Nat → Nat → Int64} {P : Nat → Nat → Option Nat} {n s : Nat} {Q : Qm} : Call (d + 1) 46 [.int 3, .int 7] (I, L, P, n, s) Q = Q (some (.int 5)) (I, L, P, n, s) := by
  simp +decide only [c46, u46_0, u46_1, u46_2, u46_3, u46_4, u46_7, u46_8, u46_9, u46_10, u46_11, u46_12, u46_13, u46_16, u46_17, u46_18, u46_21, u46_24, u46_25, oF, oI, oJ, oIl, oLl, oAl, oIs, oLs, oAs, oInc, oBin, oAdd, oSub, oMul, oAnd, oOr, oXor, oDiv, oRem, oNeg, oLBin, oLAdd, oLSub, oLMul, oLDiv, oLNeg, oI2L, oL2I, oLcmp, oDup, oPop, oDupX1, oDup2, oEq, oNe, oLt, oGe, oGt, oLe, oCEq, oCNe, oCLt, oCGe, oCGt, oCLe, oGoto, oTab, oLook, oGetI, oGetR, oPutI, oPutZ, oPutR, oIald, oLald, oAald, oIast, oLast, oAast, oLen, oCallS, oCallV, oCallA, oCallI, oCallIA, oObj, oCopy, oIRet, oZRet, oLRet, oARet, oVRet, ↓gI_0, ↓gL_0, ↓gR_0, ↓gI_s, ↓gL_s, ↓gR_s, ↓pI_i, ↓pL_l, ↓pR_r, ↓p1_i, ↓p1_r, ↓pE_e, ↓pN_z, ↓pN_1, ↓pN_2, ↓pN_3, ↓pN_4, ↓pN_5, ↓pN_6, ↓rl_0, ↓rl_1, ↓rl_2, ↓rl_3, ↓rl_4, ↓hdR_r, ↓hdO_r, va_rf_s, endQ, sL1_0, sL1_ss, sL1_1i, sL1_1r, sL1_1n, sL1_1l, sL2_0, sL2_ss, sL2_1i, sL2_1r, sL2_1n, sL2_1l, List.getElem?_cons_zero, List.getElem?_cons_succ, Option.toList_some, Option.toList_none, List.cons_append, List.nil_append, Nat.reduceAdd, true_and, and_true, and_self, wA_s, wA_w, ↓reduceIte, ite_self]
  try rfl
set_option maxRecDepth 100000 in
theorem q_inv_7_4 {d : Nat} {I : Nat → Nat → Int32} {L : Nat → Nat → Int64} {P : Nat → Nat → Option Nat} {n s : Nat} {Q : Qm} : Call (d + 1) 46 [.int 4, .int 7] (I, L, P, n, s) Q = Q (some (.int 2)) (I, L, P, n, s) := by
  simp +decide only [c46, u46_0, u46_1, u46_2, u46_3, u46_4, u46_7, u46_8, u46_9, u46_10, u46_11, u46_12, u46_13, u46_16, u46_17, u46_18, u46_21, u46_24, u46_25, oF, oI, oJ, oIl, oLl, oAl, oIs, oLs, oAs, oInc, oBin, oAdd, oSub, oMul, oAnd, oOr, oXor, oDiv, oRem, oNeg, oLBin, oLAdd, oLSub, oLMul, oLDiv, oLNeg, oI2L, oL2I, oLcmp, oDup, oPop, oDupX1, oDup2, oEq, oNe, oLt, oGe, oGt, oLe, oCEq, oCNe, oCLt, oCGe, oCGt, oCLe, oGoto, oTab, oLook, oGetI, oGetR, oPutI, oPutZ, oPutR, oIald, oLald, oAald, oIast, oLast, oAast, oLen, oCallS, oCallV, oCallA, oCallI, oCallIA, oObj, oCopy, oIRet, oZRet, oLRet, oARet, oVRet, ↓gI_0, ↓gL_0, ↓gR_0, ↓gI_s, ↓gL_s, ↓gR_s, ↓pI_i, ↓pL_l, ↓pR_r, ↓p1_i, ↓p1_r, ↓pE_e, ↓pN_z, ↓pN_1, ↓pN_2, ↓pN_3, ↓pN_4, ↓pN_5, ↓pN_6, ↓rl_0, ↓rl_1, ↓rl_2, ↓rl_3, ↓rl_4, ↓hdR_r, ↓hdO_r, va_rf_s, endQ, sL1_0, sL1_ss, sL1_1i, sL1_1r, sL1_1n, sL1_1l, sL2_0, sL2_ss, sL2_1i, sL2_1r, sL2_1n, sL2_1l, List.getElem?_cons_zero, List.getElem?_cons_succ, Option.toList_some, Option.toList_none, List.cons_append, List.nil_append, Nat.reduceAdd, true_and, and_true, and_self, wA_s, wA_w, ↓reduceIte, ite_self]
  try rfl
set_option maxRecDepth 100000 in
theorem q_inv_7_5 {d : Nat} {I : Nat → Nat → Int32} {L : Nat → Nat → Int64} {P : Nat → Nat → Option Nat} {n s : Nat} {Q : Qm} : Call (d + 1) 46 [.int 5, .int 7] (I, L, P, n, s) Q = Q (some (.int 3)) (I, L, P, n, s) := by
  simp +decide only [c46, u46_0, u46_1, u46_2, u46_3, u46_4, u46_7, u46_8, u46_9, u46_10, u46_11, u46_12, u46_13, u46_16, u46_17, u46_18, u46_21, u46_24, u46_25, oF, oI, oJ, oIl, oLl, oAl, oIs, oLs, oAs, oInc, oBin, oAdd, oSub, oMul, oAnd, oOr, oXor, oDiv, oRem, oNeg, oLBin, oLAdd, oLSub, oLMul, oLDiv, oLNeg, oI2L, oL2I, oLcmp, oDup, oPop, oDupX1, oDup2, oEq, oNe, oLt, oGe, oGt, oLe, oCEq, oCNe, oCLt, oCGe, oCGt, oCLe, oGoto, oTab, oLook, oGetI, oGetR, oPutI, oPutZ, oPutR, oIald, oLald, oAald, oIast, oLast, oAast, oLen, oCallS, oCallV, oCallA, oCallI, oCallIA, oObj, oCopy, oIRet, oZRet, oLRet, oARet, oVRet, ↓gI_0, ↓gL_0, ↓gR_0, ↓gI_s, ↓gL_s, ↓gR_s, ↓pI_i, ↓pL_l, ↓pR_r, ↓p1_i, ↓p1_r, ↓pE_e, ↓pN_z, ↓pN_1, ↓pN_2, ↓pN_3, ↓pN_4, ↓pN_5, ↓pN_6, ↓rl_0, ↓rl_1, ↓rl_2, ↓rl_3, ↓rl_4, ↓hdR_r, ↓hdO_r, va_rf_s, endQ, sL1_0, sL1_ss, sL1_1i, sL1_1r, sL1_1n, sL1_1l, sL2_0, sL2_ss, sL2_1i, sL2_1r, sL2_1n, sL2_1l, List.getElem?_cons_zero, List.getElem?_cons_succ, Option.toList_some, Option.toList_none, List.cons_append, List.nil_append, Nat.reduceAdd, true_and, and_true, and_self, wA_s, wA_w, ↓reduceIte, ite_self]
  try rfl
set_option maxRecDepth 100000 in
theorem q_inv_7_6 {d : Nat} {I : Nat → Nat → Int32} {L : Nat → Nat → Int64} {P : Nat → Nat → Option Nat} {n s : Nat} {Q : Qm} : Call (d + 1) 46 [.int 6, .int 7] (I, L, P, n, s) Q = Q (some (.int 6)) (I, L, P, n, s) := by
  simp +decide only [c46, u46_0, u46_1, u46_2, u46_3, u46_4, u46_7, u46_8, u46_9, u46_10, u46_11, u46_12, u46_13, u46_16, u46_17, u46_18, u46_21, u46_24, u46_25, oF, oI, oJ, oIl, oLl, oAl, oIs, oLs, oAs, oInc, oBin, oAdd, oSub, oMul, oAnd, oOr, oXor, oDiv, oRem, oNeg, oLBin, oLAdd, oLSub, oLMul, oLDiv, oLNeg, oI2L, oL2I, oLcmp, oDup, oPop, oDupX1, oDup2, oEq, oNe, oLt, oGe, oGt, oLe, oCEq, oCNe, oCLt, oCGe, oCGt, oCLe, oGoto, oTab, oLook, oGetI, oGetR, oPutI, oPutZ, oPutR, oIald, oLald, oAald, oIast, oLast, oAast, oLen, oCallS, oCallV, oCallA, oCallI, oCallIA, oObj, oCopy, oIRet, oZRet, oLRet, oARet, oVRet, ↓gI_0, ↓gL_0, ↓gR_0, ↓gI_s, ↓gL_s, ↓gR_s, ↓pI_i, ↓pL_l, ↓pR_r, ↓p1_i, ↓p1_r, ↓pE_e, ↓pN_z, ↓pN_1, ↓pN_2, ↓pN_3, ↓pN_4, ↓pN_5, ↓pN_6, ↓rl_0, ↓rl_1, ↓rl_2, ↓rl_3, ↓rl_4, ↓hdR_r, ↓hdO_r, va_rf_s, endQ, sL1_0, sL1_ss, sL1_1i, sL1_1r, sL1_1n, sL1_1l, sL2_0, sL2_ss, sL2_1i, sL2_1r, sL2_1n, sL2_1l, List.getElem?_cons_zero, List.getElem?_cons_succ, Option.toList_some, Option.toList_none, List.cons_append, List.nil_append, Nat.reduceAdd, true_and, and_true, and_self, wA_s, wA_w, ↓reduceIte, ite_self]
  try rfl
theorem q_inv {d : Nat} {I : Nat → Nat → Int32} {L : Nat → Nat → Int64} {P : Nat → Nat → Option Nat} {n s : Nat} {Q : Qm} {q m : Nat} (hq : qOk q) (hm : m < q) : Call (d + 1) 46 [.int (nI m), .int (nI q)] (I, L, P, n, s) Q = Q (some (.int (nI (ivX q m)))) (I, L, P, n, s) := by
  rcases hq with rfl | rfl | rfl
  · rcases (by omega : m = 0 ∨ m = 1 ∨ m = 2) with rfl | rfl | rfl
    · exact q_inv_3_0
    · exact q_inv_3_1
    · exact q_inv_3_2
  · rcases (by omega : m = 0 ∨ m = 1 ∨ m = 2 ∨ m = 3 ∨ m = 4) with rfl | rfl | rfl | rfl | rfl
    · exact q_inv_5_0
    · exact q_inv_5_1
    · exact q_inv_5_2
    · exact q_inv_5_3
    · exact q_inv_5_4
  · rcases (by omega : m = 0 ∨ m = 1 ∨ m = 2 ∨ m = 3 ∨ m = 4 ∨ m = 5 ∨ m = 6) with rfl | rfl | rfl | rfl | rfl | rfl | rfl
    · exact q_inv_7_0
    · exact q_inv_7_1
    · exact q_inv_7_2
    · exact q_inv_7_3
    · exact q_inv_7_4
    · exact q_inv_7_5
    · exact q_inv_7_6
theorem qOk_b {q : Nat} (h : qOk q) : 0 < q ∧ q < 100 := by rcases h with rfl | rfl | rfl <;> decide
theorem ivX_lt {q m : Nat} (h : qOk q) (hm : m < q) : ivX q m < q := by
  rcases h with rfl | rfl | rfl
  · rcases (by omega : m = 0 ∨ m = 1 ∨ m = 2) with rfl | rfl | rfl <;> decide
  · rcases (by omega : m = 0 ∨ m = 1 ∨ m = 2 ∨ m = 3 ∨ m = 4) with rfl | rfl | rfl | rfl | rfl <;> decide
  · rcases (by omega : m = 0 ∨ m = 1 ∨ m = 2 ∨ m = 3 ∨ m = 4 ∨ m = 5 ∨ m = 6) with rfl | rfl | rfl | rfl | rfl | rfl | rfl <;> decide
theorem nI_z {r : Nat} (h : r < 2 ^ 31) : (nI r = 0) = (r = 0) := propext (by rw [← nI_0]; exact nI_eq h (by decide))
/-- by what residues are multiplied -/
def fcR (q a b c d : Nat) : Nat := ivX q (if a = 0 then (if b = 0 then (if c = 0 then d else c) else b) else a)
def fcF (q : Nat) (f : Nat → Int32) : Nat := fcR q (rsd q (f 0)) (rsd q (f 1)) (rsd q (f 2)) (rsd q (f 3))
set_option maxRecDepth 100000 in
theorem q_class {d : Nat} {I : Nat → Nat → Int32} {L : Nat → Nat → Int64} {P : Nat → Nat → Option Nat} {n s : Nat} {Q : Qm} {z q : Nat} (hz : kd z = 3) (hq : qOk q) : Call (d + 2) 45 [.ref z, .int (nI q)] (I, L, P, n, s) Q = Q none (wA I z (q4 (I z) (nI (rsd q (I z 0) * fcF q (I z) % q)) (nI (rsd q (I z 1) * fcF q (I z) % q)) (nI (rsd q (I z 2) * fcF q (I z) % q)) (nI (rsd q (I z 3) * fcF q (I z) % q))), L, P, n, s) := by
  obtain ⟨h0, h1⟩ := qOk_b hq
  have hz0 : (nI q = 0) = False := eq_false (nI_ne0 h0 (by omega))
  have b0 := rsd_lt h0 (I z 0)
  have b1 := rsd_lt h0 (I z 1)
  have b2 := rsd_lt h0 (I z 2)
  have b3 := rsd_lt h0 (I z 3)
  have hr : ∀ a b, a < q → b < q → nI (a * b) - nI (a * b) / nI q * nI q = nI (a * b % q) := fun a b ha hb => pk_rem (by have := Nat.mul_lt_mul'' ha hb; have : q * q < 100 * 100 := Nat.mul_lt_mul'' h1 h1; omega) h0 (by omega)
  have i0 := ivX_lt hq b0
  have i1 := ivX_lt hq b1
  have i2 := ivX_lt hq b2
  have i3 := ivX_lt hq b3
  have z0 : (nI (rsd q (I z 0)) = 0) = (rsd q (I z 0) = 0) := nI_z (by omega)
  have z1 : (nI (rsd q (I z 1)) = 0) = (rsd q (I z 1) = 0) := nI_z (by omega)
  have z2 : (nI (rsd q (I z 2)) = 0) = (rsd q (I z 2) = 0) := nI_z (by omega)
  have hm : ¬ nI q = 0 := nI_ne0 h0 (by omega)
  simp only [c45, u45_0, u45_1, u45_4, u45_5, u45_6, u45_7, u45_10, u45_11, u45_14, u45_15, u45_18, u45_19, u45_22, u45_23, u45_26, u45_27, u45_30, u45_31, u45_34, u45_35, u45_38, u45_41, u45_42, u45_45, u45_48, u45_49, u45_52, u45_55, u45_56, u45_59, u45_62, u45_63, u45_66, u45_69, u45_70, u45_73, u45_76, u45_77, u45_80, u45_83, u45_84, u45_87, u45_88, u45_91, u45_92, u45_93, u45_94, u45_97, u45_98, u45_99, u45_100, u45_101, u45_102, u45_105, u45_106, u45_107, u45_108, u45_109, u45_110, u45_113, u45_114, u45_115, u45_116, u45_117, u45_118, u45_121, u45_122, u45_123, u45_124, u45_125, u45_128, oF, oI, oJ, oIl, oLl, oAl, oIs, oLs, oAs, oInc, oBin, oAdd, oSub, oMul, oAnd, oOr, oXor, oDiv, oRem, oNeg, oLBin, oLAdd, oLSub, oLMul, oLDiv, oLNeg, oI2L, oL2I, oLcmp, oDup, oPop, oDupX1, oDup2, oEq, oNe, oLt, oGe, oGt, oLe, oCEq, oCNe, oCLt, oCGe, oCGt, oCLe, oGoto, oTab, oLook, oGetI, oGetR, oPutI, oPutZ, oPutR, oIald, oLald, oAald, oIast, oLast, oAast, oLen, oCallS, oCallV, oCallA, oCallI, oCallIA, oObj, oCopy, oIRet, oZRet, oLRet, oARet, oVRet, ↓gI_0, ↓gL_0, ↓gR_0, ↓gI_s, ↓gL_s, ↓gR_s, ↓pI_i, ↓pL_l, ↓pR_r, ↓p1_i, ↓p1_r, ↓pE_e, ↓pN_z, ↓pN_1, ↓pN_2, ↓pN_3, ↓pN_4, ↓pN_5, ↓pN_6, ↓rl_0, ↓rl_1, ↓rl_2, ↓rl_3, ↓rl_4, ↓hdR_r, ↓hdO_r, va_rf_s, endQ, sL1_0, sL1_ss, sL1_1i, sL1_1r, sL1_1n, sL1_1l, sL2_0, sL2_ss, sL2_1i, sL2_1r, sL2_1n, sL2_1l, List.getElem?_cons_zero, List.getElem?_cons_succ, Option.toList_some, Option.toList_none, List.cons_append, List.nil_append, Nat.reduceAdd, true_and, and_true, and_self, wA_s, wA_w, ↓reduceIte, ite_self, hz, hz0, ↓m_fmod hm, fmod_nI h0 h1, ↓q_become hz, q4_0, q4_1, q4_2, q4_3, z0, z1, z2, ↓q_inv hq b0, ↓q_inv hq b1, ↓q_inv hq b2, ↓q_inv hq b3, pk_mul, hr, b0, b1, b2, b3, i0, i1, i2, i3, q4_q, not_false_eq_true]
  unfold fcF fcR
  by_cases e0 : rsd q (I z 0) = 0
  · by_cases e1 : rsd q (I z 1) = 0
    · by_cases e2 : rsd q (I z 2) = 0
      · simp only [e0, e1, e2, if_true]
      · simp only [e0, e1, e2, if_true, if_false]
    · simp only [e0, e1, if_true, if_false]
  · simp only [e0, if_false]
