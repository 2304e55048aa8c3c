/-! the reference: pointers, leaves -/
def MP (P : Nat → Nat → Option Nat) : Prop := P 454 2 = some 455 ∧ P 454 4 = some 456 ∧ P 454 5 = some 457 ∧ P 454 7 = some 458 ∧ P 454 8 = some 459 ∧ P 454 9 = some 460 ∧ P 454 11 = some 461 ∧ P 454 13 = some 462 ∧ P 454 15 = some 463 ∧ P 454 16 = some 464 ∧ P 454 18 = some 465 ∧ P 454 19 = some 466 ∧ P 454 20 = some 467 ∧ P 454 23 = some 468 ∧ P 454 25 = some 469 ∧ P 454 26 = some 470 ∧ P 454 35 = some 471 ∧ P 454 36 = some 472 ∧ P 454 37 = some 473 ∧ P 454 39 = some 474 ∧ P 454 40 = some 475 ∧ P 454 41 = some 476 ∧ P 454 42 = some 477 ∧ P 454 43 = some 478 ∧ P 454 44 = some 479 ∧ P 454 45 = some 480 ∧ P 454 46 = some 481 ∧ P 454 47 = some 482 ∧ P 454 48 = some 483
def rng (r N : Int32) : Bool := decide (¬ r < 0) && decide (r < N)
theorem rng_f {r N : Int32} : (decide (¬ r < 0) && decide (r < N)) = rng r N := rfl
theorem rng_e {r : Int32} {N : Nat} (hN : N < 2 ^ 31) (h : rng r (nI N) = true) : ∃ k, k < N ∧ r = nI k := by
  unfold rng at h
  simp only [Bool.and_eq_true, decide_eq_true_eq] at h
  obtain ⟨h1, h2⟩ := h
  have e1 : ¬ r.toInt < 0 := fun q => h1 (by rw [Int32.lt_iff_toInt_lt]; exact q)
  have e2 : r.toInt < N := by
    have := Int32.lt_iff_toInt_lt.mp h2
    rwa [nI_toInt hN] at this
  exact ⟨r.toInt.toNat, by omega, eq_nI (by omega) (by omega)⟩
theorem rng_t {k N : Nat} (hN : N < 2 ^ 31) (h : k < N) : rng (nI k) (nI N) = true := by
  unfold rng
  simp only [Bool.and_eq_true, decide_eq_true_eq]
  exact ⟨nI_pos (by omega), nI_lt h hN⟩
theorem rng_6 {r : Int32} (h : rng r 6 = true) : ∃ k, k < 6 ∧ r = nI k := rng_e (N := 6) (by decide) h
theorem rng_3 {r : Int32} (h : rng r 3 = true) : ∃ k, k < 3 ∧ r = nI k := rng_e (N := 3) (by decide) h
theorem rng_4 {r : Int32} (h : rng r 4 = true) : ∃ k, k < 4 ∧ r = nI k := rng_e (N := 4) (by decide) h
theorem rng_5 {r : Int32} (h : rng r 5 = true) : ∃ k, k < 5 ∧ r = nI k := rng_e (N := 5) (by decide) h
/-- between, of longs -/
def btw (v a b : Int64) : Bool := decide (¬ v < a) && decide (¬ b < v)
def btwI (v a b : Int32) : Bool := decide (¬ v < a) && decide (¬ b < v)
theorem btw_i {v a b : Int32} : btw v.toInt64 a.toInt64 b.toInt64 = btwI v a b := by
  unfold btw btwI
  simp only [Int32.toInt64_lt]
theorem btw_r {v N : Int32} (hN : 0 < N) : btwI v 0 (N - 1) = rng v N := by
  unfold btwI rng
  have e : (N - 1 < v) ↔ ¬ v < N := by
    have h1 := Int32.lt_iff_toInt_lt.mp hN
    have z : (0 : Int32).toInt = 0 := rfl
    have z1 : (1 : Int32).toInt = 1 := rfl
    have b1 := N.toInt_lt
    have b2 := N.le_toInt
    rw [Int32.lt_iff_toInt_lt, Int32.lt_iff_toInt_lt, Int32.toInt_sub, z1, Int.bmod_eq_of_le (by omega) (by omega)]
    omega
  simp only [e, Classical.not_not]
theorem L0 : (0 : Int64) = (0 : Int32).toInt64 := by decide
theorem L1 : (1 : Int64) = (1 : Int32).toInt64 := by decide
theorem L2' : (2 : Int64) = (2 : Int32).toInt64 := by decide
theorem L3 : (3 : Int64) = (3 : Int32).toInt64 := by decide
theorem L4 : (4 : Int64) = (4 : Int32).toInt64 := by decide
theorem L5 : (5 : Int64) = (5 : Int32).toInt64 := by decide
theorem Lm : (-9999 : Int64) = (-9999 : Int32).toInt64 := by decide
theorem Lp : (9999 : Int64) = (9999 : Int32).toInt64 := by decide
theorem b_06 {r : Int32} : btw r.toInt64 0 5 = rng r 6 := by rw [L0, L5, btw_i]; exact btw_r (N := 6) (by decide)
theorem b_03 {r : Int32} : btw r.toInt64 0 2 = rng r 3 := by rw [L0, L2', btw_i]; exact btw_r (N := 3) (by decide)
theorem b_04 {r : Int32} : btw r.toInt64 0 3 = rng r 4 := by rw [L0, L3, btw_i]; exact btw_r (N := 4) (by decide)
theorem b_05 {r : Int32} : btw r.toInt64 0 4 = rng r 5 := by rw [L0, L4, btw_i]; exact btw_r (N := 5) (by decide)
theorem b_02 {r : Int32} : btw r.toInt64 0 1 = rng r 2 := by rw [L0, L1, btw_i]; exact btw_r (N := 2) (by decide)
theorem b_0N {r N : Int32} (h : 0 < N) : btw r.toInt64 0 (N - 1).toInt64 = rng r N := by rw [L0, btw_i]; exact btw_r h
theorem b_ft {r : Int32} : btw r.toInt64 (-9999) 9999 = fit1 r := by rw [Lm, Lp, btw_i]; rfl
set_option maxRecDepth 100000 in
theorem m_in {d : Nat} {I : Nat → Nat → Int32} {L : Nat → Nat → Int64} {P : Nat → Nat → Option Nat} {n s : Nat} {Q : Qm} {v a b : Int64} : Call (d + 1) 141 [.long v, .long a, .long b] (I, L, P, n, s) Q = Q (some (.int (bI (btw v a b)))) (I, L, P, n, s) := by
  simp only [c141, u141_0, u141_1, u141_2, u141_3, u141_6, u141_7, u141_9, u141_10, u141_13, u141_14, u141_17, u141_18, oF, oI, oJ, oIl, oLl, oAl, oIs, oLs, oAs, oInc, oBin, oAdd, oSub, oMul, oAnd, oOr, oXor, oDiv, oRem, oNeg, oLBin, oLAdd, oLSub, oLMul, oLDiv, oLNeg, oI2L, oL2I, oLcmp, oDup, oPop, oDupX1, oDup2, oEq, oNe, oLt, oGe, oGt, oLe, oCEq, oCNe, oCLt, oCGe, oCGt, oCLe, oGoto, oTab, oLook, oGetI, oGetR, oPutI, oPutZ, oPutR, oIald, oLald, oAald, oIast, oLast, oAast, oLen, oCallS, oCallV, oCallA, oCallI, oCallIA, oObj, oCopy, oIRet, oZRet, oLRet, oARet, oVRet, ↓gI_0, ↓gL_0, ↓gR_0, ↓gI_s, ↓gL_s, ↓gR_s, ↓pI_i, ↓pL_l, ↓pR_r, ↓p1_i, ↓p1_r, ↓pE_e, ↓pN_z, ↓pN_1, ↓pN_2, ↓pN_3, ↓pN_4, ↓pN_5, ↓pN_6, ↓rl_0, ↓rl_1, ↓rl_2, ↓rl_3, ↓rl_4, ↓hdR_r, ↓hdO_r, va_rf_s, endQ, sL1_0, sL1_ss, sL1_1i, sL1_1r, sL1_1n, sL1_1l, sL2_0, sL2_ss, sL2_1i, sL2_1r, sL2_1n, sL2_1l, List.getElem?_cons_zero, List.getElem?_cons_succ, Option.toList_some, Option.toList_none, List.cons_append, List.nil_append, Nat.reduceAdd, true_and, and_true, and_self, wA_s, wA_w, ↓reduceIte, ite_self, lg_cmp_lt, lg_cmp_gt, z_0, z_1]
  unfold btw
  by_cases h1 : v < a <;> by_cases h2 : b < v <;> simp [h1, h2, bI]
set_option maxRecDepth 100000 in
theorem m_reg {d : Nat} {I : Nat → Nat → Int32} {L : Nat → Nat → Int64} {P : Nat → Nat → Option Nat} {n s : Nat} {Q : Qm} {r : Int32} : Call (d + 2) 142 [.int r] (I, L, P, n, s) Q = Q (some (.int (bI (rng r 6)))) (I, L, P, n, s) := by
  simp only [c142, u142_0, u142_1, u142_2, u142_3, u142_6, u142_9, oF, oI, oJ, oIl, oLl, oAl, oIs, oLs, oAs, oInc, oBin, oAdd, oSub, oMul, oAnd, oOr, oXor, oDiv, oRem, oNeg, oLBin, oLAdd, oLSub, oLMul, oLDiv, oLNeg, oI2L, oL2I, oLcmp, oDup, oPop, oDupX1, oDup2, oEq, oNe, oLt, oGe, oGt, oLe, oCEq, oCNe, oCLt, oCGe, oCGt, oCLe, oGoto, oTab, oLook, oGetI, oGetR, oPutI, oPutZ, oPutR, oIald, oLald, oAald, oIast, oLast, oAast, oLen, oCallS, oCallV, oCallA, oCallI, oCallIA, oObj, oCopy, oIRet, oZRet, oLRet, oARet, oVRet, ↓gI_0, ↓gL_0, ↓gR_0, ↓gI_s, ↓gL_s, ↓gR_s, ↓pI_i, ↓pL_l, ↓pR_r, ↓p1_i, ↓p1_r, ↓pE_e, ↓pN_z, ↓pN_1, ↓pN_2, ↓pN_3, ↓pN_4, ↓pN_5, ↓pN_6, ↓rl_0, ↓rl_1, ↓rl_2, ↓rl_3, ↓rl_4, ↓hdR_r, ↓hdO_r, va_rf_s, endQ, sL1_0, sL1_ss, sL1_1i, sL1_1r, sL1_1n, sL1_1l, sL2_0, sL2_ss, sL2_1i, sL2_1r, sL2_1n, sL2_1l, List.getElem?_cons_zero, List.getElem?_cons_succ, Option.toList_some, Option.toList_none, List.cons_append, List.nil_append, Nat.reduceAdd, true_and, and_true, and_self, wA_s, wA_w, ↓reduceIte, ite_self, ↓m_in, ↓b_06, bI_01]
set_option maxRecDepth 100000 in
theorem m_row {d : Nat} {I : Nat → Nat → Int32} {L : Nat → Nat → Int64} {P : Nat → Nat → Option Nat} {n s : Nat} {Q : Qm} {r : Int32} : Call (d + 2) 145 [.int r] (I, L, P, n, s) Q = Q (some (.int (bI (rng r 3)))) (I, L, P, n, s) := by
  simp only [c145, u145_0, u145_1, u145_2, u145_3, u145_6, u145_9, oF, oI, oJ, oIl, oLl, oAl, oIs, oLs, oAs, oInc, oBin, oAdd, oSub, oMul, oAnd, oOr, oXor, oDiv, oRem, oNeg, oLBin, oLAdd, oLSub, oLMul, oLDiv, oLNeg, oI2L, oL2I, oLcmp, oDup, oPop, oDupX1, oDup2, oEq, oNe, oLt, oGe, oGt, oLe, oCEq, oCNe, oCLt, oCGe, oCGt, oCLe, oGoto, oTab, oLook, oGetI, oGetR, oPutI, oPutZ, oPutR, oIald, oLald, oAald, oIast, oLast, oAast, oLen, oCallS, oCallV, oCallA, oCallI, oCallIA, oObj, oCopy, oIRet, oZRet, oLRet, oARet, oVRet, ↓gI_0, ↓gL_0, ↓gR_0, ↓gI_s, ↓gL_s, ↓gR_s, ↓pI_i, ↓pL_l, ↓pR_r, ↓p1_i, ↓p1_r, ↓pE_e, ↓pN_z, ↓pN_1, ↓pN_2, ↓pN_3, ↓pN_4, ↓pN_5, ↓pN_6, ↓rl_0, ↓rl_1, ↓rl_2, ↓rl_3, ↓rl_4, ↓hdR_r, ↓hdO_r, va_rf_s, endQ, sL1_0, sL1_ss, sL1_1i, sL1_1r, sL1_1n, sL1_1l, sL2_0, sL2_ss, sL2_1i, sL2_1r, sL2_1n, sL2_1l, List.getElem?_cons_zero, List.getElem?_cons_succ, Option.toList_some, Option.toList_none, List.cons_append, List.nil_append, Nat.reduceAdd, true_and, and_true, and_self, wA_s, wA_w, ↓reduceIte, ite_self, ↓m_in, ↓b_03, bI_01]
set_option maxRecDepth 100000 in
theorem m_isS {d : Nat} {I : Nat → Nat → Int32} {L : Nat → Nat → Int64} {P : Nat → Nat → Option Nat} {n s : Nat} {Q : Qm} {r : Int32} (h : 0 < I 454 6) : Call (d + 2) 143 [.ref 454, .int r] (I, L, P, n, s) Q = Q (some (.int (bI (rng r (I 454 6))))) (I, L, P, n, s) := by
  simp only [c143, u143_0, u143_1, u143_2, u143_3, u143_4, u143_7, u143_8, u143_9, u143_10, u143_13, oF, oI, oJ, oIl, oLl, oAl, oIs, oLs, oAs, oInc, oBin, oAdd, oSub, oMul, oAnd, oOr, oXor, oDiv, oRem, oNeg, oLBin, oLAdd, oLSub, oLMul, oLDiv, oLNeg, oI2L, oL2I, oLcmp, oDup, oPop, oDupX1, oDup2, oEq, oNe, oLt, oGe, oGt, oLe, oCEq, oCNe, oCLt, oCGe, oCGt, oCLe, oGoto, oTab, oLook, oGetI, oGetR, oPutI, oPutZ, oPutR, oIald, oLald, oAald, oIast, oLast, oAast, oLen, oCallS, oCallV, oCallA, oCallI, oCallIA, oObj, oCopy, oIRet, oZRet, oLRet, oARet, oVRet, ↓gI_0, ↓gL_0, ↓gR_0, ↓gI_s, ↓gL_s, ↓gR_s, ↓pI_i, ↓pL_l, ↓pR_r, ↓p1_i, ↓p1_r, ↓pE_e, ↓pN_z, ↓pN_1, ↓pN_2, ↓pN_3, ↓pN_4, ↓pN_5, ↓pN_6, ↓rl_0, ↓rl_1, ↓rl_2, ↓rl_3, ↓rl_4, ↓hdR_r, ↓hdO_r, va_rf_s, endQ, sL1_0, sL1_ss, sL1_1i, sL1_1r, sL1_1n, sL1_1l, sL2_0, sL2_ss, sL2_1i, sL2_1r, sL2_1n, sL2_1l, List.getElem?_cons_zero, List.getElem?_cons_succ, Option.toList_some, Option.toList_none, List.cons_append, List.nil_append, Nat.reduceAdd, true_and, and_true, and_self, wA_s, wA_w, ↓reduceIte, ite_self, kd_454, ↓m_in, ↓b_0N h, bI_01]
set_option maxRecDepth 100000 in
theorem m_isN {d : Nat} {I : Nat → Nat → Int32} {L : Nat → Nat → Int64} {P : Nat → Nat → Option Nat} {n s : Nat} {Q : Qm} {r : Int32} (h : 0 < I 454 10) : Call (d + 2) 144 [.ref 454, .int r] (I, L, P, n, s) Q = Q (some (.int (bI (rng r (I 454 10))))) (I, L, P, n, s) := by
  simp only [c144, u144_0, u144_1, u144_2, u144_3, u144_4, u144_7, u144_8, u144_9, u144_10, u144_13, oF, oI, oJ, oIl, oLl, oAl, oIs, oLs, oAs, oInc, oBin, oAdd, oSub, oMul, oAnd, oOr, oXor, oDiv, oRem, oNeg, oLBin, oLAdd, oLSub, oLMul, oLDiv, oLNeg, oI2L, oL2I, oLcmp, oDup, oPop, oDupX1, oDup2, oEq, oNe, oLt, oGe, oGt, oLe, oCEq, oCNe, oCLt, oCGe, oCGt, oCLe, oGoto, oTab, oLook, oGetI, oGetR, oPutI, oPutZ, oPutR, oIald, oLald, oAald, oIast, oLast, oAast, oLen, oCallS, oCallV, oCallA, oCallI, oCallIA, oObj, oCopy, oIRet, oZRet, oLRet, oARet, oVRet, ↓gI_0, ↓gL_0, ↓gR_0, ↓gI_s, ↓gL_s, ↓gR_s, ↓pI_i, ↓pL_l, ↓pR_r, ↓p1_i, ↓p1_r, ↓pE_e, ↓pN_z, ↓pN_1, ↓pN_2, ↓pN_3, ↓pN_4, ↓pN_5, ↓pN_6, ↓rl_0, ↓rl_1, ↓rl_2, ↓rl_3, ↓rl_4, ↓hdR_r, ↓hdO_r, va_rf_s, endQ, sL1_0, sL1_ss, sL1_1i, sL1_1r, sL1_1n, sL1_1l, sL2_0, sL2_ss, sL2_1i, sL2_1r, sL2_1n, sL2_1l, List.getElem?_cons_zero, List.getElem?_cons_succ, Option.toList_some, Option.toList_none, List.cons_append, List.nil_append, Nat.reduceAdd, true_and, and_true, and_self, wA_s, wA_w, ↓reduceIte, ite_self, kd_454, ↓m_in, ↓b_0N h, bI_01]
def sh {α : Type} (f : Nat → α) (i : Nat) : Nat → α := fun k => f (i + k)
theorem sh_f {α : Type} {f : Nat → α} {i k : Nat} : sh f i k = f (i + k) := rfl
def w4 {α : Type} (f : Nat → α) (b : Nat) (x y z w : α) : Nat → α := fun k => if k = b then x else if k = b + 1 then y else if k = b + 2 then z else if k = b + 3 then w else f k
theorem w4_u {f : Nat → Int32} {b : Nat} {x y z w : Int32} : upd (upd (upd (upd f b x) (b + 1) y) (b + 2) z) (b + 3) w = w4 f b x y z w := by
  funext k
  unfold w4 upd
  by_cases h0 : k = b
  · subst h0; simp
  by_cases h1 : k = b + 1
  · subst h1; simp
  by_cases h2 : k = b + 2
  · subst h2; simp
  simp [h0, h1, h2]
theorem w4_0 {α : Type} {f : Nat → α} {b : Nat} {x y z w : α} : w4 f b x y z w b = x := by simp [w4]
theorem w4_1 {α : Type} {f : Nat → α} {b : Nat} {x y z w : α} : w4 f b x y z w (b + 1) = y := by simp [w4]
theorem w4_2 {α : Type} {f : Nat → α} {b : Nat} {x y z w : α} : w4 f b x y z w (b + 2) = z := by simp [w4]
theorem w4_3 {α : Type} {f : Nat → α} {b : Nat} {x y z w : α} : w4 f b x y z w (b + 3) = w := by simp [w4]
theorem w4_n {α : Type} {f : Nat → α} {b k : Nat} {x y z w : α} (h : ¬ (b ≤ k ∧ k < b + 4)) : w4 f b x y z w k = f k := by
  unfold w4
  rw [if_neg (by omega), if_neg (by omega), if_neg (by omega), if_neg (by omega)]
theorem v_0 {N : Nat} (h : 0 < N) (hN : N ≤ 20000) : vp_in 0 N = True := tv (i := 0) h hN
theorem v_1 {N : Nat} (h : 1 < N) (hN : N ≤ 20000) : vp_in 1 N = True := tv (i := 1) h hN
theorem v_2 {N : Nat} (h : 2 < N) (hN : N ≤ 20000) : vp_in 2 N = True := tv (i := 2) h hN
theorem v_3 {N : Nat} (h : 3 < N) (hN : N ≤ 20000) : vp_in 3 N = True := tv (i := 3) h hN
theorem c_0 : (0 : Int32).toNatClampNeg = 0 := rfl
theorem c_1 : (1 : Int32).toNatClampNeg = 1 := rfl
theorem c_2 : (2 : Int32).toNatClampNeg = 2 := rfl
theorem c_3 : (3 : Int32).toNatClampNeg = 3 := rfl
theorem l_04 : ((0 : Int32) < 4) = True := by decide
theorem l_14 : ((1 : Int32) < 4) = True := by decide
theorem l_24 : ((2 : Int32) < 4) = True := by decide
theorem l_34 : ((3 : Int32) < 4) = True := by decide
theorem l_44 : ((4 : Int32) < 4) = False := by decide
theorem a_01 : (0 : Int32) + 1 = 1 := by decide
theorem a_11 : (1 : Int32) + 1 = 2 := by decide
theorem a_21 : (2 : Int32) + 1 = 3 := by decide
theorem a_31 : (3 : Int32) + 1 = 4 := by decide
set_option maxRecDepth 100000 in
theorem m_mult {d : Nat} {I : Nat → Nat → Int32} {L : Nat → Nat → Int64} {P : Nat → Nat → Option Nat} {n s : Nat} {Q : Qm} (hm : MP P) {x y i k : Nat} (hx : kd x = 10) (hy : kd y = 10) (hi : i + 3 < ln x) (hk : k + 3 < ln y) (bx : ln x ≤ 20000) (by' : ln y ≤ 20000) : Call (d + 1) 146 [.ref 454, .ref x, .int (nI i), .ref y, .int (nI k)] (I, L, P, n, s) Q = Q none (wA I 474 (q4 (I 474) (pA (sh (I x) i) (sh (I y) k)) (pB (sh (I x) i) (sh (I y) k)) (pC (sh (I x) i) (sh (I y) k)) (pD (sh (I x) i) (sh (I y) k))), L, P, n, s) := by
  obtain ⟨m2, m4, m5, m7, m8, m9, m11, m13, m15, m16, m18, m19, m20, m23, m25, m26, m35, m36, m37, m39, m40, m41, m42, m43, m44, m45, m46, m47, m48⟩ := id hm
  simp (disch := first | assumption | omega | decide | (refine kdN ?_; omega) | (refine kdS ?_; omega)) only [c146, u146_0, u146_1, u146_2, u146_3, u146_5, u146_6, u146_7, u146_8, u146_9, u146_10, u146_12, u146_13, u146_14, u146_15, u146_16, u146_17, u146_19, u146_20, u146_21, u146_22, u146_23, u146_24, u146_26, u146_27, u146_29, u146_30, u146_32, u146_33, u146_35, u146_36, u146_37, u146_38, u146_40, u146_41, u146_43, u146_44, u146_45, u146_46, u146_48, u146_49, u146_51, u146_52, u146_53, u146_54, u146_56, u146_57, u146_60, u146_61, u146_63, u146_65, u146_66, u146_68, u146_70, u146_71, u146_72, u146_74, u146_76, u146_77, u146_78, u146_80, u146_82, u146_83, u146_84, u146_85, u146_86, u146_89, u146_90, u146_92, u146_94, u146_95, u146_97, u146_99, u146_100, u146_101, u146_103, u146_105, u146_106, u146_107, u146_109, u146_111, u146_112, u146_113, u146_114, u146_115, u146_118, u146_119, u146_121, u146_123, u146_124, u146_126, u146_128, u146_129, u146_130, u146_132, u146_134, u146_135, u146_136, u146_138, u146_140, u146_141, u146_142, u146_143, u146_144, u146_147, u146_148, u146_150, u146_152, u146_153, u146_155, u146_157, u146_158, u146_159, u146_161, u146_163, u146_164, u146_165, u146_167, u146_169, u146_170, u146_171, u146_172, oF, oI, oJ, oIl, oLl, oAl, oIs, oLs, oAs, oInc, oBin, oAdd, oSub, oMul, oAnd, oOr, oXor, oDiv, oRem, oNeg, oLBin, oLAdd, oLSub, oLMul, oLDiv, oLNeg, oI2L, oL2I, oLcmp, oDup, oPop, oDupX1, oDup2, oEq, oNe, oLt, oGe, oGt, oLe, oCEq, oCNe, oCLt, oCGe, oCGt, oCLe, oGoto, oTab, oLook, oGetI, oGetR, oPutI, oPutZ, oPutR, oIald, oLald, oAald, oIast, oLast, oAast, oLen, oCallS, oCallV, oCallA, oCallI, oCallIA, oObj, oCopy, oIRet, oZRet, oLRet, oARet, oVRet, ↓gI_0, ↓gL_0, ↓gR_0, ↓gI_s, ↓gL_s, ↓gR_s, ↓pI_i, ↓pL_l, ↓pR_r, ↓p1_i, ↓p1_r, ↓pE_e, ↓pN_z, ↓pN_1, ↓pN_2, ↓pN_3, ↓pN_4, ↓pN_5, ↓pN_6, ↓rl_0, ↓rl_1, ↓rl_2, ↓rl_3, ↓rl_4, ↓hdR_r, ↓hdO_r, va_rf_s, endQ, sL1_0, sL1_ss, sL1_1i, sL1_1r, sL1_1n, sL1_1l, sL2_0, sL2_ss, sL2_1i, sL2_1r, sL2_1n, sL2_1l, List.getElem?_cons_zero, List.getElem?_cons_succ, Option.toList_some, Option.toList_none, List.cons_append, List.nil_append, Nat.reduceAdd, true_and, and_true, and_self, wA_s, wA_w, ↓reduceIte, ite_self, true_or, or_true, tv, tc, tl, tg, t0, tz, tw, tu, tup, tuL, nI_add, pk_mul, upd_s, tup_s, tuL_s, nI_0, i1, i2, i3, i4, nm1, m39, kd_454, kd_474, ln_474, hx, hy, v_0, v_1, v_2, v_3, c_0, c_1, c_2, c_3, q4_f]
  rfl
def m4rows : Nat := 0
set_option maxRecDepth 100000 in
theorem m_fits {d : Nat} {I : Nat → Nat → Int32} {L : Nat → Nat → Int64} {P : Nat → Nat → Option Nat} {n s : Nat} {Q : Qm} (hm : MP P) : Call (d + 2) 147 [.ref 454] (I, L, P, n, s) Q = Q (some (.int (bI (fit4 (I 474))))) (I, L, P, n, s) := by
  obtain ⟨m2, m4, m5, m7, m8, m9, m11, m13, m15, m16, m18, m19, m20, m23, m25, m26, m35, m36, m37, m39, m40, m41, m42, m43, m44, m45, m46, m47, m48⟩ := id hm
  simp (disch := first | assumption | omega | decide | (refine kdN ?_; omega) | (refine kdS ?_; omega)) only [c147, u147_0, u147_1, u147_2, u147_3, u147_4, u147_7, u147_8, u147_11, u147_12, u147_13, u147_14, u147_17, u147_20, u147_23, u147_26, u147_27, u147_28, u147_31, u147_34, u147_35, oF, oI, oJ, oIl, oLl, oAl, oIs, oLs, oAs, oInc, oBin, oAdd, oSub, oMul, oAnd, oOr, oXor, oDiv, oRem, oNeg, oLBin, oLAdd, oLSub, oLMul, oLDiv, oLNeg, oI2L, oL2I, oLcmp, oDup, oPop, oDupX1, oDup2, oEq, oNe, oLt, oGe, oGt, oLe, oCEq, oCNe, oCLt, oCGe, oCGt, oCLe, oGoto, oTab, oLook, oGetI, oGetR, oPutI, oPutZ, oPutR, oIald, oLald, oAald, oIast, oLast, oAast, oLen, oCallS, oCallV, oCallA, oCallI, oCallIA, oObj, oCopy, oIRet, oZRet, oLRet, oARet, oVRet, ↓gI_0, ↓gL_0, ↓gR_0, ↓gI_s, ↓gL_s, ↓gR_s, ↓pI_i, ↓pL_l, ↓pR_r, ↓p1_i, ↓p1_r, ↓pE_e, ↓pN_z, ↓pN_1, ↓pN_2, ↓pN_3, ↓pN_4, ↓pN_5, ↓pN_6, ↓rl_0, ↓rl_1, ↓rl_2, ↓rl_3, ↓rl_4, ↓hdR_r, ↓hdO_r, va_rf_s, endQ, sL1_0, sL1_ss, sL1_1i, sL1_1r, sL1_1n, sL1_1l, sL2_0, sL2_ss, sL2_1i, sL2_1r, sL2_1n, sL2_1l, List.getElem?_cons_zero, List.getElem?_cons_succ, Option.toList_some, Option.toList_none, List.cons_append, List.nil_append, Nat.reduceAdd, true_and, and_true, and_self, wA_s, wA_w, ↓reduceIte, ite_self, true_or, or_true, tv, tc, tl, tg, t0, tz, tw, tu, tup, tuL, nI_add, pk_mul, upd_s, tup_s, tuL_s, nI_0, i1, i2, i3, i4, nm1, m39, kd_454, kd_474, ln_474, v_0, v_1, v_2, v_3, c_0, c_1, c_2, c_3, l_04, l_14, l_24, l_34, l_44, a_01, a_11, a_21, a_31, ↓m_in, ↓b_ft, ite_bI, z_0, z_1]
  unfold fit4
  cases fit1 (I 474 0) <;> cases fit1 (I 474 1) <;> cases fit1 (I 474 2) <;> cases fit1 (I 474 3) <;> simp [bI]
set_option maxRecDepth 100000 in
theorem m_lay {d : Nat} {I : Nat → Nat → Int32} {L : Nat → Nat → Int64} {P : Nat → Nat → Option Nat} {n s : Nat} {Q : Qm} (hm : MP P) {r : Nat} (hr : r < 6) : Call (d + 1) 157 [.ref 454, .int (nI r)] (I, L, P, n, s) Q = Q none (wA I 455 (w4 (I 455) (4 * r) (I 474 0) (I 474 1) (I 474 2) (I 474 3)), L, P, n, s) := by
  obtain ⟨m2, m4, m5, m7, m8, m9, m11, m13, m15, m16, m18, m19, m20, m23, m25, m26, m35, m36, m37, m39, m40, m41, m42, m43, m44, m45, m46, m47, m48⟩ := id hm
  simp (disch := first | assumption | omega | decide | (refine kdN ?_; omega) | (refine kdS ?_; omega)) only [c157, u157_0, u157_1, u157_2, u157_3, u157_4, u157_7, u157_8, u157_11, u157_12, u157_13, u157_14, u157_15, u157_16, u157_17, u157_20, u157_21, u157_22, u157_23, u157_26, u157_29, oF, oI, oJ, oIl, oLl, oAl, oIs, oLs, oAs, oInc, oBin, oAdd, oSub, oMul, oAnd, oOr, oXor, oDiv, oRem, oNeg, oLBin, oLAdd, oLSub, oLMul, oLDiv, oLNeg, oI2L, oL2I, oLcmp, oDup, oPop, oDupX1, oDup2, oEq, oNe, oLt, oGe, oGt, oLe, oCEq, oCNe, oCLt, oCGe, oCGt, oCLe, oGoto, oTab, oLook, oGetI, oGetR, oPutI, oPutZ, oPutR, oIald, oLald, oAald, oIast, oLast, oAast, oLen, oCallS, oCallV, oCallA, oCallI, oCallIA, oObj, oCopy, oIRet, oZRet, oLRet, oARet, oVRet, ↓gI_0, ↓gL_0, ↓gR_0, ↓gI_s, ↓gL_s, ↓gR_s, ↓pI_i, ↓pL_l, ↓pR_r, ↓p1_i, ↓p1_r, ↓pE_e, ↓pN_z, ↓pN_1, ↓pN_2, ↓pN_3, ↓pN_4, ↓pN_5, ↓pN_6, ↓rl_0, ↓rl_1, ↓rl_2, ↓rl_3, ↓rl_4, ↓hdR_r, ↓hdO_r, va_rf_s, endQ, sL1_0, sL1_ss, sL1_1i, sL1_1r, sL1_1n, sL1_1l, sL2_0, sL2_ss, sL2_1i, sL2_1r, sL2_1n, sL2_1l, List.getElem?_cons_zero, List.getElem?_cons_succ, Option.toList_some, Option.toList_none, List.cons_append, List.nil_append, Nat.reduceAdd, true_and, and_true, and_self, wA_s, wA_w, ↓reduceIte, ite_self, true_or, or_true, tv, tc, tl, tg, t0, tz, tw, tu, tup, tuL, nI_add, pk_mul, upd_s, tup_s, tuL_s, nI_0, i1, i2, i3, i4, nm1, m39, m2, kd_454, kd_455, ln_455, kd_474, ln_474, v_0, v_1, v_2, v_3, c_0, c_1, c_2, c_3, l_04, l_14, l_24, l_34, l_44, a_01, a_11, a_21, a_31, Int32.add_zero, w4_u]
set_option maxRecDepth 100000 in
theorem m_norm {d : Nat} {I : Nat → Nat → Int32} {L : Nat → Nat → Int64} {P : Nat → Nat → Option Nat} {n s : Nat} {Q : Qm} {x i : Nat} (hx : kd x = 10) (hi : i + 3 < ln x) (bx : ln x ≤ 20000) : Call (d + 1) 149 [.ref x, .int (nI i)] (I, L, P, n, s) Q = Q (some (.int (sq4 (sh (I x) i)))) (I, L, P, n, s) := by
  simp (disch := first | assumption | omega | decide | (refine kdN ?_; omega) | (refine kdS ?_; omega)) only [c149, u149_0, u149_1, u149_2, u149_3, u149_4, u149_5, u149_6, u149_7, u149_8, u149_9, u149_10, u149_11, u149_12, u149_13, u149_14, u149_15, u149_16, u149_17, u149_18, u149_19, u149_20, u149_21, u149_22, u149_23, u149_24, u149_25, u149_26, u149_27, u149_28, u149_29, u149_30, u149_31, u149_32, u149_33, u149_34, u149_35, u149_36, u149_37, u149_38, u149_39, u149_40, u149_41, u149_42, u149_43, oF, oI, oJ, oIl, oLl, oAl, oIs, oLs, oAs, oInc, oBin, oAdd, oSub, oMul, oAnd, oOr, oXor, oDiv, oRem, oNeg, oLBin, oLAdd, oLSub, oLMul, oLDiv, oLNeg, oI2L, oL2I, oLcmp, oDup, oPop, oDupX1, oDup2, oEq, oNe, oLt, oGe, oGt, oLe, oCEq, oCNe, oCLt, oCGe, oCGt, oCLe, oGoto, oTab, oLook, oGetI, oGetR, oPutI, oPutZ, oPutR, oIald, oLald, oAald, oIast, oLast, oAast, oLen, oCallS, oCallV, oCallA, oCallI, oCallIA, oObj, oCopy, oIRet, oZRet, oLRet, oARet, oVRet, ↓gI_0, ↓gL_0, ↓gR_0, ↓gI_s, ↓gL_s, ↓gR_s, ↓pI_i, ↓pL_l, ↓pR_r, ↓p1_i, ↓p1_r, ↓pE_e, ↓pN_z, ↓pN_1, ↓pN_2, ↓pN_3, ↓pN_4, ↓pN_5, ↓pN_6, ↓rl_0, ↓rl_1, ↓rl_2, ↓rl_3, ↓rl_4, ↓hdR_r, ↓hdO_r, va_rf_s, endQ, sL1_0, sL1_ss, sL1_1i, sL1_1r, sL1_1n, sL1_1l, sL2_0, sL2_ss, sL2_1i, sL2_1r, sL2_1n, sL2_1l, List.getElem?_cons_zero, List.getElem?_cons_succ, Option.toList_some, Option.toList_none, List.cons_append, List.nil_append, Nat.reduceAdd, true_and, and_true, and_self, wA_s, wA_w, ↓reduceIte, ite_self, true_or, or_true, tv, tc, tl, tg, t0, tz, tw, tu, tup, tuL, nI_add, pk_mul, upd_s, tup_s, tuL_s, nI_0, i1, i2, i3, i4, nm1, hx]
  rfl
