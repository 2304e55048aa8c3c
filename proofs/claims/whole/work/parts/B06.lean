/-! Network: counting, ways; what its arrays hold -/
/-- the class's arrays hold network x -/
def NC (x : Nat) (I : Nat → Nat → Int32) : Prop := (x < 11 ∧ I 50 8 = nI (qW x) ∧ I 50 9 = nI (nN x) ∧ I 50 10 = bI (sdX x) ∧ I 51 5 = nI (pW x) ∧ I 51 6 = nI (sN x)) ∧ (∀ s, s < sN x → ∀ k, k < 4 → I (53 + s) k = Int32.ofInt (stX x s k)) ∧ (∀ s, s < sN x → I 83 s = nI (rvX x s)) ∧ (∀ j, j < nN x → ∀ k, k < 4 → I (88 + j) k = nI (ndX x j k)) ∧ (∀ c, c < 2401 → I 424 c = if nuX x c < nN x then nI (nuX x c) else -2) ∧ (∀ j, j < nN x → ∀ s, s < sN x → I 425 (j * 30 + s) = nI (tgX x j s)) ∧ (∀ j, j < nN x → I 426 j = nI (diX x j) ∧ I 427 j = nI (paX x j) ∧ I 428 j = nI (lsX x j))
theorem nN_b : ∀ x, x < 11 → 0 < nN x ∧ nN x ≤ 336 := by decide +kernel
theorem sN_b : ∀ x, x < 11 → 0 < sN x ∧ sN x ≤ 30 := by decide +kernel
theorem qW_b : ∀ x, x < 11 → qW x = 3 ∨ qW x = 5 ∨ qW x = 7 := by decide +kernel
theorem tg_b : ∀ x, x < 11 → ckE x = true := fun x h => match x, h with
  | 0, _ => ckE_0 | 1, _ => ckE_1 | 2, _ => ckE_2 | 3, _ => ckE_3 | 4, _ => ckE_4 | 5, _ => ckE_5 | 6, _ => ckE_6 | 7, _ => ckE_7 | 8, _ => ckE_8 | 9, _ => ckE_9 | 10, _ => ckE_10
  | n + 11, h => absurd h (by omega)
theorem tg_lt {x n s : Nat} (hx : x < 11) (hn : n < nN x) (hs : s < sN x) : tgX x n s < nN x := by
  have h := allB_i (allB_i (tg_b x hx) n hn) s hs
  simp only [Bool.and_eq_true] at h
  have h2 := h.2
  rw [Nat.blt_eq] at h2
  exact h2
def ckP (x : Nat) : Bool := allB (nN x) fun j => Nat.blt (paX x j) (nN x) && Nat.blt (lsX x j) (sN x) && (Nat.beq j 0 || (Nat.beq (diX x j) (diX x (paX x j) + 1) && Nat.beq (tgX x (paX x j) (lsX x j)) j)) && Nat.ble (diX x j) 6 && Nat.beq (nuX x (cdX x j)) j && Nat.blt (cdX x j) 2401
theorem ckP_all : ∀ x, x < 11 → ckP x = true := by decide +kernel
theorem ckP_0 : ∀ x, x < 11 → diX x 0 = 0 := by decide +kernel
theorem tr_f {x j : Nat} (hx : x < 11) (hj : j < nN x) : paX x j < nN x ∧ lsX x j < sN x ∧ (¬ j = 0 → diX x j = diX x (paX x j) + 1 ∧ tgX x (paX x j) (lsX x j) = j) ∧ diX x j ≤ 6 ∧ nuX x (cdX x j) = j ∧ cdX x j < 2401 := by
  have h := allB_i (ckP_all x hx) j hj
  simp only [Bool.and_eq_true, Bool.or_eq_true, Nat.blt_eq, Nat.ble_eq, Nat.beq_eq] at h
  obtain ⟨⟨⟨⟨⟨h1, h2⟩, h3⟩, h4⟩, h5⟩, h6⟩ := h
  exact ⟨h1, h2, fun z => h3.elim (fun q => absurd q z) id, h4, h5, h6⟩
/-- the k-th node ahead of one on its way -/
def anc (x : Nat) : Nat → Nat → Nat
  | 0, v => v
  | k + 1, v => paX x (anc x k v)
theorem anc_lt {x j : Nat} (hx : x < 11) (hj : j < nN x) : ∀ k, anc x k j < nN x
  | 0 => hj
  | k + 1 => (tr_f hx (anc_lt hx hj k)).1
def cntF (f : Nat → Int32) (k : Int32) : Nat → Nat
  | 0 => 0
  | n + 1 => if f n = k then cntF f k n + 1 else cntF f k n
theorem cntF_le {f : Nat → Int32} {k : Int32} : ∀ n, cntF f k n ≤ n
  | 0 => Nat.le_refl _
  | n + 1 => by
    have := cntF_le (f := f) (k := k) n
    unfold cntF
    split <;> omega
theorem cntF_s {f : Nat → Int32} {k : Int32} {n : Nat} : cntF f k (n + 1) = if f n = k then cntF f k n + 1 else cntF f k n := rfl
set_option maxRecDepth 100000 in
theorem n_many {d : Nat} {I : Nat → Nat → Int32} {L : Nat → Nat → Int64} {P : Nat → Nat → Option Nat} {n s : Nat} {Q : Qm} (hp : NP P) {N : Nat} {k : Int32} (hN : N ≤ 336) (e : I 50 9 = nI N) : Call (d + 1) 25 [.ref 50, .int k] (I, L, P, n, s) Q = Q (some (.int (nI (cntF (I 426) k N)))) (I, L, P, n, s) := by
  obtain ⟨p50_0, p50_1, p50_2, p50_3, p50_4, p50_5, p50_6, p50_7, p51_0, p51_1, p51_2, p51_3, p51_4, pS, pN⟩ := hp
  have step : ∀ i, i < N → WP (Call d) (kod 25) (n, s) (endQ n s Q) 4 [.ref 50, .int k, .int (nI (cntF (I 426) k i)), .int (nI i)] [] (I, L, P, n, s) = WP (Call d) (kod 25) (n, s) (endQ n s Q) 4 [.ref 50, .int k, .int (nI (cntF (I 426) k (i + 1))), .int (nI (i + 1))] [] (I, L, P, n, s) := by
    intro i hi
    have hi2 : i < 336 := by omega
    rw [u25_4]
    simp only [u25_0, u25_1, u25_2, u25_3, u25_5, u25_6, u25_9, u25_12, u25_13, u25_16, u25_17, u25_18, u25_19, u25_22, u25_25, u25_28, u25_31, u25_32, oF, oI, oJ, oIl, oLl, oAl, oIs, oLs, oAs, oInc, oBin, oAdd, oSub, oMul, oAnd, oOr, oXor, oDiv, oRem, oNeg, oLBin, oLAdd, oLSub, oLMul, oLDiv, oLNeg, oI2L, oL2I, oLcmp, oDup, oPop, oDupX1, oDup2, oEq, oNe, oLt, oGe, oGt, oLe, oCEq, oCNe, oCLt, oCGe, oCGt, oCLe, oGoto, oTab, oLook, oGetI, oGetR, oPutI, oPutZ, oPutR, oIald, oLald, oAald, oIast, oLast, oAast, oLen, oCallS, oCallV, oCallA, oCallI, oCallIA, oObj, oCopy, oIRet, oZRet, oLRet, oARet, oVRet, ↓gI_0, ↓gL_0, ↓gR_0, ↓gI_s, ↓gL_s, ↓gR_s, ↓pI_i, ↓pL_l, ↓pR_r, ↓p1_i, ↓p1_r, ↓pE_e, ↓pN_z, ↓pN_1, ↓pN_2, ↓pN_3, ↓pN_4, ↓pN_5, ↓pN_6, ↓rl_0, ↓rl_1, ↓rl_2, ↓rl_3, ↓rl_4, ↓hdR_r, ↓hdO_r, va_rf_s, endQ, sL1_0, sL1_ss, sL1_1i, sL1_1r, sL1_1n, sL1_1l, sL2_0, sL2_ss, sL2_1i, sL2_1r, sL2_1n, sL2_1l, List.getElem?_cons_zero, List.getElem?_cons_succ, Option.toList_some, Option.toList_none, List.cons_append, List.nil_append, Nat.reduceAdd, true_and, and_true, and_self, wA_s, wA_w, ↓reduceIte, ite_self, p50_0, p50_1, p50_2, p50_3, p50_4, p50_5, p50_6, p50_7, p51_0, p51_1, p51_2, p51_3, p51_4, kd_50, ln_50, kd_51, ln_51, kd_52, ln_52, kd_83, ln_83, kd_84, ln_84, kd_85, ln_85, kd_86, ln_86, kd_87, ln_87, kd_424, ln_424, kd_425, ln_425, kd_426, ln_426, kd_427, ln_427, kd_428, ln_428, kd_429, ln_429, e, nI_lt hi (by omega : N < 2 ^ 31), vin hi2 (by decide), cln hi2 (by decide), nI_1, cntF_s]
    by_cases h : I 426 i = k
    · simp only [h, if_true]
    · simp only [h, if_false]
  have fin := chain _ _ step 0 (Nat.zero_le _)
  simp only [c25, u25_0, u25_1, u25_2, u25_3, u25_5, u25_6, u25_9, u25_12, u25_13, u25_16, u25_17, u25_18, u25_19, u25_22, u25_25, u25_28, u25_31, u25_32, oF, oI, oJ, oIl, oLl, oAl, oIs, oLs, oAs, oInc, oBin, oAdd, oSub, oMul, oAnd, oOr, oXor, oDiv, oRem, oNeg, oLBin, oLAdd, oLSub, oLMul, oLDiv, oLNeg, oI2L, oL2I, oLcmp, oDup, oPop, oDupX1, oDup2, oEq, oNe, oLt, oGe, oGt, oLe, oCEq, oCNe, oCLt, oCGe, oCGt, oCLe, oGoto, oTab, oLook, oGetI, oGetR, oPutI, oPutZ, oPutR, oIald, oLald, oAald, oIast, oLast, oAast, oLen, oCallS, oCallV, oCallA, oCallI, oCallIA, oObj, oCopy, oIRet, oZRet, oLRet, oARet, oVRet, ↓gI_0, ↓gL_0, ↓gR_0, ↓gI_s, ↓gL_s, ↓gR_s, ↓pI_i, ↓pL_l, ↓pR_r, ↓p1_i, ↓p1_r, ↓pE_e, ↓pN_z, ↓pN_1, ↓pN_2, ↓pN_3, ↓pN_4, ↓pN_5, ↓pN_6, ↓rl_0, ↓rl_1, ↓rl_2, ↓rl_3, ↓rl_4, ↓hdR_r, ↓hdO_r, va_rf_s, endQ, sL1_0, sL1_ss, sL1_1i, sL1_1r, sL1_1n, sL1_1l, sL2_0, sL2_ss, sL2_1i, sL2_1r, sL2_1n, sL2_1l, List.getElem?_cons_zero, List.getElem?_cons_succ, Option.toList_some, Option.toList_none, List.cons_append, List.nil_append, Nat.reduceAdd, true_and, and_true, and_self, wA_s, wA_w, ↓reduceIte, ite_self]
  refine fin.trans ?_
  rw [u25_4]
  simp only [u25_0, u25_1, u25_2, u25_3, u25_5, u25_6, u25_9, u25_12, u25_13, u25_16, u25_17, u25_18, u25_19, u25_22, u25_25, u25_28, u25_31, u25_32, oF, oI, oJ, oIl, oLl, oAl, oIs, oLs, oAs, oInc, oBin, oAdd, oSub, oMul, oAnd, oOr, oXor, oDiv, oRem, oNeg, oLBin, oLAdd, oLSub, oLMul, oLDiv, oLNeg, oI2L, oL2I, oLcmp, oDup, oPop, oDupX1, oDup2, oEq, oNe, oLt, oGe, oGt, oLe, oCEq, oCNe, oCLt, oCGe, oCGt, oCLe, oGoto, oTab, oLook, oGetI, oGetR, oPutI, oPutZ, oPutR, oIald, oLald, oAald, oIast, oLast, oAast, oLen, oCallS, oCallV, oCallA, oCallI, oCallIA, oObj, oCopy, oIRet, oZRet, oLRet, oARet, oVRet, ↓gI_0, ↓gL_0, ↓gR_0, ↓gI_s, ↓gL_s, ↓gR_s, ↓pI_i, ↓pL_l, ↓pR_r, ↓p1_i, ↓p1_r, ↓pE_e, ↓pN_z, ↓pN_1, ↓pN_2, ↓pN_3, ↓pN_4, ↓pN_5, ↓pN_6, ↓rl_0, ↓rl_1, ↓rl_2, ↓rl_3, ↓rl_4, ↓hdR_r, ↓hdO_r, va_rf_s, endQ, sL1_0, sL1_ss, sL1_1i, sL1_1r, sL1_1n, sL1_1l, sL2_0, sL2_ss, sL2_1i, sL2_1r, sL2_1n, sL2_1l, List.getElem?_cons_zero, List.getElem?_cons_succ, Option.toList_some, Option.toList_none, List.cons_append, List.nil_append, Nat.reduceAdd, true_and, and_true, and_self, wA_s, wA_w, ↓reduceIte, ite_self, kd_50, ln_50, kd_51, ln_51, kd_52, ln_52, kd_83, ln_83, kd_84, ln_84, kd_85, ln_85, kd_86, ln_86, kd_87, ln_87, kd_424, ln_424, kd_425, ln_425, kd_426, ln_426, kd_427, ln_427, kd_428, ln_428, kd_429, ln_429, e, Int32.lt_irrefl]
set_option maxRecDepth 100000 in
theorem n_wayStep {d : Nat} {I : Nat → Nat → Int32} {L : Nat → Nat → Int64} {P : Nat → Nat → Option Nat} {n s : Nat} {Q : Qm} (hp : NP P) {x j i : Nat} (h : NC x I) (hj : j < nN x) (hi : i < diX x j) : Call (d + 1) 26 [.ref 50, .int (nI j), .int (nI i)] (I, L, P, n, s) Q = Q (some (.int (nI (lsX x (anc x (diX x j - 1 - i) j))))) (I, L, P, n, s) := by
  obtain ⟨p50_0, p50_1, p50_2, p50_3, p50_4, p50_5, p50_6, p50_7, p51_0, p51_1, p51_2, p51_3, p51_4, pS, pN⟩ := hp
  obtain ⟨⟨hx, -⟩, -, -, -, -, -, hT⟩ := h
  have hb := (nN_b x hx).2
  have hj2 : j < 336 := by omega
  have hd := (tr_f hx hj).2.2.2.1
  have step : ∀ k, k < diX x j - 1 - i → WP (Call d) (kod 26) (n, s) (endQ n s Q) 12 [.ref 50, .int (nI j), .int (nI i), .int (nI (anc x k j)), .int (nI (diX x j - 1 - k))] [] (I, L, P, n, s) = WP (Call d) (kod 26) (n, s) (endQ n s Q) 12 [.ref 50, .int (nI j), .int (nI i), .int (nI (anc x (k + 1) j)), .int (nI (diX x j - 1 - (k + 1)))] [] (I, L, P, n, s) := by
    intro k hk
    have ha := anc_lt hx hj k
    have ha2 : anc x k j < 336 := by omega
    have e1 : nI (diX x j - 1 - k) + (-1) = nI (diX x j - 1 - (k + 1)) := by
      rw [show diX x j - 1 - k = (diX x j - 1 - (k + 1)) + 1 by omega, pk_m1]
    rw [u26_12]
    simp only [u26_0, u26_1, u26_2, u26_3, u26_6, u26_7, u26_8, u26_9, u26_10, u26_14, u26_15, u26_18, u26_19, u26_22, u26_23, u26_24, u26_25, u26_28, u26_31, u26_32, u26_35, u26_36, u26_37, oF, oI, oJ, oIl, oLl, oAl, oIs, oLs, oAs, oInc, oBin, oAdd, oSub, oMul, oAnd, oOr, oXor, oDiv, oRem, oNeg, oLBin, oLAdd, oLSub, oLMul, oLDiv, oLNeg, oI2L, oL2I, oLcmp, oDup, oPop, oDupX1, oDup2, oEq, oNe, oLt, oGe, oGt, oLe, oCEq, oCNe, oCLt, oCGe, oCGt, oCLe, oGoto, oTab, oLook, oGetI, oGetR, oPutI, oPutZ, oPutR, oIald, oLald, oAald, oIast, oLast, oAast, oLen, oCallS, oCallV, oCallA, oCallI, oCallIA, oObj, oCopy, oIRet, oZRet, oLRet, oARet, oVRet, ↓gI_0, ↓gL_0, ↓gR_0, ↓gI_s, ↓gL_s, ↓gR_s, ↓pI_i, ↓pL_l, ↓pR_r, ↓p1_i, ↓p1_r, ↓pE_e, ↓pN_z, ↓pN_1, ↓pN_2, ↓pN_3, ↓pN_4, ↓pN_5, ↓pN_6, ↓rl_0, ↓rl_1, ↓rl_2, ↓rl_3, ↓rl_4, ↓hdR_r, ↓hdO_r, va_rf_s, endQ, sL1_0, sL1_ss, sL1_1i, sL1_1r, sL1_1n, sL1_1l, sL2_0, sL2_ss, sL2_1i, sL2_1r, sL2_1n, sL2_1l, List.getElem?_cons_zero, List.getElem?_cons_succ, Option.toList_some, Option.toList_none, List.cons_append, List.nil_append, Nat.reduceAdd, true_and, and_true, and_self, wA_s, wA_w, ↓reduceIte, ite_self, p50_0, p50_1, p50_2, p50_3, p50_4, p50_5, p50_6, p50_7, p51_0, p51_1, p51_2, p51_3, p51_4, kd_50, ln_50, kd_51, ln_51, kd_52, ln_52, kd_83, ln_83, kd_84, ln_84, kd_85, ln_85, kd_86, ln_86, kd_87, ln_87, kd_424, ln_424, kd_425, ln_425, kd_426, ln_426, kd_427, ln_427, kd_428, ln_428, kd_429, ln_429, nI_lt (show i < diX x j - 1 - k by omega) (by omega), vin ha2 (by decide), cln ha2 (by decide), (hT _ ha).2.1, e1]
    rfl
  have fin := chain _ _ step 0 (Nat.zero_le _)
  have e0 : nI (diX x j) - 1 = nI (diX x j - 1) := pk_sub (a := diX x j) (b := 1) (by omega)
  simp only [c26, u26_0, u26_1, u26_2, u26_3, u26_6, u26_7, u26_8, u26_9, u26_10, u26_14, u26_15, u26_18, u26_19, u26_22, u26_23, u26_24, u26_25, u26_28, u26_31, u26_32, u26_35, u26_36, u26_37, oF, oI, oJ, oIl, oLl, oAl, oIs, oLs, oAs, oInc, oBin, oAdd, oSub, oMul, oAnd, oOr, oXor, oDiv, oRem, oNeg, oLBin, oLAdd, oLSub, oLMul, oLDiv, oLNeg, oI2L, oL2I, oLcmp, oDup, oPop, oDupX1, oDup2, oEq, oNe, oLt, oGe, oGt, oLe, oCEq, oCNe, oCLt, oCGe, oCGt, oCLe, oGoto, oTab, oLook, oGetI, oGetR, oPutI, oPutZ, oPutR, oIald, oLald, oAald, oIast, oLast, oAast, oLen, oCallS, oCallV, oCallA, oCallI, oCallIA, oObj, oCopy, oIRet, oZRet, oLRet, oARet, oVRet, ↓gI_0, ↓gL_0, ↓gR_0, ↓gI_s, ↓gL_s, ↓gR_s, ↓pI_i, ↓pL_l, ↓pR_r, ↓p1_i, ↓p1_r, ↓pE_e, ↓pN_z, ↓pN_1, ↓pN_2, ↓pN_3, ↓pN_4, ↓pN_5, ↓pN_6, ↓rl_0, ↓rl_1, ↓rl_2, ↓rl_3, ↓rl_4, ↓hdR_r, ↓hdO_r, va_rf_s, endQ, sL1_0, sL1_ss, sL1_1i, sL1_1r, sL1_1n, sL1_1l, sL2_0, sL2_ss, sL2_1i, sL2_1r, sL2_1n, sL2_1l, List.getElem?_cons_zero, List.getElem?_cons_succ, Option.toList_some, Option.toList_none, List.cons_append, List.nil_append, Nat.reduceAdd, true_and, and_true, and_self, wA_s, wA_w, ↓reduceIte, ite_self, p50_0, p50_1, p50_2, p50_3, p50_4, p50_5, p50_6, p50_7, p51_0, p51_1, p51_2, p51_3, p51_4, kd_50, ln_50, kd_51, ln_51, kd_52, ln_52, kd_83, ln_83, kd_84, ln_84, kd_85, ln_85, kd_86, ln_86, kd_87, ln_87, kd_424, ln_424, kd_425, ln_425, kd_426, ln_426, kd_427, ln_427, kd_428, ln_428, kd_429, ln_429, vin hj2 (by decide), cln hj2 (by decide), (hT _ hj).1, e0]
  refine fin.trans ?_
  have ha := anc_lt hx hj (diX x j - 1 - i)
  have ha2 : anc x (diX x j - 1 - i) j < 336 := by omega
  have e2 : diX x j - 1 - (diX x j - 1 - i) = i := by omega
  rw [u26_12]
  simp only [u26_0, u26_1, u26_2, u26_3, u26_6, u26_7, u26_8, u26_9, u26_10, u26_14, u26_15, u26_18, u26_19, u26_22, u26_23, u26_24, u26_25, u26_28, u26_31, u26_32, u26_35, u26_36, u26_37, oF, oI, oJ, oIl, oLl, oAl, oIs, oLs, oAs, oInc, oBin, oAdd, oSub, oMul, oAnd, oOr, oXor, oDiv, oRem, oNeg, oLBin, oLAdd, oLSub, oLMul, oLDiv, oLNeg, oI2L, oL2I, oLcmp, oDup, oPop, oDupX1, oDup2, oEq, oNe, oLt, oGe, oGt, oLe, oCEq, oCNe, oCLt, oCGe, oCGt, oCLe, oGoto, oTab, oLook, oGetI, oGetR, oPutI, oPutZ, oPutR, oIald, oLald, oAald, oIast, oLast, oAast, oLen, oCallS, oCallV, oCallA, oCallI, oCallIA, oObj, oCopy, oIRet, oZRet, oLRet, oARet, oVRet, ↓gI_0, ↓gL_0, ↓gR_0, ↓gI_s, ↓gL_s, ↓gR_s, ↓pI_i, ↓pL_l, ↓pR_r, ↓p1_i, ↓p1_r, ↓pE_e, ↓pN_z, ↓pN_1, ↓pN_2, ↓pN_3, ↓pN_4, ↓pN_5, ↓pN_6, ↓rl_0, ↓rl_1, ↓rl_2, ↓rl_3, ↓rl_4, ↓hdR_r, ↓hdO_r, va_rf_s, endQ, sL1_0, sL1_ss, sL1_1i, sL1_1r, sL1_1n, sL1_1l, sL2_0, sL2_ss, sL2_1i, sL2_1r, sL2_1n, sL2_1l, List.getElem?_cons_zero, List.getElem?_cons_succ, Option.toList_some, Option.toList_none, List.cons_append, List.nil_append, Nat.reduceAdd, true_and, and_true, and_self, wA_s, wA_w, ↓reduceIte, ite_self, p50_0, p50_1, p50_2, p50_3, p50_4, p50_5, p50_6, p50_7, p51_0, p51_1, p51_2, p51_3, p51_4, kd_50, ln_50, kd_51, ln_51, kd_52, ln_52, kd_83, ln_83, kd_84, ln_84, kd_85, ln_85, kd_86, ln_86, kd_87, ln_87, kd_424, ln_424, kd_425, ln_425, kd_426, ln_426, kd_427, ln_427, kd_428, ln_428, kd_429, ln_429, e2, Int32.lt_irrefl, vin ha2 (by decide), cln ha2 (by decide), (hT _ ha).2.2]
