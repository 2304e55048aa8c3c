/-! Steps: find, reverses, make -/
set_option maxRecDepth 100000 in
theorem n_sfind {d : Nat} {I : Nat → Nat → Int32} {L : Nat → Nat → Int64} {P : Nat → Nat → Option Nat} {n s : Nat} {Q : Qm} (hp : NP P) {y r N : Nat} (hy : kd y = 3) (hN : N ≤ 30) (e : I 51 6 = nI N) (hr : r < N) (h1 : like4 (I (53 + r)) (I y) = true) (h2 : ∀ i, i < r → like4 (I (53 + i)) (I y) = false) : Call (d + 2) 73 [.ref 51, .ref y] (I, L, P, n, s) Q = Q (some (.int (nI r))) (I, L, P, n, s) := by
  obtain ⟨p50_0, p50_1, p50_2, p50_3, p50_4, p50_5, p50_6, p50_7, p51_0, p51_1, p51_2, p51_3, p51_4, pS, pN⟩ := hp
  have step : ∀ i, i < r → WP (Call (d + 1)) (kod 73) (n, s) (endQ n s Q) 2 [.ref 51, .ref y, .int (nI i)] [] (I, L, P, n, s) = WP (Call (d + 1)) (kod 73) (n, s) (endQ n s Q) 2 [.ref 51, .ref y, .int (nI (i + 1))] [] (I, L, P, n, s) := by
    intro i hi
    have hi3 : i < 30 := by omega
    have hl := h2 i hi
    rw [u73_2]
    simp only [u73_0, u73_1, u73_3, u73_4, u73_7, u73_10, u73_11, u73_14, u73_15, u73_16, u73_17, u73_20, u73_23, u73_24, u73_25, u73_28, u73_31, u73_32, oF, oI, oJ, oIl, oLl, oAl, oIs, oLs, oAs, oInc, oBin, oAdd, oSub, oMul, oAnd, oOr, oXor, oDiv, oRem, oNeg, oLBin, oLAdd, oLSub, oLMul, oLDiv, oLNeg, oI2L, oL2I, oLcmp, oDup, oPop, oDupX1, oDup2, oEq, oNe, oLt, oGe, oGt, oLe, oCEq, oCNe, oCLt, oCGe, oCGt, oCLe, oGoto, oTab, oLook, oGetI, oGetR, oPutI, oPutZ, oPutR, oIald, oLald, oAald, oIast, oLast, oAast, oLen, oCallS, oCallV, oCallA, oCallI, oCallIA, oObj, oCopy, oIRet, oZRet, oLRet, oARet, oVRet, ↓gI_0, ↓gL_0, ↓gR_0, ↓gI_s, ↓gL_s, ↓gR_s, ↓pI_i, ↓pL_l, ↓pR_r, ↓p1_i, ↓p1_r, ↓pE_e, ↓pN_z, ↓pN_1, ↓pN_2, ↓pN_3, ↓pN_4, ↓pN_5, ↓pN_6, ↓rl_0, ↓rl_1, ↓rl_2, ↓rl_3, ↓rl_4, ↓hdR_r, ↓hdO_r, va_rf_s, endQ, sL1_0, sL1_ss, sL1_1i, sL1_1r, sL1_1n, sL1_1l, sL2_0, sL2_ss, sL2_1i, sL2_1r, sL2_1n, sL2_1l, List.getElem?_cons_zero, List.getElem?_cons_succ, Option.toList_some, Option.toList_none, List.cons_append, List.nil_append, Nat.reduceAdd, true_and, and_true, and_self, wA_s, wA_w, ↓reduceIte, ite_self, p50_0, p50_1, p50_2, p50_3, p50_4, p50_5, p50_6, p50_7, p51_0, p51_1, p51_2, p51_3, p51_4, kd_50, ln_50, kd_51, ln_51, kd_52, ln_52, kd_83, ln_83, kd_84, ln_84, kd_85, ln_85, kd_86, ln_86, kd_87, ln_87, kd_424, ln_424, kd_425, ln_425, kd_426, ln_426, kd_427, ln_427, kd_428, ln_428, kd_429, ln_429, e, nI_lt (show i < N by omega) (show N < 2 ^ 31 by omega), vin hi3 (by decide), cln hi3 (by decide), pS _ hi3, kdS hi3, hy, ↓q_like (kdS hi3) hy, hl, bI_f, nI_1]
  have fin := chain _ _ step 0 (Nat.zero_le _)
  simp only [c73, u73_0, u73_1, u73_3, u73_4, u73_7, u73_10, u73_11, u73_14, u73_15, u73_16, u73_17, u73_20, u73_23, u73_24, u73_25, u73_28, u73_31, u73_32, oF, oI, oJ, oIl, oLl, oAl, oIs, oLs, oAs, oInc, oBin, oAdd, oSub, oMul, oAnd, oOr, oXor, oDiv, oRem, oNeg, oLBin, oLAdd, oLSub, oLMul, oLDiv, oLNeg, oI2L, oL2I, oLcmp, oDup, oPop, oDupX1, oDup2, oEq, oNe, oLt, oGe, oGt, oLe, oCEq, oCNe, oCLt, oCGe, oCGt, oCLe, oGoto, oTab, oLook, oGetI, oGetR, oPutI, oPutZ, oPutR, oIald, oLald, oAald, oIast, oLast, oAast, oLen, oCallS, oCallV, oCallA, oCallI, oCallIA, oObj, oCopy, oIRet, oZRet, oLRet, oARet, oVRet, ↓gI_0, ↓gL_0, ↓gR_0, ↓gI_s, ↓gL_s, ↓gR_s, ↓pI_i, ↓pL_l, ↓pR_r, ↓p1_i, ↓p1_r, ↓pE_e, ↓pN_z, ↓pN_1, ↓pN_2, ↓pN_3, ↓pN_4, ↓pN_5, ↓pN_6, ↓rl_0, ↓rl_1, ↓rl_2, ↓rl_3, ↓rl_4, ↓hdR_r, ↓hdO_r, va_rf_s, endQ, sL1_0, sL1_ss, sL1_1i, sL1_1r, sL1_1n, sL1_1l, sL2_0, sL2_ss, sL2_1i, sL2_1r, sL2_1n, sL2_1l, List.getElem?_cons_zero, List.getElem?_cons_succ, Option.toList_some, Option.toList_none, List.cons_append, List.nil_append, Nat.reduceAdd, true_and, and_true, and_self, wA_s, wA_w, ↓reduceIte, ite_self]
  refine fin.trans ?_
  have hr3 : r < 30 := by omega
  rw [u73_2]
  simp only [u73_0, u73_1, u73_3, u73_4, u73_7, u73_10, u73_11, u73_14, u73_15, u73_16, u73_17, u73_20, u73_23, u73_24, u73_25, u73_28, u73_31, u73_32, oF, oI, oJ, oIl, oLl, oAl, oIs, oLs, oAs, oInc, oBin, oAdd, oSub, oMul, oAnd, oOr, oXor, oDiv, oRem, oNeg, oLBin, oLAdd, oLSub, oLMul, oLDiv, oLNeg, oI2L, oL2I, oLcmp, oDup, oPop, oDupX1, oDup2, oEq, oNe, oLt, oGe, oGt, oLe, oCEq, oCNe, oCLt, oCGe, oCGt, oCLe, oGoto, oTab, oLook, oGetI, oGetR, oPutI, oPutZ, oPutR, oIald, oLald, oAald, oIast, oLast, oAast, oLen, oCallS, oCallV, oCallA, oCallI, oCallIA, oObj, oCopy, oIRet, oZRet, oLRet, oARet, oVRet, ↓gI_0, ↓gL_0, ↓gR_0, ↓gI_s, ↓gL_s, ↓gR_s, ↓pI_i, ↓pL_l, ↓pR_r, ↓p1_i, ↓p1_r, ↓pE_e, ↓pN_z, ↓pN_1, ↓pN_2, ↓pN_3, ↓pN_4, ↓pN_5, ↓pN_6, ↓rl_0, ↓rl_1, ↓rl_2, ↓rl_3, ↓rl_4, ↓hdR_r, ↓hdO_r, va_rf_s, endQ, sL1_0, sL1_ss, sL1_1i, sL1_1r, sL1_1n, sL1_1l, sL2_0, sL2_ss, sL2_1i, sL2_1r, sL2_1n, sL2_1l, List.getElem?_cons_zero, List.getElem?_cons_succ, Option.toList_some, Option.toList_none, List.cons_append, List.nil_append, Nat.reduceAdd, true_and, and_true, and_self, wA_s, wA_w, ↓reduceIte, ite_self, p50_0, p50_1, p50_2, p50_3, p50_4, p50_5, p50_6, p50_7, p51_0, p51_1, p51_2, p51_3, p51_4, kd_50, ln_50, kd_51, ln_51, kd_52, ln_52, kd_83, ln_83, kd_84, ln_84, kd_85, ln_85, kd_86, ln_86, kd_87, ln_87, kd_424, ln_424, kd_425, ln_425, kd_426, ln_426, kd_427, ln_427, kd_428, ln_428, kd_429, ln_429, e, nI_lt hr (show N < 2 ^ 31 by omega), vin hr3 (by decide), cln hr3 (by decide), pS _ hr3, kdS hr3, hy, ↓q_like (kdS hr3) hy, h1, bI_t, e_1]
def ckR (x : Nat) : Bool := allB (sN x) fun j => Nat.blt (rvX x j) (sN x) && decide (Int32.ofInt (stX x (rvX x j) 0) = Int32.ofInt (stX x j 0)) && decide (Int32.ofInt (stX x (rvX x j) 1) = -Int32.ofInt (stX x j 1)) && decide (Int32.ofInt (stX x (rvX x j) 2) = -Int32.ofInt (stX x j 2)) && decide (Int32.ofInt (stX x (rvX x j) 3) = -Int32.ofInt (stX x j 3)) && allB (rvX x j) fun i => !(decide (Int32.ofInt (stX x i 0) = Int32.ofInt (stX x j 0)) && decide (Int32.ofInt (stX x i 1) = -Int32.ofInt (stX x j 1)) && decide (Int32.ofInt (stX x i 2) = -Int32.ofInt (stX x j 2)) && decide (Int32.ofInt (stX x i 3) = -Int32.ofInt (stX x j 3)))
theorem ckR_all : ∀ x, x < 11 → ckR x = true := by decide +kernel
theorem rv_f {x j : Nat} (hx : x < 11) (hj : j < sN x) : rvX x j < sN x ∧ (Int32.ofInt (stX x (rvX x j) 0) = Int32.ofInt (stX x j 0) ∧ Int32.ofInt (stX x (rvX x j) 1) = -Int32.ofInt (stX x j 1) ∧ Int32.ofInt (stX x (rvX x j) 2) = -Int32.ofInt (stX x j 2) ∧ Int32.ofInt (stX x (rvX x j) 3) = -Int32.ofInt (stX x j 3)) ∧ ∀ i, i < rvX x j → (decide (Int32.ofInt (stX x i 0) = Int32.ofInt (stX x j 0)) && decide (Int32.ofInt (stX x i 1) = -Int32.ofInt (stX x j 1)) && decide (Int32.ofInt (stX x i 2) = -Int32.ofInt (stX x j 2)) && decide (Int32.ofInt (stX x i 3) = -Int32.ofInt (stX x j 3))) = false := by
  have h := allB_i (ckR_all x hx) j hj
  simp only [Bool.and_eq_true, Nat.blt_eq, decide_eq_true_eq] at h
  obtain ⟨⟨⟨⟨⟨h1, h2⟩, h3⟩, h4⟩, h5⟩, h6⟩ := h
  refine ⟨h1, ⟨h2, h3, h4, h5⟩, fun i hi => ?_⟩
  have := allB_i h6 i hi
  rw [Bool.not_eq_true'] at this
  exact this
/-- steps and the reverses of the first j of them -/
def SR (x j : Nat) (I0 I : Nat → Nat → Int32) : Prop := I 51 5 = nI (pW x) ∧ I 51 6 = nI (sN x) ∧ (∀ s, s < sN x → ∀ k, k < 4 → I (53 + s) k = Int32.ofInt (stX x s k)) ∧ (∀ s, s < j → I 83 s = nI (rvX x s)) ∧ ∀ a, ¬ a = 51 → ¬ a = 86 → ¬ (53 ≤ a ∧ a < 84) → I a = I0 a
theorem SR_0 {x : Nat} {I0 I : Nat → Nat → Int32} (hx : x < 11) (h : SE x 375 I0 I) : SR x 0 I0 I := by
  obtain ⟨h1, h2, h3, h4⟩ := h
  rw [(ckS_all x hx).2.2] at h2 h3
  exact ⟨h1, h2, h3, fun s hs => absurd hs (Nat.not_lt_zero s), fun a a1 a2 a3 => h4 a a1 a2 (fun q => a3 ⟨q.1, by omega⟩)⟩
theorem SR_s {x j : Nat} {I0 I : Nat → Nat → Int32} {f : Nat → Int32} (hx : x < 11) (h : SR x j I0 I) : SR x (j + 1) I0 (wA (wA I 86 f) 83 (upd (I 83) j (nI (rvX x j)))) := by
  obtain ⟨h1, h2, h3, h4, h5⟩ := h
  have hb := (sN_b x hx).2
  refine ⟨?_, ?_, fun s hs k hk => ?_, fun s hs => ?_, fun a a1 a2 a3 => ?_⟩
  · rw [wA_n (by decide), wA_n (by decide)]; exact h1
  · rw [wA_n (by decide), wA_n (by decide)]; exact h2
  · rw [wA_n (by omega), wA_n (by omega)]; exact h3 s hs k hk
  · rw [wA_s]
    by_cases e : s = j
    · subst e
      exact upd_s
    · rw [upd_n e]
      exact h4 s (by omega)
  · rw [wA_n (by omega), wA_n a2]
    exact h5 a a1 a2 a3
set_option maxRecDepth 100000 in
theorem mr_step {d : Nat} {I : Nat → Nat → Int32} {L : Nat → Nat → Int64} {P : Nat → Nat → Option Nat} {n s : Nat} {Q : Qm} (hp : NP P) {x j : Nat} {I0 : Nat → Nat → Int32} {p : Int32} {v3 v4 : Int32} (hx : x < 11) (hj : j < sN x) (h : SR x j I0 I) (kk : ∀ I', SR x (j + 1) I0 I' → WP (Call (d + 3)) (kod 71) (n, s) (endQ n s Q) 63 [.ref 51, .int p, .int (nI (j + 1)), .int v3, .int v4] [] (I', L, P, n, s)) : WP (Call (d + 3)) (kod 71) (n, s) (endQ n s Q) 63 [.ref 51, .int p, .int (nI j), .int v3, .int v4] [] (I, L, P, n, s) := by
  obtain ⟨p50_0, p50_1, p50_2, p50_3, p50_4, p50_5, p50_6, p50_7, p51_0, p51_1, p51_2, p51_3, p51_4, pS, pN⟩ := id hp
  have hb := (sN_b x hx).2
  have hj3 : j < 30 := by omega
  obtain ⟨h1, h2, h3, -, -⟩ := id h
  obtain ⟨r1, ⟨r2, r3, r4, r5⟩, r6⟩ := rv_f hx hj
  have hn6 : ¬ (51 : Nat) = 86 := by decide
  have hn8 : ¬ (83 : Nat) = 86 := by decide
  have g0 := h3 j hj 0 (by decide)
  have g1 := h3 j hj 1 (by decide)
  have g2 := h3 j hj 2 (by decide)
  have g3 := h3 j hj 3 (by decide)
  have hl : ∀ i, i < sN x → ∀ f : Nat → Int32, like4 (wA I 86 (q4 f (I (53 + j) 0) (-(I (53 + j) 1)) (-(I (53 + j) 2)) (-(I (53 + j) 3))) (53 + i)) (wA I 86 (q4 f (I (53 + j) 0) (-(I (53 + j) 1)) (-(I (53 + j) 2)) (-(I (53 + j) 3))) 86) = (decide (Int32.ofInt (stX x i 0) = Int32.ofInt (stX x j 0)) && decide (Int32.ofInt (stX x i 1) = -Int32.ofInt (stX x j 1)) && decide (Int32.ofInt (stX x i 2) = -Int32.ofInt (stX x j 2)) && decide (Int32.ofInt (stX x i 3) = -Int32.ofInt (stX x j 3))) := by
    intro i hi f
    rw [wA_n (by omega), wA_s]
    unfold like4
    rw [q4_0, q4_1, q4_2, q4_3, h3 i hi 0 (by decide), h3 i hi 1 (by decide), h3 i hi 2 (by decide), h3 i hi 3 (by decide), g0, g1, g2, g3]
  have hf : ∀ (f : Nat → Int32) (Q : Qm), Call (d + 3) 73 [.ref 51, .ref 86] (wA I 86 (q4 f (I (53 + j) 0) (-(I (53 + j) 1)) (-(I (53 + j) 2)) (-(I (53 + j) 3))), L, P, n, s) Q = Q (some (.int (nI (rvX x j)))) (wA I 86 (q4 f (I (53 + j) 0) (-(I (53 + j) 1)) (-(I (53 + j) 2)) (-(I (53 + j) 3))), L, P, n, s) := fun f Q => n_sfind (d := d + 1) hp kd_86 hb (by rw [wA_n hn6]; exact h2) r1 (by rw [hl _ r1, r2, r3, r4, r5]; simp) (fun i hi => by rw [hl i (by omega)]; exact r6 i hi)
  rw [u71_63]
  simp only [u71_0, u71_1, u71_2, u71_5, u71_6, u71_7, u71_10, u71_11, u71_12, u71_13, u71_14, u71_17, u71_19, u71_20, u71_21, u71_22, u71_25, u71_27, u71_29, u71_31, u71_32, u71_35, u71_36, u71_37, u71_38, u71_40, u71_43, u71_46, u71_49, u71_52, u71_55, u71_58, u71_61, u71_62, u71_64, u71_65, u71_68, u71_71, u71_72, u71_75, u71_76, u71_79, u71_80, u71_81, u71_84, u71_85, u71_88, u71_91, u71_92, u71_95, u71_96, u71_97, u71_98, u71_101, u71_104, u71_105, u71_108, u71_111, oF, oI, oJ, oIl, oLl, oAl, oIs, oLs, oAs, oInc, oBin, oAdd, oSub, oMul, oAnd, oOr, oXor, oDiv, oRem, oNeg, oLBin, oLAdd, oLSub, oLMul, oLDiv, oLNeg, oI2L, oL2I, oLcmp, oDup, oPop, oDupX1, oDup2, oEq, oNe, oLt, oGe, oGt, oLe, oCEq, oCNe, oCLt, oCGe, oCGt, oCLe, oGoto, oTab, oLook, oGetI, oGetR, oPutI, oPutZ, oPutR, oIald, oLald, oAald, oIast, oLast, oAast, oLen, oCallS, oCallV, oCallA, oCallI, oCallIA, oObj, oCopy, oIRet, oZRet, oLRet, oARet, oVRet, ↓gI_0, ↓gL_0, ↓gR_0, ↓gI_s, ↓gL_s, ↓gR_s, ↓pI_i, ↓pL_l, ↓pR_r, ↓p1_i, ↓p1_r, ↓pE_e, ↓pN_z, ↓pN_1, ↓pN_2, ↓pN_3, ↓pN_4, ↓pN_5, ↓pN_6, ↓rl_0, ↓rl_1, ↓rl_2, ↓rl_3, ↓rl_4, ↓hdR_r, ↓hdO_r, va_rf_s, endQ, sL1_0, sL1_ss, sL1_1i, sL1_1r, sL1_1n, sL1_1l, sL2_0, sL2_ss, sL2_1i, sL2_1r, sL2_1n, sL2_1l, List.getElem?_cons_zero, List.getElem?_cons_succ, Option.toList_some, Option.toList_none, List.cons_append, List.nil_append, Nat.reduceAdd, true_and, and_true, and_self, wA_s, wA_w, ↓reduceIte, ite_self, p50_0, p50_1, p50_2, p50_3, p50_4, p50_5, p50_6, p50_7, p51_0, p51_1, p51_2, p51_3, p51_4, kd_50, ln_50, kd_51, ln_51, kd_52, ln_52, kd_83, ln_83, kd_84, ln_84, kd_85, ln_85, kd_86, ln_86, kd_87, ln_87, kd_424, ln_424, kd_425, ln_425, kd_426, ln_426, kd_427, ln_427, kd_428, ln_428, kd_429, ln_429, h2, nI_lt hj (show sN x < 2 ^ 31 by omega), vin hj3 (by decide), cln hj3 (by decide), pS _ hj3, kdS hj3, ↓q_becomeQ kd_86 (kdS hj3), ↓q_conj kd_86, q4_0, q4_1, q4_2, q4_3, q4_q, ↓hf, wA_n hn8, nI_1]
  exact kk _ (SR_s hx h)
