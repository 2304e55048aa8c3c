/-! Network: classes found, distances -/
/-- the number of an Int32 quaternion's class; the class's parts -/
def cl4 (q : Nat) (a b c e : Int32) : Nat := cdR q (rsd q a) (rsd q b) (rsd q c) (rsd q e)
def fc4 (q : Nat) (a b c e : Int32) : Nat := fcR q (rsd q a) (rsd q b) (rsd q c) (rsd q e)
def pt4 (q : Nat) (a b c e x : Int32) : Int32 := nI (rsd q x * fc4 q a b c e % q)
def cls4 (g : Nat → Int32) (q : Nat) (a b c e : Int32) : Nat → Int32 := q4 g (pt4 q a b c e a) (pt4 q a b c e b) (pt4 q a b c e c) (pt4 q a b c e e)
theorem cls4_f {g : Nat → Int32} {q : Nat} {a b c e : Int32} : q4 g (nI (rsd q a * fcF q (q4 g a b c e) % q)) (nI (rsd q b * fcF q (q4 g a b c e) % q)) (nI (rsd q c * fcF q (q4 g a b c e) % q)) (nI (rsd q e * fcF q (q4 g a b c e) % q)) = cls4 g q a b c e := rfl
theorem cl4_lt {q : Nat} {a b c e : Int32} (hq : qOk q) : cl4 q a b c e < 2401 := by
  obtain ⟨h0, h1⟩ := qOk_b hq
  unfold cl4 cdR
  generalize ivX q _ = f
  have m0 := Nat.mod_lt (rsd q a * f) h0
  have m1 := Nat.mod_lt (rsd q b * f) h0
  have m2 := Nat.mod_lt (rsd q c * f) h0
  have m3 := Nat.mod_lt (rsd q e * f) h0
  dsimp only
  generalize rsd q a * f % q = x0 at *
  generalize rsd q b * f % q = x1 at *
  generalize rsd q c * f % q = x2 at *
  generalize rsd q e * f % q = x3 at *
  rcases hq with rfl | rfl | rfl <;> omega
theorem cdW_cls {I : Nat → Nat → Int32} {q : Nat} {a b c e : Int32} (h : I 50 8 = nI q) : cdW (wA I 429 (cls4 (I 429) q a b c e)) = nI (cl4 q a b c e) := by
  unfold cdW
  rw [wA_s, wA_n (by decide), h]
  show ((pt4 q a b c e a * nI q + pt4 q a b c e b) * nI q + pt4 q a b c e c) * nI q + pt4 q a b c e e = _
  unfold pt4
  simp only [pk_mul, nI_add]
  rfl
/-- the number laid to a class, where the class of work is taken -/
def cj (f : Nat → Int32) : Nat → Int32 := q4 f (f 0) (-(f 1)) (-(f 2)) (-(f 3))
set_option maxRecDepth 100000 in
theorem n_find {d : Nat} {I : Nat → Nat → Int32} {L : Nat → Nat → Int64} {P : Nat → Nat → Option Nat} {n s : Nat} {Q : Qm} (hp : NP P) {q x : Nat} (hq : qOk q) (h8 : I 50 8 = nI q) (hx : kd x = 3) : Call (d + 3) 20 [.ref 50, .ref x] (I, L, P, n, s) Q = Q (some (.int (I 424 (cl4 q (I x 0) (I x 1) (I x 2) (I x 3))))) (wA I 429 (cls4 (I 429) q (I x 0) (I x 1) (I x 2) (I x 3)), L, P, n, s) := by
  have hp0 := hp
  obtain ⟨p50_0, p50_1, p50_2, p50_3, p50_4, p50_5, p50_6, p50_7, p51_0, p51_1, p51_2, p51_3, p51_4, pS, pN⟩ := hp0
  simp only [c20, u20_0, u20_1, u20_4, u20_5, u20_8, u20_9, u20_12, u20_13, u20_16, u20_19, u20_20, u20_23, oF, oI, oJ, oIl, oLl, oAl, oIs, oLs, oAs, oInc, oBin, oAdd, oSub, oMul, oAnd, oOr, oXor, oDiv, oRem, oNeg, oLBin, oLAdd, oLSub, oLMul, oLDiv, oLNeg, oI2L, oL2I, oLcmp, oDup, oPop, oDupX1, oDup2, oEq, oNe, oLt, oGe, oGt, oLe, oCEq, oCNe, oCLt, oCGe, oCGt, oCLe, oGoto, oTab, oLook, oGetI, oGetR, oPutI, oPutZ, oPutR, oIald, oLald, oAald, oIast, oLast, oAast, oLen, oCallS, oCallV, oCallA, oCallI, oCallIA, oObj, oCopy, oIRet, oZRet, oLRet, oARet, oVRet, ↓gI_0, ↓gL_0, ↓gR_0, ↓gI_s, ↓gL_s, ↓gR_s, ↓pI_i, ↓pL_l, ↓pR_r, ↓p1_i, ↓p1_r, ↓pE_e, ↓pN_z, ↓pN_1, ↓pN_2, ↓pN_3, ↓pN_4, ↓pN_5, ↓pN_6, ↓rl_0, ↓rl_1, ↓rl_2, ↓rl_3, ↓rl_4, ↓hdR_r, ↓hdO_r, va_rf_s, endQ, sL1_0, sL1_ss, sL1_1i, sL1_1r, sL1_1n, sL1_1l, sL2_0, sL2_ss, sL2_1i, sL2_1r, sL2_1n, sL2_1l, List.getElem?_cons_zero, List.getElem?_cons_succ, Option.toList_some, Option.toList_none, List.cons_append, List.nil_append, Nat.reduceAdd, true_and, and_true, and_self, wA_s, wA_w, ↓reduceIte, ite_self, p50_0, p50_1, p50_2, p50_3, p50_4, p50_5, p50_6, p50_7, p51_0, p51_1, p51_2, p51_3, p51_4, kd_50, ln_50, kd_51, ln_51, kd_52, ln_52, kd_83, ln_83, kd_84, ln_84, kd_85, ln_85, kd_86, ln_86, kd_87, ln_87, kd_424, ln_424, kd_425, ln_425, kd_426, ln_426, kd_427, ln_427, kd_428, ln_428, kd_429, ln_429, hx, ↓q_becomeQ kd_429 hx, wA_n (show ¬ (50 : Nat) = 429 by decide), h8, ↓q_class kd_429 hq, q4_0, q4_1, q4_2, q4_3, q4_q, cls4_f, ↓n_num hp (cl4_lt hq) (cdW_cls h8), wA_n (show ¬ (424 : Nat) = 429 by decide)]
set_option maxRecDepth 100000 in
theorem n_distance {d : Nat} {I : Nat → Nat → Int32} {L : Nat → Nat → Int64} {P : Nat → Nat → Option Nat} {n s : Nat} {Q : Qm} (hp : NP P) {q i j k : Nat} (hq : qOk q) (h8 : I 50 8 = nI q) (hi : i < 336) (hj : j < 336) (hk : k < 336) (e : I 424 (cl4 q (pA (cj (I (88 + i))) (I (88 + j))) (pB (cj (I (88 + i))) (I (88 + j))) (pC (cj (I (88 + i))) (I (88 + j))) (pD (cj (I (88 + i))) (I (88 + j)))) = nI k) : Call (d + 3) 23 [.ref 50, .int (nI i), .int (nI j)] (I, L, P, n, s) Q = Q (some (.int (I 426 k))) (wA I 429 (cls4 (I 429) q (pA (cj (I (88 + i))) (I (88 + j))) (pB (cj (I (88 + i))) (I (88 + j))) (pC (cj (I (88 + i))) (I (88 + j))) (pD (cj (I (88 + i))) (I (88 + j)))), L, P, n, s) := by
  have hp0 := hp
  obtain ⟨p50_0, p50_1, p50_2, p50_3, p50_4, p50_5, p50_6, p50_7, p51_0, p51_1, p51_2, p51_3, p51_4, pS, pN⟩ := hp0
  have hk0 : (nI k < 0) = False := eq_false (nI_pos (by omega))
  have eA : ∀ g : Nat → Int32, pA (q4 g (I (88 + i) 0) (-(I (88 + i) 1)) (-(I (88 + i) 2)) (-(I (88 + i) 3))) (I (88 + j)) = pA (cj (I (88 + i))) (I (88 + j)) := fun _ => rfl
  have eB : ∀ g : Nat → Int32, pB (q4 g (I (88 + i) 0) (-(I (88 + i) 1)) (-(I (88 + i) 2)) (-(I (88 + i) 3))) (I (88 + j)) = pB (cj (I (88 + i))) (I (88 + j)) := fun _ => rfl
  have eC : ∀ g : Nat → Int32, pC (q4 g (I (88 + i) 0) (-(I (88 + i) 1)) (-(I (88 + i) 2)) (-(I (88 + i) 3))) (I (88 + j)) = pC (cj (I (88 + i))) (I (88 + j)) := fun _ => rfl
  have eD : ∀ g : Nat → Int32, pD (q4 g (I (88 + i) 0) (-(I (88 + i) 1)) (-(I (88 + i) 2)) (-(I (88 + i) 3))) (I (88 + j)) = pD (cj (I (88 + i))) (I (88 + j)) := fun _ => rfl
  simp only [c23, u23_0, u23_1, u23_4, u23_5, u23_8, u23_9, u23_10, u23_13, u23_14, u23_17, u23_20, u23_21, u23_24, u23_25, u23_28, u23_29, u23_32, u23_33, u23_34, u23_37, u23_38, u23_41, u23_42, u23_45, u23_48, u23_49, u23_52, u23_53, u23_54, u23_57, u23_59, u23_62, u23_63, u23_66, u23_67, u23_68, oF, oI, oJ, oIl, oLl, oAl, oIs, oLs, oAs, oInc, oBin, oAdd, oSub, oMul, oAnd, oOr, oXor, oDiv, oRem, oNeg, oLBin, oLAdd, oLSub, oLMul, oLDiv, oLNeg, oI2L, oL2I, oLcmp, oDup, oPop, oDupX1, oDup2, oEq, oNe, oLt, oGe, oGt, oLe, oCEq, oCNe, oCLt, oCGe, oCGt, oCLe, oGoto, oTab, oLook, oGetI, oGetR, oPutI, oPutZ, oPutR, oIald, oLald, oAald, oIast, oLast, oAast, oLen, oCallS, oCallV, oCallA, oCallI, oCallIA, oObj, oCopy, oIRet, oZRet, oLRet, oARet, oVRet, ↓gI_0, ↓gL_0, ↓gR_0, ↓gI_s, ↓gL_s, ↓gR_s, ↓pI_i, ↓pL_l, ↓pR_r, ↓p1_i, ↓p1_r, ↓pE_e, ↓pN_z, ↓pN_1, ↓pN_2, ↓pN_3, ↓pN_4, ↓pN_5, ↓pN_6, ↓rl_0, ↓rl_1, ↓rl_2, ↓rl_3, ↓rl_4, ↓hdR_r, ↓hdO_r, va_rf_s, endQ, sL1_0, sL1_ss, sL1_1i, sL1_1r, sL1_1n, sL1_1l, sL2_0, sL2_ss, sL2_1i, sL2_1r, sL2_1n, sL2_1l, List.getElem?_cons_zero, List.getElem?_cons_succ, Option.toList_some, Option.toList_none, List.cons_append, List.nil_append, Nat.reduceAdd, true_and, and_true, and_self, wA_s, wA_w, ↓reduceIte, ite_self, p50_0, p50_1, p50_2, p50_3, p50_4, p50_5, p50_6, p50_7, p51_0, p51_1, p51_2, p51_3, p51_4, kd_50, ln_50, kd_51, ln_51, kd_52, ln_52, kd_83, ln_83, kd_84, ln_84, kd_85, ln_85, kd_86, ln_86, kd_87, ln_87, kd_424, ln_424, kd_425, ln_425, kd_426, ln_426, kd_427, ln_427, kd_428, ln_428, kd_429, ln_429, vin hi (by decide), cln hi (by decide), vin hj (by decide), cln hj (by decide), pN i hi, pN j hj, kdN hi, kdN hj, ↓q_becomeQ kd_429 (kdN hi), ↓q_conj kd_429, ↓q_prod kd_429 kd_429 (kdN hj), wA_n (show ¬ (50 : Nat) = 429 by decide), wA_n (show ¬ 88 + j = 429 by omega), h8, ↓q_class kd_429 hq, q4_0, q4_1, q4_2, q4_3, q4_q, eA, eB, eC, eD, cls4_f, ↓n_num hp (cl4_lt hq) (cdW_cls h8), wA_n (show ¬ (424 : Nat) = 429 by decide), wA_n (show ¬ (426 : Nat) = 429 by decide), e, hk0, vin hk (by decide), cln hk (by decide)]
