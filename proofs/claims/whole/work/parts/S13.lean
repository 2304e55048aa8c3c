/-! the outer loops of the class's count -/
def cC (v q b : Nat) : Nat → Nat → Nat
  | 0, _ => 0
  | k + 1, j => cD v q (sq5 b + sq5 j) 11 0 + cC v q b k (j + 1)
theorem cC_s {v q b k j : Nat} : cC v q b (k + 1) j = cD v q (sq5 b + sq5 j) 11 0 + cC v q b k (j + 1) := rfl
def cB (v q : Nat) : Nat → Nat → Nat
  | 0, _ => 0
  | k + 1, j => cC v q j 11 0 + cB v q k (j + 1)
theorem cB_s {v q k j : Nat} : cB v q (k + 1) j = cC v q j 11 0 + cB v q k (j + 1) := rfl
set_option maxRecDepth 100000 in
theorem cu_1 {d : Nat} {I : Nat → Nat → Int32} {L : Nat → Nat → Int64} {P : Nat → Nat → Option Nat} {n s : Nat} {Q : Qm} {v z : Int32} {q b c : Int32} {e : Value} (g1 : (5 < c) = False) : WP (Call d) (kod 110) (n, s) (endQ n s Q) 14 [.int v, .int q, .int z, .int b, .int c, e] [] (I, L, P, n, s) = WP (Call d) (kod 110) (n, s) (endQ n s Q) 24 [.int v, .int q, .int z, .int b, .int c, .int (-5)] [] (I, L, P, n, s) := by
  rw [x110_14]
  simp (disch := first | assumption | omega | decide | (refine kdN ?_; omega) | (refine kdS ?_; omega) | (refine kd_REGS0 ?_; omega) | (refine kd_BOOK_noted0 ?_; omega) | (refine kd_IREGS0 ?_; omega) | (refine kd_IBOOK_noted0 ?_; omega) | (refine kd_SUMS0 ?_; omega) | (refine kd_TERMS0 ?_; omega) | (refine kd_FACT0 ?_; omega) | (simp (disch := omega) only [tw])) only [↓x110_0, ↓x110_1, ↓x110_2, ↓x110_4, ↓x110_5, ↓x110_6, ↓x110_7, ↓x110_10, ↓x110_12, ↓x110_16, ↓x110_17, ↓x110_20, ↓x110_22, ↓x110_26, ↓x110_27, ↓x110_30, ↓x110_31, ↓x110_32, ↓x110_33, ↓x110_34, ↓x110_36, ↓x110_38, ↓x110_39, ↓x110_40, ↓x110_42, ↓x110_44, ↓x110_45, ↓x110_46, ↓x110_47, ↓x110_48, ↓x110_49, ↓x110_50, ↓x110_51, ↓x110_54, ↓x110_57, ↓x110_60, ↓x110_63, ↓x110_69, ↓x110_75, ↓x110_78, ↓x110_79, evl_e, ↓endQ_e, ↓gI_0, ↓gL_0, ↓gR_0, ↓gI_s, ↓gL_s, ↓gR_s, ↓pI_i, ↓pL_l, ↓pR_r, ↓p1_i, ↓p1_r, ↓pE_e, ↓pN_z, ↓pN_1, ↓pN_2, ↓pN_3, ↓pN_4, ↓pN_5, ↓pN_6, ↓rl_0, ↓rl_1, ↓rl_2, ↓rl_3, ↓rl_4, ↓hdR_r, ↓hdO_r, va_rf_s, sL1_0, sL1_ss, sL1_1i, sL1_1r, sL1_1n, sL1_1l, sL2_0, sL2_ss, sL2_1i, sL2_1r, sL2_1n, sL2_1l, List.getElem?_cons_zero, List.getElem?_cons_succ, Option.toList_some, Option.toList_none, List.cons_append, List.nil_append, Nat.reduceAdd, true_and, and_true, and_self, wA_s, wA_w, ↓reduceIte, ite_self, true_or, or_true, tv, tc, tl, tg, t0, tz, tw, tu, tup, tuL, nI_add, pk_mul, upd_s, tup_s, tuL_s, nI_0, i1, i2, i3, i4, nm1, g1]
set_option maxRecDepth 100000 in
theorem cu_2 {d : Nat} {I : Nat → Nat → Int32} {L : Nat → Nat → Int64} {P : Nat → Nat → Option Nat} {n s : Nat} {Q : Qm} {v z : Int32} {q b c e : Int32} (g1 : (5 < c) = True) : WP (Call d) (kod 110) (n, s) (endQ n s Q) 14 [.int v, .int q, .int z, .int b, .int c, .int e] [] (I, L, P, n, s) = WP (Call d) (kod 110) (n, s) (endQ n s Q) 72 [.int v, .int q, .int z, .int b, .int c, .int e] [] (I, L, P, n, s) := by
  rw [x110_14]
  simp (disch := first | assumption | omega | decide | (refine kdN ?_; omega) | (refine kdS ?_; omega) | (refine kd_REGS0 ?_; omega) | (refine kd_BOOK_noted0 ?_; omega) | (refine kd_IREGS0 ?_; omega) | (refine kd_IBOOK_noted0 ?_; omega) | (refine kd_SUMS0 ?_; omega) | (refine kd_TERMS0 ?_; omega) | (refine kd_FACT0 ?_; omega) | (simp (disch := omega) only [tw])) only [↓x110_0, ↓x110_1, ↓x110_2, ↓x110_4, ↓x110_5, ↓x110_6, ↓x110_7, ↓x110_10, ↓x110_12, ↓x110_16, ↓x110_17, ↓x110_20, ↓x110_22, ↓x110_26, ↓x110_27, ↓x110_30, ↓x110_31, ↓x110_32, ↓x110_33, ↓x110_34, ↓x110_36, ↓x110_38, ↓x110_39, ↓x110_40, ↓x110_42, ↓x110_44, ↓x110_45, ↓x110_46, ↓x110_47, ↓x110_48, ↓x110_49, ↓x110_50, ↓x110_51, ↓x110_54, ↓x110_57, ↓x110_60, ↓x110_63, ↓x110_69, ↓x110_75, ↓x110_78, ↓x110_79, evl_e, ↓endQ_e, ↓gI_0, ↓gL_0, ↓gR_0, ↓gI_s, ↓gL_s, ↓gR_s, ↓pI_i, ↓pL_l, ↓pR_r, ↓p1_i, ↓p1_r, ↓pE_e, ↓pN_z, ↓pN_1, ↓pN_2, ↓pN_3, ↓pN_4, ↓pN_5, ↓pN_6, ↓rl_0, ↓rl_1, ↓rl_2, ↓rl_3, ↓rl_4, ↓hdR_r, ↓hdO_r, va_rf_s, sL1_0, sL1_ss, sL1_1i, sL1_1r, sL1_1n, sL1_1l, sL2_0, sL2_ss, sL2_1i, sL2_1r, sL2_1n, sL2_1l, List.getElem?_cons_zero, List.getElem?_cons_succ, Option.toList_some, Option.toList_none, List.cons_append, List.nil_append, Nat.reduceAdd, true_and, and_true, and_self, wA_s, wA_w, ↓reduceIte, ite_self, true_or, or_true, tv, tc, tl, tg, t0, tz, tw, tu, tup, tuL, nI_add, pk_mul, upd_s, tup_s, tuL_s, nI_0, i1, i2, i3, i4, nm1, g1]
set_option maxRecDepth 100000 in
theorem cu_3 {d : Nat} {I : Nat → Nat → Int32} {L : Nat → Nat → Int64} {P : Nat → Nat → Option Nat} {n s : Nat} {Q : Qm} {v z : Int32} {q b c e : Int32} : WP (Call d) (kod 110) (n, s) (endQ n s Q) 66 [.int v, .int q, .int z, .int b, .int c, .int e] [] (I, L, P, n, s) = WP (Call d) (kod 110) (n, s) (endQ n s Q) 14 [.int v, .int q, .int z, .int b, .int (c + 1), .int e] [] (I, L, P, n, s) := by
  rw [x110_66]
  simp (disch := first | assumption | omega | decide | (refine kdN ?_; omega) | (refine kdS ?_; omega) | (refine kd_REGS0 ?_; omega) | (refine kd_BOOK_noted0 ?_; omega) | (refine kd_IREGS0 ?_; omega) | (refine kd_IBOOK_noted0 ?_; omega) | (refine kd_SUMS0 ?_; omega) | (refine kd_TERMS0 ?_; omega) | (refine kd_FACT0 ?_; omega) | (simp (disch := omega) only [tw])) only [↓x110_0, ↓x110_1, ↓x110_2, ↓x110_4, ↓x110_5, ↓x110_6, ↓x110_7, ↓x110_10, ↓x110_12, ↓x110_16, ↓x110_17, ↓x110_20, ↓x110_22, ↓x110_26, ↓x110_27, ↓x110_30, ↓x110_31, ↓x110_32, ↓x110_33, ↓x110_34, ↓x110_36, ↓x110_38, ↓x110_39, ↓x110_40, ↓x110_42, ↓x110_44, ↓x110_45, ↓x110_46, ↓x110_47, ↓x110_48, ↓x110_49, ↓x110_50, ↓x110_51, ↓x110_54, ↓x110_57, ↓x110_60, ↓x110_63, ↓x110_69, ↓x110_75, ↓x110_78, ↓x110_79, evl_e, ↓endQ_e, ↓gI_0, ↓gL_0, ↓gR_0, ↓gI_s, ↓gL_s, ↓gR_s, ↓pI_i, ↓pL_l, ↓pR_r, ↓p1_i, ↓p1_r, ↓pE_e, ↓pN_z, ↓pN_1, ↓pN_2, ↓pN_3, ↓pN_4, ↓pN_5, ↓pN_6, ↓rl_0, ↓rl_1, ↓rl_2, ↓rl_3, ↓rl_4, ↓hdR_r, ↓hdO_r, va_rf_s, sL1_0, sL1_ss, sL1_1i, sL1_1r, sL1_1n, sL1_1l, sL2_0, sL2_ss, sL2_1i, sL2_1r, sL2_1n, sL2_1l, List.getElem?_cons_zero, List.getElem?_cons_succ, Option.toList_some, Option.toList_none, List.cons_append, List.nil_append, Nat.reduceAdd, true_and, and_true, and_self, wA_s, wA_w, ↓reduceIte, ite_self, true_or, or_true, tv, tc, tl, tg, t0, tz, tw, tu, tup, tuL, nI_add, pk_mul, upd_s, tup_s, tuL_s, nI_0, i1, i2, i3, i4, nm1]
theorem cu_all {d : Nat} {I : Nat → Nat → Int32} {L : Nat → Nat → Int64} {P : Nat → Nat → Option Nat} {n s : Nat} {Q : Qm} {v q b : Nat} (hv : v ≤ 1000) (hq : q ≤ 14) (hb : b < 11) : ∀ k j z, k + j = 11 → ∃ u, WP (Call (d + 1)) (kod 110) (n, s) (endQ n s Q) 14 [.int (nI v), .int (nI q), .int (nI z), .int (m5 b), .int (m5 j), .int (m5 11)] [] (I, L, P, n, s) = WP (Call (d + 1)) (kod 110) (n, s) (endQ n s Q) 72 [.int (nI v), .int (nI q), .int (nI (z + cC v q b k j)), .int (m5 b), .int (m5 11), .int u] [] (I, L, P, n, s) := by
  intro k
  induction k with
  | zero =>
    intro j z e
    obtain rfl : j = 11 := by omega
    exact ⟨_, cu_2 m5_11⟩
  | succ k ih =>
    intro j z e
    have hj : j < 11 := by omega
    obtain ⟨u, hu⟩ := ih (j + 1) (z + cD v q (sq5 b + sq5 j) 11 0) (by omega)
    refine ⟨u, (cu_1 (m5_l j hj)).trans ?_⟩
    refine (ct_d hv hq hb hj 11 0 z rfl).trans ?_
    rw [cu_3, m5_i j hj, hu, cC_s, Nat.add_assoc]
