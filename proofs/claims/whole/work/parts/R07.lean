/-! cases: strike, count -/
def sfR {α : Type} (i k : Nat) (g : Nat → α) : Nat → α := fun e => if i ≤ e ∧ e < k then g (e + 1) else g e
theorem sfR_u {i k : Nat} {g : Nat → Int32} (h : i ≤ k) : upd (sfR i k g) k (g (k + 1)) = sfR i (k + 1) g := by
  funext e
  unfold upd sfR
  by_cases c : e = k
  · subst c
    rw [if_pos rfl, if_pos (by omega)]
  · rw [if_neg c]
    by_cases c2 : i ≤ e ∧ e < k
    · rw [if_pos c2, if_pos (by omega)]
    · rw [if_neg c2, if_neg (by omega)]
theorem sfR_n {α : Type} {i k e : Nat} {g : Nat → α} (h : k ≤ e) : sfR i k g e = g e := by
  unfold sfR
  rw [if_neg (by omega)]
theorem sfR_0 {α : Type} {i : Nat} {g : Nat → α} : sfR i i g = g := by
  funext e
  unfold sfR
  rw [if_neg (by omega)]
/-- the book's cells, places i .. k - 1 moved up -/
def stB (i k : Nat) (I : Nat → Nat → Int32) : Nat → Nat → Int32 := fun a => if 10 + i ≤ a ∧ a < 10 + k then q4 (I a) (I (a + 1) 0) (I (a + 1) 1) (I (a + 1) 2) (I (a + 1) 3) else if a = 17 then sfR i k (I 17) else I a
theorem stB_o {i k a : Nat} {I : Nat → Nat → Int32} (h : ¬ (10 + i ≤ a ∧ a < 10 + k)) (h2 : ¬ a = 17) : stB i k I a = I a := by
  unfold stB
  rw [if_neg h, if_neg h2]
theorem stB_17 {i k : Nat} {I : Nat → Nat → Int32} (h : k ≤ 7) : stB i k I 17 = sfR i k (I 17) := by
  unfold stB
  rw [if_neg (by omega), if_pos rfl]
theorem stB_u {i k : Nat} {I : Nat → Nat → Int32} (h : i ≤ k) (h2 : k < 7) : wA (wA (stB i k I) (10 + k) (q4 (I (10 + k)) (I (10 + (k + 1)) 0) (I (10 + (k + 1)) 1) (I (10 + (k + 1)) 2) (I (10 + (k + 1)) 3))) 17 (upd (sfR i k (I 17)) k (I 17 (k + 1))) = stB i (k + 1) I := by
  funext a
  rw [sfR_u h]
  by_cases c : a = 17
  · subst c
    rw [wA_s, stB_17 (by omega)]
  · rw [tw c]
    by_cases c2 : a = 10 + k
    · subst c2
      rw [wA_s]
      unfold stB
      rw [if_pos (by omega)]
      rfl
    · rw [tw c2]
      unfold stB
      by_cases c3 : 10 + i ≤ a ∧ a < 10 + k
      · rw [if_pos c3, if_pos (by omega)]
      · rw [if_neg c3, if_neg c, if_neg (by omega), if_neg c]
theorem stB_0 {i : Nat} {I : Nat → Nat → Int32} : stB i i I = I := by
  funext a
  unfold stB
  rw [if_neg (by omega)]
  split
  · rename_i h
    rw [h, sfR_0]
  · rfl
set_option maxRecDepth 100000 in
theorem kr_step {d : Nat} {I : Nat → Nat → Int32} {L : Nat → Nat → Int64} {P : Nat → Nat → Option Nat} {n s : Nat} {Q : Qm} (hc : CP P) {z i k q : Nat} {w : Int32} (hz : z ≤ 7) (h2 : I 8 2 = nI z) (hi : i ≤ k) (hk : k + 1 < z) : WP (Call (d + 2)) (kod 5) (n, s) (endQ n s Q) 23 [.ref 8, .ref q, .int (nI i), .int w, .int (nI k)] [] (stB i k I, L, P, n, s) = WP (Call (d + 2)) (kod 5) (n, s) (endQ n s Q) 23 [.ref 8, .ref q, .int (nI i), .int w, .int (nI (k + 1))] [] (stB i (k + 1) I, L, P, n, s) := by
  obtain ⟨c0_0, c0_1, c0_2, c0_3, c0_4, c0_5, c0_6, c0_7, c0_8, c0_9, c0_10, c1_0, c1_1, c8_0, c8_1, c25_0, c25_1, c33_0, c33_1, c430_0, c430_1, c430_2, c430_3, c430_4, c430_5, c430_6, c430_7, c430_8, c430_9, cA43, cA18, cA9, cA26, cA34, cA435, cA441, cA447⟩ := id hc
  rw [x5_23]
  simp (disch := first | assumption | omega | decide | (refine kdN ?_; omega) | (refine kdS ?_; omega) | (refine kd_REGS0 ?_; omega) | (refine kd_BOOK_noted0 ?_; omega) | (refine kd_IREGS0 ?_; omega) | (refine kd_IBOOK_noted0 ?_; omega) | (refine kd_SUMS0 ?_; omega) | (refine kd_TERMS0 ?_; omega) | (refine kd_FACT0 ?_; omega) | (simp (disch := omega) only [tw])) only [↓x5_0, ↓x5_1, ↓x5_2, ↓x5_5, ↓x5_6, ↓x5_7, ↓x5_10, ↓x5_12, ↓x5_13, ↓x5_14, ↓x5_17, ↓x5_18, ↓x5_19, ↓x5_20, ↓x5_21, ↓x5_25, ↓x5_26, ↓x5_27, ↓x5_28, ↓x5_31, ↓x5_34, ↓x5_35, ↓x5_38, ↓x5_40, ↓x5_41, ↓x5_42, ↓x5_45, ↓x5_47, ↓x5_48, ↓x5_49, ↓x5_50, ↓x5_53, ↓x5_54, ↓x5_57, ↓x5_59, ↓x5_60, ↓x5_63, ↓x5_65, ↓x5_66, ↓x5_67, ↓x5_68, ↓x5_69, ↓x5_72, ↓x5_75, ↓x5_76, ↓x5_77, ↓x5_80, ↓x5_81, ↓x5_82, ↓x5_85, ↓x5_86, evl_e, ↓endQ_e, ↓gI_0, ↓gL_0, ↓gR_0, ↓gI_s, ↓gL_s, ↓gR_s, ↓pI_i, ↓pL_l, ↓pR_r, ↓p1_i, ↓p1_r, ↓pE_e, ↓pN_z, ↓pN_1, ↓pN_2, ↓pN_3, ↓pN_4, ↓pN_5, ↓pN_6, ↓rl_0, ↓rl_1, ↓rl_2, ↓rl_3, ↓rl_4, ↓hdR_r, ↓hdO_r, va_rf_s, sL1_0, sL1_ss, sL1_1i, sL1_1r, sL1_1n, sL1_1l, sL2_0, sL2_ss, sL2_1i, sL2_1r, sL2_1n, sL2_1l, List.getElem?_cons_zero, List.getElem?_cons_succ, Option.toList_some, Option.toList_none, List.cons_append, List.nil_append, Nat.reduceAdd, true_and, and_true, and_self, wA_s, wA_w, ↓reduceIte, ite_self, true_or, or_true, tv, tc, tl, tg, t0, tz, tw, tu, tup, tuL, nI_add, pk_mul, upd_s, tup_s, tuL_s, nI_0, i1, i2, i3, i4, nm1, c8_0, c8_1, cA9, kd_8, kd_9, ln_9, kd_17, ln_17, h2, ↓q_becomeQ, kd_BOOK_noted0, stB_o, stB_17, sfR_n, stB_u]
set_option maxRecDepth 100000 in
theorem kr_end {d : Nat} {I : Nat → Nat → Int32} {L : Nat → Nat → Int64} {P : Nat → Nat → Option Nat} {n s : Nat} {Q : Qm} {z i k q : Nat} {w : Int32} (hz : z ≤ 7) (h2 : I 8 2 = nI z) (hk : k + 1 = z) : WP (Call (d + 2)) (kod 5) (n, s) (endQ n s Q) 23 [.ref 8, .ref q, .int (nI i), .int w, .int (nI k)] [] (stB i k I, L, P, n, s) = Q (some (.int w)) (wA (stB i k I) 8 (upd (I 8) 2 (nI (z - 1))), L, P, n, s) := by
  rw [x5_23]
  simp (disch := first | assumption | omega | decide | (refine kdN ?_; omega) | (refine kdS ?_; omega) | (refine kd_REGS0 ?_; omega) | (refine kd_BOOK_noted0 ?_; omega) | (refine kd_IREGS0 ?_; omega) | (refine kd_IBOOK_noted0 ?_; omega) | (refine kd_SUMS0 ?_; omega) | (refine kd_TERMS0 ?_; omega) | (refine kd_FACT0 ?_; omega) | (simp (disch := omega) only [tw])) only [↓x5_0, ↓x5_1, ↓x5_2, ↓x5_5, ↓x5_6, ↓x5_7, ↓x5_10, ↓x5_12, ↓x5_13, ↓x5_14, ↓x5_17, ↓x5_18, ↓x5_19, ↓x5_20, ↓x5_21, ↓x5_25, ↓x5_26, ↓x5_27, ↓x5_28, ↓x5_31, ↓x5_34, ↓x5_35, ↓x5_38, ↓x5_40, ↓x5_41, ↓x5_42, ↓x5_45, ↓x5_47, ↓x5_48, ↓x5_49, ↓x5_50, ↓x5_53, ↓x5_54, ↓x5_57, ↓x5_59, ↓x5_60, ↓x5_63, ↓x5_65, ↓x5_66, ↓x5_67, ↓x5_68, ↓x5_69, ↓x5_72, ↓x5_75, ↓x5_76, ↓x5_77, ↓x5_80, ↓x5_81, ↓x5_82, ↓x5_85, ↓x5_86, evl_e, ↓endQ_e, ↓gI_0, ↓gL_0, ↓gR_0, ↓gI_s, ↓gL_s, ↓gR_s, ↓pI_i, ↓pL_l, ↓pR_r, ↓p1_i, ↓p1_r, ↓pE_e, ↓pN_z, ↓pN_1, ↓pN_2, ↓pN_3, ↓pN_4, ↓pN_5, ↓pN_6, ↓rl_0, ↓rl_1, ↓rl_2, ↓rl_3, ↓rl_4, ↓hdR_r, ↓hdO_r, va_rf_s, sL1_0, sL1_ss, sL1_1i, sL1_1r, sL1_1n, sL1_1l, sL2_0, sL2_ss, sL2_1i, sL2_1r, sL2_1n, sL2_1l, List.getElem?_cons_zero, List.getElem?_cons_succ, Option.toList_some, Option.toList_none, List.cons_append, List.nil_append, Nat.reduceAdd, true_and, and_true, and_self, wA_s, wA_w, ↓reduceIte, ite_self, true_or, or_true, tv, tc, tl, tg, t0, tz, tw, tu, tup, tuL, nI_add, pk_mul, upd_s, tup_s, tuL_s, nI_0, i1, i2, i3, i4, nm1, kd_8, h2, stB_o]
theorem kr_all {d : Nat} {I : Nat → Nat → Int32} {L : Nat → Nat → Int64} {P : Nat → Nat → Option Nat} {n s : Nat} {Q : Qm} (hc : CP P) {z i q : Nat} {w : Int32} (hz : z ≤ 7) (h2 : I 8 2 = nI z) : ∀ f k, i ≤ k → f + k + 1 = z → WP (Call (d + 2)) (kod 5) (n, s) (endQ n s Q) 23 [.ref 8, .ref q, .int (nI i), .int w, .int (nI k)] [] (stB i k I, L, P, n, s) = Q (some (.int w)) (wA (stB i (z - 1) I) 8 (upd (I 8) 2 (nI (z - 1))), L, P, n, s)
  | 0, k, _, e => by
    rw [kr_end hz h2 (by omega), show k = z - 1 by omega]
  | f + 1, k, hi, e => by
    rw [kr_step hc hz h2 hi (by omega), kr_all hc hz h2 f (k + 1) (by omega) (by omega)]
def smM (i k : Nat) (H : Nat → Int32) : Nat → Int32 := fun e => if 4 * i ≤ e ∧ e < 4 * k then H (e + 4) else H e
theorem smM_u {i k : Nat} {H : Nat → Int32} (h : i ≤ k) : w4 (smM i k H) (4 * k) (H (4 * k + 4)) (H (4 * k + 4 + 1)) (H (4 * k + 4 + 2)) (H (4 * k + 4 + 3)) = smM i (k + 1) H := by
  funext e
  unfold w4 smM
  by_cases c0 : e = 4 * k
  · subst c0; rw [if_pos rfl, if_pos (by omega)]
  by_cases c1 : e = 4 * k + 1
  · subst c1; rw [if_neg (by omega), if_pos rfl, if_pos (by omega)]
  by_cases c2 : e = 4 * k + 2
  · subst c2; rw [if_neg (by omega), if_neg (by omega), if_pos rfl, if_pos (by omega)]
  by_cases c3 : e = 4 * k + 3
  · subst c3; rw [if_neg (by omega), if_neg (by omega), if_neg (by omega), if_pos rfl, if_pos (by omega)]
  rw [if_neg c0, if_neg c1, if_neg c2, if_neg c3]
  by_cases c : 4 * i ≤ e ∧ e < 4 * k
  · rw [if_pos c, if_pos (by omega)]
  · rw [if_neg c, if_neg (by omega)]
theorem smM_n {i k e : Nat} {H : Nat → Int32} (h : 4 * k ≤ e) : smM i k H e = H e := by
  unfold smM
  rw [if_neg (by omega)]
theorem smM_0 {i : Nat} {H : Nat → Int32} : smM i i H = H := by
  funext e
  unfold smM
  rw [if_neg (by omega)]
theorem i4a {a : Nat} : nI a + 4 = nI (a + 4) := nI_add a 4
/-- the reference's book, places i .. k - 1 moved up -/
def stM (i k : Nat) (I : Nat → Nat → Int32) : Nat → Nat → Int32 := wA (wA I 464 (sfR i k (I 464))) 463 (smM i k (I 463))
theorem stM_o {i k a : Nat} {I : Nat → Nat → Int32} (h : ¬ a = 463) (h2 : ¬ a = 464) : stM i k I a = I a := by
  unfold stM
  rw [tw h, tw h2]
theorem stM_3 {i k : Nat} {I : Nat → Nat → Int32} : stM i k I 463 = smM i k (I 463) := wA_s
theorem stM_4 {i k : Nat} {I : Nat → Nat → Int32} : stM i k I 464 = sfR i k (I 464) := by
  unfold stM
  rw [tw (by decide), wA_s]
theorem stM_u {i k : Nat} {I : Nat → Nat → Int32} (h : i ≤ k) : wA (wA (stM i k I) 464 (upd (sfR i k (I 464)) k (I 464 (k + 1)))) 463 (w4 (smM i k (I 463)) (4 * k) (I 463 (4 * k + 4)) (I 463 (4 * k + 4 + 1)) (I 463 (4 * k + 4 + 2)) (I 463 (4 * k + 4 + 3))) = stM i (k + 1) I := by
  rw [sfR_u h, smM_u h]
  funext a
  unfold stM wA
  by_cases c : a = 463
  · rw [if_pos c, if_pos c]
  · rw [if_neg c, if_neg c]
    by_cases c2 : a = 464
    · rw [if_pos c2, if_neg c, if_pos c2]
    · rw [if_neg c2, if_neg c, if_neg c2, if_neg c2]
theorem stM_0 {i : Nat} {I : Nat → Nat → Int32} : stM i i I = I := by
  unfold stM
  rw [sfR_0, smM_0, wA_id, wA_id]
set_option maxRecDepth 100000 in
theorem ms_step {d : Nat} {I : Nat → Nat → Int32} {L : Nat → Nat → Int64} {P : Nat → Nat → Option Nat} {n s : Nat} {Q : Qm} (hm : MP P) {z i k : Nat} {w r : Int32} {v5 : Value} (hz : z < 7) (h2 : I 454 17 = nI z) (hi : i ≤ k) (hk : k < z) : WP (Call d) (kod 195) (n, s) (endQ n s Q) 42 [.ref 454, .int r, .int (nI i), .int w, .int (nI k), v5] [] (stM i k I, L, P, n, s) = WP (Call d) (kod 195) (n, s) (endQ n s Q) 42 [.ref 454, .int r, .int (nI i), .int w, .int (nI (k + 1)), .int 4] [] (stM i (k + 1) I, L, P, n, s) := by
  obtain ⟨m2, m4, m5, m7, m8, m9, m11, m13, m15, m16, m18, m19, m20, m23, m25, m26, m35, m36, m37, m39, m40, m41, m42, m43, m44, m45, m46, m47, m48⟩ := id hm
  rw [x195_42]
  simp (disch := first | assumption | omega | decide | (refine kdN ?_; omega) | (refine kdS ?_; omega) | (refine kd_REGS0 ?_; omega) | (refine kd_BOOK_noted0 ?_; omega) | (refine kd_IREGS0 ?_; omega) | (refine kd_IBOOK_noted0 ?_; omega) | (refine kd_SUMS0 ?_; omega) | (refine kd_TERMS0 ?_; omega) | (refine kd_FACT0 ?_; omega) | (simp (disch := omega) only [tw])) only [↓x195_0, ↓x195_1, ↓x195_4, ↓x195_7, ↓x195_8, ↓x195_9, ↓x195_10, ↓x195_11, ↓x195_14, ↓x195_15, ↓x195_16, ↓x195_19, ↓x195_21, ↓x195_22, ↓x195_23, ↓x195_26, ↓x195_27, ↓x195_28, ↓x195_29, ↓x195_30, ↓x195_31, ↓x195_34, ↓x195_35, ↓x195_36, ↓x195_39, ↓x195_40, ↓x195_44, ↓x195_45, ↓x195_48, ↓x195_51, ↓x195_52, ↓x195_55, ↓x195_57, ↓x195_58, ↓x195_61, ↓x195_63, ↓x195_64, ↓x195_65, ↓x195_66, ↓x195_67, ↓x195_68, ↓x195_70, ↓x195_72, ↓x195_73, ↓x195_76, ↓x195_77, ↓x195_80, ↓x195_81, ↓x195_83, ↓x195_84, ↓x195_86, ↓x195_87, ↓x195_88, ↓x195_91, ↓x195_92, ↓x195_94, ↓x195_95, ↓x195_96, ↓x195_97, ↓x195_99, ↓x195_100, ↓x195_101, ↓x195_102, ↓x195_105, ↓x195_108, ↓x195_111, ↓x195_114, ↓x195_115, evl_e, ↓endQ_e, ↓gI_0, ↓gL_0, ↓gR_0, ↓gI_s, ↓gL_s, ↓gR_s, ↓pI_i, ↓pL_l, ↓pR_r, ↓p1_i, ↓p1_r, ↓pE_e, ↓pN_z, ↓pN_1, ↓pN_2, ↓pN_3, ↓pN_4, ↓pN_5, ↓pN_6, ↓rl_0, ↓rl_1, ↓rl_2, ↓rl_3, ↓rl_4, ↓hdR_r, ↓hdO_r, va_rf_s, sL1_0, sL1_ss, sL1_1i, sL1_1r, sL1_1n, sL1_1l, sL2_0, sL2_ss, sL2_1i, sL2_1r, sL2_1n, sL2_1l, List.getElem?_cons_zero, List.getElem?_cons_succ, Option.toList_some, Option.toList_none, List.cons_append, List.nil_append, Nat.reduceAdd, true_and, and_true, and_self, wA_s, wA_w, ↓reduceIte, ite_self, true_or, or_true, tv, tc, tl, tg, t0, tz, tw, tu, tup, tuL, nI_add, pk_mul, upd_s, tup_s, tuL_s, nI_0, i1, i2, i3, i4, nm1, m15, m16, kd_454, kd_463, ln_463, kd_464, ln_464, h2, l_04, l_14, l_24, l_34, l_44, a_01, a_11, a_21, a_31, i4a, Int32.add_zero, stM_o, stM_3, stM_4, sfR_n, smM_n, w4_u, stM_u]
set_option maxRecDepth 100000 in
theorem ms_end {d : Nat} {I : Nat → Nat → Int32} {L : Nat → Nat → Int64} {P : Nat → Nat → Option Nat} {n s : Nat} {Q : Qm} {z i : Nat} {w r : Int32} {v5 : Value} (hz : z < 7) (h2 : I 454 17 = nI z) : WP (Call d) (kod 195) (n, s) (endQ n s Q) 42 [.ref 454, .int r, .int (nI i), .int w, .int (nI z), v5] [] (stM i z I, L, P, n, s) = Q (some (.int w)) (stM i z I, L, P, n, s) := by
  rw [x195_42]
  simp (disch := first | assumption | omega | decide | (refine kdN ?_; omega) | (refine kdS ?_; omega) | (refine kd_REGS0 ?_; omega) | (refine kd_BOOK_noted0 ?_; omega) | (refine kd_IREGS0 ?_; omega) | (refine kd_IBOOK_noted0 ?_; omega) | (refine kd_SUMS0 ?_; omega) | (refine kd_TERMS0 ?_; omega) | (refine kd_FACT0 ?_; omega) | (simp (disch := omega) only [tw])) only [↓x195_0, ↓x195_1, ↓x195_4, ↓x195_7, ↓x195_8, ↓x195_9, ↓x195_10, ↓x195_11, ↓x195_14, ↓x195_15, ↓x195_16, ↓x195_19, ↓x195_21, ↓x195_22, ↓x195_23, ↓x195_26, ↓x195_27, ↓x195_28, ↓x195_29, ↓x195_30, ↓x195_31, ↓x195_34, ↓x195_35, ↓x195_36, ↓x195_39, ↓x195_40, ↓x195_44, ↓x195_45, ↓x195_48, ↓x195_51, ↓x195_52, ↓x195_55, ↓x195_57, ↓x195_58, ↓x195_61, ↓x195_63, ↓x195_64, ↓x195_65, ↓x195_66, ↓x195_67, ↓x195_68, ↓x195_70, ↓x195_72, ↓x195_73, ↓x195_76, ↓x195_77, ↓x195_80, ↓x195_81, ↓x195_83, ↓x195_84, ↓x195_86, ↓x195_87, ↓x195_88, ↓x195_91, ↓x195_92, ↓x195_94, ↓x195_95, ↓x195_96, ↓x195_97, ↓x195_99, ↓x195_100, ↓x195_101, ↓x195_102, ↓x195_105, ↓x195_108, ↓x195_111, ↓x195_114, ↓x195_115, evl_e, ↓endQ_e, ↓gI_0, ↓gL_0, ↓gR_0, ↓gI_s, ↓gL_s, ↓gR_s, ↓pI_i, ↓pL_l, ↓pR_r, ↓p1_i, ↓p1_r, ↓pE_e, ↓pN_z, ↓pN_1, ↓pN_2, ↓pN_3, ↓pN_4, ↓pN_5, ↓pN_6, ↓rl_0, ↓rl_1, ↓rl_2, ↓rl_3, ↓rl_4, ↓hdR_r, ↓hdO_r, va_rf_s, sL1_0, sL1_ss, sL1_1i, sL1_1r, sL1_1n, sL1_1l, sL2_0, sL2_ss, sL2_1i, sL2_1r, sL2_1n, sL2_1l, List.getElem?_cons_zero, List.getElem?_cons_succ, Option.toList_some, Option.toList_none, List.cons_append, List.nil_append, Nat.reduceAdd, true_and, and_true, and_self, wA_s, wA_w, ↓reduceIte, ite_self, true_or, or_true, tv, tc, tl, tg, t0, tz, tw, tu, tup, tuL, nI_add, pk_mul, upd_s, tup_s, tuL_s, nI_0, i1, i2, i3, i4, nm1, kd_454, h2, stM_o]
theorem ms_all {d : Nat} {I : Nat → Nat → Int32} {L : Nat → Nat → Int64} {P : Nat → Nat → Option Nat} {n s : Nat} {Q : Qm} (hm : MP P) {z i : Nat} {w r : Int32} (hz : z < 7) (h2 : I 454 17 = nI z) : ∀ f k v5, i ≤ k → f + k = z → WP (Call d) (kod 195) (n, s) (endQ n s Q) 42 [.ref 454, .int r, .int (nI i), .int w, .int (nI k), v5] [] (stM i k I, L, P, n, s) = Q (some (.int w)) (stM i z I, L, P, n, s)
  | 0, k, v5, _, e => by
    have e2 : k = z := by omega
    subst e2
    exact ms_end hz h2
  | f + 1, k, v5, hi, e => by
    rw [ms_step hm hz h2 hi (by omega), ms_all hm hz h2 f (k + 1) _ (by omega) (by omega)]
set_option maxRecDepth 100000 in
theorem kr_rm {d : Nat} {I : Nat → Nat → Int32} {L : Nat → Nat → Int64} {P : Nat → Nat → Option Nat} {n s : Nat} {Q : Qm} (hc : CP P) {z i q : Nat} (hq : kd q = 3) (hz : z ≤ 7) (bz : I 8 2 = nI z) (hi : i < z) (h1 : like4 (I (10 + i)) (I q) = true) (h2 : ∀ j, j < i → like4 (I (10 + j)) (I q) = false) : Call (d + 3) 5 [.ref 8, .ref q] (I, L, P, n, s) Q = Q (some (.int (I 17 i))) (wA (stB i (z - 1) I) 8 (upd (I 8) 2 (nI (z - 1))), L, P, n, s) := by
  obtain ⟨c0_0, c0_1, c0_2, c0_3, c0_4, c0_5, c0_6, c0_7, c0_8, c0_9, c0_10, c1_0, c1_1, c8_0, c8_1, c25_0, c25_1, c33_0, c33_1, c430_0, c430_1, c430_2, c430_3, c430_4, c430_5, c430_6, c430_7, c430_8, c430_9, cA43, cA18, cA9, cA26, cA34, cA435, cA441, cA447⟩ := id hc
  simp (disch := first | assumption | omega | decide | (refine kdN ?_; omega) | (refine kdS ?_; omega) | (refine kd_REGS0 ?_; omega) | (refine kd_BOOK_noted0 ?_; omega) | (refine kd_IREGS0 ?_; omega) | (refine kd_IBOOK_noted0 ?_; omega) | (refine kd_SUMS0 ?_; omega) | (refine kd_TERMS0 ?_; omega) | (refine kd_FACT0 ?_; omega) | (simp (disch := omega) only [tw])) only [↓c5, ↓x5_0, ↓x5_1, ↓x5_2, ↓x5_5, ↓x5_6, ↓x5_7, ↓x5_10, ↓x5_12, ↓x5_13, ↓x5_14, ↓x5_17, ↓x5_18, ↓x5_19, ↓x5_20, ↓x5_21, ↓x5_25, ↓x5_26, ↓x5_27, ↓x5_28, ↓x5_31, ↓x5_34, ↓x5_35, ↓x5_38, ↓x5_40, ↓x5_41, ↓x5_42, ↓x5_45, ↓x5_47, ↓x5_48, ↓x5_49, ↓x5_50, ↓x5_53, ↓x5_54, ↓x5_57, ↓x5_59, ↓x5_60, ↓x5_63, ↓x5_65, ↓x5_66, ↓x5_67, ↓x5_68, ↓x5_69, ↓x5_72, ↓x5_75, ↓x5_76, ↓x5_77, ↓x5_80, ↓x5_81, ↓x5_82, ↓x5_85, ↓x5_86, evl_e, ↓endQ_e, ↓gI_0, ↓gL_0, ↓gR_0, ↓gI_s, ↓gL_s, ↓gR_s, ↓pI_i, ↓pL_l, ↓pR_r, ↓p1_i, ↓p1_r, ↓pE_e, ↓pN_z, ↓pN_1, ↓pN_2, ↓pN_3, ↓pN_4, ↓pN_5, ↓pN_6, ↓rl_0, ↓rl_1, ↓rl_2, ↓rl_3, ↓rl_4, ↓hdR_r, ↓hdO_r, va_rf_s, sL1_0, sL1_ss, sL1_1i, sL1_1r, sL1_1n, sL1_1l, sL2_0, sL2_ss, sL2_1i, sL2_1r, sL2_1n, sL2_1l, List.getElem?_cons_zero, List.getElem?_cons_succ, Option.toList_some, Option.toList_none, List.cons_append, List.nil_append, Nat.reduceAdd, true_and, and_true, and_self, wA_s, wA_w, ↓reduceIte, ite_self, true_or, or_true, tv, tc, tl, tg, t0, tz, tw, tu, tup, tuL, nI_add, pk_mul, upd_s, tup_s, tuL_s, nI_0, i1, i2, i3, i4, nm1, c8_1, kd_8, kd_17, ln_17, ↓kb_find_t hc hq hz bz hi h1 h2]
  have z1 := kr_all (d := d) (L := L) (n := n) (s := s) (Q := Q) (q := q) (w := I 17 i) hc hz bz (z - 1 - i) i (Nat.le_refl i) (by omega)
  rw [stB_0] at z1
  exact z1
set_option maxRecDepth 100000 in
theorem ms_rm {d : Nat} {P : Nat → Nat → Option Nat} {n s : Nat} {Q : Qm} {H G : Nat → Int32} {u : Int32} (hm : MP P) {z i r : Nat} (hr : r < 6) (hz : z ≤ 7) (h2 : u = nI z) (hi : i < z) (hl : like4 (sh H (4 * i)) (sh G (4 * r)) = true) (hn : ∀ j, j < i → like4 (sh H (4 * j)) (sh G (4 * r)) = false) {I : Nat → Nat → Int32} {L : Nat → Nat → Int64} (e1 : I 463 = H) (e2 : I 455 = G) (e3 : I 454 17 = u) : Call (d + 3) 195 [.ref 454, .int (nI r)] (I, L, P, n, s) Q = Q (some (.int (I 464 i))) (stM i (z - 1) (wA I 454 (upd (I 454) 17 (nI (z - 1)))), L, P, n, s) := by
  subst e1 e2 e3
  obtain ⟨m2, m4, m5, m7, m8, m9, m11, m13, m15, m16, m18, m19, m20, m23, m25, m26, m35, m36, m37, m39, m40, m41, m42, m43, m44, m45, m46, m47, m48⟩ := id hm
  have hr2 : rng (nI r) 6 = true := rng_t (N := 6) (by decide) hr
  simp (disch := first | assumption | omega | decide | (refine kdN ?_; omega) | (refine kdS ?_; omega) | (refine kd_REGS0 ?_; omega) | (refine kd_BOOK_noted0 ?_; omega) | (refine kd_IREGS0 ?_; omega) | (refine kd_IBOOK_noted0 ?_; omega) | (refine kd_SUMS0 ?_; omega) | (refine kd_TERMS0 ?_; omega) | (refine kd_FACT0 ?_; omega) | (simp (disch := omega) only [tw])) only [↓c195, ↓x195_0, ↓x195_1, ↓x195_4, ↓x195_7, ↓x195_8, ↓x195_9, ↓x195_10, ↓x195_11, ↓x195_14, ↓x195_15, ↓x195_16, ↓x195_19, ↓x195_21, ↓x195_22, ↓x195_23, ↓x195_26, ↓x195_27, ↓x195_28, ↓x195_29, ↓x195_30, ↓x195_31, ↓x195_34, ↓x195_35, ↓x195_36, ↓x195_39, ↓x195_40, ↓x195_44, ↓x195_45, ↓x195_48, ↓x195_51, ↓x195_52, ↓x195_55, ↓x195_57, ↓x195_58, ↓x195_61, ↓x195_63, ↓x195_64, ↓x195_65, ↓x195_66, ↓x195_67, ↓x195_68, ↓x195_70, ↓x195_72, ↓x195_73, ↓x195_76, ↓x195_77, ↓x195_80, ↓x195_81, ↓x195_83, ↓x195_84, ↓x195_86, ↓x195_87, ↓x195_88, ↓x195_91, ↓x195_92, ↓x195_94, ↓x195_95, ↓x195_96, ↓x195_97, ↓x195_99, ↓x195_100, ↓x195_101, ↓x195_102, ↓x195_105, ↓x195_108, ↓x195_111, ↓x195_114, ↓x195_115, evl_e, ↓endQ_e, ↓gI_0, ↓gL_0, ↓gR_0, ↓gI_s, ↓gL_s, ↓gR_s, ↓pI_i, ↓pL_l, ↓pR_r, ↓p1_i, ↓p1_r, ↓pE_e, ↓pN_z, ↓pN_1, ↓pN_2, ↓pN_3, ↓pN_4, ↓pN_5, ↓pN_6, ↓rl_0, ↓rl_1, ↓rl_2, ↓rl_3, ↓rl_4, ↓hdR_r, ↓hdO_r, va_rf_s, sL1_0, sL1_ss, sL1_1i, sL1_1r, sL1_1n, sL1_1l, sL2_0, sL2_ss, sL2_1i, sL2_1r, sL2_1n, sL2_1l, List.getElem?_cons_zero, List.getElem?_cons_succ, Option.toList_some, Option.toList_none, List.cons_append, List.nil_append, Nat.reduceAdd, true_and, and_true, and_self, wA_s, wA_w, ↓reduceIte, ite_self, true_or, or_true, tv, tc, tl, tg, t0, tz, tw, tu, tup, tuL, nI_add, pk_mul, upd_s, tup_s, tuL_s, nI_0, i1, i2, i3, i4, nm1, m16, kd_454, kd_464, ln_464, ↓m_reg, hr2, bI_t, e_1, ↓mb_find_t hm hr hz h2 hi hl hn, h2]
  have z1 := ms_all (d := d + 2) (L := L) (n := n) (s := s) (Q := Q) (r := nI r) (w := I 464 i) (i := i) (I := wA I 454 (upd (I 454) 17 (nI (z - 1)))) hm (z := z - 1) (by omega) (by rw [wA_s, upd_s]) (z - 1 - i) i .null (Nat.le_refl i) (by omega)
  rw [stM_0] at z1
  exact z1
theorem cut_stB {i k lo hi : Nat} {I : Nat → Nat → Int32} (h : hi ≤ 10 ∨ 18 ≤ lo) (hk : k ≤ 7) : cut lo hi (stB i k I) = cut lo hi I := cut_q fun a h1 h2 => stB_o (by omega) (by omega)
set_option maxRecDepth 100000 in
theorem cs_strike {r : Int32} : CS false 129 195 [.int r] := by
  intro d x I L P n s h
  obtain ⟨hx, hc, hp, hm, hW, hN, hM, hPL, hDD, hRG, hRW, hBK, hIM, hTP, hWY, hWK⟩ := id h
  obtain ⟨c0_0, c0_1, c0_2, c0_3, c0_4, c0_5, c0_6, c0_7, c0_8, c0_9, c0_10, c1_0, c1_1, c8_0, c8_1, c25_0, c25_1, c33_0, c33_1, c430_0, c430_1, c430_2, c430_3, c430_4, c430_5, c430_6, c430_7, c430_8, c430_9, cA43, cA18, cA9, cA26, cA34, cA435, cA441, cA447⟩ := id hc
  obtain ⟨m2, m4, m5, m7, m8, m9, m11, m13, m15, m16, m18, m19, m20, m23, m25, m26, m35, m36, m37, m39, m40, m41, m42, m43, m44, m45, m46, m47, m48⟩ := id hm
  obtain ⟨p50_0, p50_1, p50_2, p50_3, p50_4, p50_5, p50_6, p50_7, p51_0, p51_1, p51_2, p51_3, p51_4, pS, pN⟩ := id hp
  cases hr : rng r 6
  · simp (disch := first | assumption | omega | decide | (refine kdN ?_; omega) | (refine kdS ?_; omega) | (refine kd_REGS0 ?_; omega) | (refine kd_BOOK_noted0 ?_; omega) | (refine kd_IREGS0 ?_; omega) | (refine kd_IBOOK_noted0 ?_; omega) | (refine kd_SUMS0 ?_; omega) | (refine kd_TERMS0 ?_; omega) | (refine kd_FACT0 ?_; omega) | (simp (disch := omega) only [tw])) only [↓c129, ↓c195, ↓x129_0, ↓x129_1, ↓x129_4, ↓x129_7, ↓x129_8, ↓x129_9, ↓x129_10, ↓x129_13, ↓x129_14, ↓x129_17, ↓x129_18, ↓x129_19, ↓x129_22, ↓x195_0, ↓x195_1, ↓x195_4, ↓x195_7, ↓x195_8, ↓x195_9, ↓x195_10, ↓x195_11, ↓x195_14, ↓x195_15, ↓x195_16, ↓x195_19, ↓x195_21, ↓x195_22, ↓x195_23, ↓x195_26, ↓x195_27, ↓x195_28, ↓x195_29, ↓x195_30, ↓x195_31, ↓x195_34, ↓x195_35, ↓x195_36, ↓x195_39, ↓x195_40, ↓x195_42, ↓x195_44, ↓x195_45, ↓x195_48, ↓x195_51, ↓x195_52, ↓x195_55, ↓x195_57, ↓x195_58, ↓x195_61, ↓x195_63, ↓x195_64, ↓x195_65, ↓x195_66, ↓x195_67, ↓x195_68, ↓x195_70, ↓x195_72, ↓x195_73, ↓x195_76, ↓x195_77, ↓x195_80, ↓x195_81, ↓x195_83, ↓x195_84, ↓x195_86, ↓x195_87, ↓x195_88, ↓x195_91, ↓x195_92, ↓x195_94, ↓x195_95, ↓x195_96, ↓x195_97, ↓x195_99, ↓x195_100, ↓x195_101, ↓x195_102, ↓x195_105, ↓x195_108, ↓x195_111, ↓x195_114, ↓x195_115, evl_e, ↓endQ_e, ↓gI_0, ↓gL_0, ↓gR_0, ↓gI_s, ↓gL_s, ↓gR_s, ↓pI_i, ↓pL_l, ↓pR_r, ↓p1_i, ↓p1_r, ↓pE_e, ↓pN_z, ↓pN_1, ↓pN_2, ↓pN_3, ↓pN_4, ↓pN_5, ↓pN_6, ↓rl_0, ↓rl_1, ↓rl_2, ↓rl_3, ↓rl_4, ↓hdR_r, ↓hdO_r, va_rf_s, sL1_0, sL1_ss, sL1_1i, sL1_1r, sL1_1n, sL1_1l, sL2_0, sL2_ss, sL2_1i, sL2_1r, sL2_1n, sL2_1l, List.getElem?_cons_zero, List.getElem?_cons_succ, Option.toList_some, Option.toList_none, List.cons_append, List.nil_append, Nat.reduceAdd, true_and, and_true, and_self, wA_s, wA_w, ↓reduceIte, ite_self, true_or, or_true, tv, tc, tl, tg, t0, tz, tw, tu, tup, tuL, nI_add, pk_mul, upd_s, tup_s, tuL_s, nI_0, i1, i2, i3, i4, nm1, c0_0, c0_1, c0_2, c0_3, c0_4, c0_5, c0_6, c0_7, c0_8, c0_9, c0_10, c1_0, c1_1, c8_0, c8_1, c25_0, c25_1, c33_0, c33_1, c430_0, c430_1, c430_2, c430_3, c430_4, c430_5, c430_6, c430_7, c430_8, c430_9, cA43, cA18, cA9, cA26, cA34, cA435, cA441, cA447, p50_0, p50_1, p50_2, p50_3, p50_4, p50_5, p50_6, p50_7, p51_0, p51_1, p51_2, p51_3, p51_4, pS, pN, m2, m4, m5, m7, m8, m9, m11, m13, m15, m16, m18, m19, m20, m23, m25, m26, m35, m36, m37, m39, m40, m41, m42, m43, m44, m45, m46, m47, m48, kd_0, kd_1, kd_2, kd_3, kd_7, kd_8, kd_9, kd_17, kd_18, kd_19, kd_20, kd_21, kd_22, kd_23, kd_24, kd_25, kd_26, kd_33, kd_34, kd_42, kd_43, kd_50, kd_51, kd_52, kd_83, kd_84, kd_85, kd_86, kd_87, kd_424, kd_425, kd_426, kd_427, kd_428, kd_429, kd_430, kd_431, kd_432, kd_433, kd_434, kd_435, kd_441, kd_447, kd_453, kd_454, kd_455, kd_456, kd_457, kd_458, kd_459, kd_460, kd_461, kd_462, kd_463, kd_464, kd_465, kd_466, kd_467, kd_468, kd_469, kd_470, kd_471, kd_472, kd_473, kd_474, kd_475, kd_476, kd_477, kd_478, kd_479, kd_480, kd_481, kd_482, kd_483, ln_0, ln_1, ln_2, ln_3, ln_7, ln_8, ln_9, ln_17, ln_18, ln_19, ln_20, ln_21, ln_22, ln_23, ln_24, ln_25, ln_26, ln_33, ln_34, ln_42, ln_43, ln_50, ln_51, ln_52, ln_83, ln_84, ln_85, ln_86, ln_87, ln_424, ln_425, ln_426, ln_427, ln_428, ln_429, ln_430, ln_431, ln_432, ln_433, ln_434, ln_435, ln_441, ln_447, ln_453, ln_454, ln_455, ln_456, ln_457, ln_458, ln_459, ln_460, ln_461, ln_462, ln_463, ln_464, ln_465, ln_466, ln_467, ln_468, ln_469, ln_470, ln_471, ln_472, ln_473, ln_474, ln_475, ln_476, ln_477, ln_478, ln_479, ln_480, ln_481, ln_482, ln_483, z_0, z_1, bI_01, ite_bI, bI_t, bI_f, e_0, e_1, v_0, v_1, v_2, v_3, c_0, c_1, c_2, c_3, l_04, l_14, l_24, l_34, l_44, a_01, a_11, a_21, a_31, b_06, b_03, b_04, b_05, b_02, b_ft, rng_f, q4_0, q4_1, q4_2, q4_3, q4_q, Int32.add_zero, Nat.add_zero, Bool.false_eq_true, kd_REGS0, kd_BOOK_noted0, kd_IREGS0, kd_IBOOK_noted0, kdN, kdS, kd_SUMS0, kd_TERMS0, kd_FACT0, isK_i, isK_l, b_0y, b_0z, b_i0, Nat.reduceLeDiff, kd_ROW, ln_ROW, tl4, e4n, ↓m_in, ↓m_reg, ↓m_row, ↓m_isS2, ↓m_isN2, ↓k_reg, ↓k_row, ↓k_hasPart, ↓k_shas, ↓k_has, ↓q_become, ↓q_becomeQ, ↓q_prod, ↓q_sum, ↓q_conj, ↓q_sq, ↓q_fit, ↓q_at, ↓q_right, ↓q_like, hr]
    exact OK_i rfl h
  obtain ⟨r, hr6, rfl⟩ := rng_6 hr
  have kr : kd (44 + r) = 3 := kd_REGS0 hr6
  obtain ⟨be, z, hz, bz, bf⟩ := id hBK
  have bz2 : I 454 17 = nI z := be ▸ bz
  have bq : ∀ i, i < z → like4 (sh (I 463) (4 * i)) (sh (I 455) (4 * r)) = like4 (I (10 + i)) (I (44 + r)) := fun i hi => like_q (fun k hk => by have := (bf i hi).2 k hk; rw [cut_e (by omega) (by omega)] at this; exact this.symm) (RG_s hr6 hRG)
  rcases first_or (p := fun i => like4 (I (10 + i)) (I (44 + r))) z with ⟨i, hi, h1, h2⟩ | h1
  · have f1 := (bf i hi).1
    simp (disch := first | assumption | omega | decide | (refine kdN ?_; omega) | (refine kdS ?_; omega) | (refine kd_REGS0 ?_; omega) | (refine kd_BOOK_noted0 ?_; omega) | (refine kd_IREGS0 ?_; omega) | (refine kd_IBOOK_noted0 ?_; omega) | (refine kd_SUMS0 ?_; omega) | (refine kd_TERMS0 ?_; omega) | (refine kd_FACT0 ?_; omega) | (simp (disch := omega) only [tw])) only [↓c129, ↓x129_0, ↓x129_1, ↓x129_4, ↓x129_7, ↓x129_8, ↓x129_9, ↓x129_10, ↓x129_13, ↓x129_14, ↓x129_17, ↓x129_18, ↓x129_19, ↓x129_22, evl_e, ↓endQ_e, ↓gI_0, ↓gL_0, ↓gR_0, ↓gI_s, ↓gL_s, ↓gR_s, ↓pI_i, ↓pL_l, ↓pR_r, ↓p1_i, ↓p1_r, ↓pE_e, ↓pN_z, ↓pN_1, ↓pN_2, ↓pN_3, ↓pN_4, ↓pN_5, ↓pN_6, ↓rl_0, ↓rl_1, ↓rl_2, ↓rl_3, ↓rl_4, ↓hdR_r, ↓hdO_r, va_rf_s, sL1_0, sL1_ss, sL1_1i, sL1_1r, sL1_1n, sL1_1l, sL2_0, sL2_ss, sL2_1i, sL2_1r, sL2_1n, sL2_1l, List.getElem?_cons_zero, List.getElem?_cons_succ, Option.toList_some, Option.toList_none, List.cons_append, List.nil_append, Nat.reduceAdd, true_and, and_true, and_self, wA_s, wA_w, ↓reduceIte, ite_self, true_or, or_true, tv, tc, tl, tg, t0, tz, tw, tu, tup, tuL, nI_add, pk_mul, upd_s, tup_s, tuL_s, nI_0, i1, i2, i3, i4, nm1, c0_0, c0_1, c0_2, c0_3, c0_4, c0_5, c0_6, c0_7, c0_8, c0_9, c0_10, c1_0, c1_1, c8_0, c8_1, c25_0, c25_1, c33_0, c33_1, c430_0, c430_1, c430_2, c430_3, c430_4, c430_5, c430_6, c430_7, c430_8, c430_9, cA43, cA18, cA9, cA26, cA34, cA435, cA441, cA447, p50_0, p50_1, p50_2, p50_3, p50_4, p50_5, p50_6, p50_7, p51_0, p51_1, p51_2, p51_3, p51_4, pS, pN, m2, m4, m5, m7, m8, m9, m11, m13, m15, m16, m18, m19, m20, m23, m25, m26, m35, m36, m37, m39, m40, m41, m42, m43, m44, m45, m46, m47, m48, kd_0, kd_1, kd_2, kd_3, kd_7, kd_8, kd_9, kd_17, kd_18, kd_19, kd_20, kd_21, kd_22, kd_23, kd_24, kd_25, kd_26, kd_33, kd_34, kd_42, kd_43, kd_50, kd_51, kd_52, kd_83, kd_84, kd_85, kd_86, kd_87, kd_424, kd_425, kd_426, kd_427, kd_428, kd_429, kd_430, kd_431, kd_432, kd_433, kd_434, kd_435, kd_441, kd_447, kd_453, kd_454, kd_455, kd_456, kd_457, kd_458, kd_459, kd_460, kd_461, kd_462, kd_463, kd_464, kd_465, kd_466, kd_467, kd_468, kd_469, kd_470, kd_471, kd_472, kd_473, kd_474, kd_475, kd_476, kd_477, kd_478, kd_479, kd_480, kd_481, kd_482, kd_483, ln_0, ln_1, ln_2, ln_3, ln_7, ln_8, ln_9, ln_17, ln_18, ln_19, ln_20, ln_21, ln_22, ln_23, ln_24, ln_25, ln_26, ln_33, ln_34, ln_42, ln_43, ln_50, ln_51, ln_52, ln_83, ln_84, ln_85, ln_86, ln_87, ln_424, ln_425, ln_426, ln_427, ln_428, ln_429, ln_430, ln_431, ln_432, ln_433, ln_434, ln_435, ln_441, ln_447, ln_453, ln_454, ln_455, ln_456, ln_457, ln_458, ln_459, ln_460, ln_461, ln_462, ln_463, ln_464, ln_465, ln_466, ln_467, ln_468, ln_469, ln_470, ln_471, ln_472, ln_473, ln_474, ln_475, ln_476, ln_477, ln_478, ln_479, ln_480, ln_481, ln_482, ln_483, z_0, z_1, bI_01, ite_bI, bI_t, bI_f, e_0, e_1, v_0, v_1, v_2, v_3, c_0, c_1, c_2, c_3, l_04, l_14, l_24, l_34, l_44, a_01, a_11, a_21, a_31, b_06, b_03, b_04, b_05, b_02, b_ft, rng_f, q4_0, q4_1, q4_2, q4_3, q4_q, Int32.add_zero, Nat.add_zero, Bool.false_eq_true, kd_REGS0, kd_BOOK_noted0, kd_IREGS0, kd_IBOOK_noted0, kdN, kdS, kd_SUMS0, kd_TERMS0, kd_FACT0, isK_i, isK_l, b_0y, b_0z, b_i0, Nat.reduceLeDiff, kd_ROW, ln_ROW, tl4, e4n, ↓m_in, ↓m_reg, ↓m_row, ↓m_isS2, ↓m_isN2, ↓k_reg, ↓k_row, ↓k_hasPart, ↓k_shas, ↓k_has, ↓q_become, ↓q_becomeQ, ↓q_prod, ↓q_sum, ↓q_conj, ↓q_sq, ↓q_fit, ↓q_at, ↓q_right, ↓q_like, hr, ↓kr_rm hc kr hz bz hi h1 h2, f1]
    rw [ms_rm (u := I 454 17) (H := I 463) (G := I 455) hm hr6 hz bz2 hi ((bq i hi).trans h1) (fun j hj => (bq j (by omega)).trans (h2 j hj)) (by simp (disch := first | assumption | omega | decide | (refine kdN ?_; omega) | (refine kdS ?_; omega) | (refine kd_REGS0 ?_; omega) | (refine kd_BOOK_noted0 ?_; omega) | (refine kd_IREGS0 ?_; omega) | (refine kd_IBOOK_noted0 ?_; omega) | (refine kd_SUMS0 ?_; omega) | (refine kd_TERMS0 ?_; omega) | (refine kd_FACT0 ?_; omega) | (simp (disch := omega) only [tw])) only [tw, stB_o]) (by simp (disch := first | assumption | omega | decide | (refine kdN ?_; omega) | (refine kdS ?_; omega) | (refine kd_REGS0 ?_; omega) | (refine kd_BOOK_noted0 ?_; omega) | (refine kd_IREGS0 ?_; omega) | (refine kd_IBOOK_noted0 ?_; omega) | (refine kd_SUMS0 ?_; omega) | (refine kd_TERMS0 ?_; omega) | (refine kd_FACT0 ?_; omega) | (simp (disch := omega) only [tw])) only [tw, stB_o]) (by simp (disch := first | assumption | omega | decide | (refine kdN ?_; omega) | (refine kdS ?_; omega) | (refine kd_REGS0 ?_; omega) | (refine kd_BOOK_noted0 ?_; omega) | (refine kd_IREGS0 ?_; omega) | (refine kd_IBOOK_noted0 ?_; omega) | (refine kd_SUMS0 ?_; omega) | (refine kd_TERMS0 ?_; omega) | (refine kd_FACT0 ?_; omega) | (simp (disch := omega) only [tw])) only [tw, stB_o])]
    have e : (wA (stB i (z - 1) I) 8 (upd (I 8) 2 (nI (z - 1)))) 464 i = I 464 i := by simp (disch := first | assumption | omega | decide | (refine kdN ?_; omega) | (refine kdS ?_; omega) | (refine kd_REGS0 ?_; omega) | (refine kd_BOOK_noted0 ?_; omega) | (refine kd_IREGS0 ?_; omega) | (refine kd_IBOOK_noted0 ?_; omega) | (refine kd_SUMS0 ?_; omega) | (refine kd_TERMS0 ?_; omega) | (refine kd_FACT0 ?_; omega) | (simp (disch := omega) only [tw])) only [tw, stB_o]
    rw [e]
    (refine OK_i rfl (x := x) ?_; unfold REL; simp (disch := first | assumption | omega | decide | (refine kdN ?_; omega) | (refine kdS ?_; omega) | (refine kd_REGS0 ?_; omega) | (refine kd_BOOK_noted0 ?_; omega) | (refine kd_IREGS0 ?_; omega) | (refine kd_IBOOK_noted0 ?_; omega) | (refine kd_SUMS0 ?_; omega) | (refine kd_TERMS0 ?_; omega) | (refine kd_FACT0 ?_; omega) | (simp (disch := omega) only [tw])) only [cut_w, cut_i, tw, wA_s, wA_w, upd_s, tu, stM, stB_o, cut_stB, stB_17]; refine ⟨hx, hc, hp, hm, hW, hN, hM, hPL, hDD, hRG, hRW, ⟨rfl, z - 1, by omega, rfl, fun j hj => ?_⟩, hIM, hTP, hWY, hWK⟩)
    have b1 := bf j (by omega)
    have b2 := bf (j + 1) (by omega)
    by_cases c : i ≤ j
    · have s1 : ∀ g : Nat → Int32, sfR i (z - 1) g j = g (j + 1) := fun g => by unfold sfR; rw [if_pos (by omega)]
      rw [s1, s1]
      refine ⟨b2.1, fun k hk => ?_⟩
      have s2 : smM i (z - 1) (I 463) (4 * j + k) = I 463 (4 * (j + 1) + k) := by
        unfold smM
        rw [if_pos (by omega), show 4 * j + k + 4 = 4 * (j + 1) + k by omega]
      have s3 := b2.2 k hk
      rw [cut_e (by omega) (by omega)] at s3
      rw [s2, ← s3, cut_e (by omega) (by omega)]
      unfold stB
      rw [if_pos (by omega)]
      rcases (by omega : k = 0 ∨ k = 1 ∨ k = 2 ∨ k = 3) with rfl | rfl | rfl | rfl <;> rfl
    · have s1 : ∀ g : Nat → Int32, sfR i (z - 1) g j = g j := fun g => by unfold sfR; rw [if_neg (by omega)]
      rw [s1, s1]
      refine ⟨b1.1, fun k hk => ?_⟩
      have s2 : smM i (z - 1) (I 463) (4 * j + k) = I 463 (4 * j + k) := by
        unfold smM
        rw [if_neg (by omega)]
      have s3 := b1.2 k hk
      rw [cut_e (by omega) (by omega)] at s3
      rw [s2, ← s3, cut_e (by omega) (by omega), stB_o (by omega) (by omega)]
  · simp (disch := first | assumption | omega | decide | (refine kdN ?_; omega) | (refine kdS ?_; omega) | (refine kd_REGS0 ?_; omega) | (refine kd_BOOK_noted0 ?_; omega) | (refine kd_IREGS0 ?_; omega) | (refine kd_IBOOK_noted0 ?_; omega) | (refine kd_SUMS0 ?_; omega) | (refine kd_TERMS0 ?_; omega) | (refine kd_FACT0 ?_; omega) | (simp (disch := omega) only [tw])) only [↓c129, ↓c195, ↓c5, ↓x129_0, ↓x129_1, ↓x129_4, ↓x129_7, ↓x129_8, ↓x129_9, ↓x129_10, ↓x129_13, ↓x129_14, ↓x129_17, ↓x129_18, ↓x129_19, ↓x129_22, ↓x195_0, ↓x195_1, ↓x195_4, ↓x195_7, ↓x195_8, ↓x195_9, ↓x195_10, ↓x195_11, ↓x195_14, ↓x195_15, ↓x195_16, ↓x195_19, ↓x195_21, ↓x195_22, ↓x195_23, ↓x195_26, ↓x195_27, ↓x195_28, ↓x195_29, ↓x195_30, ↓x195_31, ↓x195_34, ↓x195_35, ↓x195_36, ↓x195_39, ↓x195_40, ↓x195_42, ↓x195_44, ↓x195_45, ↓x195_48, ↓x195_51, ↓x195_52, ↓x195_55, ↓x195_57, ↓x195_58, ↓x195_61, ↓x195_63, ↓x195_64, ↓x195_65, ↓x195_66, ↓x195_67, ↓x195_68, ↓x195_70, ↓x195_72, ↓x195_73, ↓x195_76, ↓x195_77, ↓x195_80, ↓x195_81, ↓x195_83, ↓x195_84, ↓x195_86, ↓x195_87, ↓x195_88, ↓x195_91, ↓x195_92, ↓x195_94, ↓x195_95, ↓x195_96, ↓x195_97, ↓x195_99, ↓x195_100, ↓x195_101, ↓x195_102, ↓x195_105, ↓x195_108, ↓x195_111, ↓x195_114, ↓x195_115, ↓x5_0, ↓x5_1, ↓x5_2, ↓x5_5, ↓x5_6, ↓x5_7, ↓x5_10, ↓x5_12, ↓x5_13, ↓x5_14, ↓x5_17, ↓x5_18, ↓x5_19, ↓x5_20, ↓x5_21, ↓x5_23, ↓x5_25, ↓x5_26, ↓x5_27, ↓x5_28, ↓x5_31, ↓x5_34, ↓x5_35, ↓x5_38, ↓x5_40, ↓x5_41, ↓x5_42, ↓x5_45, ↓x5_47, ↓x5_48, ↓x5_49, ↓x5_50, ↓x5_53, ↓x5_54, ↓x5_57, ↓x5_59, ↓x5_60, ↓x5_63, ↓x5_65, ↓x5_66, ↓x5_67, ↓x5_68, ↓x5_69, ↓x5_72, ↓x5_75, ↓x5_76, ↓x5_77, ↓x5_80, ↓x5_81, ↓x5_82, ↓x5_85, ↓x5_86, evl_e, ↓endQ_e, ↓gI_0, ↓gL_0, ↓gR_0, ↓gI_s, ↓gL_s, ↓gR_s, ↓pI_i, ↓pL_l, ↓pR_r, ↓p1_i, ↓p1_r, ↓pE_e, ↓pN_z, ↓pN_1, ↓pN_2, ↓pN_3, ↓pN_4, ↓pN_5, ↓pN_6, ↓rl_0, ↓rl_1, ↓rl_2, ↓rl_3, ↓rl_4, ↓hdR_r, ↓hdO_r, va_rf_s, sL1_0, sL1_ss, sL1_1i, sL1_1r, sL1_1n, sL1_1l, sL2_0, sL2_ss, sL2_1i, sL2_1r, sL2_1n, sL2_1l, List.getElem?_cons_zero, List.getElem?_cons_succ, Option.toList_some, Option.toList_none, List.cons_append, List.nil_append, Nat.reduceAdd, true_and, and_true, and_self, wA_s, wA_w, ↓reduceIte, ite_self, true_or, or_true, tv, tc, tl, tg, t0, tz, tw, tu, tup, tuL, nI_add, pk_mul, upd_s, tup_s, tuL_s, nI_0, i1, i2, i3, i4, nm1, c0_0, c0_1, c0_2, c0_3, c0_4, c0_5, c0_6, c0_7, c0_8, c0_9, c0_10, c1_0, c1_1, c8_0, c8_1, c25_0, c25_1, c33_0, c33_1, c430_0, c430_1, c430_2, c430_3, c430_4, c430_5, c430_6, c430_7, c430_8, c430_9, cA43, cA18, cA9, cA26, cA34, cA435, cA441, cA447, p50_0, p50_1, p50_2, p50_3, p50_4, p50_5, p50_6, p50_7, p51_0, p51_1, p51_2, p51_3, p51_4, pS, pN, m2, m4, m5, m7, m8, m9, m11, m13, m15, m16, m18, m19, m20, m23, m25, m26, m35, m36, m37, m39, m40, m41, m42, m43, m44, m45, m46, m47, m48, kd_0, kd_1, kd_2, kd_3, kd_7, kd_8, kd_9, kd_17, kd_18, kd_19, kd_20, kd_21, kd_22, kd_23, kd_24, kd_25, kd_26, kd_33, kd_34, kd_42, kd_43, kd_50, kd_51, kd_52, kd_83, kd_84, kd_85, kd_86, kd_87, kd_424, kd_425, kd_426, kd_427, kd_428, kd_429, kd_430, kd_431, kd_432, kd_433, kd_434, kd_435, kd_441, kd_447, kd_453, kd_454, kd_455, kd_456, kd_457, kd_458, kd_459, kd_460, kd_461, kd_462, kd_463, kd_464, kd_465, kd_466, kd_467, kd_468, kd_469, kd_470, kd_471, kd_472, kd_473, kd_474, kd_475, kd_476, kd_477, kd_478, kd_479, kd_480, kd_481, kd_482, kd_483, ln_0, ln_1, ln_2, ln_3, ln_7, ln_8, ln_9, ln_17, ln_18, ln_19, ln_20, ln_21, ln_22, ln_23, ln_24, ln_25, ln_26, ln_33, ln_34, ln_42, ln_43, ln_50, ln_51, ln_52, ln_83, ln_84, ln_85, ln_86, ln_87, ln_424, ln_425, ln_426, ln_427, ln_428, ln_429, ln_430, ln_431, ln_432, ln_433, ln_434, ln_435, ln_441, ln_447, ln_453, ln_454, ln_455, ln_456, ln_457, ln_458, ln_459, ln_460, ln_461, ln_462, ln_463, ln_464, ln_465, ln_466, ln_467, ln_468, ln_469, ln_470, ln_471, ln_472, ln_473, ln_474, ln_475, ln_476, ln_477, ln_478, ln_479, ln_480, ln_481, ln_482, ln_483, z_0, z_1, bI_01, ite_bI, bI_t, bI_f, e_0, e_1, v_0, v_1, v_2, v_3, c_0, c_1, c_2, c_3, l_04, l_14, l_24, l_34, l_44, a_01, a_11, a_21, a_31, b_06, b_03, b_04, b_05, b_02, b_ft, rng_f, q4_0, q4_1, q4_2, q4_3, q4_q, Int32.add_zero, Nat.add_zero, Bool.false_eq_true, kd_REGS0, kd_BOOK_noted0, kd_IREGS0, kd_IBOOK_noted0, kdN, kdS, kd_SUMS0, kd_TERMS0, kd_FACT0, isK_i, isK_l, b_0y, b_0z, b_i0, Nat.reduceLeDiff, kd_ROW, ln_ROW, tl4, e4n, ↓m_in, ↓m_reg, ↓m_row, ↓m_isS2, ↓m_isN2, ↓k_reg, ↓k_row, ↓k_hasPart, ↓k_shas, ↓k_has, ↓q_become, ↓q_becomeQ, ↓q_prod, ↓q_sum, ↓q_conj, ↓q_sq, ↓q_fit, ↓q_at, ↓q_right, ↓q_like, hr, ↓kb_find_f hc kr hz bz h1, ↓mb_find_f hm hr6 hz bz2 (fun j hj => (bq j (by omega)).trans (h1 j hj)), m2_lt, m1_lt]
    exact OK_i rfl h
