/-! the beginning: cells not made yet are empty; leaf constructors -/
def ZB (m : Nat) (I : Nat → Nat → Int32) (L : Nat → Nat → Int64) (P : Nat → Nat → Option Nat) : Prop := ∀ a, m ≤ a → I a = (fun _ => 0) ∧ L a = (fun _ => 0) ∧ P a = (fun _ => none)
theorem ZB_m {m k : Nat} {I : Nat → Nat → Int32} {L : Nat → Nat → Int64} {P : Nat → Nat → Option Nat} (h : ZB m I L P) (hk : m ≤ k) : ZB k I L P := fun a ha => h a (by omega)
theorem ZB_P {m b : Nat} {I : Nat → Nat → Int32} {L : Nat → Nat → Int64} {P : Nat → Nat → Option Nat} {f : Nat → Option Nat} (hb : b < m) (h : ZB m I L P) : ZB m I L (wA P b f) := fun a ha => by
  rw [tw (by omega)]
  exact h a ha
theorem ZB_I {m b : Nat} {I : Nat → Nat → Int32} {L : Nat → Nat → Int64} {P : Nat → Nat → Option Nat} {f : Nat → Int32} (hb : b < m) (h : ZB m I L P) : ZB m (wA I b f) L P := fun a ha => by
  rw [tw (by omega)]
  exact h a ha
theorem mem0_z {I : Nat → Nat → Int32} {L : Nat → Nat → Int64} {P : Nat → Nat → Option Nat} {n s k : Nat} (h : ZB n I L P) : mem0 (I, L, P, n, s) k = (I, L, P, n + 1, s + k) := by
  obtain ⟨h1, h2, h3⟩ := h n (Nat.le_refl n)
  unfold mem0
  show (wA I n (fun _ => 0), wA L n (fun _ => 0), wA P n (fun _ => none), n + 1, s + k) = _
  rw [← h1, ← h2, ← h3, wA_id, wA_id, wA_id]
def prow (b m : Nat) : Nat → Option Nat := fun j => if j < m then some (b + j) else none
theorem prow_u {b m : Nat} : va_up (prow b m) m (some (b + m)) = prow b (m + 1) := by
  funext j
  unfold va_up prow
  by_cases e : j = m
  · subst e
    rw [if_pos rfl, if_pos (by omega)]
  · rw [if_neg e]
    by_cases h : j < m
    · rw [if_pos h, if_pos (by omega)]
    · rw [if_neg h, if_neg (by omega)]
theorem prow_0 {b : Nat} : prow b 0 = fun _ => none := by
  funext j
  unfold prow
  rw [if_neg (by omega)]
theorem prow_i {b m j : Nat} (h : j < m) : prow b m j = some (b + j) := if_pos h
theorem c28 {d : Nat} {h : Mm} {Q : Qm} {x : Int32} : Call (d + 1) 28 [.int x] h Q = WP (Call d) (kod 28) (h.2.2.2.1 + (x.toNatClampNeg + 1), h.2.2.2.2 + 5 * x.toNatClampNeg) (endQ (h.2.2.2.1 + (x.toNatClampNeg + 1)) (h.2.2.2.2 + 5 * x.toNatClampNeg) Q) 0 [.int x, .null, .null] [] h := propext (and_iff_right (Nat.le_of_ble_eq_true rfl))
theorem c81 {d : Nat} {h : Mm} {Q : Qm} {o : Nat} : Call (d + 1) 81 [.ref o] h Q = WP (Call d) (kod 81) (h.2.2.2.1 + 5, h.2.2.2.2 + 1034) (endQ (h.2.2.2.1 + 5) (h.2.2.2.2 + 1034) Q) 0 [.ref o] [] h := propext (and_iff_right (Nat.le_of_ble_eq_true rfl))
theorem c0 {d : Nat} {h : Mm} {Q : Qm} {o : Nat} : Call (d + 1) 0 [.ref o] h Q = WP (Call d) (kod 0) (h.2.2.2.1 + 9, h.2.2.2.2 + 42) (endQ (h.2.2.2.1 + 9) (h.2.2.2.2 + 42) Q) 0 [.ref o] [] h := propext (and_iff_right (Nat.le_of_ble_eq_true rfl))
theorem c7 {d : Nat} {h : Mm} {Q : Qm} {o : Nat} : Call (d + 1) 7 [.ref o] h Q = WP (Call d) (kod 7) (h.2.2.2.1 + 17, h.2.2.2.2 + 75) (endQ (h.2.2.2.1 + 17) (h.2.2.2.2 + 75) Q) 0 [.ref o] [] h := propext (and_iff_right (Nat.le_of_ble_eq_true rfl))
theorem c9 {d : Nat} {h : Mm} {Q : Qm} {o : Nat} : Call (d + 1) 9 [.ref o] h Q = WP (Call d) (kod 9) (h.2.2.2.1 + 379, h.2.2.2.2 + 15380) (endQ (h.2.2.2.1 + 379) (h.2.2.2.2 + 15380) Q) 0 [.ref o] [] h := propext (and_iff_right (Nat.le_of_ble_eq_true rfl))
theorem c47 {d : Nat} {h : Mm} {Q : Qm} {o a b : Nat} : Call (d + 1) 47 [.ref o, .ref a, .ref b] h Q = WP (Call d) (kod 47) (h.2.2.2.1 + 23, h.2.2.2.2 + 173) (endQ (h.2.2.2.1 + 23) (h.2.2.2.2 + 173) Q) 0 [.ref o, .ref a, .ref b] [] h := propext (and_iff_right (Nat.le_of_ble_eq_true rfl))
theorem c70 {d : Nat} {h : Mm} {Q : Qm} {o : Nat} : Call (d + 1) 70 [.ref o] h Q = WP (Call d) (kod 70) (h.2.2.2.1 + 35, h.2.2.2.2 + 200) (endQ (h.2.2.2.1 + 35) (h.2.2.2.2 + 200) Q) 0 [.ref o] [] h := propext (and_iff_right (Nat.le_of_ble_eq_true rfl))
theorem c89 {d : Nat} {h : Mm} {Q : Qm} {o : Nat} : Call (d + 1) 89 [.ref o] h Q = WP (Call d) (kod 89) (h.2.2.2.1 + 453, h.2.2.2.2 + 17256) (endQ (h.2.2.2.1 + 453) (h.2.2.2.2 + 17256) Q) 0 [.ref o, .null, .null] [] h := propext (and_iff_right (Nat.le_of_ble_eq_true rfl))
theorem c140 {d : Nat} {h : Mm} {Q : Qm} {o : Nat} : Call (d + 1) 140 [.ref o] h Q = WP (Call d) (kod 140) (h.2.2.2.1 + 29, h.2.2.2.2 + 16458) (endQ (h.2.2.2.1 + 29) (h.2.2.2.2 + 16458) Q) 0 [.ref o] [] h := propext (and_iff_right (Nat.le_of_ble_eq_true rfl))
theorem endQ_g {I : Nat → Nat → Int32} {L : Nat → Nat → Int64} {P : Nat → Nat → Option Nat} {n s n' s' : Nat} {Q : Qm} {r : Option Value} (hn : n' = n) (hs : s' = s) : endQ n s Q r (I, L, P, n', s') = Q r (I, L, P, n', s') := by
  subst hn hs
  exact endQ_e
theorem nIc {m : Nat} (h : m < 20000) : (nI m).toNatClampNeg = m := nI_clamp (by omega)
theorem k0_9 : ((0 : Nat) < 9) = True := by decide
theorem k1_9 : ((1 : Nat) < 9) = True := by decide
theorem k2_9 : ((2 : Nat) < 9) = True := by decide
theorem k3_9 : ((3 : Nat) < 9) = True := by decide
theorem k4_9 : ((4 : Nat) < 9) = True := by decide
theorem k5_9 : ((5 : Nat) < 9) = True := by decide
theorem k6_9 : ((6 : Nat) < 9) = True := by decide
theorem k7_9 : ((7 : Nat) < 9) = True := by decide
theorem k8_9 : ((8 : Nat) < 9) = True := by decide
set_option maxRecDepth 100000 in
theorem z_fresh {d : Nat} {I : Nat → Nat → Int32} {L : Nat → Nat → Int64} {P : Nat → Nat → Option Nat} {n s : Nat} {Q : Qm} {m : Nat} (hm : m ≤ 400) (hk : kd n = 12) (hl : ln n = m) (hj : ∀ j, j < m → kd (n + 1 + j) = 3) (hz : ZB n I L P) : Call (d + 3) 28 [.int (nI m)] (I, L, P, n, s) Q = Q (some (.ref n)) (I, L, wA P n (prow (n + 1) m), n + (m + 1), s + 5 * m) := by
  have z0 : P n = fun _ => none := (hz n (Nat.le_refl n)).2.2
  have step : ∀ i, i < m → WP (Call (d + 2)) (kod 28) (n + (m + 1), s + 5 * m) (endQ (n + (m + 1)) (s + 5 * m) Q) 11 [.int (nI m), .ref n, .int (nI i)] [] (I, L, wA P n (prow (n + 1) i), n + 1 + i, s + m + 4 * i) = WP (Call (d + 2)) (kod 28) (n + (m + 1), s + 5 * m) (endQ (n + (m + 1)) (s + 5 * m) Q) 11 [.int (nI m), .ref n, .int (nI (i + 1))] [] (I, L, wA P n (prow (n + 1) (i + 1)), n + 1 + (i + 1), s + m + 4 * (i + 1)) := by
    intro i hi
    have kj := hj i hi
    have hz' : ZB (n + 1 + i) I L (wA P n (prow (n + 1) i)) := ZB_P (by omega) (ZB_m hz (by omega))
    have c1 : (n + 1 + (i + 1) ≤ n + (m + 1)) = True := eq_true (by omega)
    have c2 : (s + m + 4 * (i + 1) ≤ s + 5 * m) = True := eq_true (by omega)
    have e1 : s + m + 4 * i + 4 = s + m + 4 * (i + 1) := by omega
    have e2 : n + 1 + i + 1 = n + 1 + (i + 1) := by omega
    rw [x28_11]
    simp (disch := first | assumption | omega | decide | (refine kdN ?_; omega) | (refine kdS ?_; omega) | (refine kd_REGS0 ?_; omega) | (refine kd_BOOK_noted0 ?_; omega) | (refine kd_IREGS0 ?_; omega) | (refine kd_IBOOK_noted0 ?_; omega) | (refine kd_SUMS0 ?_; omega) | (refine kd_TERMS0 ?_; omega) | (refine kd_FACT0 ?_; omega) | (simp (disch := omega) only [tw])) only [↓x28_0, ↓x28_1, ↓x28_2, ↓x28_5, ↓x28_8, ↓x28_9, ↓x28_10, ↓x28_12, ↓x28_13, ↓x28_14, ↓x28_17, ↓x28_18, ↓x28_19, ↓x28_22, ↓x28_23, ↓x28_26, ↓x28_27, ↓x28_30, ↓x28_33, ↓x28_34, evl_e, ↓endQ_e, ↓gI_0, ↓gL_0, ↓gR_0, ↓gI_s, ↓gL_s, ↓gR_s, ↓pI_i, ↓pL_l, ↓pR_r, ↓p1_i, ↓p1_r, ↓pE_e, ↓pN_z, ↓pN_1, ↓pN_2, ↓pN_3, ↓pN_4, ↓pN_5, ↓pN_6, ↓rl_0, ↓rl_1, ↓rl_2, ↓rl_3, ↓rl_4, ↓hdR_r, ↓hdO_r, va_rf_s, sL1_0, sL1_ss, sL1_1i, sL1_1r, sL1_1n, sL1_1l, sL2_0, sL2_ss, sL2_1i, sL2_1r, sL2_1n, sL2_1l, List.getElem?_cons_zero, List.getElem?_cons_succ, Option.toList_some, Option.toList_none, List.cons_append, List.nil_append, Nat.reduceAdd, true_and, and_true, and_self, wA_s, wA_w, ↓reduceIte, ite_self, true_or, or_true, tv, tc, tl, tg, t0, tz, tw, tu, tup, tuL, nI_add, pk_mul, upd_s, tup_s, tuL_s, nI_0, i1, i2, i3, i4, nm1, hk, hl, le_12, ofN, kj, k3_9, c1, c2, mem0_z hz', c27, x27_0, x27_1, x27_4, hdO_r, prow_u, e1, e2]
  have fin := chain (fun i => WP (Call (d + 2)) (kod 28) (n + (m + 1), s + 5 * m) (endQ (n + (m + 1)) (s + 5 * m) Q) 11 [.int (nI m), .ref n, .int (nI i)] [] (I, L, wA P n (prow (n + 1) i), n + 1 + i, s + m + 4 * i)) m step 0 (Nat.zero_le _)
  have mx : (if nI m < 0 then (0 : Int32) else nI m) = nI m := by rw [if_neg (nI_pos (by omega))]
  have mx0 : (if (0 : Int32) < nI m then nI m else 0) = nI m := by
    by_cases h : (0 : Int32) < nI m
    · rw [if_pos h]
    · rw [if_neg h]
      have := (not_congr (nI_ltI (a := 0) (b := m) (by decide) (by omega))).mp h
      rw [show m = 0 by omega, nI_0]
  have c3 : (n + 1 ≤ n + (m + 1)) = True := eq_true (by omega)
  have c4 : (s + m ≤ s + 5 * m) = True := eq_true (by omega)
  have p0 : wA P n (prow (n + 1) 0) = P := by rw [prow_0, ← z0, wA_id]
  have e4 : n + 1 + m = n + (m + 1) := by omega
  have e5 : s + m + 4 * m = s + 5 * m := by omega
  rw [p0, nI_0, Nat.add_zero, Nat.mul_zero, Nat.add_zero, e4, e5] at fin
  simp (disch := first | assumption | omega | decide | (refine kdN ?_; omega) | (refine kdS ?_; omega) | (refine kd_REGS0 ?_; omega) | (refine kd_BOOK_noted0 ?_; omega) | (refine kd_IREGS0 ?_; omega) | (refine kd_IBOOK_noted0 ?_; omega) | (refine kd_SUMS0 ?_; omega) | (refine kd_TERMS0 ?_; omega) | (refine kd_FACT0 ?_; omega) | (simp (disch := omega) only [tw])) only [↓x28_0, ↓x28_1, ↓x28_2, ↓x28_5, ↓x28_8, ↓x28_9, ↓x28_10, ↓x28_12, ↓x28_13, ↓x28_14, ↓x28_17, ↓x28_18, ↓x28_19, ↓x28_22, ↓x28_23, ↓x28_26, ↓x28_27, ↓x28_30, ↓x28_33, ↓x28_34, evl_e, ↓endQ_e, ↓gI_0, ↓gL_0, ↓gR_0, ↓gI_s, ↓gL_s, ↓gR_s, ↓pI_i, ↓pL_l, ↓pR_r, ↓p1_i, ↓p1_r, ↓pE_e, ↓pN_z, ↓pN_1, ↓pN_2, ↓pN_3, ↓pN_4, ↓pN_5, ↓pN_6, ↓rl_0, ↓rl_1, ↓rl_2, ↓rl_3, ↓rl_4, ↓hdR_r, ↓hdO_r, va_rf_s, sL1_0, sL1_ss, sL1_1i, sL1_1r, sL1_1n, sL1_1l, sL2_0, sL2_ss, sL2_1i, sL2_1r, sL2_1n, sL2_1l, List.getElem?_cons_zero, List.getElem?_cons_succ, Option.toList_some, Option.toList_none, List.cons_append, List.nil_append, Nat.reduceAdd, true_and, and_true, and_self, wA_s, wA_w, ↓reduceIte, ite_self, true_or, or_true, tv, tc, tl, tg, t0, tz, tw, tu, tup, tuL, nI_add, pk_mul, upd_s, tup_s, tuL_s, nI_0, i1, i2, i3, i4, nm1, ↓c28, nIc, ↓m_max, mx, mx0, hk, hl, c3, c4, mem0_z hz, not_false_eq_true]
  refine fin.trans ?_
  rw [x28_11]
  simp (disch := first | assumption | omega | decide | (refine kdN ?_; omega) | (refine kdS ?_; omega) | (refine kd_REGS0 ?_; omega) | (refine kd_BOOK_noted0 ?_; omega) | (refine kd_IREGS0 ?_; omega) | (refine kd_IBOOK_noted0 ?_; omega) | (refine kd_SUMS0 ?_; omega) | (refine kd_TERMS0 ?_; omega) | (refine kd_FACT0 ?_; omega) | (simp (disch := omega) only [tw])) only [↓x28_0, ↓x28_1, ↓x28_2, ↓x28_5, ↓x28_8, ↓x28_9, ↓x28_10, ↓x28_12, ↓x28_13, ↓x28_14, ↓x28_17, ↓x28_18, ↓x28_19, ↓x28_22, ↓x28_23, ↓x28_26, ↓x28_27, ↓x28_30, ↓x28_33, ↓x28_34, evl_e, ↓endQ_e, ↓gI_0, ↓gL_0, ↓gR_0, ↓gI_s, ↓gL_s, ↓gR_s, ↓pI_i, ↓pL_l, ↓pR_r, ↓p1_i, ↓p1_r, ↓pE_e, ↓pN_z, ↓pN_1, ↓pN_2, ↓pN_3, ↓pN_4, ↓pN_5, ↓pN_6, ↓rl_0, ↓rl_1, ↓rl_2, ↓rl_3, ↓rl_4, ↓hdR_r, ↓hdO_r, va_rf_s, sL1_0, sL1_ss, sL1_1i, sL1_1r, sL1_1n, sL1_1l, sL2_0, sL2_ss, sL2_1i, sL2_1r, sL2_1n, sL2_1l, List.getElem?_cons_zero, List.getElem?_cons_succ, Option.toList_some, Option.toList_none, List.cons_append, List.nil_append, Nat.reduceAdd, true_and, and_true, and_self, wA_s, wA_w, ↓reduceIte, ite_self, true_or, or_true, tv, tc, tl, tg, t0, tz, tw, tu, tup, tuL, nI_add, pk_mul, upd_s, tup_s, tuL_s, nI_0, i1, i2, i3, i4, nm1, hk, hl, le_12, ofN]
