/-! case counted: odd squares -/
def osq : Nat → Nat → Nat → Bool
  | 0, _, _ => false
  | k + 1, a, m => if m < a * a then false else if a * a = m then true else osq k (a + 2) m
theorem osq_s {k a m : Nat} : osq (k + 1) a m = if m < a * a then false else if a * a = m then true else osq k (a + 2) m := rfl
set_option maxRecDepth 100000 in
theorem os_l {d : Nat} {I : Nat → Nat → Int32} {L : Nat → Nat → Int64} {P : Nat → Nat → Option Nat} {n s : Nat} {Q : Qm} {m : Nat} (hm : m ≤ 1000) : ∀ k a, 2 * k + a = 33 → WP (Call d) (kod 111) (n, s) (endQ n s Q) 2 [.int (nI m), .int (nI a)] [] (I, L, P, n, s) = Q (some (.int (bI (osq k a m)))) (I, L, P, n, s)
  | 0, a, e => by
    have e2 : a = 33 := by omega
    subst e2
    have c : (nI m < nI (33 * 33)) = True := tl (by omega) (by decide)
    rw [x111_2]
    simp (disch := first | assumption | omega | decide | (refine kdN ?_; omega) | (refine kdS ?_; omega) | (refine kd_REGS0 ?_; omega) | (refine kd_BOOK_noted0 ?_; omega) | (refine kd_IREGS0 ?_; omega) | (refine kd_IBOOK_noted0 ?_; omega) | (refine kd_SUMS0 ?_; omega) | (refine kd_TERMS0 ?_; omega) | (refine kd_FACT0 ?_; omega) | (simp (disch := omega) only [tw])) only [↓x111_0, ↓x111_1, ↓x111_3, ↓x111_4, ↓x111_5, ↓x111_6, ↓x111_9, ↓x111_10, ↓x111_13, ↓x111_16, ↓x111_17, ↓x111_18, ↓x111_19, ↓x111_20, ↓x111_23, ↓x111_24, ↓x111_25, ↓x111_28, ↓x111_31, ↓x111_32, evl_e, ↓endQ_e, ↓gI_0, ↓gL_0, ↓gR_0, ↓gI_s, ↓gL_s, ↓gR_s, ↓pI_i, ↓pL_l, ↓pR_r, ↓p1_i, ↓p1_r, ↓pE_e, ↓pN_z, ↓pN_1, ↓pN_2, ↓pN_3, ↓pN_4, ↓pN_5, ↓pN_6, ↓rl_0, ↓rl_1, ↓rl_2, ↓rl_3, ↓rl_4, ↓hdR_r, ↓hdO_r, va_rf_s, sL1_0, sL1_ss, sL1_1i, sL1_1r, sL1_1n, sL1_1l, sL2_0, sL2_ss, sL2_1i, sL2_1r, sL2_1n, sL2_1l, List.getElem?_cons_zero, List.getElem?_cons_succ, Option.toList_some, Option.toList_none, List.cons_append, List.nil_append, Nat.reduceAdd, true_and, and_true, and_self, wA_s, wA_w, ↓reduceIte, ite_self, true_or, or_true, tv, tc, tl, tg, t0, tz, tw, tu, tup, tuL, nI_add, pk_mul, upd_s, tup_s, tuL_s, nI_0, i1, i2, i3, i4, nm1, c]
    rfl
  | k + 1, a, e => by
    have ha : a ≤ 31 := by omega
    have hb : a * a ≤ 31 * 31 := Nat.mul_le_mul ha ha
    have c9 : ((1000 : Int32) < nI a) = False := tg (a := 1000) (b := a) (by omega) (by decide)
    rw [osq_s, x111_2]
    by_cases c : m < a * a
    · have c1 : (nI m < nI (a * a)) = True := tl c (by omega)
      simp (disch := first | assumption | omega | decide | (refine kdN ?_; omega) | (refine kdS ?_; omega) | (refine kd_REGS0 ?_; omega) | (refine kd_BOOK_noted0 ?_; omega) | (refine kd_IREGS0 ?_; omega) | (refine kd_IBOOK_noted0 ?_; omega) | (refine kd_SUMS0 ?_; omega) | (refine kd_TERMS0 ?_; omega) | (refine kd_FACT0 ?_; omega) | (simp (disch := omega) only [tw])) only [↓x111_0, ↓x111_1, ↓x111_3, ↓x111_4, ↓x111_5, ↓x111_6, ↓x111_9, ↓x111_10, ↓x111_13, ↓x111_16, ↓x111_17, ↓x111_18, ↓x111_19, ↓x111_20, ↓x111_23, ↓x111_24, ↓x111_25, ↓x111_28, ↓x111_31, ↓x111_32, evl_e, ↓endQ_e, ↓gI_0, ↓gL_0, ↓gR_0, ↓gI_s, ↓gL_s, ↓gR_s, ↓pI_i, ↓pL_l, ↓pR_r, ↓p1_i, ↓p1_r, ↓pE_e, ↓pN_z, ↓pN_1, ↓pN_2, ↓pN_3, ↓pN_4, ↓pN_5, ↓pN_6, ↓rl_0, ↓rl_1, ↓rl_2, ↓rl_3, ↓rl_4, ↓hdR_r, ↓hdO_r, va_rf_s, sL1_0, sL1_ss, sL1_1i, sL1_1r, sL1_1n, sL1_1l, sL2_0, sL2_ss, sL2_1i, sL2_1r, sL2_1n, sL2_1l, List.getElem?_cons_zero, List.getElem?_cons_succ, Option.toList_some, Option.toList_none, List.cons_append, List.nil_append, Nat.reduceAdd, true_and, and_true, and_self, wA_s, wA_w, ↓reduceIte, ite_self, true_or, or_true, tv, tc, tl, tg, t0, tz, tw, tu, tup, tuL, nI_add, pk_mul, upd_s, tup_s, tuL_s, nI_0, i1, i2, i3, i4, nm1, c1, c]
      rfl
    · have c1 : (nI m < nI (a * a)) = False := tg (by omega) (by omega)
      by_cases c2 : a * a = m
      · have c3 : (nI (a * a) = nI m) = True := eq_true (by rw [c2])
        simp (disch := first | assumption | omega | decide | (refine kdN ?_; omega) | (refine kdS ?_; omega) | (refine kd_REGS0 ?_; omega) | (refine kd_BOOK_noted0 ?_; omega) | (refine kd_IREGS0 ?_; omega) | (refine kd_IBOOK_noted0 ?_; omega) | (refine kd_SUMS0 ?_; omega) | (refine kd_TERMS0 ?_; omega) | (refine kd_FACT0 ?_; omega) | (simp (disch := omega) only [tw])) only [↓x111_0, ↓x111_1, ↓x111_3, ↓x111_4, ↓x111_5, ↓x111_6, ↓x111_9, ↓x111_10, ↓x111_13, ↓x111_16, ↓x111_17, ↓x111_18, ↓x111_19, ↓x111_20, ↓x111_23, ↓x111_24, ↓x111_25, ↓x111_28, ↓x111_31, ↓x111_32, evl_e, ↓endQ_e, ↓gI_0, ↓gL_0, ↓gR_0, ↓gI_s, ↓gL_s, ↓gR_s, ↓pI_i, ↓pL_l, ↓pR_r, ↓p1_i, ↓p1_r, ↓pE_e, ↓pN_z, ↓pN_1, ↓pN_2, ↓pN_3, ↓pN_4, ↓pN_5, ↓pN_6, ↓rl_0, ↓rl_1, ↓rl_2, ↓rl_3, ↓rl_4, ↓hdR_r, ↓hdO_r, va_rf_s, sL1_0, sL1_ss, sL1_1i, sL1_1r, sL1_1n, sL1_1l, sL2_0, sL2_ss, sL2_1i, sL2_1r, sL2_1n, sL2_1l, List.getElem?_cons_zero, List.getElem?_cons_succ, Option.toList_some, Option.toList_none, List.cons_append, List.nil_append, Nat.reduceAdd, true_and, and_true, and_self, wA_s, wA_w, ↓reduceIte, ite_self, true_or, or_true, tv, tc, tl, tg, t0, tz, tw, tu, tup, tuL, nI_add, pk_mul, upd_s, tup_s, tuL_s, nI_0, i1, i2, i3, i4, nm1, c1, c3, c, c2, c9]
        rw [if_neg (Nat.lt_irrefl m)]
        rfl
      · have c3 : (nI (a * a) = nI m) = False := eq_false (fun q => c2 ((nI_eq (by omega) (by omega)).mp q))
        simp (disch := first | assumption | omega | decide | (refine kdN ?_; omega) | (refine kdS ?_; omega) | (refine kd_REGS0 ?_; omega) | (refine kd_BOOK_noted0 ?_; omega) | (refine kd_IREGS0 ?_; omega) | (refine kd_IBOOK_noted0 ?_; omega) | (refine kd_SUMS0 ?_; omega) | (refine kd_TERMS0 ?_; omega) | (refine kd_FACT0 ?_; omega) | (simp (disch := omega) only [tw])) only [↓x111_0, ↓x111_1, ↓x111_3, ↓x111_4, ↓x111_5, ↓x111_6, ↓x111_9, ↓x111_10, ↓x111_13, ↓x111_16, ↓x111_17, ↓x111_18, ↓x111_19, ↓x111_20, ↓x111_23, ↓x111_24, ↓x111_25, ↓x111_28, ↓x111_31, ↓x111_32, evl_e, ↓endQ_e, ↓gI_0, ↓gL_0, ↓gR_0, ↓gI_s, ↓gL_s, ↓gR_s, ↓pI_i, ↓pL_l, ↓pR_r, ↓p1_i, ↓p1_r, ↓pE_e, ↓pN_z, ↓pN_1, ↓pN_2, ↓pN_3, ↓pN_4, ↓pN_5, ↓pN_6, ↓rl_0, ↓rl_1, ↓rl_2, ↓rl_3, ↓rl_4, ↓hdR_r, ↓hdO_r, va_rf_s, sL1_0, sL1_ss, sL1_1i, sL1_1r, sL1_1n, sL1_1l, sL2_0, sL2_ss, sL2_1i, sL2_1r, sL2_1n, sL2_1l, List.getElem?_cons_zero, List.getElem?_cons_succ, Option.toList_some, Option.toList_none, List.cons_append, List.nil_append, Nat.reduceAdd, true_and, and_true, and_self, wA_s, wA_w, ↓reduceIte, ite_self, true_or, or_true, tv, tc, tl, tg, t0, tz, tw, tu, tup, tuL, nI_add, pk_mul, upd_s, tup_s, tuL_s, nI_0, i1, i2, i3, i4, nm1, c1, c3, c, c2, c9]
        exact os_l hm k (a + 2) (by omega)
set_option maxRecDepth 100000 in
theorem os_y {d : Nat} {I : Nat → Nat → Int32} {L : Nat → Nat → Int64} {P : Nat → Nat → Option Nat} {n s : Nat} {Q : Qm} {m : Nat} (hm : m ≤ 1000) : Call (d + 1) 111 [.int (nI m)] (I, L, P, n, s) Q = Q (some (.int (bI (osq 16 1 m)))) (I, L, P, n, s) := by
  simp (disch := first | assumption | omega | decide | (refine kdN ?_; omega) | (refine kdS ?_; omega) | (refine kd_REGS0 ?_; omega) | (refine kd_BOOK_noted0 ?_; omega) | (refine kd_IREGS0 ?_; omega) | (refine kd_IBOOK_noted0 ?_; omega) | (refine kd_SUMS0 ?_; omega) | (refine kd_TERMS0 ?_; omega) | (refine kd_FACT0 ?_; omega) | (simp (disch := omega) only [tw])) only [↓c111, ↓x111_0, ↓x111_1, ↓x111_3, ↓x111_4, ↓x111_5, ↓x111_6, ↓x111_9, ↓x111_10, ↓x111_13, ↓x111_16, ↓x111_17, ↓x111_18, ↓x111_19, ↓x111_20, ↓x111_23, ↓x111_24, ↓x111_25, ↓x111_28, ↓x111_31, ↓x111_32, evl_e, ↓endQ_e, ↓gI_0, ↓gL_0, ↓gR_0, ↓gI_s, ↓gL_s, ↓gR_s, ↓pI_i, ↓pL_l, ↓pR_r, ↓p1_i, ↓p1_r, ↓pE_e, ↓pN_z, ↓pN_1, ↓pN_2, ↓pN_3, ↓pN_4, ↓pN_5, ↓pN_6, ↓rl_0, ↓rl_1, ↓rl_2, ↓rl_3, ↓rl_4, ↓hdR_r, ↓hdO_r, va_rf_s, sL1_0, sL1_ss, sL1_1i, sL1_1r, sL1_1n, sL1_1l, sL2_0, sL2_ss, sL2_1i, sL2_1r, sL2_1n, sL2_1l, List.getElem?_cons_zero, List.getElem?_cons_succ, Option.toList_some, Option.toList_none, List.cons_append, List.nil_append, Nat.reduceAdd, true_and, and_true, and_self, wA_s, wA_w, ↓reduceIte, ite_self, true_or, or_true, tv, tc, tl, tg, t0, tz, tw, tu, tup, tuL, nI_add, pk_mul, upd_s, tup_s, tuL_s, nI_0, i1, i2, i3, i4, nm1]
  exact os_l hm 16 1 rfl
set_option maxRecDepth 100000 in
theorem os_n {d : Nat} {I : Nat → Nat → Int32} {L : Nat → Nat → Int64} {P : Nat → Nat → Option Nat} {n s : Nat} {Q : Qm} {v : Int32} (h : v < 1) : Call (d + 1) 111 [.int v] (I, L, P, n, s) Q = Q (some (.int 0)) (I, L, P, n, s) := by
  have o : (1 : Int32) * 1 = 1 := by decide
  simp (disch := first | assumption | omega | decide | (refine kdN ?_; omega) | (refine kdS ?_; omega) | (refine kd_REGS0 ?_; omega) | (refine kd_BOOK_noted0 ?_; omega) | (refine kd_IREGS0 ?_; omega) | (refine kd_IBOOK_noted0 ?_; omega) | (refine kd_SUMS0 ?_; omega) | (refine kd_TERMS0 ?_; omega) | (refine kd_FACT0 ?_; omega) | (simp (disch := omega) only [tw])) only [↓c111, ↓x111_0, ↓x111_1, ↓x111_2, ↓x111_3, ↓x111_4, ↓x111_5, ↓x111_6, ↓x111_9, ↓x111_10, ↓x111_13, ↓x111_16, ↓x111_17, ↓x111_18, ↓x111_19, ↓x111_20, ↓x111_23, ↓x111_24, ↓x111_25, ↓x111_28, ↓x111_31, ↓x111_32, evl_e, ↓endQ_e, ↓gI_0, ↓gL_0, ↓gR_0, ↓gI_s, ↓gL_s, ↓gR_s, ↓pI_i, ↓pL_l, ↓pR_r, ↓p1_i, ↓p1_r, ↓pE_e, ↓pN_z, ↓pN_1, ↓pN_2, ↓pN_3, ↓pN_4, ↓pN_5, ↓pN_6, ↓rl_0, ↓rl_1, ↓rl_2, ↓rl_3, ↓rl_4, ↓hdR_r, ↓hdO_r, va_rf_s, sL1_0, sL1_ss, sL1_1i, sL1_1r, sL1_1n, sL1_1l, sL2_0, sL2_ss, sL2_1i, sL2_1r, sL2_1n, sL2_1l, List.getElem?_cons_zero, List.getElem?_cons_succ, Option.toList_some, Option.toList_none, List.cons_append, List.nil_append, Nat.reduceAdd, true_and, and_true, and_self, wA_s, wA_w, ↓reduceIte, ite_self, true_or, or_true, tv, tc, tl, tg, t0, tz, tw, tu, tup, tuL, nI_add, pk_mul, upd_s, tup_s, tuL_s, nI_0, i1, i2, i3, i4, nm1, o, h]
/-- v less T is an odd square -/
def hit (v T : Nat) : Bool := if T < v then osq 16 1 (v - T) else false
theorem nI_ofI {a : Nat} : nI a = Int32.ofInt a := Int32.ofInt_eq_ofNat.symm
set_option maxRecDepth 100000 in
theorem os_h {d : Nat} {I : Nat → Nat → Int32} {L : Nat → Nat → Int64} {P : Nat → Nat → Option Nat} {n s : Nat} {Q : Qm} {v T : Nat} (hv : v ≤ 1000) (hT : T ≤ 20000) : Call (d + 1) 111 [.int (nI v - nI T)] (I, L, P, n, s) Q = Q (some (.int (bI (hit v T)))) (I, L, P, n, s) := by
  unfold hit
  by_cases c : T < v
  · have e : nI v - nI T = nI (v - T) := by
      rw [nI_ofI, nI_ofI, nI_ofI, ← Int32.ofInt_sub, Int.ofNat_sub (by omega)]
    rw [e, if_pos c]
    exact os_y (by omega)
  · have e : nI v - nI T < 1 := by
      rw [nI_ofI, nI_ofI, ← Int32.ofInt_sub, Int32.lt_iff_toInt_lt, Int32.toInt_ofInt_of_le (by omega) (by omega)]
      have e0 : (1 : Int32).toInt = 1 := rfl
      omega
    rw [if_neg c]
    exact os_n e
def sq5 (i : Nat) : Nat := if i < 5 then (5 - i) * (5 - i) else (i - 5) * (i - 5)
def m5 (i : Nat) : Int32 := nI i + (-5)
theorem sq5_e : ∀ i, i < 11 → m5 i * m5 i = nI (sq5 i) := by decide
theorem sq5_b : ∀ i, i < 11 → sq5 i ≤ 25 := by decide
theorem m5_l : ∀ i, i < 11 → (5 < m5 i) = False := by decide
theorem m5_11 : (5 < m5 11) = True := by decide
theorem m5_i : ∀ i, i < 11 → m5 i + 1 = m5 (i + 1) := by decide
def cD (v q B : Nat) : Nat → Nat → Nat
  | 0, _ => 0
  | k + 1, j => (if hit v ((B + sq5 j) * q * q) then 1 else 0) + cD v q B k (j + 1)
/-- the squares of one turn, as numbers -/
theorem pk_B {A j q : Nat} (hj : j < 11) : (nI A + m5 j * m5 j) * nI q * nI q = nI ((A + sq5 j) * q * q) := by
  rw [sq5_e j hj, nI_add, pk_mul, pk_mul]
