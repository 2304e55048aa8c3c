/-! case bound: powers and roots -/
def pwB (r l : Int64) : Nat → Int64 → Bool
  | 0, _ => true
  | k + 1, v => if v ≤ l / r then pwB r l k (v * r) else false
def pwV (r : Int64) : Nat → Int64 → Int64
  | 0, v => v
  | k + 1, v => pwV r k (v * r)
theorem pwB_s {r l v : Int64} {k : Nat} : pwB r l (k + 1) v = if v ≤ l / r then pwB r l k (v * r) else false := rfl
theorem pwV_s {r v : Int64} {k : Nat} : pwV r (k + 1) v = pwV r k (v * r) := rfl
theorem pwV_n {r : Nat} : ∀ k v, pwV (Int64.ofNat r) k (Int64.ofNat v) = Int64.ofNat (v * r ^ k)
  | 0, v => by rw [Nat.pow_zero, Nat.mul_one]; rfl
  | k + 1, v => by rw [pwV_s, ← Int64.ofNat_mul, pwV_n k, Nat.pow_succ, Nat.mul_comm (r ^ k) r, Nat.mul_assoc]
theorem pwB_n {r l : Nat} (hr : 0 < r) (hr2 : r < 2 ^ 63) (hl : l < 2 ^ 63) : ∀ k v, v ≤ l → pwB (Int64.ofNat r) (Int64.ofNat l) k (Int64.ofNat v) = true → v * r ^ k ≤ l
  | 0, v, hv, _ => by rw [Nat.pow_zero, Nat.mul_one]; exact hv
  | k + 1, v, hv, h => by
    rw [pwB_s, ← Int64.ofNat_div hl hr2, ← Int64.ofNat_mul] at h
    by_cases c : Int64.ofNat v ≤ Int64.ofNat (l / r)
    · rw [if_pos c] at h
      rw [Int64.ofNat_le_iff_le (by omega) (Nat.lt_of_le_of_lt (Nat.div_le_self l r) hl), Nat.le_div_iff_mul_le hr] at c
      have := pwB_n hr hr2 hl k (v * r) c h
      rw [Nat.pow_succ, Nat.mul_comm (r ^ k) r, ← Nat.mul_assoc]
      exact this
    · rw [if_neg c] at h
      exact absurd h (by decide)
set_option maxRecDepth 100000 in
theorem bo_pl {d : Nat} {I : Nat → Nat → Int32} {L : Nat → Nat → Int64} {P : Nat → Nat → Option Nat} {n s : Nat} {Q : Qm} {r l : Int64} {nn : Nat} (hn : nn ≤ 12) (hr : ¬ r = 0) : ∀ k i v, k + i = nn → WP (Call d) (kod 115) (n, s) (endQ n s Q) 14 [.long r, .null, .int (nI nn), .long l, .null, .long v, .null, .int (nI i)] [] (I, L, P, n, s) = Q (some (.int (bI (pwB r l k v)))) (I, L, P, n, s)
  | 0, i, v, e => by
    have e2 : i = nn := by omega
    subst e2
    rw [x115_14]
    simp (disch := first | assumption | omega | decide | (refine kdN ?_; omega) | (refine kdS ?_; omega) | (refine kd_REGS0 ?_; omega) | (refine kd_BOOK_noted0 ?_; omega) | (refine kd_IREGS0 ?_; omega) | (refine kd_IBOOK_noted0 ?_; omega) | (refine kd_SUMS0 ?_; omega) | (refine kd_TERMS0 ?_; omega) | (refine kd_FACT0 ?_; omega) | (simp (disch := omega) only [tw])) only [↓x115_0, ↓x115_1, ↓x115_2, ↓x115_3, ↓x115_6, ↓x115_7, ↓x115_8, ↓x115_9, ↓x115_11, ↓x115_12, ↓x115_16, ↓x115_17, ↓x115_20, ↓x115_22, ↓x115_23, ↓x115_24, ↓x115_25, ↓x115_26, ↓x115_29, ↓x115_30, ↓x115_31, ↓x115_33, ↓x115_34, ↓x115_35, ↓x115_37, ↓x115_40, ↓x115_43, ↓x115_44, evl_e, ↓endQ_e, ↓gI_0, ↓gL_0, ↓gR_0, ↓gI_s, ↓gL_s, ↓gR_s, ↓pI_i, ↓pL_l, ↓pR_r, ↓p1_i, ↓p1_r, ↓pE_e, ↓pN_z, ↓pN_1, ↓pN_2, ↓pN_3, ↓pN_4, ↓pN_5, ↓pN_6, ↓rl_0, ↓rl_1, ↓rl_2, ↓rl_3, ↓rl_4, ↓hdR_r, ↓hdO_r, va_rf_s, sL1_0, sL1_ss, sL1_1i, sL1_1r, sL1_1n, sL1_1l, sL2_0, sL2_ss, sL2_1i, sL2_1r, sL2_1n, sL2_1l, List.getElem?_cons_zero, List.getElem?_cons_succ, Option.toList_some, Option.toList_none, List.cons_append, List.nil_append, Nat.reduceAdd, true_and, and_true, and_self, wA_s, wA_w, ↓reduceIte, ite_self, true_or, or_true, tv, tc, tl, tg, t0, tz, tw, tu, tup, tuL, nI_add, pk_mul, upd_s, tup_s, tuL_s, nI_0, i1, i2, i3, i4, nm1, Int32.lt_irrefl]
    rfl
  | k + 1, i, v, e => by
    have hi : i < nn := by omega
    rw [pwB_s, x115_14]
    by_cases c : v ≤ l / r
    · have c2 : ¬ l / r < v := Int64.not_lt.mpr c
      simp (disch := first | assumption | omega | decide | (refine kdN ?_; omega) | (refine kdS ?_; omega) | (refine kd_REGS0 ?_; omega) | (refine kd_BOOK_noted0 ?_; omega) | (refine kd_IREGS0 ?_; omega) | (refine kd_IBOOK_noted0 ?_; omega) | (refine kd_SUMS0 ?_; omega) | (refine kd_TERMS0 ?_; omega) | (refine kd_FACT0 ?_; omega) | (simp (disch := omega) only [tw])) only [↓x115_0, ↓x115_1, ↓x115_2, ↓x115_3, ↓x115_6, ↓x115_7, ↓x115_8, ↓x115_9, ↓x115_11, ↓x115_12, ↓x115_16, ↓x115_17, ↓x115_20, ↓x115_22, ↓x115_23, ↓x115_24, ↓x115_25, ↓x115_26, ↓x115_29, ↓x115_30, ↓x115_31, ↓x115_33, ↓x115_34, ↓x115_35, ↓x115_37, ↓x115_40, ↓x115_43, ↓x115_44, evl_e, ↓endQ_e, ↓gI_0, ↓gL_0, ↓gR_0, ↓gI_s, ↓gL_s, ↓gR_s, ↓pI_i, ↓pL_l, ↓pR_r, ↓p1_i, ↓p1_r, ↓pE_e, ↓pN_z, ↓pN_1, ↓pN_2, ↓pN_3, ↓pN_4, ↓pN_5, ↓pN_6, ↓rl_0, ↓rl_1, ↓rl_2, ↓rl_3, ↓rl_4, ↓hdR_r, ↓hdO_r, va_rf_s, sL1_0, sL1_ss, sL1_1i, sL1_1r, sL1_1n, sL1_1l, sL2_0, sL2_ss, sL2_1i, sL2_1r, sL2_1n, sL2_1l, List.getElem?_cons_zero, List.getElem?_cons_succ, Option.toList_some, Option.toList_none, List.cons_append, List.nil_append, Nat.reduceAdd, true_and, and_true, and_self, wA_s, wA_w, ↓reduceIte, ite_self, true_or, or_true, tv, tc, tl, tg, t0, tz, tw, tu, tup, tuL, nI_add, pk_mul, upd_s, tup_s, tuL_s, nI_0, i1, i2, i3, i4, nm1, lg_cmp_gt, c2, c, hr, not_false_eq_true]
      exact bo_pl hn hr k (i + 1) _ (by omega)
    · have c2 : l / r < v := Int64.not_le.mp c
      simp (disch := first | assumption | omega | decide | (refine kdN ?_; omega) | (refine kdS ?_; omega) | (refine kd_REGS0 ?_; omega) | (refine kd_BOOK_noted0 ?_; omega) | (refine kd_IREGS0 ?_; omega) | (refine kd_IBOOK_noted0 ?_; omega) | (refine kd_SUMS0 ?_; omega) | (refine kd_TERMS0 ?_; omega) | (refine kd_FACT0 ?_; omega) | (simp (disch := omega) only [tw])) only [↓x115_0, ↓x115_1, ↓x115_2, ↓x115_3, ↓x115_6, ↓x115_7, ↓x115_8, ↓x115_9, ↓x115_11, ↓x115_12, ↓x115_16, ↓x115_17, ↓x115_20, ↓x115_22, ↓x115_23, ↓x115_24, ↓x115_25, ↓x115_26, ↓x115_29, ↓x115_30, ↓x115_31, ↓x115_33, ↓x115_34, ↓x115_35, ↓x115_37, ↓x115_40, ↓x115_43, ↓x115_44, evl_e, ↓endQ_e, ↓gI_0, ↓gL_0, ↓gR_0, ↓gI_s, ↓gL_s, ↓gR_s, ↓pI_i, ↓pL_l, ↓pR_r, ↓p1_i, ↓p1_r, ↓pE_e, ↓pN_z, ↓pN_1, ↓pN_2, ↓pN_3, ↓pN_4, ↓pN_5, ↓pN_6, ↓rl_0, ↓rl_1, ↓rl_2, ↓rl_3, ↓rl_4, ↓hdR_r, ↓hdO_r, va_rf_s, sL1_0, sL1_ss, sL1_1i, sL1_1r, sL1_1n, sL1_1l, sL2_0, sL2_ss, sL2_1i, sL2_1r, sL2_1n, sL2_1l, List.getElem?_cons_zero, List.getElem?_cons_succ, Option.toList_some, Option.toList_none, List.cons_append, List.nil_append, Nat.reduceAdd, true_and, and_true, and_self, wA_s, wA_w, ↓reduceIte, ite_self, true_or, or_true, tv, tc, tl, tg, t0, tz, tw, tu, tup, tuL, nI_add, pk_mul, upd_s, tup_s, tuL_s, nI_0, i1, i2, i3, i4, nm1, lg_cmp_gt, c2, c, hr, not_false_eq_true]
      rfl
set_option maxRecDepth 100000 in
theorem bo_p {d : Nat} {I : Nat → Nat → Int32} {L : Nat → Nat → Int64} {P : Nat → Nat → Option Nat} {n s : Nat} {Q : Qm} {r l : Int64} {nn : Nat} (hn : nn ≤ 12) (hr : ¬ r = 0) (hr1 : ¬ r < 1) : Call (d + 1) 115 [.long r, .int (nI nn), .long l] (I, L, P, n, s) Q = Q (some (.int (bI (pwB r l nn 1)))) (I, L, P, n, s) := by
  simp (disch := first | assumption | omega | decide | (refine kdN ?_; omega) | (refine kdS ?_; omega) | (refine kd_REGS0 ?_; omega) | (refine kd_BOOK_noted0 ?_; omega) | (refine kd_IREGS0 ?_; omega) | (refine kd_IBOOK_noted0 ?_; omega) | (refine kd_SUMS0 ?_; omega) | (refine kd_TERMS0 ?_; omega) | (refine kd_FACT0 ?_; omega) | (simp (disch := omega) only [tw])) only [↓c115, ↓x115_0, ↓x115_1, ↓x115_2, ↓x115_3, ↓x115_6, ↓x115_7, ↓x115_8, ↓x115_9, ↓x115_11, ↓x115_12, ↓x115_16, ↓x115_17, ↓x115_20, ↓x115_22, ↓x115_23, ↓x115_24, ↓x115_25, ↓x115_26, ↓x115_29, ↓x115_30, ↓x115_31, ↓x115_33, ↓x115_34, ↓x115_35, ↓x115_37, ↓x115_40, ↓x115_43, ↓x115_44, evl_e, ↓endQ_e, ↓gI_0, ↓gL_0, ↓gR_0, ↓gI_s, ↓gL_s, ↓gR_s, ↓pI_i, ↓pL_l, ↓pR_r, ↓p1_i, ↓p1_r, ↓pE_e, ↓pN_z, ↓pN_1, ↓pN_2, ↓pN_3, ↓pN_4, ↓pN_5, ↓pN_6, ↓rl_0, ↓rl_1, ↓rl_2, ↓rl_3, ↓rl_4, ↓hdR_r, ↓hdO_r, va_rf_s, sL1_0, sL1_ss, sL1_1i, sL1_1r, sL1_1n, sL1_1l, sL2_0, sL2_ss, sL2_1i, sL2_1r, sL2_1n, sL2_1l, List.getElem?_cons_zero, List.getElem?_cons_succ, Option.toList_some, Option.toList_none, List.cons_append, List.nil_append, Nat.reduceAdd, true_and, and_true, and_self, wA_s, wA_w, ↓reduceIte, ite_self, true_or, or_true, tv, tc, tl, tg, t0, tz, tw, tu, tup, tuL, nI_add, pk_mul, upd_s, tup_s, tuL_s, nI_0, i1, i2, i3, i4, nm1, lg_cmp_lt, hr1]
  exact bo_pl hn hr nn 0 1 rfl
set_option maxRecDepth 100000 in
theorem bo_ql {d : Nat} {I : Nat → Nat → Int32} {L : Nat → Nat → Int64} {P : Nat → Nat → Option Nat} {n s : Nat} {Q : Qm} {r l : Int64} {nn : Nat} (hn : nn ≤ 12) (hr : ¬ r = 0) : ∀ k i v, k + i = nn → (pwB r l k v = true → pwV r k v ≤ l) → WP (Call d) (kod 179) (n, s) (endQ n s Q) 6 [.long r, .null, .int (nI nn), .long l, .null, .long v, .null, .int (nI i)] [] (I, L, P, n, s) = Q (some (.int (bI (pwB r l k v)))) (I, L, P, n, s)
  | 0, i, v, e, q => by
    have e2 : i = nn := by omega
    subst e2
    have q2 : ¬ l < v := Int64.not_lt.mpr (q rfl)
    rw [x179_6]
    simp (disch := first | assumption | omega | decide | (refine kdN ?_; omega) | (refine kdS ?_; omega) | (refine kd_REGS0 ?_; omega) | (refine kd_BOOK_noted0 ?_; omega) | (refine kd_IREGS0 ?_; omega) | (refine kd_IBOOK_noted0 ?_; omega) | (refine kd_SUMS0 ?_; omega) | (refine kd_TERMS0 ?_; omega) | (refine kd_FACT0 ?_; omega) | (simp (disch := omega) only [tw])) only [↓x179_0, ↓x179_1, ↓x179_3, ↓x179_4, ↓x179_8, ↓x179_9, ↓x179_12, ↓x179_14, ↓x179_15, ↓x179_16, ↓x179_17, ↓x179_18, ↓x179_21, ↓x179_22, ↓x179_23, ↓x179_25, ↓x179_26, ↓x179_27, ↓x179_29, ↓x179_32, ↓x179_35, ↓x179_37, ↓x179_38, ↓x179_39, ↓x179_42, ↓x179_43, ↓x179_46, ↓x179_47, evl_e, ↓endQ_e, ↓gI_0, ↓gL_0, ↓gR_0, ↓gI_s, ↓gL_s, ↓gR_s, ↓pI_i, ↓pL_l, ↓pR_r, ↓p1_i, ↓p1_r, ↓pE_e, ↓pN_z, ↓pN_1, ↓pN_2, ↓pN_3, ↓pN_4, ↓pN_5, ↓pN_6, ↓rl_0, ↓rl_1, ↓rl_2, ↓rl_3, ↓rl_4, ↓hdR_r, ↓hdO_r, va_rf_s, sL1_0, sL1_ss, sL1_1i, sL1_1r, sL1_1n, sL1_1l, sL2_0, sL2_ss, sL2_1i, sL2_1r, sL2_1n, sL2_1l, List.getElem?_cons_zero, List.getElem?_cons_succ, Option.toList_some, Option.toList_none, List.cons_append, List.nil_append, Nat.reduceAdd, true_and, and_true, and_self, wA_s, wA_w, ↓reduceIte, ite_self, true_or, or_true, tv, tc, tl, tg, t0, tz, tw, tu, tup, tuL, nI_add, pk_mul, upd_s, tup_s, tuL_s, nI_0, i1, i2, i3, i4, nm1, Int32.lt_irrefl, lg_cmp_gt, q2]
    rfl
  | k + 1, i, v, e, q => by
    have hi : i < nn := by omega
    rw [pwB_s] at q
    rw [pwB_s, x179_6]
    by_cases c : v ≤ l / r
    · rw [if_pos c] at q
      have c2 : ¬ l / r < v := Int64.not_lt.mpr c
      simp (disch := first | assumption | omega | decide | (refine kdN ?_; omega) | (refine kdS ?_; omega) | (refine kd_REGS0 ?_; omega) | (refine kd_BOOK_noted0 ?_; omega) | (refine kd_IREGS0 ?_; omega) | (refine kd_IBOOK_noted0 ?_; omega) | (refine kd_SUMS0 ?_; omega) | (refine kd_TERMS0 ?_; omega) | (refine kd_FACT0 ?_; omega) | (simp (disch := omega) only [tw])) only [↓x179_0, ↓x179_1, ↓x179_3, ↓x179_4, ↓x179_8, ↓x179_9, ↓x179_12, ↓x179_14, ↓x179_15, ↓x179_16, ↓x179_17, ↓x179_18, ↓x179_21, ↓x179_22, ↓x179_23, ↓x179_25, ↓x179_26, ↓x179_27, ↓x179_29, ↓x179_32, ↓x179_35, ↓x179_37, ↓x179_38, ↓x179_39, ↓x179_42, ↓x179_43, ↓x179_46, ↓x179_47, evl_e, ↓endQ_e, ↓gI_0, ↓gL_0, ↓gR_0, ↓gI_s, ↓gL_s, ↓gR_s, ↓pI_i, ↓pL_l, ↓pR_r, ↓p1_i, ↓p1_r, ↓pE_e, ↓pN_z, ↓pN_1, ↓pN_2, ↓pN_3, ↓pN_4, ↓pN_5, ↓pN_6, ↓rl_0, ↓rl_1, ↓rl_2, ↓rl_3, ↓rl_4, ↓hdR_r, ↓hdO_r, va_rf_s, sL1_0, sL1_ss, sL1_1i, sL1_1r, sL1_1n, sL1_1l, sL2_0, sL2_ss, sL2_1i, sL2_1r, sL2_1n, sL2_1l, List.getElem?_cons_zero, List.getElem?_cons_succ, Option.toList_some, Option.toList_none, List.cons_append, List.nil_append, Nat.reduceAdd, true_and, and_true, and_self, wA_s, wA_w, ↓reduceIte, ite_self, true_or, or_true, tv, tc, tl, tg, t0, tz, tw, tu, tup, tuL, nI_add, pk_mul, upd_s, tup_s, tuL_s, nI_0, i1, i2, i3, i4, nm1, lg_cmp_gt, c2, c, hr, not_false_eq_true]
      exact bo_ql hn hr k (i + 1) _ (by omega) q
    · have c2 : l / r < v := Int64.not_le.mp c
      simp (disch := first | assumption | omega | decide | (refine kdN ?_; omega) | (refine kdS ?_; omega) | (refine kd_REGS0 ?_; omega) | (refine kd_BOOK_noted0 ?_; omega) | (refine kd_IREGS0 ?_; omega) | (refine kd_IBOOK_noted0 ?_; omega) | (refine kd_SUMS0 ?_; omega) | (refine kd_TERMS0 ?_; omega) | (refine kd_FACT0 ?_; omega) | (simp (disch := omega) only [tw])) only [↓x179_0, ↓x179_1, ↓x179_3, ↓x179_4, ↓x179_8, ↓x179_9, ↓x179_12, ↓x179_14, ↓x179_15, ↓x179_16, ↓x179_17, ↓x179_18, ↓x179_21, ↓x179_22, ↓x179_23, ↓x179_25, ↓x179_26, ↓x179_27, ↓x179_29, ↓x179_32, ↓x179_35, ↓x179_37, ↓x179_38, ↓x179_39, ↓x179_42, ↓x179_43, ↓x179_46, ↓x179_47, evl_e, ↓endQ_e, ↓gI_0, ↓gL_0, ↓gR_0, ↓gI_s, ↓gL_s, ↓gR_s, ↓pI_i, ↓pL_l, ↓pR_r, ↓p1_i, ↓p1_r, ↓pE_e, ↓pN_z, ↓pN_1, ↓pN_2, ↓pN_3, ↓pN_4, ↓pN_5, ↓pN_6, ↓rl_0, ↓rl_1, ↓rl_2, ↓rl_3, ↓rl_4, ↓hdR_r, ↓hdO_r, va_rf_s, sL1_0, sL1_ss, sL1_1i, sL1_1r, sL1_1n, sL1_1l, sL2_0, sL2_ss, sL2_1i, sL2_1r, sL2_1n, sL2_1l, List.getElem?_cons_zero, List.getElem?_cons_succ, Option.toList_some, Option.toList_none, List.cons_append, List.nil_append, Nat.reduceAdd, true_and, and_true, and_self, wA_s, wA_w, ↓reduceIte, ite_self, true_or, or_true, tv, tc, tl, tg, t0, tz, tw, tu, tup, tuL, nI_add, pk_mul, upd_s, tup_s, tuL_s, nI_0, i1, i2, i3, i4, nm1, lg_cmp_gt, c2, c, hr, not_false_eq_true]
      rfl
set_option maxRecDepth 100000 in
theorem bo_q {d : Nat} {I : Nat → Nat → Int32} {L : Nat → Nat → Int64} {P : Nat → Nat → Option Nat} {n s : Nat} {Q : Qm} {r l : Int64} {nn : Nat} (hn : nn ≤ 12) (hr : ¬ r = 0) (q : pwB r l nn 1 = true → pwV r nn 1 ≤ l) : Call (d + 1) 179 [.long r, .int (nI nn), .long l] (I, L, P, n, s) Q = Q (some (.int (bI (pwB r l nn 1)))) (I, L, P, n, s) := by
  simp (disch := first | assumption | omega | decide | (refine kdN ?_; omega) | (refine kdS ?_; omega) | (refine kd_REGS0 ?_; omega) | (refine kd_BOOK_noted0 ?_; omega) | (refine kd_IREGS0 ?_; omega) | (refine kd_IBOOK_noted0 ?_; omega) | (refine kd_SUMS0 ?_; omega) | (refine kd_TERMS0 ?_; omega) | (refine kd_FACT0 ?_; omega) | (simp (disch := omega) only [tw])) only [↓c179, ↓x179_0, ↓x179_1, ↓x179_3, ↓x179_4, ↓x179_8, ↓x179_9, ↓x179_12, ↓x179_14, ↓x179_15, ↓x179_16, ↓x179_17, ↓x179_18, ↓x179_21, ↓x179_22, ↓x179_23, ↓x179_25, ↓x179_26, ↓x179_27, ↓x179_29, ↓x179_32, ↓x179_35, ↓x179_37, ↓x179_38, ↓x179_39, ↓x179_42, ↓x179_43, ↓x179_46, ↓x179_47, evl_e, ↓endQ_e, ↓gI_0, ↓gL_0, ↓gR_0, ↓gI_s, ↓gL_s, ↓gR_s, ↓pI_i, ↓pL_l, ↓pR_r, ↓p1_i, ↓p1_r, ↓pE_e, ↓pN_z, ↓pN_1, ↓pN_2, ↓pN_3, ↓pN_4, ↓pN_5, ↓pN_6, ↓rl_0, ↓rl_1, ↓rl_2, ↓rl_3, ↓rl_4, ↓hdR_r, ↓hdO_r, va_rf_s, sL1_0, sL1_ss, sL1_1i, sL1_1r, sL1_1n, sL1_1l, sL2_0, sL2_ss, sL2_1i, sL2_1r, sL2_1n, sL2_1l, List.getElem?_cons_zero, List.getElem?_cons_succ, Option.toList_some, Option.toList_none, List.cons_append, List.nil_append, Nat.reduceAdd, true_and, and_true, and_self, wA_s, wA_w, ↓reduceIte, ite_self, true_or, or_true, tv, tc, tl, tg, t0, tz, tw, tu, tup, tuL, nI_add, pk_mul, upd_s, tup_s, tuL_s, nI_0, i1, i2, i3, i4, nm1]
  exact bo_ql hn hr nn 0 1 rfl q
set_option maxRecDepth 100000 in
theorem bo_al {d : Nat} {I : Nat → Nat → Int32} {L : Nat → Nat → Int64} {P : Nat → Nat → Option Nat} {n s : Nat} {Q : Qm} {r : Int64} {nn : Nat} (hn : nn ≤ 12) : ∀ k i v, k + i = nn → WP (Call d) (kod 113) (n, s) (endQ n s Q) 5 [.long r, .null, .int (nI nn), .long v, .null, .int (nI i)] [] (I, L, P, n, s) = Q (some (.long (pwV r k v))) (I, L, P, n, s)
  | 0, i, v, e => by
    have e2 : i = nn := by omega
    subst e2
    rw [x113_5]
    simp (disch := first | assumption | omega | decide | (refine kdN ?_; omega) | (refine kdS ?_; omega) | (refine kd_REGS0 ?_; omega) | (refine kd_BOOK_noted0 ?_; omega) | (refine kd_IREGS0 ?_; omega) | (refine kd_IBOOK_noted0 ?_; omega) | (refine kd_SUMS0 ?_; omega) | (refine kd_TERMS0 ?_; omega) | (refine kd_FACT0 ?_; omega) | (simp (disch := omega) only [tw])) only [↓x113_0, ↓x113_1, ↓x113_2, ↓x113_3, ↓x113_7, ↓x113_8, ↓x113_11, ↓x113_12, ↓x113_13, ↓x113_14, ↓x113_15, ↓x113_18, ↓x113_21, ↓x113_22, evl_e, ↓endQ_e, ↓gI_0, ↓gL_0, ↓gR_0, ↓gI_s, ↓gL_s, ↓gR_s, ↓pI_i, ↓pL_l, ↓pR_r, ↓p1_i, ↓p1_r, ↓pE_e, ↓pN_z, ↓pN_1, ↓pN_2, ↓pN_3, ↓pN_4, ↓pN_5, ↓pN_6, ↓rl_0, ↓rl_1, ↓rl_2, ↓rl_3, ↓rl_4, ↓hdR_r, ↓hdO_r, va_rf_s, sL1_0, sL1_ss, sL1_1i, sL1_1r, sL1_1n, sL1_1l, sL2_0, sL2_ss, sL2_1i, sL2_1r, sL2_1n, sL2_1l, List.getElem?_cons_zero, List.getElem?_cons_succ, Option.toList_some, Option.toList_none, List.cons_append, List.nil_append, Nat.reduceAdd, true_and, and_true, and_self, wA_s, wA_w, ↓reduceIte, ite_self, true_or, or_true, tv, tc, tl, tg, t0, tz, tw, tu, tup, tuL, nI_add, pk_mul, upd_s, tup_s, tuL_s, nI_0, i1, i2, i3, i4, nm1, Int32.lt_irrefl]
    rfl
  | k + 1, i, v, e => by
    have hi : i < nn := by omega
    rw [pwV_s, x113_5]
    simp (disch := first | assumption | omega | decide | (refine kdN ?_; omega) | (refine kdS ?_; omega) | (refine kd_REGS0 ?_; omega) | (refine kd_BOOK_noted0 ?_; omega) | (refine kd_IREGS0 ?_; omega) | (refine kd_IBOOK_noted0 ?_; omega) | (refine kd_SUMS0 ?_; omega) | (refine kd_TERMS0 ?_; omega) | (refine kd_FACT0 ?_; omega) | (simp (disch := omega) only [tw])) only [↓x113_0, ↓x113_1, ↓x113_2, ↓x113_3, ↓x113_7, ↓x113_8, ↓x113_11, ↓x113_12, ↓x113_13, ↓x113_14, ↓x113_15, ↓x113_18, ↓x113_21, ↓x113_22, evl_e, ↓endQ_e, ↓gI_0, ↓gL_0, ↓gR_0, ↓gI_s, ↓gL_s, ↓gR_s, ↓pI_i, ↓pL_l, ↓pR_r, ↓p1_i, ↓p1_r, ↓pE_e, ↓pN_z, ↓pN_1, ↓pN_2, ↓pN_3, ↓pN_4, ↓pN_5, ↓pN_6, ↓rl_0, ↓rl_1, ↓rl_2, ↓rl_3, ↓rl_4, ↓hdR_r, ↓hdO_r, va_rf_s, sL1_0, sL1_ss, sL1_1i, sL1_1r, sL1_1n, sL1_1l, sL2_0, sL2_ss, sL2_1i, sL2_1r, sL2_1n, sL2_1l, List.getElem?_cons_zero, List.getElem?_cons_succ, Option.toList_some, Option.toList_none, List.cons_append, List.nil_append, Nat.reduceAdd, true_and, and_true, and_self, wA_s, wA_w, ↓reduceIte, ite_self, true_or, or_true, tv, tc, tl, tg, t0, tz, tw, tu, tup, tuL, nI_add, pk_mul, upd_s, tup_s, tuL_s, nI_0, i1, i2, i3, i4, nm1]
    exact bo_al hn k (i + 1) _ (by omega)
set_option maxRecDepth 100000 in
theorem bo_a {d : Nat} {I : Nat → Nat → Int32} {L : Nat → Nat → Int64} {P : Nat → Nat → Option Nat} {n s : Nat} {Q : Qm} {r : Int64} {nn : Nat} (hn : nn ≤ 12) : Call (d + 1) 113 [.long r, .int (nI nn)] (I, L, P, n, s) Q = Q (some (.long (pwV r nn 1))) (I, L, P, n, s) := by
  simp (disch := first | assumption | omega | decide | (refine kdN ?_; omega) | (refine kdS ?_; omega) | (refine kd_REGS0 ?_; omega) | (refine kd_BOOK_noted0 ?_; omega) | (refine kd_IREGS0 ?_; omega) | (refine kd_IBOOK_noted0 ?_; omega) | (refine kd_SUMS0 ?_; omega) | (refine kd_TERMS0 ?_; omega) | (refine kd_FACT0 ?_; omega) | (simp (disch := omega) only [tw])) only [↓c113, ↓x113_0, ↓x113_1, ↓x113_2, ↓x113_3, ↓x113_7, ↓x113_8, ↓x113_11, ↓x113_12, ↓x113_13, ↓x113_14, ↓x113_15, ↓x113_18, ↓x113_21, ↓x113_22, evl_e, ↓endQ_e, ↓gI_0, ↓gL_0, ↓gR_0, ↓gI_s, ↓gL_s, ↓gR_s, ↓pI_i, ↓pL_l, ↓pR_r, ↓p1_i, ↓p1_r, ↓pE_e, ↓pN_z, ↓pN_1, ↓pN_2, ↓pN_3, ↓pN_4, ↓pN_5, ↓pN_6, ↓rl_0, ↓rl_1, ↓rl_2, ↓rl_3, ↓rl_4, ↓hdR_r, ↓hdO_r, va_rf_s, sL1_0, sL1_ss, sL1_1i, sL1_1r, sL1_1n, sL1_1l, sL2_0, sL2_ss, sL2_1i, sL2_1r, sL2_1n, sL2_1l, List.getElem?_cons_zero, List.getElem?_cons_succ, Option.toList_some, Option.toList_none, List.cons_append, List.nil_append, Nat.reduceAdd, true_and, and_true, and_self, wA_s, wA_w, ↓reduceIte, ite_self, true_or, or_true, tv, tc, tl, tg, t0, tz, tw, tu, tup, tuL, nI_add, pk_mul, upd_s, tup_s, tuL_s, nI_0, i1, i2, i3, i4, nm1]
  exact bo_al hn nn 0 1 rfl
/-- R is the first whose power is not within -/
def RT (l : Int64) (nn R : Nat) : Prop := 0 < R ∧ R ≤ 1000 ∧ pwB (Int64.ofNat R) l nn 1 = false ∧ ∀ r, 0 < r → r < R → pwB (Int64.ofNat r) l nn 1 = true ∧ pwV (Int64.ofNat r) nn 1 ≤ l
theorem on_0 {r : Nat} (h : 0 < r) (h2 : r ≤ 1000) : ¬ Int64.ofNat r = 0 := fun q => by
  have e := congrArg Int64.toInt q
  rw [Int64.toInt_ofNat_of_lt (by omega)] at e
  have e0 : (0 : Int64).toInt = 0 := rfl
  omega
theorem on_1 {r : Nat} (h : 0 < r) (h2 : r ≤ 1000) : ¬ Int64.ofNat r < 1 := fun q => by
  rw [Int64.lt_iff_toInt_lt, Int64.toInt_ofNat_of_lt (by omega)] at q
  have e0 : (1 : Int64).toInt = 1 := rfl
  omega
theorem on_m {r : Nat} (h2 : r ≤ 1000) : ¬ (1000000 : Int64) < Int64.ofNat r := fun q => by
  rw [Int64.lt_iff_toInt_lt, Int64.toInt_ofNat_of_lt (by omega)] at q
  have e0 : (1000000 : Int64).toInt = 1000000 := rfl
  omega
set_option maxRecDepth 100000 in
theorem bo_rl {d : Nat} {I : Nat → Nat → Int32} {L : Nat → Nat → Int64} {P : Nat → Nat → Option Nat} {n s : Nat} {Q : Qm} {l : Int64} {nn R : Nat} (hn : nn ≤ 12) (h : RT l nn R) : ∀ k b, k + b + 1 = R → WP (Call (d + 1)) (kod 114) (n, s) (endQ n s Q) 5 [.long l, .null, .int (nI nn), .long (Int64.ofNat b), .null, .long (Int64.ofNat (b + 1)), .null] [] (I, L, P, n, s) = Q (some (.long (Int64.ofNat (R - 1)))) (I, L, P, n, s)
  | 0, b, e => by
    obtain ⟨h1, h2, h3, h4⟩ := id h
    have e2 : b + 1 = R := by omega
    have z := on_m h2
    have e3 : R - 1 = b := by omega
    have y := fun Q => bo_p (d := d) (I := I) (L := L) (P := P) (n := n) (s := s) (Q := Q) (l := l) hn (on_0 h1 h2) (on_1 h1 h2)
    rw [h3] at y
    rw [e2, e3, x114_5]
    simp (disch := first | assumption | omega | decide | (refine kdN ?_; omega) | (refine kdS ?_; omega) | (refine kd_REGS0 ?_; omega) | (refine kd_BOOK_noted0 ?_; omega) | (refine kd_IREGS0 ?_; omega) | (refine kd_IBOOK_noted0 ?_; omega) | (refine kd_SUMS0 ?_; omega) | (refine kd_TERMS0 ?_; omega) | (refine kd_FACT0 ?_; omega) | (simp (disch := omega) only [tw])) only [↓x114_0, ↓x114_1, ↓x114_2, ↓x114_3, ↓x114_7, ↓x114_10, ↓x114_11, ↓x114_14, ↓x114_16, ↓x114_17, ↓x114_18, ↓x114_21, ↓x114_24, ↓x114_26, ↓x114_27, ↓x114_29, ↓x114_30, ↓x114_31, ↓x114_33, ↓x114_36, ↓x114_37, evl_e, ↓endQ_e, ↓gI_0, ↓gL_0, ↓gR_0, ↓gI_s, ↓gL_s, ↓gR_s, ↓pI_i, ↓pL_l, ↓pR_r, ↓p1_i, ↓p1_r, ↓pE_e, ↓pN_z, ↓pN_1, ↓pN_2, ↓pN_3, ↓pN_4, ↓pN_5, ↓pN_6, ↓rl_0, ↓rl_1, ↓rl_2, ↓rl_3, ↓rl_4, ↓hdR_r, ↓hdO_r, va_rf_s, sL1_0, sL1_ss, sL1_1i, sL1_1r, sL1_1n, sL1_1l, sL2_0, sL2_ss, sL2_1i, sL2_1r, sL2_1n, sL2_1l, List.getElem?_cons_zero, List.getElem?_cons_succ, Option.toList_some, Option.toList_none, List.cons_append, List.nil_append, Nat.reduceAdd, true_and, and_true, and_self, wA_s, wA_w, ↓reduceIte, ite_self, true_or, or_true, tv, tc, tl, tg, t0, tz, tw, tu, tup, tuL, nI_add, pk_mul, upd_s, tup_s, tuL_s, nI_0, i1, i2, i3, i4, nm1, lg_cmp_gt, z, y, bI_f]
  | k + 1, b, e => by
    obtain ⟨h1, h2, h3, h4⟩ := id h
    have z := on_m (r := b + 1) (by omega)
    have y := fun Q => bo_p (d := d) (I := I) (L := L) (P := P) (n := n) (s := s) (Q := Q) (l := l) hn (on_0 (r := b + 1) (by omega) (by omega)) (on_1 (by omega) (by omega))
    rw [(h4 (b + 1) (by omega) (by omega)).1] at y
    have w : Int64.ofNat (b + 1) + 1 = Int64.ofNat (b + 1 + 1) := (Int64.ofNat_add (b + 1) 1).symm
    rw [x114_5]
    simp (disch := first | assumption | omega | decide | (refine kdN ?_; omega) | (refine kdS ?_; omega) | (refine kd_REGS0 ?_; omega) | (refine kd_BOOK_noted0 ?_; omega) | (refine kd_IREGS0 ?_; omega) | (refine kd_IBOOK_noted0 ?_; omega) | (refine kd_SUMS0 ?_; omega) | (refine kd_TERMS0 ?_; omega) | (refine kd_FACT0 ?_; omega) | (simp (disch := omega) only [tw])) only [↓x114_0, ↓x114_1, ↓x114_2, ↓x114_3, ↓x114_7, ↓x114_10, ↓x114_11, ↓x114_14, ↓x114_16, ↓x114_17, ↓x114_18, ↓x114_21, ↓x114_24, ↓x114_26, ↓x114_27, ↓x114_29, ↓x114_30, ↓x114_31, ↓x114_33, ↓x114_36, ↓x114_37, evl_e, ↓endQ_e, ↓gI_0, ↓gL_0, ↓gR_0, ↓gI_s, ↓gL_s, ↓gR_s, ↓pI_i, ↓pL_l, ↓pR_r, ↓p1_i, ↓p1_r, ↓pE_e, ↓pN_z, ↓pN_1, ↓pN_2, ↓pN_3, ↓pN_4, ↓pN_5, ↓pN_6, ↓rl_0, ↓rl_1, ↓rl_2, ↓rl_3, ↓rl_4, ↓hdR_r, ↓hdO_r, va_rf_s, sL1_0, sL1_ss, sL1_1i, sL1_1r, sL1_1n, sL1_1l, sL2_0, sL2_ss, sL2_1i, sL2_1r, sL2_1n, sL2_1l, List.getElem?_cons_zero, List.getElem?_cons_succ, Option.toList_some, Option.toList_none, List.cons_append, List.nil_append, Nat.reduceAdd, true_and, and_true, and_self, wA_s, wA_w, ↓reduceIte, ite_self, true_or, or_true, tv, tc, tl, tg, t0, tz, tw, tu, tup, tuL, nI_add, pk_mul, upd_s, tup_s, tuL_s, nI_0, i1, i2, i3, i4, nm1, lg_cmp_gt, z, y, bI_t, w]
    exact bo_rl hn h k (b + 1) (by omega)
set_option maxRecDepth 100000 in
theorem bo_r {d : Nat} {I : Nat → Nat → Int32} {L : Nat → Nat → Int64} {P : Nat → Nat → Option Nat} {n s : Nat} {Q : Qm} {l : Int64} {nn R : Nat} (hn : nn ≤ 12) (h : RT l nn R) : Call (d + 2) 114 [.long l, .int (nI nn)] (I, L, P, n, s) Q = Q (some (.long (Int64.ofNat (R - 1)))) (I, L, P, n, s) := by
  have h1 := h.1
  simp (disch := first | assumption | omega | decide | (refine kdN ?_; omega) | (refine kdS ?_; omega) | (refine kd_REGS0 ?_; omega) | (refine kd_BOOK_noted0 ?_; omega) | (refine kd_IREGS0 ?_; omega) | (refine kd_IBOOK_noted0 ?_; omega) | (refine kd_SUMS0 ?_; omega) | (refine kd_TERMS0 ?_; omega) | (refine kd_FACT0 ?_; omega) | (simp (disch := omega) only [tw])) only [↓c114, ↓x114_0, ↓x114_1, ↓x114_2, ↓x114_3, ↓x114_7, ↓x114_10, ↓x114_11, ↓x114_14, ↓x114_16, ↓x114_17, ↓x114_18, ↓x114_21, ↓x114_24, ↓x114_26, ↓x114_27, ↓x114_29, ↓x114_30, ↓x114_31, ↓x114_33, ↓x114_36, ↓x114_37, evl_e, ↓endQ_e, ↓gI_0, ↓gL_0, ↓gR_0, ↓gI_s, ↓gL_s, ↓gR_s, ↓pI_i, ↓pL_l, ↓pR_r, ↓p1_i, ↓p1_r, ↓pE_e, ↓pN_z, ↓pN_1, ↓pN_2, ↓pN_3, ↓pN_4, ↓pN_5, ↓pN_6, ↓rl_0, ↓rl_1, ↓rl_2, ↓rl_3, ↓rl_4, ↓hdR_r, ↓hdO_r, va_rf_s, sL1_0, sL1_ss, sL1_1i, sL1_1r, sL1_1n, sL1_1l, sL2_0, sL2_ss, sL2_1i, sL2_1r, sL2_1n, sL2_1l, List.getElem?_cons_zero, List.getElem?_cons_succ, Option.toList_some, Option.toList_none, List.cons_append, List.nil_append, Nat.reduceAdd, true_and, and_true, and_self, wA_s, wA_w, ↓reduceIte, ite_self, true_or, or_true, tv, tc, tl, tg, t0, tz, tw, tu, tup, tuL, nI_add, pk_mul, upd_s, tup_s, tuL_s, nI_0, i1, i2, i3, i4, nm1]
  exact bo_rl hn h (R - 1) 0 (by omega)
theorem RT_e {l : Int64} {nn : Nat} (hn : 0 < nn) (h : l < 1 ∨ ∃ z, l = Int64.ofNat z ∧ 0 < z ∧ z < 1000 ^ nn ∧ z < 2 ^ 63) : ∃ R, RT l nn R := by
  rcases h with h | ⟨z, rfl, h0, h1, h2⟩
  · refine ⟨1, by decide, by decide, ?_, fun r a b => absurd b (by omega)⟩
    obtain ⟨k, rfl⟩ : ∃ k, nn = k + 1 := ⟨nn - 1, by omega⟩
    rw [pwB_s]
    refine if_neg fun q => ?_
    have e : l / Int64.ofNat 1 = l := Int64.div_one
    rw [e] at q
    exact absurd h (Int64.not_lt.mpr q)
  · have key : ∀ r, 0 < r → r ≤ 1000 → pwB (Int64.ofNat r) (Int64.ofNat z) nn 1 = true → r ^ nn ≤ z := fun r a b c => by
      have := pwB_n a (by omega) h2 nn 1 h0 c
      rwa [Nat.one_mul] at this
    rcases first_or (p := fun i => !pwB (Int64.ofNat (i + 1)) (Int64.ofNat z) nn 1) 1000 with ⟨i, hi, p1, p2⟩ | p
    · refine ⟨i + 1, by omega, by omega, by simpa using p1, fun r a b => ?_⟩
      obtain ⟨j, rfl⟩ : ∃ j, r = j + 1 := ⟨r - 1, by omega⟩
      have c : pwB (Int64.ofNat (j + 1)) (Int64.ofNat z) nn 1 = true := by simpa using p2 j (by omega)
      refine ⟨c, ?_⟩
      have e := pwV_n (r := j + 1) nn 1
      rw [Nat.one_mul] at e
      have k2 := key (j + 1) (by omega) (by omega) c
      refine Eq.mp (congrArg (· ≤ Int64.ofNat z) e.symm) ?_
      rw [Int64.ofNat_le_iff_le (by omega) h2]
      exact k2
    · have c : pwB (Int64.ofNat 1000) (Int64.ofNat z) nn 1 = true := by simpa using p 999 (by decide)
      have := key 1000 (by decide) (by decide) c
      omega
