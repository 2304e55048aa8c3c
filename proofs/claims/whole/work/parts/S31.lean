/-! case read: the class's leaves -/
def ST (T : Nat → Nat) (z x : Nat) (g : Nat → Nat → Int32) (i : Nat) (I : Nat → Nat → Int32) : Prop := z ≤ 80 ∧ x < 11 ∧ (∀ j, j < z → 32 ≤ T j ∧ T j ≤ 126) ∧ I 430 10 = nI z ∧ (∀ j, j < z → I 431 j = nI (T j)) ∧ (∀ r, r < 6 → ∀ k, k < 4 → I (44 + r) k = g r k) ∧ I 51 6 = nI (sN x) ∧ (∀ s, s < sN x → ∀ k, k < 4 → I (53 + s) k = stV x s k) ∧ I 430 11 = nI i ∧ i ≤ z
/-- the place moved -/
def aT (I : Nat → Nat → Int32) (i : Nat) : Nat → Nat → Int32 := wA I 430 (upd (I 430) 11 (nI i))
theorem aT_f {I : Nat → Nat → Int32} {i : Nat} : wA I 430 (upd (I 430) 11 (nI i)) = aT I i := rfl
theorem aT_o {I : Nat → Nat → Int32} {i a : Nat} (h : ¬ a = 430) : aT I i a = I a := tw h
theorem aT_s {I : Nat → Nat → Int32} {i : Nat} : aT I i 430 11 = nI i := by unfold aT; rw [wA_s, upd_s]
theorem aT_n {I : Nat → Nat → Int32} {i k : Nat} (h : ¬ k = 11) : aT I i 430 k = I 430 k := by unfold aT; rw [wA_s, tu h]
theorem aT_a {I : Nat → Nat → Int32} {i j : Nat} : aT (aT I i) j = aT I j := by
  unfold aT
  rw [wA_s, wA_w]
  congr 1
  funext k
  unfold upd
  split <;> rfl
theorem aT_id {I : Nat → Nat → Int32} {i : Nat} (h : I 430 11 = nI i) : aT I i = I := by
  unfold aT
  have e : upd (I 430) 11 (nI i) = I 430 := by
    funext k
    unfold upd
    by_cases c : k = 11
    · subst c
      rw [if_pos rfl, h]
    · rw [if_neg c]
  rw [e, wA_id]
theorem ST_at {T : Nat → Nat} {z x : Nat} {g : Nat → Nat → Int32} {i j : Nat} {I : Nat → Nat → Int32} (h : ST T z x g i I) (hj : j ≤ z) : ST T z x g j (aT I j) := by
  obtain ⟨h1, h2, h3, h4, h5, h6, h7, h8, h9, h10⟩ := h
  have hs := sN_b x h2
  refine ⟨h1, h2, h3, ?_, ?_, fun r hr k hk => ?_, ?_, fun s hs k hk => ?_, aT_s, hj⟩
  · rw [aT_n (by decide)]; exact h4
  · rw [aT_o (by decide)]; exact h5
  · rw [aT_o (by omega)]; exact h6 r hr k hk
  · rw [aT_o (by decide)]; exact h7
  · rw [aT_o (by omega)]; exact h8 s hs k hk
def hereV (T : Nat → Nat) (z i : Nat) : Int32 := if i < z then nI (T i) else -1
theorem hv_e {T : Nat → Nat} {z i c : Nat} (hT : ∀ j, j < z → 32 ≤ T j ∧ T j ≤ 126) (hc : 0 < c) (hc2 : c < 2000) : (hereV T z i = nI c) = (chT T z i = c) := by
  unfold hereV chT
  by_cases h : i < z
  · have := hT i h
    rw [if_pos h, if_pos h]
    exact propext (nI_eq (by omega) (by omega))
  · rw [if_neg h, if_neg h]
    refine propext ⟨fun q => ?_, fun q => absurd q (by omega)⟩
    have := congrArg Int32.toInt q
    rw [nI_toInt (by omega)] at this
    have e : (-1 : Int32).toInt = -1 := rfl
    omega
set_option maxRecDepth 100000 in
theorem k_here {d : Nat} {I : Nat → Nat → Int32} {L : Nat → Nat → Int64} {P : Nat → Nat → Option Nat} {n s : Nat} {Q : Qm} {T : Nat → Nat} {z x i : Nat} {g : Nat → Nat → Int32} (hc : CP P) (h : ST T z x g i I) : Call (d + 1) 62 [.ref 430] (I, L, P, n, s) Q = Q (some (.int (hereV T z i))) (I, L, P, n, s) := by
  obtain ⟨h1, h2, h3, h4, h5, h6, h7, h8, h9, h10⟩ := h
  obtain ⟨c0_0, c0_1, c0_2, c0_3, c0_4, c0_5, c0_6, c0_7, c0_8, c0_9, c0_10, c1_0, c1_1, c8_0, c8_1, c25_0, c25_1, c33_0, c33_1, c430_0, c430_1, c430_2, c430_3, c430_4, c430_5, c430_6, c430_7, c430_8, c430_9, cA43, cA18, cA9, cA26, cA34, cA435, cA441, cA447⟩ := id hc
  unfold hereV
  by_cases c : i < z
  · have e := h5 i c
    rw [if_pos c]
    simp (disch := first | assumption | omega | decide | (refine kdN ?_; omega) | (refine kdS ?_; omega) | (refine kd_REGS0 ?_; omega) | (refine kd_BOOK_noted0 ?_; omega) | (refine kd_IREGS0 ?_; omega) | (refine kd_IBOOK_noted0 ?_; omega) | (refine kd_SUMS0 ?_; omega) | (refine kd_TERMS0 ?_; omega) | (refine kd_FACT0 ?_; omega) | (simp (disch := omega) only [tw])) only [↓c62, ↓x62_0, ↓x62_1, ↓x62_4, ↓x62_7, ↓x62_8, ↓x62_11, ↓x62_12, ↓x62_15, ↓x62_18, ↓x62_19, ↓x62_22, ↓x62_23, ↓x62_26, ↓x62_27, ↓x62_30, ↓x62_31, evl_e, ↓endQ_e, ↓gI_0, ↓gL_0, ↓gR_0, ↓gI_s, ↓gL_s, ↓gR_s, ↓pI_i, ↓pL_l, ↓pR_r, ↓p1_i, ↓p1_r, ↓pE_e, ↓pN_z, ↓pN_1, ↓pN_2, ↓pN_3, ↓pN_4, ↓pN_5, ↓pN_6, ↓rl_0, ↓rl_1, ↓rl_2, ↓rl_3, ↓rl_4, ↓hdR_r, ↓hdO_r, va_rf_s, sL1_0, sL1_ss, sL1_1i, sL1_1r, sL1_1n, sL1_1l, sL2_0, sL2_ss, sL2_1i, sL2_1r, sL2_1n, sL2_1l, List.getElem?_cons_zero, List.getElem?_cons_succ, Option.toList_some, Option.toList_none, List.cons_append, List.nil_append, Nat.reduceAdd, true_and, and_true, and_self, wA_s, wA_w, ↓reduceIte, ite_self, true_or, or_true, tv, tc, tl, tg, t0, tz, tw, tu, tup, tuL, nI_add, pk_mul, upd_s, tup_s, tuL_s, nI_0, i1, i2, i3, i4, nm1, kd_430, kd_431, ln_431, c430_2, h4, h9, e]
  · rw [if_neg c]
    simp (disch := first | assumption | omega | decide | (refine kdN ?_; omega) | (refine kdS ?_; omega) | (refine kd_REGS0 ?_; omega) | (refine kd_BOOK_noted0 ?_; omega) | (refine kd_IREGS0 ?_; omega) | (refine kd_IBOOK_noted0 ?_; omega) | (refine kd_SUMS0 ?_; omega) | (refine kd_TERMS0 ?_; omega) | (refine kd_FACT0 ?_; omega) | (simp (disch := omega) only [tw])) only [↓c62, ↓x62_0, ↓x62_1, ↓x62_4, ↓x62_7, ↓x62_8, ↓x62_11, ↓x62_12, ↓x62_15, ↓x62_18, ↓x62_19, ↓x62_22, ↓x62_23, ↓x62_26, ↓x62_27, ↓x62_30, ↓x62_31, evl_e, ↓endQ_e, ↓gI_0, ↓gL_0, ↓gR_0, ↓gI_s, ↓gL_s, ↓gR_s, ↓pI_i, ↓pL_l, ↓pR_r, ↓p1_i, ↓p1_r, ↓pE_e, ↓pN_z, ↓pN_1, ↓pN_2, ↓pN_3, ↓pN_4, ↓pN_5, ↓pN_6, ↓rl_0, ↓rl_1, ↓rl_2, ↓rl_3, ↓rl_4, ↓hdR_r, ↓hdO_r, va_rf_s, sL1_0, sL1_ss, sL1_1i, sL1_1r, sL1_1n, sL1_1l, sL2_0, sL2_ss, sL2_1i, sL2_1r, sL2_1n, sL2_1l, List.getElem?_cons_zero, List.getElem?_cons_succ, Option.toList_some, Option.toList_none, List.cons_append, List.nil_append, Nat.reduceAdd, true_and, and_true, and_self, wA_s, wA_w, ↓reduceIte, ite_self, true_or, or_true, tv, tc, tl, tg, t0, tz, tw, tu, tup, tuL, nI_add, pk_mul, upd_s, tup_s, tuL_s, nI_0, i1, i2, i3, i4, nm1, kd_430, h4, h9]
theorem hv_48 {T : Nat → Nat} {z i : Nat} (hT : ∀ j, j < z → 32 ≤ T j ∧ T j ≤ 126) : (hereV T z i < 48) = ¬ 48 ≤ chT T z i := by
  unfold hereV chT
  by_cases h : i < z
  · have := hT i h
    rw [if_pos h, if_pos h]
    have e : (nI (T i) < 48) ↔ T i < 48 := nI_ltI (b := 48) (by omega) (by decide)
    exact propext (e.trans (by omega))
  · rw [if_neg h, if_neg h]
    exact propext ⟨fun _ => by decide, fun _ => by decide⟩
theorem hv_57 {T : Nat → Nat} {z i : Nat} (hT : ∀ j, j < z → 32 ≤ T j ∧ T j ≤ 126) : (57 < hereV T z i) = ¬ chT T z i ≤ 57 := by
  unfold hereV chT
  by_cases h : i < z
  · have := hT i h
    rw [if_pos h, if_pos h]
    have e : (57 < nI (T i)) ↔ 57 < T i := nI_ltI (a := 57) (by decide) (by omega)
    exact propext (e.trans (by omega))
  · rw [if_neg h, if_neg h]
    exact propext ⟨fun q => absurd q (by decide), fun q => absurd q (by decide)⟩
set_option maxRecDepth 100000 in
theorem k_isf {d : Nat} {I : Nat → Nat → Int32} {L : Nat → Nat → Int64} {P : Nat → Nat → Option Nat} {n s : Nat} {Q : Qm} {T : Nat → Nat} {z x i : Nat} {g : Nat → Nat → Int32} (hc : CP P) (h : ST T z x g i I) : Call (d + 2) 63 [.ref 430] (I, L, P, n, s) Q = Q (some (.int (bI (fgT T z i)))) (I, L, P, n, s) := by
  have a := hv_48 (i := i) h.2.2.1
  have b := hv_57 (i := i) h.2.2.1
  unfold fgT
  by_cases c1 : 48 ≤ chT T z i <;> by_cases c2 : chT T z i ≤ 57
  all_goals simp (disch := first | assumption | omega | decide | (refine kdN ?_; omega) | (refine kdS ?_; omega) | (refine kd_REGS0 ?_; omega) | (refine kd_BOOK_noted0 ?_; omega) | (refine kd_IREGS0 ?_; omega) | (refine kd_IBOOK_noted0 ?_; omega) | (refine kd_SUMS0 ?_; omega) | (refine kd_TERMS0 ?_; omega) | (refine kd_FACT0 ?_; omega) | (simp (disch := omega) only [tw])) only [↓c63, ↓x63_0, ↓x63_1, ↓x63_4, ↓x63_6, ↓x63_9, ↓x63_10, ↓x63_13, ↓x63_15, ↓x63_18, ↓x63_19, ↓x63_22, ↓x63_23, evl_e, ↓endQ_e, ↓gI_0, ↓gL_0, ↓gR_0, ↓gI_s, ↓gL_s, ↓gR_s, ↓pI_i, ↓pL_l, ↓pR_r, ↓p1_i, ↓p1_r, ↓pE_e, ↓pN_z, ↓pN_1, ↓pN_2, ↓pN_3, ↓pN_4, ↓pN_5, ↓pN_6, ↓rl_0, ↓rl_1, ↓rl_2, ↓rl_3, ↓rl_4, ↓hdR_r, ↓hdO_r, va_rf_s, sL1_0, sL1_ss, sL1_1i, sL1_1r, sL1_1n, sL1_1l, sL2_0, sL2_ss, sL2_1i, sL2_1r, sL2_1n, sL2_1l, List.getElem?_cons_zero, List.getElem?_cons_succ, Option.toList_some, Option.toList_none, List.cons_append, List.nil_append, Nat.reduceAdd, true_and, and_true, and_self, wA_s, wA_w, ↓reduceIte, ite_self, true_or, or_true, tv, tc, tl, tg, t0, tz, tw, tu, tup, tuL, nI_add, pk_mul, upd_s, tup_s, tuL_s, nI_0, i1, i2, i3, i4, nm1, kd_430, ↓k_here hc h, a, b, c1, c2, decide_true, decide_false, Bool.and_true, Bool.and_false, bI_t, bI_f, z_0, z_1, not_true_eq_false, not_false_eq_true]
set_option maxRecDepth 100000 in
theorem k_fig {d : Nat} {I : Nat → Nat → Int32} {L : Nat → Nat → Int64} {P : Nat → Nat → Option Nat} {n s : Nat} {Q : Qm} {T : Nat → Nat} {z x i : Nat} {g : Nat → Nat → Int32} (hc : CP P) (h : ST T z x g i I) (hf : fgT T z i = true) : Call (d + 2) 64 [.ref 430] (I, L, P, n, s) Q = Q (some (.int (nI (chT T z i - 48)))) (I, L, P, n, s) := by
  have f := fg_z hf
  have e : hereV T z i - 48 = nI (chT T z i - 48) := by
    unfold hereV chT
    unfold chT at f
    rw [if_pos f.1] at f
    rw [if_pos f.1, if_pos f.1]
    exact pk_sub (b := 48) f.2.1
  simp (disch := first | assumption | omega | decide | (refine kdN ?_; omega) | (refine kdS ?_; omega) | (refine kd_REGS0 ?_; omega) | (refine kd_BOOK_noted0 ?_; omega) | (refine kd_IREGS0 ?_; omega) | (refine kd_IBOOK_noted0 ?_; omega) | (refine kd_SUMS0 ?_; omega) | (refine kd_TERMS0 ?_; omega) | (refine kd_FACT0 ?_; omega) | (simp (disch := omega) only [tw])) only [↓c64, ↓x64_0, ↓x64_1, ↓x64_4, ↓x64_6, ↓x64_7, evl_e, ↓endQ_e, ↓gI_0, ↓gL_0, ↓gR_0, ↓gI_s, ↓gL_s, ↓gR_s, ↓pI_i, ↓pL_l, ↓pR_r, ↓p1_i, ↓p1_r, ↓pE_e, ↓pN_z, ↓pN_1, ↓pN_2, ↓pN_3, ↓pN_4, ↓pN_5, ↓pN_6, ↓rl_0, ↓rl_1, ↓rl_2, ↓rl_3, ↓rl_4, ↓hdR_r, ↓hdO_r, va_rf_s, sL1_0, sL1_ss, sL1_1i, sL1_1r, sL1_1n, sL1_1l, sL2_0, sL2_ss, sL2_1i, sL2_1r, sL2_1n, sL2_1l, List.getElem?_cons_zero, List.getElem?_cons_succ, Option.toList_some, Option.toList_none, List.cons_append, List.nil_append, Nat.reduceAdd, true_and, and_true, and_self, wA_s, wA_w, ↓reduceIte, ite_self, true_or, or_true, tv, tc, tl, tg, t0, tz, tw, tu, tup, tuL, nI_add, pk_mul, upd_s, tup_s, tuL_s, nI_0, i1, i2, i3, i4, nm1, kd_430, ↓k_here hc h, e]
set_option maxRecDepth 100000 in
theorem k_fl {d : Nat} {I : Nat → Nat → Int32} {L : Nat → Nat → Int64} {P : Nat → Nat → Option Nat} {n s : Nat} {Q : Qm} {T : Nat → Nat} {z x M : Nat} {g : Nat → Nat → Int32} (hc : CP P) (hM : M ≤ 4) : ∀ m c i v I, m + c = M → ST T z x g i I → WP (Call (d + 3)) (kod 61) (n, s) (endQ n s Q) 4 [.ref 430, .int (nI M), .int (nI v), .int (nI c)] [] (I, L, P, n, s) = Q (some (.int (nI (nvT T z m i v)))) (aT I (i + ndT T z m i), L, P, n, s)
  | 0, c, i, v, I, e, h => by
    obtain rfl : c = M := by omega
    have e1 : aT I (i + ndT T z 0 i) = I := aT_id h.2.2.2.2.2.2.2.2.1
    rw [e1, x61_4]
    simp (disch := first | assumption | omega | decide | (refine kdN ?_; omega) | (refine kdS ?_; omega) | (refine kd_REGS0 ?_; omega) | (refine kd_BOOK_noted0 ?_; omega) | (refine kd_IREGS0 ?_; omega) | (refine kd_IBOOK_noted0 ?_; omega) | (refine kd_SUMS0 ?_; omega) | (refine kd_TERMS0 ?_; omega) | (refine kd_FACT0 ?_; omega) | (simp (disch := omega) only [tw])) only [↓x61_0, ↓x61_1, ↓x61_2, ↓x61_3, ↓x61_5, ↓x61_6, ↓x61_9, ↓x61_10, ↓x61_13, ↓x61_16, ↓x61_17, ↓x61_19, ↓x61_20, ↓x61_21, ↓x61_24, ↓x61_25, ↓x61_26, ↓x61_27, ↓x61_28, ↓x61_31, ↓x61_32, ↓x61_33, ↓x61_36, ↓x61_39, ↓x61_42, ↓x61_43, evl_e, ↓endQ_e, ↓gI_0, ↓gL_0, ↓gR_0, ↓gI_s, ↓gL_s, ↓gR_s, ↓pI_i, ↓pL_l, ↓pR_r, ↓p1_i, ↓p1_r, ↓pE_e, ↓pN_z, ↓pN_1, ↓pN_2, ↓pN_3, ↓pN_4, ↓pN_5, ↓pN_6, ↓rl_0, ↓rl_1, ↓rl_2, ↓rl_3, ↓rl_4, ↓hdR_r, ↓hdO_r, va_rf_s, sL1_0, sL1_ss, sL1_1i, sL1_1r, sL1_1n, sL1_1l, sL2_0, sL2_ss, sL2_1i, sL2_1r, sL2_1n, sL2_1l, List.getElem?_cons_zero, List.getElem?_cons_succ, Option.toList_some, Option.toList_none, List.cons_append, List.nil_append, Nat.reduceAdd, true_and, and_true, and_self, wA_s, wA_w, ↓reduceIte, ite_self, true_or, or_true, tv, tc, tl, tg, t0, tz, tw, tu, tup, tuL, nI_add, pk_mul, upd_s, tup_s, tuL_s, nI_0, i1, i2, i3, i4, nm1, Int32.lt_irrefl]
    rfl
  | m + 1, c, i, v, I, e, h => by
    have hcM : c < M := by omega
    have e11 := h.2.2.2.2.2.2.2.2.1
    unfold nvT ndT
    cases hf : fgT T z i
    · have e1 : aT I i = I := aT_id e11
      rw [if_neg (by decide), if_neg (by decide), show i + 0 = i from rfl, e1, x61_4]
      simp (disch := first | assumption | omega | decide | (refine kdN ?_; omega) | (refine kdS ?_; omega) | (refine kd_REGS0 ?_; omega) | (refine kd_BOOK_noted0 ?_; omega) | (refine kd_IREGS0 ?_; omega) | (refine kd_IBOOK_noted0 ?_; omega) | (refine kd_SUMS0 ?_; omega) | (refine kd_TERMS0 ?_; omega) | (refine kd_FACT0 ?_; omega) | (simp (disch := omega) only [tw])) only [↓x61_0, ↓x61_1, ↓x61_2, ↓x61_3, ↓x61_5, ↓x61_6, ↓x61_9, ↓x61_10, ↓x61_13, ↓x61_16, ↓x61_17, ↓x61_19, ↓x61_20, ↓x61_21, ↓x61_24, ↓x61_25, ↓x61_26, ↓x61_27, ↓x61_28, ↓x61_31, ↓x61_32, ↓x61_33, ↓x61_36, ↓x61_39, ↓x61_42, ↓x61_43, evl_e, ↓endQ_e, ↓gI_0, ↓gL_0, ↓gR_0, ↓gI_s, ↓gL_s, ↓gR_s, ↓pI_i, ↓pL_l, ↓pR_r, ↓p1_i, ↓p1_r, ↓pE_e, ↓pN_z, ↓pN_1, ↓pN_2, ↓pN_3, ↓pN_4, ↓pN_5, ↓pN_6, ↓rl_0, ↓rl_1, ↓rl_2, ↓rl_3, ↓rl_4, ↓hdR_r, ↓hdO_r, va_rf_s, sL1_0, sL1_ss, sL1_1i, sL1_1r, sL1_1n, sL1_1l, sL2_0, sL2_ss, sL2_1i, sL2_1r, sL2_1n, sL2_1l, List.getElem?_cons_zero, List.getElem?_cons_succ, Option.toList_some, Option.toList_none, List.cons_append, List.nil_append, Nat.reduceAdd, true_and, and_true, and_self, wA_s, wA_w, ↓reduceIte, ite_self, true_or, or_true, tv, tc, tl, tg, t0, tz, tw, tu, tup, tuL, nI_add, pk_mul, upd_s, tup_s, tuL_s, nI_0, i1, i2, i3, i4, nm1, ↓k_isf hc h, hf, bI_f, kd_430]
    · have iz := (fg_z hf).1
      have ih := k_fl (d := d) (I := I) (L := L) (P := P) (n := n) (s := s) (Q := Q) hc hM m (c + 1) (i + 1) (v * 10 + (chT T z i - 48)) (aT I (i + 1)) (by omega) (ST_at h iz)
      have e2 : nI v * 10 = nI (v * 10) := pk_mul v 10
      rw [if_pos rfl, if_pos rfl, x61_4]
      simp (disch := first | assumption | omega | decide | (refine kdN ?_; omega) | (refine kdS ?_; omega) | (refine kd_REGS0 ?_; omega) | (refine kd_BOOK_noted0 ?_; omega) | (refine kd_IREGS0 ?_; omega) | (refine kd_IBOOK_noted0 ?_; omega) | (refine kd_SUMS0 ?_; omega) | (refine kd_TERMS0 ?_; omega) | (refine kd_FACT0 ?_; omega) | (simp (disch := omega) only [tw])) only [↓x61_0, ↓x61_1, ↓x61_2, ↓x61_3, ↓x61_5, ↓x61_6, ↓x61_9, ↓x61_10, ↓x61_13, ↓x61_16, ↓x61_17, ↓x61_19, ↓x61_20, ↓x61_21, ↓x61_24, ↓x61_25, ↓x61_26, ↓x61_27, ↓x61_28, ↓x61_31, ↓x61_32, ↓x61_33, ↓x61_36, ↓x61_39, ↓x61_42, ↓x61_43, evl_e, ↓endQ_e, ↓gI_0, ↓gL_0, ↓gR_0, ↓gI_s, ↓gL_s, ↓gR_s, ↓pI_i, ↓pL_l, ↓pR_r, ↓p1_i, ↓p1_r, ↓pE_e, ↓pN_z, ↓pN_1, ↓pN_2, ↓pN_3, ↓pN_4, ↓pN_5, ↓pN_6, ↓rl_0, ↓rl_1, ↓rl_2, ↓rl_3, ↓rl_4, ↓hdR_r, ↓hdO_r, va_rf_s, sL1_0, sL1_ss, sL1_1i, sL1_1r, sL1_1n, sL1_1l, sL2_0, sL2_ss, sL2_1i, sL2_1r, sL2_1n, sL2_1l, List.getElem?_cons_zero, List.getElem?_cons_succ, Option.toList_some, Option.toList_none, List.cons_append, List.nil_append, Nat.reduceAdd, true_and, and_true, and_self, wA_s, wA_w, ↓reduceIte, ite_self, true_or, or_true, tv, tc, tl, tg, t0, tz, tw, tu, tup, tuL, nI_add, pk_mul, upd_s, tup_s, tuL_s, nI_0, i1, i2, i3, i4, nm1, ↓k_isf hc h, ↓k_fig hc h hf, hf, bI_t, e_10, kd_430, e11, e2, aT_f]
      rw [ih, aT_a, show i + 1 + ndT T z m (i + 1) = i + (ndT T z m (i + 1) + 1) by omega]
set_option maxRecDepth 100000 in
theorem k_figs {d : Nat} {I : Nat → Nat → Int32} {L : Nat → Nat → Int64} {P : Nat → Nat → Option Nat} {n s : Nat} {Q : Qm} {T : Nat → Nat} {z x i M : Nat} {g : Nat → Nat → Int32} (hc : CP P) (hM : M ≤ 4) (h : ST T z x g i I) : Call (d + 4) 61 [.ref 430, .int (nI M)] (I, L, P, n, s) Q = Q (some (.int (nI (nvT T z M i 0)))) (aT I (i + ndT T z M i), L, P, n, s) := by
  have e := k_fl (d := d) (I := I) (L := L) (P := P) (n := n) (s := s) (Q := Q) hc hM M 0 i 0 I (Nat.add_zero M) h
  rw [nI_0] at e
  simp (disch := first | assumption | omega | decide | (refine kdN ?_; omega) | (refine kdS ?_; omega) | (refine kd_REGS0 ?_; omega) | (refine kd_BOOK_noted0 ?_; omega) | (refine kd_IREGS0 ?_; omega) | (refine kd_IBOOK_noted0 ?_; omega) | (refine kd_SUMS0 ?_; omega) | (refine kd_TERMS0 ?_; omega) | (refine kd_FACT0 ?_; omega) | (simp (disch := omega) only [tw])) only [↓c61, ↓x61_0, ↓x61_1, ↓x61_2, ↓x61_3, ↓x61_5, ↓x61_6, ↓x61_9, ↓x61_10, ↓x61_13, ↓x61_16, ↓x61_17, ↓x61_19, ↓x61_20, ↓x61_21, ↓x61_24, ↓x61_25, ↓x61_26, ↓x61_27, ↓x61_28, ↓x61_31, ↓x61_32, ↓x61_33, ↓x61_36, ↓x61_39, ↓x61_42, ↓x61_43, evl_e, ↓endQ_e, ↓gI_0, ↓gL_0, ↓gR_0, ↓gI_s, ↓gL_s, ↓gR_s, ↓pI_i, ↓pL_l, ↓pR_r, ↓p1_i, ↓p1_r, ↓pE_e, ↓pN_z, ↓pN_1, ↓pN_2, ↓pN_3, ↓pN_4, ↓pN_5, ↓pN_6, ↓rl_0, ↓rl_1, ↓rl_2, ↓rl_3, ↓rl_4, ↓hdR_r, ↓hdO_r, va_rf_s, sL1_0, sL1_ss, sL1_1i, sL1_1r, sL1_1n, sL1_1l, sL2_0, sL2_ss, sL2_1i, sL2_1r, sL2_1n, sL2_1l, List.getElem?_cons_zero, List.getElem?_cons_succ, Option.toList_some, Option.toList_none, List.cons_append, List.nil_append, Nat.reduceAdd, true_and, and_true, and_self, wA_s, wA_w, ↓reduceIte, ite_self, true_or, or_true, tv, tc, tl, tg, t0, tz, tw, tu, tup, tuL, nI_add, pk_mul, upd_s, tup_s, tuL_s, nI_0, i1, i2, i3, i4, nm1]
  exact e
/-! troubles -/
def TK (k S N : Nat) (I J : Nat → Nat → Int32) : Prop := J 430 12 = nI S ∧ J 430 13 = nI (k + 1) ∧ (∀ f, ¬ f = 12 → ¬ f = 13 → J 430 f = I 430 f) ∧ (∀ a, ¬ a = 430 → ¬ a = 433 → ¬ a = 434 → J a = I a) ∧ (∀ j, j < k → J 433 j = 2 ∧ J 434 j = I 432 j) ∧ J 433 k = nI S ∧ J 434 k = nI N
theorem le_00 : ((10 : Nat) ≤ 10 ∧ (10 : Nat) ≤ 12) = True := by decide
set_option maxRecDepth 100000 in
theorem k_addT {d : Nat} {I : Nat → Nat → Int32} {L : Nat → Nat → Int64} {P : Nat → Nat → Option Nat} {n s : Nat} {Q : Qm} {j : Nat} {a b : Int32} (hc : CP P) (h : I 430 13 = nI j) (hj : j < 5) : Call (d + 1) 69 [.ref 430, .int a, .int b] (I, L, P, n, s) Q = Q none (wA (wA (wA I 433 (upd (I 433) j a)) 434 (upd (I 434) j b)) 430 (upd (I 430) 13 (nI (j + 1))), L, P, n, s) := by
  obtain ⟨c0_0, c0_1, c0_2, c0_3, c0_4, c0_5, c0_6, c0_7, c0_8, c0_9, c0_10, c1_0, c1_1, c8_0, c8_1, c25_0, c25_1, c33_0, c33_1, c430_0, c430_1, c430_2, c430_3, c430_4, c430_5, c430_6, c430_7, c430_8, c430_9, cA43, cA18, cA9, cA26, cA34, cA435, cA441, cA447⟩ := id hc
  have e5 : (5 : Int32) = nI 5 := rfl
  simp (disch := first | assumption | omega | decide | (refine kdN ?_; omega) | (refine kdS ?_; omega) | (refine kd_REGS0 ?_; omega) | (refine kd_BOOK_noted0 ?_; omega) | (refine kd_IREGS0 ?_; omega) | (refine kd_IBOOK_noted0 ?_; omega) | (refine kd_SUMS0 ?_; omega) | (refine kd_TERMS0 ?_; omega) | (refine kd_FACT0 ?_; omega) | (simp (disch := omega) only [tw])) only [↓c69, ↓x69_0, ↓x69_1, ↓x69_4, ↓x69_5, ↓x69_8, ↓x69_9, ↓x69_12, ↓x69_13, ↓x69_14, ↓x69_17, ↓x69_18, ↓x69_21, ↓x69_22, ↓x69_23, ↓x69_24, ↓x69_27, ↓x69_28, ↓x69_31, ↓x69_32, ↓x69_33, ↓x69_34, ↓x69_35, ↓x69_38, ↓x69_39, ↓x69_40, ↓x69_43, evl_e, ↓endQ_e, ↓gI_0, ↓gL_0, ↓gR_0, ↓gI_s, ↓gL_s, ↓gR_s, ↓pI_i, ↓pL_l, ↓pR_r, ↓p1_i, ↓p1_r, ↓pE_e, ↓pN_z, ↓pN_1, ↓pN_2, ↓pN_3, ↓pN_4, ↓pN_5, ↓pN_6, ↓rl_0, ↓rl_1, ↓rl_2, ↓rl_3, ↓rl_4, ↓hdR_r, ↓hdO_r, va_rf_s, sL1_0, sL1_ss, sL1_1i, sL1_1r, sL1_1n, sL1_1l, sL2_0, sL2_ss, sL2_1i, sL2_1r, sL2_1n, sL2_1l, List.getElem?_cons_zero, List.getElem?_cons_succ, Option.toList_some, Option.toList_none, List.cons_append, List.nil_append, Nat.reduceAdd, true_and, and_true, and_self, wA_s, wA_w, ↓reduceIte, ite_self, true_or, or_true, tv, tc, tl, tg, t0, tz, tw, tu, tup, tuL, nI_add, pk_mul, upd_s, tup_s, tuL_s, nI_0, i1, i2, i3, i4, nm1, kd_430, kd_433, ln_433, kd_434, ln_434, c430_4, c430_5, h, ofN, le_00, e5]
set_option maxRecDepth 100000 in
theorem k_tl {d : Nat} {I : Nat → Nat → Int32} {L : Nat → Nat → Int64} {P : Nat → Nat → Option Nat} {n s : Nat} {Q : Qm} {S N k : Nat} (hc : CP P) (hk : k ≤ 4) (hQ : ∀ J, TK k S N I J → Q none (J, L, P, n, s)) : ∀ m j J, m + j = k → J 430 12 = nI S → J 430 13 = nI j → (∀ f, ¬ f = 12 → ¬ f = 13 → J 430 f = I 430 f) → (∀ a, ¬ a = 430 → ¬ a = 433 → ¬ a = 434 → J a = I a) → (∀ l, l < j → J 433 l = 2 ∧ J 434 l = I 432 l) → WP (Call (d + 2)) (kod 68) (n, s) (endQ n s Q) 13 [.ref 430, .int (nI S), .int (nI N), .int (nI k), .int (nI j)] [] (J, L, P, n, s)
  | 0, j, J, e, h1, h2, h3, h4, h5 => by
    obtain rfl : j = k := by omega
    rw [x68_13]
    simp (disch := first | assumption | omega | decide | (refine kdN ?_; omega) | (refine kdS ?_; omega) | (refine kd_REGS0 ?_; omega) | (refine kd_BOOK_noted0 ?_; omega) | (refine kd_IREGS0 ?_; omega) | (refine kd_IBOOK_noted0 ?_; omega) | (refine kd_SUMS0 ?_; omega) | (refine kd_TERMS0 ?_; omega) | (refine kd_FACT0 ?_; omega) | (simp (disch := omega) only [tw])) only [↓x68_0, ↓x68_1, ↓x68_2, ↓x68_5, ↓x68_6, ↓x68_7, ↓x68_10, ↓x68_11, ↓x68_15, ↓x68_16, ↓x68_19, ↓x68_21, ↓x68_22, ↓x68_25, ↓x68_26, ↓x68_27, ↓x68_28, ↓x68_31, ↓x68_33, ↓x68_34, ↓x68_37, ↓x68_40, ↓x68_43, ↓x68_44, ↓x68_45, ↓x68_46, ↓x68_49, evl_e, ↓endQ_e, ↓gI_0, ↓gL_0, ↓gR_0, ↓gI_s, ↓gL_s, ↓gR_s, ↓pI_i, ↓pL_l, ↓pR_r, ↓p1_i, ↓p1_r, ↓pE_e, ↓pN_z, ↓pN_1, ↓pN_2, ↓pN_3, ↓pN_4, ↓pN_5, ↓pN_6, ↓rl_0, ↓rl_1, ↓rl_2, ↓rl_3, ↓rl_4, ↓hdR_r, ↓hdO_r, va_rf_s, sL1_0, sL1_ss, sL1_1i, sL1_1r, sL1_1n, sL1_1l, sL2_0, sL2_ss, sL2_1i, sL2_1r, sL2_1n, sL2_1l, List.getElem?_cons_zero, List.getElem?_cons_succ, Option.toList_some, Option.toList_none, List.cons_append, List.nil_append, Nat.reduceAdd, true_and, and_true, and_self, wA_s, wA_w, ↓reduceIte, ite_self, true_or, or_true, tv, tc, tl, tg, t0, tz, tw, tu, tup, tuL, nI_add, pk_mul, upd_s, tup_s, tuL_s, nI_0, i1, i2, i3, i4, nm1, Int32.lt_irrefl, kd_430]
    rw [k_addT (j := j) hc h2 (by omega)]
    simp (disch := first | assumption | omega | decide | (refine kdN ?_; omega) | (refine kdS ?_; omega) | (refine kd_REGS0 ?_; omega) | (refine kd_BOOK_noted0 ?_; omega) | (refine kd_IREGS0 ?_; omega) | (refine kd_IBOOK_noted0 ?_; omega) | (refine kd_SUMS0 ?_; omega) | (refine kd_TERMS0 ?_; omega) | (refine kd_FACT0 ?_; omega) | (simp (disch := omega) only [tw])) only [↓x68_0, ↓x68_1, ↓x68_2, ↓x68_5, ↓x68_6, ↓x68_7, ↓x68_10, ↓x68_11, ↓x68_15, ↓x68_16, ↓x68_19, ↓x68_21, ↓x68_22, ↓x68_25, ↓x68_26, ↓x68_27, ↓x68_28, ↓x68_31, ↓x68_33, ↓x68_34, ↓x68_37, ↓x68_40, ↓x68_43, ↓x68_44, ↓x68_45, ↓x68_46, ↓x68_49, evl_e, ↓endQ_e, ↓gI_0, ↓gL_0, ↓gR_0, ↓gI_s, ↓gL_s, ↓gR_s, ↓pI_i, ↓pL_l, ↓pR_r, ↓p1_i, ↓p1_r, ↓pE_e, ↓pN_z, ↓pN_1, ↓pN_2, ↓pN_3, ↓pN_4, ↓pN_5, ↓pN_6, ↓rl_0, ↓rl_1, ↓rl_2, ↓rl_3, ↓rl_4, ↓hdR_r, ↓hdO_r, va_rf_s, sL1_0, sL1_ss, sL1_1i, sL1_1r, sL1_1n, sL1_1l, sL2_0, sL2_ss, sL2_1i, sL2_1r, sL2_1n, sL2_1l, List.getElem?_cons_zero, List.getElem?_cons_succ, Option.toList_some, Option.toList_none, List.cons_append, List.nil_append, Nat.reduceAdd, true_and, and_true, and_self, wA_s, wA_w, ↓reduceIte, ite_self, true_or, or_true, tv, tc, tl, tg, t0, tz, tw, tu, tup, tuL, nI_add, pk_mul, upd_s, tup_s, tuL_s, nI_0, i1, i2, i3, i4, nm1]
    refine hQ _ ⟨?_, ?_, fun f f1 f2 => ?_, fun a a1 a2 a3 => ?_, fun l hl => ⟨?_, ?_⟩, ?_, ?_⟩
    · rw [wA_s, tu (by decide)]; exact h1
    · rw [wA_s, upd_s]
    · rw [wA_s, tu f2]; exact h3 f f1 f2
    · rw [tw a1, tw a3, tw a2]; exact h4 a a1 a2 a3
    · rw [tw (by decide), tw (by decide), wA_s, upd_n (by omega)]; exact (h5 l hl).1
    · rw [tw (by decide), wA_s, upd_n (by omega)]; exact (h5 l hl).2
    · rw [tw (by decide), tw (by decide), wA_s, upd_s]
    · rw [tw (by decide), wA_s, upd_s]
  | m + 1, j, J, e, h1, h2, h3, h4, h5 => by
    have jk : j < k := by omega
    have c4 : (nI j < 4) = True := tl (b := 4) (by omega) (by decide)
    have e432 := h4 432 (by decide) (by decide) (by decide)
    obtain ⟨c0_0, c0_1, c0_2, c0_3, c0_4, c0_5, c0_6, c0_7, c0_8, c0_9, c0_10, c1_0, c1_1, c8_0, c8_1, c25_0, c25_1, c33_0, c33_1, c430_0, c430_1, c430_2, c430_3, c430_4, c430_5, c430_6, c430_7, c430_8, c430_9, cA43, cA18, cA9, cA26, cA34, cA435, cA441, cA447⟩ := id hc
    rw [x68_13]
    simp (disch := first | assumption | omega | decide | (refine kdN ?_; omega) | (refine kdS ?_; omega) | (refine kd_REGS0 ?_; omega) | (refine kd_BOOK_noted0 ?_; omega) | (refine kd_IREGS0 ?_; omega) | (refine kd_IBOOK_noted0 ?_; omega) | (refine kd_SUMS0 ?_; omega) | (refine kd_TERMS0 ?_; omega) | (refine kd_FACT0 ?_; omega) | (simp (disch := omega) only [tw])) only [↓x68_0, ↓x68_1, ↓x68_2, ↓x68_5, ↓x68_6, ↓x68_7, ↓x68_10, ↓x68_11, ↓x68_15, ↓x68_16, ↓x68_19, ↓x68_21, ↓x68_22, ↓x68_25, ↓x68_26, ↓x68_27, ↓x68_28, ↓x68_31, ↓x68_33, ↓x68_34, ↓x68_37, ↓x68_40, ↓x68_43, ↓x68_44, ↓x68_45, ↓x68_46, ↓x68_49, evl_e, ↓endQ_e, ↓gI_0, ↓gL_0, ↓gR_0, ↓gI_s, ↓gL_s, ↓gR_s, ↓pI_i, ↓pL_l, ↓pR_r, ↓p1_i, ↓p1_r, ↓pE_e, ↓pN_z, ↓pN_1, ↓pN_2, ↓pN_3, ↓pN_4, ↓pN_5, ↓pN_6, ↓rl_0, ↓rl_1, ↓rl_2, ↓rl_3, ↓rl_4, ↓hdR_r, ↓hdO_r, va_rf_s, sL1_0, sL1_ss, sL1_1i, sL1_1r, sL1_1n, sL1_1l, sL2_0, sL2_ss, sL2_1i, sL2_1r, sL2_1n, sL2_1l, List.getElem?_cons_zero, List.getElem?_cons_succ, Option.toList_some, Option.toList_none, List.cons_append, List.nil_append, Nat.reduceAdd, true_and, and_true, and_self, wA_s, wA_w, ↓reduceIte, ite_self, true_or, or_true, tv, tc, tl, tg, t0, tz, tw, tu, tup, tuL, nI_add, pk_mul, upd_s, tup_s, tuL_s, nI_0, i1, i2, i3, i4, nm1, kd_430, kd_432, ln_432, c430_3, c4, e432]
    rw [k_addT (j := j) hc h2 (by omega)]
    simp (disch := first | assumption | omega | decide | (refine kdN ?_; omega) | (refine kdS ?_; omega) | (refine kd_REGS0 ?_; omega) | (refine kd_BOOK_noted0 ?_; omega) | (refine kd_IREGS0 ?_; omega) | (refine kd_IBOOK_noted0 ?_; omega) | (refine kd_SUMS0 ?_; omega) | (refine kd_TERMS0 ?_; omega) | (refine kd_FACT0 ?_; omega) | (simp (disch := omega) only [tw])) only [↓x68_0, ↓x68_1, ↓x68_2, ↓x68_5, ↓x68_6, ↓x68_7, ↓x68_10, ↓x68_11, ↓x68_15, ↓x68_16, ↓x68_19, ↓x68_21, ↓x68_22, ↓x68_25, ↓x68_26, ↓x68_27, ↓x68_28, ↓x68_31, ↓x68_33, ↓x68_34, ↓x68_37, ↓x68_40, ↓x68_43, ↓x68_44, ↓x68_45, ↓x68_46, ↓x68_49, evl_e, ↓endQ_e, ↓gI_0, ↓gL_0, ↓gR_0, ↓gI_s, ↓gL_s, ↓gR_s, ↓pI_i, ↓pL_l, ↓pR_r, ↓p1_i, ↓p1_r, ↓pE_e, ↓pN_z, ↓pN_1, ↓pN_2, ↓pN_3, ↓pN_4, ↓pN_5, ↓pN_6, ↓rl_0, ↓rl_1, ↓rl_2, ↓rl_3, ↓rl_4, ↓hdR_r, ↓hdO_r, va_rf_s, sL1_0, sL1_ss, sL1_1i, sL1_1r, sL1_1n, sL1_1l, sL2_0, sL2_ss, sL2_1i, sL2_1r, sL2_1n, sL2_1l, List.getElem?_cons_zero, List.getElem?_cons_succ, Option.toList_some, Option.toList_none, List.cons_append, List.nil_append, Nat.reduceAdd, true_and, and_true, and_self, wA_s, wA_w, ↓reduceIte, ite_self, true_or, or_true, tv, tc, tl, tg, t0, tz, tw, tu, tup, tuL, nI_add, pk_mul, upd_s, tup_s, tuL_s, nI_0, i1, i2, i3, i4, nm1]
    refine k_tl hc hk hQ m (j + 1) _ (by omega) ?_ ?_ (fun f f1 f2 => ?_) (fun a a1 a2 a3 => ?_) (fun l hl => ⟨?_, ?_⟩)
    · rw [wA_s, tu (by decide)]; exact h1
    · rw [wA_s, upd_s]
    · rw [wA_s, tu f2]; exact h3 f f1 f2
    · rw [tw a1, tw a3, tw a2]; exact h4 a a1 a2 a3
    · rw [tw (by decide), tw (by decide), wA_s]
      by_cases q : l = j
      · subst q; rw [upd_s]
      · rw [upd_n q]; exact (h5 l (by omega)).1
    · rw [tw (by decide), wA_s]
      by_cases q : l = j
      · subst q; rw [upd_s]
      · rw [upd_n q]; exact (h5 l (by omega)).2
set_option maxRecDepth 100000 in
theorem k_tell {d : Nat} {I : Nat → Nat → Int32} {L : Nat → Nat → Int64} {P : Nat → Nat → Option Nat} {n s : Nat} {Q : Qm} {S N k : Nat} (hc : CP P) (hk : k ≤ 4) (hQ : ∀ J, TK k S N I J → Q none (J, L, P, n, s)) : Call (d + 3) 68 [.ref 430, .int (nI S), .int (nI N), .int (nI k)] (I, L, P, n, s) Q := by
  have e := fun J => k_tl (d := d) (L := L) (P := P) (n := n) (s := s) (Q := Q) (S := S) (N := N) hc hk hQ k 0 J (Nat.add_zero k)
  rw [nI_0] at e
  simp (disch := first | assumption | omega | decide | (refine kdN ?_; omega) | (refine kdS ?_; omega) | (refine kd_REGS0 ?_; omega) | (refine kd_BOOK_noted0 ?_; omega) | (refine kd_IREGS0 ?_; omega) | (refine kd_IBOOK_noted0 ?_; omega) | (refine kd_SUMS0 ?_; omega) | (refine kd_TERMS0 ?_; omega) | (refine kd_FACT0 ?_; omega) | (simp (disch := omega) only [tw])) only [↓c68, ↓x68_0, ↓x68_1, ↓x68_2, ↓x68_5, ↓x68_6, ↓x68_7, ↓x68_10, ↓x68_11, ↓x68_15, ↓x68_16, ↓x68_19, ↓x68_21, ↓x68_22, ↓x68_25, ↓x68_26, ↓x68_27, ↓x68_28, ↓x68_31, ↓x68_33, ↓x68_34, ↓x68_37, ↓x68_40, ↓x68_43, ↓x68_44, ↓x68_45, ↓x68_46, ↓x68_49, evl_e, ↓endQ_e, ↓gI_0, ↓gL_0, ↓gR_0, ↓gI_s, ↓gL_s, ↓gR_s, ↓pI_i, ↓pL_l, ↓pR_r, ↓p1_i, ↓p1_r, ↓pE_e, ↓pN_z, ↓pN_1, ↓pN_2, ↓pN_3, ↓pN_4, ↓pN_5, ↓pN_6, ↓rl_0, ↓rl_1, ↓rl_2, ↓rl_3, ↓rl_4, ↓hdR_r, ↓hdO_r, va_rf_s, sL1_0, sL1_ss, sL1_1i, sL1_1r, sL1_1n, sL1_1l, sL2_0, sL2_ss, sL2_1i, sL2_1r, sL2_1n, sL2_1l, List.getElem?_cons_zero, List.getElem?_cons_succ, Option.toList_some, Option.toList_none, List.cons_append, List.nil_append, Nat.reduceAdd, true_and, and_true, and_self, wA_s, wA_w, ↓reduceIte, ite_self, true_or, or_true, tv, tc, tl, tg, t0, tz, tw, tu, tup, tuL, nI_add, pk_mul, upd_s, tup_s, tuL_s, nI_0, i1, i2, i3, i4, nm1, kd_430]
  refine e _ ?_ ?_ (fun f f1 f2 => ?_) (fun a a1 a2 a3 => ?_) (fun l hl => absurd hl (Nat.not_lt_zero l))
  · simp only [wA_s, upd_s, tu, tw, wA_w]
    rw [tu (by decide), upd_s]
  · simp only [wA_s, upd_s]
  · rw [wA_s, tu f2, tu f1]
  · rw [tw a1]
set_option maxRecDepth 100000 in
theorem k_fault {d : Nat} {I : Nat → Nat → Int32} {L : Nat → Nat → Int64} {P : Nat → Nat → Option Nat} {n s : Nat} {Q : Qm} {T : Nat → Nat} {z x i k : Nat} {g : Nat → Nat → Int32} (hc : CP P) (h : ST T z x g i I) (hk : k ≤ 4) (hQ : ∀ J, TK k 1 i I J → Q (some (.int 0)) (J, L, P, n, s)) : Call (d + 4) 67 [.ref 430, .int (nI k)] (I, L, P, n, s) Q := by
  have e11 := h.2.2.2.2.2.2.2.2.1
  have e1 : (1 : Int32) = nI 1 := rfl
  simp (disch := first | assumption | omega | decide | (refine kdN ?_; omega) | (refine kdS ?_; omega) | (refine kd_REGS0 ?_; omega) | (refine kd_BOOK_noted0 ?_; omega) | (refine kd_IREGS0 ?_; omega) | (refine kd_IBOOK_noted0 ?_; omega) | (refine kd_SUMS0 ?_; omega) | (refine kd_TERMS0 ?_; omega) | (refine kd_FACT0 ?_; omega) | (simp (disch := omega) only [tw])) only [↓c67, ↓x67_0, ↓x67_1, ↓x67_2, ↓x67_3, ↓x67_6, ↓x67_7, ↓x67_10, ↓x67_11, evl_e, ↓endQ_e, ↓gI_0, ↓gL_0, ↓gR_0, ↓gI_s, ↓gL_s, ↓gR_s, ↓pI_i, ↓pL_l, ↓pR_r, ↓p1_i, ↓p1_r, ↓pE_e, ↓pN_z, ↓pN_1, ↓pN_2, ↓pN_3, ↓pN_4, ↓pN_5, ↓pN_6, ↓rl_0, ↓rl_1, ↓rl_2, ↓rl_3, ↓rl_4, ↓hdR_r, ↓hdO_r, va_rf_s, sL1_0, sL1_ss, sL1_1i, sL1_1r, sL1_1n, sL1_1l, sL2_0, sL2_ss, sL2_1i, sL2_1r, sL2_1n, sL2_1l, List.getElem?_cons_zero, List.getElem?_cons_succ, Option.toList_some, Option.toList_none, List.cons_append, List.nil_append, Nat.reduceAdd, true_and, and_true, and_self, wA_s, wA_w, ↓reduceIte, ite_self, true_or, or_true, tv, tc, tl, tg, t0, tz, tw, tu, tup, tuL, nI_add, pk_mul, upd_s, tup_s, tuL_s, nI_0, i1, i2, i3, i4, nm1, kd_430, e11]
  rw [e1]
  refine k_tell hc hk fun J hJ => ?_
  simp (disch := first | assumption | omega | decide | (refine kdN ?_; omega) | (refine kdS ?_; omega) | (refine kd_REGS0 ?_; omega) | (refine kd_BOOK_noted0 ?_; omega) | (refine kd_IREGS0 ?_; omega) | (refine kd_IBOOK_noted0 ?_; omega) | (refine kd_SUMS0 ?_; omega) | (refine kd_TERMS0 ?_; omega) | (refine kd_FACT0 ?_; omega) | (simp (disch := omega) only [tw])) only [↓x67_1, ↓x67_2, ↓x67_3, ↓x67_6, ↓x67_7, ↓x67_10, ↓x67_11, evl_e, ↓endQ_e, ↓gI_0, ↓gL_0, ↓gR_0, ↓gI_s, ↓gL_s, ↓gR_s, ↓pI_i, ↓pL_l, ↓pR_r, ↓p1_i, ↓p1_r, ↓pE_e, ↓pN_z, ↓pN_1, ↓pN_2, ↓pN_3, ↓pN_4, ↓pN_5, ↓pN_6, ↓rl_0, ↓rl_1, ↓rl_2, ↓rl_3, ↓rl_4, ↓hdR_r, ↓hdO_r, va_rf_s, sL1_0, sL1_ss, sL1_1i, sL1_1r, sL1_1n, sL1_1l, sL2_0, sL2_ss, sL2_1i, sL2_1r, sL2_1n, sL2_1l, List.getElem?_cons_zero, List.getElem?_cons_succ, Option.toList_some, Option.toList_none, List.cons_append, List.nil_append, Nat.reduceAdd, true_and, and_true, and_self, wA_s, wA_w, ↓reduceIte, ite_self, true_or, or_true, tv, tc, tl, tg, t0, tz, tw, tu, tup, tuL, nI_add, pk_mul, upd_s, tup_s, tuL_s, nI_0, i1, i2, i3, i4, nm1, z_0]
  exact hQ J hJ
