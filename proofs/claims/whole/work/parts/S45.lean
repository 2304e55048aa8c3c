/-! case read, whole -/
def TQ (k : Nat) (S N : Int32) (I J : Nat → Nat → Int32) : Prop := J 454 27 = nI (k + 1) ∧ (∀ f, ¬ f = 27 → J 454 f = I 454 f) ∧ (∀ e, ¬ e = 454 → ¬ e = 469 → ¬ e = 470 → J e = I e) ∧ (∀ j, j < k → J 469 j = 2 ∧ J 470 j = I 468 j) ∧ J 469 k = S ∧ J 470 k = N
set_option maxRecDepth 100000 in
theorem tq_l {d : Nat} {I : Nat → Nat → Int32} {L : Nat → Nat → Int64} {P : Nat → Nat → Option Nat} {n s : Nat} {Q : Qm} {S N : Int32} {k : Nat} (hm : MP P) (hk : k ≤ 4) (h24 : I 454 24 = nI k) (hQ : ∀ J, TQ k S N I J → Q none (J, L, P, n, s)) : ∀ m j J, m + j = k → J 454 27 = nI j → (∀ f, ¬ f = 27 → J 454 f = I 454 f) → (∀ e, ¬ e = 454 → ¬ e = 469 → ¬ e = 470 → J e = I e) → (∀ l, l < j → J 469 l = 2 ∧ J 470 l = I 468 l) → WP (Call d) (kod 211) (n, s) (endQ n s Q) 7 [.ref 454, .int S, .int N, .int (nI j)] [] (J, L, P, n, s)
  | 0, j, J, e, h1, h2, h3, h4 => by
    obtain rfl : j = k := by omega
    have j24 : J 454 24 = nI j := (h2 24 (by decide)).trans h24
    obtain ⟨m2, m4, m5, m7, m8, m9, m11, m13, m15, m16, m18, m19, m20, m23, m25, m26, m35, m36, m37, m39, m40, m41, m42, m43, m44, m45, m46, m47, m48⟩ := id hm
    rw [x211_7]
    simp (disch := first | assumption | omega | decide | (refine kdN ?_; omega) | (refine kdS ?_; omega) | (refine kd_REGS0 ?_; omega) | (refine kd_BOOK_noted0 ?_; omega) | (refine kd_IREGS0 ?_; omega) | (refine kd_IBOOK_noted0 ?_; omega) | (refine kd_SUMS0 ?_; omega) | (refine kd_TERMS0 ?_; omega) | (refine kd_FACT0 ?_; omega) | (simp (disch := omega) only [tw])) only [↓x211_0, ↓x211_1, ↓x211_2, ↓x211_5, ↓x211_6, ↓x211_8, ↓x211_9, ↓x211_12, ↓x211_15, ↓x211_16, ↓x211_19, ↓x211_20, ↓x211_23, ↓x211_24, ↓x211_25, ↓x211_26, ↓x211_29, ↓x211_30, ↓x211_31, ↓x211_34, ↓x211_35, ↓x211_36, ↓x211_37, ↓x211_40, ↓x211_41, ↓x211_44, ↓x211_45, ↓x211_46, ↓x211_47, ↓x211_50, ↓x211_53, ↓x211_54, ↓x211_57, ↓x211_58, ↓x211_61, ↓x211_62, ↓x211_63, ↓x211_64, ↓x211_67, ↓x211_68, ↓x211_69, ↓x211_72, ↓x211_73, ↓x211_74, ↓x211_75, ↓x211_78, ↓x211_79, ↓x211_80, evl_e, ↓endQ_e, ↓gI_0, ↓gL_0, ↓gR_0, ↓gI_s, ↓gL_s, ↓gR_s, ↓pI_i, ↓pL_l, ↓pR_r, ↓p1_i, ↓p1_r, ↓pE_e, ↓pN_z, ↓pN_1, ↓pN_2, ↓pN_3, ↓pN_4, ↓pN_5, ↓pN_6, ↓rl_0, ↓rl_1, ↓rl_2, ↓rl_3, ↓rl_4, ↓hdR_r, ↓hdO_r, va_rf_s, sL1_0, sL1_ss, sL1_1i, sL1_1r, sL1_1n, sL1_1l, sL2_0, sL2_ss, sL2_1i, sL2_1r, sL2_1n, sL2_1l, List.getElem?_cons_zero, List.getElem?_cons_succ, Option.toList_some, Option.toList_none, List.cons_append, List.nil_append, Nat.reduceAdd, true_and, and_true, and_self, wA_s, wA_w, ↓reduceIte, ite_self, true_or, or_true, tv, tc, tl, tg, t0, tz, tw, tu, tup, tuL, nI_add, pk_mul, upd_s, tup_s, tuL_s, nI_0, i1, i2, i3, i4, nm1, kd_454, m25, m26, kd_469, ln_469, kd_470, ln_470, h1, j24, Int32.lt_irrefl]
    refine hQ _ ⟨?_, fun f a => ?_, fun e a b c => ?_, fun l hl => ⟨?_, ?_⟩, ?_, ?_⟩
    · first | (simp (disch := first | assumption | omega) only [wA_s, tw, tu, upd_s, aM_s, aM_o, aM_n, wA_w]; done) | (simp (disch := first | assumption | omega) only [wA_s, tw, tu, upd_s, aM_s, aM_o, aM_n, wA_w]; rfl) | rfl
    · simp (disch := first | assumption | omega) only [wA_s, tw, tu, upd_s, wA_w]
      exact h2 f a
    · simp (disch := first | assumption | omega) only [wA_s, tw, tu, upd_s, wA_w]
      exact h3 e a b c
    · simp (disch := first | assumption | omega) only [wA_s, tw, tu, upd_s, wA_w]
      exact (h4 l hl).1
    · simp (disch := first | assumption | omega) only [wA_s, tw, tu, upd_s, wA_w]
      exact (h4 l hl).2
    · first | (simp (disch := first | assumption | omega) only [wA_s, tw, tu, upd_s, aM_s, aM_o, aM_n, wA_w]; done) | (simp (disch := first | assumption | omega) only [wA_s, tw, tu, upd_s, aM_s, aM_o, aM_n, wA_w]; rfl) | rfl
    · first | (simp (disch := first | assumption | omega) only [wA_s, tw, tu, upd_s, aM_s, aM_o, aM_n, wA_w]; done) | (simp (disch := first | assumption | omega) only [wA_s, tw, tu, upd_s, aM_s, aM_o, aM_n, wA_w]; rfl) | rfl
  | m + 1, j, J, e, h1, h2, h3, h4 => by
    have jk : j < k := by omega
    have j24 : J 454 24 = nI k := (h2 24 (by decide)).trans h24
    have j68 := h3 468 (by decide) (by decide) (by decide)
    obtain ⟨m2, m4, m5, m7, m8, m9, m11, m13, m15, m16, m18, m19, m20, m23, m25, m26, m35, m36, m37, m39, m40, m41, m42, m43, m44, m45, m46, m47, m48⟩ := id hm
    rw [x211_7]
    simp (disch := first | assumption | omega | decide | (refine kdN ?_; omega) | (refine kdS ?_; omega) | (refine kd_REGS0 ?_; omega) | (refine kd_BOOK_noted0 ?_; omega) | (refine kd_IREGS0 ?_; omega) | (refine kd_IBOOK_noted0 ?_; omega) | (refine kd_SUMS0 ?_; omega) | (refine kd_TERMS0 ?_; omega) | (refine kd_FACT0 ?_; omega) | (simp (disch := omega) only [tw])) only [↓x211_0, ↓x211_1, ↓x211_2, ↓x211_5, ↓x211_6, ↓x211_8, ↓x211_9, ↓x211_12, ↓x211_15, ↓x211_16, ↓x211_19, ↓x211_20, ↓x211_23, ↓x211_24, ↓x211_25, ↓x211_26, ↓x211_29, ↓x211_30, ↓x211_31, ↓x211_34, ↓x211_35, ↓x211_36, ↓x211_37, ↓x211_40, ↓x211_41, ↓x211_44, ↓x211_45, ↓x211_46, ↓x211_47, ↓x211_50, ↓x211_53, ↓x211_54, ↓x211_57, ↓x211_58, ↓x211_61, ↓x211_62, ↓x211_63, ↓x211_64, ↓x211_67, ↓x211_68, ↓x211_69, ↓x211_72, ↓x211_73, ↓x211_74, ↓x211_75, ↓x211_78, ↓x211_79, ↓x211_80, evl_e, ↓endQ_e, ↓gI_0, ↓gL_0, ↓gR_0, ↓gI_s, ↓gL_s, ↓gR_s, ↓pI_i, ↓pL_l, ↓pR_r, ↓p1_i, ↓p1_r, ↓pE_e, ↓pN_z, ↓pN_1, ↓pN_2, ↓pN_3, ↓pN_4, ↓pN_5, ↓pN_6, ↓rl_0, ↓rl_1, ↓rl_2, ↓rl_3, ↓rl_4, ↓hdR_r, ↓hdO_r, va_rf_s, sL1_0, sL1_ss, sL1_1i, sL1_1r, sL1_1n, sL1_1l, sL2_0, sL2_ss, sL2_1i, sL2_1r, sL2_1n, sL2_1l, List.getElem?_cons_zero, List.getElem?_cons_succ, Option.toList_some, Option.toList_none, List.cons_append, List.nil_append, Nat.reduceAdd, true_and, and_true, and_self, wA_s, wA_w, ↓reduceIte, ite_self, true_or, or_true, tv, tc, tl, tg, t0, tz, tw, tu, tup, tuL, nI_add, pk_mul, upd_s, tup_s, tuL_s, nI_0, i1, i2, i3, i4, nm1, kd_454, m23, m25, m26, kd_468, ln_468, kd_469, ln_469, kd_470, ln_470, h1, j24, j68]
    refine tq_l hm hk h24 hQ m (j + 1) _ (by omega) ?_ (fun f a => ?_) (fun e a b c => ?_) (fun l hl => ⟨?_, ?_⟩)
    · first | (simp (disch := first | assumption | omega) only [wA_s, tw, tu, upd_s, aM_s, aM_o, aM_n, wA_w]; done) | (simp (disch := first | assumption | omega) only [wA_s, tw, tu, upd_s, aM_s, aM_o, aM_n, wA_w]; rfl) | rfl
    · simp (disch := first | assumption | omega) only [wA_s, tw, tu, upd_s, wA_w]
      exact h2 f a
    · simp (disch := first | assumption | omega) only [wA_s, tw, tu, upd_s, wA_w]
      exact h3 e a b c
    · simp (disch := first | assumption | omega) only [wA_s, tw, wA_w]
      by_cases q : l = j
      · subst q; rw [upd_s]
      · rw [upd_n q]; exact (h4 l (by omega)).1
    · simp (disch := first | assumption | omega) only [wA_s, tw, wA_w]
      by_cases q : l = j
      · subst q; rw [upd_s]
      · rw [upd_n q]; exact (h4 l (by omega)).2
set_option maxRecDepth 100000 in
theorem m_tells {d : Nat} {I : Nat → Nat → Int32} {L : Nat → Nat → Int64} {P : Nat → Nat → Option Nat} {n s : Nat} {Q : Qm} {S N : Int32} {k : Nat} (hm : MP P) (hk : k ≤ 4) (h24 : I 454 24 = nI k) (hQ : ∀ J, TQ k S N I J → Q none (J, L, P, n, s)) : Call (d + 1) 211 [.ref 454, .int S, .int N] (I, L, P, n, s) Q := by
  have e := fun J => tq_l (d := d) (L := L) (P := P) (n := n) (s := s) (Q := Q) (S := S) (N := N) hm hk h24 hQ k 0 J (Nat.add_zero k)
  rw [nI_0] at e
  simp (disch := first | assumption | omega | decide | (refine kdN ?_; omega) | (refine kdS ?_; omega) | (refine kd_REGS0 ?_; omega) | (refine kd_BOOK_noted0 ?_; omega) | (refine kd_IREGS0 ?_; omega) | (refine kd_IBOOK_noted0 ?_; omega) | (refine kd_SUMS0 ?_; omega) | (refine kd_TERMS0 ?_; omega) | (refine kd_FACT0 ?_; omega) | (simp (disch := omega) only [tw])) only [↓c211, ↓x211_0, ↓x211_1, ↓x211_2, ↓x211_5, ↓x211_6, ↓x211_8, ↓x211_9, ↓x211_12, ↓x211_15, ↓x211_16, ↓x211_19, ↓x211_20, ↓x211_23, ↓x211_24, ↓x211_25, ↓x211_26, ↓x211_29, ↓x211_30, ↓x211_31, ↓x211_34, ↓x211_35, ↓x211_36, ↓x211_37, ↓x211_40, ↓x211_41, ↓x211_44, ↓x211_45, ↓x211_46, ↓x211_47, ↓x211_50, ↓x211_53, ↓x211_54, ↓x211_57, ↓x211_58, ↓x211_61, ↓x211_62, ↓x211_63, ↓x211_64, ↓x211_67, ↓x211_68, ↓x211_69, ↓x211_72, ↓x211_73, ↓x211_74, ↓x211_75, ↓x211_78, ↓x211_79, ↓x211_80, evl_e, ↓endQ_e, ↓gI_0, ↓gL_0, ↓gR_0, ↓gI_s, ↓gL_s, ↓gR_s, ↓pI_i, ↓pL_l, ↓pR_r, ↓p1_i, ↓p1_r, ↓pE_e, ↓pN_z, ↓pN_1, ↓pN_2, ↓pN_3, ↓pN_4, ↓pN_5, ↓pN_6, ↓rl_0, ↓rl_1, ↓rl_2, ↓rl_3, ↓rl_4, ↓hdR_r, ↓hdO_r, va_rf_s, sL1_0, sL1_ss, sL1_1i, sL1_1r, sL1_1n, sL1_1l, sL2_0, sL2_ss, sL2_1i, sL2_1r, sL2_1n, sL2_1l, List.getElem?_cons_zero, List.getElem?_cons_succ, Option.toList_some, Option.toList_none, List.cons_append, List.nil_append, Nat.reduceAdd, true_and, and_true, and_self, wA_s, wA_w, ↓reduceIte, ite_self, true_or, or_true, tv, tc, tl, tg, t0, tz, tw, tu, tup, tuL, nI_add, pk_mul, upd_s, tup_s, tuL_s, nI_0, i1, i2, i3, i4, nm1, kd_454]
  refine e _ ?_ (fun f a => ?_) (fun e a b c => ?_) (fun l hl => absurd hl (Nat.not_lt_zero l))
  · rw [wA_s, upd_s]
  · rw [wA_s, tu a]
  · rw [tw a]
def MT (rr : Nat) (r : Res) (I J : Nat → Nat → Int32) : Prop := (∀ e, ¬ e = 454 → ¬ e = 455 → ¬ (468 ≤ e ∧ e ≤ 470) → ¬ e = 474 → ¬ e = 483 → J e = I e) ∧ (∀ f, ¬ (21 ≤ f ∧ f ≤ 30) → J 454 f = I 454 f) ∧ J 454 21 = 0 ∧ (rS r = 0 → J 454 27 = I 454 27 ∧ J 469 = I 469 ∧ J 470 = I 470 ∧ J 455 = w4 (I 455) (4 * rr) (rV r 0) (rV r 1) (rV r 2) (rV r 3)) ∧ (¬ rS r = 0 → J 455 = I 455 ∧ J 454 27 = nI (rD r + 1) ∧ (∀ j, j < rD r → J 469 j = 2 ∧ J 470 j = nI (rO r j)) ∧ J 469 (rD r) = nI (rS r) ∧ J 470 (rD r) = nI (rN r))
theorem MT_tq {rr k : Nat} {S N : Int32} {r : Res} {I K J : Nat → Nat → Int32} (hK : (∀ e, ¬ e = 454 → ¬ e = 468 → ¬ e = 474 → ¬ e = 483 → K e = I e) ∧ ∀ f, ¬ (21 ≤ f ∧ f ≤ 30) → K 454 f = I 454 f) (t : TQ k S N K J) (h0 : ¬ rS r = 0) (hk : rD r = k) (h68 : ∀ j, j < k → K 468 j = nI (rO r j)) (hS : S = nI (rS r)) (hN : N = nI (rN r)) : MT rr r I (wA J 454 (upd (J 454) 21 0)) := by
  obtain ⟨t1, t2, t3, t4, t5, t6⟩ := t
  refine ⟨fun e a b c d f => ?_, fun f a => ?_, by rw [wA_s, upd_s], fun q => absurd q h0, fun _ => ⟨?_, ?_, fun j hj => ⟨?_, ?_⟩, ?_, ?_⟩⟩
  · rw [tw a, t3 e a (by omega) (by omega)]; exact hK.1 e a (by omega) d f
  · rw [wA_s, tu (by omega), t2 f (by omega)]; exact hK.2 f a
  · rw [tw (by decide), t3 455 (by decide) (by decide) (by decide)]; exact hK.1 455 (by decide) (by decide) (by decide) (by decide)
  · rw [wA_s, tu (by decide), t1, hk]
  · rw [tw (by decide)]; exact (t4 j (by omega)).1
  · rw [tw (by decide), (t4 j (by omega)).2]; exact h68 j (by omega)
  · rw [tw (by decide), hk, t5, hS]
  · rw [tw (by decide), hk, t6, hN]
theorem MT_tq2 {rr k : Nat} {S N : Int32} {r : Res} {I K J : Nat → Nat → Int32} (hK : (∀ e, ¬ e = 454 → ¬ e = 468 → ¬ e = 474 → ¬ e = 483 → K e = I e) ∧ ∀ f, ¬ (21 ≤ f ∧ f ≤ 30) → K 454 f = I 454 f) (t : TQ k S N (wA K 454 (upd (K 454) 21 0)) J) (h0 : ¬ rS r = 0) (hk : rD r = k) (h68 : ∀ j, j < k → K 468 j = nI (rO r j)) (hS : S = nI (rS r)) (hN : N = nI (rN r)) : MT rr r I J := by
  obtain ⟨t1, t2, t3, t4, t5, t6⟩ := t
  refine ⟨fun e a b c d f => ?_, fun f a => ?_, ?_, fun q => absurd q h0, fun _ => ⟨?_, ?_, fun j hj => ⟨?_, ?_⟩, ?_, ?_⟩⟩
  · rw [t3 e a (by omega) (by omega), tw a]; exact hK.1 e a (by omega) d f
  · rw [t2 f (by omega), wA_s, tu (by omega)]; exact hK.2 f a
  · rw [t2 21 (by decide), wA_s, upd_s]
  · rw [t3 455 (by decide) (by decide) (by decide), tw (by decide)]; exact hK.1 455 (by decide) (by decide) (by decide) (by decide)
  · rw [t1, hk]
  · exact (t4 j (by omega)).1
  · rw [(t4 j (by omega)).2, tw (by decide)]; exact h68 j (by omega)
  · rw [hk, t5, hS]
  · rw [hk, t6, hN]
set_option maxRecDepth 100000 in
theorem rd_1 {d : Nat} {I : Nat → Nat → Int32} {L : Nat → Nat → Int64} {P : Nat → Nat → Option Nat} {n s : Nat} {Q : Qm} {rr : Int32} {j : Nat} {H : Nat → Int32} (hm : MP P) (hj : j < 4) : WP (Call d) (kod 212) (n, s) (endQ n s Q) 110 [.ref 454, .int rr, .int (nI j)] [] (wA I 474 H, L, P, n, s) = WP (Call d) (kod 212) (n, s) (endQ n s Q) 110 [.ref 454, .int rr, .int (nI (j + 1))] [] (wA I 474 (upd H j (I 483 j)), L, P, n, s) := by
  have kk := tl4 hj
  obtain ⟨m2, m4, m5, m7, m8, m9, m11, m13, m15, m16, m18, m19, m20, m23, m25, m26, m35, m36, m37, m39, m40, m41, m42, m43, m44, m45, m46, m47, m48⟩ := id hm
  rw [x212_110]
  simp (disch := first | assumption | omega | decide | (refine kdN ?_; omega) | (refine kdS ?_; omega) | (refine kd_REGS0 ?_; omega) | (refine kd_BOOK_noted0 ?_; omega) | (refine kd_IREGS0 ?_; omega) | (refine kd_IBOOK_noted0 ?_; omega) | (refine kd_SUMS0 ?_; omega) | (refine kd_TERMS0 ?_; omega) | (refine kd_FACT0 ?_; omega) | (simp (disch := omega) only [tw])) only [↓x212_0, ↓x212_1, ↓x212_4, ↓x212_7, ↓x212_8, ↓x212_9, ↓x212_10, ↓x212_11, ↓x212_14, ↓x212_15, ↓x212_16, ↓x212_19, ↓x212_20, ↓x212_23, ↓x212_26, ↓x212_27, ↓x212_30, ↓x212_31, ↓x212_34, ↓x212_37, ↓x212_38, ↓x212_39, ↓x212_40, ↓x212_43, ↓x212_46, ↓x212_47, ↓x212_48, ↓x212_51, ↓x212_53, ↓x212_54, ↓x212_57, ↓x212_58, ↓x212_59, ↓x212_60, ↓x212_61, ↓x212_64, ↓x212_65, ↓x212_66, ↓x212_69, ↓x212_70, ↓x212_71, ↓x212_74, ↓x212_75, ↓x212_76, ↓x212_79, ↓x212_80, ↓x212_81, ↓x212_84, ↓x212_85, ↓x212_88, ↓x212_91, ↓x212_92, ↓x212_93, ↓x212_96, ↓x212_97, ↓x212_100, ↓x212_103, ↓x212_104, ↓x212_107, ↓x212_108, ↓x212_109, ↓x212_111, ↓x212_112, ↓x212_115, ↓x212_116, ↓x212_119, ↓x212_120, ↓x212_121, ↓x212_124, ↓x212_125, ↓x212_126, ↓x212_127, ↓x212_130, ↓x212_133, ↓x212_134, ↓x212_135, ↓x212_138, ↓x212_139, evl_e, ↓endQ_e, ↓gI_0, ↓gL_0, ↓gR_0, ↓gI_s, ↓gL_s, ↓gR_s, ↓pI_i, ↓pL_l, ↓pR_r, ↓p1_i, ↓p1_r, ↓pE_e, ↓pN_z, ↓pN_1, ↓pN_2, ↓pN_3, ↓pN_4, ↓pN_5, ↓pN_6, ↓rl_0, ↓rl_1, ↓rl_2, ↓rl_3, ↓rl_4, ↓hdR_r, ↓hdO_r, va_rf_s, sL1_0, sL1_ss, sL1_1i, sL1_1r, sL1_1n, sL1_1l, sL2_0, sL2_ss, sL2_1i, sL2_1r, sL2_1n, sL2_1l, List.getElem?_cons_zero, List.getElem?_cons_succ, Option.toList_some, Option.toList_none, List.cons_append, List.nil_append, Nat.reduceAdd, true_and, and_true, and_self, wA_s, wA_w, ↓reduceIte, ite_self, true_or, or_true, tv, tc, tl, tg, t0, tz, tw, tu, tup, tuL, nI_add, pk_mul, upd_s, tup_s, tuL_s, nI_0, i1, i2, i3, i4, nm1, kd_454, m39, m48, kd_474, ln_474, kd_483, ln_483, kk]
set_option maxRecDepth 100000 in
theorem rd_e {d : Nat} {I : Nat → Nat → Int32} {L : Nat → Nat → Int64} {P : Nat → Nat → Option Nat} {n s : Nat} {Q : Qm} {rr : Nat} (hm : MP P) (hr : rr < 6) : WP (Call (d + 1)) (kod 212) (n, s) (endQ n s Q) 110 [.ref 454, .int (nI rr), .int 4] [] (I, L, P, n, s) = Q (some (.int 1)) (wA I 455 (w4 (I 455) (4 * rr) (I 474 0) (I 474 1) (I 474 2) (I 474 3)), L, P, n, s) := by
  rw [x212_110]
  simp (disch := first | assumption | omega | decide | (refine kdN ?_; omega) | (refine kdS ?_; omega) | (refine kd_REGS0 ?_; omega) | (refine kd_BOOK_noted0 ?_; omega) | (refine kd_IREGS0 ?_; omega) | (refine kd_IBOOK_noted0 ?_; omega) | (refine kd_SUMS0 ?_; omega) | (refine kd_TERMS0 ?_; omega) | (refine kd_FACT0 ?_; omega) | (simp (disch := omega) only [tw])) only [↓x212_0, ↓x212_1, ↓x212_4, ↓x212_7, ↓x212_8, ↓x212_9, ↓x212_10, ↓x212_11, ↓x212_14, ↓x212_15, ↓x212_16, ↓x212_19, ↓x212_20, ↓x212_23, ↓x212_26, ↓x212_27, ↓x212_30, ↓x212_31, ↓x212_34, ↓x212_37, ↓x212_38, ↓x212_39, ↓x212_40, ↓x212_43, ↓x212_46, ↓x212_47, ↓x212_48, ↓x212_51, ↓x212_53, ↓x212_54, ↓x212_57, ↓x212_58, ↓x212_59, ↓x212_60, ↓x212_61, ↓x212_64, ↓x212_65, ↓x212_66, ↓x212_69, ↓x212_70, ↓x212_71, ↓x212_74, ↓x212_75, ↓x212_76, ↓x212_79, ↓x212_80, ↓x212_81, ↓x212_84, ↓x212_85, ↓x212_88, ↓x212_91, ↓x212_92, ↓x212_93, ↓x212_96, ↓x212_97, ↓x212_100, ↓x212_103, ↓x212_104, ↓x212_107, ↓x212_108, ↓x212_109, ↓x212_111, ↓x212_112, ↓x212_115, ↓x212_116, ↓x212_119, ↓x212_120, ↓x212_121, ↓x212_124, ↓x212_125, ↓x212_126, ↓x212_127, ↓x212_130, ↓x212_133, ↓x212_134, ↓x212_135, ↓x212_138, ↓x212_139, evl_e, ↓endQ_e, ↓gI_0, ↓gL_0, ↓gR_0, ↓gI_s, ↓gL_s, ↓gR_s, ↓pI_i, ↓pL_l, ↓pR_r, ↓p1_i, ↓p1_r, ↓pE_e, ↓pN_z, ↓pN_1, ↓pN_2, ↓pN_3, ↓pN_4, ↓pN_5, ↓pN_6, ↓rl_0, ↓rl_1, ↓rl_2, ↓rl_3, ↓rl_4, ↓hdR_r, ↓hdO_r, va_rf_s, sL1_0, sL1_ss, sL1_1i, sL1_1r, sL1_1n, sL1_1l, sL2_0, sL2_ss, sL2_1i, sL2_1r, sL2_1n, sL2_1l, List.getElem?_cons_zero, List.getElem?_cons_succ, Option.toList_some, Option.toList_none, List.cons_append, List.nil_append, Nat.reduceAdd, true_and, and_true, and_self, wA_s, wA_w, ↓reduceIte, ite_self, true_or, or_true, tv, tc, tl, tg, t0, tz, tw, tu, tup, tuL, nI_add, pk_mul, upd_s, tup_s, tuL_s, nI_0, i1, i2, i3, i4, nm1, kd_454, l_44, ↓m_lay hm hr]
theorem rd_all {d : Nat} {I : Nat → Nat → Int32} {L : Nat → Nat → Int64} {P : Nat → Nat → Option Nat} {n s : Nat} {Q : Qm} {rr : Nat} (hm : MP P) (hr : rr < 6) : WP (Call (d + 1)) (kod 212) (n, s) (endQ n s Q) 110 [.ref 454, .int (nI rr), .int 0] [] (I, L, P, n, s) = Q (some (.int 1)) (wA (wA I 474 (q4 (I 474) (I 483 0) (I 483 1) (I 483 2) (I 483 3))) 455 (w4 (I 455) (4 * rr) (I 483 0) (I 483 1) (I 483 2) (I 483 3)), L, P, n, s) := by
  have t := fun (H : Nat → Int32) j (hj : j < 4) => rd_1 (d := d + 1) (I := I) (L := L) (P := P) (n := n) (s := s) (Q := Q) (rr := nI rr) (H := H) (j := j) hm hj
  have t0 := t (I 474) 0 (by decide)
  rw [wA_id] at t0
  refine t0.trans ((t _ 1 (by decide)).trans ((t _ 2 (by decide)).trans ((t _ 3 (by decide)).trans ?_)))
  refine (rd_e hm hr).trans ?_
  rw [wA_s, tw (show ¬ 455 = 474 by decide)]
  rfl
set_option maxRecDepth 100000 in
theorem m_read {d : Nat} {I : Nat → Nat → Int32} {L : Nat → Nat → Int64} {P : Nat → Nat → Option Nat} {n s : Nat} {Q : Qm} {T : Nat → Nat} {z x rr : Nat} {g : Nat → Nat → Int32} {o : Nat → Nat} {r : Res} (hm : MP P) (hr : rr < 6) (hB : RB z 0 0 r) (h : M2 T z x g 0 o 0 (wA I 454 (upd (upd (upd (I 454) 22 0) 24 0) 28 0))) (hS1 : CM T z L P n s 200 (d + 5) 0 o 0 r) (hS2 : CNp T z x g L P n s 207 (d + 5) 0 0 o 0 r) (hQ : ∀ J, MT rr (topR z o r) I J → Q (some (.int (codR (topR z o r)))) (J, L, P, n, s)) : Call (d + 6) 212 [.ref 454, .int (nI rr)] (I, L, P, n, s) Q := by
  have z80 := h.1.1
  have az := hB.2.1
  have rg : rng (nI rr) 6 = true := rng_t (N := 6) (by decide) hr
  have h1 : M1 T z 0 o 0 (wA I 454 (upd (upd (I 454) 22 0) 24 0)) := by
    obtain ⟨⟨a1, a2, a3, a4, a5, a6, a7, a8⟩, -⟩ := h
    refine ⟨a1, a2, ?_, fun l hl => ?_, ?_, a6, ?_, fun l hl => absurd hl (Nat.not_lt_zero l)⟩
    · rw [wA_s, tu (by decide), tu (by decide), tu (by decide)] at a3
      rw [wA_s, tu (by decide), tu (by decide)]; exact a3
    · have := a4 l hl
      rw [tw (by decide)] at this ⊢; exact this
    · rw [wA_s, tu (by decide), upd_s]; rfl
    · rw [wA_s, upd_s]; rfl
  have i21 : I 454 21 = nI z := by
    have := h1.2.2.1
    rwa [wA_s, tu (by decide), tu (by decide)] at this
  obtain ⟨m2, m4, m5, m7, m8, m9, m11, m13, m15, m16, m18, m19, m20, m23, m25, m26, m35, m36, m37, m39, m40, m41, m42, m43, m44, m45, m46, m47, m48⟩ := id hm
  simp (disch := first | assumption | omega | decide | (refine kdN ?_; omega) | (refine kdS ?_; omega) | (refine kd_REGS0 ?_; omega) | (refine kd_BOOK_noted0 ?_; omega) | (refine kd_IREGS0 ?_; omega) | (refine kd_IBOOK_noted0 ?_; omega) | (refine kd_SUMS0 ?_; omega) | (refine kd_TERMS0 ?_; omega) | (refine kd_FACT0 ?_; omega) | (simp (disch := omega) only [tw])) only [↓c212, ↓x212_0, ↓x212_1, ↓x212_4, ↓x212_7, ↓x212_8, ↓x212_9, ↓x212_10, ↓x212_11, ↓x212_14, ↓x212_15, ↓x212_16, ↓x212_19, ↓x212_20, ↓x212_26, ↓x212_27, ↓x212_30, ↓x212_31, ↓x212_34, ↓x212_37, ↓x212_38, ↓x212_39, ↓x212_40, ↓x212_43, ↓x212_46, ↓x212_47, ↓x212_48, ↓x212_51, ↓x212_53, ↓x212_54, ↓x212_57, ↓x212_58, ↓x212_59, ↓x212_60, ↓x212_61, ↓x212_64, ↓x212_65, ↓x212_66, ↓x212_69, ↓x212_70, ↓x212_71, ↓x212_74, ↓x212_75, ↓x212_76, ↓x212_79, ↓x212_80, ↓x212_81, ↓x212_84, ↓x212_85, ↓x212_88, ↓x212_91, ↓x212_92, ↓x212_93, ↓x212_96, ↓x212_97, ↓x212_100, ↓x212_103, ↓x212_104, ↓x212_107, ↓x212_108, ↓x212_109, ↓x212_111, ↓x212_112, ↓x212_115, ↓x212_116, ↓x212_119, ↓x212_120, ↓x212_121, ↓x212_124, ↓x212_125, ↓x212_126, ↓x212_127, ↓x212_130, ↓x212_133, ↓x212_134, ↓x212_135, ↓x212_138, ↓x212_139, evl_e, ↓endQ_e, ↓gI_0, ↓gL_0, ↓gR_0, ↓gI_s, ↓gL_s, ↓gR_s, ↓pI_i, ↓pL_l, ↓pR_r, ↓p1_i, ↓p1_r, ↓pE_e, ↓pN_z, ↓pN_1, ↓pN_2, ↓pN_3, ↓pN_4, ↓pN_5, ↓pN_6, ↓rl_0, ↓rl_1, ↓rl_2, ↓rl_3, ↓rl_4, ↓hdR_r, ↓hdO_r, va_rf_s, sL1_0, sL1_ss, sL1_1i, sL1_1r, sL1_1n, sL1_1l, sL2_0, sL2_ss, sL2_1i, sL2_1r, sL2_1n, sL2_1l, List.getElem?_cons_zero, List.getElem?_cons_succ, Option.toList_some, Option.toList_none, List.cons_append, List.nil_append, Nat.reduceAdd, true_and, and_true, and_self, wA_s, wA_w, ↓reduceIte, ite_self, true_or, or_true, tv, tc, tl, tg, t0, tz, tw, tu, tup, tuL, nI_add, pk_mul, upd_s, tup_s, tuL_s, nI_0, i1, i2, i3, i4, nm1, ↓m_reg, rg, bI_t, e_10, kd_454]
  refine hS1 _ _ h1 fun K hK => ?_
  obtain ⟨k1, k22, kE, kO⟩ := hK
  have fK : (∀ e, ¬ e = 454 → ¬ e = 468 → ¬ e = 474 → ¬ e = 483 → K e = I e) ∧ ∀ f, ¬ (21 ≤ f ∧ f ≤ 30) → K 454 f = I 454 f := ⟨fun e a b _ _ => by rw [k1.1 e a b, tw a], fun f a => by rw [k1.2 f (by omega) (by omega), wA_s, tu (by omega), tu (by omega)]⟩
  have k21 : K 454 21 = nI z := by rw [k1.2 21 (by decide) (by decide), wA_s, tu (by decide), tu (by decide)]; exact i21
  have e1 : (1 : Int32) = nI 1 := rfl
  by_cases r1 : rS r = 1
  · have d2 : decide (¬ rS r = 1) = false := decide_eq_false (fun q => q r1)
    have e : topR z o r = r := by unfold topR; rw [if_pos r1]
    have e2 : codR r = -100 - nI (rA r) := if_pos r1
    obtain ⟨k24, k68⟩ := kE r1
    have D4 := (hB.2.2.2.1 (by omega)).2
    have nA := hB.2.2.2.2.2 r1
    rw [e, e2] at hQ
    simp (disch := first | assumption | omega | decide | (refine kdN ?_; omega) | (refine kdS ?_; omega) | (refine kd_REGS0 ?_; omega) | (refine kd_BOOK_noted0 ?_; omega) | (refine kd_IREGS0 ?_; omega) | (refine kd_IBOOK_noted0 ?_; omega) | (refine kd_SUMS0 ?_; omega) | (refine kd_TERMS0 ?_; omega) | (refine kd_FACT0 ?_; omega) | (simp (disch := omega) only [tw])) only [↓x212_0, ↓x212_1, ↓x212_4, ↓x212_7, ↓x212_8, ↓x212_9, ↓x212_10, ↓x212_11, ↓x212_14, ↓x212_15, ↓x212_16, ↓x212_19, ↓x212_20, ↓x212_23, ↓x212_26, ↓x212_27, ↓x212_30, ↓x212_31, ↓x212_34, ↓x212_37, ↓x212_38, ↓x212_39, ↓x212_40, ↓x212_43, ↓x212_46, ↓x212_47, ↓x212_48, ↓x212_51, ↓x212_53, ↓x212_54, ↓x212_57, ↓x212_58, ↓x212_59, ↓x212_60, ↓x212_61, ↓x212_64, ↓x212_65, ↓x212_66, ↓x212_69, ↓x212_70, ↓x212_71, ↓x212_74, ↓x212_75, ↓x212_76, ↓x212_79, ↓x212_80, ↓x212_81, ↓x212_84, ↓x212_85, ↓x212_88, ↓x212_91, ↓x212_92, ↓x212_93, ↓x212_96, ↓x212_97, ↓x212_100, ↓x212_103, ↓x212_104, ↓x212_107, ↓x212_108, ↓x212_109, ↓x212_111, ↓x212_112, ↓x212_115, ↓x212_116, ↓x212_119, ↓x212_120, ↓x212_121, ↓x212_124, ↓x212_125, ↓x212_126, ↓x212_127, ↓x212_130, ↓x212_133, ↓x212_134, ↓x212_135, ↓x212_138, ↓x212_139, evl_e, ↓endQ_e, ↓gI_0, ↓gL_0, ↓gR_0, ↓gI_s, ↓gL_s, ↓gR_s, ↓pI_i, ↓pL_l, ↓pR_r, ↓p1_i, ↓p1_r, ↓pE_e, ↓pN_z, ↓pN_1, ↓pN_2, ↓pN_3, ↓pN_4, ↓pN_5, ↓pN_6, ↓rl_0, ↓rl_1, ↓rl_2, ↓rl_3, ↓rl_4, ↓hdR_r, ↓hdO_r, va_rf_s, sL1_0, sL1_ss, sL1_1i, sL1_1r, sL1_1n, sL1_1l, sL2_0, sL2_ss, sL2_1i, sL2_1r, sL2_1n, sL2_1l, List.getElem?_cons_zero, List.getElem?_cons_succ, Option.toList_some, Option.toList_none, List.cons_append, List.nil_append, Nat.reduceAdd, true_and, and_true, and_self, wA_s, wA_w, ↓reduceIte, ite_self, true_or, or_true, tv, tc, tl, tg, t0, tz, tw, tu, tup, tuL, nI_add, pk_mul, upd_s, tup_s, tuL_s, nI_0, i1, i2, i3, i4, nm1, d2, bI_f, kd_454, k22]
    refine m_tells hm D4 k24 fun J hJ => ?_
    have j22 : J 454 22 = nI (rA r) := (hJ.2.1 22 (by decide)).trans k22
    simp (disch := first | assumption | omega | decide | (refine kdN ?_; omega) | (refine kdS ?_; omega) | (refine kd_REGS0 ?_; omega) | (refine kd_BOOK_noted0 ?_; omega) | (refine kd_IREGS0 ?_; omega) | (refine kd_IBOOK_noted0 ?_; omega) | (refine kd_SUMS0 ?_; omega) | (refine kd_TERMS0 ?_; omega) | (refine kd_FACT0 ?_; omega) | (simp (disch := omega) only [tw])) only [↓x212_0, ↓x212_1, ↓x212_4, ↓x212_7, ↓x212_8, ↓x212_9, ↓x212_10, ↓x212_11, ↓x212_14, ↓x212_15, ↓x212_16, ↓x212_19, ↓x212_20, ↓x212_23, ↓x212_26, ↓x212_27, ↓x212_30, ↓x212_31, ↓x212_34, ↓x212_37, ↓x212_38, ↓x212_39, ↓x212_40, ↓x212_43, ↓x212_46, ↓x212_47, ↓x212_48, ↓x212_51, ↓x212_53, ↓x212_54, ↓x212_57, ↓x212_58, ↓x212_59, ↓x212_60, ↓x212_61, ↓x212_64, ↓x212_65, ↓x212_66, ↓x212_69, ↓x212_70, ↓x212_71, ↓x212_74, ↓x212_75, ↓x212_76, ↓x212_79, ↓x212_80, ↓x212_81, ↓x212_84, ↓x212_85, ↓x212_88, ↓x212_91, ↓x212_92, ↓x212_93, ↓x212_96, ↓x212_97, ↓x212_100, ↓x212_103, ↓x212_104, ↓x212_107, ↓x212_108, ↓x212_109, ↓x212_111, ↓x212_112, ↓x212_115, ↓x212_116, ↓x212_119, ↓x212_120, ↓x212_121, ↓x212_124, ↓x212_125, ↓x212_126, ↓x212_127, ↓x212_130, ↓x212_133, ↓x212_134, ↓x212_135, ↓x212_138, ↓x212_139, evl_e, ↓endQ_e, ↓gI_0, ↓gL_0, ↓gR_0, ↓gI_s, ↓gL_s, ↓gR_s, ↓pI_i, ↓pL_l, ↓pR_r, ↓p1_i, ↓p1_r, ↓pE_e, ↓pN_z, ↓pN_1, ↓pN_2, ↓pN_3, ↓pN_4, ↓pN_5, ↓pN_6, ↓rl_0, ↓rl_1, ↓rl_2, ↓rl_3, ↓rl_4, ↓hdR_r, ↓hdO_r, va_rf_s, sL1_0, sL1_ss, sL1_1i, sL1_1r, sL1_1n, sL1_1l, sL2_0, sL2_ss, sL2_1i, sL2_1r, sL2_1n, sL2_1l, List.getElem?_cons_zero, List.getElem?_cons_succ, Option.toList_some, Option.toList_none, List.cons_append, List.nil_append, Nat.reduceAdd, true_and, and_true, and_self, wA_s, wA_w, ↓reduceIte, ite_self, true_or, or_true, tv, tc, tl, tg, t0, tz, tw, tu, tup, tuL, nI_add, pk_mul, upd_s, tup_s, tuL_s, nI_0, i1, i2, i3, i4, nm1, kd_454, j22]
    exact hQ _ (MT_tq fK hJ (by omega) rfl k68 (by rw [r1]; rfl) (by rw [nA]))
  have d2 : decide (¬ rS r = 1) = true := decide_eq_true r1
  obtain ⟨k24, k68⟩ := kO r1
  by_cases c : rA r < z
  · have e : topR z o r = rno 1 (rA r) (rA r) 0 o := by unfold topR; rw [if_neg r1, if_pos c]
    have e2 : codR (rno 1 (rA r) (rA r) 0 o) = -100 - nI (rA r) := rfl
    rw [e, e2] at hQ
    simp (disch := first | assumption | omega | decide | (refine kdN ?_; omega) | (refine kdS ?_; omega) | (refine kd_REGS0 ?_; omega) | (refine kd_BOOK_noted0 ?_; omega) | (refine kd_IREGS0 ?_; omega) | (refine kd_IBOOK_noted0 ?_; omega) | (refine kd_SUMS0 ?_; omega) | (refine kd_TERMS0 ?_; omega) | (refine kd_FACT0 ?_; omega) | (simp (disch := omega) only [tw])) only [↓x212_0, ↓x212_1, ↓x212_4, ↓x212_7, ↓x212_8, ↓x212_9, ↓x212_10, ↓x212_11, ↓x212_14, ↓x212_15, ↓x212_16, ↓x212_19, ↓x212_20, ↓x212_23, ↓x212_26, ↓x212_27, ↓x212_30, ↓x212_31, ↓x212_34, ↓x212_37, ↓x212_38, ↓x212_39, ↓x212_40, ↓x212_43, ↓x212_46, ↓x212_47, ↓x212_48, ↓x212_51, ↓x212_53, ↓x212_54, ↓x212_57, ↓x212_58, ↓x212_59, ↓x212_60, ↓x212_61, ↓x212_64, ↓x212_65, ↓x212_66, ↓x212_69, ↓x212_70, ↓x212_71, ↓x212_74, ↓x212_75, ↓x212_76, ↓x212_79, ↓x212_80, ↓x212_81, ↓x212_84, ↓x212_85, ↓x212_88, ↓x212_91, ↓x212_92, ↓x212_93, ↓x212_96, ↓x212_97, ↓x212_100, ↓x212_103, ↓x212_104, ↓x212_107, ↓x212_108, ↓x212_109, ↓x212_111, ↓x212_112, ↓x212_115, ↓x212_116, ↓x212_119, ↓x212_120, ↓x212_121, ↓x212_124, ↓x212_125, ↓x212_126, ↓x212_127, ↓x212_130, ↓x212_133, ↓x212_134, ↓x212_135, ↓x212_138, ↓x212_139, evl_e, ↓endQ_e, ↓gI_0, ↓gL_0, ↓gR_0, ↓gI_s, ↓gL_s, ↓gR_s, ↓pI_i, ↓pL_l, ↓pR_r, ↓p1_i, ↓p1_r, ↓pE_e, ↓pN_z, ↓pN_1, ↓pN_2, ↓pN_3, ↓pN_4, ↓pN_5, ↓pN_6, ↓rl_0, ↓rl_1, ↓rl_2, ↓rl_3, ↓rl_4, ↓hdR_r, ↓hdO_r, va_rf_s, sL1_0, sL1_ss, sL1_1i, sL1_1r, sL1_1n, sL1_1l, sL2_0, sL2_ss, sL2_1i, sL2_1r, sL2_1n, sL2_1l, List.getElem?_cons_zero, List.getElem?_cons_succ, Option.toList_some, Option.toList_none, List.cons_append, List.nil_append, Nat.reduceAdd, true_and, and_true, and_self, wA_s, wA_w, ↓reduceIte, ite_self, true_or, or_true, tv, tc, tl, tg, t0, tz, tw, tu, tup, tuL, nI_add, pk_mul, upd_s, tup_s, tuL_s, nI_0, i1, i2, i3, i4, nm1, d2, bI_t, e_10, kd_454, k22, k21]
    refine m_tells hm (by decide) k24 fun J hJ => ?_
    have j22 : J 454 22 = nI (rA r) := (hJ.2.1 22 (by decide)).trans k22
    simp (disch := first | assumption | omega | decide | (refine kdN ?_; omega) | (refine kdS ?_; omega) | (refine kd_REGS0 ?_; omega) | (refine kd_BOOK_noted0 ?_; omega) | (refine kd_IREGS0 ?_; omega) | (refine kd_IBOOK_noted0 ?_; omega) | (refine kd_SUMS0 ?_; omega) | (refine kd_TERMS0 ?_; omega) | (refine kd_FACT0 ?_; omega) | (simp (disch := omega) only [tw])) only [↓x212_0, ↓x212_1, ↓x212_4, ↓x212_7, ↓x212_8, ↓x212_9, ↓x212_10, ↓x212_11, ↓x212_14, ↓x212_15, ↓x212_16, ↓x212_19, ↓x212_20, ↓x212_23, ↓x212_26, ↓x212_27, ↓x212_30, ↓x212_31, ↓x212_34, ↓x212_37, ↓x212_38, ↓x212_39, ↓x212_40, ↓x212_43, ↓x212_46, ↓x212_47, ↓x212_48, ↓x212_51, ↓x212_53, ↓x212_54, ↓x212_57, ↓x212_58, ↓x212_59, ↓x212_60, ↓x212_61, ↓x212_64, ↓x212_65, ↓x212_66, ↓x212_69, ↓x212_70, ↓x212_71, ↓x212_74, ↓x212_75, ↓x212_76, ↓x212_79, ↓x212_80, ↓x212_81, ↓x212_84, ↓x212_85, ↓x212_88, ↓x212_91, ↓x212_92, ↓x212_93, ↓x212_96, ↓x212_97, ↓x212_100, ↓x212_103, ↓x212_104, ↓x212_107, ↓x212_108, ↓x212_109, ↓x212_111, ↓x212_112, ↓x212_115, ↓x212_116, ↓x212_119, ↓x212_120, ↓x212_121, ↓x212_124, ↓x212_125, ↓x212_126, ↓x212_127, ↓x212_130, ↓x212_133, ↓x212_134, ↓x212_135, ↓x212_138, ↓x212_139, evl_e, ↓endQ_e, ↓gI_0, ↓gL_0, ↓gR_0, ↓gI_s, ↓gL_s, ↓gR_s, ↓pI_i, ↓pL_l, ↓pR_r, ↓p1_i, ↓p1_r, ↓pE_e, ↓pN_z, ↓pN_1, ↓pN_2, ↓pN_3, ↓pN_4, ↓pN_5, ↓pN_6, ↓rl_0, ↓rl_1, ↓rl_2, ↓rl_3, ↓rl_4, ↓hdR_r, ↓hdO_r, va_rf_s, sL1_0, sL1_ss, sL1_1i, sL1_1r, sL1_1n, sL1_1l, sL2_0, sL2_ss, sL2_1i, sL2_1r, sL2_1n, sL2_1l, List.getElem?_cons_zero, List.getElem?_cons_succ, Option.toList_some, Option.toList_none, List.cons_append, List.nil_append, Nat.reduceAdd, true_and, and_true, and_self, wA_s, wA_w, ↓reduceIte, ite_self, true_or, or_true, tv, tc, tl, tg, t0, tz, tw, tu, tup, tuL, nI_add, pk_mul, upd_s, tup_s, tuL_s, nI_0, i1, i2, i3, i4, nm1, kd_454, j22]
    exact hQ _ (MT_tq fK hJ (fun q => absurd (show (1 : Nat) = 0 from q) (by decide)) rfl (fun j hj => absurd hj (Nat.not_lt_zero j)) rfl rfl)
  · have e : topR z o r = r := by unfold topR; rw [if_neg r1, if_neg c]
    have fz : fgT T z (rA r) = false := by
      unfold fgT
      rw [chT_ge c]
      rfl
    rw [e] at hQ
    simp (disch := first | assumption | omega | decide | (refine kdN ?_; omega) | (refine kdS ?_; omega) | (refine kd_REGS0 ?_; omega) | (refine kd_BOOK_noted0 ?_; omega) | (refine kd_IREGS0 ?_; omega) | (refine kd_IBOOK_noted0 ?_; omega) | (refine kd_SUMS0 ?_; omega) | (refine kd_TERMS0 ?_; omega) | (refine kd_FACT0 ?_; omega) | (simp (disch := omega) only [tw])) only [↓x212_0, ↓x212_1, ↓x212_4, ↓x212_7, ↓x212_8, ↓x212_9, ↓x212_10, ↓x212_11, ↓x212_14, ↓x212_15, ↓x212_16, ↓x212_19, ↓x212_20, ↓x212_23, ↓x212_26, ↓x212_27, ↓x212_30, ↓x212_31, ↓x212_34, ↓x212_37, ↓x212_38, ↓x212_39, ↓x212_40, ↓x212_43, ↓x212_46, ↓x212_47, ↓x212_48, ↓x212_51, ↓x212_53, ↓x212_54, ↓x212_57, ↓x212_58, ↓x212_59, ↓x212_60, ↓x212_61, ↓x212_64, ↓x212_65, ↓x212_66, ↓x212_69, ↓x212_70, ↓x212_71, ↓x212_74, ↓x212_75, ↓x212_76, ↓x212_80, ↓x212_81, ↓x212_84, ↓x212_85, ↓x212_88, ↓x212_91, ↓x212_92, ↓x212_93, ↓x212_96, ↓x212_97, ↓x212_100, ↓x212_103, ↓x212_104, ↓x212_107, ↓x212_108, ↓x212_109, ↓x212_111, ↓x212_112, ↓x212_115, ↓x212_116, ↓x212_119, ↓x212_120, ↓x212_121, ↓x212_124, ↓x212_125, ↓x212_126, ↓x212_127, ↓x212_130, ↓x212_133, ↓x212_134, ↓x212_135, ↓x212_138, ↓x212_139, evl_e, ↓endQ_e, ↓gI_0, ↓gL_0, ↓gR_0, ↓gI_s, ↓gL_s, ↓gR_s, ↓pI_i, ↓pL_l, ↓pR_r, ↓p1_i, ↓p1_r, ↓pE_e, ↓pN_z, ↓pN_1, ↓pN_2, ↓pN_3, ↓pN_4, ↓pN_5, ↓pN_6, ↓rl_0, ↓rl_1, ↓rl_2, ↓rl_3, ↓rl_4, ↓hdR_r, ↓hdO_r, va_rf_s, sL1_0, sL1_ss, sL1_1i, sL1_1r, sL1_1n, sL1_1l, sL2_0, sL2_ss, sL2_1i, sL2_1r, sL2_1n, sL2_1l, List.getElem?_cons_zero, List.getElem?_cons_succ, Option.toList_some, Option.toList_none, List.cons_append, List.nil_append, Nat.reduceAdd, true_and, and_true, and_self, wA_s, wA_w, ↓reduceIte, ite_self, true_or, or_true, tv, tc, tl, tg, t0, tz, tw, tu, tup, tuL, nI_add, pk_mul, upd_s, tup_s, tuL_s, nI_0, i1, i2, i3, i4, nm1, d2, bI_t, e_10, kd_454, k22, k21]
    have G0 : NG 0 (wA I 454 (upd (upd (upd (I 454) 22 0) 24 0) 28 0)) (wA K 454 (upd (upd (upd (K 454) 22 0) 24 0) 28 0)) := ⟨fun e a b c d => by rw [tw a, tw a]; exact fK.1 e a b c d, fun f a b c => by rw [wA_s, wA_s, tu (by omega), tu b, tu a, tu (by omega), tu b, tu a, k1.2 f a b, wA_s, tu b, tu a], fun a q => absurd q (Nat.not_lt_zero a)⟩
    refine hS2 r1 fz _ _ (M2_f (w := 0) h G0 (by rw [wA_s, upd_s]) (by rw [wA_s, tu (by decide), tu (by decide), upd_s]; rfl) (Nat.zero_le z) (by rw [wA_s, tu (by decide), upd_s]; rfl) (fun l hl => absurd hl (Nat.not_lt_zero l))) fun M hM => ?_
    have fM : (∀ e, ¬ e = 454 → ¬ e = 468 → ¬ e = 474 → ¬ e = 483 → M e = I e) ∧ ∀ f, ¬ (21 ≤ f ∧ f ≤ 30) → M 454 f = I 454 f := ⟨fun e a b c d => by rw [hM.1.1 e a b c d, tw a]; exact fK.1 e a b c d, fun f a => by rw [hM.1.2.1 f (by omega) (by omega) (by omega), wA_s, tu (by omega), tu (by omega), tu (by omega)]; exact fK.2 f a⟩
    by_cases r0 : rS r = 0
    · obtain ⟨m28', m22', m24', m68', mv⟩ := hM.2.1 r0
      have e2 : codR r = 1 := by unfold codR; rw [r0]; rfl
      have v0 : M 483 0 = rV r 0 := by have := mv 0 (by decide); rwa [Nat.zero_add] at this
      have v1 : M 483 1 = rV r 1 := mv 1 (by decide)
      have v2 : M 483 2 = rV r 2 := mv 2 (by decide)
      have v3 : M 483 3 = rV r 3 := mv 3 (by decide)
      rw [e2] at hQ
      have fin := rd_all (d := d + 4) (I := wA M 454 (upd (M 454) 21 0)) (L := L) (n := n) (s := s) (Q := Q) (rr := rr) hm hr
      rw [tw (show ¬ 483 = 454 by decide), tw (show ¬ 474 = 454 by decide), tw (show ¬ 455 = 454 by decide), v0, v1, v2, v3] at fin
      simp (disch := first | assumption | omega | decide | (refine kdN ?_; omega) | (refine kdS ?_; omega) | (refine kd_REGS0 ?_; omega) | (refine kd_BOOK_noted0 ?_; omega) | (refine kd_IREGS0 ?_; omega) | (refine kd_IBOOK_noted0 ?_; omega) | (refine kd_SUMS0 ?_; omega) | (refine kd_TERMS0 ?_; omega) | (refine kd_FACT0 ?_; omega) | (simp (disch := omega) only [tw])) only [↓x212_0, ↓x212_1, ↓x212_4, ↓x212_7, ↓x212_8, ↓x212_9, ↓x212_10, ↓x212_11, ↓x212_14, ↓x212_15, ↓x212_16, ↓x212_19, ↓x212_20, ↓x212_23, ↓x212_26, ↓x212_27, ↓x212_30, ↓x212_31, ↓x212_34, ↓x212_37, ↓x212_38, ↓x212_39, ↓x212_40, ↓x212_43, ↓x212_46, ↓x212_47, ↓x212_48, ↓x212_51, ↓x212_53, ↓x212_54, ↓x212_57, ↓x212_58, ↓x212_59, ↓x212_60, ↓x212_61, ↓x212_64, ↓x212_65, ↓x212_66, ↓x212_69, ↓x212_70, ↓x212_71, ↓x212_74, ↓x212_75, ↓x212_76, ↓x212_79, ↓x212_80, ↓x212_81, ↓x212_84, ↓x212_85, ↓x212_88, ↓x212_91, ↓x212_92, ↓x212_93, ↓x212_96, ↓x212_97, ↓x212_100, ↓x212_103, ↓x212_104, ↓x212_107, ↓x212_108, ↓x212_109, ↓x212_111, ↓x212_112, ↓x212_115, ↓x212_116, ↓x212_119, ↓x212_120, ↓x212_121, ↓x212_124, ↓x212_125, ↓x212_126, ↓x212_127, ↓x212_130, ↓x212_133, ↓x212_134, ↓x212_135, ↓x212_138, ↓x212_139, evl_e, ↓endQ_e, ↓gI_0, ↓gL_0, ↓gR_0, ↓gI_s, ↓gL_s, ↓gR_s, ↓pI_i, ↓pL_l, ↓pR_r, ↓p1_i, ↓p1_r, ↓pE_e, ↓pN_z, ↓pN_1, ↓pN_2, ↓pN_3, ↓pN_4, ↓pN_5, ↓pN_6, ↓rl_0, ↓rl_1, ↓rl_2, ↓rl_3, ↓rl_4, ↓hdR_r, ↓hdO_r, va_rf_s, sL1_0, sL1_ss, sL1_1i, sL1_1r, sL1_1n, sL1_1l, sL2_0, sL2_ss, sL2_1i, sL2_1r, sL2_1n, sL2_1l, List.getElem?_cons_zero, List.getElem?_cons_succ, Option.toList_some, Option.toList_none, List.cons_append, List.nil_append, Nat.reduceAdd, true_and, and_true, and_self, wA_s, wA_w, ↓reduceIte, ite_self, true_or, or_true, tv, tc, tl, tg, t0, tz, tw, tu, tup, tuL, nI_add, pk_mul, upd_s, tup_s, tuL_s, nI_0, i1, i2, i3, i4, nm1, kd_454, m28']
      refine Eq.mpr fin ?_
      refine hQ _ ⟨fun e a b c d f => ?_, fun f a => ?_, ?_, fun _ => ⟨?_, ?_, ?_, ?_⟩, fun q => absurd r0 q⟩
      · rw [tw b, tw d, tw a]; exact fM.1 e a (by omega) d f
      · rw [tw (by decide), tw (by decide), wA_s, tu (by omega)]; exact fM.2 f a
      · rw [tw (by decide), tw (by decide), wA_s, upd_s]
      · rw [tw (by decide), tw (by decide), wA_s, tu (by decide), hM.1.2.1 27 (by decide) (by decide) (by decide), wA_s, tu (by decide), tu (by decide), tu (by decide), k1.2 27 (by decide) (by decide), wA_s, tu (by decide), tu (by decide)]
      · rw [tw (by decide), tw (by decide), tw (by decide)]; exact fM.1 469 (by decide) (by decide) (by decide) (by decide)
      · rw [tw (by decide), tw (by decide), tw (by decide)]; exact fM.1 470 (by decide) (by decide) (by decide) (by decide)
      · rw [wA_s, fM.1 455 (by decide) (by decide) (by decide) (by decide)]
    · obtain ⟨m28', m29', m30', m24', m68'⟩ := hM.2.2 r0
      have c0 : ¬ cod r = 0 := cod_0
      have D4 := (hB.2.2.2.1 r0).2
      have e2 : codR r = cod r := by
        unfold codR cod
        rcases hB.1 with q | q | q | q
        · exact absurd q r0
        · exact absurd q r1
        · rw [q, if_neg (by decide), if_pos rfl, if_pos rfl]
        · rw [q, if_neg (by decide), if_neg (by decide), if_pos rfl, if_neg (by decide)]
      rw [e2] at hQ
      simp (disch := first | assumption | omega | decide | (refine kdN ?_; omega) | (refine kdS ?_; omega) | (refine kd_REGS0 ?_; omega) | (refine kd_BOOK_noted0 ?_; omega) | (refine kd_IREGS0 ?_; omega) | (refine kd_IBOOK_noted0 ?_; omega) | (refine kd_SUMS0 ?_; omega) | (refine kd_TERMS0 ?_; omega) | (refine kd_FACT0 ?_; omega) | (simp (disch := omega) only [tw])) only [↓x212_0, ↓x212_1, ↓x212_4, ↓x212_7, ↓x212_8, ↓x212_9, ↓x212_10, ↓x212_11, ↓x212_14, ↓x212_15, ↓x212_16, ↓x212_19, ↓x212_20, ↓x212_23, ↓x212_26, ↓x212_27, ↓x212_30, ↓x212_31, ↓x212_34, ↓x212_37, ↓x212_38, ↓x212_39, ↓x212_40, ↓x212_43, ↓x212_46, ↓x212_47, ↓x212_48, ↓x212_51, ↓x212_53, ↓x212_54, ↓x212_57, ↓x212_58, ↓x212_59, ↓x212_60, ↓x212_61, ↓x212_64, ↓x212_65, ↓x212_66, ↓x212_69, ↓x212_70, ↓x212_71, ↓x212_74, ↓x212_75, ↓x212_76, ↓x212_79, ↓x212_80, ↓x212_81, ↓x212_84, ↓x212_85, ↓x212_88, ↓x212_91, ↓x212_92, ↓x212_93, ↓x212_96, ↓x212_97, ↓x212_100, ↓x212_103, ↓x212_104, ↓x212_107, ↓x212_108, ↓x212_109, ↓x212_111, ↓x212_112, ↓x212_115, ↓x212_116, ↓x212_119, ↓x212_120, ↓x212_121, ↓x212_124, ↓x212_125, ↓x212_126, ↓x212_127, ↓x212_130, ↓x212_133, ↓x212_134, ↓x212_135, ↓x212_138, ↓x212_139, evl_e, ↓endQ_e, ↓gI_0, ↓gL_0, ↓gR_0, ↓gI_s, ↓gL_s, ↓gR_s, ↓pI_i, ↓pL_l, ↓pR_r, ↓p1_i, ↓p1_r, ↓pE_e, ↓pN_z, ↓pN_1, ↓pN_2, ↓pN_3, ↓pN_4, ↓pN_5, ↓pN_6, ↓rl_0, ↓rl_1, ↓rl_2, ↓rl_3, ↓rl_4, ↓hdR_r, ↓hdO_r, va_rf_s, sL1_0, sL1_ss, sL1_1i, sL1_1r, sL1_1n, sL1_1l, sL2_0, sL2_ss, sL2_1i, sL2_1r, sL2_1n, sL2_1l, List.getElem?_cons_zero, List.getElem?_cons_succ, Option.toList_some, Option.toList_none, List.cons_append, List.nil_append, Nat.reduceAdd, true_and, and_true, and_self, wA_s, wA_w, ↓reduceIte, ite_self, true_or, or_true, tv, tc, tl, tg, t0, tz, tw, tu, tup, tuL, nI_add, pk_mul, upd_s, tup_s, tuL_s, nI_0, i1, i2, i3, i4, nm1, kd_454, m28', m29', m30', c0]
      refine m_tells hm D4 (by rw [wA_s, tu (by decide)]; exact m24') fun J hJ => ?_
      have j28 : J 454 28 = cod r := by rw [hJ.2.1 28 (by decide), wA_s, tu (by decide)]; exact m28'
      simp (disch := first | assumption | omega | decide | (refine kdN ?_; omega) | (refine kdS ?_; omega) | (refine kd_REGS0 ?_; omega) | (refine kd_BOOK_noted0 ?_; omega) | (refine kd_IREGS0 ?_; omega) | (refine kd_IBOOK_noted0 ?_; omega) | (refine kd_SUMS0 ?_; omega) | (refine kd_TERMS0 ?_; omega) | (refine kd_FACT0 ?_; omega) | (simp (disch := omega) only [tw])) only [↓x212_0, ↓x212_1, ↓x212_4, ↓x212_7, ↓x212_8, ↓x212_9, ↓x212_10, ↓x212_11, ↓x212_14, ↓x212_15, ↓x212_16, ↓x212_19, ↓x212_20, ↓x212_23, ↓x212_26, ↓x212_27, ↓x212_30, ↓x212_31, ↓x212_34, ↓x212_37, ↓x212_38, ↓x212_39, ↓x212_40, ↓x212_43, ↓x212_46, ↓x212_47, ↓x212_48, ↓x212_51, ↓x212_53, ↓x212_54, ↓x212_57, ↓x212_58, ↓x212_59, ↓x212_60, ↓x212_61, ↓x212_64, ↓x212_65, ↓x212_66, ↓x212_69, ↓x212_70, ↓x212_71, ↓x212_74, ↓x212_75, ↓x212_76, ↓x212_79, ↓x212_80, ↓x212_81, ↓x212_84, ↓x212_85, ↓x212_88, ↓x212_91, ↓x212_92, ↓x212_93, ↓x212_96, ↓x212_97, ↓x212_100, ↓x212_103, ↓x212_104, ↓x212_107, ↓x212_108, ↓x212_109, ↓x212_111, ↓x212_112, ↓x212_115, ↓x212_116, ↓x212_119, ↓x212_120, ↓x212_121, ↓x212_124, ↓x212_125, ↓x212_126, ↓x212_127, ↓x212_130, ↓x212_133, ↓x212_134, ↓x212_135, ↓x212_138, ↓x212_139, evl_e, ↓endQ_e, ↓gI_0, ↓gL_0, ↓gR_0, ↓gI_s, ↓gL_s, ↓gR_s, ↓pI_i, ↓pL_l, ↓pR_r, ↓p1_i, ↓p1_r, ↓pE_e, ↓pN_z, ↓pN_1, ↓pN_2, ↓pN_3, ↓pN_4, ↓pN_5, ↓pN_6, ↓rl_0, ↓rl_1, ↓rl_2, ↓rl_3, ↓rl_4, ↓hdR_r, ↓hdO_r, va_rf_s, sL1_0, sL1_ss, sL1_1i, sL1_1r, sL1_1n, sL1_1l, sL2_0, sL2_ss, sL2_1i, sL2_1r, sL2_1n, sL2_1l, List.getElem?_cons_zero, List.getElem?_cons_succ, Option.toList_some, Option.toList_none, List.cons_append, List.nil_append, Nat.reduceAdd, true_and, and_true, and_self, wA_s, wA_w, ↓reduceIte, ite_self, true_or, or_true, tv, tc, tl, tg, t0, tz, tw, tu, tup, tuL, nI_add, pk_mul, upd_s, tup_s, tuL_s, nI_0, i1, i2, i3, i4, nm1, kd_454, j28]
      exact hQ _ (MT_tq2 fM hJ r0 rfl m68' rfl rfl)
theorem top_b {z : Nat} {o : Nat → Nat} {r : Res} (h : RB z 0 0 r) : (¬ rS (topR z o r) = 0 → rD (topR z o r) ≤ 4) ∧ (rS (topR z o r) = 0 → fit4 (rV (topR z o r)) = true) := by
  unfold topR
  by_cases r1 : rS r = 1
  · rw [if_pos r1]
    exact ⟨fun q => (h.2.2.2.1 q).2, h.2.2.2.2.1⟩
  · rw [if_neg r1]
    by_cases c : rA r < z
    · rw [if_pos c]
      exact ⟨fun _ => Nat.zero_le 4, fun q => absurd (show (1 : Nat) = 0 from q) (by decide)⟩
    · rw [if_neg c]
      exact ⟨fun q => (h.2.2.2.1 q).2, h.2.2.2.2.1⟩
/-- behind both reads the memories stand beside each other -/
theorem rd_REL {x rr : Nat} {r : Res} {I J K : Nat → Nat → Int32} {L : Nat → Nat → Int64} {P : Nat → Nat → Option Nat} (h : REL x I L P) (hr : rr < 6) (hD : ¬ rS r = 0 → rD r ≤ 4) (hf : rS r = 0 → fit4 (rV r) = true) (hJ : KT (44 + rr) r I J) (hK : MT rr r J K) : REL x K L P := by
  obtain ⟨hx, hc, hp, hm, hW, hN, hM, hPL, hDD, hRG, hRW, hBK, hIM, hTP, hWY, hWK⟩ := id h
  obtain ⟨j1, j2, j3, j4⟩ := hJ
  obtain ⟨k1, k2, k3, k4, k5⟩ := hK
  have e : ∀ a, ¬ a = 454 → ¬ a = 455 → ¬ (468 ≤ a ∧ a ≤ 470) → ¬ a = 474 → ¬ a = 483 → (a < 430 ∨ a = 431 ∨ 454 ≤ a) → ¬ a = 44 + rr → K a = I a := fun a a1 a2 a3 a4 a5 a6 a7 => (k1 a a1 a2 a3 a4 a5).trans (j1 a a6 a7)
  have j455 : J 455 = I 455 := j1 455 (by omega) (by omega)
  refine REL_g h (fun a ha => e a (by omega) (by omega) (by omega) (by omega) (by omega) (by omega) (by omega)) (fun k hk => ?_) ?_ ?_ ?_
  · rw [k2 k hk, j1 454 (by omega) (by omega)]
  · intro r' hr' k hk
    rw [cut_e (by omega) (by omega)]
    have kq : K (44 + r') = J (44 + r') := k1 _ (by omega) (by omega) (by omega) (by omega) (by omega)
    have old := RG_m hr' hRG k hk
    by_cases s0 : rS r = 0
    · have kk := (k4 s0).2.2.2
      rw [kk, kq, j455]
      by_cases er : r' = rr
      · subst er
        have v := (j3 s0).2 k hk
        have ft := (fit4_m.mp (hf s0)) k hk
        rw [v]
        refine ⟨?_, ft⟩
        rcases (by omega : k = 0 ∨ k = 1 ∨ k = 2 ∨ k = 3) with rfl | rfl | rfl | rfl
        · exact w4_0.symm
        · exact w4_1.symm
        · exact w4_2.symm
        · exact w4_3.symm
      · rw [w4_n (by omega), j1 (44 + r') (by omega) (by omega)]
        exact old
    · have kk := (k5 s0).1
      have jq := (j4 s0).1
      rw [kk, kq, j455]
      by_cases er : r' = rr
      · subst er
        rw [jq]
        exact old
      · rw [j1 (44 + r') (by omega) (by omega)]
        exact old
  · have k430 : K 430 10 = 0 := by rw [k1 430 (by decide) (by decide) (by decide) (by decide) (by decide)]; exact j2
    rw [k430, k3]
    exact ⟨rfl, 0, by decide, rfl, fun i hi => absurd hi (Nat.not_lt_zero i)⟩
  · have k430 : K 430 = J 430 := k1 430 (by decide) (by decide) (by decide) (by decide) (by decide)
    have k433 : K 433 = J 433 := k1 433 (by decide) (by decide) (by decide) (by decide) (by decide)
    have k434 : K 434 = J 434 := k1 434 (by decide) (by decide) (by decide) (by decide) (by decide)
    rw [k430, k433, k434]
    by_cases s0 : rS r = 0
    · obtain ⟨a1, a2, a3, -⟩ := k4 s0
      obtain ⟨⟨w1, w2, w3⟩, -⟩ := j3 s0
      rw [a1, a2, a3, w1, w2, w3, j1 454 (by omega) (by omega), j1 469 (by omega) (by omega), j1 470 (by omega) (by omega)]
      exact hWY
    · obtain ⟨-, a1, a2, a3, a4⟩ := k5 s0
      obtain ⟨-, b1, b2, b3, b4⟩ := j4 s0
      have D4 := hD s0
      refine ⟨b1.trans a1.symm, rD r + 1, by omega, b1, fun i hi => ?_⟩
      by_cases ei : i = rD r
      · subst ei
        exact ⟨b3.trans a3.symm, b4.trans a4.symm⟩
      · exact ⟨(b2 i (by omega)).1.trans (a2 i (by omega)).1.symm, (b2 i (by omega)).2.trans (a2 i (by omega)).2.symm⟩
