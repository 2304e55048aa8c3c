/-! case read: the reference's second pass, leaves -/
def M2 (T : Nat → Nat) (z x : Nat) (g : Nat → Nat → Int32) (k : Nat) (o : Nat → Nat) (i : Nat) (I : Nat → Nat → Int32) : Prop := M1 T z k o i I ∧ I 454 28 = 0 ∧ x < 11 ∧ (∀ r, r < 6 → ∀ l, l < 4 → I 455 (4 * r + l) = g r l) ∧ I 454 6 = nI (sN x) ∧ ∀ s, s < sN x → ∀ l, l < 4 → I 456 (4 * s + l) = stV x s l
def NG (w : Nat) (I J : Nat → Nat → Int32) : Prop := (∀ e, ¬ e = 454 → ¬ e = 468 → ¬ e = 474 → ¬ e = 483 → J e = I e) ∧ (∀ f, ¬ f = 22 → ¬ f = 24 → ¬ (28 ≤ f ∧ f ≤ 30) → J 454 f = I 454 f) ∧ ∀ a, a < w → J 483 a = I 483 a
def cod (r : Res) : Int32 := if rS r = 3 then -5 else -2
def NR (w k : Nat) (o : Nat → Nat) (r : Res) (I J : Nat → Nat → Int32) : Prop := NG w I J ∧ (rS r = 0 → J 454 28 = 0 ∧ J 454 22 = nI (rA r) ∧ J 454 24 = nI k ∧ (∀ j, j < k → J 468 j = nI (o j)) ∧ ∀ l, l < 4 → J 483 (w + l) = rV r l) ∧ (¬ rS r = 0 → J 454 28 = cod r ∧ J 454 29 = nI (rS r) ∧ J 454 30 = nI (rN r) ∧ J 454 24 = nI (rD r) ∧ ∀ j, j < rD r → J 468 j = nI (rO r j))
def CNp (T : Nat → Nat) (z x : Nat) (g : Nat → Nat → Int32) (L : Nat → Nat → Int64) (P : Nat → Nat → Option Nat) (n s y D w k : Nat) (o : Nat → Nat) (i : Nat) (r : Res) : Prop := ¬ rS r = 1 → fgT T z (rA r) = false → ∀ (I : Nat → Nat → Int32) (Q : Qm), M2 T z x g k o i I → (∀ J, NR w k o r I J → Q none (J, L, P, n, s)) → Call D y [.ref 454, .int (nI w)] (I, L, P, n, s) Q
theorem cod_0 {r : Res} : ¬ cod r = 0 := by
  unfold cod
  split <;> decide
theorem NG_r {w : Nat} {I : Nat → Nat → Int32} : NG w I I := ⟨fun _ _ _ _ _ => rfl, fun _ _ _ _ => rfl, fun _ _ => rfl⟩
theorem NG_t {w : Nat} {I J K : Nat → Nat → Int32} (h : NG w I J) (h' : NG w J K) : NG w I K := ⟨fun e a b c d => (h'.1 e a b c d).trans (h.1 e a b c d), fun f a b c => (h'.2.1 f a b c).trans (h.2.1 f a b c), fun a q => (h'.2.2 a q).trans (h.2.2 a q)⟩
theorem NG_m {w w' : Nat} {I J : Nat → Nat → Int32} (h : NG w I J) (hw : w' ≤ w) : NG w' I J := ⟨h.1, h.2.1, fun a q => h.2.2 a (by omega)⟩
theorem NG_g {w : Nat} {I J : Nat → Nat → Int32} (h : MG I J) : NG w I J := ⟨fun e a b _ _ => h.1 e a b, fun f a b _ => h.2 f a b, fun a _ => by rw [h.1 483 (by decide) (by decide)]⟩
theorem NG_w {w : Nat} {I J : Nat → Nat → Int32} {F : Nat → Int32} (h : NG w I J) (hF : ∀ a, a < w → F a = I 483 a) : NG w I (wA J 483 F) := ⟨fun e a b c d => by rw [tw d]; exact h.1 e a b c d, fun f a b c => by rw [tw (by decide)]; exact h.2.1 f a b c, fun a q => by rw [wA_s]; exact hF a q⟩
theorem M2_f {T : Nat → Nat} {z x k k' i j w : Nat} {g : Nat → Nat → Int32} {o o' : Nat → Nat} {I J : Nat → Nat → Int32} (h : M2 T z x g k o i I) (f : NG w I J) (h28 : J 454 28 = 0) (h22 : J 454 22 = nI j) (hj : j ≤ z) (h24 : J 454 24 = nI k') (h68 : ∀ l, l < k' → J 468 l = nI (o' l)) : M2 T z x g k' o' j J := by
  obtain ⟨⟨h1, h2, h3, h4, h5, h6, h7, h8⟩, a1, a2, a3, a4, a5⟩ := h
  refine ⟨⟨h1, h2, (f.2.1 21 (by decide) (by decide) (by decide)).trans h3, fun l hl => ?_, h22, hj, h24, h68⟩, h28, a2, fun r hr l hl => ?_, (f.2.1 6 (by decide) (by decide) (by decide)).trans a4, fun s hs l hl => ?_⟩
  · rw [f.1 467 (by decide) (by decide) (by decide) (by decide)]; exact h4 l hl
  · rw [f.1 455 (by decide) (by decide) (by decide) (by decide)]; exact a3 r hr l hl
  · rw [f.1 456 (by decide) (by decide) (by decide) (by decide)]; exact a5 s hs l hl
theorem M2_a {T : Nat → Nat} {z x k i j : Nat} {g : Nat → Nat → Int32} {o : Nat → Nat} {I : Nat → Nat → Int32} (h : M2 T z x g k o i I) (hj : j ≤ z) : M2 T z x g k o j (aM I j) := M2_f (w := 0) h (NG_g MG_a) (by rw [aM_n (by decide)]; exact h.2.1) aM_s hj (by rw [aM_n (by decide)]; exact h.1.2.2.2.2.2.2.1) (fun l hl => by rw [aM_o (by decide)]; exact h.1.2.2.2.2.2.2.2 l hl)
theorem NR_t {w k : Nat} {o : Nat → Nat} {r : Res} {I J K : Nat → Nat → Int32} (f : NG w I J) (h : NR w k o r J K) : NR w k o r I K := ⟨NG_t f h.1, h.2⟩
set_option maxRecDepth 100000 in
theorem m_nhl {d : Nat} {L : Nat → Nat → Int64} {P : Nat → Nat → Option Nat} {n s : Nat} {Q : Qm} {T : Nat → Nat} {z k : Nat} {o : Nat → Nat} {le : Int32} (hm : MP P) : ∀ m v i (I : Nat → Nat → Int32), fgT T z (i + ndT T z m i) = false → M1 T z k o i I → WP (Call (d + 3)) (kod 206) (n, s) (endQ n s Q) 31 [.ref 454, .int le, .int (nI v)] [] (I, L, P, n, s) = WP (Call (d + 3)) (kod 206) (n, s) (endQ n s Q) 64 [.ref 454, .int le, .int (nI (nvT T z m i v))] [] (aM I (i + ndT T z m i), L, P, n, s)
  | 0, v, i, I, hf, h => by
    have e1 : aM I (i + ndT T z 0 i) = I := aM_id h.2.2.2.2.1
    have hf : fgT T z i = false := hf
    rw [e1, x206_31]
    simp (disch := first | assumption | omega | decide | (refine kdN ?_; omega) | (refine kdS ?_; omega) | (refine kd_REGS0 ?_; omega) | (refine kd_BOOK_noted0 ?_; omega) | (refine kd_IREGS0 ?_; omega) | (refine kd_IBOOK_noted0 ?_; omega) | (refine kd_SUMS0 ?_; omega) | (refine kd_TERMS0 ?_; omega) | (refine kd_FACT0 ?_; omega) | (simp (disch := omega) only [tw])) only [↓x206_0, ↓x206_1, ↓x206_4, ↓x206_6, ↓x206_9, ↓x206_10, ↓x206_13, ↓x206_14, ↓x206_15, ↓x206_16, ↓x206_19, ↓x206_20, ↓x206_21, ↓x206_24, ↓x206_25, ↓x206_26, ↓x206_29, ↓x206_30, ↓x206_32, ↓x206_35, ↓x206_38, ↓x206_40, ↓x206_41, ↓x206_42, ↓x206_43, ↓x206_46, ↓x206_47, ↓x206_49, ↓x206_50, ↓x206_51, ↓x206_52, ↓x206_53, ↓x206_56, ↓x206_57, ↓x206_58, ↓x206_61, ↓x206_65, ↓x206_68, ↓x206_69, ↓x206_70, ↓x206_73, ↓x206_74, evl_e, ↓endQ_e, ↓gI_0, ↓gL_0, ↓gR_0, ↓gI_s, ↓gL_s, ↓gR_s, ↓pI_i, ↓pL_l, ↓pR_r, ↓p1_i, ↓p1_r, ↓pE_e, ↓pN_z, ↓pN_1, ↓pN_2, ↓pN_3, ↓pN_4, ↓pN_5, ↓pN_6, ↓rl_0, ↓rl_1, ↓rl_2, ↓rl_3, ↓rl_4, ↓hdR_r, ↓hdO_r, va_rf_s, sL1_0, sL1_ss, sL1_1i, sL1_1r, sL1_1n, sL1_1l, sL2_0, sL2_ss, sL2_1i, sL2_1r, sL2_1n, sL2_1l, List.getElem?_cons_zero, List.getElem?_cons_succ, Option.toList_some, Option.toList_none, List.cons_append, List.nil_append, Nat.reduceAdd, true_and, and_true, and_self, wA_s, wA_w, ↓reduceIte, ite_self, true_or, or_true, tv, tc, tl, tg, t0, tz, tw, tu, tup, tuL, nI_add, pk_mul, upd_s, tup_s, tuL_s, nI_0, i1, i2, i3, i4, nm1, ↓m_isf hm h, hf, bI_f, kd_454]
    rfl
  | m + 1, v, i, I, hf, h => by
    have e22 := h.2.2.2.2.1
    cases hg : fgT T z i
    · have e1 : aM I (i + 0) = I := aM_id e22
      unfold nvT ndT
      rw [hg, if_neg (by decide), if_neg (by decide), e1, x206_31]
      simp (disch := first | assumption | omega | decide | (refine kdN ?_; omega) | (refine kdS ?_; omega) | (refine kd_REGS0 ?_; omega) | (refine kd_BOOK_noted0 ?_; omega) | (refine kd_IREGS0 ?_; omega) | (refine kd_IBOOK_noted0 ?_; omega) | (refine kd_SUMS0 ?_; omega) | (refine kd_TERMS0 ?_; omega) | (refine kd_FACT0 ?_; omega) | (simp (disch := omega) only [tw])) only [↓x206_0, ↓x206_1, ↓x206_4, ↓x206_6, ↓x206_9, ↓x206_10, ↓x206_13, ↓x206_14, ↓x206_15, ↓x206_16, ↓x206_19, ↓x206_20, ↓x206_21, ↓x206_24, ↓x206_25, ↓x206_26, ↓x206_29, ↓x206_30, ↓x206_32, ↓x206_35, ↓x206_38, ↓x206_40, ↓x206_41, ↓x206_42, ↓x206_43, ↓x206_46, ↓x206_47, ↓x206_49, ↓x206_50, ↓x206_51, ↓x206_52, ↓x206_53, ↓x206_56, ↓x206_57, ↓x206_58, ↓x206_61, ↓x206_65, ↓x206_68, ↓x206_69, ↓x206_70, ↓x206_73, ↓x206_74, evl_e, ↓endQ_e, ↓gI_0, ↓gL_0, ↓gR_0, ↓gI_s, ↓gL_s, ↓gR_s, ↓pI_i, ↓pL_l, ↓pR_r, ↓p1_i, ↓p1_r, ↓pE_e, ↓pN_z, ↓pN_1, ↓pN_2, ↓pN_3, ↓pN_4, ↓pN_5, ↓pN_6, ↓rl_0, ↓rl_1, ↓rl_2, ↓rl_3, ↓rl_4, ↓hdR_r, ↓hdO_r, va_rf_s, sL1_0, sL1_ss, sL1_1i, sL1_1r, sL1_1n, sL1_1l, sL2_0, sL2_ss, sL2_1i, sL2_1r, sL2_1n, sL2_1l, List.getElem?_cons_zero, List.getElem?_cons_succ, Option.toList_some, Option.toList_none, List.cons_append, List.nil_append, Nat.reduceAdd, true_and, and_true, and_self, wA_s, wA_w, ↓reduceIte, ite_self, true_or, or_true, tv, tc, tl, tg, t0, tz, tw, tu, tup, tuL, nI_add, pk_mul, upd_s, tup_s, tuL_s, nI_0, i1, i2, i3, i4, nm1, ↓m_isf hm h, hg, bI_f, kd_454]
    · have q := fg_z hg
      unfold ndT at hf
      rw [if_pos hg] at hf
      have e10 : 10 * nI v = nI (10 * v) := pk_mul 10 v
      have e48 : nI (10 * v + chT T z i) - 48 = nI (v * 10 + (chT T z i - 48)) := by
        rw [show v * 10 + (chT T z i - 48) = 10 * v + chT T z i - 48 by omega]
        exact pk_sub (b := 48) (by omega)
      unfold nvT ndT
      rw [if_pos hg, if_pos hg, x206_31]
      have ih := m_nhl (d := d) (L := L) (P := P) (n := n) (s := s) (Q := Q) (le := le) hm m (v * 10 + (chT T z i - 48)) (i + 1) (aM I (i + 1)) (by rw [show i + 1 + ndT T z m (i + 1) = i + (ndT T z m (i + 1) + 1) by omega]; exact hf) (M1_a h q.1)
      rw [aM_a, show i + 1 + ndT T z m (i + 1) = i + (ndT T z m (i + 1) + 1) by omega] at ih
      simp (disch := first | assumption | omega | decide | (refine kdN ?_; omega) | (refine kdS ?_; omega) | (refine kd_REGS0 ?_; omega) | (refine kd_BOOK_noted0 ?_; omega) | (refine kd_IREGS0 ?_; omega) | (refine kd_IBOOK_noted0 ?_; omega) | (refine kd_SUMS0 ?_; omega) | (refine kd_TERMS0 ?_; omega) | (refine kd_FACT0 ?_; omega) | (simp (disch := omega) only [tw])) only [↓x206_0, ↓x206_1, ↓x206_4, ↓x206_6, ↓x206_9, ↓x206_10, ↓x206_13, ↓x206_14, ↓x206_15, ↓x206_16, ↓x206_19, ↓x206_20, ↓x206_21, ↓x206_24, ↓x206_25, ↓x206_26, ↓x206_29, ↓x206_30, ↓x206_32, ↓x206_35, ↓x206_38, ↓x206_40, ↓x206_41, ↓x206_42, ↓x206_43, ↓x206_46, ↓x206_47, ↓x206_49, ↓x206_50, ↓x206_51, ↓x206_52, ↓x206_53, ↓x206_56, ↓x206_57, ↓x206_58, ↓x206_61, ↓x206_65, ↓x206_68, ↓x206_69, ↓x206_70, ↓x206_73, ↓x206_74, evl_e, ↓endQ_e, ↓gI_0, ↓gL_0, ↓gR_0, ↓gI_s, ↓gL_s, ↓gR_s, ↓pI_i, ↓pL_l, ↓pR_r, ↓p1_i, ↓p1_r, ↓pE_e, ↓pN_z, ↓pN_1, ↓pN_2, ↓pN_3, ↓pN_4, ↓pN_5, ↓pN_6, ↓rl_0, ↓rl_1, ↓rl_2, ↓rl_3, ↓rl_4, ↓hdR_r, ↓hdO_r, va_rf_s, sL1_0, sL1_ss, sL1_1i, sL1_1r, sL1_1n, sL1_1l, sL2_0, sL2_ss, sL2_1i, sL2_1r, sL2_1n, sL2_1l, List.getElem?_cons_zero, List.getElem?_cons_succ, Option.toList_some, Option.toList_none, List.cons_append, List.nil_append, Nat.reduceAdd, true_and, and_true, and_self, wA_s, wA_w, ↓reduceIte, ite_self, true_or, or_true, tv, tc, tl, tg, t0, tz, tw, tu, tup, tuL, nI_add, pk_mul, upd_s, tup_s, tuL_s, nI_0, i1, i2, i3, i4, nm1, ↓m_isf hm h, ↓m_sign hm h, hg, bI_t, e_10, kd_454, e22, aM_f, e10, e48]
      exact ih
/-- a number that ends where it ends -/
def numM (T : Nat → Nat) (z m a : Nat) : Int32 := if chT T z a = 45 then -nI (nvT T z m (a + sgT T z a) 0) else nI (nvT T z m (a + sgT T z a) 0)
set_option maxRecDepth 100000 in
theorem m_nh {d : Nat} {I : Nat → Nat → Int32} {L : Nat → Nat → Int64} {P : Nat → Nat → Option Nat} {n s : Nat} {Q : Qm} {T : Nat → Nat} {z k m i : Nat} {o : Nat → Nat} (hm : MP P) (h : M1 T z k o i I) (hf : fgT T z (i + sgT T z i + ndT T z m (i + sgT T z i)) = false) : Call (d + 4) 206 [.ref 454] (I, L, P, n, s) Q = Q (some (.int (numM T z m i))) (aM I (i + sgT T z i + ndT T z m (i + sgT T z i)), L, P, n, s) := by
  have e22 := h.2.2.2.2.1
  have s45 := sg_e (i := i) (c := 45) h.2.1 (by decide)
  unfold numM
  by_cases c : chT T z i = 45
  · have sg : sgT T z i = 1 := if_pos c
    rw [sg] at hf
    have s45 : (nI (chT T z i) = 45) = True := s45.trans (eq_true c)
    have l := m_nhl (d := d) (L := L) (P := P) (n := n) (s := s) (Q := Q) (le := 1) hm m 0 (i + 1) (aM I (i + 1)) hf (M1_a h (ch_z c (by decide)))
    rw [aM_a, nI_0] at l
    rw [sg, if_pos c]
    simp (disch := first | assumption | omega | decide | (refine kdN ?_; omega) | (refine kdS ?_; omega) | (refine kd_REGS0 ?_; omega) | (refine kd_BOOK_noted0 ?_; omega) | (refine kd_IREGS0 ?_; omega) | (refine kd_IBOOK_noted0 ?_; omega) | (refine kd_SUMS0 ?_; omega) | (refine kd_TERMS0 ?_; omega) | (refine kd_FACT0 ?_; omega) | (simp (disch := omega) only [tw])) only [↓c206, ↓x206_0, ↓x206_1, ↓x206_4, ↓x206_6, ↓x206_9, ↓x206_10, ↓x206_13, ↓x206_14, ↓x206_15, ↓x206_16, ↓x206_19, ↓x206_20, ↓x206_21, ↓x206_24, ↓x206_25, ↓x206_26, ↓x206_29, ↓x206_30, ↓x206_32, ↓x206_35, ↓x206_38, ↓x206_40, ↓x206_41, ↓x206_42, ↓x206_43, ↓x206_46, ↓x206_47, ↓x206_49, ↓x206_50, ↓x206_51, ↓x206_52, ↓x206_53, ↓x206_56, ↓x206_57, ↓x206_58, ↓x206_61, ↓x206_65, ↓x206_68, ↓x206_69, ↓x206_70, ↓x206_73, ↓x206_74, evl_e, ↓endQ_e, ↓gI_0, ↓gL_0, ↓gR_0, ↓gI_s, ↓gL_s, ↓gR_s, ↓pI_i, ↓pL_l, ↓pR_r, ↓p1_i, ↓p1_r, ↓pE_e, ↓pN_z, ↓pN_1, ↓pN_2, ↓pN_3, ↓pN_4, ↓pN_5, ↓pN_6, ↓rl_0, ↓rl_1, ↓rl_2, ↓rl_3, ↓rl_4, ↓hdR_r, ↓hdO_r, va_rf_s, sL1_0, sL1_ss, sL1_1i, sL1_1r, sL1_1n, sL1_1l, sL2_0, sL2_ss, sL2_1i, sL2_1r, sL2_1n, sL2_1l, List.getElem?_cons_zero, List.getElem?_cons_succ, Option.toList_some, Option.toList_none, List.cons_append, List.nil_append, Nat.reduceAdd, true_and, and_true, and_self, wA_s, wA_w, ↓reduceIte, ite_self, true_or, or_true, tv, tc, tl, tg, t0, tz, tw, tu, tup, tuL, nI_add, pk_mul, upd_s, tup_s, tuL_s, nI_0, i1, i2, i3, i4, nm1, kd_454, ↓m_sign hm h, s45, e_10, e22, aM_f]
    refine l.trans ?_
    rw [x206_64]
    simp (disch := first | assumption | omega | decide | (refine kdN ?_; omega) | (refine kdS ?_; omega) | (refine kd_REGS0 ?_; omega) | (refine kd_BOOK_noted0 ?_; omega) | (refine kd_IREGS0 ?_; omega) | (refine kd_IBOOK_noted0 ?_; omega) | (refine kd_SUMS0 ?_; omega) | (refine kd_TERMS0 ?_; omega) | (refine kd_FACT0 ?_; omega) | (simp (disch := omega) only [tw])) only [↓x206_0, ↓x206_1, ↓x206_4, ↓x206_6, ↓x206_9, ↓x206_10, ↓x206_13, ↓x206_14, ↓x206_15, ↓x206_16, ↓x206_19, ↓x206_20, ↓x206_21, ↓x206_24, ↓x206_25, ↓x206_26, ↓x206_29, ↓x206_30, ↓x206_32, ↓x206_35, ↓x206_38, ↓x206_40, ↓x206_41, ↓x206_42, ↓x206_43, ↓x206_46, ↓x206_47, ↓x206_49, ↓x206_50, ↓x206_51, ↓x206_52, ↓x206_53, ↓x206_56, ↓x206_57, ↓x206_58, ↓x206_61, ↓x206_65, ↓x206_68, ↓x206_69, ↓x206_70, ↓x206_73, ↓x206_74, evl_e, ↓endQ_e, ↓gI_0, ↓gL_0, ↓gR_0, ↓gI_s, ↓gL_s, ↓gR_s, ↓pI_i, ↓pL_l, ↓pR_r, ↓p1_i, ↓p1_r, ↓pE_e, ↓pN_z, ↓pN_1, ↓pN_2, ↓pN_3, ↓pN_4, ↓pN_5, ↓pN_6, ↓rl_0, ↓rl_1, ↓rl_2, ↓rl_3, ↓rl_4, ↓hdR_r, ↓hdO_r, va_rf_s, sL1_0, sL1_ss, sL1_1i, sL1_1r, sL1_1n, sL1_1l, sL2_0, sL2_ss, sL2_1i, sL2_1r, sL2_1n, sL2_1l, List.getElem?_cons_zero, List.getElem?_cons_succ, Option.toList_some, Option.toList_none, List.cons_append, List.nil_append, Nat.reduceAdd, true_and, and_true, and_self, wA_s, wA_w, ↓reduceIte, ite_self, true_or, or_true, tv, tc, tl, tg, t0, tz, tw, tu, tup, tuL, nI_add, pk_mul, upd_s, tup_s, tuL_s, nI_0, i1, i2, i3, i4, nm1, e_10]
  · have sg : sgT T z i = 0 := if_neg c
    rw [sg] at hf
    have s45 : (nI (chT T z i) = 45) = False := s45.trans (eq_false c)
    have l := m_nhl (d := d) (L := L) (P := P) (n := n) (s := s) (Q := Q) (le := 0) hm m 0 i I hf h
    rw [nI_0] at l
    rw [sg, if_neg c]
    simp (disch := first | assumption | omega | decide | (refine kdN ?_; omega) | (refine kdS ?_; omega) | (refine kd_REGS0 ?_; omega) | (refine kd_BOOK_noted0 ?_; omega) | (refine kd_IREGS0 ?_; omega) | (refine kd_IBOOK_noted0 ?_; omega) | (refine kd_SUMS0 ?_; omega) | (refine kd_TERMS0 ?_; omega) | (refine kd_FACT0 ?_; omega) | (simp (disch := omega) only [tw])) only [↓c206, ↓x206_0, ↓x206_1, ↓x206_4, ↓x206_6, ↓x206_9, ↓x206_10, ↓x206_13, ↓x206_14, ↓x206_15, ↓x206_16, ↓x206_19, ↓x206_20, ↓x206_21, ↓x206_24, ↓x206_25, ↓x206_26, ↓x206_29, ↓x206_30, ↓x206_32, ↓x206_35, ↓x206_38, ↓x206_40, ↓x206_41, ↓x206_42, ↓x206_43, ↓x206_46, ↓x206_47, ↓x206_49, ↓x206_50, ↓x206_51, ↓x206_52, ↓x206_53, ↓x206_56, ↓x206_57, ↓x206_58, ↓x206_61, ↓x206_65, ↓x206_68, ↓x206_69, ↓x206_70, ↓x206_73, ↓x206_74, evl_e, ↓endQ_e, ↓gI_0, ↓gL_0, ↓gR_0, ↓gI_s, ↓gL_s, ↓gR_s, ↓pI_i, ↓pL_l, ↓pR_r, ↓p1_i, ↓p1_r, ↓pE_e, ↓pN_z, ↓pN_1, ↓pN_2, ↓pN_3, ↓pN_4, ↓pN_5, ↓pN_6, ↓rl_0, ↓rl_1, ↓rl_2, ↓rl_3, ↓rl_4, ↓hdR_r, ↓hdO_r, va_rf_s, sL1_0, sL1_ss, sL1_1i, sL1_1r, sL1_1n, sL1_1l, sL2_0, sL2_ss, sL2_1i, sL2_1r, sL2_1n, sL2_1l, List.getElem?_cons_zero, List.getElem?_cons_succ, Option.toList_some, Option.toList_none, List.cons_append, List.nil_append, Nat.reduceAdd, true_and, and_true, and_self, wA_s, wA_w, ↓reduceIte, ite_self, true_or, or_true, tv, tc, tl, tg, t0, tz, tw, tu, tup, tuL, nI_add, pk_mul, upd_s, tup_s, tuL_s, nI_0, i1, i2, i3, i4, nm1, kd_454, ↓m_sign hm h, s45, e22]
    refine l.trans ?_
    rw [x206_64]
    simp (disch := first | assumption | omega | decide | (refine kdN ?_; omega) | (refine kdS ?_; omega) | (refine kd_REGS0 ?_; omega) | (refine kd_BOOK_noted0 ?_; omega) | (refine kd_IREGS0 ?_; omega) | (refine kd_IBOOK_noted0 ?_; omega) | (refine kd_SUMS0 ?_; omega) | (refine kd_TERMS0 ?_; omega) | (refine kd_FACT0 ?_; omega) | (simp (disch := omega) only [tw])) only [↓x206_0, ↓x206_1, ↓x206_4, ↓x206_6, ↓x206_9, ↓x206_10, ↓x206_13, ↓x206_14, ↓x206_15, ↓x206_16, ↓x206_19, ↓x206_20, ↓x206_21, ↓x206_24, ↓x206_25, ↓x206_26, ↓x206_29, ↓x206_30, ↓x206_32, ↓x206_35, ↓x206_38, ↓x206_40, ↓x206_41, ↓x206_42, ↓x206_43, ↓x206_46, ↓x206_47, ↓x206_49, ↓x206_50, ↓x206_51, ↓x206_52, ↓x206_53, ↓x206_56, ↓x206_57, ↓x206_58, ↓x206_61, ↓x206_65, ↓x206_68, ↓x206_69, ↓x206_70, ↓x206_73, ↓x206_74, evl_e, ↓endQ_e, ↓gI_0, ↓gL_0, ↓gR_0, ↓gI_s, ↓gL_s, ↓gR_s, ↓pI_i, ↓pL_l, ↓pR_r, ↓p1_i, ↓p1_r, ↓pE_e, ↓pN_z, ↓pN_1, ↓pN_2, ↓pN_3, ↓pN_4, ↓pN_5, ↓pN_6, ↓rl_0, ↓rl_1, ↓rl_2, ↓rl_3, ↓rl_4, ↓hdR_r, ↓hdO_r, va_rf_s, sL1_0, sL1_ss, sL1_1i, sL1_1r, sL1_1n, sL1_1l, sL2_0, sL2_ss, sL2_1i, sL2_1r, sL2_1n, sL2_1l, List.getElem?_cons_zero, List.getElem?_cons_succ, Option.toList_some, Option.toList_none, List.cons_append, List.nil_append, Nat.reduceAdd, true_and, and_true, and_self, wA_s, wA_w, ↓reduceIte, ite_self, true_or, or_true, tv, tc, tl, tg, t0, tz, tw, tu, tup, tuL, nI_add, pk_mul, upd_s, tup_s, tuL_s, nI_0, i1, i2, i3, i4, nm1]
    rfl
set_option maxRecDepth 100000 in
theorem m_fails {d : Nat} {I : Nat → Nat → Int32} {L : Nat → Nat → Int64} {P : Nat → Nat → Option Nat} {n s : Nat} {Q : Qm} {a b c : Int32} : Call (d + 1) 205 [.ref 454, .int a, .int b, .int c] (I, L, P, n, s) Q = Q none (wA I 454 (upd (upd (upd (I 454) 28 a) 29 b) 30 c), L, P, n, s) := by
  simp (disch := first | assumption | omega | decide | (refine kdN ?_; omega) | (refine kdS ?_; omega) | (refine kd_REGS0 ?_; omega) | (refine kd_BOOK_noted0 ?_; omega) | (refine kd_IREGS0 ?_; omega) | (refine kd_IBOOK_noted0 ?_; omega) | (refine kd_SUMS0 ?_; omega) | (refine kd_TERMS0 ?_; omega) | (refine kd_FACT0 ?_; omega) | (simp (disch := omega) only [tw])) only [↓c205, ↓x205_0, ↓x205_1, ↓x205_2, ↓x205_5, ↓x205_6, ↓x205_7, ↓x205_10, ↓x205_11, ↓x205_12, ↓x205_15, evl_e, ↓endQ_e, ↓gI_0, ↓gL_0, ↓gR_0, ↓gI_s, ↓gL_s, ↓gR_s, ↓pI_i, ↓pL_l, ↓pR_r, ↓p1_i, ↓p1_r, ↓pE_e, ↓pN_z, ↓pN_1, ↓pN_2, ↓pN_3, ↓pN_4, ↓pN_5, ↓pN_6, ↓rl_0, ↓rl_1, ↓rl_2, ↓rl_3, ↓rl_4, ↓hdR_r, ↓hdO_r, va_rf_s, sL1_0, sL1_ss, sL1_1i, sL1_1r, sL1_1n, sL1_1l, sL2_0, sL2_ss, sL2_1i, sL2_1r, sL2_1n, sL2_1l, List.getElem?_cons_zero, List.getElem?_cons_succ, Option.toList_some, Option.toList_none, List.cons_append, List.nil_append, Nat.reduceAdd, true_and, and_true, and_self, wA_s, wA_w, ↓reduceIte, ite_self, true_or, or_true, tv, tc, tl, tg, t0, tz, tw, tu, tup, tuL, nI_add, pk_mul, upd_s, tup_s, tuL_s, nI_0, i1, i2, i3, i4, nm1, kd_454]
set_option maxRecDepth 100000 in
theorem m_keeps {d : Nat} {I : Nat → Nat → Int32} {L : Nat → Nat → Int64} {P : Nat → Nat → Option Nat} {n s : Nat} {Q : Qm} {w p : Nat} (hm : MP P) (hw : w + 4 ≤ 64) : Call (d + 3) 209 [.ref 454, .int (nI w), .int (nI p)] (I, L, P, n, s) Q = if fit4 (I 474) = true then Q none (wA I 483 (w4 (I 483) w (I 474 0) (I 474 1) (I 474 2) (I 474 3)), L, P, n, s) else Q none (wA I 454 (upd (upd (upd (I 454) 28 (-5)) 29 3) 30 (nI p)), L, P, n, s) := by
  obtain ⟨m2, m4, m5, m7, m8, m9, m11, m13, m15, m16, m18, m19, m20, m23, m25, m26, m35, m36, m37, m39, m40, m41, m42, m43, m44, m45, m46, m47, m48⟩ := id hm
  cases hf : fit4 (I 474)
  · rw [if_neg (by decide)]
    simp (disch := first | assumption | omega | decide | (refine kdN ?_; omega) | (refine kdS ?_; omega) | (refine kd_REGS0 ?_; omega) | (refine kd_BOOK_noted0 ?_; omega) | (refine kd_IREGS0 ?_; omega) | (refine kd_IBOOK_noted0 ?_; omega) | (refine kd_SUMS0 ?_; omega) | (refine kd_TERMS0 ?_; omega) | (refine kd_FACT0 ?_; omega) | (simp (disch := omega) only [tw])) only [↓c209, ↓x209_0, ↓x209_1, ↓x209_4, ↓x209_7, ↓x209_8, ↓x209_10, ↓x209_11, ↓x209_12, ↓x209_15, ↓x209_16, ↓x209_17, ↓x209_18, ↓x209_19, ↓x209_20, ↓x209_23, ↓x209_24, ↓x209_27, ↓x209_28, ↓x209_29, ↓x209_30, ↓x209_31, ↓x209_34, ↓x209_35, ↓x209_36, ↓x209_37, ↓x209_40, ↓x209_43, evl_e, ↓endQ_e, ↓gI_0, ↓gL_0, ↓gR_0, ↓gI_s, ↓gL_s, ↓gR_s, ↓pI_i, ↓pL_l, ↓pR_r, ↓p1_i, ↓p1_r, ↓pE_e, ↓pN_z, ↓pN_1, ↓pN_2, ↓pN_3, ↓pN_4, ↓pN_5, ↓pN_6, ↓rl_0, ↓rl_1, ↓rl_2, ↓rl_3, ↓rl_4, ↓hdR_r, ↓hdO_r, va_rf_s, sL1_0, sL1_ss, sL1_1i, sL1_1r, sL1_1n, sL1_1l, sL2_0, sL2_ss, sL2_1i, sL2_1r, sL2_1n, sL2_1l, List.getElem?_cons_zero, List.getElem?_cons_succ, Option.toList_some, Option.toList_none, List.cons_append, List.nil_append, Nat.reduceAdd, true_and, and_true, and_self, wA_s, wA_w, ↓reduceIte, ite_self, true_or, or_true, tv, tc, tl, tg, t0, tz, tw, tu, tup, tuL, nI_add, pk_mul, upd_s, tup_s, tuL_s, nI_0, i1, i2, i3, i4, nm1, kd_454, ↓m_fits hm, hf, bI_f, ↓m_fails]
  · rw [if_pos rfl]
    simp (disch := first | assumption | omega | decide | (refine kdN ?_; omega) | (refine kdS ?_; omega) | (refine kd_REGS0 ?_; omega) | (refine kd_BOOK_noted0 ?_; omega) | (refine kd_IREGS0 ?_; omega) | (refine kd_IBOOK_noted0 ?_; omega) | (refine kd_SUMS0 ?_; omega) | (refine kd_TERMS0 ?_; omega) | (refine kd_FACT0 ?_; omega) | (simp (disch := omega) only [tw])) only [↓c209, ↓x209_0, ↓x209_1, ↓x209_4, ↓x209_7, ↓x209_8, ↓x209_10, ↓x209_11, ↓x209_12, ↓x209_15, ↓x209_16, ↓x209_17, ↓x209_18, ↓x209_19, ↓x209_20, ↓x209_23, ↓x209_24, ↓x209_27, ↓x209_28, ↓x209_29, ↓x209_30, ↓x209_31, ↓x209_34, ↓x209_35, ↓x209_36, ↓x209_37, ↓x209_40, ↓x209_43, evl_e, ↓endQ_e, ↓gI_0, ↓gL_0, ↓gR_0, ↓gI_s, ↓gL_s, ↓gR_s, ↓pI_i, ↓pL_l, ↓pR_r, ↓p1_i, ↓p1_r, ↓pE_e, ↓pN_z, ↓pN_1, ↓pN_2, ↓pN_3, ↓pN_4, ↓pN_5, ↓pN_6, ↓rl_0, ↓rl_1, ↓rl_2, ↓rl_3, ↓rl_4, ↓hdR_r, ↓hdO_r, va_rf_s, sL1_0, sL1_ss, sL1_1i, sL1_1r, sL1_1n, sL1_1l, sL2_0, sL2_ss, sL2_1i, sL2_1r, sL2_1n, sL2_1l, List.getElem?_cons_zero, List.getElem?_cons_succ, Option.toList_some, Option.toList_none, List.cons_append, List.nil_append, Nat.reduceAdd, true_and, and_true, and_self, wA_s, wA_w, ↓reduceIte, ite_self, true_or, or_true, tv, tc, tl, tg, t0, tz, tw, tu, tup, tuL, nI_add, pk_mul, upd_s, tup_s, tuL_s, nI_0, i1, i2, i3, i4, nm1, kd_454, m39, m48, kd_474, ln_474, kd_483, ln_483, ↓m_fits hm, hf, bI_t, e_10, v_0, v_1, v_2, v_3, c_0, c_1, c_2, c_3, l_04, l_14, l_24, l_34, l_44, a_01, a_11, a_21, a_31, Int32.add_zero, w4_u]
theorem lp_tr {T : Nat → Nat} {z : Nat} {S : Nat → Bool} {f : Nat → (Nat → Int32) → (Nat → Int32) → Nat → Int32} {k : Nat} {o : Nat → Nat} {F : Nat → Res} : ∀ m a, ¬ rS a = 0 → ¬ rS a = 1 → ¬ rS (lpR T z S f k o F m a) = 1 → ∃ e, lpR T z S f k o F m a = rat a e
  | 0, a, _, _, _ => ⟨rA a, rfl⟩
  | m + 1, a, h0, h1, h2 => by
    rw [lpR_s, if_neg h1] at h2 ⊢
    by_cases c : S (chT T z (rA a)) = true
    · rw [if_pos c] at h2 ⊢
      by_cases r1 : rS (F (rA a + 1)) = 1
      · rw [cmb_1 r1, lpR_1 r1] at h2
        exact absurd r1 h2
      · have e : cmb k o (f (chT T z (rA a))) (rA a) a (F (rA a + 1)) = rat a (rA (F (rA a + 1))) := by
          rw [cmb_e r1, if_neg h0]
        rw [e] at h2 ⊢
        obtain ⟨e', h⟩ := lp_tr m (rat a (rA (F (rA a + 1)))) h0 h1 h2
        exact ⟨e', by rw [h]; rfl⟩
    · rw [if_neg c]
      exact ⟨rA a, rfl⟩
theorem lp_fg {T : Nat → Nat} {z : Nat} {S : Nat → Bool} {f : Nat → (Nat → Int32) → (Nat → Int32) → Nat → Int32} {k : Nat} {o : Nat → Nat} {F : Nat → Res} (hS : ∀ c, S c = true → c < 48) : ∀ m a, fgT T z (rA (lpR T z S f k o F m a)) = false → ¬ rS a = 1 → fgT T z (rA a) = false
  | 0, a, h, _ => h
  | m + 1, a, h, h1 => by
    by_cases c : S (chT T z (rA a)) = true
    · have := hS _ c
      unfold fgT
      rw [decide_eq_false (by omega)]
      rfl
    · rw [lpR_s, if_neg h1, if_neg c] at h
      exact h
theorem ch42_l : ∀ c, ch42 c = true → c < 48 := fun c h => by
  have := Nat.eq_of_beq_eq_true h
  omega
theorem ch43_l : ∀ c, ch43 c = true → c < 48 := fun c h => by
  unfold ch43 at h
  rw [Bool.or_eq_true, Nat.beq_eq, Nat.beq_eq] at h
  omega
