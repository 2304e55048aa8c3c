/-! case read: the reference's first pass -/
def M1 (T : Nat → Nat) (z k : Nat) (o : Nat → Nat) (i : Nat) (I : Nat → Nat → Int32) : Prop := z ≤ 80 ∧ (∀ j, j < z → 32 ≤ T j ∧ T j ≤ 126) ∧ I 454 21 = nI z ∧ (∀ j, j < z → I 467 j = nI (T j)) ∧ I 454 22 = nI i ∧ i ≤ z ∧ I 454 24 = nI k ∧ ∀ j, j < k → I 468 j = nI (o j)
def MG (I J : Nat → Nat → Int32) : Prop := (∀ e, ¬ e = 454 → ¬ e = 468 → J e = I e) ∧ ∀ f, ¬ f = 22 → ¬ f = 24 → J 454 f = I 454 f
def MR (k : Nat) (o : Nat → Nat) (r : Res) (I J : Nat → Nat → Int32) : Prop := MG I J ∧ J 454 22 = nI (rA r) ∧ (rS r = 1 → J 454 24 = nI (rD r) ∧ ∀ j, j < rD r → J 468 j = nI (rO r j)) ∧ (¬ rS r = 1 → J 454 24 = nI k ∧ ∀ j, j < k → J 468 j = nI (o j))
def CM (T : Nat → Nat) (z : Nat) (L : Nat → Nat → Int64) (P : Nat → Nat → Option Nat) (n s y D k : Nat) (o : Nat → Nat) (i : Nat) (r : Res) : Prop := ∀ (I : Nat → Nat → Int32) (Q : Qm), M1 T z k o i I → (∀ J, MR k o r I J → Q (some (.int (bI (decide (¬ rS r = 1))))) (J, L, P, n, s)) → Call D y [.ref 454] (I, L, P, n, s) Q
def aM (I : Nat → Nat → Int32) (i : Nat) : Nat → Nat → Int32 := wA I 454 (upd (I 454) 22 (nI i))
theorem aM_f {I : Nat → Nat → Int32} {i : Nat} : wA I 454 (upd (I 454) 22 (nI i)) = aM I i := rfl
theorem aM_o {I : Nat → Nat → Int32} {i a : Nat} (h : ¬ a = 454) : aM I i a = I a := tw h
theorem aM_s {I : Nat → Nat → Int32} {i : Nat} : aM I i 454 22 = nI i := by unfold aM; rw [wA_s, upd_s]
theorem aM_n {I : Nat → Nat → Int32} {i k : Nat} (h : ¬ k = 22) : aM I i 454 k = I 454 k := by unfold aM; rw [wA_s, tu h]
theorem aM_a {I : Nat → Nat → Int32} {i j : Nat} : aM (aM I i) j = aM I j := by
  unfold aM
  rw [wA_s, wA_w]
  congr 1
  funext k
  unfold upd
  split <;> rfl
theorem aM_id {I : Nat → Nat → Int32} {i : Nat} (h : I 454 22 = nI i) : aM I i = I := by
  unfold aM
  have e : upd (I 454) 22 (nI i) = I 454 := by
    funext k
    unfold upd
    by_cases c : k = 22
    · subst c
      rw [if_pos rfl, h]
    · rw [if_neg c]
  rw [e, wA_id]
theorem MG_r {I : Nat → Nat → Int32} : MG I I := ⟨fun _ _ _ => rfl, fun _ _ _ => rfl⟩
theorem MG_t {I J K : Nat → Nat → Int32} (h : MG I J) (h' : MG J K) : MG I K := ⟨fun e a b => (h'.1 e a b).trans (h.1 e a b), fun f a b => (h'.2 f a b).trans (h.2 f a b)⟩
theorem MG_a {I : Nat → Nat → Int32} {i : Nat} : MG I (aM I i) := ⟨fun _ a _ => aM_o a, fun _ a _ => aM_n a⟩
theorem M1_f {T : Nat → Nat} {z k k' i j : Nat} {o o' : Nat → Nat} {I J : Nat → Nat → Int32} (h : M1 T z k o i I) (f : MG I J) (h22 : J 454 22 = nI j) (hj : j ≤ z) (h24 : J 454 24 = nI k') (h68 : ∀ l, l < k' → J 468 l = nI (o' l)) : M1 T z k' o' j J := by
  obtain ⟨h1, h2, h3, h4, h5, h6, h7, h8⟩ := h
  exact ⟨h1, h2, (f.2 21 (by decide) (by decide)).trans h3, fun l hl => by rw [f.1 467 (by decide) (by decide)]; exact h4 l hl, h22, hj, h24, h68⟩
theorem M1_a {T : Nat → Nat} {z k i j : Nat} {o : Nat → Nat} {I : Nat → Nat → Int32} (h : M1 T z k o i I) (hj : j ≤ z) : M1 T z k o j (aM I j) := M1_f h MG_a aM_s hj (by rw [aM_n (by decide)]; exact h.2.2.2.2.2.2.1) (fun l hl => by rw [aM_o (by decide)]; exact h.2.2.2.2.2.2.2 l hl)
theorem MR_t {k : Nat} {o : Nat → Nat} {r : Res} {I J K : Nat → Nat → Int32} (f : MG I J) (h : MR k o r J K) : MR k o r I K := ⟨MG_t f h.1, h.2⟩
theorem MR_no {T : Nat → Nat} {z k i : Nat} {o : Nat → Nat} {I : Nat → Nat → Int32} (h : M1 T z k o i I) : MR k o (rno 1 i i k o) I I := ⟨MG_r, h.2.2.2.2.1, fun _ => h.2.2.2.2.2.2, fun q => absurd rfl q⟩
theorem MR_ok {T : Nat → Nat} {z k i : Nat} {o : Nat → Nat} {r : Res} {I : Nat → Nat → Int32} (h : M1 T z k o i I) (hr : ¬ rS r = 1) (ha : rA r = i) : MR k o r I I := ⟨MG_r, by rw [ha]; exact h.2.2.2.2.1, fun q => absurd q hr, fun _ => h.2.2.2.2.2.2⟩
theorem sg_e {T : Nat → Nat} {z i c : Nat} (hT : ∀ j, j < z → 32 ≤ T j ∧ T j ≤ 126) (hc2 : c < 2000) : (nI (chT T z i) = nI c) = (chT T z i = c) := by
  refine propext (nI_eq ?_ (by omega))
  unfold chT
  by_cases h : i < z
  · have := hT i h
    rw [if_pos h]
    omega
  · rw [if_neg h]
    decide
theorem ch_b {T : Nat → Nat} {z i : Nat} (hT : ∀ j, j < z → 32 ≤ T j ∧ T j ≤ 126) : chT T z i ≤ 126 := by
  unfold chT
  by_cases h : i < z
  · have := hT i h
    rw [if_pos h]
    omega
  · rw [if_neg h]
    decide
set_option maxRecDepth 100000 in
theorem m_sign {d : Nat} {I : Nat → Nat → Int32} {L : Nat → Nat → Int64} {P : Nat → Nat → Option Nat} {n s : Nat} {Q : Qm} {T : Nat → Nat} {z k i : Nat} {o : Nat → Nat} (hm : MP P) (h : M1 T z k o i I) : Call (d + 1) 198 [.ref 454] (I, L, P, n, s) Q = Q (some (.int (nI (chT T z i)))) (I, L, P, n, s) := by
  obtain ⟨h1, h2, h3, h4, h5, h6, -⟩ := h
  obtain ⟨m2, m4, m5, m7, m8, m9, m11, m13, m15, m16, m18, m19, m20, m23, m25, m26, m35, m36, m37, m39, m40, m41, m42, m43, m44, m45, m46, m47, m48⟩ := id hm
  unfold chT
  by_cases c : i < z
  · have e := h4 i c
    rw [if_pos c]
    simp (disch := first | assumption | omega | decide | (refine kdN ?_; omega) | (refine kdS ?_; omega) | (refine kd_REGS0 ?_; omega) | (refine kd_BOOK_noted0 ?_; omega) | (refine kd_IREGS0 ?_; omega) | (refine kd_IBOOK_noted0 ?_; omega) | (refine kd_SUMS0 ?_; omega) | (refine kd_TERMS0 ?_; omega) | (refine kd_FACT0 ?_; omega) | (simp (disch := omega) only [tw])) only [↓c198, ↓x198_0, ↓x198_1, ↓x198_4, ↓x198_5, ↓x198_8, ↓x198_11, ↓x198_12, ↓x198_15, ↓x198_16, ↓x198_19, ↓x198_20, ↓x198_23, ↓x198_24, evl_e, ↓endQ_e, ↓gI_0, ↓gL_0, ↓gR_0, ↓gI_s, ↓gL_s, ↓gR_s, ↓pI_i, ↓pL_l, ↓pR_r, ↓p1_i, ↓p1_r, ↓pE_e, ↓pN_z, ↓pN_1, ↓pN_2, ↓pN_3, ↓pN_4, ↓pN_5, ↓pN_6, ↓rl_0, ↓rl_1, ↓rl_2, ↓rl_3, ↓rl_4, ↓hdR_r, ↓hdO_r, va_rf_s, sL1_0, sL1_ss, sL1_1i, sL1_1r, sL1_1n, sL1_1l, sL2_0, sL2_ss, sL2_1i, sL2_1r, sL2_1n, sL2_1l, List.getElem?_cons_zero, List.getElem?_cons_succ, Option.toList_some, Option.toList_none, List.cons_append, List.nil_append, Nat.reduceAdd, true_and, and_true, and_self, wA_s, wA_w, ↓reduceIte, ite_self, true_or, or_true, tv, tc, tl, tg, t0, tz, tw, tu, tup, tuL, nI_add, pk_mul, upd_s, tup_s, tuL_s, nI_0, i1, i2, i3, i4, nm1, kd_454, kd_467, ln_467, m20, h3, h5, e]
  · rw [if_neg c]
    simp (disch := first | assumption | omega | decide | (refine kdN ?_; omega) | (refine kdS ?_; omega) | (refine kd_REGS0 ?_; omega) | (refine kd_BOOK_noted0 ?_; omega) | (refine kd_IREGS0 ?_; omega) | (refine kd_IBOOK_noted0 ?_; omega) | (refine kd_SUMS0 ?_; omega) | (refine kd_TERMS0 ?_; omega) | (refine kd_FACT0 ?_; omega) | (simp (disch := omega) only [tw])) only [↓c198, ↓x198_0, ↓x198_1, ↓x198_4, ↓x198_5, ↓x198_8, ↓x198_11, ↓x198_12, ↓x198_15, ↓x198_16, ↓x198_19, ↓x198_20, ↓x198_23, ↓x198_24, evl_e, ↓endQ_e, ↓gI_0, ↓gL_0, ↓gR_0, ↓gI_s, ↓gL_s, ↓gR_s, ↓pI_i, ↓pL_l, ↓pR_r, ↓p1_i, ↓p1_r, ↓pE_e, ↓pN_z, ↓pN_1, ↓pN_2, ↓pN_3, ↓pN_4, ↓pN_5, ↓pN_6, ↓rl_0, ↓rl_1, ↓rl_2, ↓rl_3, ↓rl_4, ↓hdR_r, ↓hdO_r, va_rf_s, sL1_0, sL1_ss, sL1_1i, sL1_1r, sL1_1n, sL1_1l, sL2_0, sL2_ss, sL2_1i, sL2_1r, sL2_1n, sL2_1l, List.getElem?_cons_zero, List.getElem?_cons_succ, Option.toList_some, Option.toList_none, List.cons_append, List.nil_append, Nat.reduceAdd, true_and, and_true, and_self, wA_s, wA_w, ↓reduceIte, ite_self, true_or, or_true, tv, tc, tl, tg, t0, tz, tw, tu, tup, tuL, nI_add, pk_mul, upd_s, tup_s, tuL_s, nI_0, i1, i2, i3, i4, nm1, kd_454, h3, h5]
theorem L48 : (48 : Int64) = (48 : Int32).toInt64 := by decide
theorem L57 : (57 : Int64) = (57 : Int32).toInt64 := by decide
theorem L53 : (53 : Int64) = (53 : Int32).toInt64 := by decide
theorem bt_c {c a b : Nat} (hc : c < 2000) (ha : a < 2000) (hb : b < 2000) : btwI (nI c) (nI a) (nI b) = (decide (a ≤ c) && decide (c ≤ b)) := by
  unfold btwI
  have e1 : (nI c < nI a) ↔ c < a := nI_ltI (by omega) (by omega)
  have e2 : (nI b < nI c) ↔ b < c := nI_ltI (by omega) (by omega)
  simp only [e1, e2, Nat.not_lt]
set_option maxRecDepth 100000 in
theorem m_isf {d : Nat} {I : Nat → Nat → Int32} {L : Nat → Nat → Int64} {P : Nat → Nat → Option Nat} {n s : Nat} {Q : Qm} {T : Nat → Nat} {z k i : Nat} {o : Nat → Nat} (hm : MP P) (h : M1 T z k o i I) : Call (d + 2) 199 [.ref 454] (I, L, P, n, s) Q = Q (some (.int (bI (fgT T z i)))) (I, L, P, n, s) := by
  have b := ch_b (i := i) h.2.1
  have e : btw (nI (chT T z i)).toInt64 48 57 = fgT T z i := by
    rw [L48, L57, btw_i]
    exact bt_c (a := 48) (b := 57) (by omega) (by decide) (by decide)
  simp (disch := first | assumption | omega | decide | (refine kdN ?_; omega) | (refine kdS ?_; omega) | (refine kd_REGS0 ?_; omega) | (refine kd_BOOK_noted0 ?_; omega) | (refine kd_IREGS0 ?_; omega) | (refine kd_IBOOK_noted0 ?_; omega) | (refine kd_SUMS0 ?_; omega) | (refine kd_TERMS0 ?_; omega) | (refine kd_FACT0 ?_; omega) | (simp (disch := omega) only [tw])) only [↓c199, ↓x199_0, ↓x199_1, ↓x199_4, ↓x199_5, ↓x199_8, ↓x199_11, ↓x199_14, evl_e, ↓endQ_e, ↓gI_0, ↓gL_0, ↓gR_0, ↓gI_s, ↓gL_s, ↓gR_s, ↓pI_i, ↓pL_l, ↓pR_r, ↓p1_i, ↓p1_r, ↓pE_e, ↓pN_z, ↓pN_1, ↓pN_2, ↓pN_3, ↓pN_4, ↓pN_5, ↓pN_6, ↓rl_0, ↓rl_1, ↓rl_2, ↓rl_3, ↓rl_4, ↓hdR_r, ↓hdO_r, va_rf_s, sL1_0, sL1_ss, sL1_1i, sL1_1r, sL1_1n, sL1_1l, sL2_0, sL2_ss, sL2_1i, sL2_1r, sL2_1n, sL2_1l, List.getElem?_cons_zero, List.getElem?_cons_succ, Option.toList_some, Option.toList_none, List.cons_append, List.nil_append, Nat.reduceAdd, true_and, and_true, and_self, wA_s, wA_w, ↓reduceIte, ite_self, true_or, or_true, tv, tc, tl, tg, t0, tz, tw, tu, tup, tuL, nI_add, pk_mul, upd_s, tup_s, tuL_s, nI_0, i1, i2, i3, i4, nm1, kd_454, ↓m_sign hm h, ↓m_in, e, bI_01]
set_option maxRecDepth 100000 in
theorem m_takes {d : Nat} {I : Nat → Nat → Int32} {L : Nat → Nat → Int64} {P : Nat → Nat → Option Nat} {n s : Nat} {Q : Qm} {T : Nat → Nat} {z k i c : Nat} {o : Nat → Nat} (hm : MP P) (h : M1 T z k o i I) (hc : c < 2000) : Call (d + 2) 202 [.ref 454, .int (nI c)] (I, L, P, n, s) Q = if chT T z i = c then Q (some (.int 1)) (aM I (i + 1), L, P, n, s) else Q (some (.int 0)) (I, L, P, n, s) := by
  have e := sg_e (i := i) (c := c) h.2.1 hc
  have e22 := h.2.2.2.2.1
  by_cases q : chT T z i = c
  · have e := e.trans (eq_true q)
    rw [if_pos q]
    simp (disch := first | assumption | omega | decide | (refine kdN ?_; omega) | (refine kdS ?_; omega) | (refine kd_REGS0 ?_; omega) | (refine kd_BOOK_noted0 ?_; omega) | (refine kd_IREGS0 ?_; omega) | (refine kd_IBOOK_noted0 ?_; omega) | (refine kd_SUMS0 ?_; omega) | (refine kd_TERMS0 ?_; omega) | (refine kd_FACT0 ?_; omega) | (simp (disch := omega) only [tw])) only [↓c202, ↓x202_0, ↓x202_1, ↓x202_4, ↓x202_5, ↓x202_8, ↓x202_9, ↓x202_10, ↓x202_11, ↓x202_12, ↓x202_15, ↓x202_16, ↓x202_17, ↓x202_20, ↓x202_21, evl_e, ↓endQ_e, ↓gI_0, ↓gL_0, ↓gR_0, ↓gI_s, ↓gL_s, ↓gR_s, ↓pI_i, ↓pL_l, ↓pR_r, ↓p1_i, ↓p1_r, ↓pE_e, ↓pN_z, ↓pN_1, ↓pN_2, ↓pN_3, ↓pN_4, ↓pN_5, ↓pN_6, ↓rl_0, ↓rl_1, ↓rl_2, ↓rl_3, ↓rl_4, ↓hdR_r, ↓hdO_r, va_rf_s, sL1_0, sL1_ss, sL1_1i, sL1_1r, sL1_1n, sL1_1l, sL2_0, sL2_ss, sL2_1i, sL2_1r, sL2_1n, sL2_1l, List.getElem?_cons_zero, List.getElem?_cons_succ, Option.toList_some, Option.toList_none, List.cons_append, List.nil_append, Nat.reduceAdd, true_and, and_true, and_self, wA_s, wA_w, ↓reduceIte, ite_self, true_or, or_true, tv, tc, tl, tg, t0, tz, tw, tu, tup, tuL, nI_add, pk_mul, upd_s, tup_s, tuL_s, nI_0, i1, i2, i3, i4, nm1, kd_454, ↓m_sign hm h, e, e22, aM_f, z_1]
  · have e := e.trans (eq_false q)
    rw [if_neg q]
    simp (disch := first | assumption | omega | decide | (refine kdN ?_; omega) | (refine kdS ?_; omega) | (refine kd_REGS0 ?_; omega) | (refine kd_BOOK_noted0 ?_; omega) | (refine kd_IREGS0 ?_; omega) | (refine kd_IBOOK_noted0 ?_; omega) | (refine kd_SUMS0 ?_; omega) | (refine kd_TERMS0 ?_; omega) | (refine kd_FACT0 ?_; omega) | (simp (disch := omega) only [tw])) only [↓c202, ↓x202_0, ↓x202_1, ↓x202_4, ↓x202_5, ↓x202_8, ↓x202_9, ↓x202_10, ↓x202_11, ↓x202_12, ↓x202_15, ↓x202_16, ↓x202_17, ↓x202_20, ↓x202_21, evl_e, ↓endQ_e, ↓gI_0, ↓gL_0, ↓gR_0, ↓gI_s, ↓gL_s, ↓gR_s, ↓pI_i, ↓pL_l, ↓pR_r, ↓p1_i, ↓p1_r, ↓pE_e, ↓pN_z, ↓pN_1, ↓pN_2, ↓pN_3, ↓pN_4, ↓pN_5, ↓pN_6, ↓rl_0, ↓rl_1, ↓rl_2, ↓rl_3, ↓rl_4, ↓hdR_r, ↓hdO_r, va_rf_s, sL1_0, sL1_ss, sL1_1i, sL1_1r, sL1_1n, sL1_1l, sL2_0, sL2_ss, sL2_1i, sL2_1r, sL2_1n, sL2_1l, List.getElem?_cons_zero, List.getElem?_cons_succ, Option.toList_some, Option.toList_none, List.cons_append, List.nil_append, Nat.reduceAdd, true_and, and_true, and_self, wA_s, wA_w, ↓reduceIte, ite_self, true_or, or_true, tv, tc, tl, tg, t0, tz, tw, tu, tup, tuL, nI_add, pk_mul, upd_s, tup_s, tuL_s, nI_0, i1, i2, i3, i4, nm1, kd_454, ↓m_sign hm h, e, z_0]
set_option maxRecDepth 100000 in
theorem m_nl {d : Nat} {L : Nat → Nat → Int64} {P : Nat → Nat → Option Nat} {n s : Nat} {Q : Qm} {T : Nat → Nat} {z k M : Nat} {o : Nat → Nat} (hm : MP P) (hM : M ≤ 4) : ∀ m c i (I : Nat → Nat → Int32), m + c = M → M1 T z k o i I → WP (Call (d + 3)) (kod 203) (n, s) (endQ n s Q) 2 [.ref 454, .int (nI M), .int (nI c)] [] (I, L, P, n, s) = Q (some (.int (bI (decide (0 < c + ndT T z m i))))) (aM I (i + ndT T z m i), L, P, n, s)
  | 0, c, i, I, e, h => by
    obtain rfl : c = M := by omega
    have e1 : aM I (i + ndT T z 0 i) = I := aM_id h.2.2.2.2.1
    rw [e1, x203_2]
    by_cases q : 0 < c
    · have g : ((0 : Int32) < nI c) = True := tl (a := 0) q (by omega)
      have g2 : (0 < c + ndT T z 0 i) = True := eq_true (by omega)
      simp (disch := first | assumption | omega | decide | (refine kdN ?_; omega) | (refine kdS ?_; omega) | (refine kd_REGS0 ?_; omega) | (refine kd_BOOK_noted0 ?_; omega) | (refine kd_IREGS0 ?_; omega) | (refine kd_IBOOK_noted0 ?_; omega) | (refine kd_SUMS0 ?_; omega) | (refine kd_TERMS0 ?_; omega) | (refine kd_FACT0 ?_; omega) | (simp (disch := omega) only [tw])) only [↓x203_0, ↓x203_1, ↓x203_3, ↓x203_4, ↓x203_7, ↓x203_8, ↓x203_11, ↓x203_14, ↓x203_15, ↓x203_16, ↓x203_19, ↓x203_20, ↓x203_21, ↓x203_24, ↓x203_27, ↓x203_30, ↓x203_31, ↓x203_34, ↓x203_35, ↓x203_38, ↓x203_39, evl_e, ↓endQ_e, ↓gI_0, ↓gL_0, ↓gR_0, ↓gI_s, ↓gL_s, ↓gR_s, ↓pI_i, ↓pL_l, ↓pR_r, ↓p1_i, ↓p1_r, ↓pE_e, ↓pN_z, ↓pN_1, ↓pN_2, ↓pN_3, ↓pN_4, ↓pN_5, ↓pN_6, ↓rl_0, ↓rl_1, ↓rl_2, ↓rl_3, ↓rl_4, ↓hdR_r, ↓hdO_r, va_rf_s, sL1_0, sL1_ss, sL1_1i, sL1_1r, sL1_1n, sL1_1l, sL2_0, sL2_ss, sL2_1i, sL2_1r, sL2_1n, sL2_1l, List.getElem?_cons_zero, List.getElem?_cons_succ, Option.toList_some, Option.toList_none, List.cons_append, List.nil_append, Nat.reduceAdd, true_and, and_true, and_self, wA_s, wA_w, ↓reduceIte, ite_self, true_or, or_true, tv, tc, tl, tg, t0, tz, tw, tu, tup, tuL, nI_add, pk_mul, upd_s, tup_s, tuL_s, nI_0, i1, i2, i3, i4, nm1, Int32.lt_irrefl, g, g2, decide_true, bI_t, z_1]
    · have g : ((0 : Int32) < nI c) = False := tg (a := 0) (b := c) (by omega) (by decide)
      have g2 : (0 < c + ndT T z 0 i) = False := eq_false (by show ¬ 0 < c + 0; omega)
      simp (disch := first | assumption | omega | decide | (refine kdN ?_; omega) | (refine kdS ?_; omega) | (refine kd_REGS0 ?_; omega) | (refine kd_BOOK_noted0 ?_; omega) | (refine kd_IREGS0 ?_; omega) | (refine kd_IBOOK_noted0 ?_; omega) | (refine kd_SUMS0 ?_; omega) | (refine kd_TERMS0 ?_; omega) | (refine kd_FACT0 ?_; omega) | (simp (disch := omega) only [tw])) only [↓x203_0, ↓x203_1, ↓x203_3, ↓x203_4, ↓x203_7, ↓x203_8, ↓x203_11, ↓x203_14, ↓x203_15, ↓x203_16, ↓x203_19, ↓x203_20, ↓x203_21, ↓x203_24, ↓x203_27, ↓x203_30, ↓x203_31, ↓x203_34, ↓x203_35, ↓x203_38, ↓x203_39, evl_e, ↓endQ_e, ↓gI_0, ↓gL_0, ↓gR_0, ↓gI_s, ↓gL_s, ↓gR_s, ↓pI_i, ↓pL_l, ↓pR_r, ↓p1_i, ↓p1_r, ↓pE_e, ↓pN_z, ↓pN_1, ↓pN_2, ↓pN_3, ↓pN_4, ↓pN_5, ↓pN_6, ↓rl_0, ↓rl_1, ↓rl_2, ↓rl_3, ↓rl_4, ↓hdR_r, ↓hdO_r, va_rf_s, sL1_0, sL1_ss, sL1_1i, sL1_1r, sL1_1n, sL1_1l, sL2_0, sL2_ss, sL2_1i, sL2_1r, sL2_1n, sL2_1l, List.getElem?_cons_zero, List.getElem?_cons_succ, Option.toList_some, Option.toList_none, List.cons_append, List.nil_append, Nat.reduceAdd, true_and, and_true, and_self, wA_s, wA_w, ↓reduceIte, ite_self, true_or, or_true, tv, tc, tl, tg, t0, tz, tw, tu, tup, tuL, nI_add, pk_mul, upd_s, tup_s, tuL_s, nI_0, i1, i2, i3, i4, nm1, Int32.lt_irrefl, g, g2, decide_false, bI_f, z_0]
  | m + 1, c, i, I, e, h => by
    have hcM : c < M := by omega
    have e22 := h.2.2.2.2.1
    unfold ndT
    cases hf : fgT T z i
    · have e1 : aM I i = I := aM_id e22
      rw [if_neg (by decide), show i + 0 = i from rfl, e1, x203_2]
      by_cases q : 0 < c
      · have g : ((0 : Int32) < nI c) = True := tl (a := 0) q (by omega)
        have g2 : (0 < c + 0) = True := eq_true (by omega)
        simp (disch := first | assumption | omega | decide | (refine kdN ?_; omega) | (refine kdS ?_; omega) | (refine kd_REGS0 ?_; omega) | (refine kd_BOOK_noted0 ?_; omega) | (refine kd_IREGS0 ?_; omega) | (refine kd_IBOOK_noted0 ?_; omega) | (refine kd_SUMS0 ?_; omega) | (refine kd_TERMS0 ?_; omega) | (refine kd_FACT0 ?_; omega) | (simp (disch := omega) only [tw])) only [↓x203_0, ↓x203_1, ↓x203_3, ↓x203_4, ↓x203_7, ↓x203_8, ↓x203_11, ↓x203_14, ↓x203_15, ↓x203_16, ↓x203_19, ↓x203_20, ↓x203_21, ↓x203_24, ↓x203_27, ↓x203_30, ↓x203_31, ↓x203_34, ↓x203_35, ↓x203_38, ↓x203_39, evl_e, ↓endQ_e, ↓gI_0, ↓gL_0, ↓gR_0, ↓gI_s, ↓gL_s, ↓gR_s, ↓pI_i, ↓pL_l, ↓pR_r, ↓p1_i, ↓p1_r, ↓pE_e, ↓pN_z, ↓pN_1, ↓pN_2, ↓pN_3, ↓pN_4, ↓pN_5, ↓pN_6, ↓rl_0, ↓rl_1, ↓rl_2, ↓rl_3, ↓rl_4, ↓hdR_r, ↓hdO_r, va_rf_s, sL1_0, sL1_ss, sL1_1i, sL1_1r, sL1_1n, sL1_1l, sL2_0, sL2_ss, sL2_1i, sL2_1r, sL2_1n, sL2_1l, List.getElem?_cons_zero, List.getElem?_cons_succ, Option.toList_some, Option.toList_none, List.cons_append, List.nil_append, Nat.reduceAdd, true_and, and_true, and_self, wA_s, wA_w, ↓reduceIte, ite_self, true_or, or_true, tv, tc, tl, tg, t0, tz, tw, tu, tup, tuL, nI_add, pk_mul, upd_s, tup_s, tuL_s, nI_0, i1, i2, i3, i4, nm1, ↓m_isf hm h, hf, bI_f, kd_454, g, g2, decide_true, bI_t, z_1]
      · have g : ((0 : Int32) < nI c) = False := tg (a := 0) (b := c) (by omega) (by decide)
        have g2 : (0 < c + 0) = False := eq_false (by omega)
        simp (disch := first | assumption | omega | decide | (refine kdN ?_; omega) | (refine kdS ?_; omega) | (refine kd_REGS0 ?_; omega) | (refine kd_BOOK_noted0 ?_; omega) | (refine kd_IREGS0 ?_; omega) | (refine kd_IBOOK_noted0 ?_; omega) | (refine kd_SUMS0 ?_; omega) | (refine kd_TERMS0 ?_; omega) | (refine kd_FACT0 ?_; omega) | (simp (disch := omega) only [tw])) only [↓x203_0, ↓x203_1, ↓x203_3, ↓x203_4, ↓x203_7, ↓x203_8, ↓x203_11, ↓x203_14, ↓x203_15, ↓x203_16, ↓x203_19, ↓x203_20, ↓x203_21, ↓x203_24, ↓x203_27, ↓x203_30, ↓x203_31, ↓x203_34, ↓x203_35, ↓x203_38, ↓x203_39, evl_e, ↓endQ_e, ↓gI_0, ↓gL_0, ↓gR_0, ↓gI_s, ↓gL_s, ↓gR_s, ↓pI_i, ↓pL_l, ↓pR_r, ↓p1_i, ↓p1_r, ↓pE_e, ↓pN_z, ↓pN_1, ↓pN_2, ↓pN_3, ↓pN_4, ↓pN_5, ↓pN_6, ↓rl_0, ↓rl_1, ↓rl_2, ↓rl_3, ↓rl_4, ↓hdR_r, ↓hdO_r, va_rf_s, sL1_0, sL1_ss, sL1_1i, sL1_1r, sL1_1n, sL1_1l, sL2_0, sL2_ss, sL2_1i, sL2_1r, sL2_1n, sL2_1l, List.getElem?_cons_zero, List.getElem?_cons_succ, Option.toList_some, Option.toList_none, List.cons_append, List.nil_append, Nat.reduceAdd, true_and, and_true, and_self, wA_s, wA_w, ↓reduceIte, ite_self, true_or, or_true, tv, tc, tl, tg, t0, tz, tw, tu, tup, tuL, nI_add, pk_mul, upd_s, tup_s, tuL_s, nI_0, i1, i2, i3, i4, nm1, ↓m_isf hm h, hf, bI_f, kd_454, g, g2, decide_false, z_0]
    · have iz := (fg_z hf).1
      have ih := m_nl (d := d) (L := L) (P := P) (n := n) (s := s) (Q := Q) hm hM m (c + 1) (i + 1) (aM I (i + 1)) (by omega) (M1_a h iz)
      rw [if_pos rfl, x203_2]
      simp (disch := first | assumption | omega | decide | (refine kdN ?_; omega) | (refine kdS ?_; omega) | (refine kd_REGS0 ?_; omega) | (refine kd_BOOK_noted0 ?_; omega) | (refine kd_IREGS0 ?_; omega) | (refine kd_IBOOK_noted0 ?_; omega) | (refine kd_SUMS0 ?_; omega) | (refine kd_TERMS0 ?_; omega) | (refine kd_FACT0 ?_; omega) | (simp (disch := omega) only [tw])) only [↓x203_0, ↓x203_1, ↓x203_3, ↓x203_4, ↓x203_7, ↓x203_8, ↓x203_11, ↓x203_14, ↓x203_15, ↓x203_16, ↓x203_19, ↓x203_20, ↓x203_21, ↓x203_24, ↓x203_27, ↓x203_30, ↓x203_31, ↓x203_34, ↓x203_35, ↓x203_38, ↓x203_39, evl_e, ↓endQ_e, ↓gI_0, ↓gL_0, ↓gR_0, ↓gI_s, ↓gL_s, ↓gR_s, ↓pI_i, ↓pL_l, ↓pR_r, ↓p1_i, ↓p1_r, ↓pE_e, ↓pN_z, ↓pN_1, ↓pN_2, ↓pN_3, ↓pN_4, ↓pN_5, ↓pN_6, ↓rl_0, ↓rl_1, ↓rl_2, ↓rl_3, ↓rl_4, ↓hdR_r, ↓hdO_r, va_rf_s, sL1_0, sL1_ss, sL1_1i, sL1_1r, sL1_1n, sL1_1l, sL2_0, sL2_ss, sL2_1i, sL2_1r, sL2_1n, sL2_1l, List.getElem?_cons_zero, List.getElem?_cons_succ, Option.toList_some, Option.toList_none, List.cons_append, List.nil_append, Nat.reduceAdd, true_and, and_true, and_self, wA_s, wA_w, ↓reduceIte, ite_self, true_or, or_true, tv, tc, tl, tg, t0, tz, tw, tu, tup, tuL, nI_add, pk_mul, upd_s, tup_s, tuL_s, nI_0, i1, i2, i3, i4, nm1, ↓m_isf hm h, hf, bI_t, e_10, kd_454, e22, aM_f]
      rw [ih, aM_a, show i + 1 + ndT T z m (i + 1) = i + (ndT T z m (i + 1) + 1) by omega, show c + 1 + ndT T z m (i + 1) = c + (ndT T z m (i + 1) + 1) by omega]
set_option maxRecDepth 100000 in
theorem m_num {d : Nat} {I : Nat → Nat → Int32} {L : Nat → Nat → Int64} {P : Nat → Nat → Option Nat} {n s : Nat} {Q : Qm} {T : Nat → Nat} {z k i M : Nat} {o : Nat → Nat} (hm : MP P) (hM : M ≤ 4) (h0 : 0 < M) (h : M1 T z k o i I) : Call (d + 4) 203 [.ref 454, .int (nI M)] (I, L, P, n, s) Q = Q (some (.int (bI (fgT T z i)))) (aM I (i + ndT T z M i), L, P, n, s) := by
  have e := m_nl (d := d) (L := L) (P := P) (n := n) (s := s) (Q := Q) hm hM M 0 i I (Nat.add_zero M) h
  have g : decide (0 < 0 + ndT T z M i) = fgT T z i := by
    obtain ⟨m, rfl⟩ : ∃ m, M = m + 1 := ⟨M - 1, by omega⟩
    unfold ndT
    cases fgT T z i
    · rw [if_neg (by decide)]; rfl
    · rw [if_pos rfl]
      exact decide_eq_true (by omega)
  rw [nI_0, g] at e
  simp (disch := first | assumption | omega | decide | (refine kdN ?_; omega) | (refine kdS ?_; omega) | (refine kd_REGS0 ?_; omega) | (refine kd_BOOK_noted0 ?_; omega) | (refine kd_IREGS0 ?_; omega) | (refine kd_IBOOK_noted0 ?_; omega) | (refine kd_SUMS0 ?_; omega) | (refine kd_TERMS0 ?_; omega) | (refine kd_FACT0 ?_; omega) | (simp (disch := omega) only [tw])) only [↓c203, ↓x203_0, ↓x203_1, ↓x203_3, ↓x203_4, ↓x203_7, ↓x203_8, ↓x203_11, ↓x203_14, ↓x203_15, ↓x203_16, ↓x203_19, ↓x203_20, ↓x203_21, ↓x203_24, ↓x203_27, ↓x203_30, ↓x203_31, ↓x203_34, ↓x203_35, ↓x203_38, ↓x203_39, evl_e, ↓endQ_e, ↓gI_0, ↓gL_0, ↓gR_0, ↓gI_s, ↓gL_s, ↓gR_s, ↓pI_i, ↓pL_l, ↓pR_r, ↓p1_i, ↓p1_r, ↓pE_e, ↓pN_z, ↓pN_1, ↓pN_2, ↓pN_3, ↓pN_4, ↓pN_5, ↓pN_6, ↓rl_0, ↓rl_1, ↓rl_2, ↓rl_3, ↓rl_4, ↓hdR_r, ↓hdO_r, va_rf_s, sL1_0, sL1_ss, sL1_1i, sL1_1r, sL1_1n, sL1_1l, sL2_0, sL2_ss, sL2_1i, sL2_1r, sL2_1n, sL2_1l, List.getElem?_cons_zero, List.getElem?_cons_succ, Option.toList_some, Option.toList_none, List.cons_append, List.nil_append, Nat.reduceAdd, true_and, and_true, and_self, wA_s, wA_w, ↓reduceIte, ite_self, true_or, or_true, tv, tc, tl, tg, t0, tz, tw, tu, tup, tuL, nI_add, pk_mul, upd_s, tup_s, tuL_s, nI_0, i1, i2, i3, i4, nm1]
  exact e
