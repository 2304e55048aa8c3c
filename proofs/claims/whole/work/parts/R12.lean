/-! walks: pure part; Walks.advance -/
theorem wS_0 {x : Nat} {v : Nat → Int64} {m : Nat} {f : Nat → Int64} : wS x v m f 0 = f := rfl
theorem wS_u {x : Nat} {v : Nat → Int64} {m t : Nat} {f : Nat → Int64} : vp_updL (wS x v m f t) (tgX x m t) (wS x v m f t (tgX x m t) + v m) = wS x v m f (t + 1) := rfl
theorem wN_0 {x : Nat} {v f : Nat → Int64} : wN x v f 0 = f := rfl
theorem wN_u {x : Nat} {v f : Nat → Int64} {m : Nat} : wS x v m (wN x v f m) (sN x) = wN x v f (m + 1) := rfl
theorem wS_lin {x m : Nat} {v f : Nat → Int64} : ∀ t k, wS x v m f t k = f k + wS x v m (fun _ => 0) t k
  | 0, k => by
    show f k = f k + 0
    rw [Int64.add_zero]
  | t + 1, k => by
    rw [← wS_u, ← wS_u]
    by_cases e : k = tgX x m t
    · subst e
      rw [tuL_s, tuL_s, wS_lin t, Int64.add_assoc]
    · rw [tuL e, tuL e, wS_lin t]
theorem wS_lin2 {x m : Nat} {v f g : Nat → Int64} : ∀ t k, wS x v m (fun k => f k + g k) t k = f k + wS x v m g t k := fun t k => by
  rw [wS_lin, Int64.add_assoc, ← wS_lin (f := g)]
theorem wN_lin {x : Nat} {v f : Nat → Int64} : ∀ m k, wN x v f m k = f k + wN x v (fun _ => 0) m k
  | 0, k => by
    show f k = f k + 0
    rw [Int64.add_zero]
  | m + 1, k => by
    rw [← wN_u, ← wN_u, show wN x v f m = fun k => f k + wN x v (fun _ => 0) m k from funext fun k => wN_lin m k, wS_lin2]
theorem wS_q {x m n : Nat} {v v' f g : Nat → Int64} (hv : v m = v' m) (hf : ∀ k, k < n → f k = g k) (ht : ∀ t, t < sN x → tgX x m t < n) : ∀ t, t ≤ sN x → ∀ k, k < n → wS x v m f t k = wS x v' m g t k
  | 0, _, k, hk => hf k hk
  | t + 1, h, k, hk => by
    have ih := wS_q hv hf ht t (by omega)
    rw [← wS_u, ← wS_u]
    by_cases e : k = tgX x m t
    · subst e
      rw [tuL_s, tuL_s, ih _ hk, hv]
    · rw [tuL e, tuL e, ih k hk]
theorem wN_q {x : Nat} {v v' f g : Nat → Int64} (hx : x < 11) (hv : ∀ k, k < nN x → v k = v' k) (hf : ∀ k, k < nN x → f k = g k) : ∀ m, m ≤ nN x → ∀ k, k < nN x → wN x v f m k = wN x v' g m k
  | 0, _, k, hk => hf k hk
  | m + 1, h, k, hk => by
    rw [← wN_u, ← wN_u]
    exact wS_q (hv m (by omega)) (wN_q hx hv hf m (by omega)) (fun t ht => tg_lt hx (by omega) ht) _ (Nat.le_refl _) k hk
/-- what Walks.advance lays ahead of adding -/
def nfW (r : Int64) (g f : Nat → Int64) (j : Nat) : Nat → Int64 := fun k => if k < j then -r * g k else f k
theorem nfW_0 {r : Int64} {g f : Nat → Int64} : nfW r g f 0 = f := by
  funext k
  unfold nfW
  rw [if_neg (by omega)]
theorem nfW_u {r : Int64} {g f : Nat → Int64} {j : Nat} : vp_updL (nfW r g f j) j (-r * g j) = nfW r g f (j + 1) := by
  funext k
  by_cases e : k = j
  · subst e
    rw [tuL_s]
    unfold nfW
    rw [if_pos (by omega)]
  · rw [tuL e]
    unfold nfW
    by_cases h : k < j
    · rw [if_pos h, if_pos (by omega)]
    · rw [if_neg h, if_neg (by omega)]
theorem kk_NOW : ∀ j, j < 3 → kd (4 + j) = 11 ∧ ln (4 + j) = 336 := by decide +kernel
theorem kd_NOW {a : Nat} (h : 4 ≤ a ∧ a ≤ 6) : kd a = 11 ∧ ln a = 336 := by
  have := kk_NOW (a - 4) (by omega)
  rwa [show 4 + (a - 4) = a by omega] at this
set_option maxRecDepth 100000 in
theorem wa_1 {d : Nat} {I : Nat → Nat → Int32} {L : Nat → Nat → Int64} {P : Nat → Nat → Option Nat} {n s : Nat} {Q : Qm} {a b c : Nat} {r : Int64} {v5 : Value} {N : Nat} (hN : N ≤ 336) (h9 : I 50 9 = nI N) (p3 : P 1 3 = some b) (p4 : P 1 4 = some c) (hb : 4 ≤ b ∧ b ≤ 6) (hcc : 4 ≤ c ∧ c ≤ 6) (bc : ¬ b = c) : WP (Call (d + 1)) (kod 88) (n, s) (endQ n s Q) 3 [.ref 1, .ref 50, .long r, .null, .int 0, v5] [] (I, L, P, n, s) = WP (Call (d + 1)) (kod 88) (n, s) (endQ n s Q) 35 [.ref 1, .ref 50, .long r, .null, .int (nI N), v5] [] (I, wA L c (nfW r (L b) (L c) N), P, n, s) := by
  obtain ⟨kb, lb⟩ := kd_NOW hb
  obtain ⟨kc, lc⟩ := kd_NOW hcc
  have step : ∀ i, i < N → WP (Call (d + 1)) (kod 88) (n, s) (endQ n s Q) 3 [.ref 1, .ref 50, .long r, .null, .int (nI i), v5] [] (I, wA L c (nfW r (L b) (L c) i), P, n, s) = WP (Call (d + 1)) (kod 88) (n, s) (endQ n s Q) 3 [.ref 1, .ref 50, .long r, .null, .int (nI (i + 1)), v5] [] (I, wA L c (nfW r (L b) (L c) (i + 1)), P, n, s) := by
    intro i hi
    rw [x88_3]
    simp (disch := first | assumption | omega | decide | (refine kdN ?_; omega) | (refine kdS ?_; omega) | (refine kd_REGS0 ?_; omega) | (refine kd_BOOK_noted0 ?_; omega) | (refine kd_IREGS0 ?_; omega) | (refine kd_IBOOK_noted0 ?_; omega) | (refine kd_SUMS0 ?_; omega) | (refine kd_TERMS0 ?_; omega) | (refine kd_FACT0 ?_; omega) | (simp (disch := omega) only [tw])) only [↓x88_0, ↓x88_1, ↓x88_5, ↓x88_6, ↓x88_9, ↓x88_12, ↓x88_13, ↓x88_16, ↓x88_18, ↓x88_19, ↓x88_20, ↓x88_21, ↓x88_24, ↓x88_26, ↓x88_27, ↓x88_28, ↓x88_29, ↓x88_32, ↓x88_35, ↓x88_36, ↓x88_38, ↓x88_40, ↓x88_41, ↓x88_44, ↓x88_47, ↓x88_48, ↓x88_50, ↓x88_52, ↓x88_53, ↓x88_56, ↓x88_59, ↓x88_62, ↓x88_63, ↓x88_66, ↓x88_67, ↓x88_69, ↓x88_71, ↓x88_74, ↓x88_75, ↓x88_76, ↓x88_77, ↓x88_80, ↓x88_82, ↓x88_83, ↓x88_84, ↓x88_85, ↓x88_88, ↓x88_91, ↓x88_94, ↓x88_97, ↓x88_98, ↓x88_101, ↓x88_103, ↓x88_104, ↓x88_105, ↓x88_108, ↓x88_111, ↓x88_112, ↓x88_113, ↓x88_116, ↓x88_119, ↓x88_120, ↓x88_122, ↓x88_125, evl_e, ↓endQ_e, ↓gI_0, ↓gL_0, ↓gR_0, ↓gI_s, ↓gL_s, ↓gR_s, ↓pI_i, ↓pL_l, ↓pR_r, ↓p1_i, ↓p1_r, ↓pE_e, ↓pN_z, ↓pN_1, ↓pN_2, ↓pN_3, ↓pN_4, ↓pN_5, ↓pN_6, ↓rl_0, ↓rl_1, ↓rl_2, ↓rl_3, ↓rl_4, ↓hdR_r, ↓hdO_r, va_rf_s, sL1_0, sL1_ss, sL1_1i, sL1_1r, sL1_1n, sL1_1l, sL2_0, sL2_ss, sL2_1i, sL2_1r, sL2_1n, sL2_1l, List.getElem?_cons_zero, List.getElem?_cons_succ, Option.toList_some, Option.toList_none, List.cons_append, List.nil_append, Nat.reduceAdd, true_and, and_true, and_self, wA_s, wA_w, ↓reduceIte, ite_self, true_or, or_true, tv, tc, tl, tg, t0, tz, tw, tu, tup, tuL, nI_add, pk_mul, upd_s, tup_s, tuL_s, nI_0, i1, i2, i3, i4, nm1, kd_1, kd_50, h9, p3, p4, kb, lb, kc, lc, nfW_u]
  have fin := chain _ N step 0 (Nat.zero_le _)
  rw [nfW_0, wA_id, nI_0] at fin
  refine fin.trans ?_
  rw [x88_3]
  simp (disch := first | assumption | omega | decide | (refine kdN ?_; omega) | (refine kdS ?_; omega) | (refine kd_REGS0 ?_; omega) | (refine kd_BOOK_noted0 ?_; omega) | (refine kd_IREGS0 ?_; omega) | (refine kd_IBOOK_noted0 ?_; omega) | (refine kd_SUMS0 ?_; omega) | (refine kd_TERMS0 ?_; omega) | (refine kd_FACT0 ?_; omega) | (simp (disch := omega) only [tw])) only [↓x88_0, ↓x88_1, ↓x88_5, ↓x88_6, ↓x88_9, ↓x88_12, ↓x88_13, ↓x88_16, ↓x88_18, ↓x88_19, ↓x88_20, ↓x88_21, ↓x88_24, ↓x88_26, ↓x88_27, ↓x88_28, ↓x88_29, ↓x88_32, ↓x88_36, ↓x88_38, ↓x88_40, ↓x88_41, ↓x88_44, ↓x88_47, ↓x88_48, ↓x88_50, ↓x88_52, ↓x88_53, ↓x88_56, ↓x88_59, ↓x88_62, ↓x88_63, ↓x88_66, ↓x88_67, ↓x88_69, ↓x88_71, ↓x88_74, ↓x88_75, ↓x88_76, ↓x88_77, ↓x88_80, ↓x88_82, ↓x88_83, ↓x88_84, ↓x88_85, ↓x88_88, ↓x88_91, ↓x88_94, ↓x88_97, ↓x88_98, ↓x88_101, ↓x88_103, ↓x88_104, ↓x88_105, ↓x88_108, ↓x88_111, ↓x88_112, ↓x88_113, ↓x88_116, ↓x88_119, ↓x88_120, ↓x88_122, ↓x88_125, evl_e, ↓endQ_e, ↓gI_0, ↓gL_0, ↓gR_0, ↓gI_s, ↓gL_s, ↓gR_s, ↓pI_i, ↓pL_l, ↓pR_r, ↓p1_i, ↓p1_r, ↓pE_e, ↓pN_z, ↓pN_1, ↓pN_2, ↓pN_3, ↓pN_4, ↓pN_5, ↓pN_6, ↓rl_0, ↓rl_1, ↓rl_2, ↓rl_3, ↓rl_4, ↓hdR_r, ↓hdO_r, va_rf_s, sL1_0, sL1_ss, sL1_1i, sL1_1r, sL1_1n, sL1_1l, sL2_0, sL2_ss, sL2_1i, sL2_1r, sL2_1n, sL2_1l, List.getElem?_cons_zero, List.getElem?_cons_succ, Option.toList_some, Option.toList_none, List.cons_append, List.nil_append, Nat.reduceAdd, true_and, and_true, and_self, wA_s, wA_w, ↓reduceIte, ite_self, true_or, or_true, tv, tc, tl, tg, t0, tz, tw, tu, tup, tuL, nI_add, pk_mul, upd_s, tup_s, tuL_s, nI_0, i1, i2, i3, i4, nm1, kd_50, h9]
set_option maxRecDepth 100000 in
theorem wa_2 {d : Nat} {I : Nat → Nat → Int32} {L : Nat → Nat → Int64} {P : Nat → Nat → Option Nat} {n s : Nat} {Q : Qm} (hp : NP P) {x a c m t : Nat} {f : Nat → Int64} {r : Int64} (hN : NC x I) (p2 : P 1 2 = some a) (p4 : P 1 4 = some c) (ha : 4 ≤ a ∧ a ≤ 6) (hcc : 4 ≤ c ∧ c ≤ 6) (ac : ¬ a = c) (hm : m < nN x) (ht : t < sN x) : WP (Call (d + 1)) (kod 88) (n, s) (endQ n s Q) 50 [.ref 1, .ref 50, .long r, .null, .int (nI m), .int (nI t)] [] (I, wA L c (wS x (L a) m f t), P, n, s) = WP (Call (d + 1)) (kod 88) (n, s) (endQ n s Q) 50 [.ref 1, .ref 50, .long r, .null, .int (nI m), .int (nI (t + 1))] [] (I, wA L c (wS x (L a) m f (t + 1)), P, n, s) := by
  obtain ⟨p50_0, p50_1, p50_2, p50_3, p50_4, p50_5, p50_6, p50_7, p51_0, p51_1, p51_2, p51_3, p51_4, pS, pN⟩ := id hp
  obtain ⟨ka, la⟩ := kd_NOW ha
  obtain ⟨kc, lc⟩ := kd_NOW hcc
  obtain ⟨⟨hx, n1, n2, n3, n4, n5⟩, nS, nR, nQ, nU, nT, nD⟩ := hN
  have hbn := nN_b x hx
  have hsb := sN_b x hx
  have r1 := nT m hm t ht
  have r2 := tg_lt hx hm ht
  have r3 := wS_u (x := x) (v := L a) (m := m) (t := t) (f := f)
  rw [x88_50]
  generalize hg : tgX x m t = g at *
  simp (disch := first | assumption | omega | decide | (refine kdN ?_; omega) | (refine kdS ?_; omega) | (refine kd_REGS0 ?_; omega) | (refine kd_BOOK_noted0 ?_; omega) | (refine kd_IREGS0 ?_; omega) | (refine kd_IBOOK_noted0 ?_; omega) | (refine kd_SUMS0 ?_; omega) | (refine kd_TERMS0 ?_; omega) | (refine kd_FACT0 ?_; omega) | (simp (disch := omega) only [tw])) only [↓x88_0, ↓x88_1, ↓x88_3, ↓x88_5, ↓x88_6, ↓x88_9, ↓x88_12, ↓x88_13, ↓x88_16, ↓x88_18, ↓x88_19, ↓x88_20, ↓x88_21, ↓x88_24, ↓x88_26, ↓x88_27, ↓x88_28, ↓x88_29, ↓x88_32, ↓x88_35, ↓x88_36, ↓x88_38, ↓x88_40, ↓x88_41, ↓x88_44, ↓x88_47, ↓x88_48, ↓x88_52, ↓x88_53, ↓x88_56, ↓x88_59, ↓x88_62, ↓x88_63, ↓x88_66, ↓x88_67, ↓x88_69, ↓x88_71, ↓x88_74, ↓x88_75, ↓x88_76, ↓x88_77, ↓x88_80, ↓x88_82, ↓x88_83, ↓x88_84, ↓x88_85, ↓x88_88, ↓x88_91, ↓x88_94, ↓x88_97, ↓x88_98, ↓x88_101, ↓x88_103, ↓x88_104, ↓x88_105, ↓x88_108, ↓x88_111, ↓x88_112, ↓x88_113, ↓x88_116, ↓x88_119, ↓x88_120, ↓x88_122, ↓x88_125, evl_e, ↓endQ_e, ↓gI_0, ↓gL_0, ↓gR_0, ↓gI_s, ↓gL_s, ↓gR_s, ↓pI_i, ↓pL_l, ↓pR_r, ↓p1_i, ↓p1_r, ↓pE_e, ↓pN_z, ↓pN_1, ↓pN_2, ↓pN_3, ↓pN_4, ↓pN_5, ↓pN_6, ↓rl_0, ↓rl_1, ↓rl_2, ↓rl_3, ↓rl_4, ↓hdR_r, ↓hdO_r, va_rf_s, sL1_0, sL1_ss, sL1_1i, sL1_1r, sL1_1n, sL1_1l, sL2_0, sL2_ss, sL2_1i, sL2_1r, sL2_1n, sL2_1l, List.getElem?_cons_zero, List.getElem?_cons_succ, Option.toList_some, Option.toList_none, List.cons_append, List.nil_append, Nat.reduceAdd, true_and, and_true, and_self, wA_s, wA_w, ↓reduceIte, ite_self, true_or, or_true, tv, tc, tl, tg, t0, tz, tw, tu, tup, tuL, nI_add, pk_mul, upd_s, tup_s, tuL_s, nI_0, i1, i2, i3, i4, nm1, p50_0, kd_1, kd_50, kd_51, n5, p2, p4, ka, la, kc, lc, ↓n_target hp, r1, r3]
set_option maxRecDepth 100000 in
theorem wa_3 {d : Nat} {I : Nat → Nat → Int32} {L : Nat → Nat → Int64} {P : Nat → Nat → Option Nat} {n s : Nat} {Q : Qm} (hp : NP P) {m N : Nat} {r : Int64} (hsb : N ≤ 30) (h6 : I 51 6 = nI N) : WP (Call (d + 1)) (kod 88) (n, s) (endQ n s Q) 50 [.ref 1, .ref 50, .long r, .null, .int (nI m), .int (nI N)] [] (I, L, P, n, s) = WP (Call (d + 1)) (kod 88) (n, s) (endQ n s Q) 38 [.ref 1, .ref 50, .long r, .null, .int (nI (m + 1)), .int (nI N)] [] (I, L, P, n, s) := by
  obtain ⟨p50_0, p50_1, p50_2, p50_3, p50_4, p50_5, p50_6, p50_7, p51_0, p51_1, p51_2, p51_3, p51_4, pS, pN⟩ := id hp
  rw [x88_50]
  simp (disch := first | assumption | omega | decide | (refine kdN ?_; omega) | (refine kdS ?_; omega) | (refine kd_REGS0 ?_; omega) | (refine kd_BOOK_noted0 ?_; omega) | (refine kd_IREGS0 ?_; omega) | (refine kd_IBOOK_noted0 ?_; omega) | (refine kd_SUMS0 ?_; omega) | (refine kd_TERMS0 ?_; omega) | (refine kd_FACT0 ?_; omega) | (simp (disch := omega) only [tw])) only [↓x88_0, ↓x88_1, ↓x88_3, ↓x88_5, ↓x88_6, ↓x88_9, ↓x88_12, ↓x88_13, ↓x88_16, ↓x88_18, ↓x88_19, ↓x88_20, ↓x88_21, ↓x88_24, ↓x88_26, ↓x88_27, ↓x88_28, ↓x88_29, ↓x88_32, ↓x88_35, ↓x88_36, ↓x88_40, ↓x88_41, ↓x88_44, ↓x88_47, ↓x88_48, ↓x88_52, ↓x88_53, ↓x88_56, ↓x88_59, ↓x88_62, ↓x88_63, ↓x88_66, ↓x88_67, ↓x88_69, ↓x88_71, ↓x88_74, ↓x88_75, ↓x88_76, ↓x88_77, ↓x88_80, ↓x88_82, ↓x88_83, ↓x88_84, ↓x88_85, ↓x88_88, ↓x88_91, ↓x88_94, ↓x88_97, ↓x88_98, ↓x88_101, ↓x88_103, ↓x88_104, ↓x88_105, ↓x88_108, ↓x88_111, ↓x88_112, ↓x88_113, ↓x88_116, ↓x88_119, ↓x88_120, ↓x88_122, ↓x88_125, evl_e, ↓endQ_e, ↓gI_0, ↓gL_0, ↓gR_0, ↓gI_s, ↓gL_s, ↓gR_s, ↓pI_i, ↓pL_l, ↓pR_r, ↓p1_i, ↓p1_r, ↓pE_e, ↓pN_z, ↓pN_1, ↓pN_2, ↓pN_3, ↓pN_4, ↓pN_5, ↓pN_6, ↓rl_0, ↓rl_1, ↓rl_2, ↓rl_3, ↓rl_4, ↓hdR_r, ↓hdO_r, va_rf_s, sL1_0, sL1_ss, sL1_1i, sL1_1r, sL1_1n, sL1_1l, sL2_0, sL2_ss, sL2_1i, sL2_1r, sL2_1n, sL2_1l, List.getElem?_cons_zero, List.getElem?_cons_succ, Option.toList_some, Option.toList_none, List.cons_append, List.nil_append, Nat.reduceAdd, true_and, and_true, and_self, wA_s, wA_w, ↓reduceIte, ite_self, true_or, or_true, tv, tc, tl, tg, t0, tz, tw, tu, tup, tuL, nI_add, pk_mul, upd_s, tup_s, tuL_s, nI_0, i1, i2, i3, i4, nm1, p50_0, kd_50, kd_51, h6]
set_option maxRecDepth 100000 in
theorem wa_4 {d : Nat} {I : Nat → Nat → Int32} {L : Nat → Nat → Int64} {P : Nat → Nat → Option Nat} {n s : Nat} {Q : Qm} {m N : Nat} {r : Int64} {v5 : Value} (hN : N ≤ 336) (h9 : I 50 9 = nI N) (hm : m < N) : WP (Call (d + 1)) (kod 88) (n, s) (endQ n s Q) 38 [.ref 1, .ref 50, .long r, .null, .int (nI m), v5] [] (I, L, P, n, s) = WP (Call (d + 1)) (kod 88) (n, s) (endQ n s Q) 50 [.ref 1, .ref 50, .long r, .null, .int (nI m), .int (nI 0)] [] (I, L, P, n, s) := by
  rw [x88_38]
  simp (disch := first | assumption | omega | decide | (refine kdN ?_; omega) | (refine kdS ?_; omega) | (refine kd_REGS0 ?_; omega) | (refine kd_BOOK_noted0 ?_; omega) | (refine kd_IREGS0 ?_; omega) | (refine kd_IBOOK_noted0 ?_; omega) | (refine kd_SUMS0 ?_; omega) | (refine kd_TERMS0 ?_; omega) | (refine kd_FACT0 ?_; omega) | (simp (disch := omega) only [tw])) only [↓x88_0, ↓x88_1, ↓x88_3, ↓x88_5, ↓x88_6, ↓x88_9, ↓x88_12, ↓x88_13, ↓x88_16, ↓x88_18, ↓x88_19, ↓x88_20, ↓x88_21, ↓x88_24, ↓x88_26, ↓x88_27, ↓x88_28, ↓x88_29, ↓x88_32, ↓x88_35, ↓x88_36, ↓x88_40, ↓x88_41, ↓x88_44, ↓x88_47, ↓x88_48, ↓x88_52, ↓x88_53, ↓x88_56, ↓x88_59, ↓x88_62, ↓x88_63, ↓x88_66, ↓x88_67, ↓x88_69, ↓x88_71, ↓x88_74, ↓x88_75, ↓x88_76, ↓x88_77, ↓x88_80, ↓x88_82, ↓x88_83, ↓x88_84, ↓x88_85, ↓x88_88, ↓x88_91, ↓x88_94, ↓x88_97, ↓x88_98, ↓x88_101, ↓x88_103, ↓x88_104, ↓x88_105, ↓x88_108, ↓x88_111, ↓x88_112, ↓x88_113, ↓x88_116, ↓x88_119, ↓x88_120, ↓x88_122, ↓x88_125, evl_e, ↓endQ_e, ↓gI_0, ↓gL_0, ↓gR_0, ↓gI_s, ↓gL_s, ↓gR_s, ↓pI_i, ↓pL_l, ↓pR_r, ↓p1_i, ↓p1_r, ↓pE_e, ↓pN_z, ↓pN_1, ↓pN_2, ↓pN_3, ↓pN_4, ↓pN_5, ↓pN_6, ↓rl_0, ↓rl_1, ↓rl_2, ↓rl_3, ↓rl_4, ↓hdR_r, ↓hdO_r, va_rf_s, sL1_0, sL1_ss, sL1_1i, sL1_1r, sL1_1n, sL1_1l, sL2_0, sL2_ss, sL2_1i, sL2_1r, sL2_1n, sL2_1l, List.getElem?_cons_zero, List.getElem?_cons_succ, Option.toList_some, Option.toList_none, List.cons_append, List.nil_append, Nat.reduceAdd, true_and, and_true, and_self, wA_s, wA_w, ↓reduceIte, ite_self, true_or, or_true, tv, tc, tl, tg, t0, tz, tw, tu, tup, tuL, nI_add, pk_mul, upd_s, tup_s, tuL_s, nI_0, i1, i2, i3, i4, nm1, kd_50, h9]
theorem wa_5 {d : Nat} {I : Nat → Nat → Int32} {L : Nat → Nat → Int64} {P : Nat → Nat → Option Nat} {n s : Nat} {Q : Qm} (hp : NP P) {x a c : Nat} {f : Nat → Int64} {r : Int64} (hN : NC x I) (p2 : P 1 2 = some a) (p4 : P 1 4 = some c) (ha : 4 ≤ a ∧ a ≤ 6) (hcc : 4 ≤ c ∧ c ≤ 6) (ac : ¬ a = c) : ∀ m, m ≤ nN x → ∀ v5, ∃ v5', WP (Call (d + 1)) (kod 88) (n, s) (endQ n s Q) 38 [.ref 1, .ref 50, .long r, .null, .int (nI 0), v5] [] (I, wA L c f, P, n, s) = WP (Call (d + 1)) (kod 88) (n, s) (endQ n s Q) 38 [.ref 1, .ref 50, .long r, .null, .int (nI m), v5'] [] (I, wA L c (wN x (L a) f m), P, n, s)
  | 0, _, v5 => ⟨v5, rfl⟩
  | m + 1, h, v5 => by
    obtain ⟨⟨hx, n1, n2, n3, n4, n5⟩, -⟩ := id hN
    obtain ⟨v5', e⟩ := wa_5 (d := d) (n := n) (s := s) (Q := Q) hp hN p2 p4 ha hcc ac (f := f) (r := r) m (by omega) v5
    have fin := chain (fun t => WP (Call (d + 1)) (kod 88) (n, s) (endQ n s Q) 50 [.ref 1, .ref 50, .long r, .null, .int (nI m), .int (nI t)] [] (I, wA L c (wS x (L a) m (wN x (L a) f m) t), P, n, s)) (sN x) (fun t ht => wa_2 hp hN p2 p4 ha hcc ac (by omega) ht) 0 (Nat.zero_le _)
    refine ⟨.int (nI (sN x)), ?_⟩
    rw [e, wa_4 (nN_b x hx).2 n2 (by omega)]
    refine fin.trans ?_
    show WP (Call (d + 1)) (kod 88) (n, s) (endQ n s Q) 50 [.ref 1, .ref 50, .long r, .null, .int (nI m), .int (nI (sN x))] [] _ = _
    rw [wa_3 hp (sN_b x hx).2 n5]
    rfl
set_option maxRecDepth 100000 in
theorem wa_6 {d : Nat} {I : Nat → Nat → Int32} {L : Nat → Nat → Int64} {P : Nat → Nat → Option Nat} {n s : Nat} {Q : Qm} {a b c N : Nat} {r : Int64} {v5 : Value} (hN : N ≤ 336) (h9 : I 50 9 = nI N) (p2 : P 1 2 = some a) (p3 : P 1 3 = some b) (p4 : P 1 4 = some c) : WP (Call (d + 1)) (kod 88) (n, s) (endQ n s Q) 38 [.ref 1, .ref 50, .long r, .null, .int (nI N), v5] [] (I, L, P, n, s) = Q none (I, L, wA P 1 (va_up (va_up (va_up (P 1) 3 (some a)) 2 (some c)) 4 (some b)), n, s) := by
  rw [x88_38]
  simp (disch := first | assumption | omega | decide | (refine kdN ?_; omega) | (refine kdS ?_; omega) | (refine kd_REGS0 ?_; omega) | (refine kd_BOOK_noted0 ?_; omega) | (refine kd_IREGS0 ?_; omega) | (refine kd_IBOOK_noted0 ?_; omega) | (refine kd_SUMS0 ?_; omega) | (refine kd_TERMS0 ?_; omega) | (refine kd_FACT0 ?_; omega) | (simp (disch := omega) only [tw])) only [↓x88_0, ↓x88_1, ↓x88_3, ↓x88_5, ↓x88_6, ↓x88_9, ↓x88_12, ↓x88_13, ↓x88_16, ↓x88_18, ↓x88_19, ↓x88_20, ↓x88_21, ↓x88_24, ↓x88_26, ↓x88_27, ↓x88_28, ↓x88_29, ↓x88_32, ↓x88_35, ↓x88_36, ↓x88_40, ↓x88_41, ↓x88_44, ↓x88_47, ↓x88_48, ↓x88_50, ↓x88_52, ↓x88_53, ↓x88_56, ↓x88_59, ↓x88_62, ↓x88_63, ↓x88_66, ↓x88_67, ↓x88_69, ↓x88_71, ↓x88_74, ↓x88_75, ↓x88_76, ↓x88_77, ↓x88_80, ↓x88_82, ↓x88_83, ↓x88_84, ↓x88_85, ↓x88_88, ↓x88_91, ↓x88_94, ↓x88_97, ↓x88_98, ↓x88_101, ↓x88_103, ↓x88_104, ↓x88_105, ↓x88_108, ↓x88_111, ↓x88_112, ↓x88_113, ↓x88_116, ↓x88_119, ↓x88_120, ↓x88_122, ↓x88_125, evl_e, ↓endQ_e, ↓gI_0, ↓gL_0, ↓gR_0, ↓gI_s, ↓gL_s, ↓gR_s, ↓pI_i, ↓pL_l, ↓pR_r, ↓p1_i, ↓p1_r, ↓pE_e, ↓pN_z, ↓pN_1, ↓pN_2, ↓pN_3, ↓pN_4, ↓pN_5, ↓pN_6, ↓rl_0, ↓rl_1, ↓rl_2, ↓rl_3, ↓rl_4, ↓hdR_r, ↓hdO_r, va_rf_s, sL1_0, sL1_ss, sL1_1i, sL1_1r, sL1_1n, sL1_1l, sL2_0, sL2_ss, sL2_1i, sL2_1r, sL2_1n, sL2_1l, List.getElem?_cons_zero, List.getElem?_cons_succ, Option.toList_some, Option.toList_none, List.cons_append, List.nil_append, Nat.reduceAdd, true_and, and_true, and_self, wA_s, wA_w, ↓reduceIte, ite_self, true_or, or_true, tv, tc, tl, tg, t0, tz, tw, tu, tup, tuL, nI_add, pk_mul, upd_s, tup_s, tuL_s, nI_0, i1, i2, i3, i4, nm1, kd_50, kd_1, h9, p2, p3, p4, sL1_1i]
set_option maxRecDepth 100000 in
theorem w_adv {d : Nat} {I : Nat → Nat → Int32} {L : Nat → Nat → Int64} {P : Nat → Nat → Option Nat} {n s : Nat} {Q : Qm} (hp : NP P) {x a b c : Nat} {r : Int64} (hN : NC x I) (p2 : P 1 2 = some a) (p3 : P 1 3 = some b) (p4 : P 1 4 = some c) (ha : 4 ≤ a ∧ a ≤ 6) (hb : 4 ≤ b ∧ b ≤ 6) (hcc : 4 ≤ c ∧ c ≤ 6) (ac : ¬ a = c) (bc : ¬ b = c) : Call (d + 2) 88 [.ref 1, .ref 50, .long r] (I, L, P, n, s) Q = Q none (I, wA L c (wN x (L a) (nfW r (L b) (L c) (nN x)) (nN x)), wA P 1 (va_up (va_up (va_up (P 1) 3 (some a)) 2 (some c)) 4 (some b)), n, s) := by
  obtain ⟨⟨hx, n1, n2, n3, n4, n5⟩, -⟩ := id hN
  have hbn := nN_b x hx
  simp (disch := first | assumption | omega | decide | (refine kdN ?_; omega) | (refine kdS ?_; omega) | (refine kd_REGS0 ?_; omega) | (refine kd_BOOK_noted0 ?_; omega) | (refine kd_IREGS0 ?_; omega) | (refine kd_IBOOK_noted0 ?_; omega) | (refine kd_SUMS0 ?_; omega) | (refine kd_TERMS0 ?_; omega) | (refine kd_FACT0 ?_; omega) | (simp (disch := omega) only [tw])) only [↓c88, ↓x88_0, ↓x88_1, ↓x88_5, ↓x88_6, ↓x88_9, ↓x88_12, ↓x88_13, ↓x88_16, ↓x88_18, ↓x88_19, ↓x88_20, ↓x88_21, ↓x88_24, ↓x88_26, ↓x88_27, ↓x88_28, ↓x88_29, ↓x88_32, ↓x88_35, ↓x88_36, ↓x88_38, ↓x88_40, ↓x88_41, ↓x88_44, ↓x88_47, ↓x88_48, ↓x88_50, ↓x88_52, ↓x88_53, ↓x88_56, ↓x88_59, ↓x88_62, ↓x88_63, ↓x88_66, ↓x88_67, ↓x88_69, ↓x88_71, ↓x88_74, ↓x88_75, ↓x88_76, ↓x88_77, ↓x88_80, ↓x88_82, ↓x88_83, ↓x88_84, ↓x88_85, ↓x88_88, ↓x88_91, ↓x88_94, ↓x88_97, ↓x88_98, ↓x88_101, ↓x88_103, ↓x88_104, ↓x88_105, ↓x88_108, ↓x88_111, ↓x88_112, ↓x88_113, ↓x88_116, ↓x88_119, ↓x88_120, ↓x88_122, ↓x88_125, evl_e, ↓endQ_e, ↓gI_0, ↓gL_0, ↓gR_0, ↓gI_s, ↓gL_s, ↓gR_s, ↓pI_i, ↓pL_l, ↓pR_r, ↓p1_i, ↓p1_r, ↓pE_e, ↓pN_z, ↓pN_1, ↓pN_2, ↓pN_3, ↓pN_4, ↓pN_5, ↓pN_6, ↓rl_0, ↓rl_1, ↓rl_2, ↓rl_3, ↓rl_4, ↓hdR_r, ↓hdO_r, va_rf_s, sL1_0, sL1_ss, sL1_1i, sL1_1r, sL1_1n, sL1_1l, sL2_0, sL2_ss, sL2_1i, sL2_1r, sL2_1n, sL2_1l, List.getElem?_cons_zero, List.getElem?_cons_succ, Option.toList_some, Option.toList_none, List.cons_append, List.nil_append, Nat.reduceAdd, true_and, and_true, and_self, wA_s, wA_w, ↓reduceIte, ite_self, true_or, or_true, tv, tc, tl, tg, t0, tz, tw, tu, tup, tuL, nI_add, pk_mul, upd_s, tup_s, tuL_s, nI_0, i1, i2, i3, i4, nm1]
  rw [wa_1 (a := a) hbn.2 n2 p3 p4 hb hcc bc]
  simp (disch := first | assumption | omega | decide | (refine kdN ?_; omega) | (refine kdS ?_; omega) | (refine kd_REGS0 ?_; omega) | (refine kd_BOOK_noted0 ?_; omega) | (refine kd_IREGS0 ?_; omega) | (refine kd_IBOOK_noted0 ?_; omega) | (refine kd_SUMS0 ?_; omega) | (refine kd_TERMS0 ?_; omega) | (refine kd_FACT0 ?_; omega) | (simp (disch := omega) only [tw])) only [↓x88_0, ↓x88_1, ↓x88_3, ↓x88_5, ↓x88_6, ↓x88_9, ↓x88_12, ↓x88_13, ↓x88_16, ↓x88_18, ↓x88_19, ↓x88_20, ↓x88_21, ↓x88_24, ↓x88_26, ↓x88_27, ↓x88_28, ↓x88_29, ↓x88_32, ↓x88_35, ↓x88_36, ↓x88_40, ↓x88_41, ↓x88_44, ↓x88_47, ↓x88_48, ↓x88_50, ↓x88_52, ↓x88_53, ↓x88_56, ↓x88_59, ↓x88_62, ↓x88_63, ↓x88_66, ↓x88_67, ↓x88_69, ↓x88_71, ↓x88_74, ↓x88_75, ↓x88_76, ↓x88_77, ↓x88_80, ↓x88_82, ↓x88_83, ↓x88_84, ↓x88_85, ↓x88_88, ↓x88_91, ↓x88_94, ↓x88_97, ↓x88_98, ↓x88_101, ↓x88_103, ↓x88_104, ↓x88_105, ↓x88_108, ↓x88_111, ↓x88_112, ↓x88_113, ↓x88_116, ↓x88_119, ↓x88_120, ↓x88_122, ↓x88_125, evl_e, ↓endQ_e, ↓gI_0, ↓gL_0, ↓gR_0, ↓gI_s, ↓gL_s, ↓gR_s, ↓pI_i, ↓pL_l, ↓pR_r, ↓p1_i, ↓p1_r, ↓pE_e, ↓pN_z, ↓pN_1, ↓pN_2, ↓pN_3, ↓pN_4, ↓pN_5, ↓pN_6, ↓rl_0, ↓rl_1, ↓rl_2, ↓rl_3, ↓rl_4, ↓hdR_r, ↓hdO_r, va_rf_s, sL1_0, sL1_ss, sL1_1i, sL1_1r, sL1_1n, sL1_1l, sL2_0, sL2_ss, sL2_1i, sL2_1r, sL2_1n, sL2_1l, List.getElem?_cons_zero, List.getElem?_cons_succ, Option.toList_some, Option.toList_none, List.cons_append, List.nil_append, Nat.reduceAdd, true_and, and_true, and_self, wA_s, wA_w, ↓reduceIte, ite_self, true_or, or_true, tv, tc, tl, tg, t0, tz, tw, tu, tup, tuL, nI_add, pk_mul, upd_s, tup_s, tuL_s, nI_0, i1, i2, i3, i4, nm1]
  obtain ⟨v5', e⟩ := wa_5 (d := d) (L := L) (n := n) (s := s) (Q := Q) (a := a) (c := c) hp hN p2 p4 ha hcc ac (f := nfW r (L b) (L c) (nN x)) (r := r) (nN x) (Nat.le_refl _) .null
  rw [nI_0] at e
  rw [e, wa_6 hbn.2 n2 p2 p3 p4]
