/-! walks: Walks.fill, learn, closed, bare -/
def FI (x : Nat) (bb : Bool) (ct i : Nat) (L0 : Nat → Nat → Int64) (P0 : Nat → Nat → Option Nat) (L : Nat → Nat → Int64) (P : Nat → Nat → Option Nat) : Prop := (∃ a b c, (P 1 2 = some a ∧ P 1 3 = some b ∧ P 1 4 = some c ∧ (4 ≤ a ∧ a ≤ 6) ∧ (4 ≤ b ∧ b ≤ 6) ∧ (4 ≤ c ∧ c ≤ 6) ∧ ¬ a = b ∧ ¬ b = c ∧ ¬ a = c) ∧ ∀ k, k < nN x → L a k = (wK x bb i).2 k ∧ L b k = (wK x bb i).1 k) ∧ (∀ j, j ≤ i → L ct j = wC x bb j) ∧ (∀ z, ¬ (4 ≤ z ∧ z ≤ 6) → ¬ z = ct → L z = L0 z) ∧ (∀ z, ¬ z = 1 → P z = P0 z) ∧ ∀ f, ¬ (2 ≤ f ∧ f ≤ 4) → P 1 f = P0 1 f
theorem FI_s {x ct i : Nat} {bb : Bool} {L0 : Nat → Nat → Int64} {P0 : Nat → Nat → Option Nat} {L : Nat → Nat → Int64} {P : Nat → Nat → Option Nat} {a b c : Nat} (hx : x < 11) (hct : ct = 2 ∨ ct = 3) (h : FI x bb ct i L0 P0 L P) (p2 : P 1 2 = some a) (p3 : P 1 3 = some b) (p4 : P 1 4 = some c) : FI x bb ct (i + 1) L0 P0 (wA (wA L c (wN x (L a) (nfW (rtn x (i + 1) bb) (L b) (L c) (nN x)) (nN x))) ct (vp_updL (L ct) (i + 1) (wN x (L a) (nfW (rtn x (i + 1) bb) (L b) (L c) (nN x)) (nN x) 0))) (wA P 1 (va_up (va_up (va_up (P 1) 3 (some a)) 2 (some c)) 4 (some b))) := by
  obtain ⟨⟨a', b', c', ⟨q2, q3, q4, ha, hb, hc, ab, bc, ac⟩, hk⟩, h2, h3, h4, h5⟩ := h
  have ea : a' = a := Option.some.inj (q2.symm.trans p2)
  have eb : b' = b := Option.some.inj (q3.symm.trans p3)
  have ec : c' = c := Option.some.inj (q4.symm.trans p4)
  subst ea eb ec
  have key : ∀ k, k < nN x → wN x (L a') (nfW (rtn x (i + 1) bb) (L b') (L c') (nN x)) (nN x) k = (wK x bb (i + 1)).2 k := fun k hkk => by
    rw [wN_lin, wN_q hx (v' := (wK x bb i).2) (g := fun _ => 0) (fun m hm => (hk m hm).1) (fun _ _ => rfl) _ (Nat.le_refl _) k hkk]
    show _ = wN x (wK x bb i).2 (fun _ => 0) (nN x) k - rtn x (i + 1) bb * (wK x bb i).1 k
    unfold nfW
    rw [if_pos hkk, (hk k hkk).2, Int64.neg_mul, Int64.add_comm, ← Int64.sub_eq_add_neg]
  have cn : ¬ c' = ct := by omega
  have an : ¬ a' = ct := by omega
  refine ⟨⟨c', a', b', ⟨?_, ?_, ?_, hc, ha, hb, fun q => ac q.symm, ab, fun q => bc q.symm⟩, fun k hkk => ⟨?_, ?_⟩⟩, fun j hj => ?_, fun z z1 z2 => ?_, fun z hz => ?_, fun f hf => ?_⟩
  · rw [wA_s, tup (by decide), tup_s]
  · rw [wA_s, tup (by decide), tup (by decide), tup_s]
  · rw [wA_s, tup_s]
  · rw [tw cn, wA_s]
    exact key k hkk
  · rw [tw an, tw ac]
    exact (hk k hkk).1
  · rw [wA_s]
    by_cases e : j = i + 1
    · subst e
      rw [tuL_s, key 0 (nN_b x hx).1]
      rfl
    · rw [tuL e]
      exact h2 j (by omega)
  · rw [tw z2, tw (by omega)]
    exact h3 z z1 z2
  · rw [tw hz]
    exact h4 z hz
  · rw [wA_s, tup (by omega), tup (by omega), tup (by omega)]
    exact h5 f hf
theorem FI_0 {x ct : Nat} {bb : Bool} {L : Nat → Nat → Int64} {P : Nat → Nat → Option Nat} {a b c : Nat} (hx : x < 11) (hct : ct = 2 ∨ ct = 3) (p2 : P 1 2 = some a) (p3 : P 1 3 = some b) (p4 : P 1 4 = some c) (ha : 4 ≤ a ∧ a ≤ 6) (hb : 4 ≤ b ∧ b ≤ 6) (hc : 4 ≤ c ∧ c ≤ 6) (ab : ¬ a = b) (bc : ¬ b = c) (ac : ¬ a = c) : FI x bb ct 0 L P (wA (wA (wA L b (fillF (L b) 336 0)) a (vp_updL (fillF (L a) 336 0) 0 1)) ct (vp_updL (L ct) 0 1)) P := by
  have hN := nN_b x hx
  have an : ¬ a = ct := by omega
  have bn : ¬ b = ct := by omega
  refine ⟨⟨a, b, c, ⟨p2, p3, p4, ha, hb, hc, ab, bc, ac⟩, fun k hk => ⟨?_, ?_⟩⟩, fun j hj => ?_, fun z z1 z2 => ?_, fun z hz => rfl, fun f hf => rfl⟩
  · rw [tw an, wA_s]
    by_cases e : k = 0
    · subst e
      rw [tuL_s]
      rfl
    · rw [tuL e, fillF_in (by omega)]
      show (0 : Int64) = if k = 0 then 1 else 0
      rw [if_neg e]
  · rw [tw bn, tw (fun q => ab q.symm), wA_s, fillF_in (by omega)]
    rfl
  · have e : j = 0 := by omega
    subst e
    rw [wA_s, tuL_s]
    rfl
  · rw [tw z2, tw (by omega), tw (by omega)]
set_option maxRecDepth 100000 in
theorem w_ret {d : Nat} {I : Nat → Nat → Int32} {L : Nat → Nat → Int64} {P : Nat → Nat → Option Nat} {n s : Nat} {Q : Qm} (hp : NP P) {x i : Nat} (hN : NC x I) (hi : i < 100) : Call (d + 1) 87 [.ref 50, .int (nI i)] (I, L, P, n, s) Q = Q (some (.long (rtn x i true))) (I, L, P, n, s) := by
  obtain ⟨p50_0, p50_1, p50_2, p50_3, p50_4, p50_5, p50_6, p50_7, p51_0, p51_1, p51_2, p51_3, p51_4, pS, pN⟩ := id hp
  obtain ⟨⟨hx, n1, n2, n3, n4, n5⟩, -⟩ := id hN
  have hs := sN_b x hx
  have e1 : (nI i < 2) = (i < 2) := propext (nI_ltI (a := i) (b := 2) (by omega) (by decide))
  have e2 : (nI i = 2) = (i = 2) := propext (nI_eq (a := i) (b := 2) (by omega) (by decide))
  have e3 : nI (sN x - 1) = nI (pW x) := by unfold sN; rw [Nat.add_sub_cancel]
  have e4 : nI (sN x) - 1 = nI (pW x) := by rw [nm1 (by omega), e3]
  unfold rtn
  by_cases h1 : i < 2
  · simp (disch := first | assumption | omega | decide | (refine kdN ?_; omega) | (refine kdS ?_; omega) | (refine kd_REGS0 ?_; omega) | (refine kd_BOOK_noted0 ?_; omega) | (refine kd_IREGS0 ?_; omega) | (refine kd_IBOOK_noted0 ?_; omega) | (refine kd_SUMS0 ?_; omega) | (refine kd_TERMS0 ?_; omega) | (refine kd_FACT0 ?_; omega) | (simp (disch := omega) only [tw])) only [↓c87, ↓x87_0, ↓x87_1, ↓x87_2, ↓x87_5, ↓x87_6, ↓x87_7, ↓x87_8, ↓x87_9, ↓x87_12, ↓x87_13, ↓x87_16, ↓x87_19, ↓x87_20, ↓x87_23, ↓x87_24, ↓x87_27, ↓x87_30, ↓x87_31, ↓x87_32, ↓x87_33, evl_e, ↓endQ_e, ↓gI_0, ↓gL_0, ↓gR_0, ↓gI_s, ↓gL_s, ↓gR_s, ↓pI_i, ↓pL_l, ↓pR_r, ↓p1_i, ↓p1_r, ↓pE_e, ↓pN_z, ↓pN_1, ↓pN_2, ↓pN_3, ↓pN_4, ↓pN_5, ↓pN_6, ↓rl_0, ↓rl_1, ↓rl_2, ↓rl_3, ↓rl_4, ↓hdR_r, ↓hdO_r, va_rf_s, sL1_0, sL1_ss, sL1_1i, sL1_1r, sL1_1n, sL1_1l, sL2_0, sL2_ss, sL2_1i, sL2_1r, sL2_1n, sL2_1l, List.getElem?_cons_zero, List.getElem?_cons_succ, Option.toList_some, Option.toList_none, List.cons_append, List.nil_append, Nat.reduceAdd, true_and, and_true, and_self, wA_s, wA_w, ↓reduceIte, ite_self, true_or, or_true, tv, tc, tl, tg, t0, tz, tw, tu, tup, tuL, nI_add, pk_mul, upd_s, tup_s, tuL_s, nI_0, i1, i2, i3, i4, nm1, e1, h1]
  · by_cases h2 : i = 2
    · subst h2
      simp (disch := first | assumption | omega | decide | (refine kdN ?_; omega) | (refine kdS ?_; omega) | (refine kd_REGS0 ?_; omega) | (refine kd_BOOK_noted0 ?_; omega) | (refine kd_IREGS0 ?_; omega) | (refine kd_IBOOK_noted0 ?_; omega) | (refine kd_SUMS0 ?_; omega) | (refine kd_TERMS0 ?_; omega) | (refine kd_FACT0 ?_; omega) | (simp (disch := omega) only [tw])) only [↓c87, ↓x87_0, ↓x87_1, ↓x87_2, ↓x87_5, ↓x87_6, ↓x87_7, ↓x87_8, ↓x87_9, ↓x87_12, ↓x87_13, ↓x87_16, ↓x87_19, ↓x87_20, ↓x87_23, ↓x87_24, ↓x87_27, ↓x87_30, ↓x87_31, ↓x87_32, ↓x87_33, evl_e, ↓endQ_e, ↓gI_0, ↓gL_0, ↓gR_0, ↓gI_s, ↓gL_s, ↓gR_s, ↓pI_i, ↓pL_l, ↓pR_r, ↓p1_i, ↓p1_r, ↓pE_e, ↓pN_z, ↓pN_1, ↓pN_2, ↓pN_3, ↓pN_4, ↓pN_5, ↓pN_6, ↓rl_0, ↓rl_1, ↓rl_2, ↓rl_3, ↓rl_4, ↓hdR_r, ↓hdO_r, va_rf_s, sL1_0, sL1_ss, sL1_1i, sL1_1r, sL1_1n, sL1_1l, sL2_0, sL2_ss, sL2_1i, sL2_1r, sL2_1n, sL2_1l, List.getElem?_cons_zero, List.getElem?_cons_succ, Option.toList_some, Option.toList_none, List.cons_append, List.nil_append, Nat.reduceAdd, true_and, and_true, and_self, wA_s, wA_w, ↓reduceIte, ite_self, true_or, or_true, tv, tc, tl, tg, t0, tz, tw, tu, tup, tuL, nI_add, pk_mul, upd_s, tup_s, tuL_s, nI_0, i1, i2, i3, i4, nm1, p50_0, kd_50, kd_51, e1, e2, h1, n5]
    · simp (disch := first | assumption | omega | decide | (refine kdN ?_; omega) | (refine kdS ?_; omega) | (refine kd_REGS0 ?_; omega) | (refine kd_BOOK_noted0 ?_; omega) | (refine kd_IREGS0 ?_; omega) | (refine kd_IBOOK_noted0 ?_; omega) | (refine kd_SUMS0 ?_; omega) | (refine kd_TERMS0 ?_; omega) | (refine kd_FACT0 ?_; omega) | (simp (disch := omega) only [tw])) only [↓c87, ↓x87_0, ↓x87_1, ↓x87_2, ↓x87_5, ↓x87_6, ↓x87_7, ↓x87_8, ↓x87_9, ↓x87_12, ↓x87_13, ↓x87_16, ↓x87_19, ↓x87_20, ↓x87_23, ↓x87_24, ↓x87_27, ↓x87_30, ↓x87_31, ↓x87_32, ↓x87_33, evl_e, ↓endQ_e, ↓gI_0, ↓gL_0, ↓gR_0, ↓gI_s, ↓gL_s, ↓gR_s, ↓pI_i, ↓pL_l, ↓pR_r, ↓p1_i, ↓p1_r, ↓pE_e, ↓pN_z, ↓pN_1, ↓pN_2, ↓pN_3, ↓pN_4, ↓pN_5, ↓pN_6, ↓rl_0, ↓rl_1, ↓rl_2, ↓rl_3, ↓rl_4, ↓hdR_r, ↓hdO_r, va_rf_s, sL1_0, sL1_ss, sL1_1i, sL1_1r, sL1_1n, sL1_1l, sL2_0, sL2_ss, sL2_1i, sL2_1r, sL2_1n, sL2_1l, List.getElem?_cons_zero, List.getElem?_cons_succ, Option.toList_some, Option.toList_none, List.cons_append, List.nil_append, Nat.reduceAdd, true_and, and_true, and_self, wA_s, wA_w, ↓reduceIte, ite_self, true_or, or_true, tv, tc, tl, tg, t0, tz, tw, tu, tup, tuL, nI_add, pk_mul, upd_s, tup_s, tuL_s, nI_0, i1, i2, i3, i4, nm1, p50_0, kd_50, kd_51, e1, e2, h1, h2, n5, e3, e4]
theorem tl13 {a : Nat} (h : a < 13) : ((12 : Int32) < nI a) = False := tg (a := 12) (b := a) (by omega) (by decide)
theorem tl13' : ((12 : Int32) < nI 13) = True := by decide
set_option maxRecDepth 100000 in
theorem wf_s {d : Nat} {I : Nat → Nat → Int32} {L : Nat → Nat → Int64} {P : Nat → Nat → Option Nat} {n s : Nat} {Q : Qm} (hc : CP P) (hp : NP P) {x i ct : Nat} {bb : Bool} {L0 : Nat → Nat → Int64} {P0 : Nat → Nat → Option Nat} (hN : NC x I) (hct : ct = 2 ∨ ct = 3) (hi : i < 12) (h : FI x bb ct i L0 P0 L P) (kk : ∀ L' P', FI x bb ct (i + 1) L0 P0 L' P' → WP (Call (d + 2)) (kod 86) (n, s) (endQ n s Q) 30 [.ref 1, .ref 50, .int (bI bb), .ref ct, .int (nI (i + 1 + 1))] [] (I, L', P', n, s)) : WP (Call (d + 2)) (kod 86) (n, s) (endQ n s Q) 30 [.ref 1, .ref 50, .int (bI bb), .ref ct, .int (nI (i + 1))] [] (I, L, P, n, s) := by
  obtain ⟨⟨a, b, c, ⟨p2, p3, p4, ha, hb, hcc, ab, bc, ac⟩, hk⟩, -⟩ := id h
  have hx := hN.1.1
  have k := kk _ _ (FI_s hx hct h p2 p3 p4)
  have kct : kd ct = 11 ∧ ln ct = 13 := by rcases hct with rfl | rfl <;> decide
  obtain ⟨kct, lct⟩ := kct
  obtain ⟨kc, lc⟩ := kd_NOW hcc
  obtain ⟨ka, la⟩ := kd_NOW ha
  have cn : ¬ ct = c := by omega
  rw [x86_30]
  cases bb
  · have er : rtn x (i + 1) false = 0 := rfl
    rw [er] at k
    simp (disch := first | assumption | omega | decide | (refine kdN ?_; omega) | (refine kdS ?_; omega) | (refine kd_REGS0 ?_; omega) | (refine kd_BOOK_noted0 ?_; omega) | (refine kd_IREGS0 ?_; omega) | (refine kd_IBOOK_noted0 ?_; omega) | (refine kd_SUMS0 ?_; omega) | (refine kd_TERMS0 ?_; omega) | (refine kd_FACT0 ?_; omega) | (simp (disch := omega) only [tw])) only [↓x86_0, ↓x86_1, ↓x86_4, ↓x86_5, ↓x86_8, ↓x86_9, ↓x86_12, ↓x86_13, ↓x86_16, ↓x86_17, ↓x86_20, ↓x86_21, ↓x86_22, ↓x86_23, ↓x86_24, ↓x86_25, ↓x86_26, ↓x86_27, ↓x86_28, ↓x86_32, ↓x86_34, ↓x86_37, ↓x86_38, ↓x86_39, ↓x86_40, ↓x86_43, ↓x86_44, ↓x86_46, ↓x86_49, ↓x86_52, ↓x86_53, ↓x86_56, ↓x86_57, ↓x86_59, ↓x86_60, ↓x86_63, ↓x86_64, ↓x86_65, ↓x86_66, ↓x86_69, ↓x86_72, evl_e, ↓endQ_e, ↓gI_0, ↓gL_0, ↓gR_0, ↓gI_s, ↓gL_s, ↓gR_s, ↓pI_i, ↓pL_l, ↓pR_r, ↓p1_i, ↓p1_r, ↓pE_e, ↓pN_z, ↓pN_1, ↓pN_2, ↓pN_3, ↓pN_4, ↓pN_5, ↓pN_6, ↓rl_0, ↓rl_1, ↓rl_2, ↓rl_3, ↓rl_4, ↓hdR_r, ↓hdO_r, va_rf_s, sL1_0, sL1_ss, sL1_1i, sL1_1r, sL1_1n, sL1_1l, sL2_0, sL2_ss, sL2_1i, sL2_1r, sL2_1n, sL2_1l, List.getElem?_cons_zero, List.getElem?_cons_succ, Option.toList_some, Option.toList_none, List.cons_append, List.nil_append, Nat.reduceAdd, true_and, and_true, and_self, wA_s, wA_w, ↓reduceIte, ite_self, true_or, or_true, tv, tc, tl, tg, t0, tz, tw, tu, tup, tuL, nI_add, pk_mul, upd_s, tup_s, tuL_s, nI_0, i1, i2, i3, i4, nm1, kd_1, tl13, bI_f, e_0, ↓w_adv hp hN p2 p3 p4 ha hb hcc ac bc, kct, lct, kc, lc, v_0, c_0, k]
    exact k
  · simp (disch := first | assumption | omega | decide | (refine kdN ?_; omega) | (refine kdS ?_; omega) | (refine kd_REGS0 ?_; omega) | (refine kd_BOOK_noted0 ?_; omega) | (refine kd_IREGS0 ?_; omega) | (refine kd_IBOOK_noted0 ?_; omega) | (refine kd_SUMS0 ?_; omega) | (refine kd_TERMS0 ?_; omega) | (refine kd_FACT0 ?_; omega) | (simp (disch := omega) only [tw])) only [↓x86_0, ↓x86_1, ↓x86_4, ↓x86_5, ↓x86_8, ↓x86_9, ↓x86_12, ↓x86_13, ↓x86_16, ↓x86_17, ↓x86_20, ↓x86_21, ↓x86_22, ↓x86_23, ↓x86_24, ↓x86_25, ↓x86_26, ↓x86_27, ↓x86_28, ↓x86_32, ↓x86_34, ↓x86_37, ↓x86_38, ↓x86_39, ↓x86_40, ↓x86_43, ↓x86_44, ↓x86_46, ↓x86_49, ↓x86_52, ↓x86_53, ↓x86_56, ↓x86_57, ↓x86_59, ↓x86_60, ↓x86_63, ↓x86_64, ↓x86_65, ↓x86_66, ↓x86_69, ↓x86_72, evl_e, ↓endQ_e, ↓gI_0, ↓gL_0, ↓gR_0, ↓gI_s, ↓gL_s, ↓gR_s, ↓pI_i, ↓pL_l, ↓pR_r, ↓p1_i, ↓p1_r, ↓pE_e, ↓pN_z, ↓pN_1, ↓pN_2, ↓pN_3, ↓pN_4, ↓pN_5, ↓pN_6, ↓rl_0, ↓rl_1, ↓rl_2, ↓rl_3, ↓rl_4, ↓hdR_r, ↓hdO_r, va_rf_s, sL1_0, sL1_ss, sL1_1i, sL1_1r, sL1_1n, sL1_1l, sL2_0, sL2_ss, sL2_1i, sL2_1r, sL2_1n, sL2_1l, List.getElem?_cons_zero, List.getElem?_cons_succ, Option.toList_some, Option.toList_none, List.cons_append, List.nil_append, Nat.reduceAdd, true_and, and_true, and_self, wA_s, wA_w, ↓reduceIte, ite_self, true_or, or_true, tv, tc, tl, tg, t0, tz, tw, tu, tup, tuL, nI_add, pk_mul, upd_s, tup_s, tuL_s, nI_0, i1, i2, i3, i4, nm1, kd_1, tl13, bI_t, e_1, ↓w_ret hp hN, ↓w_adv hp hN p2 p3 p4 ha hb hcc ac bc, kct, lct, kc, lc, v_0, c_0]
    exact k
set_option maxRecDepth 100000 in
theorem wf_e {d : Nat} {I : Nat → Nat → Int32} {L : Nat → Nat → Int64} {P : Nat → Nat → Option Nat} {n s : Nat} {Q : Qm} {ct : Nat} {bb : Bool} : WP (Call (d + 2)) (kod 86) (n, s) (endQ n s Q) 30 [.ref 1, .ref 50, .int (bI bb), .ref ct, .int (nI 13)] [] (I, L, P, n, s) = Q none (I, L, P, n, s) := by
  rw [x86_30]
  simp (disch := first | assumption | omega | decide | (refine kdN ?_; omega) | (refine kdS ?_; omega) | (refine kd_REGS0 ?_; omega) | (refine kd_BOOK_noted0 ?_; omega) | (refine kd_IREGS0 ?_; omega) | (refine kd_IBOOK_noted0 ?_; omega) | (refine kd_SUMS0 ?_; omega) | (refine kd_TERMS0 ?_; omega) | (refine kd_FACT0 ?_; omega) | (simp (disch := omega) only [tw])) only [↓x86_0, ↓x86_1, ↓x86_4, ↓x86_5, ↓x86_8, ↓x86_9, ↓x86_12, ↓x86_13, ↓x86_16, ↓x86_17, ↓x86_20, ↓x86_21, ↓x86_22, ↓x86_23, ↓x86_24, ↓x86_25, ↓x86_26, ↓x86_27, ↓x86_28, ↓x86_32, ↓x86_34, ↓x86_37, ↓x86_38, ↓x86_39, ↓x86_40, ↓x86_43, ↓x86_44, ↓x86_46, ↓x86_49, ↓x86_52, ↓x86_53, ↓x86_56, ↓x86_57, ↓x86_59, ↓x86_60, ↓x86_63, ↓x86_64, ↓x86_65, ↓x86_66, ↓x86_69, ↓x86_72, evl_e, ↓endQ_e, ↓gI_0, ↓gL_0, ↓gR_0, ↓gI_s, ↓gL_s, ↓gR_s, ↓pI_i, ↓pL_l, ↓pR_r, ↓p1_i, ↓p1_r, ↓pE_e, ↓pN_z, ↓pN_1, ↓pN_2, ↓pN_3, ↓pN_4, ↓pN_5, ↓pN_6, ↓rl_0, ↓rl_1, ↓rl_2, ↓rl_3, ↓rl_4, ↓hdR_r, ↓hdO_r, va_rf_s, sL1_0, sL1_ss, sL1_1i, sL1_1r, sL1_1n, sL1_1l, sL2_0, sL2_ss, sL2_1i, sL2_1r, sL2_1n, sL2_1l, List.getElem?_cons_zero, List.getElem?_cons_succ, Option.toList_some, Option.toList_none, List.cons_append, List.nil_append, Nat.reduceAdd, true_and, and_true, and_self, wA_s, wA_w, ↓reduceIte, ite_self, true_or, or_true, tv, tc, tl, tg, t0, tz, tw, tu, tup, tuL, nI_add, pk_mul, upd_s, tup_s, tuL_s, nI_0, i1, i2, i3, i4, nm1, tl13']
theorem wf_all {d x : Nat} {I : Nat → Nat → Int32} {n s : Nat} {Q : Qm} {ct : Nat} {bb : Bool} {L0 : Nat → Nat → Int64} {P0 : Nat → Nat → Option Nat} (hc : CP P0) (hp : NP P0) (hN : NC x I) (hct : ct = 2 ∨ ct = 3) (kk : ∀ L' P', FI x bb ct 12 L0 P0 L' P' → Q none (I, L', P', n, s)) : ∀ f i L P, f + i = 12 → FI x bb ct i L0 P0 L P → WP (Call (d + 2)) (kod 86) (n, s) (endQ n s Q) 30 [.ref 1, .ref 50, .int (bI bb), .ref ct, .int (nI (i + 1))] [] (I, L, P, n, s)
  | 0, i, L, P, e, h => by
    have e2 : i = 12 := by omega
    subst e2
    rw [wf_e]
    exact kk L P h
  | f + 1, i, L, P, e, h => by
    have hP : NP P := by
      unfold NP at *
      obtain ⟨-, -, -, h4, -⟩ := h
      rw [h4 50 (by decide), h4 51 (by decide), h4 52 (by decide), h4 87 (by decide)]
      exact hp
    have hC : CP P := by
      obtain ⟨-, -, -, h4, h5⟩ := h
      unfold CP at *
      rw [h4 0 (by decide), h4 43 (by decide), h4 18 (by decide), h4 8 (by decide), h4 9 (by decide), h4 25 (by decide), h4 26 (by decide), h4 33 (by decide), h4 34 (by decide), h4 430 (by decide), h4 435 (by decide), h4 441 (by decide), h4 447 (by decide), h5 0 (by omega), h5 1 (by omega)]
      exact hc
    exact wf_s hC hP hN hct (by omega) h fun L' P' h' => wf_all hc hp hN hct kk f (i + 1) L' P' (by omega) h'
set_option maxRecDepth 100000 in
theorem w_fill {d : Nat} {I : Nat → Nat → Int32} {L : Nat → Nat → Int64} {P : Nat → Nat → Option Nat} {n s : Nat} {Q : Qm} (hc : CP P) (hp : NP P) {x ct : Nat} {bb : Bool} (hN : NC x I) (hct : ct = 2 ∨ ct = 3) (hW : WPc (P 1 2) (P 1 3) (P 1 4)) (kk : ∀ L' P', FI x bb ct 12 L P L' P' → Q none (I, L', P', n, s)) : Call (d + 3) 86 [.ref 1, .ref 50, .int (bI bb), .ref ct] (I, L, P, n, s) Q := by
  obtain ⟨a, b, c, p2, p3, p4, ha, hb, hcc, ab, bc, ac⟩ := hW
  have hx := hN.1.1
  have kct : kd ct = 11 ∧ ln ct = 13 := by rcases hct with rfl | rfl <;> decide
  obtain ⟨kct, lct⟩ := kct
  obtain ⟨ka, la⟩ := kd_NOW ha
  obtain ⟨kb, lb⟩ := kd_NOW hb
  have la2 : ln a < 2 ^ 31 := by rw [la]; decide
  have lb2 : ln b < 2 ^ 31 := by rw [lb]; decide
  have an : ¬ ct = a := by omega
  have bn : ¬ ct = b := by omega
  have h0 := FI_0 (bb := bb) (L := L) (P := P) hx hct p2 p3 p4 ha hb hcc ab bc ac
  have z := wf_all (d := d) (Q := Q) (n := n) (s := s) hc hp hN hct kk 12 0 _ _ rfl h0
  rw [show nI (0 + 1) = 1 from rfl] at z
  simp (disch := first | assumption | omega | decide | (refine kdN ?_; omega) | (refine kdS ?_; omega) | (refine kd_REGS0 ?_; omega) | (refine kd_BOOK_noted0 ?_; omega) | (refine kd_IREGS0 ?_; omega) | (refine kd_IBOOK_noted0 ?_; omega) | (refine kd_SUMS0 ?_; omega) | (refine kd_TERMS0 ?_; omega) | (refine kd_FACT0 ?_; omega) | (simp (disch := omega) only [tw])) only [↓c86, ↓x86_0, ↓x86_1, ↓x86_4, ↓x86_5, ↓x86_8, ↓x86_9, ↓x86_12, ↓x86_13, ↓x86_16, ↓x86_17, ↓x86_20, ↓x86_21, ↓x86_22, ↓x86_23, ↓x86_24, ↓x86_25, ↓x86_26, ↓x86_27, ↓x86_28, ↓x86_32, ↓x86_34, ↓x86_37, ↓x86_38, ↓x86_39, ↓x86_40, ↓x86_43, ↓x86_44, ↓x86_46, ↓x86_49, ↓x86_52, ↓x86_53, ↓x86_56, ↓x86_57, ↓x86_59, ↓x86_60, ↓x86_63, ↓x86_64, ↓x86_65, ↓x86_66, ↓x86_69, ↓x86_72, evl_e, ↓endQ_e, ↓gI_0, ↓gL_0, ↓gR_0, ↓gI_s, ↓gL_s, ↓gR_s, ↓pI_i, ↓pL_l, ↓pR_r, ↓p1_i, ↓p1_r, ↓pE_e, ↓pN_z, ↓pN_1, ↓pN_2, ↓pN_3, ↓pN_4, ↓pN_5, ↓pN_6, ↓rl_0, ↓rl_1, ↓rl_2, ↓rl_3, ↓rl_4, ↓hdR_r, ↓hdO_r, va_rf_s, sL1_0, sL1_ss, sL1_1i, sL1_1r, sL1_1n, sL1_1l, sL2_0, sL2_ss, sL2_1i, sL2_1r, sL2_1n, sL2_1l, List.getElem?_cons_zero, List.getElem?_cons_succ, Option.toList_some, Option.toList_none, List.cons_append, List.nil_append, Nat.reduceAdd, true_and, and_true, and_self, wA_s, wA_w, ↓reduceIte, ite_self, true_or, or_true, tv, tc, tl, tg, t0, tz, tw, tu, tup, tuL, nI_add, pk_mul, upd_s, tup_s, tuL_s, nI_0, i1, i2, i3, i4, nm1, kd_1, p2, p3, ↓j_fillL ka la2, ↓j_fillL kb lb2, la, lb, ka, kct, lct, v_0, c_0, ab]
  exact z
