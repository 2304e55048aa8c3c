/-! case apart: the class -/
def fsr (p : Nat → Bool) : Nat → Nat → Nat
  | 0, j => j
  | k + 1, j => if p j = true then j else fsr p k (j + 1)
theorem fsr_e {p : Nat → Bool} {s : Nat} (hp : p s = true) : ∀ k j, j ≤ s → s < j + k → (∀ t, j ≤ t → t < s → p t = false) → fsr p k j = s
  | 0, j, h1, h2, _ => absurd h2 (by omega)
  | k + 1, j, h1, h2, h3 => by
    unfold fsr
    by_cases e : j = s
    · subst e
      rw [if_pos hp]
    · rw [if_neg (by rw [h3 j (Nat.le_refl j) (by omega)]; decide)]
      exact fsr_e hp k (j + 1) (by omega) (by omega) (fun t a b => h3 t (by omega) b)
def fsX (x : Nat) (f : Nat → Int32) : Nat := fsr (fun s => DV x s f) (sN x) 0
def sqF (x : Nat) (f : Nat → Int32) : Nat → Nat → Int32
  | 0 => f
  | i + 1 => NX x (fsX x (sqF x f i)) (sqF x f i)
theorem fsX_e {x s : Nat} {f : Nat → Int32} (h1 : s < sN x) (h2 : DV x s f = true) (h3 : ∀ t, t < s → DV x t f = false) : fsX x f = s := fsr_e (p := fun s => DV x s f) h2 (sN x) 0 (Nat.zero_le s) (by omega) (fun t _ b => h3 t b)
theorem sq_a {x n : Nat} (hx : x < 11) {f : Nat → Int32} (h : AV x n f) : ∀ i, i ≤ n → AV x (n - i) (sqF x f i)
  | 0, _ => h
  | i + 1, hi => by
    have q := sq_a hx h i (by omega)
    rw [show n - i = (n - (i + 1)) + 1 by omega] at q
    obtain ⟨s, h1, h2, h3, h4⟩ := AV_s hx q
    have e := fsX_e h1 h2 h3
    show AV x (n - (i + 1)) (NX x (fsX x (sqF x f i)) (sqF x f i))
    rw [e]
    exact h4
theorem sq_s {x n : Nat} (hx : x < 11) {f : Nat → Int32} (h : AV x n f) {i : Nat} (hi : i < n) : fsX x (sqF x f i) < sN x ∧ DV x (fsX x (sqF x f i)) (sqF x f i) = true ∧ ∀ t, t < fsX x (sqF x f i) → DV x t (sqF x f i) = false := by
  have q := sq_a hx h i (by omega)
  rw [show n - i = (n - (i + 1)) + 1 by omega] at q
  obtain ⟨s, h1, h2, h3, -⟩ := AV_s hx q
  rw [fsX_e h1 h2 h3]
  exact ⟨h1, h2, h3⟩
/-- all but what is taken apart -/
def AF (I J : Nat → Nat → Int32) : Prop := ∀ a, ¬ (84 ≤ a ∧ a ≤ 86) → J a = I a
def SF (x : Nat) (I : Nat → Nat → Int32) : Prop := I 51 5 = nI (pW x) ∧ I 51 6 = nI (sN x) ∧ (∀ s, s < sN x → ∀ k, k < 4 → I (53 + s) k = Int32.ofInt (stX x s k)) ∧ ∀ s, s < sN x → I 83 s = nI (rvX x s)
theorem SF_f {x : Nat} (hx : x < 11) {I J : Nat → Nat → Int32} (h : SF x I) (f : AF I J) : SF x J := by
  obtain ⟨h1, h2, h3, h4⟩ := h
  have hs := sN_b x hx
  refine ⟨?_, ?_, fun s hs k hk => ?_, fun s hs => ?_⟩
  · rw [f 51 (by omega)]; exact h1
  · rw [f 51 (by omega)]; exact h2
  · rw [f (53 + s) (by omega)]; exact h3 s hs k hk
  · rw [f 83 (by omega)]; exact h4 s hs
theorem cF_p {x s : Nat} (hx : x < 11) (hs : s < sN x) {I : Nat → Nat → Int32} {G : Nat → Int32} (hI : SF x I) : pA (I (53 + rvX x s)) G = pA (cF x s) G ∧ pB (I (53 + rvX x s)) G = pB (cF x s) G ∧ pC (I (53 + rvX x s)) G = pC (cF x s) G ∧ pD (I (53 + rvX x s)) G = pD (cF x s) G := p4_q (hI.2.2.1 _ (cS_f hx hs).1) (fun _ _ => rfl)
theorem q4_k {f g : Nat → Int32} {a b c d : Int32} : ∀ k, k < 4 → q4 f a b c d k = q4 g a b c d k := by
  intro k hk
  rcases (by omega : k = 0 ∨ k = 1 ∨ k = 2 ∨ k = 3) with rfl | rfl | rfl | rfl <;> rfl
set_option maxRecDepth 100000 in
theorem sp_l {d : Nat} {I : Nat → Nat → Int32} {L : Nat → Nat → Int64} {P : Nat → Nat → Option Nat} {n s : Nat} {Q : Qm} {x s0 : Nat} (hp : NP P) (hx : x < 11) (hI : SF x I) (h0 : s0 < sN x) (hd : DV x s0 (I 85) = true) (hn : ∀ t, t < s0 → DV x t (I 85) = false) (hQ : ∀ J, AF I J → (∀ k, k < 4 → J 85 k = NX x s0 (I 85) k) → J 84 = I 84 → Q (some (.int (nI s0))) (J, L, P, n, s)) : ∀ k t H, k + t = s0 → WP (Call (d + 3)) (kod 80) (n, s) (endQ n s Q) 2 [.ref 51, .int (nI t)] [] (wA I 86 H, L, P, n, s)
  | k, t, H, e => by
    have hs30 := sN_b x hx
    have ht : t < sN x := by omega
    obtain ⟨u1, u2, u3, u4⟩ := id hI
    have rt := u4 t ht
    have r30 : rvX x t < 30 := by have := (cS_f hx ht).1; omega
    have kr : kd (53 + rvX x t) = 3 := kd_STEPQ0 r30
    have pb := pOk_b (pOk_x x hx)
    have pz : ¬ nI (pW x) = 0 := nI_ne0 (by omega) (by omega)
    obtain ⟨e1, e2, e3, e4⟩ := cF_p hx ht (G := I 85) hI
    have hm : ∀ f, mul4 (q4 f (pA (cF x t) (I 85)) (pB (cF x t) (I 85)) (pC (cF x t) (I 85)) (pD (cF x t) (I 85))) (nI (pW x)) = DV x t (I 85) := fun f => rfl
    obtain ⟨p50_0, p50_1, p50_2, p50_3, p50_4, p50_5, p50_6, p50_7, p51_0, p51_1, p51_2, p51_3, p51_4, pS, pN⟩ := id hp
    rw [x80_2]
    cases k with
    | zero =>
      have e5 : t = s0 := by omega
      subst e5
      simp (disch := first | assumption | omega | decide | (refine kdN ?_; omega) | (refine kdS ?_; omega) | (refine kd_REGS0 ?_; omega) | (refine kd_BOOK_noted0 ?_; omega) | (refine kd_IREGS0 ?_; omega) | (refine kd_IBOOK_noted0 ?_; omega) | (refine kd_SUMS0 ?_; omega) | (refine kd_TERMS0 ?_; omega) | (refine kd_FACT0 ?_; omega) | (simp (disch := omega) only [tw])) only [↓x80_0, ↓x80_1, ↓x80_3, ↓x80_4, ↓x80_7, ↓x80_10, ↓x80_11, ↓x80_14, ↓x80_15, ↓x80_18, ↓x80_19, ↓x80_22, ↓x80_23, ↓x80_24, ↓x80_25, ↓x80_26, ↓x80_29, ↓x80_32, ↓x80_33, ↓x80_36, ↓x80_37, ↓x80_40, ↓x80_43, ↓x80_46, ↓x80_47, ↓x80_50, ↓x80_51, ↓x80_54, ↓x80_57, ↓x80_58, ↓x80_61, ↓x80_62, ↓x80_65, ↓x80_68, ↓x80_69, ↓x80_70, ↓x80_73, ↓x80_76, ↓x80_77, evl_e, ↓endQ_e, ↓gI_0, ↓gL_0, ↓gR_0, ↓gI_s, ↓gL_s, ↓gR_s, ↓pI_i, ↓pL_l, ↓pR_r, ↓p1_i, ↓p1_r, ↓pE_e, ↓pN_z, ↓pN_1, ↓pN_2, ↓pN_3, ↓pN_4, ↓pN_5, ↓pN_6, ↓rl_0, ↓rl_1, ↓rl_2, ↓rl_3, ↓rl_4, ↓hdR_r, ↓hdO_r, va_rf_s, sL1_0, sL1_ss, sL1_1i, sL1_1r, sL1_1n, sL1_1l, sL2_0, sL2_ss, sL2_1i, sL2_1r, sL2_1n, sL2_1l, List.getElem?_cons_zero, List.getElem?_cons_succ, Option.toList_some, Option.toList_none, List.cons_append, List.nil_append, Nat.reduceAdd, true_and, and_true, and_self, wA_s, wA_w, ↓reduceIte, ite_self, true_or, or_true, tv, tc, tl, tg, t0, tz, tw, tu, tup, tuL, nI_add, pk_mul, upd_s, tup_s, tuL_s, nI_0, i1, i2, i3, i4, nm1, kd_51, kd_52, kd_83, kd_85, kd_86, ln_52, ln_83, p51_0, p51_1, p51_3, p51_4, pS, u1, u2, rt, kr, ↓q_prod, ↓q_mul, ↓q_div, ↓q_becomeQ, pz, e1, e2, e3, e4, hm, hd, bI_t, e_10, not_false_eq_true]
      refine hQ _ (fun a ha => ?_) ?_ ?_
      · rw [tw (by omega), tw (by omega)]
      · intro k hk
        rw [wA_s]
        exact q4_k k hk
      · rw [tw (by decide), tw (by decide)]
    | succ k =>
      have hd2 := hn t (by omega)
      simp (disch := first | assumption | omega | decide | (refine kdN ?_; omega) | (refine kdS ?_; omega) | (refine kd_REGS0 ?_; omega) | (refine kd_BOOK_noted0 ?_; omega) | (refine kd_IREGS0 ?_; omega) | (refine kd_IBOOK_noted0 ?_; omega) | (refine kd_SUMS0 ?_; omega) | (refine kd_TERMS0 ?_; omega) | (refine kd_FACT0 ?_; omega) | (simp (disch := omega) only [tw])) only [↓x80_0, ↓x80_1, ↓x80_3, ↓x80_4, ↓x80_7, ↓x80_10, ↓x80_11, ↓x80_14, ↓x80_15, ↓x80_18, ↓x80_19, ↓x80_22, ↓x80_23, ↓x80_24, ↓x80_25, ↓x80_26, ↓x80_29, ↓x80_32, ↓x80_33, ↓x80_36, ↓x80_37, ↓x80_40, ↓x80_43, ↓x80_46, ↓x80_47, ↓x80_50, ↓x80_51, ↓x80_54, ↓x80_57, ↓x80_58, ↓x80_61, ↓x80_62, ↓x80_65, ↓x80_68, ↓x80_69, ↓x80_70, ↓x80_73, ↓x80_76, ↓x80_77, evl_e, ↓endQ_e, ↓gI_0, ↓gL_0, ↓gR_0, ↓gI_s, ↓gL_s, ↓gR_s, ↓pI_i, ↓pL_l, ↓pR_r, ↓p1_i, ↓p1_r, ↓pE_e, ↓pN_z, ↓pN_1, ↓pN_2, ↓pN_3, ↓pN_4, ↓pN_5, ↓pN_6, ↓rl_0, ↓rl_1, ↓rl_2, ↓rl_3, ↓rl_4, ↓hdR_r, ↓hdO_r, va_rf_s, sL1_0, sL1_ss, sL1_1i, sL1_1r, sL1_1n, sL1_1l, sL2_0, sL2_ss, sL2_1i, sL2_1r, sL2_1n, sL2_1l, List.getElem?_cons_zero, List.getElem?_cons_succ, Option.toList_some, Option.toList_none, List.cons_append, List.nil_append, Nat.reduceAdd, true_and, and_true, and_self, wA_s, wA_w, ↓reduceIte, ite_self, true_or, or_true, tv, tc, tl, tg, t0, tz, tw, tu, tup, tuL, nI_add, pk_mul, upd_s, tup_s, tuL_s, nI_0, i1, i2, i3, i4, nm1, kd_51, kd_52, kd_83, kd_85, kd_86, ln_52, ln_83, p51_0, p51_1, p51_3, p51_4, pS, u1, u2, rt, kr, ↓q_prod, ↓q_mul, pz, e1, e2, e3, e4, hm, hd2, bI_f, Bool.false_eq_true, not_false_eq_true]
      exact sp_l hp hx hI h0 hd hn hQ k (t + 1) _ (by omega)
set_option maxRecDepth 100000 in
theorem sp_y {d : Nat} {I : Nat → Nat → Int32} {L : Nat → Nat → Int64} {P : Nat → Nat → Option Nat} {n s : Nat} {Q : Qm} {x s0 : Nat} (hp : NP P) (hx : x < 11) (hI : SF x I) (h0 : s0 < sN x) (hd : DV x s0 (I 85) = true) (hn : ∀ t, t < s0 → DV x t (I 85) = false) (hQ : ∀ J, AF I J → (∀ k, k < 4 → J 85 k = NX x s0 (I 85) k) → J 84 = I 84 → Q (some (.int (nI s0))) (J, L, P, n, s)) : Call (d + 4) 80 [.ref 51] (I, L, P, n, s) Q := by
  have e := sp_l (d := d) hp hx hI h0 hd hn hQ s0 0 (I 86) (Nat.add_zero s0)
  rw [wA_id] at e
  simp (disch := first | assumption | omega | decide | (refine kdN ?_; omega) | (refine kdS ?_; omega) | (refine kd_REGS0 ?_; omega) | (refine kd_BOOK_noted0 ?_; omega) | (refine kd_IREGS0 ?_; omega) | (refine kd_IBOOK_noted0 ?_; omega) | (refine kd_SUMS0 ?_; omega) | (refine kd_TERMS0 ?_; omega) | (refine kd_FACT0 ?_; omega) | (simp (disch := omega) only [tw])) only [↓c80, ↓x80_0, ↓x80_1, ↓x80_3, ↓x80_4, ↓x80_7, ↓x80_10, ↓x80_11, ↓x80_14, ↓x80_15, ↓x80_18, ↓x80_19, ↓x80_22, ↓x80_23, ↓x80_24, ↓x80_25, ↓x80_26, ↓x80_29, ↓x80_32, ↓x80_33, ↓x80_36, ↓x80_37, ↓x80_40, ↓x80_43, ↓x80_46, ↓x80_47, ↓x80_50, ↓x80_51, ↓x80_54, ↓x80_57, ↓x80_58, ↓x80_61, ↓x80_62, ↓x80_65, ↓x80_68, ↓x80_69, ↓x80_70, ↓x80_73, ↓x80_76, ↓x80_77, evl_e, ↓endQ_e, ↓gI_0, ↓gL_0, ↓gR_0, ↓gI_s, ↓gL_s, ↓gR_s, ↓pI_i, ↓pL_l, ↓pR_r, ↓p1_i, ↓p1_r, ↓pE_e, ↓pN_z, ↓pN_1, ↓pN_2, ↓pN_3, ↓pN_4, ↓pN_5, ↓pN_6, ↓rl_0, ↓rl_1, ↓rl_2, ↓rl_3, ↓rl_4, ↓hdR_r, ↓hdO_r, va_rf_s, sL1_0, sL1_ss, sL1_1i, sL1_1r, sL1_1n, sL1_1l, sL2_0, sL2_ss, sL2_1i, sL2_1r, sL2_1n, sL2_1l, List.getElem?_cons_zero, List.getElem?_cons_succ, Option.toList_some, Option.toList_none, List.cons_append, List.nil_append, Nat.reduceAdd, true_and, and_true, and_self, wA_s, wA_w, ↓reduceIte, ite_self, true_or, or_true, tv, tc, tl, tg, t0, tz, tw, tu, tup, tuL, nI_add, pk_mul, upd_s, tup_s, tuL_s, nI_0, i1, i2, i3, i4, nm1]
  exact e
theorem nI_L' {a : Nat} (h : a < 2 ^ 31) : (nI a).toInt64 = Int64.ofNat a := by
  apply Int64.toInt_inj.mp
  rw [Int32.toInt_toInt64, Int64.toInt_ofNat_of_lt (by omega)]
  exact Int32.toInt_ofNat_of_lt h
theorem pw_62 : ∀ x, x < 11 → ∀ n, n < 13 → pW x ^ n < 2 ^ 62 := by decide +kernel
theorem oN_e {a b : Nat} (ha : a < 2 ^ 62) (hb : b < 2 ^ 62) : (Int64.ofNat a = Int64.ofNat b) = (a = b) := propext ⟨fun q => by
  have := congrArg Int64.toInt q
  rw [Int64.toInt_ofNat_of_lt (by omega), Int64.toInt_ofNat_of_lt (by omega)] at this
  omega, fun q => by rw [q]⟩
set_option maxRecDepth 100000 in
theorem ex_f {d : Nat} {I : Nat → Nat → Int32} {L : Nat → Nat → Int64} {P : Nat → Nat → Option Nat} {n s : Nat} {Q : Qm} {x N : Nat} (hx : x < 11) (h5 : I 51 5 = nI (pW x)) (hN : N < 2 ^ 31) (h : ∀ j, j ≤ 12 → ¬ pW x ^ j = N) : ∀ k i, k + i = 13 → WP (Call d) (kod 79) (n, s) (endQ n s Q) 5 [.ref 51, .int (nI N), .long (Int64.ofNat (pW x ^ i)), .null, .int (nI i)] [] (I, L, P, n, s) = Q (some (.int (-1))) (I, L, P, n, s)
  | 0, i, e => by
    obtain rfl : i = 13 := by omega
    have c : ((12 : Int32) < nI 13) = True := by decide
    rw [x79_5]
    simp (disch := first | assumption | omega | decide | (refine kdN ?_; omega) | (refine kdS ?_; omega) | (refine kd_REGS0 ?_; omega) | (refine kd_BOOK_noted0 ?_; omega) | (refine kd_IREGS0 ?_; omega) | (refine kd_IBOOK_noted0 ?_; omega) | (refine kd_SUMS0 ?_; omega) | (refine kd_TERMS0 ?_; omega) | (refine kd_FACT0 ?_; omega) | (simp (disch := omega) only [tw])) only [↓x79_0, ↓x79_1, ↓x79_2, ↓x79_3, ↓x79_7, ↓x79_9, ↓x79_12, ↓x79_13, ↓x79_14, ↓x79_15, ↓x79_16, ↓x79_19, ↓x79_21, ↓x79_22, ↓x79_23, ↓x79_24, ↓x79_27, ↓x79_28, ↓x79_29, ↓x79_30, ↓x79_33, ↓x79_36, ↓x79_37, evl_e, ↓endQ_e, ↓gI_0, ↓gL_0, ↓gR_0, ↓gI_s, ↓gL_s, ↓gR_s, ↓pI_i, ↓pL_l, ↓pR_r, ↓p1_i, ↓p1_r, ↓pE_e, ↓pN_z, ↓pN_1, ↓pN_2, ↓pN_3, ↓pN_4, ↓pN_5, ↓pN_6, ↓rl_0, ↓rl_1, ↓rl_2, ↓rl_3, ↓rl_4, ↓hdR_r, ↓hdO_r, va_rf_s, sL1_0, sL1_ss, sL1_1i, sL1_1r, sL1_1n, sL1_1l, sL2_0, sL2_ss, sL2_1i, sL2_1r, sL2_1n, sL2_1l, List.getElem?_cons_zero, List.getElem?_cons_succ, Option.toList_some, Option.toList_none, List.cons_append, List.nil_append, Nat.reduceAdd, true_and, and_true, and_self, wA_s, wA_w, ↓reduceIte, ite_self, true_or, or_true, tv, tc, tl, tg, t0, tz, tw, tu, tup, tuL, nI_add, pk_mul, upd_s, tup_s, tuL_s, nI_0, i1, i2, i3, i4, nm1, c]
  | k + 1, i, e => by
    have c : ((12 : Int32) < nI i) = False := tg (a := 12) (by omega) (by decide)
    have pb := pOk_b (pOk_x x hx)
    have lP := nI_L (a := pW x) (by omega)
    have lN := nI_L' hN
    have c2 : (Int64.ofNat (pW x ^ i) = Int64.ofNat N) = False := by
      rw [oN_e (pw_62 x hx i (by omega)) (by omega)]
      exact eq_false (h i (by omega))
    have e2 : Int64.ofNat (pW x ^ i) * Int64.ofNat (pW x) = Int64.ofNat (pW x ^ (i + 1)) := by rw [← Int64.ofNat_mul, Nat.pow_succ]
    rw [x79_5]
    simp (disch := first | assumption | omega | decide | (refine kdN ?_; omega) | (refine kdS ?_; omega) | (refine kd_REGS0 ?_; omega) | (refine kd_BOOK_noted0 ?_; omega) | (refine kd_IREGS0 ?_; omega) | (refine kd_IBOOK_noted0 ?_; omega) | (refine kd_SUMS0 ?_; omega) | (refine kd_TERMS0 ?_; omega) | (refine kd_FACT0 ?_; omega) | (simp (disch := omega) only [tw])) only [↓x79_0, ↓x79_1, ↓x79_2, ↓x79_3, ↓x79_7, ↓x79_9, ↓x79_12, ↓x79_13, ↓x79_14, ↓x79_15, ↓x79_16, ↓x79_19, ↓x79_21, ↓x79_22, ↓x79_23, ↓x79_24, ↓x79_27, ↓x79_28, ↓x79_29, ↓x79_30, ↓x79_33, ↓x79_36, ↓x79_37, evl_e, ↓endQ_e, ↓gI_0, ↓gL_0, ↓gR_0, ↓gI_s, ↓gL_s, ↓gR_s, ↓pI_i, ↓pL_l, ↓pR_r, ↓p1_i, ↓p1_r, ↓pE_e, ↓pN_z, ↓pN_1, ↓pN_2, ↓pN_3, ↓pN_4, ↓pN_5, ↓pN_6, ↓rl_0, ↓rl_1, ↓rl_2, ↓rl_3, ↓rl_4, ↓hdR_r, ↓hdO_r, va_rf_s, sL1_0, sL1_ss, sL1_1i, sL1_1r, sL1_1n, sL1_1l, sL2_0, sL2_ss, sL2_1i, sL2_1r, sL2_1n, sL2_1l, List.getElem?_cons_zero, List.getElem?_cons_succ, Option.toList_some, Option.toList_none, List.cons_append, List.nil_append, Nat.reduceAdd, true_and, and_true, and_self, wA_s, wA_w, ↓reduceIte, ite_self, true_or, or_true, tv, tc, tl, tg, t0, tz, tw, tu, tup, tuL, nI_add, pk_mul, upd_s, tup_s, tuL_s, nI_0, i1, i2, i3, i4, nm1, c, lN, lP, h5, kd_51, lg_cmp_eq, c2, e2]
    exact ex_f hx h5 hN h k (i + 1) (by omega)
set_option maxRecDepth 100000 in
theorem ex_t {d : Nat} {I : Nat → Nat → Int32} {L : Nat → Nat → Int64} {P : Nat → Nat → Option Nat} {n s : Nat} {Q : Qm} {x N m : Nat} (hx : x < 11) (h5 : I 51 5 = nI (pW x)) (hN : N < 2 ^ 31) (hm : m ≤ 12) (h : pW x ^ m = N) : ∀ k i, k + i = m → WP (Call d) (kod 79) (n, s) (endQ n s Q) 5 [.ref 51, .int (nI N), .long (Int64.ofNat (pW x ^ i)), .null, .int (nI i)] [] (I, L, P, n, s) = Q (some (.int (nI m))) (I, L, P, n, s)
  | 0, i, e => by
    obtain rfl : i = m := by omega
    have c : ((12 : Int32) < nI i) = False := tg (a := 12) (by omega) (by decide)
    have lN := nI_L' hN
    rw [x79_5, h]
    simp (disch := first | assumption | omega | decide | (refine kdN ?_; omega) | (refine kdS ?_; omega) | (refine kd_REGS0 ?_; omega) | (refine kd_BOOK_noted0 ?_; omega) | (refine kd_IREGS0 ?_; omega) | (refine kd_IBOOK_noted0 ?_; omega) | (refine kd_SUMS0 ?_; omega) | (refine kd_TERMS0 ?_; omega) | (refine kd_FACT0 ?_; omega) | (simp (disch := omega) only [tw])) only [↓x79_0, ↓x79_1, ↓x79_2, ↓x79_3, ↓x79_7, ↓x79_9, ↓x79_12, ↓x79_13, ↓x79_14, ↓x79_15, ↓x79_16, ↓x79_19, ↓x79_21, ↓x79_22, ↓x79_23, ↓x79_24, ↓x79_27, ↓x79_28, ↓x79_29, ↓x79_30, ↓x79_33, ↓x79_36, ↓x79_37, evl_e, ↓endQ_e, ↓gI_0, ↓gL_0, ↓gR_0, ↓gI_s, ↓gL_s, ↓gR_s, ↓pI_i, ↓pL_l, ↓pR_r, ↓p1_i, ↓p1_r, ↓pE_e, ↓pN_z, ↓pN_1, ↓pN_2, ↓pN_3, ↓pN_4, ↓pN_5, ↓pN_6, ↓rl_0, ↓rl_1, ↓rl_2, ↓rl_3, ↓rl_4, ↓hdR_r, ↓hdO_r, va_rf_s, sL1_0, sL1_ss, sL1_1i, sL1_1r, sL1_1n, sL1_1l, sL2_0, sL2_ss, sL2_1i, sL2_1r, sL2_1n, sL2_1l, List.getElem?_cons_zero, List.getElem?_cons_succ, Option.toList_some, Option.toList_none, List.cons_append, List.nil_append, Nat.reduceAdd, true_and, and_true, and_self, wA_s, wA_w, ↓reduceIte, ite_self, true_or, or_true, tv, tc, tl, tg, t0, tz, tw, tu, tup, tuL, nI_add, pk_mul, upd_s, tup_s, tuL_s, nI_0, i1, i2, i3, i4, nm1, c, lN, lg_cmp_eq]
  | k + 1, i, e => by
    have c : ((12 : Int32) < nI i) = False := tg (a := 12) (by omega) (by decide)
    have pb := pOk_b (pOk_x x hx)
    have lP := nI_L (a := pW x) (by omega)
    have lN := nI_L' hN
    have c2 : (Int64.ofNat (pW x ^ i) = Int64.ofNat N) = False := by
      rw [oN_e (pw_62 x hx i (by omega)) (by omega)]
      have := Nat.pow_lt_pow_right (a := pW x) (by omega) (show i < m by omega)
      exact eq_false (by omega)
    have e2 : Int64.ofNat (pW x ^ i) * Int64.ofNat (pW x) = Int64.ofNat (pW x ^ (i + 1)) := by rw [← Int64.ofNat_mul, Nat.pow_succ]
    rw [x79_5]
    simp (disch := first | assumption | omega | decide | (refine kdN ?_; omega) | (refine kdS ?_; omega) | (refine kd_REGS0 ?_; omega) | (refine kd_BOOK_noted0 ?_; omega) | (refine kd_IREGS0 ?_; omega) | (refine kd_IBOOK_noted0 ?_; omega) | (refine kd_SUMS0 ?_; omega) | (refine kd_TERMS0 ?_; omega) | (refine kd_FACT0 ?_; omega) | (simp (disch := omega) only [tw])) only [↓x79_0, ↓x79_1, ↓x79_2, ↓x79_3, ↓x79_7, ↓x79_9, ↓x79_12, ↓x79_13, ↓x79_14, ↓x79_15, ↓x79_16, ↓x79_19, ↓x79_21, ↓x79_22, ↓x79_23, ↓x79_24, ↓x79_27, ↓x79_28, ↓x79_29, ↓x79_30, ↓x79_33, ↓x79_36, ↓x79_37, evl_e, ↓endQ_e, ↓gI_0, ↓gL_0, ↓gR_0, ↓gI_s, ↓gL_s, ↓gR_s, ↓pI_i, ↓pL_l, ↓pR_r, ↓p1_i, ↓p1_r, ↓pE_e, ↓pN_z, ↓pN_1, ↓pN_2, ↓pN_3, ↓pN_4, ↓pN_5, ↓pN_6, ↓rl_0, ↓rl_1, ↓rl_2, ↓rl_3, ↓rl_4, ↓hdR_r, ↓hdO_r, va_rf_s, sL1_0, sL1_ss, sL1_1i, sL1_1r, sL1_1n, sL1_1l, sL2_0, sL2_ss, sL2_1i, sL2_1r, sL2_1n, sL2_1l, List.getElem?_cons_zero, List.getElem?_cons_succ, Option.toList_some, Option.toList_none, List.cons_append, List.nil_append, Nat.reduceAdd, true_and, and_true, and_self, wA_s, wA_w, ↓reduceIte, ite_self, true_or, or_true, tv, tc, tl, tg, t0, tz, tw, tu, tup, tuL, nI_add, pk_mul, upd_s, tup_s, tuL_s, nI_0, i1, i2, i3, i4, nm1, c, lN, lP, h5, kd_51, lg_cmp_eq, c2, e2]
    exact ex_t hx h5 hN hm h k (i + 1) (by omega)
set_option maxRecDepth 100000 in
theorem ex_y {d : Nat} {I : Nat → Nat → Int32} {L : Nat → Nat → Int64} {P : Nat → Nat → Option Nat} {n s : Nat} {Q : Qm} {x N : Nat} (hx : x < 11) (h5 : I 51 5 = nI (pW x)) (hN : N < 2 ^ 31) : (∀ m, m ≤ 12 → pW x ^ m = N → Call (d + 1) 79 [.ref 51, .int (nI N)] (I, L, P, n, s) Q = Q (some (.int (nI m))) (I, L, P, n, s)) ∧ ((∀ j, j ≤ 12 → ¬ pW x ^ j = N) → Call (d + 1) 79 [.ref 51, .int (nI N)] (I, L, P, n, s) Q = Q (some (.int (-1))) (I, L, P, n, s)) := by
  have e1 : (1 : Int64) = Int64.ofNat (pW x ^ 0) := rfl
  constructor
  · intro m hm h
    have := ex_t (d := d) (L := L) (P := P) (n := n) (s := s) (Q := Q) hx h5 hN hm h m 0 (Nat.add_zero m)
    rw [← e1] at this
    simp (disch := first | assumption | omega | decide | (refine kdN ?_; omega) | (refine kdS ?_; omega) | (refine kd_REGS0 ?_; omega) | (refine kd_BOOK_noted0 ?_; omega) | (refine kd_IREGS0 ?_; omega) | (refine kd_IBOOK_noted0 ?_; omega) | (refine kd_SUMS0 ?_; omega) | (refine kd_TERMS0 ?_; omega) | (refine kd_FACT0 ?_; omega) | (simp (disch := omega) only [tw])) only [↓c79, ↓x79_0, ↓x79_1, ↓x79_2, ↓x79_3, ↓x79_7, ↓x79_9, ↓x79_12, ↓x79_13, ↓x79_14, ↓x79_15, ↓x79_16, ↓x79_19, ↓x79_21, ↓x79_22, ↓x79_23, ↓x79_24, ↓x79_27, ↓x79_28, ↓x79_29, ↓x79_30, ↓x79_33, ↓x79_36, ↓x79_37, evl_e, ↓endQ_e, ↓gI_0, ↓gL_0, ↓gR_0, ↓gI_s, ↓gL_s, ↓gR_s, ↓pI_i, ↓pL_l, ↓pR_r, ↓p1_i, ↓p1_r, ↓pE_e, ↓pN_z, ↓pN_1, ↓pN_2, ↓pN_3, ↓pN_4, ↓pN_5, ↓pN_6, ↓rl_0, ↓rl_1, ↓rl_2, ↓rl_3, ↓rl_4, ↓hdR_r, ↓hdO_r, va_rf_s, sL1_0, sL1_ss, sL1_1i, sL1_1r, sL1_1n, sL1_1l, sL2_0, sL2_ss, sL2_1i, sL2_1r, sL2_1n, sL2_1l, List.getElem?_cons_zero, List.getElem?_cons_succ, Option.toList_some, Option.toList_none, List.cons_append, List.nil_append, Nat.reduceAdd, true_and, and_true, and_self, wA_s, wA_w, ↓reduceIte, ite_self, true_or, or_true, tv, tc, tl, tg, t0, tz, tw, tu, tup, tuL, nI_add, pk_mul, upd_s, tup_s, tuL_s, nI_0, i1, i2, i3, i4, nm1]
    exact this
  · intro h
    have := ex_f (d := d) (L := L) (P := P) (n := n) (s := s) (Q := Q) hx h5 hN h 13 0 rfl
    rw [← e1] at this
    simp (disch := first | assumption | omega | decide | (refine kdN ?_; omega) | (refine kdS ?_; omega) | (refine kd_REGS0 ?_; omega) | (refine kd_BOOK_noted0 ?_; omega) | (refine kd_IREGS0 ?_; omega) | (refine kd_IBOOK_noted0 ?_; omega) | (refine kd_SUMS0 ?_; omega) | (refine kd_TERMS0 ?_; omega) | (refine kd_FACT0 ?_; omega) | (simp (disch := omega) only [tw])) only [↓c79, ↓x79_0, ↓x79_1, ↓x79_2, ↓x79_3, ↓x79_7, ↓x79_9, ↓x79_12, ↓x79_13, ↓x79_14, ↓x79_15, ↓x79_16, ↓x79_19, ↓x79_21, ↓x79_22, ↓x79_23, ↓x79_24, ↓x79_27, ↓x79_28, ↓x79_29, ↓x79_30, ↓x79_33, ↓x79_36, ↓x79_37, evl_e, ↓endQ_e, ↓gI_0, ↓gL_0, ↓gR_0, ↓gI_s, ↓gL_s, ↓gR_s, ↓pI_i, ↓pL_l, ↓pR_r, ↓p1_i, ↓p1_r, ↓pE_e, ↓pN_z, ↓pN_1, ↓pN_2, ↓pN_3, ↓pN_4, ↓pN_5, ↓pN_6, ↓rl_0, ↓rl_1, ↓rl_2, ↓rl_3, ↓rl_4, ↓hdR_r, ↓hdO_r, va_rf_s, sL1_0, sL1_ss, sL1_1i, sL1_1r, sL1_1n, sL1_1l, sL2_0, sL2_ss, sL2_1i, sL2_1r, sL2_1n, sL2_1l, List.getElem?_cons_zero, List.getElem?_cons_succ, Option.toList_some, Option.toList_none, List.cons_append, List.nil_append, Nat.reduceAdd, true_and, and_true, and_self, wA_s, wA_w, ↓reduceIte, ite_self, true_or, or_true, tv, tc, tl, tg, t0, tz, tw, tu, tup, tuL, nI_add, pk_mul, upd_s, tup_s, tuL_s, nI_0, i1, i2, i3, i4, nm1]
    exact this
set_option maxRecDepth 100000 in
theorem tk_l {d : Nat} {I : Nat → Nat → Int32} {L : Nat → Nat → Int64} {P : Nat → Nat → Option Nat} {n s : Nat} {Q : Qm} {x m q : Nat} {f : Nat → Int32} (hp : NP P) (hx : x < 11) (hI : SF x I) (hm : m ≤ 12) (hA : AV x m f) (hQ : ∀ J, AF I J → (∀ j, j < m → J 84 j = nI (fsX x (sqF x f j))) → Q (some (.int (nI m))) (J, L, P, n, s)) : ∀ k i J, k + i = m → AF I J → (∀ k, k < 4 → J 85 k = sqF x f i k) → (∀ j, j < i → J 84 j = nI (fsX x (sqF x f j))) → WP (Call (d + 5)) (kod 78) (n, s) (endQ n s Q) 43 [.ref 51, .ref q, .int (nI m), .int (nI i)] [] (J, L, P, n, s)
  | 0, i, J, e, f1, f2, f3 => by
    obtain rfl : i = m := by omega
    rw [x78_43]
    simp (disch := first | assumption | omega | decide | (refine kdN ?_; omega) | (refine kdS ?_; omega) | (refine kd_REGS0 ?_; omega) | (refine kd_BOOK_noted0 ?_; omega) | (refine kd_IREGS0 ?_; omega) | (refine kd_IBOOK_noted0 ?_; omega) | (refine kd_SUMS0 ?_; omega) | (refine kd_TERMS0 ?_; omega) | (refine kd_FACT0 ?_; omega) | (simp (disch := omega) only [tw])) only [↓x78_0, ↓x78_1, ↓x78_2, ↓x78_5, ↓x78_8, ↓x78_9, ↓x78_10, ↓x78_13, ↓x78_14, ↓x78_17, ↓x78_20, ↓x78_21, ↓x78_22, ↓x78_25, ↓x78_28, ↓x78_31, ↓x78_32, ↓x78_33, ↓x78_34, ↓x78_37, ↓x78_38, ↓x78_41, ↓x78_42, ↓x78_44, ↓x78_45, ↓x78_48, ↓x78_49, ↓x78_52, ↓x78_53, ↓x78_54, ↓x78_57, ↓x78_58, ↓x78_61, ↓x78_64, ↓x78_65, evl_e, ↓endQ_e, ↓gI_0, ↓gL_0, ↓gR_0, ↓gI_s, ↓gL_s, ↓gR_s, ↓pI_i, ↓pL_l, ↓pR_r, ↓p1_i, ↓p1_r, ↓pE_e, ↓pN_z, ↓pN_1, ↓pN_2, ↓pN_3, ↓pN_4, ↓pN_5, ↓pN_6, ↓rl_0, ↓rl_1, ↓rl_2, ↓rl_3, ↓rl_4, ↓hdR_r, ↓hdO_r, va_rf_s, sL1_0, sL1_ss, sL1_1i, sL1_1r, sL1_1n, sL1_1l, sL2_0, sL2_ss, sL2_1i, sL2_1r, sL2_1n, sL2_1l, List.getElem?_cons_zero, List.getElem?_cons_succ, Option.toList_some, Option.toList_none, List.cons_append, List.nil_append, Nat.reduceAdd, true_and, and_true, and_self, wA_s, wA_w, ↓reduceIte, ite_self, true_or, or_true, tv, tc, tl, tg, t0, tz, tw, tu, tup, tuL, nI_add, pk_mul, upd_s, tup_s, tuL_s, nI_0, i1, i2, i3, i4, nm1, Int32.lt_irrefl]
    exact hQ J f1 f3
  | k + 1, i, J, e, f1, f2, f3 => by
    obtain ⟨s1, s2, s3⟩ := sq_s hx hA (i := i) (by omega)
    have t2 := (DV_q (x := x) (s := fsX x (sqF x f i)) f2).trans s2
    have t3 := fun t ht => (DV_q (x := x) (s := t) f2).trans (s3 t ht)
    obtain ⟨p50_0, p50_1, p50_2, p50_3, p50_4, p50_5, p50_6, p50_7, p51_0, p51_1, p51_2, p51_3, p51_4, pS, pN⟩ := id hp
    rw [x78_43]
    simp (disch := first | assumption | omega | decide | (refine kdN ?_; omega) | (refine kdS ?_; omega) | (refine kd_REGS0 ?_; omega) | (refine kd_BOOK_noted0 ?_; omega) | (refine kd_IREGS0 ?_; omega) | (refine kd_IBOOK_noted0 ?_; omega) | (refine kd_SUMS0 ?_; omega) | (refine kd_TERMS0 ?_; omega) | (refine kd_FACT0 ?_; omega) | (simp (disch := omega) only [tw])) only [↓x78_0, ↓x78_1, ↓x78_2, ↓x78_5, ↓x78_8, ↓x78_9, ↓x78_10, ↓x78_13, ↓x78_14, ↓x78_17, ↓x78_20, ↓x78_21, ↓x78_22, ↓x78_25, ↓x78_28, ↓x78_31, ↓x78_32, ↓x78_33, ↓x78_34, ↓x78_37, ↓x78_38, ↓x78_41, ↓x78_42, ↓x78_44, ↓x78_45, ↓x78_48, ↓x78_49, ↓x78_52, ↓x78_53, ↓x78_54, ↓x78_57, ↓x78_58, ↓x78_61, ↓x78_64, ↓x78_65, evl_e, ↓endQ_e, ↓gI_0, ↓gL_0, ↓gR_0, ↓gI_s, ↓gL_s, ↓gR_s, ↓pI_i, ↓pL_l, ↓pR_r, ↓p1_i, ↓p1_r, ↓pE_e, ↓pN_z, ↓pN_1, ↓pN_2, ↓pN_3, ↓pN_4, ↓pN_5, ↓pN_6, ↓rl_0, ↓rl_1, ↓rl_2, ↓rl_3, ↓rl_4, ↓hdR_r, ↓hdO_r, va_rf_s, sL1_0, sL1_ss, sL1_1i, sL1_1r, sL1_1n, sL1_1l, sL2_0, sL2_ss, sL2_1i, sL2_1r, sL2_1n, sL2_1l, List.getElem?_cons_zero, List.getElem?_cons_succ, Option.toList_some, Option.toList_none, List.cons_append, List.nil_append, Nat.reduceAdd, true_and, and_true, and_self, wA_s, wA_w, ↓reduceIte, ite_self, true_or, or_true, tv, tc, tl, tg, t0, tz, tw, tu, tup, tuL, nI_add, pk_mul, upd_s, tup_s, tuL_s, nI_0, i1, i2, i3, i4, nm1, kd_51, p51_2]
    refine sp_y hp hx (SF_f hx hI f1) s1 t2 t3 fun J2 g1 g2 g3 => ?_
    simp (disch := first | assumption | omega | decide | (refine kdN ?_; omega) | (refine kdS ?_; omega) | (refine kd_REGS0 ?_; omega) | (refine kd_BOOK_noted0 ?_; omega) | (refine kd_IREGS0 ?_; omega) | (refine kd_IBOOK_noted0 ?_; omega) | (refine kd_SUMS0 ?_; omega) | (refine kd_TERMS0 ?_; omega) | (refine kd_FACT0 ?_; omega) | (simp (disch := omega) only [tw])) only [↓x78_0, ↓x78_1, ↓x78_2, ↓x78_5, ↓x78_8, ↓x78_9, ↓x78_10, ↓x78_13, ↓x78_14, ↓x78_17, ↓x78_20, ↓x78_21, ↓x78_22, ↓x78_25, ↓x78_28, ↓x78_31, ↓x78_32, ↓x78_33, ↓x78_34, ↓x78_37, ↓x78_38, ↓x78_41, ↓x78_42, ↓x78_44, ↓x78_45, ↓x78_48, ↓x78_49, ↓x78_52, ↓x78_53, ↓x78_54, ↓x78_57, ↓x78_58, ↓x78_61, ↓x78_64, ↓x78_65, evl_e, ↓endQ_e, ↓gI_0, ↓gL_0, ↓gR_0, ↓gI_s, ↓gL_s, ↓gR_s, ↓pI_i, ↓pL_l, ↓pR_r, ↓p1_i, ↓p1_r, ↓pE_e, ↓pN_z, ↓pN_1, ↓pN_2, ↓pN_3, ↓pN_4, ↓pN_5, ↓pN_6, ↓rl_0, ↓rl_1, ↓rl_2, ↓rl_3, ↓rl_4, ↓hdR_r, ↓hdO_r, va_rf_s, sL1_0, sL1_ss, sL1_1i, sL1_1r, sL1_1n, sL1_1l, sL2_0, sL2_ss, sL2_1i, sL2_1r, sL2_1n, sL2_1l, List.getElem?_cons_zero, List.getElem?_cons_succ, Option.toList_some, Option.toList_none, List.cons_append, List.nil_append, Nat.reduceAdd, true_and, and_true, and_self, wA_s, wA_w, ↓reduceIte, ite_self, true_or, or_true, tv, tc, tl, tg, t0, tz, tw, tu, tup, tuL, nI_add, pk_mul, upd_s, tup_s, tuL_s, nI_0, i1, i2, i3, i4, nm1, kd_84, ln_84]
    refine tk_l hp hx hI hm hA hQ k (i + 1) _ (by omega) (fun a ha => ?_) (fun k hk => ?_) (fun j hj => ?_)
    · rw [tw (by omega), g1 a ha, f1 a ha]
    · rw [tw (by decide), g2 k hk, NX_q f2]
      rfl
    · rw [wA_s]
      by_cases e : j = i
      · subst e
        rw [upd_s]
      · rw [upd_n e, g3]
        exact f3 j (by omega)
