/-! case apart: the reference -/
def MF (x : Nat) (I : Nat → Nat → Int32) : Prop := I 454 0 = nI (pW x) ∧ (∀ s, s < sN x → ∀ k, k < 4 → I 456 (4 * s + k) = Int32.ofInt (stX x s k)) ∧ ∀ s, s < sN x → I 457 s = nI (rvX x s)
def TF (I J : Nat → Nat → Int32) : Prop := ∀ a, ¬ (a = 474 ∨ a = 475 ∨ a = 482) → J a = I a
theorem MF_f {x : Nat} {I J : Nat → Nat → Int32} (h : MF x I) (f : TF I J) : MF x J := by
  obtain ⟨h1, h2, h3⟩ := h
  refine ⟨?_, fun s hs k hk => ?_, fun s hs => ?_⟩
  · rw [f 454 (by decide)]; exact h1
  · rw [f 456 (by decide)]; exact h2 s hs k hk
  · rw [f 457 (by decide)]; exact h3 s hs
set_option maxRecDepth 100000 in
theorem dv_y {d : Nat} {I : Nat → Nat → Int32} {L : Nat → Nat → Int64} {P : Nat → Nat → Option Nat} {n s : Nat} {Q : Qm} {x t : Nat} (hm : MP P) (hx : x < 11) (hI : MF x I) (ht : t < sN x) : Call (d + 2) 183 [.ref 454, .int (nI t)] (I, L, P, n, s) Q = Q (some (.int (bI (DV x t (I 475))))) (wA I 474 (q4 (I 474) (pA (cF x t) (I 475)) (pB (cF x t) (I 475)) (pC (cF x t) (I 475)) (pD (cF x t) (I 475))), L, P, n, s) := by
  have hs30 := sN_b x hx
  obtain ⟨u1, u2, u3⟩ := hI
  have rt := u3 t ht
  have r30 := (cS_f hx ht).1
  have pb := pOk_b (pOk_x x hx)
  have pz : ¬ nI (pW x) = 0 := nI_ne0 (by omega) (by omega)
  obtain ⟨e1, e2, e3, e4⟩ := p4_q (f := sh (I 456) (4 * rvX x t)) (f' := cF x t) (g := sh (I 475) 0) (g' := I 475) (fun k hk => u2 _ r30 k hk) (fun k _ => by unfold sh; rw [Nat.zero_add])
  have k5 : kd 456 = 10 := kd_456
  have k6 : kd 475 = 10 := kd_475
  have k7 : 4 * rvX x t + 3 < ln 456 := by rw [ln_456]; omega
  have k8 : 0 + 3 < ln 475 := by decide
  have k9 : ln 456 ≤ 20000 := by decide
  have k10 : ln 475 ≤ 20000 := by decide
  have mm := fun Q => m_mult (d := d) (I := I) (L := L) (P := P) (n := n) (s := s) (Q := Q) hm k5 k6 k7 k8 k9 k10
  rw [e1, e2, e3, e4] at mm
  simp only [nI_0] at mm
  obtain ⟨m2, m4, m5, m7, m8, m9, m11, m13, m15, m16, m18, m19, m20, m23, m25, m26, m35, m36, m37, m39, m40, m41, m42, m43, m44, m45, m46, m47, m48⟩ := id hm
  unfold DV dvB rem
  generalize pA (cF x t) (I 475) = a at *
  generalize pB (cF x t) (I 475) = b at *
  generalize pC (cF x t) (I 475) = c at *
  generalize pD (cF x t) (I 475) = e at *
  by_cases h0 : a - a / nI (pW x) * nI (pW x) = 0 <;> by_cases h1 : b - b / nI (pW x) * nI (pW x) = 0 <;> by_cases h2 : c - c / nI (pW x) * nI (pW x) = 0 <;> by_cases h3 : e - e / nI (pW x) * nI (pW x) = 0
  all_goals simp (disch := first | assumption | omega | decide | (refine kdN ?_; omega) | (refine kdS ?_; omega) | (refine kd_REGS0 ?_; omega) | (refine kd_BOOK_noted0 ?_; omega) | (refine kd_IREGS0 ?_; omega) | (refine kd_IBOOK_noted0 ?_; omega) | (refine kd_SUMS0 ?_; omega) | (refine kd_TERMS0 ?_; omega) | (refine kd_FACT0 ?_; omega) | (simp (disch := omega) only [tw])) only [↓c183, ↓x183_0, ↓x183_1, ↓x183_2, ↓x183_5, ↓x183_6, ↓x183_7, ↓x183_10, ↓x183_11, ↓x183_12, ↓x183_13, ↓x183_14, ↓x183_17, ↓x183_18, ↓x183_21, ↓x183_22, ↓x183_23, ↓x183_24, ↓x183_25, ↓x183_26, ↓x183_27, ↓x183_30, ↓x183_31, ↓x183_32, ↓x183_35, ↓x183_36, ↓x183_37, ↓x183_38, ↓x183_41, ↓x183_42, ↓x183_45, ↓x183_46, ↓x183_49, ↓x183_50, ↓x183_51, ↓x183_52, ↓x183_55, ↓x183_58, ↓x183_59, evl_e, ↓endQ_e, ↓gI_0, ↓gL_0, ↓gR_0, ↓gI_s, ↓gL_s, ↓gR_s, ↓pI_i, ↓pL_l, ↓pR_r, ↓p1_i, ↓p1_r, ↓pE_e, ↓pN_z, ↓pN_1, ↓pN_2, ↓pN_3, ↓pN_4, ↓pN_5, ↓pN_6, ↓rl_0, ↓rl_1, ↓rl_2, ↓rl_3, ↓rl_4, ↓hdR_r, ↓hdO_r, va_rf_s, sL1_0, sL1_ss, sL1_1i, sL1_1r, sL1_1n, sL1_1l, sL2_0, sL2_ss, sL2_1i, sL2_1r, sL2_1n, sL2_1l, List.getElem?_cons_zero, List.getElem?_cons_succ, Option.toList_some, Option.toList_none, List.cons_append, List.nil_append, Nat.reduceAdd, true_and, and_true, and_self, wA_s, wA_w, ↓reduceIte, ite_self, true_or, or_true, tv, tc, tl, tg, t0, tz, tw, tu, tup, tuL, nI_add, pk_mul, upd_s, tup_s, tuL_s, nI_0, i1, i2, i3, i4, nm1, m4, m5, m40, m39, kd_454, kd_457, ln_457, kd_474, ln_474, u1, rt, ↓mm, pz, h0, h1, h2, h3, q4_0, q4_1, q4_2, q4_3, v_0, v_1, v_2, v_3, c_0, c_1, c_2, c_3, l_04, l_14, l_24, l_34, l_44, a_01, a_11, a_21, a_31, an_11, an_10, an_01, an_00, e_0, e_1, z_0, z_1, bI_t, bI_f, decide_true, decide_false, Bool.and_true, Bool.and_false, Bool.true_and, Bool.false_and, Bool.false_eq_true, not_false_eq_true]
theorem rz_N {M p : Nat} (hM : M ≤ 400000000) (hp : 0 < p) (hp2 : p < 100) : (nI M - nI M / nI p * nI p = 0) = (M % p = 0) := by
  have e : nI M = Int32.ofInt (M : Int) := nI_ofI
  have h := rzz_0 (z := (M : Int)) (p := p) (by omega) (by omega) hp hp2
  rw [← e] at h
  have h2 : ((p : Int) ∣ (M : Int)) ↔ M % p = 0 := by rw [Int.natCast_dvd_natCast, Nat.dvd_iff_mod_eq_zero]
  exact propext (h.trans h2)
theorem dz_N {M p : Nat} (hM : M ≤ 400000000) (hp2 : p < 100) (h : p ∣ M) : nI M / nI p = nI (M / p) := by
  have e : nI M = Int32.ofInt (M : Int) := nI_ofI
  have e2 : nI (M / p) = Int32.ofInt ((M / p : Nat) : Int) := nI_ofI
  rw [e, e2, td_d (by omega) (by omega) hp2 (Int.natCast_dvd_natCast.mpr h), Int.natCast_ediv]
set_option maxRecDepth 100000 in
theorem st_l {d : Nat} {I : Nat → Nat → Int32} {L : Nat → Nat → Int64} {P : Nat → Nat → Option Nat} {n s : Nat} {Q : Qm} {x N' : Nat} {r : Int32} (hx : x < 11) (e0 : I 454 0 = nI (pW x)) (h0 : 0 < N') (h1 : ¬ N' % pW x = 0) : ∀ k j, j + k < 100 → N' * pW x ^ k ≤ 400000000 → WP (Call d) (kod 182) (n, s) (endQ n s Q) 28 [.ref 454, .int r, .int (nI j), .int (nI (N' * pW x ^ k)), .null, .null, .null, .null] [] (I, L, P, n, s) = WP (Call d) (kod 182) (n, s) (endQ n s Q) 50 [.ref 454, .int r, .int (nI (j + k)), .int (nI N'), .null, .null, .null, .null] [] (I, L, P, n, s)
  | 0, j, _, hb => by
    have pb := pOk_b (pOk_x x hx)
    have pz : ¬ nI (pW x) = 0 := nI_ne0 (by omega) (by omega)
    rw [Nat.pow_zero, Nat.mul_one] at hb
    have c := (rz_N hb (p := pW x) (by omega) (by omega)).trans (eq_false h1)
    rw [x182_28, Nat.pow_zero, Nat.mul_one]
    simp (disch := first | assumption | omega | decide | (refine kdN ?_; omega) | (refine kdS ?_; omega) | (refine kd_REGS0 ?_; omega) | (refine kd_BOOK_noted0 ?_; omega) | (refine kd_IREGS0 ?_; omega) | (refine kd_IBOOK_noted0 ?_; omega) | (refine kd_SUMS0 ?_; omega) | (refine kd_TERMS0 ?_; omega) | (refine kd_FACT0 ?_; omega) | (simp (disch := omega) only [tw])) only [↓x182_0, ↓x182_1, ↓x182_4, ↓x182_5, ↓x182_6, ↓x182_7, ↓x182_10, ↓x182_13, ↓x182_14, ↓x182_15, ↓x182_16, ↓x182_17, ↓x182_18, ↓x182_21, ↓x182_22, ↓x182_23, ↓x182_24, ↓x182_27, ↓x182_29, ↓x182_30, ↓x182_33, ↓x182_34, ↓x182_37, ↓x182_38, ↓x182_39, ↓x182_42, ↓x182_43, ↓x182_44, ↓x182_47, ↓x182_51, ↓x182_52, ↓x182_55, ↓x182_56, ↓x182_58, ↓x182_61, ↓x182_62, ↓x182_63, ↓x182_64, ↓x182_66, ↓x182_67, ↓x182_69, ↓x182_71, ↓x182_72, ↓x182_75, ↓x182_76, ↓x182_79, ↓x182_81, ↓x182_82, ↓x182_85, ↓x182_86, ↓x182_87, ↓x182_88, ↓x182_90, ↓x182_91, ↓x182_92, ↓x182_93, ↓x182_95, ↓x182_96, ↓x182_99, ↓x182_101, ↓x182_102, ↓x182_103, ↓x182_106, ↓x182_107, ↓x182_110, ↓x182_111, ↓x182_114, ↓x182_115, ↓x182_116, ↓x182_118, ↓x182_121, ↓x182_124, ↓x182_126, ↓x182_129, ↓x182_130, ↓x182_131, ↓x182_132, ↓x182_134, ↓x182_136, ↓x182_137, ↓x182_140, ↓x182_141, ↓x182_143, ↓x182_144, ↓x182_146, ↓x182_149, ↓x182_152, ↓x182_155, ↓x182_158, ↓x182_159, ↓x182_162, ↓x182_164, ↓x182_166, ↓x182_167, ↓x182_168, ↓x182_170, ↓x182_172, ↓x182_173, ↓x182_176, ↓x182_177, ↓x182_180, ↓x182_182, ↓x182_183, ↓x182_186, ↓x182_188, ↓x182_189, ↓x182_190, ↓x182_193, ↓x182_194, ↓x182_195, ↓x182_198, ↓x182_201, ↓x182_204, ↓x182_207, ↓x182_208, evl_e, ↓endQ_e, ↓gI_0, ↓gL_0, ↓gR_0, ↓gI_s, ↓gL_s, ↓gR_s, ↓pI_i, ↓pL_l, ↓pR_r, ↓p1_i, ↓p1_r, ↓pE_e, ↓pN_z, ↓pN_1, ↓pN_2, ↓pN_3, ↓pN_4, ↓pN_5, ↓pN_6, ↓rl_0, ↓rl_1, ↓rl_2, ↓rl_3, ↓rl_4, ↓hdR_r, ↓hdO_r, va_rf_s, sL1_0, sL1_ss, sL1_1i, sL1_1r, sL1_1n, sL1_1l, sL2_0, sL2_ss, sL2_1i, sL2_1r, sL2_1n, sL2_1l, List.getElem?_cons_zero, List.getElem?_cons_succ, Option.toList_some, Option.toList_none, List.cons_append, List.nil_append, Nat.reduceAdd, true_and, and_true, and_self, wA_s, wA_w, ↓reduceIte, ite_self, true_or, or_true, tv, tc, tl, tg, t0, tz, tw, tu, tup, tuL, nI_add, pk_mul, upd_s, tup_s, tuL_s, nI_0, i1, i2, i3, i4, nm1, kd_454, e0, pz, c, Nat.add_zero, not_false_eq_true]
  | k + 1, j, hj, hb => by
    have pb := pOk_b (pOk_x x hx)
    have pz : ¬ nI (pW x) = 0 := nI_ne0 (by omega) (by omega)
    have e1 : N' * pW x ^ (k + 1) = N' * pW x ^ k * pW x := by rw [Nat.pow_succ, Nat.mul_assoc]
    have dv : pW x ∣ N' * pW x ^ (k + 1) := ⟨N' * pW x ^ k, by rw [e1, Nat.mul_comm]⟩
    have c := (rz_N hb (p := pW x) (by omega) (by omega)).trans (eq_true (Nat.mod_eq_zero_of_dvd dv))
    have c2 := dz_N hb (p := pW x) (by omega) dv
    have e3 : N' * pW x ^ (k + 1) / pW x = N' * pW x ^ k := by rw [e1, Nat.mul_div_cancel _ (by omega)]
    rw [e3] at c2
    rw [c2, pk_mul] at c
    have hb2 : N' * pW x ^ k ≤ 400000000 := by
      have : N' * pW x ^ k * 1 ≤ N' * pW x ^ k * pW x := Nat.mul_le_mul_left _ (by omega)
      omega
    have ih := st_l (d := d) (L := L) (P := P) (n := n) (s := s) (Q := Q) (r := r) hx e0 h0 h1 k (j + 1) (by omega) hb2
    rw [x182_28]
    simp (disch := first | assumption | omega | decide | (refine kdN ?_; omega) | (refine kdS ?_; omega) | (refine kd_REGS0 ?_; omega) | (refine kd_BOOK_noted0 ?_; omega) | (refine kd_IREGS0 ?_; omega) | (refine kd_IBOOK_noted0 ?_; omega) | (refine kd_SUMS0 ?_; omega) | (refine kd_TERMS0 ?_; omega) | (refine kd_FACT0 ?_; omega) | (simp (disch := omega) only [tw])) only [↓x182_0, ↓x182_1, ↓x182_4, ↓x182_5, ↓x182_6, ↓x182_7, ↓x182_10, ↓x182_13, ↓x182_14, ↓x182_15, ↓x182_16, ↓x182_17, ↓x182_18, ↓x182_21, ↓x182_22, ↓x182_23, ↓x182_24, ↓x182_27, ↓x182_29, ↓x182_30, ↓x182_33, ↓x182_34, ↓x182_37, ↓x182_38, ↓x182_39, ↓x182_42, ↓x182_43, ↓x182_44, ↓x182_47, ↓x182_51, ↓x182_52, ↓x182_55, ↓x182_56, ↓x182_58, ↓x182_61, ↓x182_62, ↓x182_63, ↓x182_64, ↓x182_66, ↓x182_67, ↓x182_69, ↓x182_71, ↓x182_72, ↓x182_75, ↓x182_76, ↓x182_79, ↓x182_81, ↓x182_82, ↓x182_85, ↓x182_86, ↓x182_87, ↓x182_88, ↓x182_90, ↓x182_91, ↓x182_92, ↓x182_93, ↓x182_95, ↓x182_96, ↓x182_99, ↓x182_101, ↓x182_102, ↓x182_103, ↓x182_106, ↓x182_107, ↓x182_110, ↓x182_111, ↓x182_114, ↓x182_115, ↓x182_116, ↓x182_118, ↓x182_121, ↓x182_124, ↓x182_126, ↓x182_129, ↓x182_130, ↓x182_131, ↓x182_132, ↓x182_134, ↓x182_136, ↓x182_137, ↓x182_140, ↓x182_141, ↓x182_143, ↓x182_144, ↓x182_146, ↓x182_149, ↓x182_152, ↓x182_155, ↓x182_158, ↓x182_159, ↓x182_162, ↓x182_164, ↓x182_166, ↓x182_167, ↓x182_168, ↓x182_170, ↓x182_172, ↓x182_173, ↓x182_176, ↓x182_177, ↓x182_180, ↓x182_182, ↓x182_183, ↓x182_186, ↓x182_188, ↓x182_189, ↓x182_190, ↓x182_193, ↓x182_194, ↓x182_195, ↓x182_198, ↓x182_201, ↓x182_204, ↓x182_207, ↓x182_208, evl_e, ↓endQ_e, ↓gI_0, ↓gL_0, ↓gR_0, ↓gI_s, ↓gL_s, ↓gR_s, ↓pI_i, ↓pL_l, ↓pR_r, ↓p1_i, ↓p1_r, ↓pE_e, ↓pN_z, ↓pN_1, ↓pN_2, ↓pN_3, ↓pN_4, ↓pN_5, ↓pN_6, ↓rl_0, ↓rl_1, ↓rl_2, ↓rl_3, ↓rl_4, ↓hdR_r, ↓hdO_r, va_rf_s, sL1_0, sL1_ss, sL1_1i, sL1_1r, sL1_1n, sL1_1l, sL2_0, sL2_ss, sL2_1i, sL2_1r, sL2_1n, sL2_1l, List.getElem?_cons_zero, List.getElem?_cons_succ, Option.toList_some, Option.toList_none, List.cons_append, List.nil_append, Nat.reduceAdd, true_and, and_true, and_self, wA_s, wA_w, ↓reduceIte, ite_self, true_or, or_true, tv, tc, tl, tg, t0, tz, tw, tu, tup, tuL, nI_add, pk_mul, upd_s, tup_s, tuL_s, nI_0, i1, i2, i3, i4, nm1, kd_454, e0, pz, c, c2, not_false_eq_true]
    rw [ih, show j + 1 + k = j + (k + 1) by omega]
theorem strip {p : Nat} (hp : 2 ≤ p) : ∀ N, 0 < N → ∃ j N', N = N' * p ^ j ∧ ¬ N' % p = 0 ∧ 0 < N' := by
  intro N
  induction N using Nat.strongRecOn with
  | ind N ih =>
    intro h
    by_cases c : N % p = 0
    · have d := Nat.dvd_of_mod_eq_zero c
      have hl : N / p < N := Nat.div_lt_self h (by omega)
      have h2 : 0 < N / p := Nat.div_pos (Nat.le_of_dvd h d) (by omega)
      obtain ⟨j, N', e, a, b⟩ := ih (N / p) hl h2
      refine ⟨j + 1, N', ?_, a, b⟩
      rw [Nat.pow_succ, ← Nat.mul_assoc, ← e, Nat.div_mul_cancel d]
    · exact ⟨0, N, by rw [Nat.pow_zero, Nat.mul_one], c, h⟩
set_option maxRecDepth 100000 in
theorem tm_s {d : Nat} {I : Nat → Nat → Int32} {L : Nat → Nat → Int64} {P : Nat → Nat → Option Nat} {n s : Nat} {Q : Qm} {x r k : Nat} {b : Bool} {v2 v3 : Int32} {H : Nat → Int32} (hm : MP P) (hx : x < 11) (e0 : I 454 0 = nI (pW x)) (hr : r < 6) (hk : k < 4) : WP (Call d) (kod 182) (n, s) (endQ n s Q) 69 [.ref 454, .int (nI r), .int v2, .int v3, .int (bI b), .int (nI k), .null, .null] [] (wA I 475 H, L, P, n, s) = WP (Call d) (kod 182) (n, s) (endQ n s Q) 69 [.ref 454, .int (nI r), .int v2, .int v3, .int (bI (b && decide (rem (I 455 (4 * r + k)) (nI (pW x)) = 0))), .int (nI (k + 1)), .null, .null] [] (wA I 475 (upd H k (I 455 (4 * r + k))), L, P, n, s) := by
  have pb := pOk_b (pOk_x x hx)
  have pz : ¬ nI (pW x) = 0 := nI_ne0 (by omega) (by omega)
  have kk := tl4 hk
  obtain ⟨m2, m4, m5, m7, m8, m9, m11, m13, m15, m16, m18, m19, m20, m23, m25, m26, m35, m36, m37, m39, m40, m41, m42, m43, m44, m45, m46, m47, m48⟩ := id hm
  unfold rem
  generalize hg : I 455 (4 * r + k) = g
  rw [x182_69]
  by_cases hz : g - g / nI (pW x) * nI (pW x) = 0 <;> cases b
  all_goals simp (disch := first | assumption | omega | decide | (refine kdN ?_; omega) | (refine kdS ?_; omega) | (refine kd_REGS0 ?_; omega) | (refine kd_BOOK_noted0 ?_; omega) | (refine kd_IREGS0 ?_; omega) | (refine kd_IBOOK_noted0 ?_; omega) | (refine kd_SUMS0 ?_; omega) | (refine kd_TERMS0 ?_; omega) | (refine kd_FACT0 ?_; omega) | (simp (disch := omega) only [tw])) only [↓x182_0, ↓x182_1, ↓x182_4, ↓x182_5, ↓x182_6, ↓x182_7, ↓x182_10, ↓x182_13, ↓x182_14, ↓x182_15, ↓x182_16, ↓x182_17, ↓x182_18, ↓x182_21, ↓x182_22, ↓x182_23, ↓x182_24, ↓x182_27, ↓x182_28, ↓x182_29, ↓x182_30, ↓x182_33, ↓x182_34, ↓x182_37, ↓x182_38, ↓x182_39, ↓x182_42, ↓x182_43, ↓x182_44, ↓x182_47, ↓x182_50, ↓x182_51, ↓x182_52, ↓x182_55, ↓x182_56, ↓x182_58, ↓x182_61, ↓x182_62, ↓x182_63, ↓x182_64, ↓x182_66, ↓x182_67, ↓x182_71, ↓x182_72, ↓x182_75, ↓x182_76, ↓x182_79, ↓x182_81, ↓x182_82, ↓x182_85, ↓x182_86, ↓x182_87, ↓x182_88, ↓x182_90, ↓x182_91, ↓x182_92, ↓x182_93, ↓x182_95, ↓x182_96, ↓x182_99, ↓x182_101, ↓x182_102, ↓x182_103, ↓x182_106, ↓x182_107, ↓x182_110, ↓x182_111, ↓x182_114, ↓x182_115, ↓x182_116, ↓x182_118, ↓x182_121, ↓x182_126, ↓x182_129, ↓x182_130, ↓x182_131, ↓x182_132, ↓x182_134, ↓x182_136, ↓x182_137, ↓x182_140, ↓x182_141, ↓x182_143, ↓x182_144, ↓x182_146, ↓x182_149, ↓x182_152, ↓x182_155, ↓x182_158, ↓x182_159, ↓x182_162, ↓x182_164, ↓x182_166, ↓x182_167, ↓x182_168, ↓x182_170, ↓x182_172, ↓x182_173, ↓x182_176, ↓x182_177, ↓x182_180, ↓x182_182, ↓x182_183, ↓x182_186, ↓x182_188, ↓x182_189, ↓x182_190, ↓x182_193, ↓x182_194, ↓x182_195, ↓x182_198, ↓x182_201, ↓x182_204, ↓x182_207, ↓x182_208, evl_e, ↓endQ_e, ↓gI_0, ↓gL_0, ↓gR_0, ↓gI_s, ↓gL_s, ↓gR_s, ↓pI_i, ↓pL_l, ↓pR_r, ↓p1_i, ↓p1_r, ↓pE_e, ↓pN_z, ↓pN_1, ↓pN_2, ↓pN_3, ↓pN_4, ↓pN_5, ↓pN_6, ↓rl_0, ↓rl_1, ↓rl_2, ↓rl_3, ↓rl_4, ↓hdR_r, ↓hdO_r, va_rf_s, sL1_0, sL1_ss, sL1_1i, sL1_1r, sL1_1n, sL1_1l, sL2_0, sL2_ss, sL2_1i, sL2_1r, sL2_1n, sL2_1l, List.getElem?_cons_zero, List.getElem?_cons_succ, Option.toList_some, Option.toList_none, List.cons_append, List.nil_append, Nat.reduceAdd, true_and, and_true, and_self, wA_s, wA_w, ↓reduceIte, ite_self, true_or, or_true, tv, tc, tl, tg, t0, tz, tw, tu, tup, tuL, nI_add, pk_mul, upd_s, tup_s, tuL_s, nI_0, i1, i2, i3, i4, nm1, m40, m2, kd_454, kd_455, ln_455, kd_475, ln_475, e0, pz, hg, hz, kk, bI_t, bI_f, an_11, an_10, an_01, an_00, decide_true, decide_false, Bool.and_true, Bool.and_false, Bool.true_and, Bool.false_and, Bool.false_eq_true, not_false_eq_true]
set_option maxRecDepth 100000 in
theorem tm_e {d : Nat} {I : Nat → Nat → Int32} {L : Nat → Nat → Int64} {P : Nat → Nat → Option Nat} {n s : Nat} {Q : Qm} {r v2 v3 : Int32} {b : Bool} : WP (Call d) (kod 182) (n, s) (endQ n s Q) 69 [.ref 454, .int r, .int v2, .int v3, .int (bI b), .int 4, .null, .null] [] (I, L, P, n, s) = if b = true then Q (some (.int (-1))) (I, L, P, n, s) else WP (Call d) (kod 182) (n, s) (endQ n s Q) 134 [.ref 454, .int r, .int v2, .int v3, .int (bI b), .int 0, .null, .null] [] (I, L, P, n, s) := by
  rw [x182_69]
  cases b
  · simp (disch := first | assumption | omega | decide | (refine kdN ?_; omega) | (refine kdS ?_; omega) | (refine kd_REGS0 ?_; omega) | (refine kd_BOOK_noted0 ?_; omega) | (refine kd_IREGS0 ?_; omega) | (refine kd_IBOOK_noted0 ?_; omega) | (refine kd_SUMS0 ?_; omega) | (refine kd_TERMS0 ?_; omega) | (refine kd_FACT0 ?_; omega) | (simp (disch := omega) only [tw])) only [↓x182_0, ↓x182_1, ↓x182_4, ↓x182_5, ↓x182_6, ↓x182_7, ↓x182_10, ↓x182_13, ↓x182_14, ↓x182_15, ↓x182_16, ↓x182_17, ↓x182_18, ↓x182_21, ↓x182_22, ↓x182_23, ↓x182_24, ↓x182_27, ↓x182_28, ↓x182_29, ↓x182_30, ↓x182_33, ↓x182_34, ↓x182_37, ↓x182_38, ↓x182_39, ↓x182_42, ↓x182_43, ↓x182_44, ↓x182_47, ↓x182_50, ↓x182_51, ↓x182_52, ↓x182_55, ↓x182_56, ↓x182_58, ↓x182_61, ↓x182_62, ↓x182_63, ↓x182_64, ↓x182_66, ↓x182_67, ↓x182_71, ↓x182_72, ↓x182_75, ↓x182_76, ↓x182_79, ↓x182_81, ↓x182_82, ↓x182_85, ↓x182_86, ↓x182_87, ↓x182_88, ↓x182_90, ↓x182_91, ↓x182_92, ↓x182_93, ↓x182_95, ↓x182_96, ↓x182_99, ↓x182_101, ↓x182_102, ↓x182_103, ↓x182_106, ↓x182_107, ↓x182_110, ↓x182_111, ↓x182_114, ↓x182_115, ↓x182_116, ↓x182_118, ↓x182_121, ↓x182_124, ↓x182_126, ↓x182_129, ↓x182_130, ↓x182_131, ↓x182_132, ↓x182_136, ↓x182_137, ↓x182_140, ↓x182_141, ↓x182_143, ↓x182_144, ↓x182_146, ↓x182_149, ↓x182_152, ↓x182_155, ↓x182_158, ↓x182_159, ↓x182_162, ↓x182_164, ↓x182_166, ↓x182_167, ↓x182_168, ↓x182_170, ↓x182_172, ↓x182_173, ↓x182_176, ↓x182_177, ↓x182_180, ↓x182_182, ↓x182_183, ↓x182_186, ↓x182_188, ↓x182_189, ↓x182_190, ↓x182_193, ↓x182_194, ↓x182_195, ↓x182_198, ↓x182_201, ↓x182_204, ↓x182_207, ↓x182_208, evl_e, ↓endQ_e, ↓gI_0, ↓gL_0, ↓gR_0, ↓gI_s, ↓gL_s, ↓gR_s, ↓pI_i, ↓pL_l, ↓pR_r, ↓p1_i, ↓p1_r, ↓pE_e, ↓pN_z, ↓pN_1, ↓pN_2, ↓pN_3, ↓pN_4, ↓pN_5, ↓pN_6, ↓rl_0, ↓rl_1, ↓rl_2, ↓rl_3, ↓rl_4, ↓hdR_r, ↓hdO_r, va_rf_s, sL1_0, sL1_ss, sL1_1i, sL1_1r, sL1_1n, sL1_1l, sL2_0, sL2_ss, sL2_1i, sL2_1r, sL2_1n, sL2_1l, List.getElem?_cons_zero, List.getElem?_cons_succ, Option.toList_some, Option.toList_none, List.cons_append, List.nil_append, Nat.reduceAdd, true_and, and_true, and_self, wA_s, wA_w, ↓reduceIte, ite_self, true_or, or_true, tv, tc, tl, tg, t0, tz, tw, tu, tup, tuL, nI_add, pk_mul, upd_s, tup_s, tuL_s, nI_0, i1, i2, i3, i4, nm1, l_44, bI_f, Bool.false_eq_true]
  · simp (disch := first | assumption | omega | decide | (refine kdN ?_; omega) | (refine kdS ?_; omega) | (refine kd_REGS0 ?_; omega) | (refine kd_BOOK_noted0 ?_; omega) | (refine kd_IREGS0 ?_; omega) | (refine kd_IBOOK_noted0 ?_; omega) | (refine kd_SUMS0 ?_; omega) | (refine kd_TERMS0 ?_; omega) | (refine kd_FACT0 ?_; omega) | (simp (disch := omega) only [tw])) only [↓x182_0, ↓x182_1, ↓x182_4, ↓x182_5, ↓x182_6, ↓x182_7, ↓x182_10, ↓x182_13, ↓x182_14, ↓x182_15, ↓x182_16, ↓x182_17, ↓x182_18, ↓x182_21, ↓x182_22, ↓x182_23, ↓x182_24, ↓x182_27, ↓x182_28, ↓x182_29, ↓x182_30, ↓x182_33, ↓x182_34, ↓x182_37, ↓x182_38, ↓x182_39, ↓x182_42, ↓x182_43, ↓x182_44, ↓x182_47, ↓x182_50, ↓x182_51, ↓x182_52, ↓x182_55, ↓x182_56, ↓x182_58, ↓x182_61, ↓x182_62, ↓x182_63, ↓x182_64, ↓x182_66, ↓x182_67, ↓x182_71, ↓x182_72, ↓x182_75, ↓x182_76, ↓x182_79, ↓x182_81, ↓x182_82, ↓x182_85, ↓x182_86, ↓x182_87, ↓x182_88, ↓x182_90, ↓x182_91, ↓x182_92, ↓x182_93, ↓x182_95, ↓x182_96, ↓x182_99, ↓x182_101, ↓x182_102, ↓x182_103, ↓x182_106, ↓x182_107, ↓x182_110, ↓x182_111, ↓x182_114, ↓x182_115, ↓x182_116, ↓x182_118, ↓x182_121, ↓x182_124, ↓x182_126, ↓x182_129, ↓x182_130, ↓x182_131, ↓x182_132, ↓x182_136, ↓x182_137, ↓x182_140, ↓x182_141, ↓x182_143, ↓x182_144, ↓x182_146, ↓x182_149, ↓x182_152, ↓x182_155, ↓x182_158, ↓x182_159, ↓x182_162, ↓x182_164, ↓x182_166, ↓x182_167, ↓x182_168, ↓x182_170, ↓x182_172, ↓x182_173, ↓x182_176, ↓x182_177, ↓x182_180, ↓x182_182, ↓x182_183, ↓x182_186, ↓x182_188, ↓x182_189, ↓x182_190, ↓x182_193, ↓x182_194, ↓x182_195, ↓x182_198, ↓x182_201, ↓x182_204, ↓x182_207, ↓x182_208, evl_e, ↓endQ_e, ↓gI_0, ↓gL_0, ↓gR_0, ↓gI_s, ↓gL_s, ↓gR_s, ↓pI_i, ↓pL_l, ↓pR_r, ↓p1_i, ↓p1_r, ↓pE_e, ↓pN_z, ↓pN_1, ↓pN_2, ↓pN_3, ↓pN_4, ↓pN_5, ↓pN_6, ↓rl_0, ↓rl_1, ↓rl_2, ↓rl_3, ↓rl_4, ↓hdR_r, ↓hdO_r, va_rf_s, sL1_0, sL1_ss, sL1_1i, sL1_1r, sL1_1n, sL1_1l, sL2_0, sL2_ss, sL2_1i, sL2_1r, sL2_1n, sL2_1l, List.getElem?_cons_zero, List.getElem?_cons_succ, Option.toList_some, Option.toList_none, List.cons_append, List.nil_append, Nat.reduceAdd, true_and, and_true, and_self, wA_s, wA_w, ↓reduceIte, ite_self, true_or, or_true, tv, tc, tl, tg, t0, tz, tw, tu, tup, tuL, nI_add, pk_mul, upd_s, tup_s, tuL_s, nI_0, i1, i2, i3, i4, nm1, l_44, bI_t, e_10]
set_option maxRecDepth 100000 in
theorem tm_all {d : Nat} {I : Nat → Nat → Int32} {L : Nat → Nat → Int64} {P : Nat → Nat → Option Nat} {n s : Nat} {Q : Qm} {x r : Nat} {v2 v3 : Int32} (hm : MP P) (hx : x < 11) (e0 : I 454 0 = nI (pW x)) (hr : r < 6) : WP (Call d) (kod 182) (n, s) (endQ n s Q) 69 [.ref 454, .int (nI r), .int v2, .int v3, .int 1, .int 0, .null, .null] [] (I, L, P, n, s) = if mul4 (sh (I 455) (4 * r)) (nI (pW x)) = true then Q (some (.int (-1))) (wA I 475 (q4 (I 475) (I 455 (4 * r)) (I 455 (4 * r + 1)) (I 455 (4 * r + 2)) (I 455 (4 * r + 3))), L, P, n, s) else WP (Call d) (kod 182) (n, s) (endQ n s Q) 134 [.ref 454, .int (nI r), .int v2, .int v3, .int 0, .int 0, .null, .null] [] (wA I 475 (q4 (I 475) (I 455 (4 * r)) (I 455 (4 * r + 1)) (I 455 (4 * r + 2)) (I 455 (4 * r + 3))), L, P, n, s) := by
  have t := fun (H : Nat → Int32) (b : Bool) k (hk : k < 4) => tm_s (d := d) (L := L) (P := P) (n := n) (s := s) (Q := Q) (v2 := v2) (v3 := v3) (H := H) (b := b) hm hx e0 hr hk
  have t0 := t (I 475) true 0 (by decide)
  rw [wA_id] at t0
  refine t0.trans ?_
  refine (t _ _ 1 (by decide)).trans ?_
  refine (t _ _ 2 (by decide)).trans ?_
  refine (t _ _ 3 (by decide)).trans ?_
  refine tm_e.trans ?_
  have e : (true && decide (rem (I 455 (4 * r + 0)) (nI (pW x)) = 0) && decide (rem (I 455 (4 * r + 1)) (nI (pW x)) = 0) && decide (rem (I 455 (4 * r + 2)) (nI (pW x)) = 0) && decide (rem (I 455 (4 * r + 3)) (nI (pW x)) = 0)) = mul4 (sh (I 455) (4 * r)) (nI (pW x)) := by
    rw [Bool.true_and]
    rfl
  rw [e]
  cases mul4 (sh (I 455) (4 * r)) (nI (pW x)) <;> rfl
