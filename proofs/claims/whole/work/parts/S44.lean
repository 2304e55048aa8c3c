/-! case read: the reference's second pass, whole -/
theorem NR_cj {w k : Nat} {o : Nat → Nat} {r : Res} {I K : Nat → Nat → Int32} {H : Nat → Int32} (h : NR w k o r I K) (h1 : ∀ a, a < w → H a = K 483 a) (h2 : ∀ l, l < 4 → H (w + l) = cj (sh (K 483) w) l) : NR w k o (rcj r) I (wA K 483 H) := by
  obtain ⟨G, a, b⟩ := h
  refine ⟨NG_w G (fun a q => (h1 a q).trans (G.2.2 a q)), fun q => ?_, fun q => ?_⟩
  · obtain ⟨x1, x2, x3, x4, x5⟩ := a q
    refine ⟨by rw [tw (by decide)]; exact x1, by rw [tw (by decide)]; exact x2, by rw [tw (by decide)]; exact x3, fun j hj => by rw [tw (by decide)]; exact x4 j hj, fun l hl => ?_⟩
    rw [wA_s, h2 l hl]
    show cj (sh (K 483) w) l = cj (rV r) l
    rcases (by omega : l = 0 ∨ l = 1 ∨ l = 2 ∨ l = 3) with rfl | rfl | rfl | rfl
    · exact x5 0 (by decide)
    · exact congrArg (fun y => -y) (x5 1 (by decide))
    · exact congrArg (fun y => -y) (x5 2 (by decide))
    · exact congrArg (fun y => -y) (x5 3 (by decide))
  · obtain ⟨x1, x2, x3, x4, x5⟩ := b q
    exact ⟨by rw [tw (by decide)]; exact x1, by rw [tw (by decide)]; exact x2, by rw [tw (by decide)]; exact x3, by rw [tw (by decide)]; exact x4, fun j hj => by rw [tw (by decide)]; exact x5 j hj⟩
set_option maxRecDepth 100000 in
theorem n_fac {d : Nat} {L : Nat → Nat → Int64} {P : Nat → Nat → Option Nat} {n s : Nat} {T : Nat → Nat} {z x : Nat} {g : Nat → Nat → Int32} (hm : MP P) (hx : x < 11) (hg : ∀ r, r < 6 → ∀ k, k < 4 → fit1 (g r k) = true) : ∀ f k o i D w, z < f + i → k ≤ 4 → w ≤ 8 * k + 8 → 3 * (z - i) + 20 ≤ D → i ≤ z → CNp T z x g L P n s 210 D w k o i (fac T z x g f k o i) := by
  intro f
  induction f with
  | zero =>
    intro k o i D w hf hk hw hD hi
    omega
  | succ f ih =>
    intro k o i D w hf hk hw hD hi f1 f2 I Q h hQ
    obtain ⟨d, rfl⟩ : ∃ d, D = d + 12 := ⟨D - 12, by omega⟩
    have e22 := h.1.2.2.2.2.1
    have e24 := h.1.2.2.2.2.2.2.1
    have e28 := h.2.1
    have w64 : w + 4 ≤ 64 := by omega
    have s40 : (nI (chT T z i) = 40) = (chT T z i = 40) := sg_e (c := 40) h.1.2.1 (by decide)
    have s103 : (nI (chT T z i) = 103) = (chT T z i = 103) := sg_e (c := 103) h.1.2.1 (by decide)
    have s114 : (nI (chT T z i) = 114) = (chT T z i = 114) := sg_e (c := 114) h.1.2.1 (by decide)
    have s126 : (nI (chT T z i) = 126) = (chT T z i = 126) := sg_e (c := 126) h.1.2.1 (by decide)
    rw [fac_s] at f1 f2 hQ
    obtain ⟨m2, m4, m5, m7, m8, m9, m11, m13, m15, m16, m18, m19, m20, m23, m25, m26, m35, m36, m37, m39, m40, m41, m42, m43, m44, m45, m46, m47, m48⟩ := id hm
    by_cases c : chT T z i = 126
    · have iz := ch_z c (by decide)
      have hl : lookT [(40, 104), (103, 207), (114, 155), (126, 64)] 269 (nI (chT T z i)) = 64 := by rw [c]; decide
      rw [if_pos c] at f1 f2 hQ
      rw [c210]
      simp (disch := first | assumption | omega | decide | (refine kdN ?_; omega) | (refine kdS ?_; omega) | (refine kd_REGS0 ?_; omega) | (refine kd_BOOK_noted0 ?_; omega) | (refine kd_IREGS0 ?_; omega) | (refine kd_IBOOK_noted0 ?_; omega) | (refine kd_SUMS0 ?_; omega) | (refine kd_TERMS0 ?_; omega) | (refine kd_FACT0 ?_; omega) | (simp (disch := omega) only [tw])) only [↓x210_0, ↓x210_1, ↓x210_4, ↓x210_5, ↓x210_6, ↓x210_9, ↓x210_10, ↓x210_11, ↓x210_12, ↓x210_15, ↓x210_16, ↓x210_17, ↓x210_20, ↓x210_21, ↓x210_64, ↓x210_65, ↓x210_66, ↓x210_70, ↓x210_72, ↓x210_74, ↓x210_75, ↓x210_78, ↓x210_79, ↓x210_82, ↓x210_83, ↓x210_85, ↓x210_86, ↓x210_87, ↓x210_90, ↓x210_91, ↓x210_93, ↓x210_94, ↓x210_95, ↓x210_96, ↓x210_97, ↓x210_100, ↓x210_103, ↓x210_104, ↓x210_105, ↓x210_108, ↓x210_109, ↓x210_110, ↓x210_113, ↓x210_114, ↓x210_115, ↓x210_116, ↓x210_119, ↓x210_120, ↓x210_121, ↓x210_122, ↓x210_123, ↓x210_126, ↓x210_127, ↓x210_130, ↓x210_133, ↓x210_134, ↓x210_135, ↓x210_136, ↓x210_139, ↓x210_140, ↓x210_141, ↓x210_144, ↓x210_145, ↓x210_146, ↓x210_149, ↓x210_150, ↓x210_151, ↓x210_154, ↓x210_155, ↓x210_156, ↓x210_158, ↓x210_160, ↓x210_161, ↓x210_164, ↓x210_165, ↓x210_168, ↓x210_169, ↓x210_171, ↓x210_172, ↓x210_173, ↓x210_176, ↓x210_177, ↓x210_178, ↓x210_181, ↓x210_183, ↓x210_184, ↓x210_185, ↓x210_187, ↓x210_188, ↓x210_189, ↓x210_190, ↓x210_193, ↓x210_196, ↓x210_197, ↓x210_198, ↓x210_201, ↓x210_202, ↓x210_203, ↓x210_206, ↓x210_207, ↓x210_208, ↓x210_211, ↓x210_213, ↓x210_214, ↓x210_216, ↓x210_219, ↓x210_222, ↓x210_223, ↓x210_225, ↓x210_226, ↓x210_228, ↓x210_231, ↓x210_232, ↓x210_233, ↓x210_235, ↓x210_237, ↓x210_238, ↓x210_241, ↓x210_242, ↓x210_245, ↓x210_246, ↓x210_248, ↓x210_249, ↓x210_250, ↓x210_253, ↓x210_254, ↓x210_256, ↓x210_257, ↓x210_259, ↓x210_260, ↓x210_261, ↓x210_262, ↓x210_265, ↓x210_268, ↓x210_269, ↓x210_270, ↓x210_272, ↓x210_274, ↓x210_275, ↓x210_278, ↓x210_279, ↓x210_282, ↓x210_283, ↓x210_285, ↓x210_286, ↓x210_287, ↓x210_290, ↓x210_291, ↓x210_292, ↓x210_293, ↓x210_296, ↓x210_297, ↓x210_298, ↓x210_301, ↓x210_304, ↓x210_307, evl_e, ↓endQ_e, ↓gI_0, ↓gL_0, ↓gR_0, ↓gI_s, ↓gL_s, ↓gR_s, ↓pI_i, ↓pL_l, ↓pR_r, ↓p1_i, ↓p1_r, ↓pE_e, ↓pN_z, ↓pN_1, ↓pN_2, ↓pN_3, ↓pN_4, ↓pN_5, ↓pN_6, ↓rl_0, ↓rl_1, ↓rl_2, ↓rl_3, ↓rl_4, ↓hdR_r, ↓hdO_r, va_rf_s, sL1_0, sL1_ss, sL1_1i, sL1_1r, sL1_1n, sL1_1l, sL2_0, sL2_ss, sL2_1i, sL2_1r, sL2_1n, sL2_1l, List.getElem?_cons_zero, List.getElem?_cons_succ, Option.toList_some, Option.toList_none, List.cons_append, List.nil_append, Nat.reduceAdd, true_and, and_true, and_self, wA_s, wA_w, ↓reduceIte, ite_self, true_or, or_true, tv, tc, tl, tg, t0, tz, tw, tu, tup, tuL, nI_add, pk_mul, upd_s, tup_s, tuL_s, nI_0, i1, i2, i3, i4, nm1, kd_454, ↓m_sign hm h.1, hl, e22, aM_f]
      refine ih k o (i + 1) (d + 11) w (by omega) hk hw (by omega) iz f1 f2 _ _ (M2_a h iz) fun K hK => ?_
      obtain ⟨H, h1, h2, h3⟩ := nn_all (d := d + 11) (I := K) (L := L) (P := P) (n := n) (s := s) (Q := Q) (w := w) (c := nI (chT T z i)) (p := nI i) (v5 := .null) hm w64
      simp (disch := first | assumption | omega | decide | (refine kdN ?_; omega) | (refine kdS ?_; omega) | (refine kd_REGS0 ?_; omega) | (refine kd_BOOK_noted0 ?_; omega) | (refine kd_IREGS0 ?_; omega) | (refine kd_IBOOK_noted0 ?_; omega) | (refine kd_SUMS0 ?_; omega) | (refine kd_TERMS0 ?_; omega) | (refine kd_FACT0 ?_; omega) | (simp (disch := omega) only [tw])) only [↓x210_0, ↓x210_1, ↓x210_4, ↓x210_5, ↓x210_6, ↓x210_9, ↓x210_10, ↓x210_11, ↓x210_12, ↓x210_15, ↓x210_16, ↓x210_17, ↓x210_20, ↓x210_21, ↓x210_64, ↓x210_65, ↓x210_66, ↓x210_69, ↓x210_70, ↓x210_74, ↓x210_75, ↓x210_78, ↓x210_79, ↓x210_82, ↓x210_83, ↓x210_85, ↓x210_86, ↓x210_87, ↓x210_90, ↓x210_91, ↓x210_93, ↓x210_94, ↓x210_95, ↓x210_96, ↓x210_97, ↓x210_100, ↓x210_103, ↓x210_104, ↓x210_105, ↓x210_108, ↓x210_109, ↓x210_110, ↓x210_113, ↓x210_114, ↓x210_115, ↓x210_116, ↓x210_119, ↓x210_120, ↓x210_121, ↓x210_122, ↓x210_123, ↓x210_126, ↓x210_127, ↓x210_130, ↓x210_133, ↓x210_134, ↓x210_135, ↓x210_136, ↓x210_139, ↓x210_140, ↓x210_141, ↓x210_144, ↓x210_145, ↓x210_146, ↓x210_149, ↓x210_150, ↓x210_151, ↓x210_154, ↓x210_155, ↓x210_156, ↓x210_158, ↓x210_160, ↓x210_161, ↓x210_164, ↓x210_165, ↓x210_168, ↓x210_169, ↓x210_171, ↓x210_172, ↓x210_173, ↓x210_176, ↓x210_177, ↓x210_178, ↓x210_181, ↓x210_183, ↓x210_184, ↓x210_185, ↓x210_187, ↓x210_188, ↓x210_189, ↓x210_190, ↓x210_193, ↓x210_196, ↓x210_197, ↓x210_198, ↓x210_201, ↓x210_202, ↓x210_203, ↓x210_206, ↓x210_207, ↓x210_208, ↓x210_211, ↓x210_213, ↓x210_214, ↓x210_216, ↓x210_219, ↓x210_222, ↓x210_223, ↓x210_225, ↓x210_226, ↓x210_228, ↓x210_231, ↓x210_232, ↓x210_233, ↓x210_235, ↓x210_237, ↓x210_238, ↓x210_241, ↓x210_242, ↓x210_245, ↓x210_246, ↓x210_248, ↓x210_249, ↓x210_250, ↓x210_253, ↓x210_254, ↓x210_256, ↓x210_257, ↓x210_259, ↓x210_260, ↓x210_261, ↓x210_262, ↓x210_265, ↓x210_268, ↓x210_269, ↓x210_270, ↓x210_272, ↓x210_274, ↓x210_275, ↓x210_278, ↓x210_279, ↓x210_282, ↓x210_283, ↓x210_285, ↓x210_286, ↓x210_287, ↓x210_290, ↓x210_291, ↓x210_292, ↓x210_293, ↓x210_296, ↓x210_297, ↓x210_298, ↓x210_301, ↓x210_304, ↓x210_307, evl_e, ↓endQ_e, ↓gI_0, ↓gL_0, ↓gR_0, ↓gI_s, ↓gL_s, ↓gR_s, ↓pI_i, ↓pL_l, ↓pR_r, ↓p1_i, ↓p1_r, ↓pE_e, ↓pN_z, ↓pN_1, ↓pN_2, ↓pN_3, ↓pN_4, ↓pN_5, ↓pN_6, ↓rl_0, ↓rl_1, ↓rl_2, ↓rl_3, ↓rl_4, ↓hdR_r, ↓hdO_r, va_rf_s, sL1_0, sL1_ss, sL1_1i, sL1_1r, sL1_1n, sL1_1l, sL2_0, sL2_ss, sL2_1i, sL2_1r, sL2_1n, sL2_1l, List.getElem?_cons_zero, List.getElem?_cons_succ, Option.toList_some, Option.toList_none, List.cons_append, List.nil_append, Nat.reduceAdd, true_and, and_true, and_self, wA_s, wA_w, ↓reduceIte, ite_self, true_or, or_true, tv, tc, tl, tg, t0, tz, tw, tu, tup, tuL, nI_add, pk_mul, upd_s, tup_s, tuL_s, nI_0, i1, i2, i3, i4, nm1]
      refine Eq.mpr h3 ?_
      exact hQ _ (NR_cj (NR_t (NG_g MG_a) hK) h1 h2)
    rw [if_neg c] at f1 f2 hQ
    by_cases c1 : chT T z i = 40
    · have iz := ch_z c1 (by decide)
      have hl : lookT [(40, 104), (103, 207), (114, 155), (126, 64)] 269 (nI (chT T z i)) = 104 := by rw [c1]; decide
      rw [if_pos c1] at f1 f2 hQ
      by_cases k4 : k = 4
      · rw [if_pos k4] at f1
        exact (rno_1 f1).elim
      have k4' : k < 4 := by omega
      have B : RB z (k + 1) (i + 1) (smR T z (k + 1) (upN o k i) (fac T z x g f (k + 1) (upN o k i)) (i + 1)) := sm_b (by omega) iz (fun j _ h2 => fac_b hx hg f (k + 1) _ j (by omega) h2)
      have S := n_sum (d := d + 4) (L := L) (n := n) (s := s) (T := T) (z := z) (x := x) (g := g) (w := w) (k := k + 1) (o := upN o k i) (F := fac T z x g f (k + 1) (upN o k i)) (i := i + 1) hm (by omega) (by omega) (fun v hv j h1 h2 => ih (k + 1) _ j (d + 4 + 5) v (by omega) (by omega) (by omega) (by omega) h2) (fun j _ h2 => fac_b hx hg f (k + 1) _ j (by omega) h2) iz
      rw [if_neg k4] at f1 f2 hQ
      generalize smR T z (k + 1) (upN o k i) (fac T z x g f (k + 1) (upN o k i)) (i + 1) = r at *
      unfold grR at f1 f2 hQ
      have r1 : ¬ rS r = 1 := fun q => by
        rw [if_pos q] at f1
        exact f1 q
      rw [if_neg r1] at f1 f2 hQ
      by_cases c41 : chT T z (rA r) = 41
      · have fr := fg_c c41 (by decide)
        have rz := ch_z c41 (by decide)
        rw [if_pos c41] at hQ
        have q0 : ∀ l, l < k + 1 → upd (I 468) k (nI i) l = nI (upN o k i l) := fun l hl => by
          unfold upN
          by_cases e : l = k
          · subst e
            rw [upd_s, if_pos rfl]
          · rw [upd_n e, if_neg e]
            exact h.1.2.2.2.2.2.2.2 l (by omega)
        rw [c210]
        simp (disch := first | assumption | omega | decide | (refine kdN ?_; omega) | (refine kdS ?_; omega) | (refine kd_REGS0 ?_; omega) | (refine kd_BOOK_noted0 ?_; omega) | (refine kd_IREGS0 ?_; omega) | (refine kd_IBOOK_noted0 ?_; omega) | (refine kd_SUMS0 ?_; omega) | (refine kd_TERMS0 ?_; omega) | (refine kd_FACT0 ?_; omega) | (simp (disch := omega) only [tw])) only [↓x210_0, ↓x210_1, ↓x210_4, ↓x210_5, ↓x210_6, ↓x210_9, ↓x210_10, ↓x210_11, ↓x210_12, ↓x210_15, ↓x210_16, ↓x210_17, ↓x210_20, ↓x210_21, ↓x210_64, ↓x210_65, ↓x210_66, ↓x210_69, ↓x210_70, ↓x210_72, ↓x210_74, ↓x210_75, ↓x210_78, ↓x210_79, ↓x210_82, ↓x210_83, ↓x210_85, ↓x210_86, ↓x210_87, ↓x210_90, ↓x210_91, ↓x210_93, ↓x210_94, ↓x210_95, ↓x210_96, ↓x210_97, ↓x210_100, ↓x210_103, ↓x210_104, ↓x210_105, ↓x210_108, ↓x210_109, ↓x210_110, ↓x210_113, ↓x210_114, ↓x210_115, ↓x210_116, ↓x210_119, ↓x210_120, ↓x210_121, ↓x210_122, ↓x210_123, ↓x210_127, ↓x210_130, ↓x210_133, ↓x210_134, ↓x210_135, ↓x210_136, ↓x210_139, ↓x210_140, ↓x210_141, ↓x210_144, ↓x210_145, ↓x210_146, ↓x210_149, ↓x210_150, ↓x210_151, ↓x210_154, ↓x210_155, ↓x210_156, ↓x210_158, ↓x210_160, ↓x210_161, ↓x210_164, ↓x210_165, ↓x210_168, ↓x210_169, ↓x210_171, ↓x210_172, ↓x210_173, ↓x210_176, ↓x210_177, ↓x210_178, ↓x210_181, ↓x210_183, ↓x210_184, ↓x210_185, ↓x210_187, ↓x210_188, ↓x210_189, ↓x210_190, ↓x210_193, ↓x210_196, ↓x210_197, ↓x210_198, ↓x210_201, ↓x210_202, ↓x210_203, ↓x210_206, ↓x210_207, ↓x210_208, ↓x210_211, ↓x210_213, ↓x210_214, ↓x210_216, ↓x210_219, ↓x210_222, ↓x210_223, ↓x210_225, ↓x210_226, ↓x210_228, ↓x210_231, ↓x210_232, ↓x210_233, ↓x210_235, ↓x210_237, ↓x210_238, ↓x210_241, ↓x210_242, ↓x210_245, ↓x210_246, ↓x210_248, ↓x210_249, ↓x210_250, ↓x210_253, ↓x210_254, ↓x210_256, ↓x210_257, ↓x210_259, ↓x210_260, ↓x210_261, ↓x210_262, ↓x210_265, ↓x210_268, ↓x210_269, ↓x210_270, ↓x210_272, ↓x210_274, ↓x210_275, ↓x210_278, ↓x210_279, ↓x210_282, ↓x210_283, ↓x210_285, ↓x210_286, ↓x210_287, ↓x210_290, ↓x210_291, ↓x210_292, ↓x210_293, ↓x210_296, ↓x210_297, ↓x210_298, ↓x210_301, ↓x210_304, ↓x210_307, evl_e, ↓endQ_e, ↓gI_0, ↓gL_0, ↓gR_0, ↓gI_s, ↓gL_s, ↓gR_s, ↓pI_i, ↓pL_l, ↓pR_r, ↓p1_i, ↓p1_r, ↓pE_e, ↓pN_z, ↓pN_1, ↓pN_2, ↓pN_3, ↓pN_4, ↓pN_5, ↓pN_6, ↓rl_0, ↓rl_1, ↓rl_2, ↓rl_3, ↓rl_4, ↓hdR_r, ↓hdO_r, va_rf_s, sL1_0, sL1_ss, sL1_1i, sL1_1r, sL1_1n, sL1_1l, sL2_0, sL2_ss, sL2_1i, sL2_1r, sL2_1n, sL2_1l, List.getElem?_cons_zero, List.getElem?_cons_succ, Option.toList_some, Option.toList_none, List.cons_append, List.nil_append, Nat.reduceAdd, true_and, and_true, and_self, wA_s, wA_w, ↓reduceIte, ite_self, true_or, or_true, tv, tc, tl, tg, t0, tz, tw, tu, tup, tuL, nI_add, pk_mul, upd_s, tup_s, tuL_s, nI_0, i1, i2, i3, i4, nm1, kd_454, kd_468, ln_468, m23, ↓m_sign hm h.1, hl, e24, e22, aM_f, aM_n]
        have G0 : ∀ I', (∀ e, ¬ e = 454 → ¬ e = 468 → I' e = I e) → (∀ f, ¬ f = 22 → ¬ f = 24 → I' 454 f = I 454 f) → NG w I I' := fun I' a b => ⟨fun e x y _ _ => a e x y, fun f x y _ => b f x y, fun a' _ => by rw [a 483 (by decide) (by decide)]⟩
        refine S r1 fr _ _ (M2_f (w := w) h (G0 _ (fun e a b => ?_) (fun f a b => ?_)) ?_ ?_ iz ?_ (fun l hl => ?_)) fun K hK => ?_
        · first | (simp (disch := first | assumption | omega) only [wA_s, tw, tu, upd_s, aM_s, aM_o, aM_n, wA_w]; done) | (simp (disch := first | assumption | omega) only [wA_s, tw, tu, upd_s, aM_s, aM_o, aM_n, wA_w]; rfl) | rfl
        · first | (simp (disch := first | assumption | omega) only [wA_s, tw, tu, upd_s, aM_s, aM_o, aM_n, wA_w]; done) | (simp (disch := first | assumption | omega) only [wA_s, tw, tu, upd_s, aM_s, aM_o, aM_n, wA_w]; rfl) | rfl
        · rw [tw (by decide), wA_s, tu (by decide), aM_n (by decide)]
          exact e28
        · first | (simp (disch := first | assumption | omega) only [wA_s, tw, tu, upd_s, aM_s, aM_o, aM_n, wA_w]; done) | (simp (disch := first | assumption | omega) only [wA_s, tw, tu, upd_s, aM_s, aM_o, aM_n, wA_w]; rfl) | rfl
        · first | (simp (disch := first | assumption | omega) only [wA_s, tw, tu, upd_s, aM_s, aM_o, aM_n, wA_w]; done) | (simp (disch := first | assumption | omega) only [wA_s, tw, tu, upd_s, aM_s, aM_o, aM_n, wA_w]; rfl) | rfl
        · rw [wA_s]
          exact q0 l hl
        have hG : NG w I K := NG_t (G0 _ (fun e a b => by first | (simp (disch := first | assumption | omega) only [wA_s, tw, tu, upd_s, aM_s, aM_o, aM_n, wA_w]; done) | (simp (disch := first | assumption | omega) only [wA_s, tw, tu, upd_s, aM_s, aM_o, aM_n, wA_w]; rfl) | rfl) (fun f a b => by first | (simp (disch := first | assumption | omega) only [wA_s, tw, tu, upd_s, aM_s, aM_o, aM_n, wA_w]; done) | (simp (disch := first | assumption | omega) only [wA_s, tw, tu, upd_s, aM_s, aM_o, aM_n, wA_w]; rfl) | rfl)) hK.1
        by_cases r0 : rS r = 0
        · obtain ⟨k28, k22, k24, k68, kv⟩ := hK.2.1 r0
          have nk : nI (k + 1) - 1 = nI k := nm1 (a := k + 1) (by omega)
          simp (disch := first | assumption | omega | decide | (refine kdN ?_; omega) | (refine kdS ?_; omega) | (refine kd_REGS0 ?_; omega) | (refine kd_BOOK_noted0 ?_; omega) | (refine kd_IREGS0 ?_; omega) | (refine kd_IBOOK_noted0 ?_; omega) | (refine kd_SUMS0 ?_; omega) | (refine kd_TERMS0 ?_; omega) | (refine kd_FACT0 ?_; omega) | (simp (disch := omega) only [tw])) only [↓x210_1, ↓x210_4, ↓x210_5, ↓x210_6, ↓x210_9, ↓x210_10, ↓x210_11, ↓x210_12, ↓x210_15, ↓x210_16, ↓x210_17, ↓x210_20, ↓x210_21, ↓x210_64, ↓x210_65, ↓x210_66, ↓x210_69, ↓x210_70, ↓x210_72, ↓x210_74, ↓x210_75, ↓x210_78, ↓x210_79, ↓x210_82, ↓x210_83, ↓x210_85, ↓x210_86, ↓x210_87, ↓x210_90, ↓x210_91, ↓x210_93, ↓x210_94, ↓x210_95, ↓x210_96, ↓x210_97, ↓x210_100, ↓x210_103, ↓x210_104, ↓x210_105, ↓x210_108, ↓x210_109, ↓x210_110, ↓x210_113, ↓x210_114, ↓x210_115, ↓x210_116, ↓x210_119, ↓x210_120, ↓x210_121, ↓x210_122, ↓x210_123, ↓x210_126, ↓x210_127, ↓x210_130, ↓x210_133, ↓x210_134, ↓x210_135, ↓x210_136, ↓x210_139, ↓x210_140, ↓x210_141, ↓x210_144, ↓x210_145, ↓x210_146, ↓x210_149, ↓x210_150, ↓x210_151, ↓x210_154, ↓x210_155, ↓x210_156, ↓x210_158, ↓x210_160, ↓x210_161, ↓x210_164, ↓x210_165, ↓x210_168, ↓x210_169, ↓x210_171, ↓x210_172, ↓x210_173, ↓x210_176, ↓x210_177, ↓x210_178, ↓x210_181, ↓x210_183, ↓x210_184, ↓x210_185, ↓x210_187, ↓x210_188, ↓x210_189, ↓x210_190, ↓x210_193, ↓x210_196, ↓x210_197, ↓x210_198, ↓x210_201, ↓x210_202, ↓x210_203, ↓x210_206, ↓x210_207, ↓x210_208, ↓x210_211, ↓x210_213, ↓x210_214, ↓x210_216, ↓x210_219, ↓x210_222, ↓x210_223, ↓x210_225, ↓x210_226, ↓x210_228, ↓x210_231, ↓x210_232, ↓x210_233, ↓x210_235, ↓x210_237, ↓x210_238, ↓x210_241, ↓x210_242, ↓x210_245, ↓x210_246, ↓x210_248, ↓x210_249, ↓x210_250, ↓x210_253, ↓x210_254, ↓x210_256, ↓x210_257, ↓x210_259, ↓x210_260, ↓x210_261, ↓x210_262, ↓x210_265, ↓x210_268, ↓x210_269, ↓x210_270, ↓x210_272, ↓x210_274, ↓x210_275, ↓x210_278, ↓x210_279, ↓x210_282, ↓x210_283, ↓x210_285, ↓x210_286, ↓x210_287, ↓x210_290, ↓x210_291, ↓x210_292, ↓x210_293, ↓x210_296, ↓x210_297, ↓x210_298, ↓x210_301, ↓x210_304, ↓x210_307, evl_e, ↓endQ_e, ↓gI_0, ↓gL_0, ↓gR_0, ↓gI_s, ↓gL_s, ↓gR_s, ↓pI_i, ↓pL_l, ↓pR_r, ↓p1_i, ↓p1_r, ↓pE_e, ↓pN_z, ↓pN_1, ↓pN_2, ↓pN_3, ↓pN_4, ↓pN_5, ↓pN_6, ↓rl_0, ↓rl_1, ↓rl_2, ↓rl_3, ↓rl_4, ↓hdR_r, ↓hdO_r, va_rf_s, sL1_0, sL1_ss, sL1_1i, sL1_1r, sL1_1n, sL1_1l, sL2_0, sL2_ss, sL2_1i, sL2_1r, sL2_1n, sL2_1l, List.getElem?_cons_zero, List.getElem?_cons_succ, Option.toList_some, Option.toList_none, List.cons_append, List.nil_append, Nat.reduceAdd, true_and, and_true, and_self, wA_s, wA_w, ↓reduceIte, ite_self, true_or, or_true, tv, tc, tl, tg, t0, tz, tw, tu, tup, tuL, nI_add, pk_mul, upd_s, tup_s, tuL_s, nI_0, i1, i2, i3, i4, nm1, kd_454, k28, k24, k22, nk]
          refine hQ _ ⟨NG_4 hG (fun f a b c => ?_), fun _ => ⟨?_, ?_, ?_, fun j hj => ?_, fun l hl => ?_⟩, fun q => absurd r0 q⟩
          · rw [tu a, tu b]
            exact hG.2.1 f a b c
          · rw [wA_s, tu (by decide), tu (by decide)]; exact k28
          · rw [wA_s, upd_s]; rfl
          · rw [wA_s, tu (by decide), upd_s]
          · rw [tw (by decide), k68 j (by omega)]
            unfold upN
            rw [if_neg (by omega)]
          · rw [tw (by decide)]; exact kv l hl
        · obtain ⟨k28, k29, k30, k24, k68⟩ := hK.2.2 r0
          have c0 : ¬ cod r = 0 := cod_0
          simp (disch := first | assumption | omega | decide | (refine kdN ?_; omega) | (refine kdS ?_; omega) | (refine kd_REGS0 ?_; omega) | (refine kd_BOOK_noted0 ?_; omega) | (refine kd_IREGS0 ?_; omega) | (refine kd_IBOOK_noted0 ?_; omega) | (refine kd_SUMS0 ?_; omega) | (refine kd_TERMS0 ?_; omega) | (refine kd_FACT0 ?_; omega) | (simp (disch := omega) only [tw])) only [↓x210_1, ↓x210_4, ↓x210_5, ↓x210_6, ↓x210_9, ↓x210_10, ↓x210_11, ↓x210_12, ↓x210_15, ↓x210_16, ↓x210_17, ↓x210_20, ↓x210_21, ↓x210_64, ↓x210_65, ↓x210_66, ↓x210_69, ↓x210_70, ↓x210_72, ↓x210_74, ↓x210_75, ↓x210_78, ↓x210_79, ↓x210_82, ↓x210_83, ↓x210_85, ↓x210_86, ↓x210_87, ↓x210_90, ↓x210_91, ↓x210_93, ↓x210_94, ↓x210_95, ↓x210_96, ↓x210_97, ↓x210_100, ↓x210_103, ↓x210_104, ↓x210_105, ↓x210_108, ↓x210_109, ↓x210_110, ↓x210_113, ↓x210_114, ↓x210_115, ↓x210_116, ↓x210_119, ↓x210_120, ↓x210_121, ↓x210_122, ↓x210_123, ↓x210_126, ↓x210_127, ↓x210_130, ↓x210_133, ↓x210_134, ↓x210_135, ↓x210_136, ↓x210_139, ↓x210_140, ↓x210_141, ↓x210_144, ↓x210_145, ↓x210_146, ↓x210_149, ↓x210_150, ↓x210_151, ↓x210_154, ↓x210_155, ↓x210_156, ↓x210_158, ↓x210_160, ↓x210_161, ↓x210_164, ↓x210_165, ↓x210_168, ↓x210_169, ↓x210_171, ↓x210_172, ↓x210_173, ↓x210_176, ↓x210_177, ↓x210_178, ↓x210_181, ↓x210_183, ↓x210_184, ↓x210_185, ↓x210_187, ↓x210_188, ↓x210_189, ↓x210_190, ↓x210_193, ↓x210_196, ↓x210_197, ↓x210_198, ↓x210_201, ↓x210_202, ↓x210_203, ↓x210_206, ↓x210_207, ↓x210_208, ↓x210_211, ↓x210_213, ↓x210_214, ↓x210_216, ↓x210_219, ↓x210_222, ↓x210_223, ↓x210_225, ↓x210_226, ↓x210_228, ↓x210_231, ↓x210_232, ↓x210_233, ↓x210_235, ↓x210_237, ↓x210_238, ↓x210_241, ↓x210_242, ↓x210_245, ↓x210_246, ↓x210_248, ↓x210_249, ↓x210_250, ↓x210_253, ↓x210_254, ↓x210_256, ↓x210_257, ↓x210_259, ↓x210_260, ↓x210_261, ↓x210_262, ↓x210_265, ↓x210_268, ↓x210_269, ↓x210_270, ↓x210_272, ↓x210_274, ↓x210_275, ↓x210_278, ↓x210_279, ↓x210_282, ↓x210_283, ↓x210_285, ↓x210_286, ↓x210_287, ↓x210_290, ↓x210_291, ↓x210_292, ↓x210_293, ↓x210_296, ↓x210_297, ↓x210_298, ↓x210_301, ↓x210_304, ↓x210_307, evl_e, ↓endQ_e, ↓gI_0, ↓gL_0, ↓gR_0, ↓gI_s, ↓gL_s, ↓gR_s, ↓pI_i, ↓pL_l, ↓pR_r, ↓p1_i, ↓p1_r, ↓pE_e, ↓pN_z, ↓pN_1, ↓pN_2, ↓pN_3, ↓pN_4, ↓pN_5, ↓pN_6, ↓rl_0, ↓rl_1, ↓rl_2, ↓rl_3, ↓rl_4, ↓hdR_r, ↓hdO_r, va_rf_s, sL1_0, sL1_ss, sL1_1i, sL1_1r, sL1_1n, sL1_1l, sL2_0, sL2_ss, sL2_1i, sL2_1r, sL2_1n, sL2_1l, List.getElem?_cons_zero, List.getElem?_cons_succ, Option.toList_some, Option.toList_none, List.cons_append, List.nil_append, Nat.reduceAdd, true_and, and_true, and_self, wA_s, wA_w, ↓reduceIte, ite_self, true_or, or_true, tv, tc, tl, tg, t0, tz, tw, tu, tup, tuL, nI_add, pk_mul, upd_s, tup_s, tuL_s, nI_0, i1, i2, i3, i4, nm1, kd_454, k28, c0]
          exact hQ K ⟨hG, fun q => absurd q r0, fun _ => ⟨k28, k29, k30, k24, k68⟩⟩
      · rw [if_neg c41] at f1
        exact (rno_1 f1).elim
    rw [if_neg c1] at f1 f2 hQ
    by_cases c2 : chT T z i = 114
    · have iz : i + 1 ≤ z := ch_z c2 (by decide)
      have hl : lookT [(40, 104), (103, 207), (114, 155), (126, 64)] 269 (nI (chT T z i)) = 155 := by rw [c2]; decide
      rw [if_pos c2] at f1 f2 hQ
      by_cases q : 48 ≤ chT T z (i + 1) ∧ chT T z (i + 1) ≤ 53
      · have iz2 : i + 1 < z := ch_z (c := chT T z (i + 1)) rfl (by omega)
        have h1 := M2_a h iz
        have a := nr_all (d := d + 10) (L := L) (P := P) (n := n) (s := s) (Q := Q) (w := w) (r := chT T z (i + 1) - 48) (c := nI (chT T z i)) (p := nI i) (v5 := .null) hm h1.1 (by omega) (by omega) w64
        rw [if_pos q] at hQ
        rw [c210]
        simp (disch := first | assumption | omega | decide | (refine kdN ?_; omega) | (refine kdS ?_; omega) | (refine kd_REGS0 ?_; omega) | (refine kd_BOOK_noted0 ?_; omega) | (refine kd_IREGS0 ?_; omega) | (refine kd_IBOOK_noted0 ?_; omega) | (refine kd_SUMS0 ?_; omega) | (refine kd_TERMS0 ?_; omega) | (refine kd_FACT0 ?_; omega) | (simp (disch := omega) only [tw])) only [↓x210_0, ↓x210_1, ↓x210_4, ↓x210_5, ↓x210_6, ↓x210_9, ↓x210_10, ↓x210_11, ↓x210_12, ↓x210_15, ↓x210_16, ↓x210_17, ↓x210_20, ↓x210_21, ↓x210_64, ↓x210_65, ↓x210_66, ↓x210_69, ↓x210_70, ↓x210_72, ↓x210_74, ↓x210_75, ↓x210_78, ↓x210_79, ↓x210_82, ↓x210_83, ↓x210_85, ↓x210_86, ↓x210_87, ↓x210_90, ↓x210_91, ↓x210_93, ↓x210_94, ↓x210_95, ↓x210_96, ↓x210_97, ↓x210_100, ↓x210_103, ↓x210_104, ↓x210_105, ↓x210_108, ↓x210_109, ↓x210_110, ↓x210_113, ↓x210_114, ↓x210_115, ↓x210_116, ↓x210_119, ↓x210_120, ↓x210_121, ↓x210_122, ↓x210_123, ↓x210_126, ↓x210_127, ↓x210_130, ↓x210_133, ↓x210_134, ↓x210_135, ↓x210_136, ↓x210_139, ↓x210_140, ↓x210_141, ↓x210_144, ↓x210_145, ↓x210_146, ↓x210_149, ↓x210_150, ↓x210_151, ↓x210_154, ↓x210_155, ↓x210_156, ↓x210_160, ↓x210_161, ↓x210_164, ↓x210_165, ↓x210_168, ↓x210_169, ↓x210_171, ↓x210_172, ↓x210_173, ↓x210_176, ↓x210_177, ↓x210_178, ↓x210_181, ↓x210_183, ↓x210_184, ↓x210_185, ↓x210_187, ↓x210_188, ↓x210_189, ↓x210_190, ↓x210_193, ↓x210_196, ↓x210_197, ↓x210_198, ↓x210_201, ↓x210_202, ↓x210_203, ↓x210_206, ↓x210_207, ↓x210_208, ↓x210_211, ↓x210_213, ↓x210_214, ↓x210_216, ↓x210_219, ↓x210_222, ↓x210_223, ↓x210_225, ↓x210_226, ↓x210_228, ↓x210_231, ↓x210_232, ↓x210_233, ↓x210_235, ↓x210_237, ↓x210_238, ↓x210_241, ↓x210_242, ↓x210_245, ↓x210_246, ↓x210_248, ↓x210_249, ↓x210_250, ↓x210_253, ↓x210_254, ↓x210_256, ↓x210_257, ↓x210_259, ↓x210_260, ↓x210_261, ↓x210_262, ↓x210_265, ↓x210_268, ↓x210_269, ↓x210_270, ↓x210_272, ↓x210_274, ↓x210_275, ↓x210_278, ↓x210_279, ↓x210_282, ↓x210_283, ↓x210_285, ↓x210_286, ↓x210_287, ↓x210_290, ↓x210_291, ↓x210_292, ↓x210_293, ↓x210_296, ↓x210_297, ↓x210_298, ↓x210_301, ↓x210_304, ↓x210_307, evl_e, ↓endQ_e, ↓gI_0, ↓gL_0, ↓gR_0, ↓gI_s, ↓gL_s, ↓gR_s, ↓pI_i, ↓pL_l, ↓pR_r, ↓p1_i, ↓p1_r, ↓pE_e, ↓pN_z, ↓pN_1, ↓pN_2, ↓pN_3, ↓pN_4, ↓pN_5, ↓pN_6, ↓rl_0, ↓rl_1, ↓rl_2, ↓rl_3, ↓rl_4, ↓hdR_r, ↓hdO_r, va_rf_s, sL1_0, sL1_ss, sL1_1i, sL1_1r, sL1_1n, sL1_1l, sL2_0, sL2_ss, sL2_1i, sL2_1r, sL2_1n, sL2_1l, List.getElem?_cons_zero, List.getElem?_cons_succ, Option.toList_some, Option.toList_none, List.cons_append, List.nil_append, Nat.reduceAdd, true_and, and_true, and_self, wA_s, wA_w, ↓reduceIte, ite_self, true_or, or_true, tv, tc, tl, tg, t0, tz, tw, tu, tup, tuL, nI_add, pk_mul, upd_s, tup_s, tuL_s, nI_0, i1, i2, i3, i4, nm1, kd_454, ↓m_sign hm h.1, hl, e22, aM_f]
        refine Eq.mpr a ?_
        refine hQ _ ⟨NG_t (NG_w (NG_g MG_a) (fun a ha => ?_)) (NG_g MG_a), fun _ => ⟨?_, ?_, ?_, fun j hj => ?_, fun l hl => ?_⟩, fun q => absurd (show (0 : Nat) = 0 from rfl) q⟩
        · rw [u4_n ha, aM_o (by decide)]
        · rw [aM_n (by decide), tw (by decide), aM_n (by decide)]; exact e28
        · exact aM_s
        · rw [aM_n (by decide), tw (by decide), aM_n (by decide)]; exact e24
        · rw [aM_o (by decide), tw (by decide), aM_o (by decide)]; exact h.1.2.2.2.2.2.2.2 j hj
        · rw [aM_o (by decide), wA_s, u4_l l hl]
          show aM I (i + 1) 455 _ = g _ l
          rw [aM_o (by decide)]
          exact h.2.2.2.1 _ (by omega) l hl
      · rw [if_neg q] at f1
        exact (rno_1 f1).elim
    rw [if_neg c2] at f1 f2 hQ
    by_cases c3 : chT T z i = 103
    · have iz : i + 1 ≤ z := ch_z c3 (by decide)
      have hl : lookT [(40, 104), (103, 207), (114, 155), (126, 64)] 269 (nI (chT T z i)) = 207 := by rw [c3]; decide
      have h1 := M2_a h iz
      rw [if_pos c3] at f1 f2 hQ
      by_cases q : fgT T z (i + 1) = true
      · have fq := fg_z q
        have sg0 : sgT T z (i + 1) = 0 := if_neg (by omega)
        have eb := ndt_b (T := T) (z := z) 2 (i + 1) iz
        rw [if_pos q] at f1 f2 hQ
        have fe : fgT T z (i + 1 + ndT T z 2 (i + 1)) = false := by
          by_cases w' : nvT T z 2 (i + 1) 0 < sN x
          · rw [if_pos w'] at f2; exact f2
          · rw [if_neg w'] at f2; exact f2
        have nh := fun Q => m_nh (d := d + 7) (L := L) (P := P) (n := n) (s := s) (Q := Q) (m := 2) hm h1.1 (by rw [sg0]; exact fe)
        have nt : numM T z 2 (i + 1) = nI (nvT T z 2 (i + 1) 0) := by
          unfold numM
          rw [if_neg (by omega), sg0]
        have nb := nv_b (T := T) (z := z) 2 (i + 1) 0
        rw [nt, sg0, aM_a] at nh
        have nh : ∀ Q, Call (d + 11) 206 [.ref 454] (aM I (i + 1), L, P, n, s) Q = Q (some (.int (nI (nvT T z 2 (i + 1) 0)))) (aM I (i + 1 + ndT T z 2 (i + 1)), L, P, n, s) := nh
        generalize i + 1 + ndT T z 2 (i + 1) = e at *
        generalize nvT T z 2 (i + 1) 0 = v at *
        have hs30 := sN_b x hx
        have e6 : aM I e 454 6 = nI (sN x) := by rw [aM_n (by decide)]; exact h.2.2.2.2.1
        have bz : btwI (nI v) 0 (nI (sN x - 1)) = rng (nI v) (nI (sN x)) := b_0y (by omega) (by omega)
        by_cases w' : v < sN x
        · have rg := rng_t (k := v) (N := sN x) (by omega) w'
          have a := ng_all (d := d + 11) (I := aM I e) (L := L) (P := P) (n := n) (s := s) (Q := Q) (w := w) (r := v) (c := nI (chT T z i)) (p := nI i) hm (by omega) w64
          rw [if_pos w'] at hQ
          rw [c210]
          simp (disch := first | assumption | omega | decide | (refine kdN ?_; omega) | (refine kdS ?_; omega) | (refine kd_REGS0 ?_; omega) | (refine kd_BOOK_noted0 ?_; omega) | (refine kd_IREGS0 ?_; omega) | (refine kd_IBOOK_noted0 ?_; omega) | (refine kd_SUMS0 ?_; omega) | (refine kd_TERMS0 ?_; omega) | (refine kd_FACT0 ?_; omega) | (simp (disch := omega) only [tw])) only [↓x210_0, ↓x210_1, ↓x210_4, ↓x210_5, ↓x210_6, ↓x210_9, ↓x210_10, ↓x210_11, ↓x210_12, ↓x210_15, ↓x210_16, ↓x210_17, ↓x210_20, ↓x210_21, ↓x210_64, ↓x210_65, ↓x210_66, ↓x210_69, ↓x210_70, ↓x210_72, ↓x210_74, ↓x210_75, ↓x210_78, ↓x210_79, ↓x210_82, ↓x210_83, ↓x210_85, ↓x210_86, ↓x210_87, ↓x210_90, ↓x210_91, ↓x210_93, ↓x210_94, ↓x210_95, ↓x210_96, ↓x210_97, ↓x210_100, ↓x210_103, ↓x210_104, ↓x210_105, ↓x210_108, ↓x210_109, ↓x210_110, ↓x210_113, ↓x210_114, ↓x210_115, ↓x210_116, ↓x210_119, ↓x210_120, ↓x210_121, ↓x210_122, ↓x210_123, ↓x210_126, ↓x210_127, ↓x210_130, ↓x210_133, ↓x210_134, ↓x210_135, ↓x210_136, ↓x210_139, ↓x210_140, ↓x210_141, ↓x210_144, ↓x210_145, ↓x210_146, ↓x210_149, ↓x210_150, ↓x210_151, ↓x210_154, ↓x210_155, ↓x210_156, ↓x210_158, ↓x210_160, ↓x210_161, ↓x210_164, ↓x210_165, ↓x210_168, ↓x210_169, ↓x210_171, ↓x210_172, ↓x210_173, ↓x210_176, ↓x210_177, ↓x210_178, ↓x210_181, ↓x210_183, ↓x210_184, ↓x210_185, ↓x210_187, ↓x210_188, ↓x210_189, ↓x210_190, ↓x210_193, ↓x210_196, ↓x210_197, ↓x210_198, ↓x210_201, ↓x210_202, ↓x210_203, ↓x210_206, ↓x210_207, ↓x210_208, ↓x210_211, ↓x210_213, ↓x210_214, ↓x210_216, ↓x210_219, ↓x210_222, ↓x210_223, ↓x210_225, ↓x210_226, ↓x210_228, ↓x210_231, ↓x210_232, ↓x210_233, ↓x210_237, ↓x210_238, ↓x210_241, ↓x210_242, ↓x210_245, ↓x210_246, ↓x210_248, ↓x210_249, ↓x210_250, ↓x210_253, ↓x210_254, ↓x210_256, ↓x210_257, ↓x210_259, ↓x210_260, ↓x210_261, ↓x210_262, ↓x210_265, ↓x210_268, ↓x210_269, ↓x210_270, ↓x210_272, ↓x210_274, ↓x210_275, ↓x210_278, ↓x210_279, ↓x210_282, ↓x210_283, ↓x210_285, ↓x210_286, ↓x210_287, ↓x210_290, ↓x210_291, ↓x210_292, ↓x210_293, ↓x210_296, ↓x210_297, ↓x210_298, ↓x210_301, ↓x210_304, ↓x210_307, evl_e, ↓endQ_e, ↓gI_0, ↓gL_0, ↓gR_0, ↓gI_s, ↓gL_s, ↓gR_s, ↓pI_i, ↓pL_l, ↓pR_r, ↓p1_i, ↓p1_r, ↓pE_e, ↓pN_z, ↓pN_1, ↓pN_2, ↓pN_3, ↓pN_4, ↓pN_5, ↓pN_6, ↓rl_0, ↓rl_1, ↓rl_2, ↓rl_3, ↓rl_4, ↓hdR_r, ↓hdO_r, va_rf_s, sL1_0, sL1_ss, sL1_1i, sL1_1r, sL1_1n, sL1_1l, sL2_0, sL2_ss, sL2_1i, sL2_1r, sL2_1n, sL2_1l, List.getElem?_cons_zero, List.getElem?_cons_succ, Option.toList_some, Option.toList_none, List.cons_append, List.nil_append, Nat.reduceAdd, true_and, and_true, and_self, wA_s, wA_w, ↓reduceIte, ite_self, true_or, or_true, tv, tc, tl, tg, t0, tz, tw, tu, tup, tuL, nI_add, pk_mul, upd_s, tup_s, tuL_s, nI_0, i1, i2, i3, i4, nm1, kd_454, ↓m_sign hm h.1, hl, e22, aM_f, ↓nh, ↓m_isS2, e6, bz, rg, bI_t, e_10]
          refine Eq.mpr a ?_
          refine hQ _ ⟨NG_w (NG_g MG_a) (fun a ha => ?_), fun _ => ⟨?_, ?_, ?_, fun j hj => ?_, fun l hl => ?_⟩, fun q => absurd (show (0 : Nat) = 0 from rfl) q⟩
          · rw [u4_n ha, aM_o (by decide)]
          · rw [tw (by decide), aM_n (by decide)]; exact e28
          · rw [tw (by decide)]; exact aM_s
          · rw [tw (by decide), aM_n (by decide)]; exact e24
          · rw [tw (by decide), aM_o (by decide)]; exact h.1.2.2.2.2.2.2.2 j hj
          · rw [wA_s, u4_l l hl]
            show aM I e 456 _ = stV x v l
            rw [aM_o (by decide)]
            exact h.2.2.2.2.2 v w' l hl
        · have rg := rng_fN (a := v) (N := sN x) w' (by omega) (by omega)
          rw [if_neg w'] at hQ
          rw [c210]
          simp (disch := first | assumption | omega | decide | (refine kdN ?_; omega) | (refine kdS ?_; omega) | (refine kd_REGS0 ?_; omega) | (refine kd_BOOK_noted0 ?_; omega) | (refine kd_IREGS0 ?_; omega) | (refine kd_IBOOK_noted0 ?_; omega) | (refine kd_SUMS0 ?_; omega) | (refine kd_TERMS0 ?_; omega) | (refine kd_FACT0 ?_; omega) | (simp (disch := omega) only [tw])) only [↓x210_0, ↓x210_1, ↓x210_4, ↓x210_5, ↓x210_6, ↓x210_9, ↓x210_10, ↓x210_11, ↓x210_12, ↓x210_15, ↓x210_16, ↓x210_17, ↓x210_20, ↓x210_21, ↓x210_64, ↓x210_65, ↓x210_66, ↓x210_69, ↓x210_70, ↓x210_72, ↓x210_74, ↓x210_75, ↓x210_78, ↓x210_79, ↓x210_82, ↓x210_83, ↓x210_85, ↓x210_86, ↓x210_87, ↓x210_90, ↓x210_91, ↓x210_93, ↓x210_94, ↓x210_95, ↓x210_96, ↓x210_97, ↓x210_100, ↓x210_103, ↓x210_104, ↓x210_105, ↓x210_108, ↓x210_109, ↓x210_110, ↓x210_113, ↓x210_114, ↓x210_115, ↓x210_116, ↓x210_119, ↓x210_120, ↓x210_121, ↓x210_122, ↓x210_123, ↓x210_126, ↓x210_127, ↓x210_130, ↓x210_133, ↓x210_134, ↓x210_135, ↓x210_136, ↓x210_139, ↓x210_140, ↓x210_141, ↓x210_144, ↓x210_145, ↓x210_146, ↓x210_149, ↓x210_150, ↓x210_151, ↓x210_154, ↓x210_155, ↓x210_156, ↓x210_158, ↓x210_160, ↓x210_161, ↓x210_164, ↓x210_165, ↓x210_168, ↓x210_169, ↓x210_171, ↓x210_172, ↓x210_173, ↓x210_176, ↓x210_177, ↓x210_178, ↓x210_181, ↓x210_183, ↓x210_184, ↓x210_185, ↓x210_187, ↓x210_188, ↓x210_189, ↓x210_190, ↓x210_193, ↓x210_196, ↓x210_197, ↓x210_198, ↓x210_201, ↓x210_202, ↓x210_203, ↓x210_206, ↓x210_207, ↓x210_208, ↓x210_211, ↓x210_213, ↓x210_214, ↓x210_216, ↓x210_219, ↓x210_222, ↓x210_223, ↓x210_225, ↓x210_226, ↓x210_228, ↓x210_231, ↓x210_232, ↓x210_233, ↓x210_237, ↓x210_238, ↓x210_241, ↓x210_242, ↓x210_245, ↓x210_246, ↓x210_248, ↓x210_249, ↓x210_250, ↓x210_253, ↓x210_254, ↓x210_256, ↓x210_257, ↓x210_259, ↓x210_260, ↓x210_261, ↓x210_262, ↓x210_265, ↓x210_268, ↓x210_269, ↓x210_270, ↓x210_272, ↓x210_274, ↓x210_275, ↓x210_278, ↓x210_279, ↓x210_282, ↓x210_283, ↓x210_285, ↓x210_286, ↓x210_287, ↓x210_290, ↓x210_291, ↓x210_292, ↓x210_293, ↓x210_296, ↓x210_297, ↓x210_298, ↓x210_301, ↓x210_304, ↓x210_307, evl_e, ↓endQ_e, ↓gI_0, ↓gL_0, ↓gR_0, ↓gI_s, ↓gL_s, ↓gR_s, ↓pI_i, ↓pL_l, ↓pR_r, ↓p1_i, ↓p1_r, ↓pE_e, ↓pN_z, ↓pN_1, ↓pN_2, ↓pN_3, ↓pN_4, ↓pN_5, ↓pN_6, ↓rl_0, ↓rl_1, ↓rl_2, ↓rl_3, ↓rl_4, ↓hdR_r, ↓hdO_r, va_rf_s, sL1_0, sL1_ss, sL1_1i, sL1_1r, sL1_1n, sL1_1l, sL2_0, sL2_ss, sL2_1i, sL2_1r, sL2_1n, sL2_1l, List.getElem?_cons_zero, List.getElem?_cons_succ, Option.toList_some, Option.toList_none, List.cons_append, List.nil_append, Nat.reduceAdd, true_and, and_true, and_self, wA_s, wA_w, ↓reduceIte, ite_self, true_or, or_true, tv, tc, tl, tg, t0, tz, tw, tu, tup, tuL, nI_add, pk_mul, upd_s, tup_s, tuL_s, nI_0, i1, i2, i3, i4, nm1, kd_454, ↓m_sign hm h.1, hl, e22, aM_f, ↓nh, ↓m_isS2, e6, bz, rg, bI_f, ↓m_fails]
          refine hQ _ ⟨NG_4 (NG_g MG_a) (fun f a b c => ?_), fun q => absurd (show (4 : Nat) = 0 from q) (by decide), fun _ => ⟨?_, ?_, ?_, ?_, fun j hj => ?_⟩⟩
          · rw [tu (by omega), tu (by omega), tu (by omega), aM_n a]
          · rw [wA_s, tu (by decide), tu (by decide), upd_s]; rfl
          · rw [wA_s, tu (by decide), upd_s]; rfl
          · rw [wA_s, upd_s]; rfl
          · rw [wA_s, tu (by decide), tu (by decide), tu (by decide), aM_n (by decide)]; exact e24
          · rw [tw (by decide), aM_o (by decide)]; exact h.1.2.2.2.2.2.2.2 j hj
      · rw [if_neg q] at f1
        exact (rno_1 f1).elim
    rw [if_neg c3] at f1 f2 hQ
    by_cases c4 : chT T z i = 91
    · have iz : i + 1 ≤ z := ch_z c4 (by decide)
      have hl : lookT [(40, 104), (103, 207), (114, 155), (126, 64)] 269 (nI (chT T z i)) = 269 := by rw [c4]; decide
      rw [if_pos c4] at f1 f2 hQ
      have nx := nl_l (d := d + 6) (L := L) (P := P) (n := n) (s := s) (Q := Q) (c := nI (chT T z i)) (p := nI i) (v5 := .null) hm w64 4 i (fun _ => 0) 0 (aM I (i + 1)) rfl f1 (M2_a h iz) (fun l hl => absurd hl (Nat.not_lt_zero l)) (fun J hJ => hQ J (NR_t (NG_g MG_a) hJ))
      rw [nI_0] at nx
      rw [c210]
      simp (disch := first | assumption | omega | decide | (refine kdN ?_; omega) | (refine kdS ?_; omega) | (refine kd_REGS0 ?_; omega) | (refine kd_BOOK_noted0 ?_; omega) | (refine kd_IREGS0 ?_; omega) | (refine kd_IBOOK_noted0 ?_; omega) | (refine kd_SUMS0 ?_; omega) | (refine kd_TERMS0 ?_; omega) | (refine kd_FACT0 ?_; omega) | (simp (disch := omega) only [tw])) only [↓x210_0, ↓x210_1, ↓x210_4, ↓x210_5, ↓x210_6, ↓x210_9, ↓x210_10, ↓x210_11, ↓x210_12, ↓x210_15, ↓x210_16, ↓x210_17, ↓x210_20, ↓x210_21, ↓x210_64, ↓x210_65, ↓x210_66, ↓x210_69, ↓x210_70, ↓x210_72, ↓x210_74, ↓x210_75, ↓x210_78, ↓x210_79, ↓x210_82, ↓x210_83, ↓x210_85, ↓x210_86, ↓x210_87, ↓x210_90, ↓x210_91, ↓x210_93, ↓x210_94, ↓x210_95, ↓x210_96, ↓x210_97, ↓x210_100, ↓x210_103, ↓x210_104, ↓x210_105, ↓x210_108, ↓x210_109, ↓x210_110, ↓x210_113, ↓x210_114, ↓x210_115, ↓x210_116, ↓x210_119, ↓x210_120, ↓x210_121, ↓x210_122, ↓x210_123, ↓x210_126, ↓x210_127, ↓x210_130, ↓x210_133, ↓x210_134, ↓x210_135, ↓x210_136, ↓x210_139, ↓x210_140, ↓x210_141, ↓x210_144, ↓x210_145, ↓x210_146, ↓x210_149, ↓x210_150, ↓x210_151, ↓x210_154, ↓x210_155, ↓x210_156, ↓x210_158, ↓x210_160, ↓x210_161, ↓x210_164, ↓x210_165, ↓x210_168, ↓x210_169, ↓x210_171, ↓x210_172, ↓x210_173, ↓x210_176, ↓x210_177, ↓x210_178, ↓x210_181, ↓x210_183, ↓x210_184, ↓x210_185, ↓x210_187, ↓x210_188, ↓x210_189, ↓x210_190, ↓x210_193, ↓x210_196, ↓x210_197, ↓x210_198, ↓x210_201, ↓x210_202, ↓x210_203, ↓x210_206, ↓x210_207, ↓x210_208, ↓x210_211, ↓x210_213, ↓x210_214, ↓x210_216, ↓x210_219, ↓x210_222, ↓x210_223, ↓x210_225, ↓x210_226, ↓x210_228, ↓x210_231, ↓x210_232, ↓x210_233, ↓x210_235, ↓x210_237, ↓x210_238, ↓x210_241, ↓x210_242, ↓x210_245, ↓x210_246, ↓x210_248, ↓x210_249, ↓x210_250, ↓x210_253, ↓x210_254, ↓x210_256, ↓x210_257, ↓x210_259, ↓x210_260, ↓x210_261, ↓x210_262, ↓x210_265, ↓x210_268, ↓x210_269, ↓x210_270, ↓x210_274, ↓x210_275, ↓x210_278, ↓x210_279, ↓x210_282, ↓x210_283, ↓x210_285, ↓x210_286, ↓x210_287, ↓x210_290, ↓x210_291, ↓x210_292, ↓x210_293, ↓x210_296, ↓x210_297, ↓x210_298, ↓x210_301, ↓x210_304, ↓x210_307, evl_e, ↓endQ_e, ↓gI_0, ↓gL_0, ↓gR_0, ↓gI_s, ↓gL_s, ↓gR_s, ↓pI_i, ↓pL_l, ↓pR_r, ↓p1_i, ↓p1_r, ↓pE_e, ↓pN_z, ↓pN_1, ↓pN_2, ↓pN_3, ↓pN_4, ↓pN_5, ↓pN_6, ↓rl_0, ↓rl_1, ↓rl_2, ↓rl_3, ↓rl_4, ↓hdR_r, ↓hdO_r, va_rf_s, sL1_0, sL1_ss, sL1_1i, sL1_1r, sL1_1n, sL1_1l, sL2_0, sL2_ss, sL2_1i, sL2_1r, sL2_1n, sL2_1l, List.getElem?_cons_zero, List.getElem?_cons_succ, Option.toList_some, Option.toList_none, List.cons_append, List.nil_append, Nat.reduceAdd, true_and, and_true, and_self, wA_s, wA_w, ↓reduceIte, ite_self, true_or, or_true, tv, tc, tl, tg, t0, tz, tw, tu, tup, tuL, nI_add, pk_mul, upd_s, tup_s, tuL_s, nI_0, i1, i2, i3, i4, nm1, kd_454, ↓m_sign hm h.1, hl, e22, aM_f]
      exact nx
    · rw [if_neg c4] at f1
      exact (rno_1 f1).elim
