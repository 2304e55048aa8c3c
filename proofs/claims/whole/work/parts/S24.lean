/-! case apart: the reference's rows of steps -/
set_option maxRecDepth 100000 in
theorem ts_l {d : Nat} {I : Nat → Nat → Int32} {L : Nat → Nat → Int64} {P : Nat → Nat → Option Nat} {n s : Nat} {Q : Qm} {x s0 : Nat} {r v2 v3 v4 v5 : Int32} {v7 : Value} {G : Nat → Int32} (hm : MP P) (hx : x < 11) (hI : MF x I) (hG : I 475 = G) (h0 : s0 < sN x) (hd : DV x s0 G = true) (hn : ∀ t, t < s0 → DV x t G = false) : ∀ k t H, k + t = s0 → ∃ H', WP (Call (d + 2)) (kod 182) (n, s) (endQ n s Q) 143 [.ref 454, .int r, .int v2, .int v3, .int v4, .int v5, .int (nI t), v7] [] (wA I 474 H, L, P, n, s) = WP (Call (d + 2)) (kod 182) (n, s) (endQ n s Q) 158 [.ref 454, .int r, .int v2, .int v3, .int v4, .int v5, .int (nI s0), v7] [] (wA I 474 (q4 H' (pA (cF x s0) G) (pB (cF x s0) G) (pC (cF x s0) G) (pD (cF x s0) G)), L, P, n, s)
  | k, t, H, e => by
    have y := fun Q => dv_y (d := d) (I := wA I 474 H) (L := L) (P := P) (n := n) (s := s) (Q := Q) (t := t) hm hx (MF_f hI (fun a ha => tw (by omega))) (by omega)
    rw [tw (by decide), hG, wA_s, wA_w] at y
    cases k with
    | zero =>
      have e5 : t = s0 := by omega
      subst e5
      rw [hd, bI_t] at y
      refine ⟨H, ?_⟩
      rw [x182_143]
      simp (disch := first | assumption | omega | decide | (refine kdN ?_; omega) | (refine kdS ?_; omega) | (refine kd_REGS0 ?_; omega) | (refine kd_BOOK_noted0 ?_; omega) | (refine kd_IREGS0 ?_; omega) | (refine kd_IBOOK_noted0 ?_; omega) | (refine kd_SUMS0 ?_; omega) | (refine kd_TERMS0 ?_; omega) | (refine kd_FACT0 ?_; omega) | (simp (disch := omega) only [tw])) only [↓x182_0, ↓x182_1, ↓x182_4, ↓x182_5, ↓x182_6, ↓x182_7, ↓x182_10, ↓x182_13, ↓x182_14, ↓x182_15, ↓x182_16, ↓x182_17, ↓x182_18, ↓x182_21, ↓x182_22, ↓x182_23, ↓x182_24, ↓x182_27, ↓x182_28, ↓x182_29, ↓x182_30, ↓x182_33, ↓x182_34, ↓x182_37, ↓x182_38, ↓x182_39, ↓x182_42, ↓x182_43, ↓x182_44, ↓x182_47, ↓x182_50, ↓x182_51, ↓x182_52, ↓x182_55, ↓x182_56, ↓x182_58, ↓x182_61, ↓x182_62, ↓x182_63, ↓x182_64, ↓x182_66, ↓x182_67, ↓x182_69, ↓x182_71, ↓x182_72, ↓x182_75, ↓x182_76, ↓x182_79, ↓x182_81, ↓x182_82, ↓x182_85, ↓x182_86, ↓x182_87, ↓x182_88, ↓x182_90, ↓x182_91, ↓x182_92, ↓x182_93, ↓x182_95, ↓x182_96, ↓x182_99, ↓x182_101, ↓x182_102, ↓x182_103, ↓x182_106, ↓x182_107, ↓x182_110, ↓x182_111, ↓x182_114, ↓x182_115, ↓x182_116, ↓x182_118, ↓x182_121, ↓x182_124, ↓x182_126, ↓x182_129, ↓x182_130, ↓x182_131, ↓x182_132, ↓x182_134, ↓x182_136, ↓x182_137, ↓x182_140, ↓x182_141, ↓x182_144, ↓x182_146, ↓x182_149, ↓x182_152, ↓x182_155, ↓x182_159, ↓x182_162, ↓x182_164, ↓x182_166, ↓x182_167, ↓x182_168, ↓x182_170, ↓x182_172, ↓x182_173, ↓x182_176, ↓x182_177, ↓x182_180, ↓x182_182, ↓x182_183, ↓x182_186, ↓x182_188, ↓x182_189, ↓x182_190, ↓x182_193, ↓x182_194, ↓x182_195, ↓x182_198, ↓x182_201, ↓x182_204, ↓x182_207, ↓x182_208, evl_e, ↓endQ_e, ↓gI_0, ↓gL_0, ↓gR_0, ↓gI_s, ↓gL_s, ↓gR_s, ↓pI_i, ↓pL_l, ↓pR_r, ↓p1_i, ↓p1_r, ↓pE_e, ↓pN_z, ↓pN_1, ↓pN_2, ↓pN_3, ↓pN_4, ↓pN_5, ↓pN_6, ↓rl_0, ↓rl_1, ↓rl_2, ↓rl_3, ↓rl_4, ↓hdR_r, ↓hdO_r, va_rf_s, sL1_0, sL1_ss, sL1_1i, sL1_1r, sL1_1n, sL1_1l, sL2_0, sL2_ss, sL2_1i, sL2_1r, sL2_1n, sL2_1l, List.getElem?_cons_zero, List.getElem?_cons_succ, Option.toList_some, Option.toList_none, List.cons_append, List.nil_append, Nat.reduceAdd, true_and, and_true, and_self, wA_s, wA_w, ↓reduceIte, ite_self, true_or, or_true, tv, tc, tl, tg, t0, tz, tw, tu, tup, tuL, nI_add, pk_mul, upd_s, tup_s, tuL_s, nI_0, i1, i2, i3, i4, nm1, ↓y, e_10, kd_454]
    | succ k =>
      rw [hn t (by omega), bI_f] at y
      obtain ⟨H', ih⟩ := ts_l (d := d) (L := L) (P := P) (n := n) (s := s) (Q := Q) (r := r) (v2 := v2) (v3 := v3) (v4 := v4) (v5 := v5) (v7 := v7) hm hx hI hG h0 hd hn k (t + 1) (q4 H (pA (cF x t) G) (pB (cF x t) G) (pC (cF x t) G) (pD (cF x t) G)) (by omega)
      refine ⟨H', ?_⟩
      rw [x182_143]
      simp (disch := first | assumption | omega | decide | (refine kdN ?_; omega) | (refine kdS ?_; omega) | (refine kd_REGS0 ?_; omega) | (refine kd_BOOK_noted0 ?_; omega) | (refine kd_IREGS0 ?_; omega) | (refine kd_IBOOK_noted0 ?_; omega) | (refine kd_SUMS0 ?_; omega) | (refine kd_TERMS0 ?_; omega) | (refine kd_FACT0 ?_; omega) | (simp (disch := omega) only [tw])) only [↓x182_0, ↓x182_1, ↓x182_4, ↓x182_5, ↓x182_6, ↓x182_7, ↓x182_10, ↓x182_13, ↓x182_14, ↓x182_15, ↓x182_16, ↓x182_17, ↓x182_18, ↓x182_21, ↓x182_22, ↓x182_23, ↓x182_24, ↓x182_27, ↓x182_28, ↓x182_29, ↓x182_30, ↓x182_33, ↓x182_34, ↓x182_37, ↓x182_38, ↓x182_39, ↓x182_42, ↓x182_43, ↓x182_44, ↓x182_47, ↓x182_50, ↓x182_51, ↓x182_52, ↓x182_55, ↓x182_56, ↓x182_58, ↓x182_61, ↓x182_62, ↓x182_63, ↓x182_64, ↓x182_66, ↓x182_67, ↓x182_69, ↓x182_71, ↓x182_72, ↓x182_75, ↓x182_76, ↓x182_79, ↓x182_81, ↓x182_82, ↓x182_85, ↓x182_86, ↓x182_87, ↓x182_88, ↓x182_90, ↓x182_91, ↓x182_92, ↓x182_93, ↓x182_95, ↓x182_96, ↓x182_99, ↓x182_101, ↓x182_102, ↓x182_103, ↓x182_106, ↓x182_107, ↓x182_110, ↓x182_111, ↓x182_114, ↓x182_115, ↓x182_116, ↓x182_118, ↓x182_121, ↓x182_124, ↓x182_126, ↓x182_129, ↓x182_130, ↓x182_131, ↓x182_132, ↓x182_134, ↓x182_136, ↓x182_137, ↓x182_140, ↓x182_141, ↓x182_144, ↓x182_146, ↓x182_149, ↓x182_152, ↓x182_155, ↓x182_159, ↓x182_162, ↓x182_164, ↓x182_166, ↓x182_167, ↓x182_168, ↓x182_170, ↓x182_172, ↓x182_173, ↓x182_176, ↓x182_177, ↓x182_180, ↓x182_182, ↓x182_183, ↓x182_186, ↓x182_188, ↓x182_189, ↓x182_190, ↓x182_193, ↓x182_194, ↓x182_195, ↓x182_198, ↓x182_201, ↓x182_204, ↓x182_207, ↓x182_208, evl_e, ↓endQ_e, ↓gI_0, ↓gL_0, ↓gR_0, ↓gI_s, ↓gL_s, ↓gR_s, ↓pI_i, ↓pL_l, ↓pR_r, ↓p1_i, ↓p1_r, ↓pE_e, ↓pN_z, ↓pN_1, ↓pN_2, ↓pN_3, ↓pN_4, ↓pN_5, ↓pN_6, ↓rl_0, ↓rl_1, ↓rl_2, ↓rl_3, ↓rl_4, ↓hdR_r, ↓hdO_r, va_rf_s, sL1_0, sL1_ss, sL1_1i, sL1_1r, sL1_1n, sL1_1l, sL2_0, sL2_ss, sL2_1i, sL2_1r, sL2_1n, sL2_1l, List.getElem?_cons_zero, List.getElem?_cons_succ, Option.toList_some, Option.toList_none, List.cons_append, List.nil_append, Nat.reduceAdd, true_and, and_true, and_self, wA_s, wA_w, ↓reduceIte, ite_self, true_or, or_true, tv, tc, tl, tg, t0, tz, tw, tu, tup, tuL, nI_add, pk_mul, upd_s, tup_s, tuL_s, nI_0, i1, i2, i3, i4, nm1, ↓y, kd_454]
      exact ih
set_option maxRecDepth 100000 in
theorem ti_l {d : Nat} {I : Nat → Nat → Int32} {L : Nat → Nat → Int64} {P : Nat → Nat → Option Nat} {n s : Nat} {Q : Qm} {x m : Nat} {r v3 v4 : Int32} {f : Nat → Int32} (hm : MP P) (hx : x < 11) (hI : MF x I) (h12 : m ≤ 12) (hA : AV x m f) (hQ : ∀ J, TF I J → (∀ j, j < m → J 482 j = nI (fsX x (sqF x f j))) → Q (some (.int (nI m))) (J, L, P, n, s)) : ∀ k i J v6 v7, k + i = m → TF I J → (∀ k, k < 4 → J 475 k = sqF x f i k) → (∀ j, j < i → J 482 j = nI (fsX x (sqF x f j))) → WP (Call (d + 2)) (kod 182) (n, s) (endQ n s Q) 134 [.ref 454, .int r, .int (nI m), .int v3, .int v4, .int (nI i), v6, v7] [] (J, L, P, n, s)
  | 0, i, J, v6, v7, e, f1, f2, f3 => by
    obtain rfl : i = m := by omega
    rw [x182_134]
    simp (disch := first | assumption | omega | decide | (refine kdN ?_; omega) | (refine kdS ?_; omega) | (refine kd_REGS0 ?_; omega) | (refine kd_BOOK_noted0 ?_; omega) | (refine kd_IREGS0 ?_; omega) | (refine kd_IBOOK_noted0 ?_; omega) | (refine kd_SUMS0 ?_; omega) | (refine kd_TERMS0 ?_; omega) | (refine kd_FACT0 ?_; omega) | (simp (disch := omega) only [tw])) only [↓x182_0, ↓x182_1, ↓x182_4, ↓x182_5, ↓x182_6, ↓x182_7, ↓x182_10, ↓x182_13, ↓x182_14, ↓x182_15, ↓x182_16, ↓x182_17, ↓x182_18, ↓x182_21, ↓x182_22, ↓x182_23, ↓x182_24, ↓x182_27, ↓x182_28, ↓x182_29, ↓x182_30, ↓x182_33, ↓x182_34, ↓x182_37, ↓x182_38, ↓x182_39, ↓x182_42, ↓x182_43, ↓x182_44, ↓x182_47, ↓x182_50, ↓x182_51, ↓x182_52, ↓x182_55, ↓x182_56, ↓x182_58, ↓x182_61, ↓x182_62, ↓x182_63, ↓x182_64, ↓x182_66, ↓x182_67, ↓x182_69, ↓x182_71, ↓x182_72, ↓x182_75, ↓x182_76, ↓x182_79, ↓x182_81, ↓x182_82, ↓x182_85, ↓x182_86, ↓x182_87, ↓x182_88, ↓x182_90, ↓x182_91, ↓x182_92, ↓x182_93, ↓x182_95, ↓x182_96, ↓x182_99, ↓x182_101, ↓x182_102, ↓x182_103, ↓x182_106, ↓x182_107, ↓x182_110, ↓x182_111, ↓x182_114, ↓x182_115, ↓x182_116, ↓x182_118, ↓x182_121, ↓x182_124, ↓x182_126, ↓x182_129, ↓x182_130, ↓x182_131, ↓x182_132, ↓x182_136, ↓x182_137, ↓x182_140, ↓x182_141, ↓x182_143, ↓x182_144, ↓x182_146, ↓x182_149, ↓x182_152, ↓x182_155, ↓x182_158, ↓x182_159, ↓x182_162, ↓x182_164, ↓x182_166, ↓x182_167, ↓x182_168, ↓x182_170, ↓x182_172, ↓x182_173, ↓x182_176, ↓x182_177, ↓x182_180, ↓x182_182, ↓x182_183, ↓x182_186, ↓x182_188, ↓x182_189, ↓x182_190, ↓x182_193, ↓x182_194, ↓x182_195, ↓x182_198, ↓x182_201, ↓x182_204, ↓x182_207, ↓x182_208, evl_e, ↓endQ_e, ↓gI_0, ↓gL_0, ↓gR_0, ↓gI_s, ↓gL_s, ↓gR_s, ↓pI_i, ↓pL_l, ↓pR_r, ↓p1_i, ↓p1_r, ↓pE_e, ↓pN_z, ↓pN_1, ↓pN_2, ↓pN_3, ↓pN_4, ↓pN_5, ↓pN_6, ↓rl_0, ↓rl_1, ↓rl_2, ↓rl_3, ↓rl_4, ↓hdR_r, ↓hdO_r, va_rf_s, sL1_0, sL1_ss, sL1_1i, sL1_1r, sL1_1n, sL1_1l, sL2_0, sL2_ss, sL2_1i, sL2_1r, sL2_1n, sL2_1l, List.getElem?_cons_zero, List.getElem?_cons_succ, Option.toList_some, Option.toList_none, List.cons_append, List.nil_append, Nat.reduceAdd, true_and, and_true, and_self, wA_s, wA_w, ↓reduceIte, ite_self, true_or, or_true, tv, tc, tl, tg, t0, tz, tw, tu, tup, tuL, nI_add, pk_mul, upd_s, tup_s, tuL_s, nI_0, i1, i2, i3, i4, nm1, Int32.lt_irrefl]
    exact hQ J f1 f3
  | k + 1, i, J, v6, v7, e, f1, f2, f3 => by
    obtain ⟨s1, s2, s3⟩ := sq_s hx hA (i := i) (by omega)
    have t2 := (DV_q (x := x) (s := fsX x (sqF x f i)) f2).trans s2
    have t3 := fun t ht => (DV_q (x := x) (s := t) f2).trans (s3 t ht)
    have pb := pOk_b (pOk_x x hx)
    have pz : ¬ nI (pW x) = 0 := nI_ne0 (by omega) (by omega)
    have hJ := MF_f hI f1
    have j0 := hJ.1
    obtain ⟨H', ht⟩ := ts_l (d := d) (I := J) (L := L) (P := P) (n := n) (s := s) (Q := Q) (r := r) (v2 := nI m) (v3 := v3) (v4 := v4) (v5 := nI i) (v7 := v7) hm hx hJ rfl s1 t2 t3 (fsX x (sqF x f i)) 0 (J 474) (Nat.add_zero _)
    rw [wA_id, nI_0] at ht
    obtain ⟨m2, m4, m5, m7, m8, m9, m11, m13, m15, m16, m18, m19, m20, m23, m25, m26, m35, m36, m37, m39, m40, m41, m42, m43, m44, m45, m46, m47, m48⟩ := id hm
    rw [x182_134]
    simp (disch := first | assumption | omega | decide | (refine kdN ?_; omega) | (refine kdS ?_; omega) | (refine kd_REGS0 ?_; omega) | (refine kd_BOOK_noted0 ?_; omega) | (refine kd_IREGS0 ?_; omega) | (refine kd_IBOOK_noted0 ?_; omega) | (refine kd_SUMS0 ?_; omega) | (refine kd_TERMS0 ?_; omega) | (refine kd_FACT0 ?_; omega) | (simp (disch := omega) only [tw])) only [↓x182_0, ↓x182_1, ↓x182_4, ↓x182_5, ↓x182_6, ↓x182_7, ↓x182_10, ↓x182_13, ↓x182_14, ↓x182_15, ↓x182_16, ↓x182_17, ↓x182_18, ↓x182_21, ↓x182_22, ↓x182_23, ↓x182_24, ↓x182_27, ↓x182_28, ↓x182_29, ↓x182_30, ↓x182_33, ↓x182_34, ↓x182_37, ↓x182_38, ↓x182_39, ↓x182_42, ↓x182_43, ↓x182_44, ↓x182_47, ↓x182_50, ↓x182_51, ↓x182_52, ↓x182_55, ↓x182_56, ↓x182_58, ↓x182_61, ↓x182_62, ↓x182_63, ↓x182_64, ↓x182_66, ↓x182_67, ↓x182_69, ↓x182_71, ↓x182_72, ↓x182_75, ↓x182_76, ↓x182_79, ↓x182_81, ↓x182_82, ↓x182_85, ↓x182_86, ↓x182_87, ↓x182_88, ↓x182_90, ↓x182_91, ↓x182_92, ↓x182_93, ↓x182_95, ↓x182_96, ↓x182_99, ↓x182_101, ↓x182_102, ↓x182_103, ↓x182_106, ↓x182_107, ↓x182_110, ↓x182_111, ↓x182_114, ↓x182_115, ↓x182_116, ↓x182_118, ↓x182_121, ↓x182_124, ↓x182_126, ↓x182_129, ↓x182_130, ↓x182_131, ↓x182_132, ↓x182_136, ↓x182_137, ↓x182_140, ↓x182_141, ↓x182_144, ↓x182_146, ↓x182_149, ↓x182_152, ↓x182_155, ↓x182_158, ↓x182_159, ↓x182_162, ↓x182_164, ↓x182_166, ↓x182_167, ↓x182_168, ↓x182_170, ↓x182_172, ↓x182_173, ↓x182_176, ↓x182_177, ↓x182_180, ↓x182_182, ↓x182_183, ↓x182_186, ↓x182_188, ↓x182_189, ↓x182_190, ↓x182_193, ↓x182_194, ↓x182_195, ↓x182_198, ↓x182_201, ↓x182_204, ↓x182_207, ↓x182_208, evl_e, ↓endQ_e, ↓gI_0, ↓gL_0, ↓gR_0, ↓gI_s, ↓gL_s, ↓gR_s, ↓pI_i, ↓pL_l, ↓pR_r, ↓p1_i, ↓p1_r, ↓pE_e, ↓pN_z, ↓pN_1, ↓pN_2, ↓pN_3, ↓pN_4, ↓pN_5, ↓pN_6, ↓rl_0, ↓rl_1, ↓rl_2, ↓rl_3, ↓rl_4, ↓hdR_r, ↓hdO_r, va_rf_s, sL1_0, sL1_ss, sL1_1i, sL1_1r, sL1_1n, sL1_1l, sL2_0, sL2_ss, sL2_1i, sL2_1r, sL2_1n, sL2_1l, List.getElem?_cons_zero, List.getElem?_cons_succ, Option.toList_some, Option.toList_none, List.cons_append, List.nil_append, Nat.reduceAdd, true_and, and_true, and_self, wA_s, wA_w, ↓reduceIte, ite_self, true_or, or_true, tv, tc, tl, tg, t0, tz, tw, tu, tup, tuL, nI_add, pk_mul, upd_s, tup_s, tuL_s, nI_0, i1, i2, i3, i4, nm1]
    rw [ht, x182_158]
    simp (disch := first | assumption | omega | decide | (refine kdN ?_; omega) | (refine kdS ?_; omega) | (refine kd_REGS0 ?_; omega) | (refine kd_BOOK_noted0 ?_; omega) | (refine kd_IREGS0 ?_; omega) | (refine kd_IBOOK_noted0 ?_; omega) | (refine kd_SUMS0 ?_; omega) | (refine kd_TERMS0 ?_; omega) | (refine kd_FACT0 ?_; omega) | (simp (disch := omega) only [tw])) only [↓x182_0, ↓x182_1, ↓x182_4, ↓x182_5, ↓x182_6, ↓x182_7, ↓x182_10, ↓x182_13, ↓x182_14, ↓x182_15, ↓x182_16, ↓x182_17, ↓x182_18, ↓x182_21, ↓x182_22, ↓x182_23, ↓x182_24, ↓x182_27, ↓x182_28, ↓x182_29, ↓x182_30, ↓x182_33, ↓x182_34, ↓x182_37, ↓x182_38, ↓x182_39, ↓x182_42, ↓x182_43, ↓x182_44, ↓x182_47, ↓x182_50, ↓x182_51, ↓x182_52, ↓x182_55, ↓x182_56, ↓x182_58, ↓x182_61, ↓x182_62, ↓x182_63, ↓x182_64, ↓x182_66, ↓x182_67, ↓x182_69, ↓x182_71, ↓x182_72, ↓x182_75, ↓x182_76, ↓x182_79, ↓x182_81, ↓x182_82, ↓x182_85, ↓x182_86, ↓x182_87, ↓x182_88, ↓x182_90, ↓x182_91, ↓x182_92, ↓x182_93, ↓x182_95, ↓x182_96, ↓x182_99, ↓x182_101, ↓x182_102, ↓x182_103, ↓x182_106, ↓x182_107, ↓x182_110, ↓x182_111, ↓x182_114, ↓x182_115, ↓x182_116, ↓x182_118, ↓x182_121, ↓x182_124, ↓x182_126, ↓x182_129, ↓x182_130, ↓x182_131, ↓x182_132, ↓x182_136, ↓x182_137, ↓x182_140, ↓x182_141, ↓x182_144, ↓x182_146, ↓x182_149, ↓x182_152, ↓x182_155, ↓x182_159, ↓x182_162, ↓x182_164, ↓x182_166, ↓x182_167, ↓x182_168, ↓x182_170, ↓x182_172, ↓x182_173, ↓x182_176, ↓x182_177, ↓x182_180, ↓x182_182, ↓x182_183, ↓x182_186, ↓x182_188, ↓x182_189, ↓x182_190, ↓x182_193, ↓x182_194, ↓x182_195, ↓x182_198, ↓x182_201, ↓x182_204, ↓x182_207, ↓x182_208, evl_e, ↓endQ_e, ↓gI_0, ↓gL_0, ↓gR_0, ↓gI_s, ↓gL_s, ↓gR_s, ↓pI_i, ↓pL_l, ↓pR_r, ↓p1_i, ↓p1_r, ↓pE_e, ↓pN_z, ↓pN_1, ↓pN_2, ↓pN_3, ↓pN_4, ↓pN_5, ↓pN_6, ↓rl_0, ↓rl_1, ↓rl_2, ↓rl_3, ↓rl_4, ↓hdR_r, ↓hdO_r, va_rf_s, sL1_0, sL1_ss, sL1_1i, sL1_1r, sL1_1n, sL1_1l, sL2_0, sL2_ss, sL2_1i, sL2_1r, sL2_1n, sL2_1l, List.getElem?_cons_zero, List.getElem?_cons_succ, Option.toList_some, Option.toList_none, List.cons_append, List.nil_append, Nat.reduceAdd, true_and, and_true, and_self, wA_s, wA_w, ↓reduceIte, ite_self, true_or, or_true, tv, tc, tl, tg, t0, tz, tw, tu, tup, tuL, nI_add, pk_mul, upd_s, tup_s, tuL_s, nI_0, i1, i2, i3, i4, nm1, m47, m40, m39, kd_454, kd_482, ln_482, kd_475, ln_475, kd_474, ln_474, j0, pz, q4_0, q4_1, q4_2, q4_3, v_0, v_1, v_2, v_3, c_0, c_1, c_2, c_3, l_04, l_14, l_24, l_34, l_44, a_01, a_11, a_21, a_31, q4_f, not_false_eq_true]
    refine ti_l hm hx hI h12 hA hQ k (i + 1) _ _ _ (by omega) (fun a ha => ?_) (fun k hk => ?_) (fun j hj => ?_)
    · rw [tw (by omega), tw (by omega), tw (by omega), f1 a ha]
    · rw [wA_s]
      show _ = NX x (fsX x (sqF x f i)) (sqF x f i) k
      rw [← NX_q f2]
      exact q4_k k hk
    · rw [tw (by decide), wA_s]
      by_cases e : j = i
      · subst e
        rw [upd_s]
      · rw [upd_n e]
        exact f3 j (by omega)
theorem sq_z {f : Nat → Int32} {v : Nat → Int} (h : ∀ k, k < 4 → f k = Int32.ofInt (v k)) : sq4 f = Int32.ofInt (zN v) := by
  unfold sq4 zN
  rw [h 0 (by decide), h 1 (by decide), h 2 (by decide), h 3 (by decide)]
  simp only [Int32.ofInt_mul, Int32.ofInt_add]
theorem fit1_b {a : Int32} (h : fit1 a = true) : -9999 ≤ a.toInt ∧ a.toInt ≤ 9999 := by
  unfold fit1 at h
  simp only [Bool.and_eq_true, decide_eq_true_eq, Int32.lt_iff_toInt_lt] at h
  have a1 : (-9999 : Int32).toInt = -9999 := rfl
  have a2 : (9999 : Int32).toInt = 9999 := rfl
  omega
theorem sq_9 {a : Int} (h : -9999 ≤ a ∧ a ≤ 9999) : 0 ≤ a * a ∧ a * a ≤ 99980001 := by
  rcases Int.le_total 0 a with q | q
  · have := Int.mul_le_mul h.2 h.2 q (by omega)
    exact ⟨Int.mul_nonneg q q, by omega⟩
  · have h1 : -a ≤ 9999 := by omega
    have := Int.mul_le_mul h1 h1 (by omega) (by omega)
    rw [Int.neg_mul_neg] at this
    exact ⟨Int.mul_nonneg_of_nonpos_of_nonpos q q, by omega⟩
/-- what a register is, as whole numbers -/
theorem rg_v {f : Nat → Int32} (h : ∀ k, k < 4 → fit1 (f k) = true) : ∃ (v : Nat → Int) (N : Nat), (∀ k, k < 4 → f k = Int32.ofInt (v k)) ∧ zN v = (N : Int) ∧ N ≤ 400000000 ∧ sq4 f = nI N ∧ (rgt4 f = true → 0 < N) := by
  have e : ∀ k, k < 4 → f k = Int32.ofInt ((fun k => (f k).toInt) k) := fun k _ => (Int32.ofInt_toInt (f k)).symm
  have b := fun k hk => sq_9 (fit1_b (h k hk))
  have b0 := b 0 (by decide)
  have b1 := b 1 (by decide)
  have b2 := b 2 (by decide)
  have b3 := b 3 (by decide)
  have z0 : 0 ≤ zN (fun k => (f k).toInt) := by
    simp only [zN]
    omega
  have z1 : zN (fun k => (f k).toInt) ≤ 400000000 := by
    simp only [zN]
    omega
  refine ⟨fun k => (f k).toInt, (zN fun k => (f k).toInt).toNat, e, (Int.toNat_of_nonneg z0).symm, by omega, ?_, fun hr => ?_⟩
  · rw [sq_z e, nI_ofI, Int.toNat_of_nonneg z0]
  · refine Classical.byContradiction fun q => ?_
    have zz : zN (fun k => (f k).toInt) = 0 := by omega
    have f0 : (f 0).toInt * (f 0).toInt = 0 := by
      simp only [zN] at zz
      omega
    have f1 : (f 0).toInt = 0 := by rcases Int.mul_eq_zero.mp f0 with w | w <;> exact w
    have f2 : f 0 = 0 := Int32.toInt_inj.mp f1
    unfold rgt4 at hr
    rw [f2] at hr
    simp only [Bool.and_eq_true, decide_eq_true_eq] at hr
    exact absurd hr.1 (by decide)
theorem mul4_i {f : Nat → Int32} {v : Nat → Int} {p : Nat} (h : ∀ k, k < 4 → f k = Int32.ofInt (v k)) (hv : ∀ k, k < 4 → -20000 ≤ v k ∧ v k ≤ 20000) (hp : 0 < p) (hp2 : p < 100) : mul4 f (nI p) = true ↔ ∀ k, k < 4 → (p : Int) ∣ v k := by
  have r := fun k (hk : k < 4) => rzz_0 (z := v k) (p := p) (by have := hv k hk; omega) (by have := hv k hk; omega) hp hp2
  unfold mul4
  rw [h 0 (by decide), h 1 (by decide), h 2 (by decide), h 3 (by decide)]
  simp only [Bool.and_eq_true, decide_eq_true_eq]
  rw [r 0 (by decide), r 1 (by decide), r 2 (by decide), r 3 (by decide)]
  constructor
  · rintro ⟨⟨⟨h0, h1⟩, h2⟩, h3⟩ k hk
    rcases (by omega : k = 0 ∨ k = 1 ∨ k = 2 ∨ k = 3) with rfl | rfl | rfl | rfl
    · exact h0
    · exact h1
    · exact h2
    · exact h3
  · intro h
    exact ⟨⟨⟨h 0 (by decide), h 1 (by decide)⟩, h 2 (by decide)⟩, h 3 (by decide)⟩
/-- the three ways of taking apart -/
def AK (x : Nat) (f : Nat → Int32) (o : Option Nat) : Prop := match o with
  | none => rgt4 f = false ∨ (∃ N, sq4 f = nI N ∧ N ≤ 400000000 ∧ 0 < N ∧ rgt4 f = true ∧ ∀ j, j ≤ 12 → ¬ pW x ^ j = N) ∨ (∃ m, m ≤ 12 ∧ sq4 f = nI (pW x ^ m) ∧ pW x ^ m ≤ 400000000 ∧ rgt4 f = true ∧ mul4 f (nI (pW x)) = true)
  | some m => m ≤ 12 ∧ sq4 f = nI (pW x ^ m) ∧ pW x ^ m ≤ 400000000 ∧ rgt4 f = true ∧ mul4 f (nI (pW x)) = false ∧ AV x m f
theorem AK_e {x : Nat} (hx : x < 11) {f : Nat → Int32} (h : ∀ k, k < 4 → fit1 (f k) = true) : ∃ o, AK x f o := by
  have pb := pOk_b (pOk_x x hx)
  cases hr : rgt4 f
  · exact ⟨none, Or.inl hr⟩
  obtain ⟨v, N, e1, e2, e3, e4, e5⟩ := rg_v h
  have hN := e5 hr
  by_cases c : ∃ m, m ≤ 12 ∧ pW x ^ m = N
  · obtain ⟨m, h12, rfl⟩ := c
    have hv := v_bd e2 e3
    have i := mul4_i e1 hv (p := pW x) (by omega) (by omega)
    cases hm : mul4 f (nI (pW x))
    · exact ⟨some m, h12, e4, e3, hr, hm, v, e1, e2, fun q => by rw [i.mpr q] at hm; exact absurd hm (by decide), e3⟩
    · exact ⟨none, Or.inr (Or.inr ⟨m, h12, e4, e3, hr, hm⟩)⟩
  · exact ⟨none, Or.inr (Or.inl ⟨N, e4, e3, hN, hr, fun j hj q => c ⟨j, hj, q⟩⟩)⟩
