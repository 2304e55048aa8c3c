/-! the reference: build, the nodes -/
def GM (x n s c : Nat) (I0 I : Nat → Nat → Int32) : Prop := (I 454 0 = nI (pW x) ∧ I 454 1 = nI (qW x) ∧ I 454 6 = nI (sN x) ∧ I 454 10 = nI c ∧ c ≤ 336) ∧ (∀ s, s < sN x → ∀ k, k < 4 → I 456 (4 * s + k) = Int32.ofInt (stX x s k)) ∧ (∀ i, i < sN x → I 457 i = nI (rvX x i)) ∧ (∀ j, j < c → ∀ k, k < 4 → I 458 (4 * j + k) = nI (ndX x j k)) ∧ (∀ e, e < 2401 → I 459 e = if nuX x e < c then nI (nuX x e) else -1) ∧ (∀ j t, (j < n ∨ (j = n ∧ t < s)) → t < sN x → I 460 (30 * j + t) = nI (tgX x j t)) ∧ (∀ a, ¬ a = 454 → ¬ (456 ≤ a ∧ a < 462) → ¬ a = 474 → I a = I0 a) ∧ ∀ k, ¬ k = 6 → ¬ k = 10 → ¬ k = 12 → I 454 k = I0 454 k
theorem GM_old {x n s c : Nat} {I0 I : Nat → Nat → Int32} {f : Nat → Int32} (hx : x < 11) (hs : s < sN x) (h : GM x n s c I0 I) : GM x n (s + 1) c I0 (wA (wA I 474 f) 460 (upd (I 460) (30 * n + s) (nI (tgX x n s)))) := by
  obtain ⟨⟨h1, h2, h3, h4, h0⟩, h5, h6, h7, h8, h9, h10, h11⟩ := h
  have hb := (sN_b x hx).2
  refine ⟨⟨?_, ?_, ?_, ?_, h0⟩, ?_, ?_, ?_, ?_, fun j t hj ht => ?_, fun a a1 a2 a3 => ?_, ?_⟩
  · simp (disch := first | assumption | omega | decide | (refine kdN ?_; omega) | (refine kdS ?_; omega) | (refine kd_REGS0 ?_; omega) | (refine kd_BOOK_noted0 ?_; omega) | (refine kd_IREGS0 ?_; omega) | (refine kd_IBOOK_noted0 ?_; omega) | (refine kd_SUMS0 ?_; omega) | (refine kd_TERMS0 ?_; omega) | (refine kd_FACT0 ?_; omega) | (simp (disch := omega) only [tw])) only [tw]; exact h1
  · simp (disch := first | assumption | omega | decide | (refine kdN ?_; omega) | (refine kdS ?_; omega) | (refine kd_REGS0 ?_; omega) | (refine kd_BOOK_noted0 ?_; omega) | (refine kd_IREGS0 ?_; omega) | (refine kd_IBOOK_noted0 ?_; omega) | (refine kd_SUMS0 ?_; omega) | (refine kd_TERMS0 ?_; omega) | (refine kd_FACT0 ?_; omega) | (simp (disch := omega) only [tw])) only [tw]; exact h2
  · simp (disch := first | assumption | omega | decide | (refine kdN ?_; omega) | (refine kdS ?_; omega) | (refine kd_REGS0 ?_; omega) | (refine kd_BOOK_noted0 ?_; omega) | (refine kd_IREGS0 ?_; omega) | (refine kd_IBOOK_noted0 ?_; omega) | (refine kd_SUMS0 ?_; omega) | (refine kd_TERMS0 ?_; omega) | (refine kd_FACT0 ?_; omega) | (simp (disch := omega) only [tw])) only [tw]; exact h3
  · simp (disch := first | assumption | omega | decide | (refine kdN ?_; omega) | (refine kdS ?_; omega) | (refine kd_REGS0 ?_; omega) | (refine kd_BOOK_noted0 ?_; omega) | (refine kd_IREGS0 ?_; omega) | (refine kd_IBOOK_noted0 ?_; omega) | (refine kd_SUMS0 ?_; omega) | (refine kd_TERMS0 ?_; omega) | (refine kd_FACT0 ?_; omega) | (simp (disch := omega) only [tw])) only [tw]; exact h4
  · simp (disch := first | assumption | omega | decide | (refine kdN ?_; omega) | (refine kdS ?_; omega) | (refine kd_REGS0 ?_; omega) | (refine kd_BOOK_noted0 ?_; omega) | (refine kd_IREGS0 ?_; omega) | (refine kd_IBOOK_noted0 ?_; omega) | (refine kd_SUMS0 ?_; omega) | (refine kd_TERMS0 ?_; omega) | (refine kd_FACT0 ?_; omega) | (simp (disch := omega) only [tw])) only [tw]; exact h5
  · simp (disch := first | assumption | omega | decide | (refine kdN ?_; omega) | (refine kdS ?_; omega) | (refine kd_REGS0 ?_; omega) | (refine kd_BOOK_noted0 ?_; omega) | (refine kd_IREGS0 ?_; omega) | (refine kd_IBOOK_noted0 ?_; omega) | (refine kd_SUMS0 ?_; omega) | (refine kd_TERMS0 ?_; omega) | (refine kd_FACT0 ?_; omega) | (simp (disch := omega) only [tw])) only [tw]; exact h6
  · simp (disch := first | assumption | omega | decide | (refine kdN ?_; omega) | (refine kdS ?_; omega) | (refine kd_REGS0 ?_; omega) | (refine kd_BOOK_noted0 ?_; omega) | (refine kd_IREGS0 ?_; omega) | (refine kd_IBOOK_noted0 ?_; omega) | (refine kd_SUMS0 ?_; omega) | (refine kd_TERMS0 ?_; omega) | (refine kd_FACT0 ?_; omega) | (simp (disch := omega) only [tw])) only [tw]; exact h7
  · simp (disch := first | assumption | omega | decide | (refine kdN ?_; omega) | (refine kdS ?_; omega) | (refine kd_REGS0 ?_; omega) | (refine kd_BOOK_noted0 ?_; omega) | (refine kd_IREGS0 ?_; omega) | (refine kd_IBOOK_noted0 ?_; omega) | (refine kd_SUMS0 ?_; omega) | (refine kd_TERMS0 ?_; omega) | (refine kd_FACT0 ?_; omega) | (simp (disch := omega) only [tw])) only [tw]; exact h8
  · rw [wA_s]
    by_cases e8 : 30 * j + t = 30 * n + s
    · have e9 : j = n := by omega
      have e10 : t = s := by omega
      subst e9 e10
      rw [upd_s]
    · rw [upd_n e8]
      exact h9 j t (by omega) ht
  · rw [tw (by omega), tw a3]
    exact h10 a a1 a2 a3
  · simp (disch := first | assumption | omega | decide | (refine kdN ?_; omega) | (refine kdS ?_; omega) | (refine kd_REGS0 ?_; omega) | (refine kd_BOOK_noted0 ?_; omega) | (refine kd_IREGS0 ?_; omega) | (refine kd_IBOOK_noted0 ?_; omega) | (refine kd_SUMS0 ?_; omega) | (refine kd_TERMS0 ?_; omega) | (refine kd_FACT0 ?_; omega) | (simp (disch := omega) only [tw])) only [tw]; exact h11
theorem GM_new {x n s c : Nat} {I0 I : Nat → Nat → Int32} {f : Nat → Int32} {a b y z : Int32} (hx : x < 11) (hs : s < sN x) (h : GM x n s c I0 I) (hc : c < nN x) (ht : tgX x n s = c) (h0' : a = nI (ndX x c 0)) (h1' : b = nI (ndX x c 1)) (h2' : y = nI (ndX x c 2)) (h3' : z = nI (ndX x c 3)) : GM x n (s + 1) (c + 1) I0 (wA (wA (wA (wA (wA I 474 f) 459 (upd (I 459) (cdX x c) (nI c))) 458 (upd (upd (upd (upd (I 458) (4 * c + 3) z) (4 * c + 2) y) (4 * c + 1) b) (4 * c) a)) 454 (upd (I 454) 10 (nI (c + 1)))) 460 (upd (I 460) (30 * n + s) (nI c))) := by
  have hN := (nN_b x hx).2
  obtain ⟨⟨h1, h2, h3, h4, h0⟩, h5, h6, h7, h8, h9, h10, h11⟩ := h
  have hb := (sN_b x hx).2
  obtain ⟨-, -, -, -, t5, t6⟩ := tr_f hx hc
  refine ⟨⟨?_, ?_, ?_, ?_, by omega⟩, ?_, ?_, fun j hj k hk => ?_, fun e he => ?_, fun j t hj htt => ?_, fun a a1 a2 a3 => ?_, fun k k1 k2 k3 => ?_⟩
  · simp (disch := first | assumption | omega | decide | (refine kdN ?_; omega) | (refine kdS ?_; omega) | (refine kd_REGS0 ?_; omega) | (refine kd_BOOK_noted0 ?_; omega) | (refine kd_IREGS0 ?_; omega) | (refine kd_IBOOK_noted0 ?_; omega) | (refine kd_SUMS0 ?_; omega) | (refine kd_TERMS0 ?_; omega) | (refine kd_FACT0 ?_; omega) | (simp (disch := omega) only [tw])) only [tw, wA_s, tu]; exact h1
  · simp (disch := first | assumption | omega | decide | (refine kdN ?_; omega) | (refine kdS ?_; omega) | (refine kd_REGS0 ?_; omega) | (refine kd_BOOK_noted0 ?_; omega) | (refine kd_IREGS0 ?_; omega) | (refine kd_IBOOK_noted0 ?_; omega) | (refine kd_SUMS0 ?_; omega) | (refine kd_TERMS0 ?_; omega) | (refine kd_FACT0 ?_; omega) | (simp (disch := omega) only [tw])) only [tw, wA_s, tu]; exact h2
  · simp (disch := first | assumption | omega | decide | (refine kdN ?_; omega) | (refine kdS ?_; omega) | (refine kd_REGS0 ?_; omega) | (refine kd_BOOK_noted0 ?_; omega) | (refine kd_IREGS0 ?_; omega) | (refine kd_IBOOK_noted0 ?_; omega) | (refine kd_SUMS0 ?_; omega) | (refine kd_TERMS0 ?_; omega) | (refine kd_FACT0 ?_; omega) | (simp (disch := omega) only [tw])) only [tw, wA_s, tu]; exact h3
  · simp (disch := first | assumption | omega | decide | (refine kdN ?_; omega) | (refine kdS ?_; omega) | (refine kd_REGS0 ?_; omega) | (refine kd_BOOK_noted0 ?_; omega) | (refine kd_IREGS0 ?_; omega) | (refine kd_IBOOK_noted0 ?_; omega) | (refine kd_SUMS0 ?_; omega) | (refine kd_TERMS0 ?_; omega) | (refine kd_FACT0 ?_; omega) | (simp (disch := omega) only [tw])) only [tw, wA_s, upd_s]
  · simp (disch := first | assumption | omega | decide | (refine kdN ?_; omega) | (refine kdS ?_; omega) | (refine kd_REGS0 ?_; omega) | (refine kd_BOOK_noted0 ?_; omega) | (refine kd_IREGS0 ?_; omega) | (refine kd_IBOOK_noted0 ?_; omega) | (refine kd_SUMS0 ?_; omega) | (refine kd_TERMS0 ?_; omega) | (refine kd_FACT0 ?_; omega) | (simp (disch := omega) only [tw])) only [tw]; exact h5
  · simp (disch := first | assumption | omega | decide | (refine kdN ?_; omega) | (refine kdS ?_; omega) | (refine kd_REGS0 ?_; omega) | (refine kd_BOOK_noted0 ?_; omega) | (refine kd_IREGS0 ?_; omega) | (refine kd_IBOOK_noted0 ?_; omega) | (refine kd_SUMS0 ?_; omega) | (refine kd_TERMS0 ?_; omega) | (refine kd_FACT0 ?_; omega) | (simp (disch := omega) only [tw])) only [tw]; exact h6
  · simp (disch := first | assumption | omega | decide | (refine kdN ?_; omega) | (refine kdS ?_; omega) | (refine kd_REGS0 ?_; omega) | (refine kd_BOOK_noted0 ?_; omega) | (refine kd_IREGS0 ?_; omega) | (refine kd_IBOOK_noted0 ?_; omega) | (refine kd_SUMS0 ?_; omega) | (refine kd_TERMS0 ?_; omega) | (refine kd_FACT0 ?_; omega) | (simp (disch := omega) only [tw])) only [tw, wA_s]
    by_cases e8 : j = c
    · subst e8
      rcases (by omega : k = 0 ∨ k = 1 ∨ k = 2 ∨ k = 3) with rfl | rfl | rfl | rfl
      · exact upd_s.trans h0'
      · rw [upd_n (by omega), upd_s]; exact h1'
      · rw [upd_n (by omega), upd_n (by omega), upd_s]; exact h2'
      · rw [upd_n (by omega), upd_n (by omega), upd_n (by omega), upd_s]; exact h3'
    · rw [upd_n (by omega), upd_n (by omega), upd_n (by omega), upd_n (by omega)]
      exact h7 j (by omega) k hk
  · simp (disch := first | assumption | omega | decide | (refine kdN ?_; omega) | (refine kdS ?_; omega) | (refine kd_REGS0 ?_; omega) | (refine kd_BOOK_noted0 ?_; omega) | (refine kd_IREGS0 ?_; omega) | (refine kd_IBOOK_noted0 ?_; omega) | (refine kd_SUMS0 ?_; omega) | (refine kd_TERMS0 ?_; omega) | (refine kd_FACT0 ?_; omega) | (simp (disch := omega) only [tw])) only [tw, wA_s]
    by_cases e8 : e = cdX x c
    · subst e8
      rw [upd_s, t5, if_pos (by omega)]
    · rw [upd_n e8, h8 e he]
      have e9 : ¬ nuX x e = c := fun q => e8 (nu_i hx he q hc)
      by_cases e10 : nuX x e < c
      · rw [if_pos e10, if_pos (by omega)]
      · rw [if_neg e10, if_neg (by omega)]
  · rw [wA_s]
    by_cases e8 : 30 * j + t = 30 * n + s
    · have e9 : j = n := by omega
      have e10 : t = s := by omega
      subst e9 e10
      rw [upd_s, ht]
    · rw [upd_n e8]
      exact h9 j t (by omega) htt
  · rw [tw (by omega), tw (by omega), tw (by omega), tw (by omega), tw a3]
    exact h10 a a1 a2 a3
  · simp (disch := first | assumption | omega | decide | (refine kdN ?_; omega) | (refine kdS ?_; omega) | (refine kd_REGS0 ?_; omega) | (refine kd_BOOK_noted0 ?_; omega) | (refine kd_IREGS0 ?_; omega) | (refine kd_IBOOK_noted0 ?_; omega) | (refine kd_SUMS0 ?_; omega) | (refine kd_TERMS0 ?_; omega) | (refine kd_FACT0 ?_; omega) | (simp (disch := omega) only [tw])) only [tw, wA_s]
    rw [upd_n k2]
    exact h11 k k1 k2 k3
theorem m_class0 {d : Nat} {I : Nat → Nat → Int32} {L : Nat → Nat → Int64} {P : Nat → Nat → Option Nat} {n s : Nat} {Q : Qm} {x q : Nat} {r0 r1 r2 r3 : Nat} (hq : qOk q) (h1 : I 454 1 = nI q) (hx : kd x = 10) (hi : 3 < ln x) (bx : ln x ≤ 20000) (e0 : rsd q (I x 0) = r0) (e1 : rsd q (I x 1) = r1) (e2 : rsd q (I x 2) = r2) (e3 : rsd q (I x 3) = r3) : Call (d + 2) 151 [.ref 454, .ref x, .int 0] (I, L, P, n, s) Q = Q (some (.int (if nmF q r0 r1 r2 r3 % q = 0 then -1 else nI (cdR q r0 r1 r2 r3)))) (I, L, P, n, s) := m_class (i := 0) hq h1 hx (by omega) bx e0 e1 e2 e3
/-- the product's numbers, in the reference's row -/
def pq (I : Nat → Nat → Int32) (n s : Nat) : Nat → Int32 := q4 (I 474) (pA (sh (I 458) (4 * n)) (sh (I 456) (4 * s))) (pB (sh (I 458) (4 * n)) (sh (I 456) (4 * s))) (pC (sh (I 458) (4 * n)) (sh (I 456) (4 * s))) (pD (sh (I 458) (4 * n)) (sh (I 456) (4 * s)))
set_option maxRecDepth 100000 in
theorem md_1 {d : Nat} {I : Nat → Nat → Int32} {L : Nat → Nat → Int64} {P : Nat → Nat → Option Nat} {n s : Nat} {Q : Qm} (hm : MP P) {x m t c : Nat} {v3 : Value} {I0 : Nat → Nat → Int32} (hx : x < 11) (hmn : m < nN x) (hmc : m < c) (ht : t < sN x) (h : GM x m t c I0 I) : WP (Call (d + 2)) (kod 154) (n, s) (endQ n s Q) 61 [.ref 454, .int (nI m), .int (nI t), v3] [] (I, L, P, n, s) = WP (Call (d + 2)) (kod 154) (n, s) (endQ n s Q) 97 [.ref 454, .int (nI m), .int (nI t), .int (nI (cdX x (tgX x m t)))] [] (wA I 474 (pq I m t), L, P, n, s) := by
  obtain ⟨m2, m4, m5, m7, m8, m9, m11, m13, m15, m16, m18, m19, m20, m23, m25, m26, m35, m36, m37, m39, m40, m41, m42, m43, m44, m45, m46, m47, m48⟩ := id hm
  obtain ⟨⟨h1, h2, h3, h4, h0⟩, h5, h6, h7, h8, h9, h10, h11⟩ := h
  have hN := (nN_b x hx).2
  have hb := (sN_b x hx).2
  have hq : qOk (qW x) := qW_b x hx
  have hF : ∀ k, k < 4 → sh (I 458) (4 * m) k = nI (ndX x m k) := fun k hk => h7 m hmc k hk
  have hG : ∀ k, k < 4 → sh (I 456) (4 * t) k = Int32.ofInt (stX x t k) := fun k hk => h5 t ht k hk
  have hcl := cl_t hx hmn ht hF hG
  have hnm := nm_f hx hmn ht hF hG
  have a1 : kd 458 = 10 := kd_458
  have a2 : kd 456 = 10 := kd_456
  have a3 : 4 * m + 3 < ln 458 := by rw [ln_458]; omega
  have a4 : 4 * t + 3 < ln 456 := by rw [ln_456]; omega
  have a5 : ln 458 ≤ 20000 := by decide
  have a6 : ln 456 ≤ 20000 := by decide
  have b1 : kd 474 = 10 := kd_474
  have b2 : 3 < ln 474 := by decide
  have b3 : ln 474 ≤ 20000 := by decide
  have cl := fun {d : Nat} {Q : Qm} => m_class0 (d := d) (I := wA I 474 (pq I m t)) (L := L) (P := P) (n := n) (s := s) (Q := Q) (x := 474) (r0 := rsd (qW x) (pA (sh (I 458) (4 * m)) (sh (I 456) (4 * t)))) (r1 := rsd (qW x) (pB (sh (I 458) (4 * m)) (sh (I 456) (4 * t)))) (r2 := rsd (qW x) (pC (sh (I 458) (4 * m)) (sh (I 456) (4 * t)))) (r3 := rsd (qW x) (pD (sh (I 458) (4 * m)) (sh (I 456) (4 * t)))) hq (by rw [tw (by decide)]; exact h2) b1 b2 b3 (by rw [wA_s]; rfl) (by rw [wA_s]; rfl) (by rw [wA_s]; rfl) (by rw [wA_s]; rfl)
  rw [if_neg hnm] at cl
  have ec : cdR (qW x) (rsd (qW x) (pA (sh (I 458) (4 * m)) (sh (I 456) (4 * t)))) (rsd (qW x) (pB (sh (I 458) (4 * m)) (sh (I 456) (4 * t)))) (rsd (qW x) (pC (sh (I 458) (4 * m)) (sh (I 456) (4 * t)))) (rsd (qW x) (pD (sh (I 458) (4 * m)) (sh (I 456) (4 * t)))) = cdX x (tgX x m t) := hcl
  rw [ec] at cl
  have ep : q4 (I 474) (pA (sh (I 458) (4 * m)) (sh (I 456) (4 * t))) (pB (sh (I 458) (4 * m)) (sh (I 456) (4 * t))) (pC (sh (I 458) (4 * m)) (sh (I 456) (4 * t))) (pD (sh (I 458) (4 * m)) (sh (I 456) (4 * t))) = pq I m t := rfl
  rw [x154_61]
  simp (disch := first | assumption | omega | decide | (refine kdN ?_; omega) | (refine kdS ?_; omega) | (refine kd_REGS0 ?_; omega) | (refine kd_BOOK_noted0 ?_; omega) | (refine kd_IREGS0 ?_; omega) | (refine kd_IBOOK_noted0 ?_; omega) | (refine kd_SUMS0 ?_; omega) | (refine kd_TERMS0 ?_; omega) | (refine kd_FACT0 ?_; omega) | (simp (disch := omega) only [tw])) only [↓x154_0, ↓x154_1, ↓x154_4, ↓x154_5, ↓x154_6, ↓x154_7, ↓x154_10, ↓x154_13, ↓x154_14, ↓x154_17, ↓x154_18, ↓x154_19, ↓x154_20, ↓x154_23, ↓x154_26, ↓x154_27, ↓x154_28, ↓x154_31, ↓x154_32, ↓x154_33, ↓x154_36, ↓x154_37, ↓x154_40, ↓x154_41, ↓x154_42, ↓x154_45, ↓x154_46, ↓x154_49, ↓x154_50, ↓x154_51, ↓x154_52, ↓x154_53, ↓x154_56, ↓x154_59, ↓x154_60, ↓x154_62, ↓x154_63, ↓x154_66, ↓x154_69, ↓x154_70, ↓x154_71, ↓x154_74, ↓x154_75, ↓x154_76, ↓x154_77, ↓x154_78, ↓x154_81, ↓x154_82, ↓x154_83, ↓x154_84, ↓x154_87, ↓x154_88, ↓x154_89, ↓x154_92, ↓x154_93, ↓x154_96, ↓x154_98, ↓x154_101, ↓x154_102, ↓x154_103, ↓x154_106, ↓x154_107, ↓x154_108, ↓x154_111, ↓x154_112, ↓x154_115, ↓x154_117, ↓x154_118, ↓x154_119, ↓x154_120, ↓x154_121, ↓x154_122, ↓x154_125, ↓x154_126, ↓x154_127, ↓x154_128, ↓x154_131, ↓x154_134, ↓x154_137, ↓x154_140, ↓x154_141, ↓x154_142, ↓x154_145, ↓x154_146, ↓x154_147, ↓x154_150, ↓x154_151, ↓x154_152, ↓x154_153, ↓x154_154, ↓x154_157, ↓x154_160, ↓x154_161, ↓x154_164, ↓x154_165, ↓x154_166, ↓x154_169, ↓x154_170, ↓x154_171, ↓x154_172, ↓x154_173, ↓x154_174, ↓x154_177, ↓x154_180, ↓x154_181, ↓x154_182, ↓x154_183, ↓x154_184, ↓x154_187, ↓x154_190, ↓x154_191, ↓x154_192, ↓x154_193, ↓x154_194, ↓x154_197, ↓x154_200, ↓x154_201, ↓x154_202, ↓x154_205, ↓x154_206, ↓x154_209, ↓x154_210, ↓x154_211, ↓x154_212, ↓x154_215, ↓x154_216, ↓x154_219, ↓x154_221, ↓x154_222, ↓x154_223, ↓x154_224, ↓x154_225, ↓x154_226, ↓x154_227, ↓x154_230, ↓x154_231, ↓x154_234, ↓x154_235, ↓x154_236, ↓x154_239, ↓x154_242, ↓x154_245, ↓x154_248, ↓x154_251, evl_e, ↓endQ_e, ↓gI_0, ↓gL_0, ↓gR_0, ↓gI_s, ↓gL_s, ↓gR_s, ↓pI_i, ↓pL_l, ↓pR_r, ↓p1_i, ↓p1_r, ↓pE_e, ↓pN_z, ↓pN_1, ↓pN_2, ↓pN_3, ↓pN_4, ↓pN_5, ↓pN_6, ↓rl_0, ↓rl_1, ↓rl_2, ↓rl_3, ↓rl_4, ↓hdR_r, ↓hdO_r, va_rf_s, sL1_0, sL1_ss, sL1_1i, sL1_1r, sL1_1n, sL1_1l, sL2_0, sL2_ss, sL2_1i, sL2_1r, sL2_1n, sL2_1l, List.getElem?_cons_zero, List.getElem?_cons_succ, Option.toList_some, Option.toList_none, List.cons_append, List.nil_append, Nat.reduceAdd, true_and, and_true, and_self, wA_s, wA_w, ↓reduceIte, ite_self, true_or, or_true, tv, tc, tl, tg, t0, tz, tw, tu, tup, tuL, nI_add, pk_mul, upd_s, tup_s, tuL_s, nI_0, i1, i2, i3, i4, nm1, m4, m7, m39, kd_454, h3, ↓m_mult hm a1 a2 a3 a4 a5 a6, ep, ↓cl]
set_option maxRecDepth 100000 in
theorem md_old {d : Nat} {I : Nat → Nat → Int32} {L : Nat → Nat → Int64} {P : Nat → Nat → Option Nat} {n s : Nat} {Q : Qm} (hm : MP P) {m t e b : Nat} (hmn : m < 336) (ht : t < 30) (he : e < 2401) (hb : b < 336) (hv : I 459 e = nI b) : WP (Call (d + 2)) (kod 154) (n, s) (endQ n s Q) 97 [.ref 454, .int (nI m), .int (nI t), .int (nI e)] [] (I, L, P, n, s) = WP (Call (d + 2)) (kod 154) (n, s) (endQ n s Q) 61 [.ref 454, .int (nI m), .int (nI (t + 1)), .int (nI e)] [] (wA I 460 (upd (I 460) (30 * m + t) (nI b)), L, P, n, s) := by
  obtain ⟨m2, m4, m5, m7, m8, m9, m11, m13, m15, m16, m18, m19, m20, m23, m25, m26, m35, m36, m37, m39, m40, m41, m42, m43, m44, m45, m46, m47, m48⟩ := id hm
  simp (disch := first | assumption | omega | decide | (refine kdN ?_; omega) | (refine kdS ?_; omega) | (refine kd_REGS0 ?_; omega) | (refine kd_BOOK_noted0 ?_; omega) | (refine kd_IREGS0 ?_; omega) | (refine kd_IBOOK_noted0 ?_; omega) | (refine kd_SUMS0 ?_; omega) | (refine kd_TERMS0 ?_; omega) | (refine kd_FACT0 ?_; omega) | (simp (disch := omega) only [tw])) only [↓x154_0, ↓x154_1, ↓x154_4, ↓x154_5, ↓x154_6, ↓x154_7, ↓x154_10, ↓x154_13, ↓x154_14, ↓x154_17, ↓x154_18, ↓x154_19, ↓x154_20, ↓x154_23, ↓x154_26, ↓x154_27, ↓x154_28, ↓x154_31, ↓x154_32, ↓x154_33, ↓x154_36, ↓x154_37, ↓x154_40, ↓x154_41, ↓x154_42, ↓x154_45, ↓x154_46, ↓x154_49, ↓x154_50, ↓x154_51, ↓x154_52, ↓x154_53, ↓x154_56, ↓x154_59, ↓x154_60, ↓x154_62, ↓x154_63, ↓x154_66, ↓x154_69, ↓x154_70, ↓x154_71, ↓x154_74, ↓x154_75, ↓x154_76, ↓x154_77, ↓x154_78, ↓x154_81, ↓x154_82, ↓x154_83, ↓x154_84, ↓x154_87, ↓x154_88, ↓x154_89, ↓x154_92, ↓x154_93, ↓x154_96, ↓x154_97, ↓x154_98, ↓x154_101, ↓x154_102, ↓x154_103, ↓x154_106, ↓x154_107, ↓x154_108, ↓x154_111, ↓x154_112, ↓x154_115, ↓x154_117, ↓x154_118, ↓x154_119, ↓x154_120, ↓x154_121, ↓x154_122, ↓x154_125, ↓x154_126, ↓x154_127, ↓x154_128, ↓x154_131, ↓x154_134, ↓x154_137, ↓x154_140, ↓x154_141, ↓x154_142, ↓x154_145, ↓x154_146, ↓x154_147, ↓x154_150, ↓x154_151, ↓x154_152, ↓x154_153, ↓x154_154, ↓x154_157, ↓x154_160, ↓x154_161, ↓x154_164, ↓x154_165, ↓x154_166, ↓x154_169, ↓x154_170, ↓x154_171, ↓x154_172, ↓x154_173, ↓x154_174, ↓x154_177, ↓x154_180, ↓x154_181, ↓x154_182, ↓x154_183, ↓x154_184, ↓x154_187, ↓x154_190, ↓x154_191, ↓x154_192, ↓x154_193, ↓x154_194, ↓x154_197, ↓x154_200, ↓x154_201, ↓x154_202, ↓x154_205, ↓x154_206, ↓x154_209, ↓x154_210, ↓x154_211, ↓x154_212, ↓x154_215, ↓x154_216, ↓x154_219, ↓x154_221, ↓x154_222, ↓x154_223, ↓x154_224, ↓x154_225, ↓x154_226, ↓x154_227, ↓x154_230, ↓x154_231, ↓x154_234, ↓x154_235, ↓x154_236, ↓x154_239, ↓x154_242, ↓x154_245, ↓x154_248, ↓x154_251, evl_e, ↓endQ_e, ↓gI_0, ↓gL_0, ↓gR_0, ↓gI_s, ↓gL_s, ↓gR_s, ↓pI_i, ↓pL_l, ↓pR_r, ↓p1_i, ↓p1_r, ↓pE_e, ↓pN_z, ↓pN_1, ↓pN_2, ↓pN_3, ↓pN_4, ↓pN_5, ↓pN_6, ↓rl_0, ↓rl_1, ↓rl_2, ↓rl_3, ↓rl_4, ↓hdR_r, ↓hdO_r, va_rf_s, sL1_0, sL1_ss, sL1_1i, sL1_1r, sL1_1n, sL1_1l, sL2_0, sL2_ss, sL2_1i, sL2_1r, sL2_1n, sL2_1l, List.getElem?_cons_zero, List.getElem?_cons_succ, Option.toList_some, Option.toList_none, List.cons_append, List.nil_append, Nat.reduceAdd, true_and, and_true, and_self, wA_s, wA_w, ↓reduceIte, ite_self, true_or, or_true, tv, tc, tl, tg, t0, tz, tw, tu, tup, tuL, nI_add, pk_mul, upd_s, tup_s, tuL_s, nI_0, i1, i2, i3, i4, nm1, m8, m9, kd_454, kd_459, ln_459, kd_460, ln_460, hv, i30]
set_option maxRecDepth 100000 in
theorem md_new {d : Nat} {I : Nat → Nat → Int32} {L : Nat → Nat → Int64} {P : Nat → Nat → Option Nat} {n s : Nat} {Q : Qm} (hm : MP P) {m t e c q : Nat} (hq : qOk q) (h1 : I 454 1 = nI q) (h10 : I 454 10 = nI c) (hmn : m < 336) (ht : t < 30) (he : e < 2401) (hc : c < 336) (hv : I 459 e = -1) : WP (Call (d + 2)) (kod 154) (n, s) (endQ n s Q) 97 [.ref 454, .int (nI m), .int (nI t), .int (nI e)] [] (I, L, P, n, s) = WP (Call (d + 2)) (kod 154) (n, s) (endQ n s Q) 61 [.ref 454, .int (nI m), .int (nI (t + 1)), .int (nI e)] [] (wA (wA (wA (wA I 459 (upd (I 459) e (nI c))) 458 (upd (upd (upd (upd (I 458) (4 * c + 3) (nI (e % q))) (4 * c + 2) (nI (e / q % q))) (4 * c + 1) (nI (e / q / q % q))) (4 * c) (nI (e / q / q / q % q)))) 454 (upd (I 454) 10 (nI (c + 1)))) 460 (upd (I 460) (30 * m + t) (nI c)), L, P, n, s) := by
  obtain ⟨m2, m4, m5, m7, m8, m9, m11, m13, m15, m16, m18, m19, m20, m23, m25, m26, m35, m36, m37, m39, m40, m41, m42, m43, m44, m45, m46, m47, m48⟩ := id hm
  simp (disch := first | assumption | omega | decide | (refine kdN ?_; omega) | (refine kdS ?_; omega) | (refine kd_REGS0 ?_; omega) | (refine kd_BOOK_noted0 ?_; omega) | (refine kd_IREGS0 ?_; omega) | (refine kd_IBOOK_noted0 ?_; omega) | (refine kd_SUMS0 ?_; omega) | (refine kd_TERMS0 ?_; omega) | (refine kd_FACT0 ?_; omega) | (simp (disch := omega) only [tw])) only [↓x154_0, ↓x154_1, ↓x154_4, ↓x154_5, ↓x154_6, ↓x154_7, ↓x154_10, ↓x154_13, ↓x154_14, ↓x154_17, ↓x154_18, ↓x154_19, ↓x154_20, ↓x154_23, ↓x154_26, ↓x154_27, ↓x154_28, ↓x154_31, ↓x154_32, ↓x154_33, ↓x154_36, ↓x154_37, ↓x154_40, ↓x154_41, ↓x154_42, ↓x154_45, ↓x154_46, ↓x154_49, ↓x154_50, ↓x154_51, ↓x154_52, ↓x154_53, ↓x154_56, ↓x154_59, ↓x154_60, ↓x154_62, ↓x154_63, ↓x154_66, ↓x154_69, ↓x154_70, ↓x154_71, ↓x154_74, ↓x154_75, ↓x154_76, ↓x154_77, ↓x154_78, ↓x154_81, ↓x154_82, ↓x154_83, ↓x154_84, ↓x154_87, ↓x154_88, ↓x154_89, ↓x154_92, ↓x154_93, ↓x154_96, ↓x154_97, ↓x154_98, ↓x154_101, ↓x154_102, ↓x154_103, ↓x154_106, ↓x154_107, ↓x154_108, ↓x154_111, ↓x154_112, ↓x154_115, ↓x154_117, ↓x154_118, ↓x154_119, ↓x154_120, ↓x154_121, ↓x154_122, ↓x154_125, ↓x154_126, ↓x154_127, ↓x154_128, ↓x154_131, ↓x154_134, ↓x154_137, ↓x154_140, ↓x154_141, ↓x154_142, ↓x154_145, ↓x154_146, ↓x154_147, ↓x154_150, ↓x154_151, ↓x154_152, ↓x154_153, ↓x154_154, ↓x154_157, ↓x154_160, ↓x154_161, ↓x154_164, ↓x154_165, ↓x154_166, ↓x154_169, ↓x154_170, ↓x154_171, ↓x154_172, ↓x154_173, ↓x154_174, ↓x154_177, ↓x154_180, ↓x154_181, ↓x154_182, ↓x154_183, ↓x154_184, ↓x154_187, ↓x154_190, ↓x154_191, ↓x154_192, ↓x154_193, ↓x154_194, ↓x154_197, ↓x154_200, ↓x154_201, ↓x154_202, ↓x154_205, ↓x154_206, ↓x154_209, ↓x154_210, ↓x154_211, ↓x154_212, ↓x154_215, ↓x154_216, ↓x154_219, ↓x154_221, ↓x154_222, ↓x154_223, ↓x154_224, ↓x154_225, ↓x154_226, ↓x154_227, ↓x154_230, ↓x154_231, ↓x154_234, ↓x154_235, ↓x154_236, ↓x154_239, ↓x154_242, ↓x154_245, ↓x154_248, ↓x154_251, evl_e, ↓endQ_e, ↓gI_0, ↓gL_0, ↓gR_0, ↓gI_s, ↓gL_s, ↓gR_s, ↓pI_i, ↓pL_l, ↓pR_r, ↓p1_i, ↓p1_r, ↓pE_e, ↓pN_z, ↓pN_1, ↓pN_2, ↓pN_3, ↓pN_4, ↓pN_5, ↓pN_6, ↓rl_0, ↓rl_1, ↓rl_2, ↓rl_3, ↓rl_4, ↓hdR_r, ↓hdO_r, va_rf_s, sL1_0, sL1_ss, sL1_1i, sL1_1r, sL1_1n, sL1_1l, sL2_0, sL2_ss, sL2_1i, sL2_1r, sL2_1n, sL2_1l, List.getElem?_cons_zero, List.getElem?_cons_succ, Option.toList_some, Option.toList_none, List.cons_append, List.nil_append, Nat.reduceAdd, true_and, and_true, and_self, wA_s, wA_w, ↓reduceIte, ite_self, true_or, or_true, tv, tc, tl, tg, t0, tz, tw, tu, tup, tuL, nI_add, pk_mul, upd_s, tup_s, tuL_s, nI_0, i1, i2, i3, i4, nm1, m8, m9, kd_454, kd_459, ln_459, kd_460, ln_460, hv, m1_lt, ↓m_comes hm hq h1 h10 he hc, i30]
theorem div3 {c q : Nat} : c / q / q / q % q = c / q ^ (3 - 0) % q ∧ c / q / q % q = c / q ^ (3 - 1) % q ∧ c / q % q = c / q ^ (3 - 2) % q ∧ c % q = c / q ^ (3 - 3) % q := by
  have e1 : q ^ (3 - 0) = q * q * q := by show q ^ 3 = _; simp only [Nat.pow_succ, Nat.pow_zero, Nat.one_mul]
  have e2 : q ^ (3 - 1) = q * q := by show q ^ 2 = _; simp only [Nat.pow_succ, Nat.pow_zero, Nat.one_mul]
  have e3 : q ^ (3 - 2) = q := by show q ^ 1 = _; simp only [Nat.pow_succ, Nat.pow_zero, Nat.one_mul]
  have e4 : q ^ (3 - 3) = 1 := rfl
  rw [e1, e2, e3, e4, ← Nat.div_div_eq_div_mul, ← Nat.div_div_eq_div_mul, Nat.div_one]
  exact ⟨rfl, rfl, rfl, rfl⟩
theorem md_step {d : Nat} {I : Nat → Nat → Int32} {L : Nat → Nat → Int64} {P : Nat → Nat → Option Nat} {n s : Nat} {Q : Qm} (hm : MP P) {x m t k c : Nat} {I0 : Nat → Nat → Int32} {v3 : Value} (hx : x < 11) (hmc : m < c) (hc : c ≤ nN x) (ht : t < sN x) (hb : bfN x m (k + 1) t c = true) (h : GM x m t c I0 I) (kk : ∀ I' c' v', m < c' → c' ≤ nN x → GM x m (t + 1) c' I0 I' → bfN x m k (t + 1) c' = true → WP (Call (d + 2)) (kod 154) (n, s) (endQ n s Q) 61 [.ref 454, .int (nI m), .int (nI (t + 1)), v'] [] (I', L, P, n, s)) : WP (Call (d + 2)) (kod 154) (n, s) (endQ n s Q) 61 [.ref 454, .int (nI m), .int (nI t), v3] [] (I, L, P, n, s) := by
  have hN := (nN_b x hx).2
  have hs3 := (sN_b x hx).2
  have hmn : m < nN x := by omega
  obtain ⟨⟨h1, h2, h3, h4, h0⟩, h5, h6, h7, h8, h9, h10, h11⟩ := id h
  have htg := tg_lt hx hmn ht
  obtain ⟨-, -, -, -, t5, t6⟩ := tr_f hx htg
  have hv := h8 _ t6
  rw [t5] at hv
  have hq : qOk (qW x) := qW_b x hx
  rw [md_1 hm hx hmn hmc ht h]
  by_cases hlt : tgX x m t < c
  · rw [if_pos hlt] at hv
    rw [md_old (b := tgX x m t) hm (by omega) (by omega) t6 (by omega) (by rw [tw (by decide)]; exact hv)]
    exact kk _ c _ hmc hc (by rw [tw (by decide)]; exact GM_old hx ht h) (bf_old hb hlt)
  · obtain ⟨b1, b2, b3, b4, b5, b6⟩ := bf_new hb hlt
    rw [if_neg hlt] at hv
    rw [b1] at hv t6
    rw [b1, md_new hm hq (by rw [tw (by decide)]; exact h2) (by rw [tw (by decide)]; exact h4) (by omega) (by omega) t6 (by omega) (by rw [tw (by decide)]; exact hv)]
    refine kk _ (c + 1) _ (by omega) (by omega) ?_ b6
    obtain ⟨d0, d1, d2, d3⟩ := div3 (c := cdX x c) (q := qW x)
    simp (disch := first | assumption | omega | decide | (refine kdN ?_; omega) | (refine kdS ?_; omega) | (refine kd_REGS0 ?_; omega) | (refine kd_BOOK_noted0 ?_; omega) | (refine kd_IREGS0 ?_; omega) | (refine kd_IBOOK_noted0 ?_; omega) | (refine kd_SUMS0 ?_; omega) | (refine kd_TERMS0 ?_; omega) | (refine kd_FACT0 ?_; omega) | (simp (disch := omega) only [tw])) only [tw]
    exact GM_new hx ht h b5 b1 (congrArg nI d0) (congrArg nI d1) (congrArg nI d2) (congrArg nI d3)
