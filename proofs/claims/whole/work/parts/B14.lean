/-! Network: the network as it grows -/
theorem cls4_t {g : Nat → Int32} {q : Nat} {a b c e : Int32} (hq : qOk q) : ∀ k, k < 4 → cls4 g q a b c e k = nI (cl4 q a b c e / q ^ (3 - k) % q) := by
  obtain ⟨h0, h1, h2, h3⟩ := pt_t (a := a) (b := b) (c := c) (e := e) hq
  intro k hk
  unfold cls4
  match k, hk with
  | 0, _ => rw [q4_0, h0]
  | 1, _ => rw [q4_1, h1]
  | 2, _ => rw [q4_2, h2]
  | 3, _ => rw [q4_3, h3]
/-- edges of the nodes ahead of n and the first s of n are in; c nodes are known -/
def GI (x n s c : Nat) (I0 I : Nat → Nat → Int32) : Prop := (I 50 8 = nI (qW x) ∧ I 50 9 = nI c ∧ I 51 5 = nI (pW x) ∧ I 51 6 = nI (sN x) ∧ c ≤ 336) ∧ (∀ t, t < sN x → ∀ k, k < 4 → I (53 + t) k = Int32.ofInt (stX x t k)) ∧ (∀ t, t < sN x → I 83 t = nI (rvX x t)) ∧ (∀ j, j < c → ∀ k, k < 4 → I (88 + j) k = nI (ndX x j k)) ∧ (∀ e, e < 2401 → I 424 e = if nuX x e < c then nI (nuX x e) else -2) ∧ (∀ j t, (j < n ∨ (j = n ∧ t < s)) → t < sN x → I 425 (j * 30 + t) = nI (tgX x j t)) ∧ (∀ j, j < c → I 426 j = nI (diX x j) ∧ I 427 j = nI (paX x j) ∧ I 428 j = nI (lsX x j)) ∧ ∀ a, ¬ (50 ≤ a ∧ a < 430) → I a = I0 a
theorem GI_old {x n s c : Nat} {I0 I : Nat → Nat → Int32} {f : Nat → Int32} (hx : x < 11) (hs : s < sN x) (h : GI x n s c I0 I) : GI x n (s + 1) c I0 (wA (wA I 429 f) 425 (upd (I 425) (n * 30 + s) (nI (tgX x n s)))) := by
  obtain ⟨⟨h1, h2, h3, h4, h0⟩, h5, h6, h7, h8, h9, h10, h11⟩ := h
  have hb := (sN_b x hx).2
  refine ⟨⟨?_, ?_, ?_, ?_, h0⟩, fun t ht k hk => ?_, fun t ht => ?_, fun j hj k hk => ?_, fun e he => ?_, fun j t hj ht => ?_, fun j hj => ?_, fun a ha => ?_⟩
  · rw [tw (by decide), tw (by decide)]; exact h1
  · rw [tw (by decide), tw (by decide)]; exact h2
  · rw [tw (by decide), tw (by decide)]; exact h3
  · rw [tw (by decide), tw (by decide)]; exact h4
  · rw [tw (by omega), tw (by omega)]; exact h5 t ht k hk
  · rw [tw (by decide), tw (by decide)]; exact h6 t ht
  · rw [tw (by omega), tw (by omega)]; exact h7 j hj k hk
  · rw [tw (by decide), tw (by decide)]; exact h8 e he
  · rw [wA_s]
    by_cases e8 : j * 30 + t = n * 30 + s
    · have e9 : j = n := by omega
      have e10 : t = s := by omega
      subst e9 e10
      rw [upd_s]
    · rw [upd_n e8]
      exact h9 j t (by omega) ht
  · simp (disch := first | assumption | omega | decide | (refine kdN ?_; omega) | (refine kdS ?_; omega)) only [tw]; exact h10 j hj
  · rw [tw (by omega), tw (by omega)]; exact h11 a ha
def ckC (x : Nat) : Bool := allB 2401 fun e => Nat.ble (nN x) (nuX x e) || Nat.beq (cdX x (nuX x e)) e
theorem ckC_all : ∀ x, x < 11 → ckC x = true := by decide +kernel
theorem nu_i {x e j : Nat} (hx : x < 11) (he : e < 2401) (h : nuX x e = j) (hj : j < nN x) : e = cdX x j := by
  have h2 := allB_i (ckC_all x hx) e he
  simp only [Bool.or_eq_true, Nat.ble_eq, Nat.beq_eq] at h2
  rcases h2 with h2 | h2
  · omega
  · rw [← h, h2]
theorem GI_new {x n s c : Nat} {I0 I : Nat → Nat → Int32} {f g : Nat → Int32} {a b y z : Int32} (hx : x < 11) (hs : s < sN x) (h : GI x n s c I0 I) (hc : c < nN x) (ht : tgX x n s = c) (hp : paX x c = n) (hl : lsX x c = s) (hd : diX x c = diX x n + 1) (h0 : a = nI (ndX x c 0)) (h1' : b = nI (ndX x c 1)) (h2' : y = nI (ndX x c 2)) (h3' : z = nI (ndX x c 3)) : GI x n (s + 1) (c + 1) I0 (wA (wA (wA (wA (wA (wA (wA (wA I 429 f) 424 (upd (I 424) (cdX x c) (nI c))) (88 + c) (q4 g a b y z)) 427 (upd (I 427) c (nI n))) 428 (upd (I 428) c (nI s))) 426 (upd (I 426) c (nI (diX x n + 1)))) 50 (upd (I 50) 9 (nI (c + 1)))) 425 (upd (I 425) (n * 30 + s) (nI c))) := by
  have hN := (nN_b x hx).2
  obtain ⟨⟨h1, h2, h3, h4, hc0⟩, h5, h6, h7, h8, h9, h10, h11⟩ := h
  have hb := (sN_b x hx).2
  obtain ⟨-, -, -, -, t5, t6⟩ := tr_f hx hc
  refine ⟨⟨?_, ?_, ?_, ?_, by omega⟩, fun t ht k hk => ?_, fun t ht => ?_, fun j hj k hk => ?_, fun e he => ?_, fun j t hj ht => ?_, fun j hj => ?_, fun a ha => ?_⟩
  · simp (disch := first | assumption | omega | decide | (refine kdN ?_; omega) | (refine kdS ?_; omega)) only [tw, wA_s, tu]; exact h1
  · simp (disch := first | assumption | omega | decide | (refine kdN ?_; omega) | (refine kdS ?_; omega)) only [tw, wA_s, upd_s]
  · simp (disch := first | assumption | omega | decide | (refine kdN ?_; omega) | (refine kdS ?_; omega)) only [tw]; exact h3
  · simp (disch := first | assumption | omega | decide | (refine kdN ?_; omega) | (refine kdS ?_; omega)) only [tw]; exact h4
  · simp (disch := first | assumption | omega | decide | (refine kdN ?_; omega) | (refine kdS ?_; omega)) only [tw]; exact h5 t ht k hk
  · simp (disch := first | assumption | omega | decide | (refine kdN ?_; omega) | (refine kdS ?_; omega)) only [tw]; exact h6 t ht
  · by_cases e8 : j = c
    · subst e8
      simp (disch := first | assumption | omega | decide | (refine kdN ?_; omega) | (refine kdS ?_; omega)) only [tw, wA_s]
      rcases (by omega : k = 0 ∨ k = 1 ∨ k = 2 ∨ k = 3) with rfl | rfl | rfl | rfl
      · exact h0
      · exact h1'
      · exact h2'
      · exact h3'
    · simp (disch := first | assumption | omega | decide | (refine kdN ?_; omega) | (refine kdS ?_; omega)) only [tw]; exact h7 j (by omega) k hk
  · simp (disch := first | assumption | omega | decide | (refine kdN ?_; omega) | (refine kdS ?_; omega)) only [tw, wA_s]
    by_cases e8 : e = cdX x c
    · subst e8
      rw [upd_s, t5, if_pos (by omega)]
    · rw [upd_n e8, h8 e he]
      have e9 : ¬ nuX x e = c := fun q => e8 (nu_i hx he q hc)
      by_cases e10 : nuX x e < c
      · rw [if_pos e10, if_pos (by omega)]
      · rw [if_neg e10, if_neg (by omega)]
  · rw [wA_s]
    by_cases e8 : j * 30 + t = n * 30 + s
    · have e9 : j = n := by omega
      have e10 : t = s := by omega
      subst e9 e10
      rw [upd_s, ‹tgX x j t = c›]
    · rw [upd_n e8]
      exact h9 j t (by omega) ht
  · simp (disch := first | assumption | omega | decide | (refine kdN ?_; omega) | (refine kdS ?_; omega)) only [tw, wA_s]
    by_cases e8 : j = c
    · subst e8
      rw [upd_s, upd_s, upd_s, hp, hl, hd]
      exact ⟨rfl, rfl, rfl⟩
    · rw [upd_n e8, upd_n e8, upd_n e8]
      exact h10 j (by omega)
  · simp (disch := first | assumption | omega | decide | (refine kdN ?_; omega) | (refine kdS ?_; omega)) only [tw]; exact h11 a ha
set_option maxRecDepth 100000 in
theorem n_enter {d : Nat} {I : Nat → Nat → Int32} {L : Nat → Nat → Int64} {P : Nat → Nat → Option Nat} {n s : Nat} {Q : Qm} (hp : NP P) {N c : Nat} {a b e : Int32} (hN : N < 336) (h9 : I 50 9 = nI N) (hc : c < 2401) (hw : cdW I = nI c) : Call (d + 3) 12 [.ref 50, .int a, .int b, .int e] (I, L, P, n, s) Q = Q (some (.int (nI N))) (wA (wA (wA (wA (wA (wA I 424 (upd (I 424) c (nI N))) (88 + N) (q4 (I (88 + N)) (I 429 0) (I 429 1) (I 429 2) (I 429 3))) 427 (upd (I 427) N a)) 428 (upd (I 428) N b)) 426 (upd (I 426) N e)) 50 (upd (I 50) 9 (nI (N + 1))), L, P, n, s) := by
  obtain ⟨p50_0, p50_1, p50_2, p50_3, p50_4, p50_5, p50_6, p50_7, p51_0, p51_1, p51_2, p51_3, p51_4, pS, pN⟩ := id hp
  have a1 : (nI N < 336) = True := tl (b := 336) hN (by decide)
  have a2 : (nI c < 2401) = True := tl (b := 2401) hc (by decide)
  have w0 : ((I 429 0 * I 50 8 + I 429 1) * I 50 8 + I 429 2) * I 50 8 + I 429 3 = nI c := hw
  simp (disch := first | assumption | omega | decide | (refine kdN ?_; omega) | (refine kdS ?_; omega)) only [c12, u12_0, u12_1, u12_4, u12_6, u12_7, u12_10, u12_13, u12_16, u12_18, u12_21, u12_23, u12_26, u12_29, u12_30, u12_31, u12_32, u12_35, u12_37, u12_38, u12_41, u12_42, u12_43, u12_46, u12_47, u12_50, u12_51, u12_52, u12_55, u12_58, u12_59, u12_62, u12_63, u12_66, u12_67, u12_68, u12_69, u12_72, u12_73, u12_76, u12_77, u12_78, u12_79, u12_82, u12_83, u12_86, u12_87, u12_88, u12_89, u12_90, u12_93, u12_94, u12_95, u12_96, u12_99, oF, oI, oJ, oIl, oLl, oAl, oIs, oLs, oAs, oInc, oBin, oAdd, oSub, oMul, oAnd, oOr, oXor, oDiv, oRem, oNeg, oLBin, oLAdd, oLSub, oLMul, oLDiv, oLNeg, oI2L, oL2I, oLcmp, oDup, oPop, oDupX1, oDup2, oEq, oNe, oLt, oGe, oGt, oLe, oCEq, oCNe, oCLt, oCGe, oCGt, oCLe, oGoto, oTab, oLook, oGetI, oGetR, oPutI, oPutZ, oPutR, oIald, oLald, oAald, oIast, oLast, oAast, oLen, oCallS, oCallV, oCallA, oCallI, oCallIA, oObj, oCopy, oIRet, oZRet, oLRet, oARet, oVRet, ↓gI_0, ↓gL_0, ↓gR_0, ↓gI_s, ↓gL_s, ↓gR_s, ↓pI_i, ↓pL_l, ↓pR_r, ↓p1_i, ↓p1_r, ↓pE_e, ↓pN_z, ↓pN_1, ↓pN_2, ↓pN_3, ↓pN_4, ↓pN_5, ↓pN_6, ↓rl_0, ↓rl_1, ↓rl_2, ↓rl_3, ↓rl_4, ↓hdR_r, ↓hdO_r, va_rf_s, endQ, sL1_0, sL1_ss, sL1_1i, sL1_1r, sL1_1n, sL1_1l, sL2_0, sL2_ss, sL2_1i, sL2_1r, sL2_1n, sL2_1l, List.getElem?_cons_zero, List.getElem?_cons_succ, Option.toList_some, Option.toList_none, List.cons_append, List.nil_append, Nat.reduceAdd, true_and, and_true, and_self, wA_s, wA_w, ↓reduceIte, ite_self, true_or, or_true, tv, tc, tl, tg, t0, tz, tw, tu, tup, tuL, nI_add, pk_mul, upd_s, tup_s, tuL_s, nI_0, i1, i2, i3, i4, nm1, p50_0, p50_1, p50_2, p50_3, p50_4, p50_5, p50_6, p50_7, pN, kd_50, kd_87, ln_87, kd_424, ln_424, kd_425, ln_425, kd_426, ln_426, kd_427, ln_427, kd_428, ln_428, kd_429, kdN, ↓n_code hp, h9, w0, a1, a2, ↓q_becomeQ]
