/-! Steps.make: the candidates one by one -/
def cnB : List Nat := [0x318c6318c6318c6318c6318c6318c6318c6318c6318c6318c6318c6318c6318c6318c6318c6318c6318c6318c6318c6318c6318c6318c6318c6318c6318c6318c6318c6318c6318c6318c6318c6318c6318c6318c6318c6318c6318c6318c6318c6318c6318c6318c6318c6318c6318c6318c6318c6318c6318c6318c6318c6318c6318c6318c6318c6318c6318c6318c6318c6318c6318c6318c6318c6318c6318c6318c6318c6318c6318c6318c6318c6318c6294a5294a5294a5294a5294a52108418c42108210842108421084210842108400000000000000000000000000000000000000000000000, 0x318c6318c6318c6318c6318c6318c6318c6318c6318c6318c6318c6318c6318c6318c6318c6318c6318c6318c6318c6318c6318c6318c6318c6318c6318c6318c6318c6318c6318c6318c6318c6318c6318c6318c6318c6318c6318c6318c6318c6318c6318c6318c6318c6318c6318c6318c6318c6318c6318c6318c6318c6318c6318c6318c6318c6318c6318c6318c6318c6318c6318c6318c6318c6318c6318c6318c6318c6318c6318c6318c6318c6318c6294a5294a5294a5294a5294a52108418c42108210842108421084210842108400000000000000000000000000000000000000000000000, 0x739ce739ce739ce739ce739ce739ce739ce739ce739ce739ce739ce739ce739ce739ce739ce739ce739ce739ce739ce739ce739ce739ce739ce739ce739ce739ce739ce739ce739ce739ce739ce739ce739ce739ce739ce739ce739ce739ce739ce739ce739cd6b5ad6b5ad6b5ad6b5ad6b5ac6318b5a94a525294a5294a5294a5294a5294a10842108421084210842108421084210842108421084210842108421084210842108421084210842108420e7318c6318c62948421084210842108421084210842108421084210842108418c4210842108210000000000000000000000000000000000000000, 0x739ce739ce739ce739ce739ce739ce739ce739ce739ce739ce739ce739ce739ce739ce739ce739ce739ce739ce739ce739ce739ce739ce739ce739ce739ce739ce739ce739ce739ce739ce739ce739ce739ce739ce739ce739ce739ce739ce739ce739ce739cd6b5ad6b5ad6b5ad6b5ad6b5ac6318b5a94a525294a5294a5294a5294a5294a10842108421084210842108421084210842108421084210842108421084210842108421084210842108420e7318c6318c62948421084210842108421084210842108421084210842108418c4210842108210000000000000000000000000000000000000000, 0x739ce739ce739ce739ce739ce739ce739ce739ce739ce739ce739ce739ce739ce739ce739ce739ce739ce739ce739ce739ce739ce739ce739ce739ce739ce739ce739ce739ce739ce739ce739ce739ce739ce739ce739ce739ce739ce739ce739ce739ce739cd6b5ad6b5ad6b5ad6b5ad6b5ac6318b5a94a525294a5294a5294a5294a5294a10842108421084210842108421084210842108421084210842108421084210842108421084210842108420e7318c6318c62948421084210842108421084210842108421084210842108418c4210842108210000000000000000000000000000000000000000, 0x94a5294a5294a5294a5294a5294a5294a5294a5294a5294a5294a5294a5294a5294a5294a5294a5294a5294a5294a5294a5294a5294a5294a5294a5294a5294a5294a5294a5294a5294a5294a5294a5294a5294a5294a5294a5294a5294a5294a5294a318c6107bdef739ce739ce739ce739ad6318c6318c5ad4a5294a5294a5294a4a529420e739cc6318c6318c6318c6318c6318c6318c6318c6318c6318c6318c6318c5294a5294a5294a5294a5294a5294a5294a5294a5294a5294a4210842108318c62108421084108421084210842108421084210842108421084210842108420000000000000000, 0x94a5294a5294a5294a5294a5294a5294a5294a5294a5294a5294a5294a5294a5294a5294a5294a5294a5294a5294a5294a5294a5294a5294a5294a5294a5294a5294a5294a5294a5294a5294a5294a5294a5294a5294a5294a5294a5294a5294a5294a318c6107bdef739ce739ce739ce739ad6318c6318c5ad4a5294a5294a5294a4a529420e739cc6318c6318c6318c6318c6318c6318c6318c6318c6318c6318c6318c5294a5294a5294a5294a5294a5294a5294a5294a5294a5294a4210842108318c62108421084108421084210842108421084210842108421084210842108420000000000000000, 0x94a5294a5294a5294a5294a5294a5294a5294a5294a5294a5294a5294a5294a5294a5294a5294a5294a5294a5294a5294a5294a5294a5294a5294a5294a5294a5294a5294a5294a5294a5294a5294a5294a5294a5294a5294a5294a5294a5294a5294a318c6107bdef739ce739ce739ce739ad6318c6318c5ad4a5294a5294a5294a4a529420e739cc6318c6318c6318c6318c6318c6318c6318c6318c6318c6318c6318c5294a5294a5294a5294a5294a5294a5294a5294a5294a5294a4210842108318c62108421084108421084210842108421084210842108421084210842108420000000000000000, 0xf7bdef7bdef7bdef7bdef7bdef7bdef7bdef7bdef7bdef7bbdef7bdef7bdef7bdef7bdef79ce737bd6b5ace739ce739ce739ce739ce739c6318c6318c6318c6318c6318c6318c6318c6318c6318c6318c6318c5ef7bdad5ad6b4a5294a5294a4e739ce739ca52946318c6318c21083dee735ad6b18c6318b5ad6a525284210739ce739ce6318c5294a5294a4210842108420c631884108420000000000000000000000000000000000000000000000000000000000000000000000000000000000000000000000000000000000000000000000000000000000000000000000000000000000000000000000, 0xf7bdef7bdef7bdef7bdef7bdef7bdef7bdef7bdef7bdef7bbdef7bdef7bdef7bdef7bdef79ce737bd6b5ace739ce739ce739ce739ce739c6318c6318c6318c6318c6318c6318c6318c6318c6318c6318c6318c5ef7bdad5ad6b4a5294a5294a4e739ce739ca52946318c6318c21083dee735ad6b18c6318b5ad6a525284210739ce739ce6318c5294a5294a4210842108420c631884108420000000000000000000000000000000000000000000000000000000000000000000000000000000000000000000000000000000000000000000000000000000000000000000000000000000000000000000000, 0xf7bdef7bdef7bdef7bdef7bdef7bdef7bdef7bdef7bdef7bbdef7bdef7bdef7bdef7bdef79ce737bd6b5ace739ce739ce739ce739ce739c6318c6318c6318c6318c6318c6318c6318c6318c6318c6318c6318c5ef7bdad5ad6b4a5294a5294a4e739ce739ca52946318c6318c21083dee735ad6b18c6318b5ad6a525284210739ce739ce6318c5294a5294a4210842108420c631884108420000000000000000000000000000000000000000000000000000000000000000000000000000000000000000000000000000000000000000000000000000000000000000000000000000000000000000000000]
/-- how many steps are among the first e candidates -/
def cnX (x e : Nat) : Nat := (cnB.getD x 0 >>> (5 * e)) % 32
def caA (e : Nat) : Int32 := nI (2 * (e / 125)) + 1
def caV (k : Nat) : Int32 := nI (2 * k) + (-4)
def sqI (a b c e : Int32) : Int32 := a * a + b * b + c * c + e * e
def ckS (x : Nat) : Bool := allB 375 fun e => let a := caA e; let b := caV (e / 25 % 5); let c := caV (e / 5 % 5); let g := caV (e % 5); if sqI a b c g = nI (pW x) then Nat.beq (cnX x (e + 1)) (cnX x e + 1) && Nat.blt (cnX x e) 30 && decide (Int32.ofInt (stX x (cnX x e) 0) = a) && decide (Int32.ofInt (stX x (cnX x e) 1) = b) && decide (Int32.ofInt (stX x (cnX x e) 2) = c) && decide (Int32.ofInt (stX x (cnX x e) 3) = g) else Nat.beq (cnX x (e + 1)) (cnX x e)
theorem ckS_all : ∀ x, x < 11 → ckS x = true ∧ cnX x 0 = 0 ∧ cnX x 375 = sN x := by decide +kernel
theorem cs_f {x e : Nat} (hx : x < 11) (he : e < 375) : (sqI (caA e) (caV (e / 25 % 5)) (caV (e / 5 % 5)) (caV (e % 5)) = nI (pW x) → cnX x (e + 1) = cnX x e + 1 ∧ cnX x e < 30 ∧ Int32.ofInt (stX x (cnX x e) 0) = caA e ∧ Int32.ofInt (stX x (cnX x e) 1) = caV (e / 25 % 5) ∧ Int32.ofInt (stX x (cnX x e) 2) = caV (e / 5 % 5) ∧ Int32.ofInt (stX x (cnX x e) 3) = caV (e % 5)) ∧ (¬ sqI (caA e) (caV (e / 25 % 5)) (caV (e / 5 % 5)) (caV (e % 5)) = nI (pW x) → cnX x (e + 1) = cnX x e) := by
  have h := allB_i (ckS_all x hx).1 e he
  dsimp only at h
  split at h
  · rename_i h0
    simp only [Bool.and_eq_true, Nat.blt_eq, Nat.beq_eq, decide_eq_true_eq] at h
    obtain ⟨⟨⟨⟨⟨h1, h2⟩, h3⟩, h4⟩, h5⟩, h6⟩ := h
    exact ⟨fun _ => ⟨h1, h2, h3, h4, h5, h6⟩, fun q => absurd h0 q⟩
  · rename_i h0
    exact ⟨fun q => absurd q h0, fun _ => Nat.beq_eq.mp h⟩
theorem sq4_q4 {f : Nat → Int32} {a b c e : Int32} : sq4 (q4 f a b c e) = sqI a b c e := by
  unfold sq4
  rw [q4_0, q4_1, q4_2, q4_3]
  rfl
theorem caV_2 {k : Nat} : caV k + 2 = caV (k + 1) := by
  unfold caV
  rw [Int32.add_assoc, Int32.add_comm (-4) 2, ← Int32.add_assoc]
  exact congrArg (· + (-4)) (nI_add (2 * k) 2)
theorem caV_lt {k : Nat} (h : k < 5) : ((4 : Int32) < caV k) = False := by
  rcases (by omega : k = 0 ∨ k = 1 ∨ k = 2 ∨ k = 3 ∨ k = 4) with rfl | rfl | rfl | rfl | rfl <;> decide
theorem caV_5 : ((4 : Int32) < caV 5) = True := by decide
theorem caV_0 : caV 0 = -4 := by decide
def SE (x e : Nat) (I0 I : Nat → Nat → Int32) : Prop := I 51 5 = nI (pW x) ∧ I 51 6 = nI (cnX x e) ∧ (∀ s, s < cnX x e → ∀ k, k < 4 → I (53 + s) k = Int32.ofInt (stX x s k)) ∧ ∀ a, ¬ a = 51 → ¬ a = 86 → ¬ (53 ≤ a ∧ a < 83) → I a = I0 a
theorem SE_no {x e : Nat} {I0 I : Nat → Nat → Int32} {f : Nat → Int32} (h : SE x e I0 I) (hc : cnX x (e + 1) = cnX x e) : SE x (e + 1) I0 (wA I 86 f) := by
  obtain ⟨h1, h2, h3, h4⟩ := h
  refine ⟨?_, ?_, fun s hs k hk => ?_, fun a a1 a2 a3 => ?_⟩
  · rw [wA_n (by decide)]; exact h1
  · rw [wA_n (by decide), hc]; exact h2
  · rw [hc] at hs
    by_cases e8 : 53 + s = 86
    · have : cnX x e < 32 := Nat.mod_lt _ (by decide)
      omega
    · rw [wA_n e8]
      exact h3 s hs k hk
  · rw [wA_n a2]
    exact h4 a a1 a2 a3
theorem SE_yes {x e : Nat} {I0 I : Nat → Nat → Int32} {f g : Nat → Int32} {a b c y : Int32} (h : SE x e I0 I) (hc : cnX x (e + 1) = cnX x e + 1) (hl : cnX x e < 30) (h0 : Int32.ofInt (stX x (cnX x e) 0) = a) (h1' : Int32.ofInt (stX x (cnX x e) 1) = b) (h2' : Int32.ofInt (stX x (cnX x e) 2) = c) (h3' : Int32.ofInt (stX x (cnX x e) 3) = y) : SE x (e + 1) I0 (wA (wA (wA I 86 f) (53 + cnX x e) (q4 g a b c y)) 51 (upd (I 51) 6 (nI (cnX x e + 1)))) := by
  obtain ⟨h1, h2, h3, h4⟩ := h
  refine ⟨?_, ?_, fun s hs k hk => ?_, fun z a1 a2 a3 => ?_⟩
  · rw [wA_s]; exact h1
  · rw [wA_s, hc]; rfl
  · rw [wA_n (by omega)]
    by_cases e8 : s = cnX x e
    · subst e8
      rw [wA_s]
      rcases (by omega : k = 0 ∨ k = 1 ∨ k = 2 ∨ k = 3) with rfl | rfl | rfl | rfl
      · exact h0.symm
      · exact h1'.symm
      · exact h2'.symm
      · exact h3'.symm
    · rw [wA_n (by omega), wA_n (by omega)]
      exact h3 s (by omega) k hk
  · rw [wA_n a1, wA_n (by omega), wA_n a2]
    exact h4 z a1 a2 a3
set_option maxRecDepth 100000 in
theorem mk_yes {d : Nat} {I : Nat → Nat → Int32} {L : Nat → Nat → Int64} {P : Nat → Nat → Option Nat} {n s : Nat} {Q : Qm} (hp : NP P) {A B C Y p : Int32} {c : Nat} (hc : c < 30) (g1 : I 51 5 = p) (g2 : I 51 6 = nI c) (hY : ((4 : Int32) < Y) = False) (hs : sqI A B C Y = p) : WP (Call (d + 2)) (kod 72) (n, s) (endQ n s Q) 4 [.ref 51, .int A, .int B, .int C, .int Y] [] (I, L, P, n, s) = WP (Call (d + 2)) (kod 72) (n, s) (endQ n s Q) 4 [.ref 51, .int A, .int B, .int C, .int (Y + 2)] [] (wA (wA (wA I 86 (q4 (I 86) A B C Y)) (53 + c) (q4 (wA I 86 (q4 (I 86) A B C Y) (53 + c)) A B C Y)) 51 (upd (I 51) 6 (nI (c + 1))), L, P, n, s) := by
  obtain ⟨p50_0, p50_1, p50_2, p50_3, p50_4, p50_5, p50_6, p50_7, p51_0, p51_1, p51_2, p51_3, p51_4, pS, pN⟩ := hp
  have hn51 : ¬ (51 : Nat) = 86 := by decide
  have hs2 : sq4 (q4 (I 86) A B C Y) = p := by
    rw [sq4_q4]
    exact hs
  have hlt : nI c < 30 := nI_lt (b := 30) hc (by decide)
  have hne : ¬ (51 : Nat) = 53 + c := by omega
  rw [u72_4]
  simp only [u72_0, u72_2, u72_6, u72_7, u72_10, u72_11, u72_14, u72_15, u72_16, u72_17, u72_19, u72_22, u72_23, u72_26, u72_29, u72_30, u72_33, u72_36, u72_37, u72_40, u72_42, u72_45, u72_46, u72_49, u72_50, u72_53, u72_54, u72_55, u72_58, u72_61, u72_62, u72_63, u72_66, u72_67, u72_68, u72_71, u72_74, u72_77, oF, oI, oJ, oIl, oLl, oAl, oIs, oLs, oAs, oInc, oBin, oAdd, oSub, oMul, oAnd, oOr, oXor, oDiv, oRem, oNeg, oLBin, oLAdd, oLSub, oLMul, oLDiv, oLNeg, oI2L, oL2I, oLcmp, oDup, oPop, oDupX1, oDup2, oEq, oNe, oLt, oGe, oGt, oLe, oCEq, oCNe, oCLt, oCGe, oCGt, oCLe, oGoto, oTab, oLook, oGetI, oGetR, oPutI, oPutZ, oPutR, oIald, oLald, oAald, oIast, oLast, oAast, oLen, oCallS, oCallV, oCallA, oCallI, oCallIA, oObj, oCopy, oIRet, oZRet, oLRet, oARet, oVRet, ↓gI_0, ↓gL_0, ↓gR_0, ↓gI_s, ↓gL_s, ↓gR_s, ↓pI_i, ↓pL_l, ↓pR_r, ↓p1_i, ↓p1_r, ↓pE_e, ↓pN_z, ↓pN_1, ↓pN_2, ↓pN_3, ↓pN_4, ↓pN_5, ↓pN_6, ↓rl_0, ↓rl_1, ↓rl_2, ↓rl_3, ↓rl_4, ↓hdR_r, ↓hdO_r, va_rf_s, endQ, sL1_0, sL1_ss, sL1_1i, sL1_1r, sL1_1n, sL1_1l, sL2_0, sL2_ss, sL2_1i, sL2_1r, sL2_1n, sL2_1l, List.getElem?_cons_zero, List.getElem?_cons_succ, Option.toList_some, Option.toList_none, List.cons_append, List.nil_append, Nat.reduceAdd, true_and, and_true, and_self, wA_s, wA_w, ↓reduceIte, ite_self, p50_0, p50_1, p50_2, p50_3, p50_4, p50_5, p50_6, p50_7, p51_0, p51_1, p51_2, p51_3, p51_4, kd_50, ln_50, kd_51, ln_51, kd_52, ln_52, kd_83, ln_83, kd_84, ln_84, kd_85, ln_85, kd_86, ln_86, kd_87, ln_87, kd_424, ln_424, kd_425, ln_425, kd_426, ln_426, kd_427, ln_427, kd_428, ln_428, kd_429, ln_429, hY, ↓q_become kd_86, ↓q_sq kd_86, wA_n hn51, g1, g2, hs2, hlt, vin hc (by decide), cln hc (by decide), pS _ hc, kdS hc, ↓q_becomeQ (kdS hc) kd_86, q4_0, q4_1, q4_2, q4_3, wA_n hne, nI_1]
set_option maxRecDepth 100000 in
theorem mk_no {d : Nat} {I : Nat → Nat → Int32} {L : Nat → Nat → Int64} {P : Nat → Nat → Option Nat} {n s : Nat} {Q : Qm} (hp : NP P) {A B C Y p : Int32} (g1 : I 51 5 = p) (hY : ((4 : Int32) < Y) = False) (hs : ¬ sqI A B C Y = p) : WP (Call (d + 2)) (kod 72) (n, s) (endQ n s Q) 4 [.ref 51, .int A, .int B, .int C, .int Y] [] (I, L, P, n, s) = WP (Call (d + 2)) (kod 72) (n, s) (endQ n s Q) 4 [.ref 51, .int A, .int B, .int C, .int (Y + 2)] [] (wA I 86 (q4 (I 86) A B C Y), L, P, n, s) := by
  obtain ⟨p50_0, p50_1, p50_2, p50_3, p50_4, p50_5, p50_6, p50_7, p51_0, p51_1, p51_2, p51_3, p51_4, pS, pN⟩ := hp
  have hn51 : ¬ (51 : Nat) = 86 := by decide
  have hs2 : ¬ sq4 (q4 (I 86) A B C Y) = p := by
    rw [sq4_q4]
    exact hs
  rw [u72_4]
  simp only [u72_0, u72_2, u72_6, u72_7, u72_10, u72_11, u72_14, u72_15, u72_16, u72_17, u72_19, u72_22, u72_23, u72_26, u72_29, u72_30, u72_33, u72_36, u72_37, u72_40, u72_42, u72_45, u72_46, u72_49, u72_50, u72_53, u72_54, u72_55, u72_58, u72_61, u72_62, u72_63, u72_66, u72_67, u72_68, u72_71, u72_74, u72_77, oF, oI, oJ, oIl, oLl, oAl, oIs, oLs, oAs, oInc, oBin, oAdd, oSub, oMul, oAnd, oOr, oXor, oDiv, oRem, oNeg, oLBin, oLAdd, oLSub, oLMul, oLDiv, oLNeg, oI2L, oL2I, oLcmp, oDup, oPop, oDupX1, oDup2, oEq, oNe, oLt, oGe, oGt, oLe, oCEq, oCNe, oCLt, oCGe, oCGt, oCLe, oGoto, oTab, oLook, oGetI, oGetR, oPutI, oPutZ, oPutR, oIald, oLald, oAald, oIast, oLast, oAast, oLen, oCallS, oCallV, oCallA, oCallI, oCallIA, oObj, oCopy, oIRet, oZRet, oLRet, oARet, oVRet, ↓gI_0, ↓gL_0, ↓gR_0, ↓gI_s, ↓gL_s, ↓gR_s, ↓pI_i, ↓pL_l, ↓pR_r, ↓p1_i, ↓p1_r, ↓pE_e, ↓pN_z, ↓pN_1, ↓pN_2, ↓pN_3, ↓pN_4, ↓pN_5, ↓pN_6, ↓rl_0, ↓rl_1, ↓rl_2, ↓rl_3, ↓rl_4, ↓hdR_r, ↓hdO_r, va_rf_s, endQ, sL1_0, sL1_ss, sL1_1i, sL1_1r, sL1_1n, sL1_1l, sL2_0, sL2_ss, sL2_1i, sL2_1r, sL2_1n, sL2_1l, List.getElem?_cons_zero, List.getElem?_cons_succ, Option.toList_some, Option.toList_none, List.cons_append, List.nil_append, Nat.reduceAdd, true_and, and_true, and_self, wA_s, wA_w, ↓reduceIte, ite_self, p50_0, p50_1, p50_2, p50_3, p50_4, p50_5, p50_6, p50_7, p51_0, p51_1, p51_2, p51_3, p51_4, kd_50, ln_50, kd_51, ln_51, kd_52, ln_52, kd_83, ln_83, kd_84, ln_84, kd_85, ln_85, kd_86, ln_86, kd_87, ln_87, kd_424, ln_424, kd_425, ln_425, kd_426, ln_426, kd_427, ln_427, kd_428, ln_428, kd_429, ln_429, hY, ↓q_become kd_86, ↓q_sq kd_86, wA_n hn51, g1, hs2]
theorem mk_step {d : Nat} {I : Nat → Nat → Int32} {L : Nat → Nat → Int64} {P : Nat → Nat → Option Nat} {n s : Nat} {Q : Qm} (hp : NP P) {x e : Nat} {I0 : Nat → Nat → Int32} (hx : x < 11) (he : e < 375) (h : SE x e I0 I) (kk : ∀ I', SE x (e + 1) I0 I' → WP (Call (d + 2)) (kod 72) (n, s) (endQ n s Q) 4 [.ref 51, .int (caA e), .int (caV (e / 25 % 5)), .int (caV (e / 5 % 5)), .int (caV (e % 5 + 1))] [] (I', L, P, n, s)) : WP (Call (d + 2)) (kod 72) (n, s) (endQ n s Q) 4 [.ref 51, .int (caA e), .int (caV (e / 25 % 5)), .int (caV (e / 5 % 5)), .int (caV (e % 5))] [] (I, L, P, n, s) := by
  obtain ⟨c1, c2⟩ := cs_f hx he
  have hk : e % 5 < 5 := Nat.mod_lt _ (by decide)
  obtain ⟨g1, g2, -, -⟩ := id h
  have hY := caV_lt hk
  have h2 : caV (e % 5) + 2 = caV (e % 5 + 1) := caV_2
  generalize caV (e % 5 + 1) = Y2 at *
  generalize caV (e % 5) = Y at *
  generalize caV (e / 25 % 5) = B at *
  generalize caV (e / 5 % 5) = C at *
  generalize caA e = A at *
  subst h2
  by_cases hs : sqI A B C Y = nI (pW x)
  · obtain ⟨f1, f2, f3, f4, f5, f6⟩ := c1 hs
    rw [mk_yes hp f2 g1 g2 hY hs]
    exact kk _ (SE_yes h f1 f2 f3 f4 f5 f6)
  · rw [mk_no hp g1 hY hs]
    exact kk _ (SE_no h (c2 hs))
theorem mk_T {d : Nat} {I : Nat → Nat → Int32} {L : Nat → Nat → Int64} {P : Nat → Nat → Option Nat} {n s : Nat} {Q : Qm} (hp : NP P) {x t k : Nat} {I0 : Nat → Nat → Int32} (hx : x < 11) (ht : t < 75) (hk : k < 5) (h : SE x (5 * t + k) I0 I) (kk : ∀ I', SE x (5 * t + (k + 1)) I0 I' → WP (Call (d + 2)) (kod 72) (n, s) (endQ n s Q) 4 [.ref 51, .int (nI (2 * (t / 25)) + 1), .int (caV (t / 5 % 5)), .int (caV (t % 5)), .int (caV (k + 1))] [] (I', L, P, n, s)) : WP (Call (d + 2)) (kod 72) (n, s) (endQ n s Q) 4 [.ref 51, .int (nI (2 * (t / 25)) + 1), .int (caV (t / 5 % 5)), .int (caV (t % 5)), .int (caV k)] [] (I, L, P, n, s) := by
  have z := mk_step (Q := Q) (d := d) (L := L) (n := n) (s := s) hp hx (show 5 * t + k < 375 by omega) h
  unfold caA at z
  rw [show (5 * t + k) / 125 = t / 25 by omega, show (5 * t + k) / 25 % 5 = t / 5 % 5 by omega, show (5 * t + k) / 5 % 5 = t % 5 by omega, show (5 * t + k) % 5 = k by omega] at z
  exact z kk
set_option maxRecDepth 100000 in
theorem mk_end {d : Nat} {I : Nat → Nat → Int32} {L : Nat → Nat → Int64} {P : Nat → Nat → Option Nat} {n s : Nat} {Q : Qm} {A B C : Int32} : WP (Call (d + 2)) (kod 72) (n, s) (endQ n s Q) 4 [.ref 51, .int A, .int B, .int C, .int (caV 5)] [] (I, L, P, n, s) = Q none (I, L, P, n, s) := by
  rw [u72_4]
  simp only [u72_0, u72_2, u72_6, u72_7, u72_10, u72_11, u72_14, u72_15, u72_16, u72_17, u72_19, u72_22, u72_23, u72_26, u72_29, u72_30, u72_33, u72_36, u72_37, u72_40, u72_42, u72_45, u72_46, u72_49, u72_50, u72_53, u72_54, u72_55, u72_58, u72_61, u72_62, u72_63, u72_66, u72_67, u72_68, u72_71, u72_74, u72_77, oF, oI, oJ, oIl, oLl, oAl, oIs, oLs, oAs, oInc, oBin, oAdd, oSub, oMul, oAnd, oOr, oXor, oDiv, oRem, oNeg, oLBin, oLAdd, oLSub, oLMul, oLDiv, oLNeg, oI2L, oL2I, oLcmp, oDup, oPop, oDupX1, oDup2, oEq, oNe, oLt, oGe, oGt, oLe, oCEq, oCNe, oCLt, oCGe, oCGt, oCLe, oGoto, oTab, oLook, oGetI, oGetR, oPutI, oPutZ, oPutR, oIald, oLald, oAald, oIast, oLast, oAast, oLen, oCallS, oCallV, oCallA, oCallI, oCallIA, oObj, oCopy, oIRet, oZRet, oLRet, oARet, oVRet, ↓gI_0, ↓gL_0, ↓gR_0, ↓gI_s, ↓gL_s, ↓gR_s, ↓pI_i, ↓pL_l, ↓pR_r, ↓p1_i, ↓p1_r, ↓pE_e, ↓pN_z, ↓pN_1, ↓pN_2, ↓pN_3, ↓pN_4, ↓pN_5, ↓pN_6, ↓rl_0, ↓rl_1, ↓rl_2, ↓rl_3, ↓rl_4, ↓hdR_r, ↓hdO_r, va_rf_s, endQ, sL1_0, sL1_ss, sL1_1i, sL1_1r, sL1_1n, sL1_1l, sL2_0, sL2_ss, sL2_1i, sL2_1r, sL2_1n, sL2_1l, List.getElem?_cons_zero, List.getElem?_cons_succ, Option.toList_some, Option.toList_none, List.cons_append, List.nil_append, Nat.reduceAdd, true_and, and_true, and_self, wA_s, wA_w, ↓reduceIte, ite_self, caV_5]
set_option maxRecDepth 100000 in
theorem mk_begin {d : Nat} {I : Nat → Nat → Int32} {L : Nat → Nat → Int64} {P : Nat → Nat → Option Nat} {n s : Nat} {Q : Qm} {A B C : Int32} : Call (d + 3) 72 [.ref 51, .int A, .int B, .int C] (I, L, P, n, s) Q = WP (Call (d + 2)) (kod 72) (n, s) (endQ n s Q) 4 [.ref 51, .int A, .int B, .int C, .int (caV 0)] [] (I, L, P, n, s) := by
  rw [caV_0]
  simp only [c72, u72_0, u72_2, u72_6, u72_7, u72_10, u72_11, u72_14, u72_15, u72_16, u72_17, u72_19, u72_22, u72_23, u72_26, u72_29, u72_30, u72_33, u72_36, u72_37, u72_40, u72_42, u72_45, u72_46, u72_49, u72_50, u72_53, u72_54, u72_55, u72_58, u72_61, u72_62, u72_63, u72_66, u72_67, u72_68, u72_71, u72_74, u72_77, oF, oI, oJ, oIl, oLl, oAl, oIs, oLs, oAs, oInc, oBin, oAdd, oSub, oMul, oAnd, oOr, oXor, oDiv, oRem, oNeg, oLBin, oLAdd, oLSub, oLMul, oLDiv, oLNeg, oI2L, oL2I, oLcmp, oDup, oPop, oDupX1, oDup2, oEq, oNe, oLt, oGe, oGt, oLe, oCEq, oCNe, oCLt, oCGe, oCGt, oCLe, oGoto, oTab, oLook, oGetI, oGetR, oPutI, oPutZ, oPutR, oIald, oLald, oAald, oIast, oLast, oAast, oLen, oCallS, oCallV, oCallA, oCallI, oCallIA, oObj, oCopy, oIRet, oZRet, oLRet, oARet, oVRet, ↓gI_0, ↓gL_0, ↓gR_0, ↓gI_s, ↓gL_s, ↓gR_s, ↓pI_i, ↓pL_l, ↓pR_r, ↓p1_i, ↓p1_r, ↓pE_e, ↓pN_z, ↓pN_1, ↓pN_2, ↓pN_3, ↓pN_4, ↓pN_5, ↓pN_6, ↓rl_0, ↓rl_1, ↓rl_2, ↓rl_3, ↓rl_4, ↓hdR_r, ↓hdO_r, va_rf_s, endQ, sL1_0, sL1_ss, sL1_1i, sL1_1r, sL1_1n, sL1_1l, sL2_0, sL2_ss, sL2_1i, sL2_1r, sL2_1n, sL2_1l, List.getElem?_cons_zero, List.getElem?_cons_succ, Option.toList_some, Option.toList_none, List.cons_append, List.nil_append, Nat.reduceAdd, true_and, and_true, and_self, wA_s, wA_w, ↓reduceIte, ite_self]
theorem n_makeWith {d : Nat} {I : Nat → Nat → Int32} {L : Nat → Nat → Int64} {P : Nat → Nat → Option Nat} {n s : Nat} {Q : Qm} (hp : NP P) {x t : Nat} {I0 : Nat → Nat → Int32} (hx : x < 11) (ht : t < 75) (h : SE x (5 * t) I0 I) (kk : ∀ I', SE x (5 * (t + 1)) I0 I' → Q none (I', L, P, n, s)) : Call (d + 3) 72 [.ref 51, .int (nI (2 * (t / 25)) + 1), .int (caV (t / 5 % 5)), .int (caV (t % 5))] (I, L, P, n, s) Q := by
  rw [mk_begin]
  refine mk_T hp hx ht (by decide) h fun I1 h1 => ?_
  refine mk_T hp hx ht (by decide) h1 fun I2 h2 => ?_
  refine mk_T hp hx ht (by decide) h2 fun I3 h3 => ?_
  refine mk_T hp hx ht (by decide) h3 fun I4 h4 => ?_
  refine mk_T hp hx ht (by decide) h4 fun I5 h5 => ?_
  rw [mk_end]
  exact kk _ h5
