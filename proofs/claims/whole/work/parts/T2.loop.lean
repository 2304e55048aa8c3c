/-! the law's loop -/
def ALLCS : Prop := (∀ (v1 : Int32) (v2 : Int32) (v3 : Int32) (v4 : Int32) (v5 : Int32), CS false 90 158 [.int v1, .int v2, .int v3, .int v4, .int v5]) ∧ (∀ (v1 : Int32) (v2 : Int32), CS true 91 159 [.int v1, .int v2]) ∧ (∀ (v1 : Int32), CS true 92 160 [.int v1]) ∧ (∀ (v1 : Int32) (v2 : Int32) (v3 : Int32), CS false 93 161 [.int v1, .int v2, .int v3]) ∧ (∀ (v1 : Int32) (v2 : Int32) (v3 : Int32) (v4 : Int32), CS false 94 162 [.int v1, .int v2, .int v3, .int v4]) ∧ (∀ (v1 : Int32), CS false 95 163 [.int v1]) ∧ (∀ (v1 : Int32), CS false 98 164 [.int v1]) ∧ (∀ (v1 : Int32), CS false 99 165 [.int v1]) ∧ (∀ (v1 : Int32) (v2 : Int32), CS true 101 166 [.int v1, .int v2]) ∧ (∀ (v1 : Int32) (v2 : Int32), CS false 102 167 [.int v1, .int v2]) ∧ (∀ (v1 : Int32), CS false 103 168 [.int v1]) ∧ (∀ (v1 : Int32) (v2 : Int32), CS false 104 169 [.int v1, .int v2]) ∧ (∀ (v1 : Int32) (v2 : Int32), CS false 105 170 [.int v1, .int v2]) ∧ (∀ (v1 : Int32), CS false 106 171 [.int v1]) ∧ (CS false 107 174 []) ∧ (∀ (v1 : Int32) (v2 : Int32), CS true 108 175 [.int v1, .int v2]) ∧ (∀ (v1 : Int32), CS false 109 176 [.int v1]) ∧ (∀ (v1 : Int32), CS true 112 178 [.int v1]) ∧ (∀ (v1 : Int32) (v2 : Int32), CS false 116 181 [.int v1, .int v2]) ∧ (∀ (v1 : Int32) (v2 : Int32), CS false 117 184 [.int v1, .int v2]) ∧ (∀ (v1 : Int32), CS false 118 185 [.int v1]) ∧ (CS false 120 186 []) ∧ (∀ (v1 : Int32), CS false 121 188 [.int v1]) ∧ (∀ (v1 : Int32), CS false 122 189 [.int v1]) ∧ (∀ (v1 : Int32) (v2 : Int32), CS false 123 190 [.int v1, .int v2]) ∧ (∀ (v1 : Int32) (v2 : Int32), CS false 124 191 [.int v1, .int v2]) ∧ (∀ (v1 : Int32), CS false 127 193 [.int v1]) ∧ (∀ (v1 : Int32) (v2 : Int32), CS true 128 194 [.int v1, .int v2]) ∧ (∀ (v1 : Int32), CS false 129 195 [.int v1]) ∧ (∀ (v1 : Int32), CS false 130 196 [.int v1]) ∧ (CS false 131 197 []) ∧ (∀ (v1 : Int32), CS false 132 212 [.int v1]) ∧ (∀ (v1 : Int32) (v2 : Int32), CS false 133 213 [.int v1, .int v2]) ∧ (∀ (v1 : Int32) (v2 : Int32), CS false 134 214 [.int v1, .int v2]) ∧ (∀ (v1 : Int32) (v2 : Int32) (v3 : Int32), CS false 135 215 [.int v1, .int v2, .int v3]) ∧ (∀ (v1 : Int32) (v2 : Int32), CS true 136 216 [.int v1, .int v2]) ∧ (CS false 137 217 []) ∧ (CS false 138 218 []) ∧ (∀ (v1 : Int32), CS false 139 219 [.int v1])
theorem and63 (x : Int32) : ∃ k, k < 64 ∧ x &&& 63 = nI k := by
  refine ⟨(x &&& 63).toBitVec.toNat, ?_, ?_⟩
  · rw [Int32.toBitVec_and, BitVec.toNat_and]
    exact Nat.lt_of_le_of_lt Nat.and_le_right (by decide)
  · rw [i32_nat]
    have h : (x &&& 63).toBitVec.toNat < 64 := by
      rw [Int32.toBitVec_and, BitVec.toNat_and]
      exact Nat.lt_of_le_of_lt Nat.and_le_right (by decide)
    generalize (x &&& 63).toBitVec.toNat = m at h
    have : (nI m).toBitVec.toNat = m % 2 ^ 32 := rfl
    rw [this]
    omega
def ENT : List Nat := [204, 267, 301, 325, 368, 421, 444, 467, 490, 524, 557, 580, 613, 646, 669, 682, 716, 739, 763, 796, 829, 852, 865, 888, 911, 944, 977, 1000, 1034, 1057, 1080, 1093, 1116, 1149, 1182, 1225, 1259, 1272, 1285]
theorem tab_k : ∀ k, k < 64 → tabT 0 ENT 1308 (nI k) = ENT.getD k 1308 := by decide +kernel
theorem cmp6 {N i : Nat} (hN : N ≤ 3072) (hi : i ≤ 3072) : (Int32.ofNat N - 6 < nI i) = (N < i + 6) := by
  have e : (Int32.ofNat N - 6).toInt = (N : Int) - 6 := by
    have h1 : (Int32.ofNat N).toInt = N := nI_toInt (by omega)
    have h2 : (6 : Int32).toInt = 6 := rfl
    rw [Int32.toInt_sub, h1, h2, Int.bmod_eq_of_le (by omega) (by omega)]
  rw [Int32.lt_iff_toInt_lt, e, nI_toInt (by omega)]
  exact propext (by omega)
theorem i6' {a : Nat} : nI a + 6 = nI (a + 6) := nI_add a 6
theorem ll_1 {d b N i n s : Nat} {xs : Nat → Int32} {lim : Nat × Nat} {Q : Qm} {I : Nat → Nat → Int32} {L : Nat → Nat → Int64} {P : Nat → Nat → Option Nat} (hi : i + 5 < N) (hN : N ≤ 3072) : WP (Call (d + 400)) (kLaw b N xs) lim Q 18 [.retAddr b, .ref 0, .ref 454, .int (nI i)] [] (I, L, P, n, s) = WP (Call (d + 400)) (kLaw b N xs) lim Q (tabT 0 ENT 1308 (xs i &&& 63)) [.retAddr b, .ref 0, .ref 454, .int (nI i)] [] (I, L, P, n, s) := by
  have e : (N < i + 6) = False := eq_false (by omega)
  simp (disch := omega) only [↓xL_18, ↓xL_19, ↓xL_20, ↓xL_21, ↓xL_23, ↓xL_24, ↓xL_27, ↓xL_28, ↓xL_29, ↓xL_30, ↓xL_32, ↓xL_33, evl_e, ↓endQ_e, ↓gI_0, ↓gR_0, ↓gX_0, ↓gI_s, ↓gR_s, ↓gX_s, ↓pI_i, ↓pL_l, ↓pR_r, ↓qX_x, ↓p1_i, ↓p1_r, ↓pE_e, ↓pN_z, ↓pN_1, ↓pN_2, ↓pN_3, ↓pN_4, ↓pN_5, ↓pN_6, ↓rl_0, ↓rl_1, ↓rl_2, ↓rl_3, ↓rl_4, ↓hdR_r, kd_0, kd_454, Option.toList_some, Option.toList_none, List.cons_append, List.nil_append, Nat.reduceAdd, true_and, and_true, and_self, ↓reduceIte, tv, tc, i1, i2, i3, i4', i5', lg_cmp_eq, cmp6, e]
  rfl
theorem ll_2 {d b N i n s : Nat} {xs : Nat → Int32} {lim : Nat × Nat} {Q : Qm} {I : Nat → Nat → Int32} {L : Nat → Nat → Int64} {P : Nat → Nat → Option Nat} (hi : ¬ i + 5 < N) (hi2 : i ≤ 3072) (hN : N ≤ 3072) : WP (Call (d + 400)) (kLaw b N xs) lim Q 18 [.retAddr b, .ref 0, .ref 454, .int (nI i)] [] (I, L, P, n, s) = Q (some (.int 1)) (I, L, P, n, s) := by
  have e : (N < i + 6) = True := eq_true (by omega)
  simp (disch := omega) only [↓xL_18, ↓xL_19, ↓xL_20, ↓xL_21, ↓xL_23, ↓xL_24, ↓xL_1314, ↓xL_1315, evl_e, ↓endQ_e, ↓gI_0, ↓gR_0, ↓gX_0, ↓gI_s, ↓gR_s, ↓gX_s, ↓pI_i, ↓pL_l, ↓pR_r, ↓qX_x, ↓p1_i, ↓p1_r, ↓pE_e, ↓pN_z, ↓pN_1, ↓pN_2, ↓pN_3, ↓pN_4, ↓pN_5, ↓pN_6, ↓rl_0, ↓rl_1, ↓rl_2, ↓rl_3, ↓rl_4, ↓hdR_r, kd_0, kd_454, Option.toList_some, Option.toList_none, List.cons_append, List.nil_append, Nat.reduceAdd, true_and, and_true, and_self, ↓reduceIte, tv, tc, i1, i2, i3, i4', i5', lg_cmp_eq, cmp6, e, z_1, or_true]
theorem ll_3 {d b N i n s : Nat} {xs : Nat → Int32} {lim : Nat × Nat} {Q : Qm} {I : Nat → Nat → Int32} {L : Nat → Nat → Int64} {P : Nat → Nat → Option Nat} : WP (Call (d + 400)) (kLaw b N xs) lim Q 1308 [.retAddr b, .ref 0, .ref 454, .int (nI i)] [] (I, L, P, n, s) = WP (Call (d + 400)) (kLaw b N xs) lim Q 18 [.retAddr b, .ref 0, .ref 454, .int (nI (i + 6))] [] (I, L, P, n, s) := by
  simp (disch := omega) only [↓xL_1308, ↓xL_1311, evl_e, ↓endQ_e, ↓gI_0, ↓gR_0, ↓gX_0, ↓gI_s, ↓gR_s, ↓gX_s, ↓pI_i, ↓pL_l, ↓pR_r, ↓qX_x, ↓p1_i, ↓p1_r, ↓pE_e, ↓pN_z, ↓pN_1, ↓pN_2, ↓pN_3, ↓pN_4, ↓pN_5, ↓pN_6, ↓rl_0, ↓rl_1, ↓rl_2, ↓rl_3, ↓rl_4, ↓hdR_r, kd_0, kd_454, Option.toList_some, Option.toList_none, List.cons_append, List.nil_append, Nat.reduceAdd, true_and, and_true, and_self, ↓reduceIte, tv, tc, i1, i2, i3, i4', i5', lg_cmp_eq, i6', sL1_ss, sL1_1r]
theorem law_loop {d b N n s : Nat} {xs : Nat → Int32} {lim : Nat × Nat} {Q : Qm} (hA : ALLCS) (hN : N ≤ 3072) (hQ : ∀ h, Q (some (.int 1)) h) : ∀ (f i : Nat), N < f + i → i ≤ N + 6 → i ≤ 3072 → ∀ (x : Nat) (I : Nat → Nat → Int32) (L : Nat → Nat → Int64) (P : Nat → Nat → Option Nat), REL x I L P → WP (Call (d + 400)) (kLaw b N xs) lim Q 18 [.retAddr b, .ref 0, .ref 454, .int (nI i)] [] (I, L, P, n, s)
  | 0, i, h1, h2, h3, x, I, L, P, hR => by
    rw [ll_2 (by omega) h3 hN]
    exact hQ _
  | f + 1, i, h1, h2, h3, x, I, L, P, hR => by
    by_cases hi : i + 5 < N
    · rw [ll_1 hi hN]
      have kk : ∀ x' I' L' P', REL x' I' L' P' → WP (Call (d + 400)) (kLaw b N xs) lim Q 1308 [.retAddr b, .ref 0, .ref 454, .int (nI i)] [] (I', L', P', n, s) := fun x' I' L' P' R' => by
        rw [ll_3]
        exact law_loop hA hN hQ f (i + 6) (by omega) (by omega) (by omega) x' I' L' P' R'
      obtain ⟨k, hk, e⟩ := and63 (xs i)
      rw [e, tab_k k hk]
      obtain ⟨A0, A1, A2, A3, A4, A5, A6, A7, A8, A9, A10, A11, A12, A13, A14, A15, A16, A17, A18, A19, A20, A21, A22, A23, A24, A25, A26, A27, A28, A29, A30, A31, A32, A33, A34, A35, A36, A37, A38⟩ := id hA
      match k, hk with
      | 0, _ => exact lc_0 (A0 _ _ _ _ _) hR hi hN kk
      | 1, _ => exact lc_1 (A1 _ _) hR hi hN kk
      | 2, _ => exact lc_2 (A2 _) hR hi hN kk
      | 3, _ => exact lc_3 (A3 _ _ _) hR hi hN kk
      | 4, _ => exact lc_4 (A4 _ _ _ _) hR hi hN kk
      | 5, _ => exact lc_5 (A5 _) hR hi hN kk
      | 6, _ => exact lc_6 (A6 _) hR hi hN kk
      | 7, _ => exact lc_7 (A7 _) hR hi hN kk
      | 8, _ => exact lc_8 (A8 _ _) hR hi hN kk
      | 9, _ => exact lc_9 (A9 _ _) hR hi hN kk
      | 10, _ => exact lc_10 (A10 _) hR hi hN kk
      | 11, _ => exact lc_11 (A11 _ _) hR hi hN kk
      | 12, _ => exact lc_12 (A12 _ _) hR hi hN kk
      | 13, _ => exact lc_13 (A13 _) hR hi hN kk
      | 14, _ => exact lc_14 (A14) hR hi hN kk
      | 15, _ => exact lc_15 (A15 _ _) hR hi hN kk
      | 16, _ => exact lc_16 (A16 _) hR hi hN kk
      | 17, _ => exact lc_17 (A17 _) hR hi hN kk
      | 18, _ => exact lc_18 (A18 _ _) hR hi hN kk
      | 19, _ => exact lc_19 (A19 _ _) hR hi hN kk
      | 20, _ => exact lc_20 (A20 _) hR hi hN kk
      | 21, _ => exact lc_21 (A21) hR hi hN kk
      | 22, _ => exact lc_22 (A22 _) hR hi hN kk
      | 23, _ => exact lc_23 (A23 _) hR hi hN kk
      | 24, _ => exact lc_24 (A24 _ _) hR hi hN kk
      | 25, _ => exact lc_25 (A25 _ _) hR hi hN kk
      | 26, _ => exact lc_26 (A26 _) hR hi hN kk
      | 27, _ => exact lc_27 (A27 _ _) hR hi hN kk
      | 28, _ => exact lc_28 (A28 _) hR hi hN kk
      | 29, _ => exact lc_29 (A29 _) hR hi hN kk
      | 30, _ => exact lc_30 (A30) hR hi hN kk
      | 31, _ => exact lc_31 (A31 _) hR hi hN kk
      | 32, _ => exact lc_32 (A32 _ _) hR hi hN kk
      | 33, _ => exact lc_33 (A33 _ _) hR hi hN kk
      | 34, _ => exact lc_34 (A34 _ _ _) hR hi hN kk
      | 35, _ => exact lc_35 (A35 _ _) hR hi hN kk
      | 36, _ => exact lc_36 (A36) hR hi hN kk
      | 37, _ => exact lc_37 (A37) hR hi hN kk
      | 38, _ => exact lc_38 (A38 _) hR hi hN kk
      | k + 39, hk =>
        have e2 : ENT.getD (k + 39) 1308 = 1308 := (by decide +kernel : ∀ k, k < 25 → ENT.getD (k + 39) 1308 = 1308) k (by omega)
        rw [e2]
        exact kk x I L P hR
    · rw [ll_2 hi h3 hN]
      exact hQ _
