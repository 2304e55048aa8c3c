/-! case read: one operand more -/
theorem cmb_e {k p : Nat} {o : Nat → Nat} {f : (Nat → Int32) → (Nat → Int32) → Nat → Int32} {a r : Res} (r1 : ¬ rS r = 1) : cmb k o f p a r = if rS a = 0 then (if rS r = 0 then (if fit4 (f (rV a) (rV r)) = true then rok (rA r) (f (rV a) (rV r)) else rno 3 (rA r) p k o) else r) else rat a (rA r) := by
  unfold cmb
  rw [if_neg r1]
theorem cmb_1 {k p : Nat} {o : Nat → Nat} {f : (Nat → Int32) → (Nat → Int32) → Nat → Int32} {a r : Res} (r1 : rS r = 1) : cmb k o f p a r = r := by
  unfold cmb
  rw [if_pos r1]
theorem cmb_S {k p : Nat} {o : Nat → Nat} {f : (Nat → Int32) → (Nat → Int32) → Nat → Int32} {a r : Res} (a1 : ¬ rS a = 1) (r1 : ¬ rS r = 1) : ¬ rS (cmb k o f p a r) = 1 ∧ rA (cmb k o f p a r) = rA r := by
  rw [cmb_e r1]
  by_cases s : rS a = 0
  · rw [if_pos s]
    by_cases s2 : rS r = 0
    · rw [if_pos s2]
      split
      · exact ⟨fun q => absurd (show (0 : Nat) = 1 from q) (by decide), rfl⟩
      · exact ⟨fun q => absurd (show (3 : Nat) = 1 from q) (by decide), rfl⟩
    · rw [if_neg s2]
      exact ⟨r1, rfl⟩
  · rw [if_neg s]
    exact ⟨a1, rfl⟩
theorem TL_q {J K : Nat → Nat → Int32} {r : Res} (h : TL J r) (w : WYs J K) : TL K r := by
  obtain ⟨w1, w2, w3⟩ := w
  unfold TL
  rw [w1, w2, w3]
  exact h
theorem WYs_w {J : Nat → Nat → Int32} {c : Nat} {V : Nat → Int32} (h : ¬ (c = 430 ∨ c = 432 ∨ c = 433 ∨ c = 434)) : WYs J (wA J c V) := ⟨by rw [tw (by omega)], by rw [tw (by omega)], by rw [tw (by omega)]⟩
theorem WYs_t {I J K : Nat → Nat → Int32} (h : WYs I J) (h' : WYs J K) : WYs I K := ⟨h'.1.trans h.1, h'.2.1.trans h.2.1, h'.2.2.trans h.2.2⟩
theorem WYs_a {J : Nat → Nat → Int32} {i : Nat} : WYs J (aT J i) := ⟨aT_n (by decide), aT_o (by decide), aT_o (by decide)⟩
theorem S34_0 {S : Nat} (h : S = 0 ∨ S = 1 ∨ S = 3 ∨ S = 4) (h0 : ¬ S = 0) : ¬ nI S = 0 := by
  rcases h with rfl | rfl | rfl | rfl
  · exact absurd rfl h0
  all_goals decide
/-- a result goes over to another cell -/
theorem KR_mv {k ca cb : Nat} {r : Res} {I K : Nat → Nat → Int32} {V : Nat → Int32} (hc : ¬ (ca = 430 ∨ ca = 432 ∨ ca = 433 ∨ ca = 434)) (h : KR k r cb I K) (hV : ∀ l, l < 4 → V l = K cb l) : KR k r ca I (wA K ca V) := by
  obtain ⟨h1, h2, h3, h4⟩ := h
  have e30 : wA K ca V 430 = K 430 := tw (by omega)
  have w := WYs_w (J := K) (V := V) hc
  refine ⟨by rw [e30]; exact h1, fun j hj => by rw [tw (by omega)]; exact h2 j hj, fun q => ⟨by rw [e30]; exact (h3 q).1, TL_q (h3 q).2 w⟩, fun q => ⟨fun q2 => ?_, fun q2 => ?_⟩⟩
  · obtain ⟨a, b, c⟩ := (h4 q).1 q2
    exact ⟨by rw [e30]; exact a, fun q3 => ⟨WYs_t (b q3).1 w, fun i hi => by rw [wA_s, hV i hi]; exact (b q3).2 i hi⟩, fun q3 => TL_q (c q3) w⟩
  · obtain ⟨a, b⟩ := (h4 q).2 q2
    exact ⟨by rw [e30]; exact a, WYs_t b w⟩
theorem LSt {k a p ca cb : Nat} {o : Nat → Nat} {f : (Nat → Int32) → (Nat → Int32) → Nat → Int32} {acc r : Res} {I J K M : Nat → Nat → Int32} {V : Nat → Int32} (a1 : ¬ rS acc = 1) (r1 : ¬ rS r = 1) (aS : rS acc = 0 ∨ rS acc = 1 ∨ rS acc = 3 ∨ rS acc = 4) (rS' : rS r = 0 ∨ rS r = 1 ∨ rS r = 3 ∨ rS r = 4) (hA : KR k acc ca I J) (hR : KR k r cb (aT J a) K) (hca : K ca = J ca) (ho : ∀ j, j < k → I 432 j = nI (o j)) (hc : ¬ (ca = 430 ∨ ca = 432 ∨ ca = 433 ∨ ca = 434)) (hV : ∀ l, l < 4 → V l = f (K ca) (K cb) l) (hf : ∀ u u' w w', (∀ l, l < 4 → u l = u' l) → (∀ l, l < 4 → w l = w' l) → ∀ l, l < 4 → f u w l = f u' w' l) (hM : (M = wA K ca V ∧ (fit4 V = true ∨ ¬ K 430 12 = 0)) ∨ (fit4 V = false ∧ K 430 12 = 0 ∧ TK k 3 p (wA K ca V) M)) : KR k (cmb k o f p acc r) ca I M := by
  obtain ⟨A1, A2, A3, A4⟩ := hA
  obtain ⟨R1, R2, R3, R4⟩ := hR
  have A4 := A4 a1
  have R4 := R4 r1
  have pre : ∀ j, j < k → K 432 j = I 432 j := fun j hj => by rw [R2 j hj, aT_o (by decide)]; exact A2 j hj
  have e12 : aT J a 430 12 = J 430 12 := aT_n (by decide)
  rw [e12] at R4
  have e30 : wA K ca V 430 = K 430 := tw (by omega)
  have w := WYs_w (J := K) (V := V) hc
  have pre2 : ∀ j, j < k → wA K ca V 432 j = I 432 j := fun j hj => by rw [tw (by omega)]; exact pre j hj
  by_cases t : I 430 12 = 0
  · obtain ⟨A5, A6, A7⟩ := A4.1 t
    rw [cmb_e r1]
    by_cases s : rS acc = 0
    · have j12 : J 430 12 = 0 := by rw [A5, s]; rfl
      obtain ⟨R5, R6, R7⟩ := R4.1 j12
      obtain ⟨wA', av⟩ := A6 s
      rw [if_pos s]
      by_cases s2 : rS r = 0
      · obtain ⟨wR, rv⟩ := R6 s2
        have k12 : K 430 12 = 0 := by rw [R5, s2]; rfl
        have vv : ∀ l, l < 4 → V l = f (rV acc) (rV r) l := fun l hl => (hV l hl).trans (hf _ _ _ _ (fun l hl => by rw [hca]; exact av l hl) rv l hl)
        have ff : fit4 V = fit4 (f (rV acc) (rV r)) := by
          unfold fit4
          rw [vv 0 (by decide), vv 1 (by decide), vv 2 (by decide), vv 3 (by decide)]
        rw [if_pos s2]
        rcases hM with ⟨rfl, q⟩ | ⟨q1, q2, q3⟩
        · have q : fit4 V = true := by
            rcases q with q | q
            · exact q
            · exact absurd k12 q
          rw [if_pos (by rw [← ff]; exact q)]
          refine KR_ok (by rw [e30]; exact R1) pre2 (by rw [e30, k12, t]) (WYs_t (WYs_t (WYs_t wA' WYs_a) wR) w) (fun l hl => by rw [wA_s]; exact vv l hl)
        · rw [if_neg (by rw [← ff, q1]; decide)]
          exact KR_n (by decide) (by decide) t pre2 (by rw [e30]; exact R1) ho q3
      · have k12 : ¬ K 430 12 = 0 := by rw [R5]; exact S34_0 rS' s2
        rw [if_neg s2]
        rcases hM with ⟨rfl, -⟩ | ⟨-, q2, -⟩
        · exact ⟨by rw [e30]; exact R1, pre2, fun q => absurd q r1, fun _ => ⟨fun _ => ⟨by rw [e30]; exact R5, fun q => absurd q s2, fun q => TL_q (R7 q) w⟩, fun q => absurd t q⟩⟩
        · exact absurd q2 k12
    · have j12 : ¬ J 430 12 = 0 := by rw [A5]; exact S34_0 aS s
      obtain ⟨R5, wR⟩ := R4.2 j12
      have k12 : ¬ K 430 12 = 0 := by rw [R5]; exact j12
      rw [if_neg s]
      rcases hM with ⟨rfl, -⟩ | ⟨-, q2, -⟩
      · exact ⟨by rw [e30]; exact R1, pre2, fun q => absurd q a1, fun _ => ⟨fun _ => ⟨by rw [e30, R5]; exact A5, fun q => absurd q s, fun q => TL_q (TL_q (TL_q (show TL J (rat acc (rA r)) from A7 q) WYs_a) wR) w⟩, fun q => absurd t q⟩⟩
      · exact absurd q2 k12
  · obtain ⟨A5, wA'⟩ := A4.2 t
    have j12 : ¬ J 430 12 = 0 := by rw [A5]; exact t
    obtain ⟨R5, wR⟩ := R4.2 j12
    have k12 : ¬ K 430 12 = 0 := by rw [R5]; exact j12
    obtain ⟨c1, c2⟩ := cmb_S (k := k) (o := o) (f := f) (p := p) a1 r1
    rcases hM with ⟨rfl, -⟩ | ⟨-, q2, -⟩
    · exact KR_u c1 t (by rw [e30, c2]; exact R1) pre2 (by rw [e30, R5]; exact A5) (WYs_t (WYs_t (WYs_t wA' WYs_a) wR) w)
    · exact absurd q2 k12
set_option maxRecDepth 100000 in
theorem k_check {d : Nat} {I : Nat → Nat → Int32} {L : Nat → Nat → Int64} {P : Nat → Nat → Option Nat} {n s : Nat} {Q : Qm} {k p c : Nat} (hc : CP P) (hk : k ≤ 4) (hq : kd c = 3) (hQ : ∀ M, ((M = I ∧ (fit4 (I c) = true ∨ ¬ I 430 12 = 0)) ∨ (fit4 (I c) = false ∧ I 430 12 = 0 ∧ TK k 3 p I M)) → Q none (M, L, P, n, s)) : Call (d + 6) 65 [.ref 430, .ref c, .int (nI k), .int (nI p)] (I, L, P, n, s) Q := by
  have e3 : (3 : Int32) = nI 3 := rfl
  cases hf : fit4 (I c)
  · by_cases t : I 430 12 = 0
    · simp (disch := first | assumption | omega | decide | (refine kdN ?_; omega) | (refine kdS ?_; omega) | (refine kd_REGS0 ?_; omega) | (refine kd_BOOK_noted0 ?_; omega) | (refine kd_IREGS0 ?_; omega) | (refine kd_IBOOK_noted0 ?_; omega) | (refine kd_SUMS0 ?_; omega) | (refine kd_TERMS0 ?_; omega) | (refine kd_FACT0 ?_; omega) | (simp (disch := omega) only [tw])) only [↓c65, ↓x65_0, ↓x65_1, ↓x65_4, ↓x65_7, ↓x65_8, ↓x65_9, ↓x65_10, ↓x65_11, ↓x65_14, evl_e, ↓endQ_e, ↓gI_0, ↓gL_0, ↓gR_0, ↓gI_s, ↓gL_s, ↓gR_s, ↓pI_i, ↓pL_l, ↓pR_r, ↓p1_i, ↓p1_r, ↓pE_e, ↓pN_z, ↓pN_1, ↓pN_2, ↓pN_3, ↓pN_4, ↓pN_5, ↓pN_6, ↓rl_0, ↓rl_1, ↓rl_2, ↓rl_3, ↓rl_4, ↓hdR_r, ↓hdO_r, va_rf_s, sL1_0, sL1_ss, sL1_1i, sL1_1r, sL1_1n, sL1_1l, sL2_0, sL2_ss, sL2_1i, sL2_1r, sL2_1n, sL2_1l, List.getElem?_cons_zero, List.getElem?_cons_succ, Option.toList_some, Option.toList_none, List.cons_append, List.nil_append, Nat.reduceAdd, true_and, and_true, and_self, wA_s, wA_w, ↓reduceIte, ite_self, true_or, or_true, tv, tc, tl, tg, t0, tz, tw, tu, tup, tuL, nI_add, pk_mul, upd_s, tup_s, tuL_s, nI_0, i1, i2, i3, i4, nm1, kd_430, ↓q_fit, hq, hf, bI_f]
      rw [e3]
      refine kc_0 hc hk t fun J hJ => ?_
      simp (disch := first | assumption | omega | decide | (refine kdN ?_; omega) | (refine kdS ?_; omega) | (refine kd_REGS0 ?_; omega) | (refine kd_BOOK_noted0 ?_; omega) | (refine kd_IREGS0 ?_; omega) | (refine kd_IBOOK_noted0 ?_; omega) | (refine kd_SUMS0 ?_; omega) | (refine kd_TERMS0 ?_; omega) | (refine kd_FACT0 ?_; omega) | (simp (disch := omega) only [tw])) only [↓x65_1, ↓x65_4, ↓x65_7, ↓x65_8, ↓x65_9, ↓x65_10, ↓x65_11, ↓x65_14, evl_e, ↓endQ_e, ↓gI_0, ↓gL_0, ↓gR_0, ↓gI_s, ↓gL_s, ↓gR_s, ↓pI_i, ↓pL_l, ↓pR_r, ↓p1_i, ↓p1_r, ↓pE_e, ↓pN_z, ↓pN_1, ↓pN_2, ↓pN_3, ↓pN_4, ↓pN_5, ↓pN_6, ↓rl_0, ↓rl_1, ↓rl_2, ↓rl_3, ↓rl_4, ↓hdR_r, ↓hdO_r, va_rf_s, sL1_0, sL1_ss, sL1_1i, sL1_1r, sL1_1n, sL1_1l, sL2_0, sL2_ss, sL2_1i, sL2_1r, sL2_1n, sL2_1l, List.getElem?_cons_zero, List.getElem?_cons_succ, Option.toList_some, Option.toList_none, List.cons_append, List.nil_append, Nat.reduceAdd, true_and, and_true, and_self, wA_s, wA_w, ↓reduceIte, ite_self, true_or, or_true, tv, tc, tl, tg, t0, tz, tw, tu, tup, tuL, nI_add, pk_mul, upd_s, tup_s, tuL_s, nI_0, i1, i2, i3, i4, nm1]
      exact hQ J (Or.inr ⟨hf, t, hJ⟩)
    · simp (disch := first | assumption | omega | decide | (refine kdN ?_; omega) | (refine kdS ?_; omega) | (refine kd_REGS0 ?_; omega) | (refine kd_BOOK_noted0 ?_; omega) | (refine kd_IREGS0 ?_; omega) | (refine kd_IBOOK_noted0 ?_; omega) | (refine kd_SUMS0 ?_; omega) | (refine kd_TERMS0 ?_; omega) | (refine kd_FACT0 ?_; omega) | (simp (disch := omega) only [tw])) only [↓c65, ↓x65_0, ↓x65_1, ↓x65_4, ↓x65_7, ↓x65_8, ↓x65_9, ↓x65_10, ↓x65_11, ↓x65_14, evl_e, ↓endQ_e, ↓gI_0, ↓gL_0, ↓gR_0, ↓gI_s, ↓gL_s, ↓gR_s, ↓pI_i, ↓pL_l, ↓pR_r, ↓p1_i, ↓p1_r, ↓pE_e, ↓pN_z, ↓pN_1, ↓pN_2, ↓pN_3, ↓pN_4, ↓pN_5, ↓pN_6, ↓rl_0, ↓rl_1, ↓rl_2, ↓rl_3, ↓rl_4, ↓hdR_r, ↓hdO_r, va_rf_s, sL1_0, sL1_ss, sL1_1i, sL1_1r, sL1_1n, sL1_1l, sL2_0, sL2_ss, sL2_1i, sL2_1r, sL2_1n, sL2_1l, List.getElem?_cons_zero, List.getElem?_cons_succ, Option.toList_some, Option.toList_none, List.cons_append, List.nil_append, Nat.reduceAdd, true_and, and_true, and_self, wA_s, wA_w, ↓reduceIte, ite_self, true_or, or_true, tv, tc, tl, tg, t0, tz, tw, tu, tup, tuL, nI_add, pk_mul, upd_s, tup_s, tuL_s, nI_0, i1, i2, i3, i4, nm1, kd_430, ↓q_fit, hq, hf, bI_f, ↓kc_1 t]
      exact hQ I (Or.inl ⟨rfl, Or.inr t⟩)
  · simp (disch := first | assumption | omega | decide | (refine kdN ?_; omega) | (refine kdS ?_; omega) | (refine kd_REGS0 ?_; omega) | (refine kd_BOOK_noted0 ?_; omega) | (refine kd_IREGS0 ?_; omega) | (refine kd_IBOOK_noted0 ?_; omega) | (refine kd_SUMS0 ?_; omega) | (refine kd_TERMS0 ?_; omega) | (refine kd_FACT0 ?_; omega) | (simp (disch := omega) only [tw])) only [↓c65, ↓x65_0, ↓x65_1, ↓x65_4, ↓x65_7, ↓x65_8, ↓x65_9, ↓x65_10, ↓x65_11, ↓x65_14, evl_e, ↓endQ_e, ↓gI_0, ↓gL_0, ↓gR_0, ↓gI_s, ↓gL_s, ↓gR_s, ↓pI_i, ↓pL_l, ↓pR_r, ↓p1_i, ↓p1_r, ↓pE_e, ↓pN_z, ↓pN_1, ↓pN_2, ↓pN_3, ↓pN_4, ↓pN_5, ↓pN_6, ↓rl_0, ↓rl_1, ↓rl_2, ↓rl_3, ↓rl_4, ↓hdR_r, ↓hdO_r, va_rf_s, sL1_0, sL1_ss, sL1_1i, sL1_1r, sL1_1n, sL1_1l, sL2_0, sL2_ss, sL2_1i, sL2_1r, sL2_1n, sL2_1l, List.getElem?_cons_zero, List.getElem?_cons_succ, Option.toList_some, Option.toList_none, List.cons_append, List.nil_append, Nat.reduceAdd, true_and, and_true, and_self, wA_s, wA_w, ↓reduceIte, ite_self, true_or, or_true, tv, tc, tl, tg, t0, tz, tw, tu, tup, tuL, nI_add, pk_mul, upd_s, tup_s, tuL_s, nI_0, i1, i2, i3, i4, nm1, kd_430, ↓q_fit, hq, hf, bI_t, e_10]
    exact hQ I (Or.inl ⟨rfl, Or.inl hf⟩)
theorem lpR_s {T : Nat → Nat} {z : Nat} {S : Nat → Bool} {f : Nat → (Nat → Int32) → (Nat → Int32) → Nat → Int32} {k m : Nat} {o : Nat → Nat} {F : Nat → Res} {a : Res} : lpR T z S f k o F (m + 1) a = if rS a = 1 then a else if S (chT T z (rA a)) = true then lpR T z S f k o F m (cmb k o (f (chT T z (rA a))) (rA a) a (F (rA a + 1))) else a := rfl
theorem lpR_1 {T : Nat → Nat} {z : Nat} {S : Nat → Bool} {f : Nat → (Nat → Int32) → (Nat → Int32) → Nat → Int32} {k : Nat} {o : Nat → Nat} {F : Nat → Res} {a : Res} (h : rS a = 1) : ∀ m, lpR T z S f k o F m a = a
  | 0 => rfl
  | m + 1 => by rw [lpR_s, if_pos h]
theorem mulV_q : ∀ u u' w w' : Nat → Int32, (∀ l, l < 4 → u l = u' l) → (∀ l, l < 4 → w l = w' l) → ∀ l, l < 4 → mulV u w l = mulV u' w' l := by
  intro u u' w w' h1 h2 l hl
  obtain ⟨e1, e2, e3, e4⟩ := p4_q h1 h2
  unfold mulV
  rw [e1, e2, e3, e4]
theorem chT_lt {T : Nat → Nat} {z i : Nat} (h : i < z) : chT T z i = T i := if_pos h
theorem chT_ge {T : Nat → Nat} {z i : Nat} (h : ¬ i < z) : chT T z i = 0 := if_neg h
set_option maxRecDepth 100000 in
theorem kt_l {d : Nat} {L : Nat → Nat → Int64} {P : Nat → Nat → Option Nat} {n s : Nat} {Q : Qm} {T : Nat → Nat} {z x k i : Nat} {g : Nat → Nat → Int32} {o : Nat → Nat} {F : Nat → Res} (hc : CP P) (hk : k ≤ 4) (hF : ∀ j, i < j → j ≤ z → CON T z x g L P n s 55 (d + 7) k o (k + 1) (k + 1) k (448 + k) j (F j)) (hB : ∀ j, i < j → j ≤ z → RB z k j (F j)) : ∀ m acc (I J : Nat → Nat → Int32) v2, RB z k i acc → ¬ rS acc = 1 → z < m + rA acc → ST T z x g (rA acc) J → KF (k + 1) k k I J → KR k acc (442 + k) I J → (∀ j, j < k → I 432 j = nI (o j)) → (∀ J, KF (k + 1) k k I J → KR k (lpR T z ch42 (fun _ => mulV) k o F m acc) (442 + k) I J → Q (some (.int (bI (decide (¬ rS (lpR T z ch42 (fun _ => mulV) k o F m acc) = 1))))) (J, L, P, n, s)) → WP (Call (d + 7)) (kod 54) (n, s) (endQ n s Q) 25 [.ref 430, .int (nI k), v2] [] (J, L, P, n, s)
  | 0, acc, I, J, v2, b, a1, hm, h, hK, hR, ho, hQ => by
    have := b.2.1
    omega
  | m + 1, acc, I, J, v2, b, a1, hm, h, hK, hR, ho, hQ => by
    have az := b.2.1
    have ai := b.2.2.1 a1
    rw [lpR_s, if_neg a1] at hQ
    generalize ha : rA acc = a at *
    have e11 := h.2.2.2.2.2.2.2.2.1
    have e10 := h.2.2.2.1
    have z80 := h.1
    have d1 : decide (¬ rS acc = 1) = true := decide_eq_true a1
    obtain ⟨c0_0, c0_1, c0_2, c0_3, c0_4, c0_5, c0_6, c0_7, c0_8, c0_9, c0_10, c1_0, c1_1, c8_0, c8_1, c25_0, c25_1, c33_0, c33_1, c430_0, c430_1, c430_2, c430_3, c430_4, c430_5, c430_6, c430_7, c430_8, c430_9, cA43, cA18, cA9, cA26, cA34, cA435, cA441, cA447⟩ := id hc
    rw [x54_25]
    by_cases c : a < z
    · have eT := h.2.2.2.2.1 a c
      have bT := h.2.2.1 a c
      by_cases c2 : T a = 42
      · have hch : ch42 (chT T z a) = true := by rw [chT_lt c, c2]; rfl
        have e42 : (nI (T a) = 42) = True := eq_true (by rw [c2]; rfl)
        have kT : kd (442 + k) = 3 := kd_TERMS0 (by omega)
        have kF : kd (448 + k) = 3 := kd_FACT0 (by omega)
        rw [if_pos hch] at hQ
        simp (disch := first | assumption | omega | decide | (refine kdN ?_; omega) | (refine kdS ?_; omega) | (refine kd_REGS0 ?_; omega) | (refine kd_BOOK_noted0 ?_; omega) | (refine kd_IREGS0 ?_; omega) | (refine kd_IBOOK_noted0 ?_; omega) | (refine kd_SUMS0 ?_; omega) | (refine kd_TERMS0 ?_; omega) | (refine kd_FACT0 ?_; omega) | (simp (disch := omega) only [tw])) only [↓x54_0, ↓x54_1, ↓x54_2, ↓x54_5, ↓x54_8, ↓x54_9, ↓x54_10, ↓x54_11, ↓x54_14, ↓x54_15, ↓x54_16, ↓x54_17, ↓x54_20, ↓x54_21, ↓x54_22, ↓x54_26, ↓x54_29, ↓x54_30, ↓x54_33, ↓x54_36, ↓x54_37, ↓x54_40, ↓x54_41, ↓x54_44, ↓x54_45, ↓x54_47, ↓x54_50, ↓x54_51, ↓x54_54, ↓x54_55, ↓x54_56, ↓x54_57, ↓x54_60, ↓x54_61, ↓x54_62, ↓x54_65, ↓x54_66, ↓x54_67, ↓x54_70, ↓x54_73, ↓x54_74, ↓x54_75, ↓x54_76, ↓x54_79, ↓x54_80, ↓x54_81, ↓x54_82, ↓x54_85, ↓x54_86, ↓x54_87, ↓x54_88, ↓x54_91, ↓x54_92, ↓x54_93, ↓x54_96, ↓x54_97, ↓x54_98, ↓x54_101, ↓x54_102, ↓x54_103, ↓x54_104, ↓x54_105, ↓x54_108, ↓x54_111, ↓x54_112, evl_e, ↓endQ_e, ↓gI_0, ↓gL_0, ↓gR_0, ↓gI_s, ↓gL_s, ↓gR_s, ↓pI_i, ↓pL_l, ↓pR_r, ↓p1_i, ↓p1_r, ↓pE_e, ↓pN_z, ↓pN_1, ↓pN_2, ↓pN_3, ↓pN_4, ↓pN_5, ↓pN_6, ↓rl_0, ↓rl_1, ↓rl_2, ↓rl_3, ↓rl_4, ↓hdR_r, ↓hdO_r, va_rf_s, sL1_0, sL1_ss, sL1_1i, sL1_1r, sL1_1n, sL1_1l, sL2_0, sL2_ss, sL2_1i, sL2_1r, sL2_1n, sL2_1l, List.getElem?_cons_zero, List.getElem?_cons_succ, Option.toList_some, Option.toList_none, List.cons_append, List.nil_append, Nat.reduceAdd, true_and, and_true, and_self, wA_s, wA_w, ↓reduceIte, ite_self, true_or, or_true, tv, tc, tl, tg, t0, tz, tw, tu, tup, tuL, nI_add, pk_mul, upd_s, tup_s, tuL_s, nI_0, i1, i2, i3, i4, nm1, kd_430, kd_431, ln_431, c430_2, e10, e11, eT, e42, aT_f]
        refine hF (a + 1) (by omega) c (aT J (a + 1)) _ (ST_at h c) (fun l hl => by rw [aT_o (by decide), hR.2.1 l hl]; exact ho l hl) fun K hK2 hR2 => ?_
        have b2 := hB (a + 1) (by omega) c
        have hK3 : KF (k + 1) k k I K := KF_t (KF_t hK (KF_at KF_r)) (KF_m hK2 (by omega) (by omega) (by omega))
        by_cases r1 : rS (F (a + 1)) = 1
        · have d2 : decide (¬ rS (F (a + 1)) = 1) = false := decide_eq_false (fun q => q r1)
          rw [cmb_1 r1, lpR_1 r1] at hQ
          simp (disch := first | assumption | omega | decide | (refine kdN ?_; omega) | (refine kdS ?_; omega) | (refine kd_REGS0 ?_; omega) | (refine kd_BOOK_noted0 ?_; omega) | (refine kd_IREGS0 ?_; omega) | (refine kd_IBOOK_noted0 ?_; omega) | (refine kd_SUMS0 ?_; omega) | (refine kd_TERMS0 ?_; omega) | (refine kd_FACT0 ?_; omega) | (simp (disch := omega) only [tw])) only [↓x54_0, ↓x54_1, ↓x54_2, ↓x54_5, ↓x54_8, ↓x54_9, ↓x54_10, ↓x54_11, ↓x54_14, ↓x54_15, ↓x54_16, ↓x54_17, ↓x54_20, ↓x54_21, ↓x54_22, ↓x54_26, ↓x54_29, ↓x54_30, ↓x54_33, ↓x54_36, ↓x54_37, ↓x54_40, ↓x54_41, ↓x54_44, ↓x54_45, ↓x54_47, ↓x54_50, ↓x54_51, ↓x54_54, ↓x54_55, ↓x54_56, ↓x54_57, ↓x54_60, ↓x54_61, ↓x54_62, ↓x54_65, ↓x54_66, ↓x54_67, ↓x54_70, ↓x54_73, ↓x54_74, ↓x54_75, ↓x54_76, ↓x54_79, ↓x54_80, ↓x54_81, ↓x54_82, ↓x54_85, ↓x54_86, ↓x54_87, ↓x54_88, ↓x54_91, ↓x54_92, ↓x54_93, ↓x54_96, ↓x54_97, ↓x54_98, ↓x54_101, ↓x54_102, ↓x54_103, ↓x54_104, ↓x54_105, ↓x54_108, ↓x54_111, ↓x54_112, evl_e, ↓endQ_e, ↓gI_0, ↓gL_0, ↓gR_0, ↓gI_s, ↓gL_s, ↓gR_s, ↓pI_i, ↓pL_l, ↓pR_r, ↓p1_i, ↓p1_r, ↓pE_e, ↓pN_z, ↓pN_1, ↓pN_2, ↓pN_3, ↓pN_4, ↓pN_5, ↓pN_6, ↓rl_0, ↓rl_1, ↓rl_2, ↓rl_3, ↓rl_4, ↓hdR_r, ↓hdO_r, va_rf_s, sL1_0, sL1_ss, sL1_1i, sL1_1r, sL1_1n, sL1_1l, sL2_0, sL2_ss, sL2_1i, sL2_1r, sL2_1n, sL2_1l, List.getElem?_cons_zero, List.getElem?_cons_succ, Option.toList_some, Option.toList_none, List.cons_append, List.nil_append, Nat.reduceAdd, true_and, and_true, and_self, wA_s, wA_w, ↓reduceIte, ite_self, true_or, or_true, tv, tc, tl, tg, t0, tz, tw, tu, tup, tuL, nI_add, pk_mul, upd_s, tup_s, tuL_s, nI_0, i1, i2, i3, i4, nm1, d2, bI_f, z_0]
          rw [d2] at hQ
          exact hQ K hK3 ⟨hR2.1, fun j hj => by rw [hR2.2.1 j hj, aT_o (by decide)]; exact hR.2.1 j hj, hR2.2.2.1, fun q => absurd r1 q⟩
        · have d2 : decide (¬ rS (F (a + 1)) = 1) = true := decide_eq_true r1
          simp (disch := first | assumption | omega | decide | (refine kdN ?_; omega) | (refine kdS ?_; omega) | (refine kd_REGS0 ?_; omega) | (refine kd_BOOK_noted0 ?_; omega) | (refine kd_IREGS0 ?_; omega) | (refine kd_IBOOK_noted0 ?_; omega) | (refine kd_SUMS0 ?_; omega) | (refine kd_TERMS0 ?_; omega) | (refine kd_FACT0 ?_; omega) | (simp (disch := omega) only [tw])) only [↓x54_0, ↓x54_1, ↓x54_2, ↓x54_5, ↓x54_8, ↓x54_9, ↓x54_10, ↓x54_11, ↓x54_14, ↓x54_15, ↓x54_16, ↓x54_17, ↓x54_20, ↓x54_21, ↓x54_22, ↓x54_26, ↓x54_29, ↓x54_30, ↓x54_33, ↓x54_36, ↓x54_37, ↓x54_40, ↓x54_41, ↓x54_44, ↓x54_45, ↓x54_47, ↓x54_50, ↓x54_51, ↓x54_54, ↓x54_55, ↓x54_56, ↓x54_57, ↓x54_60, ↓x54_61, ↓x54_62, ↓x54_65, ↓x54_66, ↓x54_67, ↓x54_70, ↓x54_73, ↓x54_74, ↓x54_75, ↓x54_76, ↓x54_79, ↓x54_80, ↓x54_81, ↓x54_82, ↓x54_85, ↓x54_86, ↓x54_87, ↓x54_88, ↓x54_91, ↓x54_92, ↓x54_93, ↓x54_96, ↓x54_97, ↓x54_98, ↓x54_101, ↓x54_102, ↓x54_103, ↓x54_104, ↓x54_105, ↓x54_108, ↓x54_111, ↓x54_112, evl_e, ↓endQ_e, ↓gI_0, ↓gL_0, ↓gR_0, ↓gI_s, ↓gL_s, ↓gR_s, ↓pI_i, ↓pL_l, ↓pR_r, ↓p1_i, ↓p1_r, ↓pE_e, ↓pN_z, ↓pN_1, ↓pN_2, ↓pN_3, ↓pN_4, ↓pN_5, ↓pN_6, ↓rl_0, ↓rl_1, ↓rl_2, ↓rl_3, ↓rl_4, ↓hdR_r, ↓hdO_r, va_rf_s, sL1_0, sL1_ss, sL1_1i, sL1_1r, sL1_1n, sL1_1l, sL2_0, sL2_ss, sL2_1i, sL2_1r, sL2_1n, sL2_1l, List.getElem?_cons_zero, List.getElem?_cons_succ, Option.toList_some, Option.toList_none, List.cons_append, List.nil_append, Nat.reduceAdd, true_and, and_true, and_self, wA_s, wA_w, ↓reduceIte, ite_self, true_or, or_true, tv, tc, tl, tg, t0, tz, tw, tu, tup, tuL, nI_add, pk_mul, upd_s, tup_s, tuL_s, nI_0, i1, i2, i3, i4, nm1, d2, bI_t, e_10, kd_430, kd_441, ln_441, kd_447, ln_447, c430_7, c430_8, cA441, cA447, ↓q_prod, kT, kF]
          refine k_check (p := a) hc hk kT fun M hM => ?_
          simp (disch := first | assumption | omega | decide | (refine kdN ?_; omega) | (refine kdS ?_; omega) | (refine kd_REGS0 ?_; omega) | (refine kd_BOOK_noted0 ?_; omega) | (refine kd_IREGS0 ?_; omega) | (refine kd_IBOOK_noted0 ?_; omega) | (refine kd_SUMS0 ?_; omega) | (refine kd_TERMS0 ?_; omega) | (refine kd_FACT0 ?_; omega) | (simp (disch := omega) only [tw])) only [↓x54_0, ↓x54_1, ↓x54_2, ↓x54_5, ↓x54_8, ↓x54_9, ↓x54_10, ↓x54_11, ↓x54_14, ↓x54_15, ↓x54_16, ↓x54_17, ↓x54_20, ↓x54_21, ↓x54_22, ↓x54_26, ↓x54_29, ↓x54_30, ↓x54_33, ↓x54_36, ↓x54_37, ↓x54_40, ↓x54_41, ↓x54_44, ↓x54_45, ↓x54_47, ↓x54_50, ↓x54_51, ↓x54_54, ↓x54_55, ↓x54_56, ↓x54_57, ↓x54_60, ↓x54_61, ↓x54_62, ↓x54_65, ↓x54_66, ↓x54_67, ↓x54_70, ↓x54_73, ↓x54_74, ↓x54_75, ↓x54_76, ↓x54_79, ↓x54_80, ↓x54_81, ↓x54_82, ↓x54_85, ↓x54_86, ↓x54_87, ↓x54_88, ↓x54_91, ↓x54_92, ↓x54_93, ↓x54_96, ↓x54_97, ↓x54_98, ↓x54_101, ↓x54_102, ↓x54_103, ↓x54_104, ↓x54_105, ↓x54_108, ↓x54_111, ↓x54_112, evl_e, ↓endQ_e, ↓gI_0, ↓gL_0, ↓gR_0, ↓gI_s, ↓gL_s, ↓gR_s, ↓pI_i, ↓pL_l, ↓pR_r, ↓p1_i, ↓p1_r, ↓pE_e, ↓pN_z, ↓pN_1, ↓pN_2, ↓pN_3, ↓pN_4, ↓pN_5, ↓pN_6, ↓rl_0, ↓rl_1, ↓rl_2, ↓rl_3, ↓rl_4, ↓hdR_r, ↓hdO_r, va_rf_s, sL1_0, sL1_ss, sL1_1i, sL1_1r, sL1_1n, sL1_1l, sL2_0, sL2_ss, sL2_1i, sL2_1r, sL2_1n, sL2_1l, List.getElem?_cons_zero, List.getElem?_cons_succ, Option.toList_some, Option.toList_none, List.cons_append, List.nil_append, Nat.reduceAdd, true_and, and_true, and_self, wA_s, wA_w, ↓reduceIte, ite_self, true_or, or_true, tv, tc, tl, tg, t0, tz, tw, tu, tup, tuL, nI_add, pk_mul, upd_s, tup_s, tuL_s, nI_0, i1, i2, i3, i4, nm1]
          have hca : K (442 + k) = J (442 + k) := by rw [hK2.2.2.2.1 k (by omega), aT_o (by omega)]
          have L1 := LSt (f := mulV) (o := o) (p := a) (M := M) (V := q4 (K (442 + k)) (pA (K (442 + k)) (K (448 + k))) (pB (K (442 + k)) (K (448 + k))) (pC (K (442 + k)) (K (448 + k))) (pD (K (442 + k)) (K (448 + k)))) a1 r1 b.1 b2.1 hR hR2 hca ho (by omega) q4_k mulV_q (by
            rw [wA_s, tw (show ¬ 430 = 442 + k by omega)] at hM
            exact hM)
          have hKM : KF (k + 1) k k I M := by
            have w : KF (k + 1) k k I (wA K (442 + k) (q4 (K (442 + k)) (pA (K (442 + k)) (K (448 + k))) (pB (K (442 + k)) (K (448 + k))) (pC (K (442 + k)) (K (448 + k))) (pD (K (442 + k)) (K (448 + k))))) := KF_w hK3 (by omega) (by omega) (by omega) (by omega)
            rcases hM with ⟨rfl, -⟩ | ⟨-, -, q⟩
            · exact w
            · exact KF_t w (KF_tk q)
          obtain ⟨c3, c4⟩ := cmb_S (k := k) (o := o) (f := mulV) (p := a) a1 r1
          have b3 := cmb_b (p := a) (o := o) (f := mulV) hk b a1 b2 (show i ≤ a + 1 by omega)
          have b4 := b2.2.2.1 r1
          exact kt_l hc hk hF hB m _ I M _ b3 c3 (by omega) (ST_f h (KF_t (KF_t (KF_at KF_r) (KF_m hK2 (Nat.zero_le _) (Nat.zero_le _) (Nat.zero_le _))) (show KF 0 0 0 K M by
            have w : KF 0 0 0 K (wA K (442 + k) (q4 (K (442 + k)) (pA (K (442 + k)) (K (448 + k))) (pB (K (442 + k)) (K (448 + k))) (pC (K (442 + k)) (K (448 + k))) (pD (K (442 + k)) (K (448 + k))))) := KF_w KF_r (by omega) (by omega) (by omega) (by omega)
            rcases hM with ⟨rfl, -⟩ | ⟨-, -, q⟩
            · exact w
            · exact KF_t w (KF_tk q))) L1.1 b3.2.1) hKM L1 ho hQ
      · have hch : ¬ ch42 (chT T z a) = true := by
          rw [chT_lt c]
          intro q
          exact c2 (Nat.eq_of_beq_eq_true q)
        have e42 : (nI (T a) = 42) = False := eq_false (fun q => c2 ((nI_eq (b := 42) (by omega) (by decide)).mp q))
        rw [if_neg hch] at hQ
        simp (disch := first | assumption | omega | decide | (refine kdN ?_; omega) | (refine kdS ?_; omega) | (refine kd_REGS0 ?_; omega) | (refine kd_BOOK_noted0 ?_; omega) | (refine kd_IREGS0 ?_; omega) | (refine kd_IBOOK_noted0 ?_; omega) | (refine kd_SUMS0 ?_; omega) | (refine kd_TERMS0 ?_; omega) | (refine kd_FACT0 ?_; omega) | (simp (disch := omega) only [tw])) only [↓x54_0, ↓x54_1, ↓x54_2, ↓x54_5, ↓x54_8, ↓x54_9, ↓x54_10, ↓x54_11, ↓x54_14, ↓x54_15, ↓x54_16, ↓x54_17, ↓x54_20, ↓x54_21, ↓x54_22, ↓x54_26, ↓x54_29, ↓x54_30, ↓x54_33, ↓x54_36, ↓x54_37, ↓x54_40, ↓x54_41, ↓x54_44, ↓x54_45, ↓x54_47, ↓x54_50, ↓x54_51, ↓x54_54, ↓x54_55, ↓x54_56, ↓x54_57, ↓x54_60, ↓x54_61, ↓x54_62, ↓x54_65, ↓x54_66, ↓x54_67, ↓x54_70, ↓x54_73, ↓x54_74, ↓x54_75, ↓x54_76, ↓x54_79, ↓x54_80, ↓x54_81, ↓x54_82, ↓x54_85, ↓x54_86, ↓x54_87, ↓x54_88, ↓x54_91, ↓x54_92, ↓x54_93, ↓x54_96, ↓x54_97, ↓x54_98, ↓x54_101, ↓x54_102, ↓x54_103, ↓x54_104, ↓x54_105, ↓x54_108, ↓x54_111, ↓x54_112, evl_e, ↓endQ_e, ↓gI_0, ↓gL_0, ↓gR_0, ↓gI_s, ↓gL_s, ↓gR_s, ↓pI_i, ↓pL_l, ↓pR_r, ↓p1_i, ↓p1_r, ↓pE_e, ↓pN_z, ↓pN_1, ↓pN_2, ↓pN_3, ↓pN_4, ↓pN_5, ↓pN_6, ↓rl_0, ↓rl_1, ↓rl_2, ↓rl_3, ↓rl_4, ↓hdR_r, ↓hdO_r, va_rf_s, sL1_0, sL1_ss, sL1_1i, sL1_1r, sL1_1n, sL1_1l, sL2_0, sL2_ss, sL2_1i, sL2_1r, sL2_1n, sL2_1l, List.getElem?_cons_zero, List.getElem?_cons_succ, Option.toList_some, Option.toList_none, List.cons_append, List.nil_append, Nat.reduceAdd, true_and, and_true, and_self, wA_s, wA_w, ↓reduceIte, ite_self, true_or, or_true, tv, tc, tl, tg, t0, tz, tw, tu, tup, tuL, nI_add, pk_mul, upd_s, tup_s, tuL_s, nI_0, i1, i2, i3, i4, nm1, kd_430, kd_431, ln_431, c430_2, e10, e11, eT, e42, z_1]
        rw [d1] at hQ
        exact hQ J hK hR
    · have hch : ¬ ch42 (chT T z a) = true := by rw [chT_ge c]; decide
      rw [if_neg hch] at hQ
      simp (disch := first | assumption | omega | decide | (refine kdN ?_; omega) | (refine kdS ?_; omega) | (refine kd_REGS0 ?_; omega) | (refine kd_BOOK_noted0 ?_; omega) | (refine kd_IREGS0 ?_; omega) | (refine kd_IBOOK_noted0 ?_; omega) | (refine kd_SUMS0 ?_; omega) | (refine kd_TERMS0 ?_; omega) | (refine kd_FACT0 ?_; omega) | (simp (disch := omega) only [tw])) only [↓x54_0, ↓x54_1, ↓x54_2, ↓x54_5, ↓x54_8, ↓x54_9, ↓x54_10, ↓x54_11, ↓x54_14, ↓x54_15, ↓x54_16, ↓x54_17, ↓x54_20, ↓x54_21, ↓x54_22, ↓x54_26, ↓x54_29, ↓x54_30, ↓x54_33, ↓x54_36, ↓x54_37, ↓x54_40, ↓x54_41, ↓x54_44, ↓x54_45, ↓x54_47, ↓x54_50, ↓x54_51, ↓x54_54, ↓x54_55, ↓x54_56, ↓x54_57, ↓x54_60, ↓x54_61, ↓x54_62, ↓x54_65, ↓x54_66, ↓x54_67, ↓x54_70, ↓x54_73, ↓x54_74, ↓x54_75, ↓x54_76, ↓x54_79, ↓x54_80, ↓x54_81, ↓x54_82, ↓x54_85, ↓x54_86, ↓x54_87, ↓x54_88, ↓x54_91, ↓x54_92, ↓x54_93, ↓x54_96, ↓x54_97, ↓x54_98, ↓x54_101, ↓x54_102, ↓x54_103, ↓x54_104, ↓x54_105, ↓x54_108, ↓x54_111, ↓x54_112, evl_e, ↓endQ_e, ↓gI_0, ↓gL_0, ↓gR_0, ↓gI_s, ↓gL_s, ↓gR_s, ↓pI_i, ↓pL_l, ↓pR_r, ↓p1_i, ↓p1_r, ↓pE_e, ↓pN_z, ↓pN_1, ↓pN_2, ↓pN_3, ↓pN_4, ↓pN_5, ↓pN_6, ↓rl_0, ↓rl_1, ↓rl_2, ↓rl_3, ↓rl_4, ↓hdR_r, ↓hdO_r, va_rf_s, sL1_0, sL1_ss, sL1_1i, sL1_1r, sL1_1n, sL1_1l, sL2_0, sL2_ss, sL2_1i, sL2_1r, sL2_1n, sL2_1l, List.getElem?_cons_zero, List.getElem?_cons_succ, Option.toList_some, Option.toList_none, List.cons_append, List.nil_append, Nat.reduceAdd, true_and, and_true, and_self, wA_s, wA_w, ↓reduceIte, ite_self, true_or, or_true, tv, tc, tl, tg, t0, tz, tw, tu, tup, tuL, nI_add, pk_mul, upd_s, tup_s, tuL_s, nI_0, i1, i2, i3, i4, nm1, kd_430, e10, e11, z_1]
      rw [d1] at hQ
      exact hQ J hK hR
set_option maxRecDepth 100000 in
theorem k_term {d : Nat} {L : Nat → Nat → Int64} {P : Nat → Nat → Option Nat} {n s : Nat} {T : Nat → Nat} {z x k i : Nat} {g : Nat → Nat → Int32} {o : Nat → Nat} {F : Nat → Res} (hc : CP P) (hk : k ≤ 4) (hF : ∀ j, i ≤ j → j ≤ z → CON T z x g L P n s 55 (d + 7) k o (k + 1) (k + 1) k (448 + k) j (F j)) (hB : ∀ j, i ≤ j → j ≤ z → RB z k j (F j)) (hi : i ≤ z) : CON T z x g L P n s 54 (d + 8) k o (k + 1) k k (442 + k) i (prR T z k o F i) := by
  intro I Q h ho hQ
  have b := hB i (Nat.le_refl i) hi
  have kT : kd (442 + k) = 3 := kd_TERMS0 (by omega)
  have kF : kd (448 + k) = 3 := kd_FACT0 (by omega)
  have h80 := h.1
  obtain ⟨c0_0, c0_1, c0_2, c0_3, c0_4, c0_5, c0_6, c0_7, c0_8, c0_9, c0_10, c1_0, c1_1, c8_0, c8_1, c25_0, c25_1, c33_0, c33_1, c430_0, c430_1, c430_2, c430_3, c430_4, c430_5, c430_6, c430_7, c430_8, c430_9, cA43, cA18, cA9, cA26, cA34, cA435, cA441, cA447⟩ := id hc
  simp (disch := first | assumption | omega | decide | (refine kdN ?_; omega) | (refine kdS ?_; omega) | (refine kd_REGS0 ?_; omega) | (refine kd_BOOK_noted0 ?_; omega) | (refine kd_IREGS0 ?_; omega) | (refine kd_IBOOK_noted0 ?_; omega) | (refine kd_SUMS0 ?_; omega) | (refine kd_TERMS0 ?_; omega) | (refine kd_FACT0 ?_; omega) | (simp (disch := omega) only [tw])) only [↓c54, ↓x54_0, ↓x54_1, ↓x54_2, ↓x54_5, ↓x54_8, ↓x54_9, ↓x54_10, ↓x54_11, ↓x54_14, ↓x54_15, ↓x54_16, ↓x54_17, ↓x54_20, ↓x54_21, ↓x54_22, ↓x54_26, ↓x54_29, ↓x54_30, ↓x54_33, ↓x54_36, ↓x54_37, ↓x54_40, ↓x54_41, ↓x54_44, ↓x54_45, ↓x54_47, ↓x54_50, ↓x54_51, ↓x54_54, ↓x54_55, ↓x54_56, ↓x54_57, ↓x54_60, ↓x54_61, ↓x54_62, ↓x54_65, ↓x54_66, ↓x54_67, ↓x54_70, ↓x54_73, ↓x54_74, ↓x54_75, ↓x54_76, ↓x54_79, ↓x54_80, ↓x54_81, ↓x54_82, ↓x54_85, ↓x54_86, ↓x54_87, ↓x54_88, ↓x54_91, ↓x54_92, ↓x54_93, ↓x54_96, ↓x54_97, ↓x54_98, ↓x54_101, ↓x54_102, ↓x54_103, ↓x54_104, ↓x54_105, ↓x54_108, ↓x54_111, ↓x54_112, evl_e, ↓endQ_e, ↓gI_0, ↓gL_0, ↓gR_0, ↓gI_s, ↓gL_s, ↓gR_s, ↓pI_i, ↓pL_l, ↓pR_r, ↓p1_i, ↓p1_r, ↓pE_e, ↓pN_z, ↓pN_1, ↓pN_2, ↓pN_3, ↓pN_4, ↓pN_5, ↓pN_6, ↓rl_0, ↓rl_1, ↓rl_2, ↓rl_3, ↓rl_4, ↓hdR_r, ↓hdO_r, va_rf_s, sL1_0, sL1_ss, sL1_1i, sL1_1r, sL1_1n, sL1_1l, sL2_0, sL2_ss, sL2_1i, sL2_1r, sL2_1n, sL2_1l, List.getElem?_cons_zero, List.getElem?_cons_succ, Option.toList_some, Option.toList_none, List.cons_append, List.nil_append, Nat.reduceAdd, true_and, and_true, and_self, wA_s, wA_w, ↓reduceIte, ite_self, true_or, or_true, tv, tc, tl, tg, t0, tz, tw, tu, tup, tuL, nI_add, pk_mul, upd_s, tup_s, tuL_s, nI_0, i1, i2, i3, i4, nm1, kd_430]
  refine hF i (Nat.le_refl i) hi I _ h ho fun K hK hR => ?_
  have hK3 : KF (k + 1) k k I K := KF_m hK (by omega) (by omega) (by omega)
  unfold prR at hQ
  by_cases r1 : rS (F i) = 1
  · have d2 : decide (¬ rS (F i) = 1) = false := decide_eq_false (fun q => q r1)
    rw [lpR_1 r1, d2] at hQ
    simp (disch := first | assumption | omega | decide | (refine kdN ?_; omega) | (refine kdS ?_; omega) | (refine kd_REGS0 ?_; omega) | (refine kd_BOOK_noted0 ?_; omega) | (refine kd_IREGS0 ?_; omega) | (refine kd_IBOOK_noted0 ?_; omega) | (refine kd_SUMS0 ?_; omega) | (refine kd_TERMS0 ?_; omega) | (refine kd_FACT0 ?_; omega) | (simp (disch := omega) only [tw])) only [↓x54_0, ↓x54_1, ↓x54_2, ↓x54_5, ↓x54_8, ↓x54_9, ↓x54_10, ↓x54_11, ↓x54_14, ↓x54_15, ↓x54_16, ↓x54_17, ↓x54_20, ↓x54_21, ↓x54_22, ↓x54_26, ↓x54_29, ↓x54_30, ↓x54_33, ↓x54_36, ↓x54_37, ↓x54_40, ↓x54_41, ↓x54_44, ↓x54_45, ↓x54_47, ↓x54_50, ↓x54_51, ↓x54_54, ↓x54_55, ↓x54_56, ↓x54_57, ↓x54_60, ↓x54_61, ↓x54_62, ↓x54_65, ↓x54_66, ↓x54_67, ↓x54_70, ↓x54_73, ↓x54_74, ↓x54_75, ↓x54_76, ↓x54_79, ↓x54_80, ↓x54_81, ↓x54_82, ↓x54_85, ↓x54_86, ↓x54_87, ↓x54_88, ↓x54_91, ↓x54_92, ↓x54_93, ↓x54_96, ↓x54_97, ↓x54_98, ↓x54_101, ↓x54_102, ↓x54_103, ↓x54_104, ↓x54_105, ↓x54_108, ↓x54_111, ↓x54_112, evl_e, ↓endQ_e, ↓gI_0, ↓gL_0, ↓gR_0, ↓gI_s, ↓gL_s, ↓gR_s, ↓pI_i, ↓pL_l, ↓pR_r, ↓p1_i, ↓p1_r, ↓pE_e, ↓pN_z, ↓pN_1, ↓pN_2, ↓pN_3, ↓pN_4, ↓pN_5, ↓pN_6, ↓rl_0, ↓rl_1, ↓rl_2, ↓rl_3, ↓rl_4, ↓hdR_r, ↓hdO_r, va_rf_s, sL1_0, sL1_ss, sL1_1i, sL1_1r, sL1_1n, sL1_1l, sL2_0, sL2_ss, sL2_1i, sL2_1r, sL2_1n, sL2_1l, List.getElem?_cons_zero, List.getElem?_cons_succ, Option.toList_some, Option.toList_none, List.cons_append, List.nil_append, Nat.reduceAdd, true_and, and_true, and_self, wA_s, wA_w, ↓reduceIte, ite_self, true_or, or_true, tv, tc, tl, tg, t0, tz, tw, tu, tup, tuL, nI_add, pk_mul, upd_s, tup_s, tuL_s, nI_0, i1, i2, i3, i4, nm1, d2, bI_f, z_0]
    exact hQ K hK3 ⟨hR.1, hR.2.1, hR.2.2.1, fun q => absurd r1 q⟩
  · have d2 : decide (¬ rS (F i) = 1) = true := decide_eq_true r1
    simp (disch := first | assumption | omega | decide | (refine kdN ?_; omega) | (refine kdS ?_; omega) | (refine kd_REGS0 ?_; omega) | (refine kd_BOOK_noted0 ?_; omega) | (refine kd_IREGS0 ?_; omega) | (refine kd_IBOOK_noted0 ?_; omega) | (refine kd_SUMS0 ?_; omega) | (refine kd_TERMS0 ?_; omega) | (refine kd_FACT0 ?_; omega) | (simp (disch := omega) only [tw])) only [↓x54_0, ↓x54_1, ↓x54_2, ↓x54_5, ↓x54_8, ↓x54_9, ↓x54_10, ↓x54_11, ↓x54_14, ↓x54_15, ↓x54_16, ↓x54_17, ↓x54_20, ↓x54_21, ↓x54_22, ↓x54_26, ↓x54_29, ↓x54_30, ↓x54_33, ↓x54_36, ↓x54_37, ↓x54_40, ↓x54_41, ↓x54_44, ↓x54_45, ↓x54_47, ↓x54_50, ↓x54_51, ↓x54_54, ↓x54_55, ↓x54_56, ↓x54_57, ↓x54_60, ↓x54_61, ↓x54_62, ↓x54_65, ↓x54_66, ↓x54_67, ↓x54_70, ↓x54_73, ↓x54_74, ↓x54_75, ↓x54_76, ↓x54_79, ↓x54_80, ↓x54_81, ↓x54_82, ↓x54_85, ↓x54_86, ↓x54_87, ↓x54_88, ↓x54_91, ↓x54_92, ↓x54_93, ↓x54_96, ↓x54_97, ↓x54_98, ↓x54_101, ↓x54_102, ↓x54_103, ↓x54_104, ↓x54_105, ↓x54_108, ↓x54_111, ↓x54_112, evl_e, ↓endQ_e, ↓gI_0, ↓gL_0, ↓gR_0, ↓gI_s, ↓gL_s, ↓gR_s, ↓pI_i, ↓pL_l, ↓pR_r, ↓p1_i, ↓p1_r, ↓pE_e, ↓pN_z, ↓pN_1, ↓pN_2, ↓pN_3, ↓pN_4, ↓pN_5, ↓pN_6, ↓rl_0, ↓rl_1, ↓rl_2, ↓rl_3, ↓rl_4, ↓hdR_r, ↓hdO_r, va_rf_s, sL1_0, sL1_ss, sL1_1i, sL1_1r, sL1_1n, sL1_1l, sL2_0, sL2_ss, sL2_1i, sL2_1r, sL2_1n, sL2_1l, List.getElem?_cons_zero, List.getElem?_cons_succ, Option.toList_some, Option.toList_none, List.cons_append, List.nil_append, Nat.reduceAdd, true_and, and_true, and_self, wA_s, wA_w, ↓reduceIte, ite_self, true_or, or_true, tv, tc, tl, tg, t0, tz, tw, tu, tup, tuL, nI_add, pk_mul, upd_s, tup_s, tuL_s, nI_0, i1, i2, i3, i4, nm1, d2, bI_t, e_10, kd_430, kd_441, ln_441, kd_447, ln_447, c430_7, c430_8, cA441, cA447, ↓q_becomeQ, kT, kF]
    have b4 := b.2.2.1 r1
    exact kt_l hc hk (fun j h1 h2 => hF j (by omega) h2) (fun j h1 h2 => hB j (by omega) h2) 81 _ I _ _ b r1 (by omega) (ST_f h (KF_m (KF_w (a := k + 1) (b := k) (c := k) hK3 (by omega) (by omega) (by omega) (by omega)) (Nat.zero_le _) (Nat.zero_le _) (Nat.zero_le _)) (by rw [tw (by omega)]; exact hR.1) b.2.1) (KF_w hK3 (by omega) (by omega) (by omega) (by omega)) (KR_mv (by omega) hR (q4_v)) ho hQ
