/-! the law's start -/
def hp0 : Mm := (fun _ _ => 0, fun _ _ => 0, fun _ _ => none, 0, 0)
theorem sL1_x {x : Nat} {b v : Value} {l : List Value} : sL1 (.retAddr x :: b :: l) 1 v = .retAddr x :: v :: l := rfl
theorem lim1 : (454 ≤ 600000) = True := by decide
set_option maxRecDepth 100000 in
theorem law_start {d b N : Nat} {xs : Nat → Int32} {Q : Qm} (kk : ∀ I P s, REL 0 I (fun _ _ => 0) P → WP (Call (d + 400)) (kLaw b N xs) (600000, 7302250) Q 18 [.retAddr b, .ref 0, .ref 454, .int 0] [] (I, fun _ _ => 0, P, 484, s)) : WP (Call (d + 400)) (kLaw b N xs) (600000, 7302250) Q 0 [.retAddr b, .null, .null, .null] [] hp0 := by
  have hz : ZB 0 (fun _ _ => 0) (fun _ _ => 0) (fun _ _ => none) := fun a _ => ⟨rfl, rfl, rfl⟩
  unfold hp0
  simp (disch := first | assumption | omega | decide | (refine kdN ?_; omega) | (refine kdS ?_; omega) | (refine kd_REGS0 ?_; omega) | (refine kd_BOOK_noted0 ?_; omega) | (refine kd_IREGS0 ?_; omega) | (refine kd_IBOOK_noted0 ?_; omega) | (refine kd_SUMS0 ?_; omega) | (refine kd_TERMS0 ?_; omega) | (refine kd_FACT0 ?_; omega) | (simp (disch := omega) only [tw]) | ((repeat (refine ZB_P ?hb ?_; case hb => omega)); (repeat (refine ZB_I ?hb ?_; case hb => omega)); (refine ZB_m hz ?_; omega))) only [↓xL_0, ↓xL_3, ↓xL_4, evl_e, ↓p1_r, ↓pN_1, ↓rl_1, ↓rl_0, kd_0, ln_0, Nat.reduceLeDiff, Nat.zero_add, mem0_z, hdO_r, k7_9, co_89, true_and, and_true, and_self, Nat.reduceAdd]
  refine i_89 (d := d + 393) (ZB_m hz (by decide)) fun J P' hJ hf hc hp p2 p3 p4 hP => ?_
  have hz2 : ZB 454 J (fun _ _ => 0) P' := fun a ha => ⟨by rw [hf a (by omega), tw (by omega)], rfl, hP a ha⟩
  clear hz
  have hz := hz2
  simp (disch := first | assumption | omega | decide | (refine kdN ?_; omega) | (refine kdS ?_; omega) | (refine kd_REGS0 ?_; omega) | (refine kd_BOOK_noted0 ?_; omega) | (refine kd_IREGS0 ?_; omega) | (refine kd_IBOOK_noted0 ?_; omega) | (refine kd_SUMS0 ?_; omega) | (refine kd_TERMS0 ?_; omega) | (refine kd_FACT0 ?_; omega) | (simp (disch := omega) only [tw]) | ((repeat (refine ZB_P ?hb ?_; case hb => omega)); (repeat (refine ZB_I ?hb ?_; case hb => omega)); (refine ZB_m hz ?_; omega))) only [↓xL_7, ↓xL_8, ↓xL_11, ↓xL_12, evl_e, ↓pR_r, ↓p1_r, ↓pN_1, ↓rl_1, ↓rl_0, sL1_x, Option.toList_none, List.nil_append, kd_454, ln_454, Nat.reduceLeDiff, mem0_z, hdO_r, k8_9, co_140, true_and, and_true, and_self, Nat.reduceAdd]
  refine i_140 (d := d + 396) (ZB_m hz2 (by decide)) fun K hK ko k4 => ?_
  simp (disch := first | assumption | omega | decide | (refine kdN ?_; omega) | (refine kdS ?_; omega) | (refine kd_REGS0 ?_; omega) | (refine kd_BOOK_noted0 ?_; omega) | (refine kd_IREGS0 ?_; omega) | (refine kd_IBOOK_noted0 ?_; omega) | (refine kd_SUMS0 ?_; omega) | (refine kd_TERMS0 ?_; omega) | (refine kd_FACT0 ?_; omega) | (simp (disch := omega) only [tw]) | ((repeat (refine ZB_P ?hb ?_; case hb => omega)); (repeat (refine ZB_I ?hb ?_; case hb => omega)); (refine ZB_m hz ?_; omega))) only [↓xL_15, ↓xL_16, ↓xL_17, evl_e, ↓pR_r, ↓pI_i, sL1_x, sL1_ss, sL1_1r, Option.toList_none, List.nil_append]
  exact kk K _ _ (REL_0 hJ hf hc hp p2 p3 p4 hK ko k4)
