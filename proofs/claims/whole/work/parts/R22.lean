/-! left translation goes with steps -/
theorem cd_pos : ∀ x, x < 11 → allB (nN x) (fun n => Nat.blt 0 (cdX x n)) = true := by decide +kernel
def ckJ (x : Nat) : Bool := allB (nN x) fun a => Nat.blt (nuX x (cdV (qW x) (cjV (ndV x a)))) (nN x)
theorem ckJ_all : ∀ x, x < 11 → ckJ x = true := by decide +kernel
def ckW0 (x : Nat) : Bool := allB (nN x) fun n => allB (sN x) fun s => Nat.beq (tgX x (tgX x n s) (rvX x s)) n && Nat.beq (tgX x (tgX x n (rvX x s)) s) n && Nat.ble (diX x (tgX x n s)) (diX x n + 1)
theorem ckW0_0 : ckW0 0 = true := by decide +kernel
theorem ckW0_1 : ckW0 1 = true := by decide +kernel
theorem ckW0_2 : ckW0 2 = true := by decide +kernel
theorem ckW0_3 : ckW0 3 = true := by decide +kernel
theorem ckW0_4 : ckW0 4 = true := by decide +kernel
theorem ckW0_5 : ckW0 5 = true := by decide +kernel
theorem ckW0_6 : ckW0 6 = true := by decide +kernel
theorem ckW0_7 : ckW0 7 = true := by decide +kernel
theorem ckW0_8 : ckW0 8 = true := by decide +kernel
theorem ckW0_9 : ckW0 9 = true := by decide +kernel
theorem ckW0_10 : ckW0 10 = true := by decide +kernel
theorem ckW0_all : ∀ x, x < 11 → ckW0 x = true := fun x h => match x, h with
  | 0, _ => ckW0_0
  | 1, _ => ckW0_1
  | 2, _ => ckW0_2
  | 3, _ => ckW0_3
  | 4, _ => ckW0_4
  | 5, _ => ckW0_5
  | 6, _ => ckW0_6
  | 7, _ => ckW0_7
  | 8, _ => ckW0_8
  | 9, _ => ckW0_9
  | 10, _ => ckW0_10
theorem ed_f {x n s : Nat} (hx : x < 11) (hn : n < nN x) (hs : s < sN x) : tgX x (tgX x n s) (rvX x s) = n ∧ tgX x (tgX x n (rvX x s)) s = n ∧ diX x (tgX x n s) ≤ diX x n + 1 := by
  have h := allB_i (allB_i (ckW0_all x hx) n hn) s hs
  simp only [Bool.and_eq_true, Nat.beq_eq, Nat.ble_eq] at h
  exact ⟨h.1.1, h.1.2, h.2⟩
/-- the edge's code -/
theorem ed_c {x n s : Nat} (hx : x < 11) (hn : n < nN x) (hs : s < sN x) : cdV (qW x) (zV (ndV x n) (stX x s)) = cdX x (tgX x n s) := by
  have h := allB_i (allB_i (tg_b x hx) n hn) s hs
  simp only [Bool.and_eq_true, Nat.beq_eq] at h
  exact h.1
theorem ring1 (r f q m k : Int) : r * f - q * m = f * (q * k + r) + q * (-(m + f * k)) := by grind
/-- a node's parts are those of its class, times some unit -/
theorem nd_of {x n : Nat} {w : Nat → Int} (hx : x < 11) (hn : n < nN x) (h : cdV (qW x) w = cdX x n) : ∃ (f : Nat) (k : Nat → Int), ¬ f % qW x = 0 ∧ ∀ i, i < 4 → ndV x n i = (f : Int) * w i + (qW x : Int) * k i := by
  have hq : qOk (qW x) := qW_b x hx
  have h0 := (qOk_b hq).1
  have hp := allB_i (cd_pos x hx) n hn
  rw [Nat.blt_eq] at hp
  obtain ⟨r, hr⟩ : ∃ r : Nat → Nat, r = fun i => (w i % (qW x : Int)).toNat := ⟨_, rfl⟩
  have hrl : ∀ i, r i < qW x := fun i => by rw [hr]; exact rz_lt hq _
  have hri : ∀ i, (r i : Int) = w i % (qW x : Int) := fun i => by
    rw [hr]
    exact Int.toNat_of_nonneg (Int.emod_nonneg _ (by omega))
  have hc : cdX x n = ((r 0 * fcR (qW x) (r 0) (r 1) (r 2) (r 3) % qW x * qW x + r 1 * fcR (qW x) (r 0) (r 1) (r 2) (r 3) % qW x) * qW x + r 2 * fcR (qW x) (r 0) (r 1) (r 2) (r 3) % qW x) * qW x + r 3 * fcR (qW x) (r 0) (r 1) (r 2) (r 3) % qW x := by
    rw [← h, hr]
    rfl
  obtain ⟨f, hf⟩ : ∃ f, f = fcR (qW x) (r 0) (r 1) (r 2) (r 3) := ⟨_, rfl⟩
  rw [← hf] at hc
  have hfl : f < qW x := by
    rw [hf]
    unfold fcR
    apply ivX_lt hq
    split
    · split
      · split
        · exact hrl 3
        · exact hrl 2
      · exact hrl 1
    · exact hrl 0
  have hf0 : ¬ f = 0 := fun q => by
    rw [q] at hc
    simp only [Nat.mul_zero, Nat.zero_mod, Nat.zero_mul, Nat.zero_add] at hc
    omega
  obtain ⟨d0, d1, d2, d3⟩ := cd_dig (Nat.mod_lt (r 0 * f) h0) (Nat.mod_lt (r 1 * f) h0) (Nat.mod_lt (r 2 * f) h0) (Nat.mod_lt (r 3 * f) h0)
  rw [← hc] at d0 d1 d2 d3
  have key : ∀ i, i < 4 → ndX x n i = r i * f % qW x := fun i hi => by
    rcases (by omega : i = 0 ∨ i = 1 ∨ i = 2 ∨ i = 3) with rfl | rfl | rfl | rfl
    · exact d0
    · exact d1
    · exact d2
    · exact d3
  refine ⟨f, fun i => -(((r i * f / qW x : Nat) : Int) + (f : Int) * (w i / (qW x : Int))), by rw [Nat.mod_eq_of_lt hfl]; exact hf0, fun i hi => ?_⟩
  show ((ndX x n i : Nat) : Int) = _
  rw [key i hi]
  show ((r i * f % qW x : Nat) : Int) = (f : Int) * w i + (qW x : Int) * -(((r i * f / qW x : Nat) : Int) + (f : Int) * (w i / (qW x : Int)))
  have e1 : ((r i * f % qW x : Nat) : Int) = (r i : Int) * f - (qW x : Int) * ((r i * f / qW x : Nat) : Int) := by
    have := Nat.div_add_mod (r i * f) (qW x)
    have e2 : ((qW x * (r i * f / qW x) + r i * f % qW x : Nat) : Int) = ((r i * f : Nat) : Int) := by rw [this]
    rw [Int.natCast_add, Int.natCast_mul, Int.natCast_mul] at e2
    omega
  have e3 : w i = (qW x : Int) * (w i / (qW x : Int)) + (r i : Int) := by
    rw [hri]
    exact (Int.mul_ediv_add_emod _ _).symm
  rw [e1]
  generalize w i / (qW x : Int) = k at *
  generalize ((r i * f / qW x : Nat) : Int) = m at *
  generalize (r i : Int) = rr at *
  generalize (qW x : Int) = q at *
  rw [e3]
  exact ring1 _ _ _ _ _
theorem nu_c {x n : Nat} (hx : x < 11) (hn : n < nN x) : nuX x (cdX x n) = n := (tr_f hx hn).2.2.2.2.1
theorem cdZ_lt {q : Nat} (hq : qOk q) (a b c e : Int) : cdZ q a b c e < 2401 := by
  unfold cdZ
  have l0 := rz_lt hq a
  have l1 := rz_lt hq b
  have l2 := rz_lt hq c
  have l3 := rz_lt hq e
  generalize (a % (q : Int)).toNat = r0 at *
  generalize (b % (q : Int)).toNat = r1 at *
  generalize (c % (q : Int)).toNat = r2 at *
  generalize (e % (q : Int)).toNat = r3 at *
  obtain ⟨h0, h1⟩ := qOk_b hq
  unfold cdR
  generalize ivX q _ = f
  have m0 := Nat.mod_lt (r0 * f) h0
  have m1 := Nat.mod_lt (r1 * f) h0
  have m2 := Nat.mod_lt (r2 * f) h0
  have m3 := Nat.mod_lt (r3 * f) h0
  dsimp only
  generalize r0 * f % q = x0 at *
  generalize r1 * f % q = x1 at *
  generalize r2 * f % q = x2 at *
  generalize r3 * f % q = x3 at *
  rcases hq with rfl | rfl | rfl <;> omega
/-- lt is a node, and its code is the product's -/
def LT (x a b : Nat) : Prop := lt x a b < nN x ∧ cdX x (lt x a b) = cdV (qW x) (zV (cjV (ndV x a)) (ndV x b))
theorem LT_of {x a b : Nat} (hx : x < 11) (h : lt x a b < nN x) : LT x a b := ⟨h, (nu_i hx (cdZ_lt (qW_b x hx) _ _ _ _) rfl h).symm⟩
theorem nd_0 : ∀ x, x < 11 → ndX x 0 0 = 1 ∧ ndX x 0 1 = 0 ∧ ndX x 0 2 = 0 ∧ ndX x 0 3 = 0 := by decide +kernel
theorem LT_0 {x a : Nat} (hx : x < 11) (ha : a < nN x) : LT x a 0 := by
  apply LT_of hx
  have h := allB_i (ckJ_all x hx) a ha
  rw [Nat.blt_eq] at h
  obtain ⟨n0, n1, n2, n3⟩ := nd_0 x hx
  have e : ∀ i, i < 4 → zV (cjV (ndV x a)) (ndV x 0) i = cjV (ndV x a) i := fun i hi => by
    have f0 : ndV x 0 0 = 1 := by unfold ndV; rw [n0]; rfl
    have f1 : ndV x 0 1 = 0 := by unfold ndV; rw [n1]; rfl
    have f2 : ndV x 0 2 = 0 := by unfold ndV; rw [n2]; rfl
    have f3 : ndV x 0 3 = 0 := by unfold ndV; rw [n3]; rfl
    rcases (by omega : i = 0 ∨ i = 1 ∨ i = 2 ∨ i = 3) with rfl | rfl | rfl | rfl
    all_goals
      simp only [zV, zA, zB, zC, zD, f0, f1, f2, f3]
      omega
  unfold lt
  rw [cdV_q e]
  exact h
/-- translation goes with steps -/
theorem lt_tg {x a b s : Nat} (hx : x < 11) (ha : a < nN x) (hb : b < nN x) (hs : s < sN x) (h : LT x a b) : LT x a (tgX x b s) ∧ lt x a (tgX x b s) = tgX x (lt x a b) s := by
  have hq : qOk (qW x) := qW_b x hx
  obtain ⟨f, k, hf, hk⟩ := nd_of hx (tg_lt hx hb hs) (ed_c hx hb hs)
  obtain ⟨g, m, hg, hm⟩ := nd_of hx h.1 h.2.symm
  have e1 : cdV (qW x) (zV (cjV (ndV x a)) (ndV x (tgX x b s))) = cdV (qW x) (zV (cjV (ndV x a)) (zV (ndV x b) (stX x s))) := cdV_u hq hf (zV_r hk)
  have e2 : cdV (qW x) (zV (ndV x (lt x a b)) (stX x s)) = cdV (qW x) (zV (zV (cjV (ndV x a)) (ndV x b)) (stX x s)) := cdV_u hq hg (zV_l hm)
  rw [ed_c hx h.1 hs, cdV_q zV_assoc, ← e1] at e2
  have e3 : lt x a (tgX x b s) = tgX x (lt x a b) s := by
    unfold lt at e2 ⊢
    rw [← e2]
    exact nu_c hx (tg_lt hx h.1 hs)
  exact ⟨LT_of hx (by rw [e3]; exact tg_lt hx h.1 hs), e3⟩
theorem LT_all {x a : Nat} (hx : x < 11) (ha : a < nN x) : ∀ e b, b < nN x → diX x b ≤ e → LT x a b := by
  intro e
  induction e with
  | zero =>
    intro b hb hd
    by_cases h0 : b = 0
    · rw [h0]; exact LT_0 hx ha
    · obtain ⟨t1, t2, t3, -⟩ := tr_f hx hb
      have := (t3 h0).1
      omega
  | succ e ih =>
    intro b hb hd
    by_cases h0 : b = 0
    · rw [h0]; exact LT_0 hx ha
    · obtain ⟨t1, t2, t3, -⟩ := tr_f hx hb
      obtain ⟨u1, u2⟩ := t3 h0
      have := (lt_tg hx ha t1 t2 (ih _ t1 (by omega))).1
      rwa [u2] at this
theorem LT_f {x a b : Nat} (hx : x < 11) (ha : a < nN x) (hb : b < nN x) : LT x a b := LT_all hx ha _ b hb (Nat.le_refl _)
def ckA (x : Nat) : Bool := allB (nN x) fun a => Nat.beq (lt x a a) 0 && Nat.beq (cdV (qW x) (ndV x a)) (cdX x a) && !(Nat.beq ((ndX x a 0 * ndX x a 0 + ndX x a 1 * ndX x a 1 + ndX x a 2 * ndX x a 2 + ndX x a 3 * ndX x a 3) % qW x) 0)
theorem ckA_all : ∀ x, x < 11 → ckA x = true := by decide +kernel
theorem lt_aa {x a : Nat} (hx : x < 11) (ha : a < nN x) : lt x a a = 0 ∧ cdV (qW x) (ndV x a) = cdX x a ∧ ¬ (ndX x a 0 * ndX x a 0 + ndX x a 1 * ndX x a 1 + ndX x a 2 * ndX x a 2 + ndX x a 3 * ndX x a 3) % qW x = 0 := by
  have h := allB_i (ckA_all x hx) a ha
  simp only [Bool.and_eq_true, Nat.beq_eq, Bool.not_eq_true'] at h
  refine ⟨h.1.1, h.1.2, fun q => ?_⟩
  have h2 := h.2
  rw [q] at h2
  exact absurd h2 (by decide)
theorem un_m {q a b : Nat} (hq : qOk q) (ha : ¬ a % q = 0) (hb : ¬ b % q = 0) : ¬ a * b % q = 0 := by
  have h0 := (qOk_b hq).1
  rw [Nat.mul_mod]
  have l1 := Nat.mod_lt a h0
  have l2 := Nat.mod_lt b h0
  generalize a % q = u at *
  generalize b % q = v at *
  have fin : ∀ q, q < 8 → qOk q → ∀ u, u < q → ∀ v, v < q → ¬ u = 0 → ¬ v = 0 → ¬ u * v % q = 0 := by
    intro q _ hq
    rcases hq with rfl | rfl | rfl <;> decide
  exact fin q (by rcases hq with rfl | rfl | rfl <;> decide) hq u l1 v l2 ha hb
theorem ring2 (f k n b q m : Int) : f * (n * b) + q * m = f * n * b + q * m := by grind
theorem lt_inj {x a m : Nat} (hx : x < 11) (ha : a < nN x) (hm : m < nN x) (h : lt x a m = 0) : m = a := by
  have hq : qOk (qW x) := qW_b x hx
  have hL := LT_f hx ha hm
  rw [LT, h] at hL
  obtain ⟨f, k, hf, hk⟩ := nd_of hx hL.1 hL.2.symm
  obtain ⟨n0, n1, n2, n3⟩ := nd_0 x hx
  have f0 : ndV x 0 0 = 1 := by unfold ndV; rw [n0]; rfl
  have f1 : ndV x 0 1 = 0 := by unfold ndV; rw [n1]; rfl
  have f2 : ndV x 0 2 = 0 := by unfold ndV; rw [n2]; rfl
  have f3 : ndV x 0 3 = 0 := by unfold ndV; rw [n3]; rfl
  have e1 : ∀ i, i < 4 → zV (ndV x a) (ndV x 0) i = ndV x a i := fun i hi => by
    rcases (by omega : i = 0 ∨ i = 1 ∨ i = 2 ∨ i = 3) with rfl | rfl | rfl | rfl
    all_goals
      simp only [zV, zA, zB, zC, zD, f0, f1, f2, f3]
      omega
  have hu := un_m hq hf (lt_aa hx ha).2.2
  have e2 : cdV (qW x) (ndV x a) = cdV (qW x) (ndV x m) := by
    refine cdV_u hq hu (k := zV (ndV x a) k) fun i hi => ?_
    rw [← e1 i hi, zV_r hk i hi, zV_n i hi, Int.natCast_mul]
    have e3 : ndV x a 0 * ndV x a 0 + ndV x a 1 * ndV x a 1 + ndV x a 2 * ndV x a 2 + ndV x a 3 * ndV x a 3 = ((ndX x a 0 * ndX x a 0 + ndX x a 1 * ndX x a 1 + ndX x a 2 * ndX x a 2 + ndX x a 3 * ndX x a 3 : Nat) : Int) := by
      simp only [ndV, Int.natCast_add, Int.natCast_mul]
    rw [e3]
    exact ring2 _ 0 _ _ _ _
  rw [(lt_aa hx ha).2.1, (lt_aa hx hm).2.1] at e2
  rw [← nu_c hx hm, ← e2, nu_c hx ha]
/-- how far node b is from node a -/
def dlt (x a b : Nat) : Nat := diX x (lt x a b)
theorem DI_a {x a : Nat} (hx : x < 11) (ha : a < nN x) : DI x a (dlt x a) := by
  refine ⟨?_, fun m hm => ?_, fun m t hm ht => ?_, fun m hm hne => ?_⟩
  · unfold dlt
    rw [(lt_aa hx ha).1]
    exact ckP_0 x hx
  · have := di_6 hx (LT_f hx ha hm).1
    unfold dlt
    omega
  · unfold dlt
    rw [(lt_tg hx ha hm ht (LT_f hx ha hm)).2]
    exact (ed_f hx (LT_f hx ha hm).1 ht).2.2
  · have hT := LT_f hx ha hm
    obtain ⟨t1, t2, t3, -⟩ := tr_f hx hT.1
    obtain ⟨u1, u2⟩ := t3 fun q => hne (lt_inj hx ha hm q)
    have hrv := (rv_f hx t2).1
    have hm' := tg_lt hx hm hrv
    refine ⟨tgX x m (rvX x (lsX x (lt x a m))), lsX x (lt x a m), hm', t2, (ed_f hx hm t2).2.1, ?_⟩
    unfold dlt
    rw [(lt_tg hx ha hm hrv hT).2]
    have e : tgX x (lt x a m) (rvX x (lsX x (lt x a m))) = paX x (lt x a m) := by
      have := (ed_f hx t1 t2).1
      rwa [u2] at this
    rw [e, u1]
theorem dlt_0 {x b : Nat} (hx : x < 11) (hb : b < nN x) : dlt x 0 b = diX x b := by
  obtain ⟨n0, n1, n2, n3⟩ := nd_0 x hx
  have f0 : ndV x 0 0 = 1 := by unfold ndV; rw [n0]; rfl
  have f1 : ndV x 0 1 = 0 := by unfold ndV; rw [n1]; rfl
  have f2 : ndV x 0 2 = 0 := by unfold ndV; rw [n2]; rfl
  have f3 : ndV x 0 3 = 0 := by unfold ndV; rw [n3]; rfl
  have e1 : ∀ i, i < 4 → zV (cjV (ndV x 0)) (ndV x b) i = ndV x b i := fun i hi => by
    rcases (by omega : i = 0 ∨ i = 1 ∨ i = 2 ∨ i = 3) with rfl | rfl | rfl | rfl
    all_goals
      simp only [zV, zA, zB, zC, zD, cjV, f0, f1, f2, f3]
      omega
  unfold dlt lt
  rw [cdV_q e1, (lt_aa hx hb).2.1, nu_c hx hb]
