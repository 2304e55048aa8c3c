/-! case apart: words -/
theorem td_ {z : Int} {p : Nat} (h1 : -1000000000 ≤ z) (h2 : z ≤ 1000000000) (hp2 : p < 100) : Int32.ofInt z / nI p = Int32.ofInt (z.tdiv p) := by
  have e : nI p = Int32.ofInt (p : Int) := nI_ofI
  have m0 : Int32.minValue.toInt = -2147483648 := by decide
  have m1 : Int32.maxValue.toInt = 2147483647 := by decide
  rw [e, Int32.ofInt_tdiv (by omega) (by omega) (by omega) (by omega)]
theorem rz_t {z : Int} {p : Nat} (h1 : -1000000000 ≤ z) (h2 : z ≤ 1000000000) (hp2 : p < 100) : rem (Int32.ofInt z) (nI p) = Int32.ofInt (z.tmod p) := by
  unfold rem
  have e : nI p = Int32.ofInt (p : Int) := nI_ofI
  rw [td_ h1 h2 hp2, e, ← Int32.ofInt_mul, ← Int32.ofInt_sub, Int.tmod_def, Int.mul_comm]
theorem rzz_0 {z : Int} {p : Nat} (h1 : -1000000000 ≤ z) (h2 : z ≤ 1000000000) (hp : 0 < p) (hp2 : p < 100) : (rem (Int32.ofInt z) (nI p) = 0) ↔ (p : Int) ∣ z := by
  rw [rz_t h1 h2 hp2]
  constructor
  · intro h
    have b1 := Int.tmod_lt_of_pos z (b := (p : Int)) (by omega)
    have b2 := Int.lt_tmod_of_pos z (b := (p : Int)) (by omega)
    have h3 := congrArg Int32.toInt h
    rw [Int32.toInt_ofInt_of_le (by omega) (by omega)] at h3
    exact Int.dvd_of_tmod_eq_zero h3
  · intro h
    rw [Int.tmod_eq_zero_of_dvd h]
    rfl
theorem td_d {z : Int} {p : Nat} (h1 : -1000000000 ≤ z) (h2 : z ≤ 1000000000) (hp2 : p < 100) (h : (p : Int) ∣ z) : Int32.ofInt z / nI p = Int32.ofInt (z / p) := by
  rw [td_ h1 h2 hp2, Int.tdiv_eq_ediv_of_dvd h]
theorem sqq_b {a : Int} (h : a * a ≤ 400000000) : -20000 ≤ a ∧ a ≤ 20000 := by
  constructor
  · refine Int.not_lt.mp fun q => ?_
    have h1 : 20001 ≤ -a := by omega
    have := Int.mul_le_mul h1 h1 (by omega) (by omega)
    rw [Int.neg_mul_neg] at this
    omega
  · refine Int.not_lt.mp fun q => ?_
    have h1 : 20001 ≤ a := by omega
    have := Int.mul_le_mul h1 h1 (by omega) (by omega)
    omega
theorem m5_b {a b : Int} (l : -5 ≤ a) (u : a ≤ 5) (l2 : -20000 ≤ b) (u2 : b ≤ 20000) : -100000 ≤ a * b ∧ a * b ≤ 100000 := by
  have e : a = -5 ∨ a = -4 ∨ a = -3 ∨ a = -2 ∨ a = -1 ∨ a = 0 ∨ a = 1 ∨ a = 2 ∨ a = 3 ∨ a = 4 ∨ a = 5 := by omega
  rcases e with rfl | rfl | rfl | rfl | rfl | rfl | rfl | rfl | rfl | rfl | rfl <;> omega
theorem zV_b {c v : Nat → Int} (hc : ∀ k, k < 4 → -5 ≤ c k ∧ c k ≤ 5) (hv : ∀ k, k < 4 → -20000 ≤ v k ∧ v k ≤ 20000) : ∀ k, k < 4 → -1000000 ≤ zV c v k ∧ zV c v k ≤ 1000000 := by
  have m := fun i j (hi : i < 4) (hj : j < 4) => m5_b (hc i hi).1 (hc i hi).2 (hv j hj).1 (hv j hj).2
  intro k hk
  have a0 := m 0 0 (by decide) (by decide)
  have a1 := m 0 1 (by decide) (by decide)
  have a2 := m 0 2 (by decide) (by decide)
  have a3 := m 0 3 (by decide) (by decide)
  have b0 := m 1 0 (by decide) (by decide)
  have b1 := m 1 1 (by decide) (by decide)
  have b2 := m 1 2 (by decide) (by decide)
  have b3 := m 1 3 (by decide) (by decide)
  have c0 := m 2 0 (by decide) (by decide)
  have c1 := m 2 1 (by decide) (by decide)
  have c2 := m 2 2 (by decide) (by decide)
  have c3 := m 2 3 (by decide) (by decide)
  have d0 := m 3 0 (by decide) (by decide)
  have d1 := m 3 1 (by decide) (by decide)
  have d2 := m 3 2 (by decide) (by decide)
  have d3 := m 3 3 (by decide) (by decide)
  rcases (by omega : k = 0 ∨ k = 1 ∨ k = 2 ∨ k = 3) with rfl | rfl | rfl | rfl
  · simp only [zV, zA]
    omega
  · simp only [zV, zB]
    omega
  · simp only [zV, zC]
    omega
  · simp only [zV, zD]
    omega
theorem pz_i {F G : Nat → Int32} {u v : Nat → Int} (hF : ∀ k, k < 4 → F k = Int32.ofInt (u k)) (hG : ∀ k, k < 4 → G k = Int32.ofInt (v k)) : pA F G = Int32.ofInt (zV u v 0) ∧ pB F G = Int32.ofInt (zV u v 1) ∧ pC F G = Int32.ofInt (zV u v 2) ∧ pD F G = Int32.ofInt (zV u v 3) := by
  have f0 := hF 0 (by decide)
  have f1 := hF 1 (by decide)
  have f2 := hF 2 (by decide)
  have f3 := hF 3 (by decide)
  have g0 := hG 0 (by decide)
  have g1 := hG 1 (by decide)
  have g2 := hG 2 (by decide)
  have g3 := hG 3 (by decide)
  simp only [pA, pB, pC, pD, zV, zA, zB, zC, zD]
  rw [f0, f1, f2, f3, g0, g1, g2, g3]
  simp only [Int32.ofInt_mul, Int32.ofInt_add, Int32.ofInt_sub, and_self]
def cF (x s : Nat) : Nat → Int32 := fun k => Int32.ofInt (cS x s k)
def dvB (p a b c d : Int32) : Bool := decide (rem a p = 0) && decide (rem b p = 0) && decide (rem c p = 0) && decide (rem d p = 0)
def DV (x s : Nat) (f : Nat → Int32) : Bool := dvB (nI (pW x)) (pA (cF x s) f) (pB (cF x s) f) (pC (cF x s) f) (pD (cF x s) f)
def NX (x s : Nat) (f : Nat → Int32) : Nat → Int32 := q4 (fun _ => 0) (pA (cF x s) f / nI (pW x)) (pB (cF x s) f / nI (pW x)) (pC (cF x s) f / nI (pW x)) (pD (cF x s) f / nI (pW x))
theorem mul4_q {f : Nat → Int32} {a b c d p : Int32} : mul4 (q4 f a b c d) p = dvB p a b c d := rfl
theorem mul4_d {f : Nat → Int32} {p : Int32} : mul4 f p = dvB p (f 0) (f 1) (f 2) (f 3) := rfl
theorem DV_q {x s : Nat} {f g : Nat → Int32} (h : ∀ k, k < 4 → f k = g k) : DV x s f = DV x s g := by
  obtain ⟨e1, e2, e3, e4⟩ := p4_q (f := cF x s) (f' := cF x s) (fun _ _ => rfl) h
  unfold DV
  rw [e1, e2, e3, e4]
theorem NX_q {x s : Nat} {f g : Nat → Int32} (h : ∀ k, k < 4 → f k = g k) : NX x s f = NX x s g := by
  obtain ⟨e1, e2, e3, e4⟩ := p4_q (f := cF x s) (f' := cF x s) (fun _ _ => rfl) h
  unfold NX
  rw [e1, e2, e3, e4]
/-- a row of m steps can be taken off -/
def AV (x m : Nat) (f : Nat → Int32) : Prop := ∃ v : Nat → Int, (∀ k, k < 4 → f k = Int32.ofInt (v k)) ∧ zN v = ((pW x ^ m : Nat) : Int) ∧ (¬ ∀ k, k < 4 → (pW x : Int) ∣ v k) ∧ pW x ^ m ≤ 400000000
theorem v_bd {v : Nat → Int} {M : Nat} (h : zN v = (M : Int)) (hM : M ≤ 400000000) : ∀ k, k < 4 → -20000 ≤ v k ∧ v k ≤ 20000 := by
  have p := fun k => (show 0 ≤ v k * v k by
    rcases Int.le_total 0 (v k) with q | q
    · exact Int.mul_nonneg q q
    · exact Int.mul_nonneg_of_nonpos_of_nonpos q q)
  have p0 := p 0
  have p1 := p 1
  have p2 := p 2
  have p3 := p 3
  unfold zN at h
  intro k hk
  refine sqq_b ?_
  rcases (by omega : k = 0 ∨ k = 1 ∨ k = 2 ∨ k = 3) with rfl | rfl | rfl | rfl <;> omega
theorem DV_i {x s : Nat} (hx : x < 11) (hs : s < sN x) {f : Nat → Int32} {v : Nat → Int} (hf : ∀ k, k < 4 → f k = Int32.ofInt (v k)) (hv : ∀ k, k < 4 → -20000 ≤ v k ∧ v k ≤ 20000) : (DV x s f = true ↔ ∀ k, k < 4 → (pW x : Int) ∣ zV (cS x s) v k) ∧ (DV x s f = true → ∀ k, k < 4 → NX x s f k = Int32.ofInt (zV (cS x s) v k / pW x)) := by
  have hp := pOk_b (pOk_x x hx)
  have b := zV_b (cS_f hx hs).2.2.2 hv
  obtain ⟨e1, e2, e3, e4⟩ := pz_i (F := cF x s) (u := cS x s) (fun _ _ => rfl) hf
  have r := fun k (hk : k < 4) => rzz_0 (z := zV (cS x s) v k) (p := pW x) (by have := b k hk; omega) (by have := b k hk; omega) (by omega) (by omega)
  have t := fun k (hk : k < 4) => td_d (z := zV (cS x s) v k) (p := pW x) (by have := b k hk; omega) (by have := b k hk; omega) (by omega)
  have i : DV x s f = true ↔ ∀ k, k < 4 → (pW x : Int) ∣ zV (cS x s) v k := by
    unfold DV dvB
    rw [e1, e2, e3, e4]
    simp only [Bool.and_eq_true, decide_eq_true_eq]
    rw [r 0 (by decide), r 1 (by decide), r 2 (by decide), r 3 (by decide)]
    constructor
    · rintro ⟨⟨⟨h0, h1⟩, h2⟩, h3⟩ k hk
      rcases (by omega : k = 0 ∨ k = 1 ∨ k = 2 ∨ k = 3) with rfl | rfl | rfl | rfl
      · exact h0
      · exact h1
      · exact h2
      · exact h3
    · intro h
      exact ⟨⟨⟨h 0 (by decide), h 1 (by decide)⟩, h 2 (by decide)⟩, h 3 (by decide)⟩
  refine ⟨i, fun h k hk => ?_⟩
  have h2 := i.mp h
  have q := t k hk (h2 k hk)
  unfold NX
  rw [e1, e2, e3, e4]
  rcases (by omega : k = 0 ∨ k = 1 ∨ k = 2 ∨ k = 3) with rfl | rfl | rfl | rfl <;> exact q
theorem AV_s {x m : Nat} (hx : x < 11) {f : Nat → Int32} (h : AV x (m + 1) f) : ∃ s, s < sN x ∧ DV x s f = true ∧ (∀ t, t < s → DV x t f = false) ∧ AV x m (NX x s f) := by
  obtain ⟨v, hf, hN, hv, hM⟩ := h
  have hp := pOk_b (pOk_x x hx)
  have bd := v_bd hN hM
  obtain ⟨s0, hs0, h0⟩ := ap_ex hx (v := v) (by
    rw [hN, Nat.pow_succ, Int.natCast_mul]
    exact Int.dvd_mul_left _ _) hv
  rcases first_or (p := fun s => DV x s f) (s0 + 1) with ⟨s, h1, h2, h3⟩ | h1
  · have hs : s < sN x := by omega
    obtain ⟨i1, i2⟩ := DV_i hx hs hf bd
    refine ⟨s, hs, h2, h3, fun k => zV (cS x s) v k / pW x, i2 h2, ?_, ?_, ?_⟩
    · have d := i1.mp h2
      have e := fun k (hk : k < 4) => Int.mul_ediv_cancel' (d k hk)
      have e0 := e 0 (by decide)
      have e1 := e 1 (by decide)
      have e2 := e 2 (by decide)
      have e3 := e 3 (by decide)
      have nm := zN_mul (f := cS x s) (g := v)
      obtain ⟨-, c1, c2, -⟩ := cS_f hx hs
      have nc : zN (cS x s) = (pW x : Int) := by
        unfold zN
        rw [c1 0 (by decide), c1 1 (by decide), c1 2 (by decide), c1 3 (by decide)]
        simp only [cjV]
        rw [← c2]
        grind
      rw [nc, hN, Nat.pow_succ, Int.natCast_mul] at nm
      have nn : zN (zV (cS x s) v) = (pW x : Int) * (pW x : Int) * zN (fun k => zV (cS x s) v k / pW x) := by
        unfold zN
        generalize zV (cS x s) v 0 / (pW x : Int) = a0 at *
        generalize zV (cS x s) v 1 / (pW x : Int) = a1 at *
        generalize zV (cS x s) v 2 / (pW x : Int) = a2 at *
        generalize zV (cS x s) v 3 / (pW x : Int) = a3 at *
        rw [← e0, ← e1, ← e2, ← e3]
        grind
      rw [nn] at nm
      have pz : ((pW x : Int) * (pW x : Int)) ≠ 0 := Int.mul_ne_zero (by omega) (by omega)
      refine Int.eq_of_mul_eq_mul_left pz ?_
      rw [nm]
      grind
    · intro q
      refine hv fun k hk => ?_
      obtain ⟨-, c1, c2, -⟩ := cS_f hx hs
      have d := i1.mp h2
      have e : ∀ i, i < 4 → zV (cS x s) v i = (pW x : Int) * (fun k => zV (cS x s) v k / pW x) i + 0 * (fun _ => 0) i := fun i hi => by
        rw [Int.zero_mul, Int.add_zero]
        exact (Int.mul_ediv_cancel' (d i hi)).symm
      have e2 := zV_r (h := stX x s) e k hk
      rw [Int.zero_mul, Int.add_zero] at e2
      have e3 := zV_n (f := stX x s) (g := v) k hk
      have e4 : zV (stX x s) (zV (cjV (stX x s)) v) k = zV (stX x s) (zV (cS x s) v) k := by
        have e5 : ∀ i, i < 4 → zV (cjV (stX x s)) v i = zV (cS x s) v i := fun i hi => by
          have := zV_l (f := cjV (stX x s)) (g := cS x s) (k := fun _ => 0) (h := v) (u := 1) (q := 0) (fun i hi => by rw [c1 i hi]; grind) i hi
          rw [this]
          grind
        have := zV_r (f := zV (cjV (stX x s)) v) (g := zV (cS x s) v) (k := fun _ => 0) (h := stX x s) (u := 1) (q := 0) (fun i hi => by rw [e5 i hi]; grind) k hk
        rw [this]
        grind
      rw [← e4, e3, c2] at e2
      have e6 := Int.eq_of_mul_eq_mul_left (show (pW x : Int) ≠ 0 by omega) e2
      rw [e6]
      -- a product with a multiple
      have qq : ∀ i, i < 4 → (fun k => zV (cS x s) v k / (pW x : Int)) i = (pW x : Int) * (fun k => zV (cS x s) v k / pW x / pW x) i + 0 * (fun _ => 0) i := fun i hi => by
        rw [Int.zero_mul, Int.add_zero]
        exact (Int.mul_ediv_cancel' (q i hi)).symm
      have e7 := zV_r (h := stX x s) qq k hk
      rw [Int.zero_mul, Int.add_zero] at e7
      rw [e7]
      exact Int.dvd_mul_right _ _
    · have := Nat.pow_le_pow_right (n := pW x) (by omega) (show m ≤ m + 1 by omega)
      omega
  · have := (DV_i hx hs0 hf bd).1.mpr h0
    rw [h1 s0 (by omega)] at this
    exact absurd this (by decide)
