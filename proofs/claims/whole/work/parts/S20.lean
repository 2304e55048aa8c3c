/-! case apart: a number of which the norm is a multiple of p has a first step -/
def eT5 : List (Nat × Nat × Nat × Nat) := [(6, 7, 5, 5), (6, 5, 7, 5), (6, 5, 5, 7), (6, 5, 5, 3), (6, 5, 3, 5), (6, 3, 5, 5)]
def eT13 : List (Nat × Nat × Nat × Nat) := [(14, 15, 15, 15), (14, 15, 15, 11), (14, 15, 11, 15), (14, 15, 11, 11), (14, 11, 15, 15), (14, 11, 15, 11), (14, 11, 11, 15), (14, 11, 11, 11), (16, 15, 13, 13), (16, 13, 15, 13), (16, 13, 13, 15), (16, 13, 13, 11), (16, 13, 11, 13), (16, 11, 13, 13)]
def eT17 : List (Nat × Nat × Nat × Nat) := [(18, 21, 17, 17), (18, 17, 21, 17), (18, 17, 17, 21), (18, 17, 17, 13), (18, 17, 13, 17), (18, 13, 17, 17), (20, 19, 19, 17), (20, 19, 17, 19), (20, 19, 17, 15), (20, 19, 15, 17), (20, 17, 19, 19), (20, 17, 19, 15), (20, 17, 15, 19), (20, 17, 15, 15), (20, 15, 19, 17), (20, 15, 17, 19), (20, 15, 17, 15), (20, 15, 15, 17)]
def eT29 : List (Nat × Nat × Nat × Nat) := [(32, 33, 31, 29), (32, 33, 29, 31), (32, 33, 29, 27), (32, 33, 27, 29), (32, 31, 33, 29), (32, 31, 29, 33), (32, 31, 29, 25), (32, 31, 25, 29), (32, 29, 33, 31), (32, 29, 33, 27), (32, 29, 31, 33), (32, 29, 31, 25), (32, 29, 27, 33), (32, 29, 27, 25), (32, 29, 25, 31), (32, 29, 25, 27), (32, 27, 33, 29), (32, 27, 29, 33), (32, 27, 29, 25), (32, 27, 25, 29), (32, 25, 31, 29), (32, 25, 29, 31), (32, 25, 29, 27), (32, 25, 27, 29), (34, 31, 29, 29), (34, 29, 31, 29), (34, 29, 29, 31), (34, 29, 29, 27), (34, 29, 27, 29), (34, 27, 29, 29)]
def eP (p : Nat) : List (Nat × Nat × Nat × Nat) := if p = 5 then eT5 else if p = 13 then eT13 else if p = 17 then eT17 else eT29
def d4 (p : Nat) (e : Nat × Nat × Nat × Nat) (a b c d : Nat) : Bool := Nat.beq ((e.1 * a + (2 * p - e.2.1) * b + (2 * p - e.2.2.1) * c + (2 * p - e.2.2.2) * d) % p) 0 && Nat.beq ((e.1 * b + e.2.1 * a + e.2.2.1 * d + (2 * p - e.2.2.2) * c) % p) 0 && Nat.beq ((e.1 * c + (2 * p - e.2.1) * d + e.2.2.1 * a + e.2.2.2 * b) % p) 0 && Nat.beq ((e.1 * d + e.2.1 * c + (2 * p - e.2.2.1) * b + e.2.2.2 * a) % p) 0
def zr4 (p : Nat) (l : List (Nat × Nat × Nat × Nat)) (a b c d : Nat) : Bool := !(Nat.beq ((a * a + b * b + c * c + d * d) % p) 0) || l.any (fun e => d4 p e a b c d)
def ckPp (p : Nat) (l : List (Nat × Nat × Nat × Nat)) : Bool := (allB p fun b => allB p fun c => allB p fun d => zr4 p l 1 b c d) && (allB p fun c => allB p fun d => zr4 p l 0 1 c d) && (allB p fun d => zr4 p l 0 0 1 d) && zr4 p l 0 0 0 1
theorem ckPp_5 : ckPp 5 eT5 = true := by decide +kernel
theorem ckPp_13 : ckPp 13 eT13 = true := by decide +kernel
theorem ckPp_17 : ckPp 17 eT17 = true := by decide +kernel
theorem ckPp_29 : ckPp 29 eT29 = true := by decide +kernel
def pOk (p : Nat) : Prop := p = 5 ∨ p = 13 ∨ p = 17 ∨ p = 29
theorem ckPp_a {p : Nat} (h : pOk p) : ckPp p (eP p) = true := by
  rcases h with rfl | rfl | rfl | rfl
  · exact ckPp_5
  · exact ckPp_13
  · exact ckPp_17
  · exact ckPp_29
theorem pOk_x : ∀ x, x < 11 → pOk (pW x) := by unfold pOk; decide +kernel
theorem pOk_i {p : Nat} (h : pOk p) : ∀ m, m < p → ¬ m = 0 → ∃ l, l < p ∧ l * m % p = 1 := by
  rcases h with rfl | rfl | rfl | rfl <;> decide +kernel
theorem pOk_b {p : Nat} (h : pOk p) : 5 ≤ p ∧ p ≤ 29 := by
  rcases h with rfl | rfl | rfl | rfl <;> decide
/-- what a step's reverse is -/
def cS (x s : Nat) : Nat → Int := fun k => stX x (rvX x s) k
def tE (x s : Nat) : Nat × Nat × Nat × Nat := ((cS x s 0 + pW x).toNat, (cS x s 1 + pW x).toNat, (cS x s 2 + pW x).toNat, (cS x s 3 + pW x).toNat)
theorem eP_e : ∀ x, x < 11 → eP (pW x) = (List.range (sN x)).map (tE x) := by decide +kernel
def ckSp (x : Nat) : Bool := allB (sN x) fun s => decide (rvX x s < sN x) && decide (cS x s 0 = stX x s 0) && decide (cS x s 1 = - stX x s 1) && decide (cS x s 2 = - stX x s 2) && decide (cS x s 3 = - stX x s 3) && decide (stX x s 0 * stX x s 0 + stX x s 1 * stX x s 1 + stX x s 2 * stX x s 2 + stX x s 3 * stX x s 3 = pW x) && allB 4 fun k => decide (-5 ≤ cS x s k) && decide (cS x s k ≤ 5)
theorem ckSp_a : ∀ x, x < 11 → ckSp x = true := by decide +kernel
theorem cS_f {x s : Nat} (hx : x < 11) (hs : s < sN x) : rvX x s < sN x ∧ (∀ k, k < 4 → cS x s k = cjV (stX x s) k) ∧ stX x s 0 * stX x s 0 + stX x s 1 * stX x s 1 + stX x s 2 * stX x s 2 + stX x s 3 * stX x s 3 = pW x ∧ ∀ k, k < 4 → -5 ≤ cS x s k ∧ cS x s k ≤ 5 := by
  have h := allB_i (ckSp_a x hx) s hs
  simp only [Bool.and_eq_true, decide_eq_true_eq] at h
  obtain ⟨⟨⟨⟨⟨⟨h1, h2⟩, h3⟩, h4⟩, h5⟩, h6⟩, h7⟩ := h
  refine ⟨h1, ?_, h6, fun k hk => ?_⟩
  · intro k hk
    rcases (by omega : k = 0 ∨ k = 1 ∨ k = 2 ∨ k = 3) with rfl | rfl | rfl | rfl
    · exact h2
    · exact h3
    · exact h4
    · exact h5
  · have := allB_i h7 k hk
    simpa only [Bool.and_eq_true, decide_eq_true_eq] using this
def zN (f : Nat → Int) : Int := f 0 * f 0 + f 1 * f 1 + f 2 * f 2 + f 3 * f 3
theorem zN_mul {f g : Nat → Int} : zN (zV f g) = zN f * zN g := by
  simp only [zN, zV, zA, zB, zC, zD]
  grind
theorem dv_i {p : Int} {E z w : Int} (h : ∃ m, E = p * m) (e : E = z + p * w) : p ∣ z := by
  obtain ⟨m, hm⟩ := h
  exact ⟨m - w, by rw [Int.mul_sub, ← hm]; omega⟩
theorem md_i {p E : Nat} (h : E % p = 0) : ∃ m : Int, (E : Int) = (p : Int) * m := ⟨((E / p : Nat) : Int), by rw [← Int.natCast_mul, Nat.mul_div_cancel' (Nat.dvd_of_mod_eq_zero h)]⟩
theorem d4_i {p : Nat} {c : Nat → Int} {a b c' d : Nat} {e : Nat × Nat × Nat × Nat} (b1 : e.2.1 ≤ 2 * p) (b2 : e.2.2.1 ≤ 2 * p) (b3 : e.2.2.2 ≤ 2 * p) (e0 : c 0 = (e.1 : Int) - p) (e1 : c 1 = (e.2.1 : Int) - p) (e2 : c 2 = (e.2.2.1 : Int) - p) (e3 : c 3 = (e.2.2.2 : Int) - p) {w : Nat → Int} (w0 : w 0 = a) (w1 : w 1 = b) (w2 : w 2 = c') (w3 : w 3 = d) (h : d4 p e a b c' d = true) : ∀ k, k < 4 → (p : Int) ∣ zV c w k := by
  unfold d4 at h
  simp only [Bool.and_eq_true, Nat.beq_eq] at h
  obtain ⟨⟨⟨h0, h1⟩, h2⟩, h3⟩ := h
  intro k hk
  rcases (by omega : k = 0 ∨ k = 1 ∨ k = 2 ∨ k = 3) with rfl | rfl | rfl | rfl
  · refine dv_i (md_i h0) (w := w 0 + w 1 + w 2 + w 3) ?_
    simp only [zV, zA, e0, e1, e2, e3, w0, w1, w2, w3, Int.natCast_add, Int.natCast_mul, Int.natCast_sub b1, Int.natCast_sub b2, Int.natCast_sub b3]
    grind
  · refine dv_i (md_i h1) (w := w 1 + w 0 + w 3 + w 2) ?_
    simp only [zV, zB, e0, e1, e2, e3, w0, w1, w2, w3, Int.natCast_add, Int.natCast_mul, Int.natCast_sub b1, Int.natCast_sub b2, Int.natCast_sub b3]
    grind
  · refine dv_i (md_i h2) (w := w 1 + w 0 + w 3 + w 2) ?_
    simp only [zV, zC, e0, e1, e2, e3, w0, w1, w2, w3, Int.natCast_add, Int.natCast_mul, Int.natCast_sub b1, Int.natCast_sub b2, Int.natCast_sub b3]
    grind
  · refine dv_i (md_i h3) (w := w 1 + w 0 + w 3 + w 2) ?_
    simp only [zV, zD, e0, e1, e2, e3, w0, w1, w2, w3, Int.natCast_add, Int.natCast_mul, Int.natCast_sub b1, Int.natCast_sub b2, Int.natCast_sub b3]
    grind
/-- in normal form: a first step -/
theorem zr_i {x : Nat} (hx : x < 11) {a b c d : Nat} {w : Nat → Int} (w0 : w 0 = a) (w1 : w 1 = b) (w2 : w 2 = c) (w3 : w 3 = d) (hz : zr4 (pW x) (eP (pW x)) a b c d = true) (hN : (pW x : Int) ∣ zN w) : ∃ s, s < sN x ∧ ∀ k, k < 4 → (pW x : Int) ∣ zV (cS x s) w k := by
  unfold zr4 at hz
  rw [Bool.or_eq_true] at hz
  have hp := pOk_b (pOk_x x hx)
  rcases hz with h | h
  · exfalso
    have e : ((a * a + b * b + c * c + d * d : Nat) : Int) = zN w := by
      simp only [zN, w0, w1, w2, w3, Int.natCast_add, Int.natCast_mul]
    rw [← e] at hN
    have := Int.natCast_dvd_natCast.mp hN
    have h2 := Nat.mod_eq_zero_of_dvd this
    rw [h2] at h
    exact absurd h (by decide)
  · rw [List.any_eq_true] at h
    obtain ⟨e, he, h⟩ := h
    rw [eP_e x hx, List.mem_map] at he
    obtain ⟨s, hs, rfl⟩ := he
    rw [List.mem_range] at hs
    have hb := (cS_f hx hs).2.2.2
    have b0 := hb 0 (by decide)
    have b1 := hb 1 (by decide)
    have b2 := hb 2 (by decide)
    have b3 := hb 3 (by decide)
    have q := fun k (hk : -5 ≤ cS x s k ∧ cS x s k ≤ 5) => Int.toNat_of_nonneg (a := cS x s k + pW x) (by omega)
    have q0 := q 0 b0
    have q1 := q 1 b1
    have q2 := q 2 b2
    have q3 := q 3 b3
    refine ⟨s, hs, d4_i (e := tE x s) (c := cS x s) ?_ ?_ ?_ ?_ ?_ ?_ ?_ w0 w1 w2 w3 h⟩
    all_goals simp only [tE]
    all_goals omega
theorem ck_1 {p : Nat} {l : List (Nat × Nat × Nat × Nat)} (h : ckPp p l = true) : (∀ b, b < p → ∀ c, c < p → ∀ d, d < p → zr4 p l 1 b c d = true) ∧ (∀ c, c < p → ∀ d, d < p → zr4 p l 0 1 c d = true) ∧ (∀ d, d < p → zr4 p l 0 0 1 d = true) ∧ zr4 p l 0 0 0 1 = true := by
  unfold ckPp at h
  simp only [Bool.and_eq_true] at h
  obtain ⟨⟨⟨h1, h2⟩, h3⟩, h4⟩ := h
  exact ⟨fun b hb c hc d hd => allB_i (allB_i (allB_i h1 b hb) c hc) d hd, fun c hc d hd => allB_i (allB_i h2 c hc) d hd, fun d hd => allB_i h3 d hd, h4⟩
/-- residues after scaling -/
def sc (p l : Nat) (v : Nat → Int) (k : Nat) : Nat := ((l : Int) * v k % p).toNat
theorem sc_lt {p l : Nat} {v : Nat → Int} {k : Nat} (hp : 0 < p) : sc p l v k < p := by
  unfold sc
  have h1 := Int.emod_nonneg ((l : Int) * v k) (b := (p : Int)) (by omega)
  have h2 := Int.emod_lt_of_pos ((l : Int) * v k) (b := (p : Int)) (by omega)
  omega
theorem sc_e {p l : Nat} {v : Nat → Int} {k : Nat} (hp : 0 < p) : (sc p l v k : Int) = (l : Int) * v k + (p : Int) * (-((l : Int) * v k / p)) := by
  unfold sc
  have h1 := Int.emod_nonneg ((l : Int) * v k) (b := (p : Int)) (by omega)
  rw [Int.toNat_of_nonneg h1, Int.emod_def, Int.mul_neg]
  omega
theorem sc_0 {p l : Nat} {v : Nat → Int} {k : Nat} (h : (p : Int) ∣ v k) : sc p l v k = 0 := by
  unfold sc
  rw [Int.emod_eq_zero_of_dvd (Int.dvd_mul_of_dvd_right h)]
  rfl
theorem sc_1 {p l m : Nat} {v : Nat → Int} {k : Nat} (hp : 1 < p) (hm : (m : Int) = v k % p) (hl : l * m % p = 1) : sc p l v k = 1 := by
  unfold sc
  have e : (l : Int) * v k % p = ((l * m % p : Nat) : Int) := by
    rw [Int.natCast_emod, Int.natCast_mul, hm, Int.mul_emod, Int.mul_emod (l : Int) (v k % p), Int.emod_emod]
  rw [e, hl]
  rfl
theorem ap_ex {x : Nat} (hx : x < 11) {v : Nat → Int} (hN : (pW x : Int) ∣ zN v) (hv : ¬ ∀ k, k < 4 → (pW x : Int) ∣ v k) : ∃ s, s < sN x ∧ ∀ k, k < 4 → (pW x : Int) ∣ zV (cS x s) v k := by
  have hp := pOk_x x hx
  have pb := pOk_b hp
  have ck := ck_1 (ckPp_a hp)
  generalize hpp : pW x = p at *
  -- from a scale to the step
  have fin : ∀ m l : Nat, l * m % p = 1 → zr4 p (eP p) (sc p l v 0) (sc p l v 1) (sc p l v 2) (sc p l v 3) = true → ∃ s, s < sN x ∧ ∀ k, k < 4 → (p : Int) ∣ zV (cS x s) v k := by
    intro m l hl hz
    have ew : ∀ k, k < 4 → (fun k => (sc p l v k : Int)) k = (l : Int) * v k + (p : Int) * (fun k => -((l : Int) * v k / p)) k := fun k _ => sc_e (by omega)
    have nw : (p : Int) ∣ zN (fun k => (sc p l v k : Int)) := by
      have e0 := ew 0 (by decide)
      have e1 := ew 1 (by decide)
      have e2 := ew 2 (by decide)
      have e3 := ew 3 (by decide)
      obtain ⟨t, ht⟩ := hN
      generalize (fun k => (sc p l v k : Int)) = w at *
      generalize (fun k => -((l : Int) * v k / p)) = u at *
      refine ⟨l * l * t + 2 * l * (v 0 * u 0 + v 1 * u 1 + v 2 * u 2 + v 3 * u 3) + p * (u 0 * u 0 + u 1 * u 1 + u 2 * u 2 + u 3 * u 3), ?_⟩
      unfold zN at ht ⊢
      rw [e0, e1, e2, e3]
      grind
    subst hpp
    obtain ⟨s, hs, h⟩ := zr_i hx (w := fun k => (sc (pW x) l v k : Int)) rfl rfl rfl rfl hz nw
    refine ⟨s, hs, fun k hk => ?_⟩
    have e := zV_r (h := cS x s) ew k hk
    obtain ⟨t, ht⟩ := h k hk
    have em : ((l * m : Nat) : Int) = (pW x : Int) * ((l * m / pW x : Nat) : Int) + 1 := by
      have := Nat.div_add_mod (l * m) (pW x)
      rw [hl] at this
      rw [← Int.natCast_mul]
      omega
    rw [Int.natCast_mul] at em
    rw [ht] at e
    generalize zV (cS x s) v k = z at *
    generalize zV (cS x s) (fun k => -((l : Int) * v k / (pW x : Nat))) k = y at *
    generalize ((l * m / pW x : Nat) : Int) = y2 at *
    generalize ((pW x : Nat) : Int) = P at *
    refine ⟨m * t - m * y - y2 * z, ?_⟩
    grind
  have mk : ∀ k, ¬ (p : Int) ∣ v k → ∃ m l : Nat, (m : Int) = v k % p ∧ l * m % p = 1 := by
    intro k h
    have h1 := Int.emod_nonneg (v k) (b := (p : Int)) (by omega)
    have h2 := Int.emod_lt_of_pos (v k) (b := (p : Int)) (by omega)
    obtain ⟨l, -, hl⟩ := pOk_i hp (v k % p).toNat (by omega) (fun q => h (Int.dvd_of_emod_eq_zero (by omega)))
    exact ⟨_, l, Int.toNat_of_nonneg h1, hl⟩
  by_cases h0 : (p : Int) ∣ v 0
  · by_cases h1 : (p : Int) ∣ v 1
    · by_cases h2 : (p : Int) ∣ v 2
      · by_cases h3 : (p : Int) ∣ v 3
        · exact absurd (fun k hk => by
            rcases (by omega : k = 0 ∨ k = 1 ∨ k = 2 ∨ k = 3) with rfl | rfl | rfl | rfl
            · exact h0
            · exact h1
            · exact h2
            · exact h3) hv
        · obtain ⟨m, l, hm, hl⟩ := mk 3 h3
          refine fin m l hl ?_
          rw [sc_0 h0, sc_0 h1, sc_0 h2, sc_1 (by omega) hm hl]
          exact ck.2.2.2
      · obtain ⟨m, l, hm, hl⟩ := mk 2 h2
        refine fin m l hl ?_
        rw [sc_0 h0, sc_0 h1, sc_1 (by omega) hm hl]
        exact ck.2.2.1 _ (sc_lt (by omega))
    · obtain ⟨m, l, hm, hl⟩ := mk 1 h1
      refine fin m l hl ?_
      rw [sc_0 h0, sc_1 (by omega) hm hl]
      exact ck.2.1 _ (sc_lt (by omega)) _ (sc_lt (by omega))
  · obtain ⟨m, l, hm, hl⟩ := mk 0 h0
    refine fin m l hl ?_
    rw [sc_1 (by omega) hm hl]
    exact ck.1 _ (sc_lt (by omega)) _ (sc_lt (by omega)) _ (sc_lt (by omega))
