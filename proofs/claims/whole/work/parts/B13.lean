/-! Network: products and classes are those of the tables -/
theorem rsd_of {q : Nat} {z : Int} (h : -2 ^ 31 ≤ z) (h2 : z < 2 ^ 31) : rsd q (Int32.ofInt z) = (z % q).toNat := by
  unfold rsd
  rw [Int32.toInt_ofInt_of_le h h2]
def ckT (x : Nat) : Bool := allB (sN x) fun s => allB 4 fun k => decide (-5 ≤ stX x s k) && decide (stX x s k ≤ 5)
theorem ckT_all : ∀ x, x < 11 → ckT x = true := by decide +kernel
theorem st_b {x s k : Nat} (hx : x < 11) (hs : s < sN x) (hk : k < 4) : -5 ≤ stX x s k ∧ stX x s k ≤ 5 := by
  have h := allB_i (allB_i (ckT_all x hx) s hs) k hk
  simp only [Bool.and_eq_true, decide_eq_true_eq] at h
  exact h
theorem nd_b {x j k : Nat} (hx : x < 11) : ndX x j k ≤ 6 := by
  unfold ndX
  generalize cdX x j / qW x ^ (3 - k) = m
  rcases qW_b x hx with e | e | e <;> rw [e] <;> omega
theorem mul_b {a b : Int} (h0 : 0 ≤ a) (h6 : a ≤ 6) (l : -5 ≤ b) (u : b ≤ 5) : -30 ≤ a * b ∧ a * b ≤ 30 := by
  have e : a = 0 ∨ a = 1 ∨ a = 2 ∨ a = 3 ∨ a = 4 ∨ a = 5 ∨ a = 6 := by omega
  rcases e with rfl | rfl | rfl | rfl | rfl | rfl | rfl <;> omega
theorem pr_i {x n s : Nat} {F G : Nat → Int32} (hF : ∀ k, k < 4 → F k = nI (ndX x n k)) (hG : ∀ k, k < 4 → G k = Int32.ofInt (stX x s k)) : pA F G = Int32.ofInt (zA (fun k => (ndX x n k : Int)) (stX x s)) ∧ pB F G = Int32.ofInt (zB (fun k => (ndX x n k : Int)) (stX x s)) ∧ pC F G = Int32.ofInt (zC (fun k => (ndX x n k : Int)) (stX x s)) ∧ pD F G = Int32.ofInt (zD (fun k => (ndX x n k : Int)) (stX x s)) := by
  have f0 := hF 0 (by decide)
  have f1 := hF 1 (by decide)
  have f2 := hF 2 (by decide)
  have f3 := hF 3 (by decide)
  have g0 := hG 0 (by decide)
  have g1 := hG 1 (by decide)
  have g2 := hG 2 (by decide)
  have g3 := hG 3 (by decide)
  have ee : ∀ n : Nat, nI n = Int32.ofInt (n : Int) := fun _ => rfl
  unfold pA pB pC pD zA zB zC zD
  rw [f0, f1, f2, f3, g0, g1, g2, g3]
  simp only [ee, Int32.ofInt_mul, Int32.ofInt_add, Int32.ofInt_sub, and_self]
theorem z_b {x n s : Nat} (hx : x < 11) (hs : s < sN x) {i j : Nat} (hj : j < 4) : -30 ≤ (ndX x n i : Int) * stX x s j ∧ (ndX x n i : Int) * stX x s j ≤ 30 :=
  mul_b (by omega) (by have := nd_b (j := n) (k := i) hx; omega) (st_b hx hs hj).1 (st_b hx hs hj).2
theorem zz_b {x n s : Nat} (hx : x < 11) (hs : s < sN x) : (-120 ≤ zA (fun k => (ndX x n k : Int)) (stX x s) ∧ zA (fun k => (ndX x n k : Int)) (stX x s) ≤ 120) ∧ (-120 ≤ zB (fun k => (ndX x n k : Int)) (stX x s) ∧ zB (fun k => (ndX x n k : Int)) (stX x s) ≤ 120) ∧ (-120 ≤ zC (fun k => (ndX x n k : Int)) (stX x s) ∧ zC (fun k => (ndX x n k : Int)) (stX x s) ≤ 120) ∧ (-120 ≤ zD (fun k => (ndX x n k : Int)) (stX x s) ∧ zD (fun k => (ndX x n k : Int)) (stX x s) ≤ 120) := by
  have b := fun i j (hj : j < 4) => z_b (n := n) (i := i) hx hs hj
  have b0 := fun i => b i 0 (by decide)
  have b1 := fun i => b i 1 (by decide)
  have b2 := fun i => b i 2 (by decide)
  have b3 := fun i => b i 3 (by decide)
  have := b0 0; have := b0 1; have := b0 2; have := b0 3
  have := b1 0; have := b1 1; have := b1 2; have := b1 3
  have := b2 0; have := b2 1; have := b2 2; have := b2 3
  have := b3 0; have := b3 1; have := b3 2; have := b3 3
  dsimp only [zA, zB, zC, zD]
  omega
theorem cl_t {x n s : Nat} {F G : Nat → Int32} (hx : x < 11) (hn : n < nN x) (hs : s < sN x) (hF : ∀ k, k < 4 → F k = nI (ndX x n k)) (hG : ∀ k, k < 4 → G k = Int32.ofInt (stX x s k)) : cl4 (qW x) (pA F G) (pB F G) (pC F G) (pD F G) = cdX x (tgX x n s) := by
  have h := allB_i (allB_i (tg_b x hx) n hn) s hs
  simp only [Bool.and_eq_true, Nat.beq_eq] at h
  rw [← h.1]
  obtain ⟨e1, e2, e3, e4⟩ := pr_i hF hG
  obtain ⟨b1, b2, b3, b4⟩ := zz_b (n := n) hx hs
  unfold cl4 cdZ
  rw [e1, e2, e3, e4, rsd_of (by omega) (by omega), rsd_of (by omega) (by omega), rsd_of (by omega) (by omega), rsd_of (by omega) (by omega)]
theorem cd_dig {q a b c e : Nat} (ha : a < q) (hb : b < q) (hc : c < q) (he : e < q) : (((a * q + b) * q + c) * q + e) / q ^ (3 - 0) % q = a ∧ (((a * q + b) * q + c) * q + e) / q ^ (3 - 1) % q = b ∧ (((a * q + b) * q + c) * q + e) / q ^ (3 - 2) % q = c ∧ (((a * q + b) * q + c) * q + e) / q ^ (3 - 3) % q = e := by
  have h0 : 0 < q := by omega
  have s : ∀ {m r : Nat}, r < q → (m * q + r) / q = m ∧ (m * q + r) % q = r := fun {m r} hr => ⟨by rw [Nat.mul_comm, Nat.mul_add_div h0, Nat.div_eq_of_lt hr]; rfl, by rw [Nat.mul_comm, Nat.mul_add_mod, Nat.mod_eq_of_lt hr]⟩
  have e1 : q ^ (3 - 0) = q * q * q := by show q ^ 3 = _; simp only [Nat.pow_succ, Nat.pow_zero, Nat.one_mul]
  have e2 : q ^ (3 - 1) = q * q := by show q ^ 2 = _; simp only [Nat.pow_succ, Nat.pow_zero, Nat.one_mul]
  have e3 : q ^ (3 - 2) = q := by show q ^ 1 = _; simp only [Nat.pow_succ, Nat.pow_zero, Nat.one_mul]
  have e4 : q ^ (3 - 3) = 1 := rfl
  rw [e1, e2, e3, e4, ← Nat.div_div_eq_div_mul, ← Nat.div_div_eq_div_mul, (s he).1, (s hc).1, (s hb).1, Nat.div_one]
  exact ⟨Nat.mod_eq_of_lt ha, (s hb).2, (s hc).2, (s he).2⟩
theorem pt_t {q : Nat} {a b c e : Int32} (hq : qOk q) : pt4 q a b c e a = nI (cl4 q a b c e / q ^ (3 - 0) % q) ∧ pt4 q a b c e b = nI (cl4 q a b c e / q ^ (3 - 1) % q) ∧ pt4 q a b c e c = nI (cl4 q a b c e / q ^ (3 - 2) % q) ∧ pt4 q a b c e e = nI (cl4 q a b c e / q ^ (3 - 3) % q) := by
  have h0 := (qOk_b hq).1
  unfold pt4
  have w : cl4 q a b c e = ((rsd q a * fc4 q a b c e % q * q + rsd q b * fc4 q a b c e % q) * q + rsd q c * fc4 q a b c e % q) * q + rsd q e * fc4 q a b c e % q := rfl
  obtain ⟨d1, d2, d3, d4⟩ := cd_dig (Nat.mod_lt (rsd q a * fc4 q a b c e) h0) (Nat.mod_lt (rsd q b * fc4 q a b c e) h0) (Nat.mod_lt (rsd q c * fc4 q a b c e) h0) (Nat.mod_lt (rsd q e * fc4 q a b c e) h0)
  rw [← w] at d1 d2 d3 d4
  rw [d1, d2, d3, d4]
  exact ⟨rfl, rfl, rfl, rfl⟩
