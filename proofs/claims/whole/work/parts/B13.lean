/-! Network: products and classes are those of the tables -/
theorem rsd_of {q : Nat} {z : Int} (h : -2 ^ 31 ≤ z) (h2 : z < 2 ^ 31) : rsd q (Int32.ofInt z) = (z % q).toNat := by
  unfold rsd
  rw [Int32.toInt_ofInt_of_le h h2]
def ckT (x : Nat) : Bool := allB (sN x) fun s => allB 4 fun k => decide (-5 ≤ stX x s k) && decide (stX x s k ≤ 5)
theorem ckT_all : ∀ x, x < 11 → ckT x = true := by decide +kernel
theorem st_b {x s k : Nat} (hx : x < 11) (hs : s < sN x) (hk : k < 4) : -5 ≤ stX x s k ∧ stX x s k ≤ 5 := by
  have h := allB_i (allB_i (ckT_all x hx) s hs) k hk
  simp only [Bool.and_eq_true, decide_eq_true_eq] at h
  exact h
theorem nd_b {x j k : Nat} (hx : x < 11) : ndX x j k ≤ 6 := by
  unfold ndX
  generalize cdX x j / qW x ^ (3 - k) = m
  rcases qW_b x hx with e | e | e <;> rw [e] <;> omega
theorem mul_b {a b : Int} (h0 : 0 ≤ a) (h6 : a ≤ 6) (l : -5 ≤ b) (u : b ≤ 5) : -30 ≤ a * b ∧ a * b ≤ 30 := by
  have e : a = 0 ∨ a = 1 ∨ a = 2 ∨ a = 3 ∨ a = 4 ∨ a = 5 ∨ a = 6 := by omega
  rcases e with rfl | rfl | rfl | rfl | rfl | rfl | rfl <;> omega
theorem pr_i {x n s : Nat} {F G : Nat → Int32} (hF : ∀ k, k < 4 → F k = nI (ndX x n k)) (hG : ∀ k, k < 4 → G k = Int32.ofInt (stX x s k)) : pA F G = Int32.ofInt (zA (fun k => (ndX x n k : Int)) (stX x s)) ∧ pB F G = Int32.ofInt (zB (fun k => (ndX x n k : Int)) (stX x s)) ∧ pC F G = Int32.ofInt (zC (fun k => (ndX x n k : Int)) (stX x s)) ∧ pD F G = Int32.ofInt (zD (fun k => (ndX x n k : Int)) (stX x s)) := by
  have f0 := hF 0 (by decide)
  have f1 := hF 1 (by decide)
  have f2 := hF 2 (by decide)
  have f3 := hF 3 (by decide)
  have g0 := hG 0 (by decide)
  have g1 := hG 1 (by decide)
  have g2 := hG 2 (by decide)
  have g3 := hG 3 (by decide)
  have ee : ∀ n : Nat, nI n = Int32.ofInt (n : Int) := fun _ => rfl
  unfold pA pB pC pD zA zB zC zD
  rw [f0, f1, f2, f3, g0, g1, g2, g3]
  simp only [ee, Int32.ofInt_mul, Int32.ofInt_add, Int32.ofInt_sub, and_self]
