/-! case read: what a text is -/
abbrev Res : Type := Nat × Nat × Nat × Nat × (Nat → Nat) × (Nat → Int32)
def rS (r : Res) : Nat := r.1
def rA (r : Res) : Nat := r.2.1
def rN (r : Res) : Nat := r.2.2.1
def rD (r : Res) : Nat := r.2.2.2.1
def rO (r : Res) : Nat → Nat := r.2.2.2.2.1
def rV (r : Res) : Nat → Int32 := r.2.2.2.2.2
def rok (a : Nat) (v : Nat → Int32) : Res := (0, a, 0, 0, fun _ => 0, v)
def rno (S a N D : Nat) (o : Nat → Nat) : Res := (S, a, N, D, o, fun _ => 0)
def rat (r : Res) (a : Nat) : Res := (r.1, a, r.2.2)
def rcj (r : Res) : Res := (r.1, r.2.1, r.2.2.1, r.2.2.2.1, r.2.2.2.2.1, cj r.2.2.2.2.2)
def mulV (f g : Nat → Int32) : Nat → Int32 := q4 (fun _ => 0) (pA f g) (pB f g) (pC f g) (pD f g)
def addV (f g : Nat → Int32) : Nat → Int32 := q4 (fun _ => 0) (f 0 + g 0) (f 1 + g 1) (f 2 + g 2) (f 3 + g 3)
def subV (f g : Nat → Int32) : Nat → Int32 := q4 (fun _ => 0) (f 0 + -(g 0)) (f 1 + -(g 1)) (f 2 + -(g 2)) (f 3 + -(g 3))
def upN (o : Nat → Nat) (k i : Nat) : Nat → Nat := fun j => if j = k then i else o j
def chT (T : Nat → Nat) (z i : Nat) : Nat := if i < z then T i else 0
def fgT (T : Nat → Nat) (z i : Nat) : Bool := decide (48 ≤ chT T z i) && decide (chT T z i ≤ 57)
def ndT (T : Nat → Nat) (z : Nat) : Nat → Nat → Nat
  | 0, _ => 0
  | m + 1, i => if fgT T z i = true then ndT T z m (i + 1) + 1 else 0
def nvT (T : Nat → Nat) (z : Nat) : Nat → Nat → Nat → Nat
  | 0, _, v => v
  | m + 1, i, v => if fgT T z i = true then nvT T z m (i + 1) (v * 10 + (chT T z i - 48)) else v
def sgT (T : Nat → Nat) (z a : Nat) : Nat := if chT T z a = 45 then 1 else 0
def numT (T : Nat → Nat) (z a : Nat) : Int32 := if chT T z a = 45 then -nI (nvT T z 4 (a + sgT T z a) 0) else nI (nvT T z 4 (a + sgT T z a) 0)
def ltT (T : Nat → Nat) (z k : Nat) (o : Nat → Nat) : Nat → Nat → (Nat → Int32) → Nat → Res
  | 0, i, v, _ => if chT T z i = 93 then rok (i + 1) v else rno 1 i i k o
  | m + 1, i, v, j => if chT T z i = (if j = 0 then 91 else 44) then (if fgT T z (i + 1 + sgT T z (i + 1)) = true then ltT T z k o m (i + 1 + sgT T z (i + 1) + ndT T z 4 (i + 1 + sgT T z (i + 1))) (upd v j (numT T z (i + 1))) (j + 1) else rno 1 (i + 1 + sgT T z (i + 1)) (i + 1 + sgT T z (i + 1)) k o) else rno 1 i i k o
def stV (x s : Nat) : Nat → Int32 := fun k => Int32.ofInt (stX x s k)
def cmb (k : Nat) (o : Nat → Nat) (f : (Nat → Int32) → (Nat → Int32) → Nat → Int32) (p : Nat) (a r : Res) : Res := if rS r = 1 then r else if rS a = 0 then (if rS r = 0 then (if fit4 (f (rV a) (rV r)) = true then rok (rA r) (f (rV a) (rV r)) else rno 3 (rA r) p k o) else r) else rat a (rA r)
def lpR (T : Nat → Nat) (z : Nat) (S : Nat → Bool) (f : Nat → (Nat → Int32) → (Nat → Int32) → Nat → Int32) (k : Nat) (o : Nat → Nat) (F : Nat → Res) : Nat → Res → Res
  | 0, a => a
  | m + 1, a => if rS a = 1 then a else if S (chT T z (rA a)) = true then lpR T z S f k o F m (cmb k o (f (chT T z (rA a))) (rA a) a (F (rA a + 1))) else a
def ch42 (c : Nat) : Bool := Nat.beq c 42
def ch43 (c : Nat) : Bool := Nat.beq c 43 || Nat.beq c 45
def f43 (c : Nat) : (Nat → Int32) → (Nat → Int32) → Nat → Int32 := if c = 43 then addV else subV
def prR (T : Nat → Nat) (z k : Nat) (o : Nat → Nat) (F : Nat → Res) (i : Nat) : Res := lpR T z ch42 (fun _ => mulV) k o F 81 (F i)
def smR (T : Nat → Nat) (z k : Nat) (o : Nat → Nat) (F : Nat → Res) (i : Nat) : Res := lpR T z ch43 f43 k o (prR T z k o F) 81 (prR T z k o F i)
def grR (T : Nat → Nat) (z k : Nat) (o : Nat → Nat) (r : Res) : Res := if rS r = 1 then r else if chT T z (rA r) = 41 then rat r (rA r + 1) else rno 1 (rA r) (rA r) k o
def fac (T : Nat → Nat) (z x : Nat) (g : Nat → Nat → Int32) : Nat → Nat → (Nat → Nat) → Nat → Res
  | 0, k, o, i => rno 1 i i k o
  | f + 1, k, o, i =>
    if chT T z i = 126 then rcj (fac T z x g f k o (i + 1))
    else if chT T z i = 40 then (if k = 4 then rno 1 i i k o else grR T z (k + 1) (upN o k i) (smR T z (k + 1) (upN o k i) (fac T z x g f (k + 1) (upN o k i)) (i + 1)))
    else if chT T z i = 114 then (if 48 ≤ chT T z (i + 1) ∧ chT T z (i + 1) ≤ 53 then rok (i + 2) (g (chT T z (i + 1) - 48)) else rno 1 (i + 1) (i + 1) k o)
    else if chT T z i = 103 then (if fgT T z (i + 1) = true then (if nvT T z 2 (i + 1) 0 < sN x then rok (i + 1 + ndT T z 2 (i + 1)) (stV x (nvT T z 2 (i + 1) 0)) else rno 4 (i + 1 + ndT T z 2 (i + 1)) (nvT T z 2 (i + 1) 0) k o) else rno 1 (i + 1) (i + 1) k o)
    else if chT T z i = 91 then ltT T z k o 4 i (fun _ => 0) 0
    else rno 1 i i k o
/-! bounds -/
def RB (z k i : Nat) (r : Res) : Prop := (rS r = 0 ∨ rS r = 1 ∨ rS r = 3 ∨ rS r = 4) ∧ rA r ≤ z ∧ (¬ rS r = 1 → i < rA r) ∧ (¬ rS r = 0 → k ≤ rD r ∧ rD r ≤ 4) ∧ (rS r = 0 → fit4 (rV r) = true) ∧ (rS r = 1 → rN r = rA r)
theorem RB_ok {z k i a : Nat} {v : Nat → Int32} (h1 : i < a) (h2 : a ≤ z) (h3 : fit4 v = true) : RB z k i (rok a v) := ⟨Or.inl rfl, h2, fun _ => h1, fun q => absurd rfl q, fun _ => h3, fun q => absurd (show (0 : Nat) = 1 from q) (by decide)⟩
theorem RB_no {z k i a : Nat} {o : Nat → Nat} (h2 : a ≤ z) (h3 : k ≤ 4) : RB z k i (rno 1 a a k o) := ⟨Or.inr (Or.inl rfl), h2, fun q => absurd rfl q, fun _ => ⟨Nat.le_refl k, h3⟩, fun q => absurd (show (1 : Nat) = 0 from q) (by decide), fun _ => rfl⟩
theorem RB_n3 {z k i a N : Nat} {o : Nat → Nat} (h1 : i < a) (h2 : a ≤ z) (h3 : k ≤ 4) : RB z k i (rno 3 a N k o) := ⟨Or.inr (Or.inr (Or.inl rfl)), h2, fun _ => h1, fun _ => ⟨Nat.le_refl k, h3⟩, fun q => absurd (show (3 : Nat) = 0 from q) (by decide), fun q => absurd (show (3 : Nat) = 1 from q) (by decide)⟩
theorem RB_n4 {z k i a N : Nat} {o : Nat → Nat} (h1 : i < a) (h2 : a ≤ z) (h3 : k ≤ 4) : RB z k i (rno 4 a N k o) := ⟨Or.inr (Or.inr (Or.inr rfl)), h2, fun _ => h1, fun _ => ⟨Nat.le_refl k, h3⟩, fun q => absurd (show (4 : Nat) = 0 from q) (by decide), fun q => absurd (show (4 : Nat) = 1 from q) (by decide)⟩
theorem RB_i {z k i j : Nat} {r : Res} (h : RB z k j r) (hij : i ≤ j) : RB z k i r := ⟨h.1, h.2.1, fun q => by have := h.2.2.1 q; omega, h.2.2.2⟩
theorem RB_k {z k l i : Nat} {r : Res} (h : RB z l i r) (hk : k ≤ l) : RB z k i r := ⟨h.1, h.2.1, h.2.2.1, fun q => by have := h.2.2.2.1 q; omega, h.2.2.2.2⟩
theorem RB_rat {z k i a : Nat} {r : Res} (h : RB z k i r) (h0 : ¬ rS r = 1) (h1 : i < a) (h2 : a ≤ z) : RB z k i (rat r a) := ⟨h.1, h2, fun _ => h1, h.2.2.2.1, h.2.2.2.2.1, fun q => absurd q h0⟩
theorem ch_z {T : Nat → Nat} {z i c : Nat} (h : chT T z i = c) (hc : 0 < c) : i < z := by
  unfold chT at h
  by_cases q : i < z
  · exact q
  · rw [if_neg q] at h
    omega
theorem fg_z {T : Nat → Nat} {z i : Nat} (h : fgT T z i = true) : i < z ∧ 48 ≤ chT T z i ∧ chT T z i ≤ 57 := by
  unfold fgT at h
  simp only [Bool.and_eq_true, decide_eq_true_eq] at h
  exact ⟨ch_z (c := chT T z i) rfl (by omega), h⟩
theorem fitn {a : Int32} (h : fit1 a = true) : fit1 (-a) = true := by
  have b := fit1_b h
  have a1 : (-9999 : Int32).toInt = -9999 := rfl
  have a2 : (9999 : Int32).toInt = 9999 := rfl
  have e : (-a).toInt = -a.toInt := by
    rw [Int32.toInt_neg, Int.bmod_eq_of_le (by omega) (by omega)]
  unfold fit1
  simp only [Bool.and_eq_true, decide_eq_true_eq, Int32.lt_iff_toInt_lt, e]
  omega
theorem fiti {a : Int32} {v : Int} (h : a = Int32.ofInt v) (h1 : -9999 ≤ v) (h2 : v ≤ 9999) : fit1 a = true := by
  have a1 : (-9999 : Int32).toInt = -9999 := rfl
  have a2 : (9999 : Int32).toInt = 9999 := rfl
  have e : a.toInt = v := by rw [h, Int32.toInt_ofInt_of_le (by omega) (by omega)]
  unfold fit1
  simp only [Bool.and_eq_true, decide_eq_true_eq, Int32.lt_iff_toInt_lt, e]
  omega
theorem fit4_m {f : Nat → Int32} : fit4 f = true ↔ ∀ k, k < 4 → fit1 (f k) = true := by
  unfold fit4
  simp only [Bool.and_eq_true]
  constructor
  · rintro ⟨⟨⟨h0, h1⟩, h2⟩, h3⟩ k hk
    rcases (by omega : k = 0 ∨ k = 1 ∨ k = 2 ∨ k = 3) with rfl | rfl | rfl | rfl
    · exact h0
    · exact h1
    · exact h2
    · exact h3
  · intro h
    exact ⟨⟨⟨h 0 (by decide), h 1 (by decide)⟩, h 2 (by decide)⟩, h 3 (by decide)⟩
theorem cj_k {f : Nat → Int32} : cj f 0 = f 0 ∧ cj f 1 = -(f 1) ∧ cj f 2 = -(f 2) ∧ cj f 3 = -(f 3) := ⟨rfl, rfl, rfl, rfl⟩
theorem fit4_cj {f : Nat → Int32} (h : fit4 f = true) : fit4 (cj f) = true := by
  rw [fit4_m] at h ⊢
  intro k hk
  rcases (by omega : k = 0 ∨ k = 1 ∨ k = 2 ∨ k = 3) with rfl | rfl | rfl | rfl
  · exact h 0 (by decide)
  · exact fitn (h 1 (by decide))
  · exact fitn (h 2 (by decide))
  · exact fitn (h 3 (by decide))
theorem RB_cj {z k i : Nat} {r : Res} (h : RB z k i r) : RB z k i (rcj r) := ⟨h.1, h.2.1, h.2.2.1, h.2.2.2.1, fun q => fit4_cj (h.2.2.2.2.1 q), h.2.2.2.2.2⟩
theorem ndt_b {T : Nat → Nat} {z : Nat} : ∀ m i, i ≤ z → i + ndT T z m i ≤ z
  | 0, i, h => h
  | m + 1, i, h => by
    unfold ndT
    by_cases c : fgT T z i = true
    · rw [if_pos c]
      have := ndt_b (T := T) m (i + 1) (fg_z c).1
      omega
    · rw [if_neg c]
      exact h
theorem nd_p {T : Nat → Nat} {z m i : Nat} (h : fgT T z i = true) : 0 < ndT T z (m + 1) i := by
  unfold ndT
  rw [if_pos h]
  omega
theorem nv_b {T : Nat → Nat} {z : Nat} : ∀ m i v, nvT T z m i v < (v + 1) * 10 ^ m
  | 0, i, v => by
    show v < (v + 1) * 1
    omega
  | m + 1, i, v => by
    unfold nvT
    by_cases c : fgT T z i = true
    · rw [if_pos c]
      have := nv_b (T := T) (z := z) m (i + 1) (v * 10 + (chT T z i - 48))
      have d := (fg_z c).2
      have h : (v * 10 + (chT T z i - 48) + 1) * 10 ^ m ≤ (v + 1) * 10 * 10 ^ m := Nat.mul_le_mul_right _ (by omega)
      rw [Nat.pow_succ, Nat.mul_comm (10 ^ m) 10, ← Nat.mul_assoc]
      omega
    · rw [if_neg c]
      have h : 1 ≤ 10 ^ (m + 1) := Nat.pow_pos (by decide)
      have h2 : (v + 1) * 1 ≤ (v + 1) * 10 ^ (m + 1) := Nat.mul_le_mul_left _ h
      omega
theorem num_f {T : Nat → Nat} {z a : Nat} : fit1 (numT T z a) = true := by
  have h := nv_b (T := T) (z := z) 4 (a + sgT T z a) 0
  unfold numT
  generalize nvT T z 4 (a + sgT T z a) 0 = w at *
  have f : fit1 (nI w) = true := fiti (v := (w : Int)) nI_ofI (by omega) (by omega)
  split
  · exact fitn f
  · exact f
theorem lt_b {T : Nat → Nat} {z k : Nat} {o : Nat → Nat} (hk : k ≤ 4) : ∀ m i v j, i ≤ z → j + m = 4 → (∀ l, l < 4 → fit1 (v l) = true) → RB z k i (ltT T z k o m i v j)
  | 0, i, v, j, hi, _, hv => by
    unfold ltT
    by_cases c : chT T z i = 93
    · rw [if_pos c]
      exact RB_ok (by omega) (ch_z c (by decide)) (fit4_m.mpr hv)
    · rw [if_neg c]
      exact RB_no hi hk
  | m + 1, i, v, j, hi, hj, hv => by
    unfold ltT
    by_cases c : chT T z i = (if j = 0 then 91 else 44)
    · have i1 : i < z := ch_z c (by split <;> decide)
      have i2 : i + 1 + sgT T z (i + 1) ≤ z := by
        unfold sgT
        by_cases e : chT T z (i + 1) = 45
        · rw [if_pos e]; have := ch_z e (by decide); omega
        · rw [if_neg e]; omega
      rw [if_pos c]
      by_cases c2 : fgT T z (i + 1 + sgT T z (i + 1)) = true
      · rw [if_pos c2]
        have p := nd_p (m := 3) c2
        refine RB_i (lt_b hk m _ _ _ (ndt_b 4 _ i2) (by omega) fun l hl => ?_) (by omega)
        by_cases e : l = j
        · subst e
          rw [upd_s]
          exact num_f
        · rw [upd_n e]
          exact hv l hl
      · rw [if_neg c2]
        exact RB_no i2 hk
    · rw [if_neg c]
      exact RB_no hi hk
theorem cmb_b {k z i j p : Nat} {o : Nat → Nat} {f : (Nat → Int32) → (Nat → Int32) → Nat → Int32} {a r : Res} (hk : k ≤ 4) (ha : RB z k i a) (a1 : ¬ rS a = 1) (hr : RB z k j r) (hij : i ≤ j) : RB z k i (cmb k o f p a r) := by
  unfold cmb
  by_cases c1 : rS r = 1
  · rw [if_pos c1]
    exact RB_i hr hij
  have hl := hr.2.2.1 c1
  rw [if_neg c1]
  by_cases c2 : rS a = 0
  · rw [if_pos c2]
    by_cases c3 : rS r = 0
    · rw [if_pos c3]
      by_cases c4 : fit4 (f (rV a) (rV r)) = true
      · rw [if_pos c4]
        exact RB_ok (by omega) hr.2.1 c4
      · rw [if_neg c4]
        exact RB_n3 (by omega) hr.2.1 hk
    · rw [if_neg c3]
      exact RB_i hr hij
  · rw [if_neg c2]
    exact RB_rat ha a1 (by omega) hr.2.1
theorem lp_b {T : Nat → Nat} {z : Nat} {S : Nat → Bool} {f : Nat → (Nat → Int32) → (Nat → Int32) → Nat → Int32} {k i : Nat} {o : Nat → Nat} {F : Nat → Res} (hS : S 0 = false) (hk : k ≤ 4) (hF : ∀ j, i < j → j ≤ z → RB z k j (F j)) : ∀ m a, RB z k i a → RB z k i (lpR T z S f k o F m a)
  | 0, a, h => h
  | m + 1, a, h => by
    unfold lpR
    by_cases c1 : rS a = 1
    · rw [if_pos c1]; exact h
    · rw [if_neg c1]
      by_cases c2 : S (chT T z (rA a)) = true
      · rw [if_pos c2]
        have hl := h.2.2.1 c1
        have hz : rA a < z := by
          refine Nat.lt_of_not_le fun q => ?_
          have e : chT T z (rA a) = 0 := if_neg (by omega)
          rw [e, hS] at c2
          exact absurd c2 (by decide)
        exact lp_b hS hk hF m _ (cmb_b hk h c1 (hF (rA a + 1) (by omega) (by omega)) (by omega))
      · rw [if_neg c2]; exact h
theorem pr_b {T : Nat → Nat} {z k i : Nat} {o : Nat → Nat} {F : Nat → Res} (hk : k ≤ 4) (hi : i ≤ z) (hF : ∀ j, i ≤ j → j ≤ z → RB z k j (F j)) : RB z k i (prR T z k o F i) := lp_b (by decide) hk (fun j h1 h2 => hF j (by omega) h2) 81 _ (hF i (Nat.le_refl i) hi)
theorem sm_b {T : Nat → Nat} {z k i : Nat} {o : Nat → Nat} {F : Nat → Res} (hk : k ≤ 4) (hi : i ≤ z) (hF : ∀ j, i ≤ j → j ≤ z → RB z k j (F j)) : RB z k i (smR T z k o F i) := lp_b (by decide) hk (fun j h1 h2 => pr_b hk h2 (fun l h3 h4 => hF l (by omega) h4)) 81 _ (pr_b hk hi hF)
theorem stV_f {x s : Nat} (hx : x < 11) (hs : s < sN x) : fit4 (stV x s) = true := by
  rw [fit4_m]
  intro k hk
  have b := st_b hx hs hk
  exact fiti (v := stX x s k) rfl (by omega) (by omega)
theorem fac_b {T : Nat → Nat} {z x : Nat} {g : Nat → Nat → Int32} (hx : x < 11) (hg : ∀ r, r < 6 → ∀ k, k < 4 → fit1 (g r k) = true) : ∀ f k o i, k ≤ 4 → i ≤ z → RB z k i (fac T z x g f k o i)
  | 0, k, o, i, hk, hi => RB_no hi hk
  | f + 1, k, o, i, hk, hi => by
    unfold fac
    by_cases c1 : chT T z i = 126
    · rw [if_pos c1]
      exact RB_i (RB_cj (fac_b hx hg f k o (i + 1) hk (ch_z c1 (by decide)))) (by omega)
    rw [if_neg c1]
    by_cases c2 : chT T z i = 40
    · rw [if_pos c2]
      by_cases c3 : k = 4
      · rw [if_pos c3]
        exact RB_no hi hk
      · rw [if_neg c3]
        have b := sm_b (T := T) (o := upN o k i) (F := fac T z x g f (k + 1) (upN o k i)) (k := k + 1) (i := i + 1) (by omega) (ch_z c2 (by decide)) (fun j _ h2 => fac_b hx hg f (k + 1) (upN o k i) j (by omega) h2)
        generalize smR T z (k + 1) (upN o k i) (fac T z x g f (k + 1) (upN o k i)) (i + 1) = r at *
        unfold grR
        by_cases c4 : rS r = 1
        · rw [if_pos c4]
          exact RB_i (RB_k b (by omega)) (by omega)
        · rw [if_neg c4]
          have hl := b.2.2.1 c4
          by_cases c5 : chT T z (rA r) = 41
          · rw [if_pos c5]
            exact RB_rat (RB_i (RB_k b (by omega)) (by omega)) c4 (by omega) (ch_z c5 (by decide))
          · rw [if_neg c5]
            exact RB_k (RB_no b.2.1 (by omega)) (by omega)
    rw [if_neg c2]
    by_cases c3 : chT T z i = 114
    · have iz := ch_z c3 (by decide)
      rw [if_pos c3]
      by_cases c4 : 48 ≤ chT T z (i + 1) ∧ chT T z (i + 1) ≤ 53
      · have iz2 : i + 1 < z := ch_z (c := chT T z (i + 1)) rfl (by omega)
        rw [if_pos c4]
        exact RB_ok (by omega) (by omega) (fit4_m.mpr (hg _ (by omega)))
      · rw [if_neg c4]
        exact RB_no iz hk
    rw [if_neg c3]
    by_cases c4 : chT T z i = 103
    · have iz := ch_z c4 (by decide)
      rw [if_pos c4]
      by_cases c5 : fgT T z (i + 1) = true
      · have e := ndt_b (T := T) 2 (i + 1) (Nat.le_of_lt (fg_z c5).1)
        rw [if_pos c5]
        by_cases c6 : nvT T z 2 (i + 1) 0 < sN x
        · rw [if_pos c6]
          exact RB_ok (by omega) e (stV_f hx c6)
        · rw [if_neg c6]
          exact RB_n4 (by omega) e hk
      · rw [if_neg c5]
        exact RB_no iz hk
    rw [if_neg c4]
    by_cases c5 : chT T z i = 91
    · rw [if_pos c5]
      exact lt_b hk 4 i _ 0 hi rfl (fun l _ => by decide)
    · rw [if_neg c5]
      exact RB_no hi hk
