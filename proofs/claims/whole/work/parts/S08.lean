/-! how many walks there are: bounded -/
def sm : Nat → (Nat → Nat) → Nat
  | 0, _ => 0
  | n + 1, f => sm n f + f n
theorem sm_s {n : Nat} {f : Nat → Nat} : sm (n + 1) f = sm n f + f n := rfl
theorem sm_z {f : Nat → Nat} : ∀ n, (∀ i, i < n → f i = 0) → sm n f = 0
  | 0, _ => rfl
  | n + 1, h => by rw [sm_s, sm_z n (fun i hi => h i (by omega)), h n (by omega)]
theorem sm_0 {f : Nat → Nat} : ∀ n, 0 < n → (∀ i, i < n → ¬ i = 0 → f i = 0) → sm n f = f 0
  | 0, h, _ => absurd h (Nat.lt_irrefl 0)
  | 1, _, _ => by rw [sm_s]; show 0 + f 0 = f 0; omega
  | n + 2, _, h => by rw [sm_s, sm_0 (n + 1) (by omega) (fun i hi h0 => h i (by omega) h0), h (n + 1) (by omega) (by omega), Nat.add_zero]
theorem sm_add {f g : Nat → Nat} : ∀ n, sm n (fun i => f i + g i) = sm n f + sm n g
  | 0 => rfl
  | n + 1 => by rw [sm_s, sm_s, sm_s, sm_add n]; omega
theorem sm_swap {f : Nat → Nat → Nat} : ∀ m n, sm m (fun i => sm n (f i)) = sm n (fun t => sm m fun i => f i t)
  | 0, n => (sm_z n (fun _ _ => rfl)).symm
  | m + 1, n => by
    rw [sm_s, sm_swap m n, ← sm_add]
    rfl
theorem sm_le {f : Nat → Nat} {B : Nat} : ∀ n, (∀ i, i < n → f i ≤ B) → sm n f ≤ n * B
  | 0, _ => Nat.zero_le _
  | n + 1, h => by
    have h1 := sm_le n (fun i hi => h i (by omega))
    have h2 := h n (by omega)
    rw [sm_s, Nat.succ_mul]
    omega
theorem sm_one {f : Nat → Nat} {B : Nat} : ∀ n, (∀ i, i < n → f i ≤ B) → (∀ i j, i < n → j < n → ¬ f i = 0 → ¬ f j = 0 → i = j) → sm n f ≤ B
  | 0, _, _ => Nat.zero_le _
  | n + 1, h, h2 => by
    rw [sm_s]
    by_cases e : f n = 0
    · rw [e]
      exact sm_one n (fun i hi => h i (by omega)) (fun i j hi hj => h2 i j (by omega) (by omega))
    · rw [sm_z n (fun i hi => Classical.byContradiction fun q => by have := h2 i n (by omega) (by omega) q e; omega)]
      have := h n (by omega)
      omega
def uN (x : Nat) (v : Nat → Nat) (k : Nat) : Nat := sm (nN x) fun m => sm (sN x) fun t => if tgX x m t = k then v m else 0
def uK (x : Nat) : Nat → Nat → Nat
  | 0 => fun k => if k = 0 then 1 else 0
  | i + 1 => uN x (uK x i)
theorem wS_nat {x m : Nat} {v f : Nat → Nat} : ∀ t, wS x (fun k => Int64.ofNat (v k)) m (fun k => Int64.ofNat (f k)) t = fun k => Int64.ofNat (f k + sm t fun t => if tgX x m t = k then v m else 0)
  | 0 => rfl
  | t + 1 => by
    rw [← wS_u, wS_nat t]
    funext k
    unfold vp_updL
    rw [sm_s]
    by_cases e : k = tgX x m t
    · rw [e]
      simp only [if_true, Int64.ofNat_add, Int64.add_assoc]
    · have e2 : ¬ tgX x m t = k := fun q => e q.symm
      simp only [if_neg e, if_neg e2, Nat.add_zero]
theorem wN_nat {x : Nat} {v f : Nat → Nat} : ∀ m, wN x (fun k => Int64.ofNat (v k)) (fun k => Int64.ofNat (f k)) m = fun k => Int64.ofNat (f k + sm m fun m => sm (sN x) fun t => if tgX x m t = k then v m else 0)
  | 0 => rfl
  | m + 1 => by
    rw [← wN_u, wN_nat m, wS_nat]
    funext k
    rw [sm_s, Nat.add_assoc]
theorem wK_nat {x : Nat} : ∀ i, (wK x false i).2 = fun k => Int64.ofNat (uK x i k)
  | 0 => by
    funext k
    show (if k = 0 then (1 : Int64) else 0) = Int64.ofNat (if k = 0 then 1 else 0)
    by_cases e : k = 0
    · rw [if_pos e, if_pos e]; rfl
    · rw [if_neg e, if_neg e]; rfl
  | i + 1 => by
    funext k
    show wN x (wK x false i).2 (fun _ => 0) (nN x) k - rtn x (i + 1) false * (wK x false i).1 k = Int64.ofNat (uN x (uK x i) k)
    have e : rtn x (i + 1) false = 0 := if_neg (by decide)
    have e2 := congrFun (wN_nat (x := x) (v := uK x i) (f := fun _ => 0) (nN x)) k
    rw [e, wK_nat i, Int64.zero_mul, Int64.sub_zero]
    refine e2.trans ?_
    rw [Nat.zero_add]
    rfl
theorem uN_le {x k B : Nat} {v : Nat → Nat} (hx : x < 11) (h : ∀ m, m < nN x → v m ≤ B) : uN x v k ≤ sN x * B := by
  unfold uN
  rw [sm_swap]
  refine sm_le _ fun t ht => sm_one _ (fun m hm => ?_) (fun i j hi hj h1 h2 => ?_)
  · by_cases e : tgX x m t = k
    · rw [if_pos e]; exact h m hm
    · rw [if_neg e]; exact Nat.zero_le _
  · have a1 : tgX x i t = k := Classical.byContradiction fun q => h1 (if_neg q)
    have a2 : tgX x j t = k := Classical.byContradiction fun q => h2 (if_neg q)
    rw [← (ed_f hx hi ht).1, ← (ed_f hx hj ht).1, a1, a2]
def m1X (x : Nat) : Nat := [1, 1, 2, 1, 1, 2, 1, 1, 4, 2, 1].getD x 1
def ckWalk (x : Nat) : Bool := allB (nN x) fun k => Nat.ble (sm (sN x) fun t => if tgX x 0 t = k then 1 else 0) (m1X x)
theorem ckWalk_0 : ckWalk 0 = true := by decide +kernel
theorem ckWalk_1 : ckWalk 1 = true := by decide +kernel
theorem ckWalk_2 : ckWalk 2 = true := by decide +kernel
theorem ckWalk_3 : ckWalk 3 = true := by decide +kernel
theorem ckWalk_4 : ckWalk 4 = true := by decide +kernel
theorem ckWalk_5 : ckWalk 5 = true := by decide +kernel
theorem ckWalk_6 : ckWalk 6 = true := by decide +kernel
theorem ckWalk_7 : ckWalk 7 = true := by decide +kernel
theorem ckWalk_8 : ckWalk 8 = true := by decide +kernel
theorem ckWalk_9 : ckWalk 9 = true := by decide +kernel
theorem ckWalk_10 : ckWalk 10 = true := by decide +kernel
theorem ckWalk_all : ∀ x, x < 11 → ckWalk x = true := fun x h => match x, h with
  | 0, _ => ckWalk_0
  | 1, _ => ckWalk_1
  | 2, _ => ckWalk_2
  | 3, _ => ckWalk_3
  | 4, _ => ckWalk_4
  | 5, _ => ckWalk_5
  | 6, _ => ckWalk_6
  | 7, _ => ckWalk_7
  | 8, _ => ckWalk_8
  | 9, _ => ckWalk_9
  | 10, _ => ckWalk_10
theorem uK_1 {x k : Nat} (hx : x < 11) (hk : k < nN x) : uK x 1 k ≤ m1X x := by
  have h := allB_i (ckWalk_all x hx) k hk
  rw [Nat.ble_eq] at h
  refine Nat.le_trans (Nat.le_of_eq ?_) h
  show sm (nN x) _ = _
  rw [sm_0 _ (nN_b x hx).1 (fun i hi h0 => sm_z _ fun t ht => by
    by_cases e : tgX x i t = k
    · rw [if_pos e]; exact if_neg h0
    · exact if_neg e)]
  rfl
theorem uK_le {x : Nat} (hx : x < 11) : ∀ i k, k < nN x → uK x (i + 1) k ≤ m1X x * sN x ^ i
  | 0, k, hk => by rw [Nat.pow_zero, Nat.mul_one]; exact uK_1 hx hk
  | i + 1, k, hk => by
    refine Nat.le_trans (uN_le (B := m1X x * sN x ^ i) hx (uK_le hx i)) (Nat.le_of_eq ?_)
    rw [Nat.pow_succ, Nat.mul_comm, Nat.mul_assoc]
theorem bd_1 : ∀ x, x < 11 → ∀ n, n < 12 → nN x * (m1X x * sN x ^ n) < 2 ^ 63 ∧ nN x * (m1X x * sN x ^ n) < 1000 ^ (n + 1) ∨ n = 0 := by decide +kernel
/-- the walks back to the start, over all nodes -/
theorem wC_b {x n : Nat} (hx : x < 11) (h2 : 2 ≤ n) (hn : n ≤ 12) : ∃ u, wC x false n = Int64.ofNat u ∧ nN x * u < 2 ^ 63 ∧ nN x * u < 1000 ^ n := by
  obtain ⟨i, rfl⟩ : ∃ i, n = i + 1 := ⟨n - 1, by omega⟩
  refine ⟨uK x (i + 1) 0, congrFun (wK_nat (i + 1)) 0, ?_⟩
  have h := Nat.mul_le_mul_left (nN x) (uK_le hx i 0 (nN_b x hx).1)
  rcases bd_1 x hx i (by omega) with b | b
  · exact ⟨Nat.lt_of_le_of_lt h b.1, Nat.lt_of_le_of_lt h b.2⟩
  · omega
