/-! the way by first steps: checked by the kernel -/
def ckY (x : Nat) : Bool := allB (nN x) fun v => allB (diX x v) fun k => let b := anc x k v; let a := paX x b; Nat.beq (dlt x v a) (k + 1) && allB (lsX x b + 1) fun s => decide (dlt x v (tgX x a s) = k ↔ s = lsX x b)
theorem ckY_0 : ckY 0 = true := by decide +kernel
theorem ckY_1 : ckY 1 = true := by decide +kernel
theorem ckY_2 : ckY 2 = true := by decide +kernel
theorem ckY_3 : ckY 3 = true := by decide +kernel
theorem ckY_4 : ckY 4 = true := by decide +kernel
theorem ckY_5 : ckY 5 = true := by decide +kernel
theorem ckY_6 : ckY 6 = true := by decide +kernel
theorem ckY_7 : ckY 7 = true := by decide +kernel
theorem ckY_8 : ckY 8 = true := by decide +kernel
theorem ckY_9 : ckY 9 = true := by decide +kernel
theorem ckY_10 : ckY 10 = true := by decide +kernel
theorem ckY_all : ∀ x, x < 11 → ckY x = true := fun x h => match x, h with
  | 0, _ => ckY_0
  | 1, _ => ckY_1
  | 2, _ => ckY_2
  | 3, _ => ckY_3
  | 4, _ => ckY_4
  | 5, _ => ckY_5
  | 6, _ => ckY_6
  | 7, _ => ckY_7
  | 8, _ => ckY_8
  | 9, _ => ckY_9
  | 10, _ => ckY_10
