/-! what the tables are: checked by the kernel -/
/-- edges: from a node by a step one comes to the node of the table -/
def ckE (x : Nat) : Bool := allB (nN x) fun n => allB (sN x) fun s => let f := fun k => (ndX x n k : Int); let g := fun k => stX x s k; Nat.beq (cdZ (qW x) (zA f g) (zB f g) (zC f g) (zD f g)) (cdX x (tgX x n s)) && Nat.blt (tgX x n s) (nN x)
theorem ckE_0 : ckE 0 = true := by decide +kernel
theorem ckE_1 : ckE 1 = true := by decide +kernel
theorem ckE_2 : ckE 2 = true := by decide +kernel
theorem ckE_3 : ckE 3 = true := by decide +kernel
theorem ckE_4 : ckE 4 = true := by decide +kernel
theorem ckE_5 : ckE 5 = true := by decide +kernel
theorem ckE_6 : ckE 6 = true := by decide +kernel
theorem ckE_7 : ckE 7 = true := by decide +kernel
theorem ckE_8 : ckE 8 = true := by decide +kernel
theorem ckE_9 : ckE 9 = true := by decide +kernel
theorem ckE_10 : ckE 10 = true := by decide +kernel
