/-! in which order NODES come: how many there are before NODE n's edges -/
def ctB : List Nat := [0x180c06030180c06030180c06030180c0602e16090482411078300e01, 0x150a8542a150a8542a150a8542a150a8542a150a8542a150a8542a150a8542a150a8542a150a8542a150a8542a150a8542a150a8542a150a8542a14fa7d3e9f4fa7d3e9f4fa7d3e9d4ea753a9d4ea753a9d4ea753a9b4ca5d2a954aa552a954aa552a954aa552a954aa552a954aa552a954aa552a954aa552a954aa552a954aa552a954aa552a954aa55269349a4d269349a4d269349a4d269148a3d1a8d46a2d128944a1d0e8541a04fe7d3e9f4fa7d3d9e4f2773b9d4ea75399c4e26d369b4da6b3499cca6331984c25f2f97cb6592b954a6512692c924923914863f1e8ec6e33178a44a210e8642a11068140a03007fbf9fcfd7ebf5f8fb7dbedf4fa7cbe1f0f87bbddeef67abd1e6f2793c5e2f077bbddced763add2e974399cae471389c2e06fb75badb6db65b0d76ab4da0ce6632990c661b017ebe5eaf176ba5c2d968b257ab154a752a893c9a4ba51208c44210fe7e3e9f0f67a3c1d8ea73389bcd86933990c05d2d158a64f25118843e1c8d05e2a128803616088300e01, 0xc06030180c06030180c060301801, 0x783c1e0f0783c1e0f0783c1e0f0783c1e0f0783c1e0f0783c1e0f0783c1e0f0783c1e0f0783c1e0f0783c1e0f0783c1e0f0783c1e0f0783c1e0f0783c1e0f0783c1e0f0783c1e0f0783c1e0f0783c1e0f0783c1e0f0783c1e0f0783c1e0f0783c1e0f0783c1e0f0783c1e0f0773b1d4e87137198bc5425128944a249208e46221007632140701e01, 0x150a8542a150a8542a150a8542a150a8542a150a8542a150a8542a150a8542a150a8542a150a8542a150a8542a150a8542a150a8542a150a8542a150a8542a150a8542a150a8542a150a8542a150a8542a150a8542a150a8542a150a8542a150a8542a150a8542a150a8542a150a8542a150a8542a150a8542a150a8542a150a8542a150a8542a150a8542a150a8542a150a8542a150a8542a150a8542a150a8542a150a8542a150a8542a150a8542a150a8542a150a8542a150a853e9f4fa7d3a9d4ea753a9d4ea6532994ca652e9546a2512833e9dcee773b9c4d6612d9448e472391c8e472391c8e472391c8e472391c8e472391c8e472391c8e472391c8e472391c8e472391c8e472391c8e472391c8e472391c8e472391c8e472391c8e472391c8e472391c8e472391c8e472391c8e472391c8e472391c8e45229148a432190c8643209047a3d1d8cc5e2f178b4522311884320b0380bf1f0f678bb1cee26eb619cc45c2b9449644a10fe7a3a9c0d6612b12c7e34140701e01, 0x180c06030180c06030180c06030180c06030180c06030180c0601a01, 0x783c1e0f0783c1e0f0783c1e0f0783c1e0f0783c1e0f0783c1e0f0783c1e0f0783c1e0f0783c1e0f0783c1e0f0783c1e0f0783c1e0f0783c1e0f0783c1e0f0783c1e0f0783c1e0f0783c1e0f0783c1e0f0783c1e0f0783c1e0f0783c1e0f0783c1e0f0783c1e0f0783c1e0f0783a1c0c656271389c4e271389c4e271389c4e271288c41198902601, 0x150a8542a150a8542a150a8542a150a8542a150a8542a150a8542a150a8542a150a8542a150a8542a150a8542a150a8542a150a8542a150a8542a150a8542a150a8542a150a8542a150a8542a150a8542a150a8542a150a8542a150a8542a150a8542a150a8542a150a8542a150a8542a150a8542a150a8542a150a8542a150a8542a150a8542a150a8542a150a8542a150a8542a150a8542a150a8542a150a8542a150a853e9d4ea753a9d4da6d32994ba55229148a45229147a35128742a0d02773b9dcee773b9dcee773b9dcee773b9dcee773b9dcee773b9dcee773b9dcee773b9dcee773b9dcee773b9dcee773b9dcee773b9dcee773b9dcee773b9dcee773b9dcee773b9dcee773b9dcee773b9dcee773b9dcee773b9dcee773b9dcee773b9dcee773b9dcee773b9dcee773b9dcea753a9cce673399cce673389c4e26f379bcda6d369acd66731984be5b2c95ca64f2691c7e37168842a08fe7cbc9d6e26cb3986b652a893c9a4aa3d12833e9e0e26a309609a40198902601, 0x180c06030180c06030180c06030180c06030180c06030180c0601a01, 0x3c1e0f0783c1e0f0783c1e0f0783c1e0f0783c1e0f0783c1e0f0783c1e0f0783c1e0f0783c1e0f0783c1e0f0783c1e0f0783c1e0f0783c1e0f0783c1e0ec70381a0b03801, 0xa8542a150a8542a150a8542a150a8542a150a8542a150a8542a150a8542a150a8542a150a8542a150a8542a150a8542a150a8542a150a8542a150a8542a150a8542a150a8542a150a8542a150a8542a150a8542a150a8542a150a8542a150a8542a150a8542a150a8542a150a8542a150a8542a150a8542a150a8542a150a8542a150a8542a150a8542a150a8542a150a8542a150a8542a150a8542a150a75329140a05028140a05028140a04fa75389a4b2411887401d8d45a240d83e01]
def ctX (x n : Nat) : Nat := (ctB.getD x 0 >>> (9 * n)) % 512
/-- edges s, s + 1, .. (k of them) of node n, when c nodes are known -/
def bfN (x n : Nat) : Nat → Nat → Nat → Bool
  | 0, _, c => Nat.beq c (ctX x (n + 1))
  | k + 1, s, c => if Nat.blt (tgX x n s) c then bfN x n k (s + 1) c else Nat.beq (tgX x n s) c && Nat.beq (paX x c) n && Nat.beq (lsX x c) s && Nat.beq (diX x c) (diX x n + 1) && Nat.blt c (nN x) && bfN x n k (s + 1) (c + 1)
def ckB (x : Nat) : Bool := Nat.beq (ctX x 0) 1 && Nat.beq (ctX x (nN x)) (nN x) && allB (nN x) fun n => Nat.blt n (ctX x n) && Nat.ble (ctX x n) (nN x) && bfN x n (sN x) 0 (ctX x n)
theorem ckB_0 : ckB 0 = true := by decide +kernel
theorem ckB_1 : ckB 1 = true := by decide +kernel
theorem ckB_2 : ckB 2 = true := by decide +kernel
theorem ckB_3 : ckB 3 = true := by decide +kernel
theorem ckB_4 : ckB 4 = true := by decide +kernel
theorem ckB_5 : ckB 5 = true := by decide +kernel
theorem ckB_6 : ckB 6 = true := by decide +kernel
theorem ckB_7 : ckB 7 = true := by decide +kernel
theorem ckB_8 : ckB 8 = true := by decide +kernel
theorem ckB_9 : ckB 9 = true := by decide +kernel
theorem ckB_10 : ckB 10 = true := by decide +kernel
theorem ckB_all : ∀ x, x < 11 → ckB x = true := fun x h => match x, h with
  | 0, _ => ckB_0
  | 1, _ => ckB_1
  | 2, _ => ckB_2
  | 3, _ => ckB_3
  | 4, _ => ckB_4
  | 5, _ => ckB_5
  | 6, _ => ckB_6
  | 7, _ => ckB_7
  | 8, _ => ckB_8
  | 9, _ => ckB_9
  | 10, _ => ckB_10
theorem bf_0 {x : Nat} (hx : x < 11) : ctX x 0 = 1 ∧ ctX x (nN x) = nN x := by
  have h := ckB_all x hx
  simp only [ckB, Bool.and_eq_true, Nat.beq_eq] at h
  exact ⟨h.1.1, h.1.2⟩
theorem bf_n {x n : Nat} (hx : x < 11) (hn : n < nN x) : n < ctX x n ∧ ctX x n ≤ nN x ∧ bfN x n (sN x) 0 (ctX x n) = true := by
  have h := ckB_all x hx
  simp only [ckB, Bool.and_eq_true] at h
  have h2 := allB_i h.2 n hn
  simp only [Bool.and_eq_true, Nat.blt_eq, Nat.ble_eq] at h2
  exact ⟨h2.1.1, h2.1.2, h2.2⟩
theorem bf_e {x n s c : Nat} (h : bfN x n 0 s c = true) : c = ctX x (n + 1) := by
  simp only [bfN, Nat.beq_eq] at h
  exact h
theorem bf_old {x n k s c : Nat} (h : bfN x n (k + 1) s c = true) (ht : tgX x n s < c) : bfN x n k (s + 1) c = true := by
  have e : Nat.blt (tgX x n s) c = true := Nat.blt_eq.symm ▸ ht
  unfold bfN at h
  rw [if_pos e] at h
  exact h
theorem bf_new {x n k s c : Nat} (h : bfN x n (k + 1) s c = true) (ht : ¬ tgX x n s < c) : tgX x n s = c ∧ paX x c = n ∧ lsX x c = s ∧ diX x c = diX x n + 1 ∧ c < nN x ∧ bfN x n k (s + 1) (c + 1) = true := by
  have e : ¬ Nat.blt (tgX x n s) c = true := fun q => ht (Nat.blt_eq ▸ q)
  unfold bfN at h
  rw [if_neg e] at h
  simp only [Bool.and_eq_true, Nat.beq_eq, Nat.blt_eq] at h
  obtain ⟨⟨⟨⟨⟨h1, h2⟩, h3⟩, h4⟩, h5⟩, h6⟩ := h
  exact ⟨h1, h2, h3, h4, h5, h6⟩
