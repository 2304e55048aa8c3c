/-! the class's and the reference's memory, beside each other -/
def CP (P : Nat → Nat → Option Nat) : Prop := P 0 0 = some 50 ∧ P 0 1 = some 1 ∧ P 0 2 = some 43 ∧ P 0 3 = some 7 ∧ P 0 4 = some 8 ∧ P 0 5 = some 430 ∧ P 0 6 = some 18 ∧ P 0 7 = some 22 ∧ P 0 8 = some 23 ∧ P 0 9 = some 24 ∧ P 0 10 = some 25 ∧ P 1 0 = some 2 ∧ P 1 1 = some 3 ∧ P 8 0 = some 9 ∧ P 8 1 = some 17 ∧ P 25 0 = some 26 ∧ P 25 1 = some 33 ∧ P 33 0 = some 34 ∧ P 33 1 = some 42 ∧ P 430 0 = some 43 ∧ P 430 1 = some 51 ∧ P 430 2 = some 431 ∧ P 430 3 = some 432 ∧ P 430 4 = some 433 ∧ P 430 5 = some 434 ∧ P 430 6 = some 435 ∧ P 430 7 = some 441 ∧ P 430 8 = some 447 ∧ P 430 9 = some 453 ∧ (∀ j, j < 6 → P 43 j = some (44 + j)) ∧ (∀ j, j < 3 → P 18 j = some (19 + j)) ∧ (∀ j, j < 7 → P 9 j = some (10 + j)) ∧ (∀ j, j < 6 → P 26 j = some (27 + j)) ∧ (∀ j, j < 7 → P 34 j = some (35 + j)) ∧ (∀ j, j < 5 → P 435 j = some (436 + j)) ∧ (∀ j, j < 5 → P 441 j = some (442 + j)) ∧ (∀ j, j < 5 → P 447 j = some (448 + j))
def cut (lo hi : Nat) (I : Nat → Nat → Int32) : Nat → Nat → Int32 := fun a => if lo ≤ a ∧ a < hi then I a else fun _ => 0
theorem cut_w {lo hi b : Nat} {I : Nat → Nat → Int32} {f : Nat → Int32} (h : ¬ (lo ≤ b ∧ b < hi)) : cut lo hi (wA I b f) = cut lo hi I := by
  funext a
  unfold cut
  by_cases h2 : lo ≤ a ∧ a < hi
  · rw [if_pos h2, if_pos h2, tw (fun q => h (by rw [← q]; exact h2))]
  · rw [if_neg h2, if_neg h2]
theorem cut_e {lo hi a : Nat} {I : Nat → Nat → Int32} (h : lo ≤ a) (h2 : a < hi) : cut lo hi I a = I a := if_pos ⟨h, h2⟩
theorem cut_i {lo hi b : Nat} {I : Nat → Nat → Int32} {f : Nat → Int32} (h : lo ≤ b) (h2 : b < hi) : cut lo hi (wA I b f) = wA (cut lo hi I) b f := by
  funext a
  unfold cut wA
  by_cases e : a = b
  · subst e; simp [h, h2]
  · simp [e]
theorem cut_q {lo hi : Nat} {I J : Nat → Nat → Int32} (h : ∀ a, lo ≤ a → a < hi → I a = J a) : cut lo hi I = cut lo hi J := by
  funext a
  unfold cut
  by_cases h2 : lo ≤ a ∧ a < hi
  · rw [if_pos h2, if_pos h2, h a h2.1 h2.2]
  · rw [if_neg h2, if_neg h2]
/-- the reference's tables hold network x -/
def MC (x : Nat) (vp vq vs vn vd : Int32) (A : Nat → Nat → Int32) : Prop := vp = nI (pW x) ∧ vq = nI (qW x) ∧ vs = nI (sN x) ∧ vn = nI (nN x) ∧ vd = bI (sdX x) ∧ (∀ s, s < sN x → ∀ k, k < 4 → A 456 (4 * s + k) = Int32.ofInt (stX x s k)) ∧ (∀ s, s < sN x → A 457 s = nI (rvX x s)) ∧ (∀ j, j < nN x → ∀ k, k < 4 → A 458 (4 * j + k) = nI (ndX x j k)) ∧ (∀ e, e < 2401 → A 459 e = if nuX x e < nN x then nI (nuX x e) else -1) ∧ (∀ j, j < nN x → ∀ s, s < sN x → A 460 (30 * j + s) = nI (tgX x j s)) ∧ ∀ j, j < nN x → A 461 j = nI (diX x j % 2)
def PLc (x : Nat) (u v : Int32) : Prop := u = v ∧ ∃ k, k < nN x ∧ u = nI k
def DDc (x : Nat) (u v : Int32) (f g : Nat → Int32) : Prop := u = v ∧ ∃ z, z ≤ 16 ∧ u = nI z ∧ ∀ i, i < z → f i = g i ∧ ∃ k, k < nN x ∧ f i = nI k
def RGc (b : Nat) (A : Nat → Nat → Int32) (g : Nat → Int32) : Prop := ∀ r, r < 6 → ∀ k, k < 4 → A (b + r) k = g (4 * r + k) ∧ fit1 (A (b + r) k) = true
def RWc (u v : Nat → Int32) (A : Nat → Nat → Int32) (g : Nat → Int32) : Prop := ∀ r, r < 3 → u r = v r ∧ (u r = -1 ∨ ∃ z, z ≤ 40 ∧ u r = nI z ∧ ∀ i, i < z → A (19 + r) i = g (40 * r + i))
def BKc (b : Nat) (u v : Int32) (f g : Nat → Int32) (A : Nat → Nat → Int32) (h : Nat → Int32) : Prop := u = v ∧ ∃ z, z ≤ 7 ∧ u = nI z ∧ ∀ i, i < z → f i = g i ∧ ∀ k, k < 4 → A (b + i) k = h (4 * i + k)
def IMc (f : Nat → Int32) (b p q pl : Int32) (A : Nat → Nat → Int32) (g : Nat → Int32) (u v : Int32) (o o' : Nat → Int32) (B : Nat → Nat → Int32) (h : Nat → Int32) : Prop := f 2 = b ∧ (b = 0 ∨ (b = 1 ∧ ∃ x, x < 11 ∧ f 3 = nI (pW x) ∧ f 4 = nI (qW x) ∧ p = f 3 ∧ q = f 4 ∧ PLc x (f 5) pl ∧ RGc 27 A g ∧ BKc 35 u v o o' B h))
def TPc (u v : Int32) (f g : Nat → Int32) : Prop := u = v ∧ ∃ z, z ≤ 80 ∧ u = nI z ∧ ∀ i, i < z → f i = g i ∧ ∃ k, 32 ≤ k ∧ k ≤ 126 ∧ f i = nI k
def WYc (u v : Int32) (f g f' g' : Nat → Int32) : Prop := u = v ∧ ∃ z, z ≤ 5 ∧ u = nI z ∧ ∀ i, i < z → f i = g i ∧ f' i = g' i
/-- one node's steps: what is added behind them -/
def wS (x : Nat) (v : Nat → Int64) (m : Nat) (f : Nat → Int64) : Nat → Nat → Int64
  | 0 => f
  | t + 1 => vp_updL (wS x v m f t) (tgX x m t) (wS x v m f t (tgX x m t) + v m)
def wN (x : Nat) (v : Nat → Int64) (f : Nat → Int64) : Nat → Nat → Int64
  | 0 => f
  | m + 1 => wS x v m (wN x v f m) (sN x)
def rtn (x i : Nat) (b : Bool) : Int64 := if b = true then (if i < 2 then 0 else if i = 2 then (nI (sN x)).toInt64 else (nI (pW x)).toInt64) else 0
/-- how many rows of n steps end at each node: one ahead, now -/
def wK (x : Nat) (b : Bool) : Nat → (Nat → Int64) × (Nat → Int64)
  | 0 => (fun _ => 0, fun k => if k = 0 then 1 else 0)
  | i + 1 => ((wK x b i).2, fun k => wN x (wK x b i).2 (fun _ => 0) (nN x) k - rtn x (i + 1) b * (wK x b i).1 k)
def wC (x : Nat) (b : Bool) (n : Nat) : Int64 := (wK x b n).2 0
def WKc (x : Nat) (u : Int32) (f g : Nat → Int64) : Prop := u = 0 ∨ (u = 1 ∧ ∀ n, n ≤ 12 → f n = wC x false n ∧ g n = wC x true n)
/-- the three rows of numbers that take turns -/
def WPc (a b c : Option Nat) : Prop := ∃ i j k, a = some i ∧ b = some j ∧ c = some k ∧ (4 ≤ i ∧ i ≤ 6) ∧ (4 ≤ j ∧ j ≤ 6) ∧ (4 ≤ k ∧ k ≤ 6) ∧ ¬ i = j ∧ ¬ j = k ∧ ¬ i = k
def REL (x : Nat) (I : Nat → Nat → Int32) (L : Nat → Nat → Int64) (P : Nat → Nat → Option Nat) : Prop := x < 11 ∧ CP P ∧ NP P ∧ MP P ∧ WPc (P 1 2) (P 1 3) (P 1 4) ∧ NC x (cut 50 429 I) ∧ MC x (I 454 0) (I 454 1) (I 454 6) (I 454 10) (I 454 12) (cut 456 462 I) ∧ PLc x (I 0 12) (I 454 3) ∧ DDc x (I 0 11) (I 454 14) (I 24) (I 462) ∧ RGc 44 (cut 44 50 I) (I 455) ∧ RWc (I 22) (I 466) (cut 19 22 I) (I 465) ∧ BKc 10 (I 8 2) (I 454 17) (I 17) (I 464) (cut 10 17 I) (I 463) ∧ IMc (I 25) (I 454 31) (I 454 32) (I 454 33) (I 454 34) (cut 27 33 I) (I 471) (I 33 2) (I 454 38) (I 42) (I 473) (cut 35 42 I) (I 472) ∧ TPc (I 430 10) (I 454 21) (I 431) (I 467) ∧ WYc (I 430 13) (I 454 27) (I 433) (I 469) (I 434) (I 470) ∧ WKc x (I 1 5) (L 2) (L 3)
/-- an int, or a long -/
def isK (j : Bool) (r : Option Value) : Prop := match j, r with
  | false, some (.int _) => True
  | true, some (.long _) => True
  | _, _ => False
theorem isK_i {v : Int32} : isK false (some (.int v)) = True := rfl
theorem isK_l {v : Int64} : isK true (some (.long v)) = True := rfl
def OK (n s : Nat) (r r2 : Option Value) (h : Mm) : Prop := r = r2 ∧ ∃ x I L P, h = (I, L, P, n, s) ∧ REL x I L P
theorem OK_i {n s x : Nat} {r r2 : Option Value} {I : Nat → Nat → Int32} {L : Nat → Nat → Int64} {P : Nat → Nat → Option Nat} (e : r = r2) (h : REL x I L P) : OK n s r r2 (I, L, P, n, s) := ⟨e, x, I, L, P, rfl, h⟩
/-- one call of the class and of the reference answer alike, and their memories stay beside each other -/
def CS (j : Bool) (y z : Nat) (a : List Value) : Prop := ∀ (d x : Nat) (I : Nat → Nat → Int32) (L : Nat → Nat → Int64) (P : Nat → Nat → Option Nat) (n s : Nat), REL x I L P → Call (d + 400) y (.ref 0 :: a) (I, L, P, n, s) fun r h => isK j r ∧ Call (d + 400) z (.ref 454 :: a) h fun r2 h2 => OK n s r r2 h2
theorem NC_q {x : Nat} {I J : Nat → Nat → Int32} (h : ∀ a, 50 ≤ a → a < 429 → J a = I a) (hN : NC x I) : NC x J := by
  obtain ⟨⟨h1, h2, h3, h4, h5, h6⟩, h7, h8, h9, h10, h11, h12⟩ := hN
  have hb := (nN_b x h1).2
  have hs := (sN_b x h1).2
  refine ⟨⟨h1, ?_, ?_, ?_, ?_, ?_⟩, fun t ht k hk => ?_, fun t ht => ?_, fun j hj k hk => ?_, fun e he => ?_, fun j hj t ht => ?_, fun j hj => ?_⟩
  · rw [h 50 (by decide) (by decide)]; exact h2
  · rw [h 50 (by decide) (by decide)]; exact h3
  · rw [h 50 (by decide) (by decide)]; exact h4
  · rw [h 51 (by decide) (by decide)]; exact h5
  · rw [h 51 (by decide) (by decide)]; exact h6
  · rw [h (53 + t) (by omega) (by omega)]; exact h7 t ht k hk
  · rw [h 83 (by decide) (by decide)]; exact h8 t ht
  · rw [h (88 + j) (by omega) (by omega)]; exact h9 j hj k hk
  · rw [h 424 (by decide) (by decide)]; exact h10 e he
  · rw [h 425 (by decide) (by decide)]; exact h11 j hj t ht
  · rw [h 426 (by decide) (by decide), h 427 (by decide) (by decide), h 428 (by decide) (by decide)]; exact h12 j hj
theorem NC_c {x : Nat} {I : Nat → Nat → Int32} (h : NC x (cut 50 429 I)) : NC x I := NC_q (fun a h1 h2 => (cut_e h1 h2).symm) h
theorem NC_d {x : Nat} {I : Nat → Nat → Int32} (h : NC x I) : NC x (cut 50 429 I) := NC_q (fun a h1 h2 => cut_e h1 h2) h
