/-! An abstract machine over a heap of numbered cells: ints, longs and references of every cell by place; what a cell is, is told by a table. Every instruction is a predicate transformer, monotone; a method's meaning is the least fixed point of its instructions. -/
abbrev Mm : Type := (Nat → Nat → Int32) × (Nat → Nat → Int64) × (Nat → Nat → Option Nat) × Nat × Nat
abbrev Qm : Type := Option Value → Mm → Prop
abbrev Km : Type := Nat → List Value → Mm → Qm → Prop
abbrev Xm : Type := Nat → List Value → List Value → Mm → Prop
abbrev Sm : Type := Km → Qm → Nat × Nat → Xm → Nat → List Value → List Value → Mm → Prop
def KMo (K : Km) : Prop := ∀ y a h (Q Q' : Qm), (∀ r h2, Q r h2 → Q' r h2) → K y a h Q → K y a h Q'
def Mono (o : Sm) : Prop := ∀ (K : Km) (Q Q' : Qm) (lim : Nat × Nat) (X X' : Xm), KMo K → (∀ r h, Q r h → Q' r h) → (∀ pc ls st h, X pc ls st h → X' pc ls st h) → ∀ pc ls st h, o K Q lim X pc ls st h → o K Q' lim X' pc ls st h
abbrev Op : Type := { o : Sm // Mono o }
def wA {α : Type} (I : Nat → Nat → α) (a : Nat) (f : Nat → α) : Nat → Nat → α := fun b => if b = a then f else I b
theorem wA_s {α : Type} {I : Nat → Nat → α} {a : Nat} {f : Nat → α} : wA I a f a = f := if_pos rfl
theorem wA_n {α : Type} {I : Nat → Nat → α} {a b : Nat} {f : Nat → α} (h : ¬ b = a) : wA I a f b = I b := if_neg h
theorem wA_w {α : Type} {I : Nat → Nat → α} {a : Nat} {f g : Nat → α} : wA (wA I a f) a g = wA I a g := by
  funext b
  unfold wA
  split <;> rfl
-- pickers
def gI (o : Option Value) (f : Int32 → Prop) : Prop := match o with
  | some (.int x) => f x
  | _ => False
def gL (o : Option Value) (f : Int64 → Prop) : Prop := match o with
  | some (.long x) => f x
  | _ => False
def gR (o : Option Value) (f : Nat → Prop) : Prop := match o with
  | some (.ref x) => f x
  | _ => False
def pI (st : List Value) (f : Int32 → List Value → Prop) : Prop := match st with
  | .int x :: st => f x st
  | _ => False
def pL (st : List Value) (f : Int64 → List Value → Prop) : Prop := match st with
  | .long x :: st => f x st
  | _ => False
def pR (st : List Value) (f : Nat → List Value → Prop) : Prop := match st with
  | .ref x :: st => f x st
  | _ => False
/-- one of category 1 -/
def p1 (st : List Value) (f : Value → List Value → Prop) : Prop := match st with
  | .int x :: st => f (.int x) st
  | .ref x :: st => f (.ref x) st
  | _ => False
/-- a cell from outside: the law's script -/
def gX (o : Option Value) (f : Nat → Prop) : Prop := match o with
  | some (.retAddr x) => f x
  | _ => False
def pX (st : List Value) (f : Nat → List Value → Prop) : Prop := match st with
  | .retAddr x :: st => f x st
  | _ => False
theorem gX_a {x : Nat} {f : Nat → Prop} : gX (some (.retAddr x)) f = f x := rfl
theorem pX_a {x : Nat} {st : List Value} {f : Nat → List Value → Prop} : pX (.retAddr x :: st) f = f x st := rfl
theorem gX_m {o : Option Value} {f g : Nat → Prop} (hm : ∀ x, f x → g x) (h : gX o f) : gX o g := by
  unfold gX at h ⊢
  split at h
  · exact hm _ h
  · exact h.elim
theorem pX_m {st : List Value} {f g : Nat → List Value → Prop} (hm : ∀ x s, f x s → g x s) (h : pX st f) : pX st g := by
  unfold pX at h ⊢
  split at h
  · exact hm _ _ h
  · exact h.elim
def pE (st : List Value) (p : Prop) : Prop := match st with
  | [] => p
  | _ => False
def pN : Nat → List Value → List Value → (List Value → List Value → Prop) → Prop
  | 0, a, st, f => f a st
  | _ + 1, _, [], _ => False
  | n + 1, a, v :: st, f => pN n (v :: a) st f
def rl : Nat → List Value → Prop → Prop
  | _, [], p => p
  | 0, _ :: _, _ => False
  | n + 1, _ :: st, p => rl n st p
theorem gI_i {x : Int32} {f : Int32 → Prop} : gI (some (.int x)) f = f x := rfl
theorem gL_l {x : Int64} {f : Int64 → Prop} : gL (some (.long x)) f = f x := rfl
theorem gR_r {x : Nat} {f : Nat → Prop} : gR (some (.ref x)) f = f x := rfl
theorem pI_i {x : Int32} {st : List Value} {f : Int32 → List Value → Prop} : pI (.int x :: st) f = f x st := rfl
theorem pL_l {x : Int64} {st : List Value} {f : Int64 → List Value → Prop} : pL (.long x :: st) f = f x st := rfl
theorem pR_r {x : Nat} {st : List Value} {f : Nat → List Value → Prop} : pR (.ref x :: st) f = f x st := rfl
theorem p1_i {x : Int32} {st : List Value} {f : Value → List Value → Prop} : p1 (.int x :: st) f = f (.int x) st := rfl
theorem p1_r {x : Nat} {st : List Value} {f : Value → List Value → Prop} : p1 (.ref x :: st) f = f (.ref x) st := rfl
theorem pE_e {p : Prop} : pE [] p = p := rfl
theorem pN_z {a st : List Value} {f : List Value → List Value → Prop} : pN 0 a st f = f a st := rfl
theorem pN_1 {a st : List Value} {v : Value} {f : List Value → List Value → Prop} : pN 1 a (v :: st) f = f (v :: a) st := rfl
theorem pN_2 {a st : List Value} {v w : Value} {f : List Value → List Value → Prop} : pN 2 a (v :: w :: st) f = f (w :: v :: a) st := rfl
theorem pN_3 {a st : List Value} {v w x : Value} {f : List Value → List Value → Prop} : pN 3 a (v :: w :: x :: st) f = f (x :: w :: v :: a) st := rfl
theorem pN_4 {a st : List Value} {v w x y : Value} {f : List Value → List Value → Prop} : pN 4 a (v :: w :: x :: y :: st) f = f (y :: x :: w :: v :: a) st := rfl
theorem pN_5 {a st : List Value} {v w x y z : Value} {f : List Value → List Value → Prop} : pN 5 a (v :: w :: x :: y :: z :: st) f = f (z :: y :: x :: w :: v :: a) st := rfl
theorem pN_6 {a st : List Value} {v w x y z t : Value} {f : List Value → List Value → Prop} : pN 6 a (v :: w :: x :: y :: z :: t :: st) f = f (t :: z :: y :: x :: w :: v :: a) st := rfl
theorem rl_0 {n : Nat} {p : Prop} : rl n [] p = p := by cases n <;> rfl
theorem rl_1 {v : Value} {p : Prop} : rl 4 [v] p = p := rfl
theorem rl_2 {v w : Value} {p : Prop} : rl 4 [v, w] p = p := rfl
theorem rl_3 {v w x : Value} {p : Prop} : rl 4 [v, w, x] p = p := rfl
theorem rl_4 {v w x y : Value} {p : Prop} : rl 4 [v, w, x, y] p = p := rfl
theorem gI_m {o : Option Value} {f g : Int32 → Prop} (hm : ∀ x, f x → g x) (h : gI o f) : gI o g := by
  unfold gI at h ⊢
  split at h
  · exact hm _ h
  · exact h.elim
theorem gL_m {o : Option Value} {f g : Int64 → Prop} (hm : ∀ x, f x → g x) (h : gL o f) : gL o g := by
  unfold gL at h ⊢
  split at h
  · exact hm _ h
  · exact h.elim
theorem gR_m {o : Option Value} {f g : Nat → Prop} (hm : ∀ x, f x → g x) (h : gR o f) : gR o g := by
  unfold gR at h ⊢
  split at h
  · exact hm _ h
  · exact h.elim
theorem pI_m {st : List Value} {f g : Int32 → List Value → Prop} (hm : ∀ x s, f x s → g x s) (h : pI st f) : pI st g := by
  unfold pI at h ⊢
  split at h
  · exact hm _ _ h
  · exact h.elim
theorem pL_m {st : List Value} {f g : Int64 → List Value → Prop} (hm : ∀ x s, f x s → g x s) (h : pL st f) : pL st g := by
  unfold pL at h ⊢
  split at h
  · exact hm _ _ h
  · exact h.elim
theorem pR_m {st : List Value} {f g : Nat → List Value → Prop} (hm : ∀ x s, f x s → g x s) (h : pR st f) : pR st g := by
  unfold pR at h ⊢
  split at h
  · exact hm _ _ h
  · exact h.elim
theorem p1_m {st : List Value} {f g : Value → List Value → Prop} (hm : ∀ x s, f x s → g x s) (h : p1 st f) : p1 st g := by
  unfold p1 at h ⊢
  split at h
  · exact hm _ _ h
  · exact hm _ _ h
  · exact h.elim
theorem pE_m {st : List Value} {p q : Prop} (hm : p → q) (h : pE st p) : pE st q := by
  unfold pE at h ⊢
  split at h
  · exact hm h
  · exact h.elim
theorem pN_m {f g : List Value → List Value → Prop} (hm : ∀ a s, f a s → g a s) : ∀ (n : Nat) (a st : List Value), pN n a st f → pN n a st g
  | 0, _, _, h => hm _ _ h
  | _ + 1, _, [], h => h.elim
  | n + 1, _, _ :: _, h => pN_m hm n _ _ h
theorem rl_m {p q : Prop} (hm : p → q) : ∀ (n : Nat) (st : List Value), rl n st p → rl n st q
  | 0, [], h => hm h
  | _ + 1, [], h => hm h
  | 0, _ :: _, h => h.elim
  | n + 1, _ :: st, h => rl_m hm n st h
theorem ite_m {c : Prop} {p q p' q' : Prop} {i : Decidable c} (h1 : p → p') (h2 : q → q') (h : @ite Prop c i p q) : @ite Prop c i p' q' := by
  by_cases hc : c
  · rw [if_pos hc] at h ⊢
    exact h1 h
  · rw [if_neg hc] at h ⊢
    exact h2 h
-- locals
def clr1 (ls : List Value) (k : Nat) : List Value := match k with
  | 0 => ls
  | j + 1 => match ls[j]? with
    | some (.long _) => ls.set j .null
    | some (.double _) => ls.set j .null
    | _ => ls
def sL1 (ls : List Value) (k : Nat) (v : Value) : List Value := (clr1 ls k).set k v
def sL2 (ls : List Value) (k : Nat) (v : Value) : List Value := ((clr1 ls k).set k v).set (k + 1) .null
-- the table of cells: kind and length; kinds 0 .. 8 objects, 10 int[], 11 long[], 12 Quaternion[], 13 int[][]
-- NET 0, WALKS 1, CLOSED 2, BARE 3, NOW 4, BEFORE 5, NEXT 6, WORK 7, BOOK 8, BOOK_noted 9, BOOK_noted0 10, BOOK_often 17, ROWS 18, ROW0 19, ROWSIZES 22, VISITED 23, DEEDS 24, IMAGE 25, IREGS 26, IREGS0 27, IBOOK 33, IBOOK_noted 34, IBOOK_noted0 35, IBOOK_often 42, REGS 43, REGS0 44, NETWORK 50, STEPS 51, STEPQ 52, STEPQ0 53, REVERSES 83, FACTORS 84, REST 85, TRIAL 86, NODEQ 87, NODEQ0 88, NUMBERS 424, TARGETS 425, DISTANCES 426, PARENTS 427, LASTSTEPS 428, NWORK 429, READER 430, TAPE 431, OPENED 432, SORTS 433, RNUMBERS 434, SUMS 435, SUMS0 436, TERMS 441, TERMS0 442, FACT 447, FACT0 448, LITERAL 453, MODEL 454, M_registers 455, M_stepParts 456, M_reverse 457, M_nodeParts 458, M_nodeAt 459, M_leads 460, M_side 461, M_deeds 462, M_noted 463, M_often 464, M_rows 465, M_rowSize 466, M_tape 467, M_opened 468, M_whySort 469, M_whyNumber 470, M_imageRegisters 471, M_imageNoted 472, M_imageOften 473, M_made 474, M_cell 475, M_other 476, M_dist 477, M_queue 478, M_now 479, M_then 480, M_older 481, M_ways 482, M_work 483
def shp (a : Nat) : Nat × Nat := (if a < 430 then (if a < 34 then (if a < 18 then (if a < 7 then (if a < 2 then (if a < 1 then (7, 13) else (6, 6)) else (if a < 4 then (11, 13) else (11, 336))) else (if a < 9 then (if a < 8 then (3, 4) else (0, 3)) else (if a < 10 then (12, 7) else (if a < 17 then (3, 4) else (10, 7))))) else (if a < 24 then (if a < 22 then (if a < 19 then (13, 3) else (10, 40)) else (if a < 23 then (10, 3) else (10, 336))) else (if a < 26 then (if a < 25 then (10, 16) else (1, 6)) else (if a < 27 then (12, 6) else (if a < 33 then (3, 4) else (0, 3)))))) else (if a < 83 then (if a < 44 then (if a < 42 then (if a < 35 then (12, 7) else (3, 4)) else (if a < 43 then (10, 7) else (12, 6))) else (if a < 51 then (if a < 50 then (3, 4) else (2, 11)) else (if a < 52 then (5, 7) else (if a < 53 then (12, 30) else (3, 4))))) else (if a < 88 then (if a < 85 then (if a < 84 then (10, 30) else (10, 12)) else (if a < 87 then (3, 4) else (12, 336))) else (if a < 425 then (if a < 424 then (3, 4) else (10, 2401)) else (if a < 426 then (10, 10080) else (if a < 429 then (10, 336) else (3, 4))))))) else (if a < 461 then (if a < 448 then (if a < 435 then (if a < 432 then (if a < 431 then (4, 14) else (10, 80)) else (if a < 433 then (10, 4) else (10, 5))) else (if a < 441 then (if a < 436 then (12, 5) else (3, 4)) else (if a < 442 then (12, 5) else (if a < 447 then (3, 4) else (12, 5))))) else (if a < 456 then (if a < 454 then (if a < 453 then (3, 4) else (10, 4)) else (if a < 455 then (8, 49) else (10, 24))) else (if a < 458 then (if a < 457 then (10, 120) else (10, 30)) else (if a < 459 then (10, 1344) else (if a < 460 then (10, 2401) else (10, 10080)))))) else (if a < 471 then (if a < 465 then (if a < 463 then (if a < 462 then (10, 336) else (10, 16)) else (if a < 464 then (10, 28) else (10, 7))) else (if a < 467 then (if a < 466 then (10, 120) else (10, 3)) else (if a < 468 then (10, 80) else (if a < 469 then (10, 4) else (10, 5))))) else (if a < 477 then (if a < 473 then (if a < 472 then (10, 24) else (10, 28)) else (if a < 474 then (10, 7) else (10, 4))) else (if a < 482 then (if a < 479 then (10, 336) else (11, 336)) else (if a < 483 then (10, 40) else (if a < 484 then (10, 64) else (99, 0))))))))
def kd (a : Nat) : Nat := (shp a).1
def ln (a : Nat) : Nat := (shp a).2
/-- how many fields a class has; of what kind a field is: 0 int, 1 boolean, 3 reference -/
def nfT : List Nat := [3, 6, 11, 4, 14, 7, 6, 13, 49]
def fkT : List (List Nat) := [[3, 3, 0], [3, 3, 1, 0, 0, 0], [3, 3, 3, 3, 3, 3, 3, 3, 0, 0, 1], [0, 0, 0, 0], [3, 3, 3, 3, 3, 3, 3, 3, 3, 3, 0, 0, 0, 0], [3, 3, 3, 3, 3, 0, 0], [3, 3, 3, 3, 3, 1], [3, 3, 3, 3, 3, 3, 3, 3, 3, 3, 3, 0, 0], [0, 0, 3, 0, 3, 3, 0, 3, 3, 3, 0, 3, 1, 3, 0, 3, 3, 0, 3, 3, 3, 0, 0, 3, 0, 3, 3, 0, 0, 0, 0, 1, 0, 0, 0, 3, 3, 3, 0, 3, 3, 3, 3, 3, 3, 3, 3, 3, 3]]
def yFRESH : Nat := 28
def costT (y : Nat) : Nat × Nat := if y = 0 then (9, 42) else if y = 7 then (17, 75) else if y = 9 then (379, 15380) else if y = 47 then (23, 173) else if y = 70 then (35, 200) else if y = 81 then (5, 1034) else if y = 89 then (453, 17256) else if y = 140 then (29, 16458) else (0, 0)
/-- what a new cell is: all nothing -/
def mem0 (h : Mm) (k : Nat) : Mm := (wA h.1 h.2.2.2.1 (fun _ => 0), wA h.2.1 h.2.2.2.1 (fun _ => 0), wA h.2.2.1 h.2.2.2.1 (fun _ => none), h.2.2.2.1 + 1, h.2.2.2.2 + k)
def oF : Op := ⟨fun _ _ _ _ _ _ _ _ => False, fun _ _ _ _ _ _ _ _ _ _ _ _ _ h => h⟩
def oI (v : Int32) (n : Nat) : Op := ⟨fun _ _ _ X pc ls st h => X (pc + n) ls (.int v :: st) h, fun _ _ _ _ _ _ _ _ hX _ _ _ _ h => hX _ _ _ _ h⟩
def oJ (v : Int64) (n : Nat) : Op := ⟨fun _ _ _ X pc ls st h => X (pc + n) ls (.long v :: st) h, fun _ _ _ _ _ _ _ _ hX _ _ _ _ h => hX _ _ _ _ h⟩
def oIl (k n : Nat) : Op := ⟨fun _ _ _ X pc ls st h => gI ls[k]? fun x => X (pc + n) ls (.int x :: st) h, fun _ _ _ _ _ _ _ _ hX _ _ _ _ h => gI_m (fun _ h => hX _ _ _ _ h) h⟩
def oLl (k n : Nat) : Op := ⟨fun _ _ _ X pc ls st h => gL ls[k]? fun x => X (pc + n) ls (.long x :: st) h, fun _ _ _ _ _ _ _ _ hX _ _ _ _ h => gL_m (fun _ h => hX _ _ _ _ h) h⟩
def oAl (k n : Nat) : Op := ⟨fun _ _ _ X pc ls st h => gR ls[k]? fun x => X (pc + n) ls (.ref x :: st) h, fun _ _ _ _ _ _ _ _ hX _ _ _ _ h => gR_m (fun _ h => hX _ _ _ _ h) h⟩
def oIs (k n : Nat) : Op := ⟨fun _ _ _ X pc ls st h => pI st fun x st => X (pc + n) (sL1 ls k (.int x)) st h, fun _ _ _ _ _ _ _ _ hX _ _ _ _ h => pI_m (fun _ _ h => hX _ _ _ _ h) h⟩
def oLs (k n : Nat) : Op := ⟨fun _ _ _ X pc ls st h => pL st fun x st => X (pc + n) (sL2 ls k (.long x)) st h, fun _ _ _ _ _ _ _ _ hX _ _ _ _ h => pL_m (fun _ _ h => hX _ _ _ _ h) h⟩
def oAs (k n : Nat) : Op := ⟨fun _ _ _ X pc ls st h => pR st fun x st => X (pc + n) (sL1 ls k (.ref x)) st h, fun _ _ _ _ _ _ _ _ hX _ _ _ _ h => pR_m (fun _ _ h => hX _ _ _ _ h) h⟩
def oInc (k : Nat) (v : Int32) : Op := ⟨fun _ _ _ X pc ls st h => gI ls[k]? fun x => X (pc + 3) (sL1 ls k (.int (x + v))) st h, fun _ _ _ _ _ _ _ _ hX _ _ _ _ h => gI_m (fun _ h => hX _ _ _ _ h) h⟩
def oBin (f : Int32 → Int32 → Int32) : Op := ⟨fun _ _ _ X pc ls st h => pI st fun y st => pI st fun x st => X (pc + 1) ls (.int (f x y) :: st) h, fun _ _ _ _ _ _ _ _ hX _ _ _ _ h => pI_m (fun _ _ h => pI_m (fun _ _ h => hX _ _ _ _ h) h) h⟩
def oAdd : Op := oBin fun x y => x + y
def oSub : Op := oBin fun x y => x - y
def oMul : Op := oBin fun x y => x * y
def oAnd : Op := oBin fun x y => x &&& y
def oOr : Op := oBin fun x y => x ||| y
def oXor : Op := oBin fun x y => x ^^^ y
def oDiv : Op := ⟨fun _ _ _ X pc ls st h => pI st fun y st => pI st fun x st => ¬ y = 0 ∧ X (pc + 1) ls (.int (x / y) :: st) h, fun _ _ _ _ _ _ _ _ hX _ _ _ _ h => pI_m (fun _ _ h => pI_m (fun _ _ h => ⟨h.1, hX _ _ _ _ h.2⟩) h) h⟩
def oRem : Op := ⟨fun _ _ _ X pc ls st h => pI st fun y st => pI st fun x st => ¬ y = 0 ∧ X (pc + 1) ls (.int (x - x / y * y) :: st) h, fun _ _ _ _ _ _ _ _ hX _ _ _ _ h => pI_m (fun _ _ h => pI_m (fun _ _ h => ⟨h.1, hX _ _ _ _ h.2⟩) h) h⟩
def oNeg : Op := ⟨fun _ _ _ X pc ls st h => pI st fun x st => X (pc + 1) ls (.int (-x) :: st) h, fun _ _ _ _ _ _ _ _ hX _ _ _ _ h => pI_m (fun _ _ h => hX _ _ _ _ h) h⟩
def oLBin (f : Int64 → Int64 → Int64) : Op := ⟨fun _ _ _ X pc ls st h => pL st fun y st => pL st fun x st => X (pc + 1) ls (.long (f x y) :: st) h, fun _ _ _ _ _ _ _ _ hX _ _ _ _ h => pL_m (fun _ _ h => pL_m (fun _ _ h => hX _ _ _ _ h) h) h⟩
def oLAdd : Op := oLBin fun x y => x + y
def oLSub : Op := oLBin fun x y => x - y
def oLMul : Op := oLBin fun x y => x * y
def oLDiv : Op := ⟨fun _ _ _ X pc ls st h => pL st fun y st => pL st fun x st => ¬ y = 0 ∧ X (pc + 1) ls (.long (x / y) :: st) h, fun _ _ _ _ _ _ _ _ hX _ _ _ _ h => pL_m (fun _ _ h => pL_m (fun _ _ h => ⟨h.1, hX _ _ _ _ h.2⟩) h) h⟩
def oLNeg : Op := ⟨fun _ _ _ X pc ls st h => pL st fun x st => X (pc + 1) ls (.long (-x) :: st) h, fun _ _ _ _ _ _ _ _ hX _ _ _ _ h => pL_m (fun _ _ h => hX _ _ _ _ h) h⟩
def oI2L : Op := ⟨fun _ _ _ X pc ls st h => pI st fun x st => X (pc + 1) ls (.long x.toInt64 :: st) h, fun _ _ _ _ _ _ _ _ hX _ _ _ _ h => pI_m (fun _ _ h => hX _ _ _ _ h) h⟩
def oL2I : Op := ⟨fun _ _ _ X pc ls st h => pL st fun x st => X (pc + 1) ls (.int x.toInt32 :: st) h, fun _ _ _ _ _ _ _ _ hX _ _ _ _ h => pL_m (fun _ _ h => hX _ _ _ _ h) h⟩
def oLcmp : Op := ⟨fun _ _ _ X pc ls st h => pL st fun y st => pL st fun x st => X (pc + 1) ls (.int (lg_cmp x y) :: st) h, fun _ _ _ _ _ _ _ _ hX _ _ _ _ h => pL_m (fun _ _ h => pL_m (fun _ _ h => hX _ _ _ _ h) h) h⟩
def oDup : Op := ⟨fun _ _ _ X pc ls st h => p1 st fun x st => X (pc + 1) ls (x :: x :: st) h, fun _ _ _ _ _ _ _ _ hX _ _ _ _ h => p1_m (fun _ _ h => hX _ _ _ _ h) h⟩
def oPop : Op := ⟨fun _ _ _ X pc ls st h => p1 st fun _ st => X (pc + 1) ls st h, fun _ _ _ _ _ _ _ _ hX _ _ _ _ h => p1_m (fun _ _ h => hX _ _ _ _ h) h⟩
def oDupX1 : Op := ⟨fun _ _ _ X pc ls st h => p1 st fun x st => p1 st fun y st => X (pc + 1) ls (x :: y :: x :: st) h, fun _ _ _ _ _ _ _ _ hX _ _ _ _ h => p1_m (fun _ _ h => p1_m (fun _ _ h => hX _ _ _ _ h) h) h⟩
def oDup2 : Op := ⟨fun _ _ _ X pc ls st h => p1 st fun x st => p1 st fun y st => X (pc + 1) ls (x :: y :: x :: y :: st) h, fun _ _ _ _ _ _ _ _ hX _ _ _ _ h => p1_m (fun _ _ h => p1_m (fun _ _ h => hX _ _ _ _ h) h) h⟩
-- branches
def oEq (t : Nat) : Op := ⟨fun _ _ _ X pc ls st h => pI st fun x st => if x = 0 then X t ls st h else X (pc + 3) ls st h, fun _ _ _ _ _ _ _ _ hX _ _ _ _ h => pI_m (fun _ _ h => ite_m (hX _ _ _ _) (hX _ _ _ _) h) h⟩
def oNe (t : Nat) : Op := ⟨fun _ _ _ X pc ls st h => pI st fun x st => if x = 0 then X (pc + 3) ls st h else X t ls st h, fun _ _ _ _ _ _ _ _ hX _ _ _ _ h => pI_m (fun _ _ h => ite_m (hX _ _ _ _) (hX _ _ _ _) h) h⟩
def oLt (t : Nat) : Op := ⟨fun _ _ _ X pc ls st h => pI st fun x st => if x < 0 then X t ls st h else X (pc + 3) ls st h, fun _ _ _ _ _ _ _ _ hX _ _ _ _ h => pI_m (fun _ _ h => ite_m (hX _ _ _ _) (hX _ _ _ _) h) h⟩
def oGe (t : Nat) : Op := ⟨fun _ _ _ X pc ls st h => pI st fun x st => if x < 0 then X (pc + 3) ls st h else X t ls st h, fun _ _ _ _ _ _ _ _ hX _ _ _ _ h => pI_m (fun _ _ h => ite_m (hX _ _ _ _) (hX _ _ _ _) h) h⟩
def oGt (t : Nat) : Op := ⟨fun _ _ _ X pc ls st h => pI st fun x st => if 0 < x then X t ls st h else X (pc + 3) ls st h, fun _ _ _ _ _ _ _ _ hX _ _ _ _ h => pI_m (fun _ _ h => ite_m (hX _ _ _ _) (hX _ _ _ _) h) h⟩
def oLe (t : Nat) : Op := ⟨fun _ _ _ X pc ls st h => pI st fun x st => if 0 < x then X (pc + 3) ls st h else X t ls st h, fun _ _ _ _ _ _ _ _ hX _ _ _ _ h => pI_m (fun _ _ h => ite_m (hX _ _ _ _) (hX _ _ _ _) h) h⟩
def oCEq (t : Nat) : Op := ⟨fun _ _ _ X pc ls st h => pI st fun y st => pI st fun x st => if x = y then X t ls st h else X (pc + 3) ls st h, fun _ _ _ _ _ _ _ _ hX _ _ _ _ h => pI_m (fun _ _ h => pI_m (fun _ _ h => ite_m (hX _ _ _ _) (hX _ _ _ _) h) h) h⟩
def oCNe (t : Nat) : Op := ⟨fun _ _ _ X pc ls st h => pI st fun y st => pI st fun x st => if x = y then X (pc + 3) ls st h else X t ls st h, fun _ _ _ _ _ _ _ _ hX _ _ _ _ h => pI_m (fun _ _ h => pI_m (fun _ _ h => ite_m (hX _ _ _ _) (hX _ _ _ _) h) h) h⟩
def oCLt (t : Nat) : Op := ⟨fun _ _ _ X pc ls st h => pI st fun y st => pI st fun x st => if x < y then X t ls st h else X (pc + 3) ls st h, fun _ _ _ _ _ _ _ _ hX _ _ _ _ h => pI_m (fun _ _ h => pI_m (fun _ _ h => ite_m (hX _ _ _ _) (hX _ _ _ _) h) h) h⟩
def oCGe (t : Nat) : Op := ⟨fun _ _ _ X pc ls st h => pI st fun y st => pI st fun x st => if x < y then X (pc + 3) ls st h else X t ls st h, fun _ _ _ _ _ _ _ _ hX _ _ _ _ h => pI_m (fun _ _ h => pI_m (fun _ _ h => ite_m (hX _ _ _ _) (hX _ _ _ _) h) h) h⟩
def oCGt (t : Nat) : Op := ⟨fun _ _ _ X pc ls st h => pI st fun y st => pI st fun x st => if y < x then X t ls st h else X (pc + 3) ls st h, fun _ _ _ _ _ _ _ _ hX _ _ _ _ h => pI_m (fun _ _ h => pI_m (fun _ _ h => ite_m (hX _ _ _ _) (hX _ _ _ _) h) h) h⟩
def oCLe (t : Nat) : Op := ⟨fun _ _ _ X pc ls st h => pI st fun y st => pI st fun x st => if y < x then X (pc + 3) ls st h else X t ls st h, fun _ _ _ _ _ _ _ _ hX _ _ _ _ h => pI_m (fun _ _ h => pI_m (fun _ _ h => ite_m (hX _ _ _ _) (hX _ _ _ _) h) h) h⟩
def oGoto (t : Nat) : Op := ⟨fun _ _ _ X _ ls st h => X t ls st h, fun _ _ _ _ _ _ _ _ hX _ _ _ _ h => hX _ _ _ _ h⟩
def tabT (lo : Int) (ts : List Nat) (df : Nat) (x : Int32) : Nat := if x.toInt < lo then df else ts.getD (x.toInt - lo).toNat df
def oTab (lo : Int) (ts : List Nat) (df : Nat) : Op := ⟨fun _ _ _ X _ ls st h => pI st fun x st => X (tabT lo ts df x) ls st h, fun _ _ _ _ _ _ _ _ hX _ _ _ _ h => pI_m (fun _ _ h => hX _ _ _ _ h) h⟩
def lookT : List (Int32 × Nat) → Nat → Int32 → Nat
  | [], df, _ => df
  | (k, t) :: l, df, x => if x = k then t else lookT l df x
def oLook (ps : List (Int32 × Nat)) (df : Nat) : Op := ⟨fun _ _ _ X _ ls st h => pI st fun x st => X (lookT ps df x) ls st h, fun _ _ _ _ _ _ _ _ hX _ _ _ _ h => pI_m (fun _ _ h => hX _ _ _ _ h) h⟩
-- fields
def oGetI (ci k : Nat) : Op := ⟨fun _ _ _ X pc ls st h => pR st fun a st => kd a = ci ∧ X (pc + 3) ls (.int (h.1 a k) :: st) h, fun _ _ _ _ _ _ _ _ hX _ _ _ _ h => pR_m (fun _ _ h => ⟨h.1, hX _ _ _ _ h.2⟩) h⟩
def oGetR (ci k : Nat) : Op := ⟨fun _ _ _ X pc ls st h => pR st fun a st => kd a = ci ∧ X (pc + 3) ls (va_rf (h.2.2.1 a k) :: st) h, fun _ _ _ _ _ _ _ _ hX _ _ _ _ h => pR_m (fun _ _ h => ⟨h.1, hX _ _ _ _ h.2⟩) h⟩
def oPutI (ci k : Nat) : Op := ⟨fun _ _ _ X pc ls st h => pI st fun x st => pR st fun a st => kd a = ci ∧ X (pc + 3) ls st (wA h.1 a (upd (h.1 a) k x), h.2), fun _ _ _ _ _ _ _ _ hX _ _ _ _ h => pI_m (fun _ _ h => pR_m (fun _ _ h => ⟨h.1, hX _ _ _ _ h.2⟩) h) h⟩
def oPutZ (ci k : Nat) : Op := ⟨fun _ _ _ X pc ls st h => pI st fun x st => pR st fun a st => kd a = ci ∧ (x = 0 ∨ x = 1) ∧ X (pc + 3) ls st (wA h.1 a (upd (h.1 a) k x), h.2), fun _ _ _ _ _ _ _ _ hX _ _ _ _ h => pI_m (fun _ _ h => pR_m (fun _ _ h => ⟨h.1, h.2.1, hX _ _ _ _ h.2.2⟩) h) h⟩
def oPutR (ci k : Nat) : Op := ⟨fun _ _ _ X pc ls st h => pR st fun x st => pR st fun a st => kd a = ci ∧ X (pc + 3) ls st (h.1, h.2.1, wA h.2.2.1 a (va_up (h.2.2.1 a) k (some x)), h.2.2.2), fun _ _ _ _ _ _ _ _ hX _ _ _ _ h => pR_m (fun _ _ h => pR_m (fun _ _ h => ⟨h.1, hX _ _ _ _ h.2⟩) h) h⟩
-- arrays
def oIald : Op := ⟨fun _ _ _ X pc ls st h => pI st fun i st => pR st fun a st => kd a = 10 ∧ vp_in i (ln a) ∧ X (pc + 1) ls (.int (h.1 a i.toNatClampNeg) :: st) h, fun _ _ _ _ _ _ _ _ hX _ _ _ _ h => pI_m (fun _ _ h => pR_m (fun _ _ h => ⟨h.1, h.2.1, hX _ _ _ _ h.2.2⟩) h) h⟩
def oLald : Op := ⟨fun _ _ _ X pc ls st h => pI st fun i st => pR st fun a st => kd a = 11 ∧ vp_in i (ln a) ∧ X (pc + 1) ls (.long (h.2.1 a i.toNatClampNeg) :: st) h, fun _ _ _ _ _ _ _ _ hX _ _ _ _ h => pI_m (fun _ _ h => pR_m (fun _ _ h => ⟨h.1, h.2.1, hX _ _ _ _ h.2.2⟩) h) h⟩
def oAald (kk : Nat) : Op := ⟨fun _ _ _ X pc ls st h => pI st fun i st => pR st fun a st => kd a = kk ∧ vp_in i (ln a) ∧ X (pc + 1) ls (va_rf (h.2.2.1 a i.toNatClampNeg) :: st) h, fun _ _ _ _ _ _ _ _ hX _ _ _ _ h => pI_m (fun _ _ h => pR_m (fun _ _ h => ⟨h.1, h.2.1, hX _ _ _ _ h.2.2⟩) h) h⟩
def oIast : Op := ⟨fun _ _ _ X pc ls st h => pI st fun x st => pI st fun i st => pR st fun a st => kd a = 10 ∧ vp_in i (ln a) ∧ X (pc + 1) ls st (wA h.1 a (upd (h.1 a) i.toNatClampNeg x), h.2), fun _ _ _ _ _ _ _ _ hX _ _ _ _ h => pI_m (fun _ _ h => pI_m (fun _ _ h => pR_m (fun _ _ h => ⟨h.1, h.2.1, hX _ _ _ _ h.2.2⟩) h) h) h⟩
def oLast : Op := ⟨fun _ _ _ X pc ls st h => pL st fun x st => pI st fun i st => pR st fun a st => kd a = 11 ∧ vp_in i (ln a) ∧ X (pc + 1) ls st (h.1, wA h.2.1 a (vp_updL (h.2.1 a) i.toNatClampNeg x), h.2.2), fun _ _ _ _ _ _ _ _ hX _ _ _ _ h => pL_m (fun _ _ h => pI_m (fun _ _ h => pR_m (fun _ _ h => ⟨h.1, h.2.1, hX _ _ _ _ h.2.2⟩) h) h) h⟩
def oAast : Op := ⟨fun _ _ _ X pc ls st h => pR st fun x st => pI st fun i st => pR st fun a st => kd a = 12 ∧ kd x = 3 ∧ vp_in i (ln a) ∧ X (pc + 1) ls st (h.1, h.2.1, wA h.2.2.1 a (va_up (h.2.2.1 a) i.toNatClampNeg (some x)), h.2.2.2), fun _ _ _ _ _ _ _ _ hX _ _ _ _ h => pR_m (fun _ _ h => pI_m (fun _ _ h => pR_m (fun _ _ h => ⟨h.1, h.2.1, h.2.2.1, hX _ _ _ _ h.2.2.2⟩) h) h) h⟩
def oLen : Op := ⟨fun _ _ _ X pc ls st h => pR st fun a st => (10 ≤ kd a ∧ kd a ≤ 12) ∧ X (pc + 1) ls (.int (Int32.ofNat (ln a)) :: st) h, fun _ _ _ _ _ _ _ _ hX _ _ _ _ h => pR_m (fun _ _ h => ⟨h.1, hX _ _ _ _ h.2⟩) h⟩
-- new cells
def oNew (ci nf : Nat) : Op := ⟨fun _ _ lim X pc ls st h => (kd h.2.2.2.1 = ci ∧ h.2.2.2.1 + 1 ≤ lim.1 ∧ h.2.2.2.2 + nf ≤ lim.2) ∧ X (pc + 3) ls (.ref h.2.2.2.1 :: st) (mem0 h nf), fun _ _ _ _ _ _ _ _ hX _ _ _ _ h => ⟨h.1, hX _ _ _ _ h.2⟩⟩
def oNewA (kk n : Nat) : Op := ⟨fun _ _ lim X pc ls st h => pI st fun x st => (kd h.2.2.2.1 = kk ∧ ¬ x < 0 ∧ ln h.2.2.2.1 = x.toNatClampNeg ∧ h.2.2.2.1 + 1 ≤ lim.1 ∧ h.2.2.2.2 + x.toNatClampNeg ≤ lim.2) ∧ X (pc + n) ls (.ref h.2.2.2.1 :: st) (mem0 h x.toNatClampNeg), fun _ _ _ _ _ _ _ _ hX _ _ _ _ h => pI_m (fun _ _ h => ⟨h.1, hX _ _ _ _ h.2⟩) h⟩
/-- new int[3][40] -/
def mem3 (h : Mm) : Mm := let h1 := mem0 (mem0 (mem0 (mem0 h 3) 40) 40) 40; (h1.1, h1.2.1, wA h1.2.2.1 h.2.2.2.1 (fun j => if j < 3 then some (h.2.2.2.1 + 1 + j) else none), h1.2.2.2)
def oNew3 : Op := ⟨fun _ _ lim X pc ls st h => pI st fun y st => pI st fun x st => (x = 3 ∧ y = 40 ∧ h.2.2.2.1 = 18 ∧ h.2.2.2.1 + 4 ≤ lim.1 ∧ h.2.2.2.2 + 123 ≤ lim.2) ∧ X (pc + 4) ls (.ref h.2.2.2.1 :: st) (mem3 h), fun _ _ _ _ _ _ _ _ hX _ _ _ _ h => pI_m (fun _ _ h => pI_m (fun _ _ h => ⟨h.1, hX _ _ _ _ h.2⟩) h) h⟩
-- calls
def hdR (a : List Value) (ci : Nat) : Prop := match a with
  | .ref b :: _ => kd b = ci
  | _ => False
theorem hdR_r {b : Nat} {a : List Value} {ci : Nat} : hdR (.ref b :: a) ci = (kd b = ci) := rfl
/-- a call that makes nothing: static, or on an object of class ci -/
def oCallS (y na : Nat) : Op := ⟨fun K _ _ X pc ls st h => pN na [] st fun a st => rl 4 st (K y a h fun r h2 => X (pc + 3) ls (r.toList ++ st) h2), fun _ _ _ _ _ _ hK _ hX _ _ _ _ h => pN_m (fun _ _ h => rl_m (fun h => hK _ _ _ _ _ (fun _ _ h => hX _ _ _ _ h) h) _ _ h) _ _ _ h⟩
def oCallV (ci y na : Nat) : Op := ⟨fun K _ _ X pc ls st h => pN na [] st fun a st => rl 4 st (hdR a ci ∧ K y a h fun r h2 => X (pc + 3) ls (r.toList ++ st) h2), fun _ _ _ _ _ _ hK _ hX _ _ _ _ h => pN_m (fun _ _ h => rl_m (fun h => ⟨h.1, hK _ _ _ _ _ (fun _ _ h => hX _ _ _ _ h) h.2⟩) _ _ h) _ _ _ h⟩
/-- how many cells and slots a method makes -/
def costF (n : Nat) : Nat × Nat := (n + 1, 5 * n)
def cost (y : Nat) (a : List Value) : Nat × Nat := match a with
  | [.int n] => if y = yFRESH then costF n.toNatClampNeg else (0, 0)
  | _ => costT y
def oCallA (y na : Nat) : Op := ⟨fun K _ lim X pc ls st h => pN na [] st fun a st => rl 4 st ((h.2.2.2.1 + (cost y a).1 ≤ lim.1 ∧ h.2.2.2.2 + (cost y a).2 ≤ lim.2) ∧ K y a h fun r h2 => X (pc + 3) ls (r.toList ++ st) h2), fun _ _ _ _ _ _ hK _ hX _ _ _ _ h => pN_m (fun _ _ h => rl_m (fun h => ⟨h.1, hK _ _ _ _ _ (fun _ _ h => hX _ _ _ _ h) h.2⟩) _ _ h) _ _ _ h⟩
def hdO (a : List Value) : Prop := match a with
  | .ref b :: _ => kd b < 9
  | _ => False
theorem hdO_r {b : Nat} {a : List Value} : hdO (.ref b :: a) = (kd b < 9) := rfl
/-- a constructor's call -/
def oCallI (y na : Nat) : Op := ⟨fun K _ _ X pc ls st h => pN na [] st fun a st => rl 4 st (hdO a ∧ K y a h fun r h2 => X (pc + 3) ls (r.toList ++ st) h2), fun _ _ _ _ _ _ hK _ hX _ _ _ _ h => pN_m (fun _ _ h => rl_m (fun h => ⟨h.1, hK _ _ _ _ _ (fun _ _ h => hX _ _ _ _ h) h.2⟩) _ _ h) _ _ _ h⟩
def oCallIA (y na : Nat) : Op := ⟨fun K _ lim X pc ls st h => pN na [] st fun a st => rl 4 st (hdO a ∧ (h.2.2.2.1 + (cost y a).1 ≤ lim.1 ∧ h.2.2.2.2 + (cost y a).2 ≤ lim.2) ∧ K y a h fun r h2 => X (pc + 3) ls (r.toList ++ st) h2), fun _ _ _ _ _ _ hK _ hX _ _ _ _ h => pN_m (fun _ _ h => rl_m (fun h => ⟨h.1, h.2.1, hK _ _ _ _ _ (fun _ _ h => hX _ _ _ _ h) h.2.2⟩) _ _ h) _ _ _ h⟩
def oObj : Op := ⟨fun _ _ _ X pc ls st h => pR st fun _ st => rl 4 st (X (pc + 3) ls st h), fun _ _ _ _ _ _ _ _ hX _ _ _ _ h => pR_m (fun _ _ h => rl_m (fun h => hX _ _ _ _ h) _ _ h) h⟩
/-- System.arraycopy between int arrays -/
def oCopy : Op := ⟨fun _ _ _ X pc ls st h => pI st fun n st => pI st fun dp st => pR st fun b st => pI st fun sp st => pR st fun a st => rl 4 st (((kd a = 10 ∧ kd b = 10) ∧ (¬ sp < 0 ∧ ¬ dp < 0 ∧ ¬ n < 0) ∧ sp.toNatClampNeg + n.toNatClampNeg ≤ ln a ∧ dp.toNatClampNeg + n.toNatClampNeg ≤ ln b) ∧ X (pc + 3) ls st (wA h.1 b (va_cpy (h.1 a) (h.1 b) sp.toNatClampNeg dp.toNatClampNeg n.toNatClampNeg), h.2)), fun _ _ _ _ _ _ _ _ hX _ _ _ _ h => pI_m (fun _ _ h => pI_m (fun _ _ h => pR_m (fun _ _ h => pI_m (fun _ _ h => pR_m (fun _ _ h => rl_m (fun h => ⟨h.1, hX _ _ _ _ h.2⟩) _ _ h) h) h) h) h) h⟩
-- the law's script: L ints xs at the cell b
def oXl (k n : Nat) : Op := ⟨fun _ _ _ X pc ls st h => gX ls[k]? fun x => X (pc + n) ls (.retAddr x :: st) h, fun _ _ _ _ _ _ _ _ hX _ _ _ _ h => gX_m (fun _ h => hX _ _ _ _ h) h⟩
def oSlen (b L : Nat) : Op := ⟨fun _ _ _ X pc ls st h => pX st fun a st => a = b ∧ X (pc + 1) ls (.int (Int32.ofNat L) :: st) h, fun _ _ _ _ _ _ _ _ hX _ _ _ _ h => pX_m (fun _ _ h => ⟨h.1, hX _ _ _ _ h.2⟩) h⟩
def oSld (b L : Nat) (xs : Nat → Int32) : Op := ⟨fun _ _ _ X pc ls st h => pI st fun i st => pX st fun a st => a = b ∧ vp_in i L ∧ X (pc + 1) ls (.int (xs i.toNatClampNeg) :: st) h, fun _ _ _ _ _ _ _ _ hX _ _ _ _ h => pI_m (fun _ _ h => pX_m (fun _ _ h => ⟨h.1, h.2.1, hX _ _ _ _ h.2.2⟩) h) h⟩
-- ends
def oIRet : Op := ⟨fun _ Q _ _ _ _ st h => pI st fun x st => pE st (Q (some (.int x)) h), fun _ _ _ _ _ _ _ hQ _ _ _ _ _ h => pI_m (fun _ _ h => pE_m (hQ _ _) h) h⟩
def oZRet : Op := ⟨fun _ Q _ _ _ _ st h => pI st fun x st => pE st ((x = 0 ∨ x = 1) ∧ Q (some (.int x)) h), fun _ _ _ _ _ _ _ hQ _ _ _ _ _ h => pI_m (fun _ _ h => pE_m (fun h => ⟨h.1, hQ _ _ h.2⟩) h) h⟩
def oLRet : Op := ⟨fun _ Q _ _ _ _ st h => pL st fun x st => pE st (Q (some (.long x)) h), fun _ _ _ _ _ _ _ hQ _ _ _ _ _ h => pL_m (fun _ _ h => pE_m (hQ _ _) h) h⟩
def oARet : Op := ⟨fun _ Q _ _ _ _ st h => pR st fun x st => pE st (Q (some (.ref x)) h), fun _ _ _ _ _ _ _ hQ _ _ _ _ _ h => pR_m (fun _ _ h => pE_m (hQ _ _) h) h⟩
def oVRet : Op := ⟨fun _ Q _ _ _ _ st h => pE st (Q none h), fun _ _ _ _ _ _ _ hQ _ _ _ _ _ h => pE_m (hQ _ _) h⟩
-- the meaning of a method
def WP (K : Km) (cd : Nat → Op) (lim : Nat × Nat) (Q : Qm) : Xm := fun pc ls st h => ∀ X : Xm, (∀ pc ls st h, (cd pc).1 K Q lim X pc ls st h → X pc ls st h) → X pc ls st h
theorem WP_f {K : Km} {cd : Nat → Op} {lim : Nat × Nat} {Q : Qm} (hK : KMo K) {pc : Nat} {ls st : List Value} {h : Mm} (w : (cd pc).1 K Q lim (WP K cd lim Q) pc ls st h) : WP K cd lim Q pc ls st h := fun X hX => hX _ _ _ _ ((cd pc).2 K Q Q lim _ _ hK (fun _ _ q => q) (fun _ _ _ _ q => q X hX) _ _ _ _ w)
theorem WP_u {K : Km} {cd : Nat → Op} {lim : Nat × Nat} {Q : Qm} (hK : KMo K) {pc : Nat} {ls st : List Value} {h : Mm} (w : WP K cd lim Q pc ls st h) : (cd pc).1 K Q lim (WP K cd lim Q) pc ls st h := w (fun pc ls st h => (cd pc).1 K Q lim (WP K cd lim Q) pc ls st h) (fun pc ls st h q => (cd pc).2 K Q Q lim _ _ hK (fun _ _ q => q) (fun _ _ _ _ q => WP_f hK q) _ _ _ _ q)
theorem WP_e {K : Km} {cd : Nat → Op} {lim : Nat × Nat} {Q : Qm} (hK : KMo K) {pc : Nat} {ls st : List Value} {h : Mm} : WP K cd lim Q pc ls st h = (cd pc).1 K Q lim (WP K cd lim Q) pc ls st h := propext ⟨WP_u hK, WP_f hK⟩
theorem WP_m {K : Km} {cd : Nat → Op} {lim : Nat × Nat} {Q Q' : Qm} (hK : KMo K) (hQ : ∀ r h, Q r h → Q' r h) {pc : Nat} {ls st : List Value} {h : Mm} (w : WP K cd lim Q pc ls st h) : WP K cd lim Q' pc ls st h := fun X hX => w X (fun pc ls st h q => hX _ _ _ _ ((cd pc).2 K Q Q' lim _ _ hK hQ (fun _ _ _ _ q => q) _ _ _ _ q))
/-- arguments as locals -/
def iniA : List Value → List Value
  | [] => []
  | .long x :: l => .long x :: .null :: iniA l
  | .double x :: l => .double x :: .null :: iniA l
  | v :: l => v :: iniA l
def iniL (n : Nat) (a : List Value) : List Value := iniA a ++ List.replicate (n - (iniA a).length) .null
def endQ (n s : Nat) (Q : Qm) : Qm := fun r h => (h.2.2.2.1 = n ∧ h.2.2.2.2 = s) ∧ Q r h
