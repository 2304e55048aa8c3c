/-! small rows for the pure part: locals, cells, words -/
theorem va_rf_s {b : Nat} : va_rf (some b) = .ref b := rfl
theorem sL1_0 {a v : Value} {l : List Value} : sL1 (a :: l) 0 v = v :: l := rfl
theorem sL1_1i {x : Int32} {b v : Value} {l : List Value} : sL1 (.int x :: b :: l) 1 v = .int x :: v :: l := rfl
theorem sL1_1r {x : Nat} {b v : Value} {l : List Value} : sL1 (.ref x :: b :: l) 1 v = .ref x :: v :: l := rfl
theorem sL1_1n {b v : Value} {l : List Value} : sL1 (.null :: b :: l) 1 v = .null :: v :: l := rfl
theorem sL1_1x {x : Nat} {b v : Value} {l : List Value} : sL1 (.retAddr x :: b :: l) 1 v = .retAddr x :: v :: l := rfl
theorem sL1_1l {x : Int64} {b v : Value} {l : List Value} : sL1 (.long x :: b :: l) 1 v = .null :: v :: l := rfl
theorem clr1_ss {a b : Value} {l : List Value} {k : Nat} : clr1 (a :: b :: l) (k + 2) = a :: clr1 (b :: l) (k + 1) := by
  unfold clr1
  dsimp only
  rw [List.getElem?_cons_succ]
  split <;> rfl
theorem sL1_ss {a b v : Value} {l : List Value} {k : Nat} : sL1 (a :: b :: l) (k + 2) v = a :: sL1 (b :: l) (k + 1) v := by
  unfold sL1
  rw [clr1_ss]
  rfl
theorem sL2_0 {a b v : Value} {l : List Value} : sL2 (a :: b :: l) 0 v = v :: .null :: l := rfl
theorem sL2_1i {x : Int32} {b c v : Value} {l : List Value} : sL2 (.int x :: b :: c :: l) 1 v = .int x :: v :: .null :: l := rfl
theorem sL2_1r {x : Nat} {b c v : Value} {l : List Value} : sL2 (.ref x :: b :: c :: l) 1 v = .ref x :: v :: .null :: l := rfl
theorem sL2_1n {b c v : Value} {l : List Value} : sL2 (.null :: b :: c :: l) 1 v = .null :: v :: .null :: l := rfl
theorem sL2_1l {x : Int64} {b c v : Value} {l : List Value} : sL2 (.long x :: b :: c :: l) 1 v = .null :: v :: .null :: l := rfl
theorem sL2_ss {a b v : Value} {l : List Value} {k : Nat} : sL2 (a :: b :: l) (k + 2) v = a :: sL2 (b :: l) (k + 1) v := by
  unfold sL2
  rw [clr1_ss]
  rfl
theorem kd_0 : kd 0 = 7 := rfl
theorem ln_0 : ln 0 = 13 := rfl
theorem kd_1 : kd 1 = 6 := rfl
theorem ln_1 : ln 1 = 6 := rfl
theorem kd_2 : kd 2 = 11 := rfl
theorem ln_2 : ln 2 = 13 := rfl
theorem kd_3 : kd 3 = 11 := rfl
theorem ln_3 : ln 3 = 13 := rfl
theorem kd_4 : kd 4 = 11 := rfl
theorem ln_4 : ln 4 = 336 := rfl
theorem kd_5 : kd 5 = 11 := rfl
theorem ln_5 : ln 5 = 336 := rfl
theorem kd_6 : kd 6 = 11 := rfl
theorem ln_6 : ln 6 = 336 := rfl
theorem kd_7 : kd 7 = 3 := rfl
theorem ln_7 : ln 7 = 4 := rfl
theorem kd_8 : kd 8 = 0 := rfl
theorem ln_8 : ln 8 = 3 := rfl
theorem kd_9 : kd 9 = 12 := rfl
theorem ln_9 : ln 9 = 7 := rfl
theorem kd_17 : kd 17 = 10 := rfl
theorem ln_17 : ln 17 = 7 := rfl
theorem kd_18 : kd 18 = 13 := rfl
theorem ln_18 : ln 18 = 3 := rfl
theorem kd_19 : kd 19 = 10 := rfl
theorem ln_19 : ln 19 = 40 := rfl
theorem kd_20 : kd 20 = 10 := rfl
theorem ln_20 : ln 20 = 40 := rfl
theorem kd_21 : kd 21 = 10 := rfl
theorem ln_21 : ln 21 = 40 := rfl
theorem kd_22 : kd 22 = 10 := rfl
theorem ln_22 : ln 22 = 3 := rfl
theorem kd_23 : kd 23 = 10 := rfl
theorem ln_23 : ln 23 = 336 := rfl
theorem kd_24 : kd 24 = 10 := rfl
theorem ln_24 : ln 24 = 16 := rfl
theorem kd_25 : kd 25 = 1 := rfl
theorem ln_25 : ln 25 = 6 := rfl
theorem kd_26 : kd 26 = 12 := rfl
theorem ln_26 : ln 26 = 6 := rfl
theorem kd_33 : kd 33 = 0 := rfl
theorem ln_33 : ln 33 = 3 := rfl
theorem kd_34 : kd 34 = 12 := rfl
theorem ln_34 : ln 34 = 7 := rfl
theorem kd_42 : kd 42 = 10 := rfl
theorem ln_42 : ln 42 = 7 := rfl
theorem kd_43 : kd 43 = 12 := rfl
theorem ln_43 : ln 43 = 6 := rfl
theorem kd_50 : kd 50 = 2 := rfl
theorem ln_50 : ln 50 = 11 := rfl
theorem kd_51 : kd 51 = 5 := rfl
theorem ln_51 : ln 51 = 7 := rfl
theorem kd_52 : kd 52 = 12 := rfl
theorem ln_52 : ln 52 = 30 := rfl
theorem kd_83 : kd 83 = 10 := rfl
theorem ln_83 : ln 83 = 30 := rfl
theorem kd_84 : kd 84 = 10 := rfl
theorem ln_84 : ln 84 = 12 := rfl
theorem kd_85 : kd 85 = 3 := rfl
theorem ln_85 : ln 85 = 4 := rfl
theorem kd_86 : kd 86 = 3 := rfl
theorem ln_86 : ln 86 = 4 := rfl
theorem kd_87 : kd 87 = 12 := rfl
theorem ln_87 : ln 87 = 336 := rfl
theorem kd_424 : kd 424 = 10 := rfl
theorem ln_424 : ln 424 = 2401 := rfl
theorem kd_425 : kd 425 = 10 := rfl
theorem ln_425 : ln 425 = 10080 := rfl
theorem kd_426 : kd 426 = 10 := rfl
theorem ln_426 : ln 426 = 336 := rfl
theorem kd_427 : kd 427 = 10 := rfl
theorem ln_427 : ln 427 = 336 := rfl
theorem kd_428 : kd 428 = 10 := rfl
theorem ln_428 : ln 428 = 336 := rfl
theorem kd_429 : kd 429 = 3 := rfl
theorem ln_429 : ln 429 = 4 := rfl
theorem kd_430 : kd 430 = 4 := rfl
theorem ln_430 : ln 430 = 14 := rfl
theorem kd_431 : kd 431 = 10 := rfl
theorem ln_431 : ln 431 = 80 := rfl
theorem kd_432 : kd 432 = 10 := rfl
theorem ln_432 : ln 432 = 4 := rfl
theorem kd_433 : kd 433 = 10 := rfl
theorem ln_433 : ln 433 = 5 := rfl
theorem kd_434 : kd 434 = 10 := rfl
theorem ln_434 : ln 434 = 5 := rfl
theorem kd_435 : kd 435 = 12 := rfl
theorem ln_435 : ln 435 = 5 := rfl
theorem kd_441 : kd 441 = 12 := rfl
theorem ln_441 : ln 441 = 5 := rfl
theorem kd_447 : kd 447 = 12 := rfl
theorem ln_447 : ln 447 = 5 := rfl
theorem kd_453 : kd 453 = 10 := rfl
theorem ln_453 : ln 453 = 4 := rfl
theorem kd_454 : kd 454 = 8 := rfl
theorem ln_454 : ln 454 = 49 := rfl
theorem kd_455 : kd 455 = 10 := rfl
theorem ln_455 : ln 455 = 24 := rfl
theorem kd_456 : kd 456 = 10 := rfl
theorem ln_456 : ln 456 = 120 := rfl
theorem kd_457 : kd 457 = 10 := rfl
theorem ln_457 : ln 457 = 30 := rfl
theorem kd_458 : kd 458 = 10 := rfl
theorem ln_458 : ln 458 = 1344 := rfl
theorem kd_459 : kd 459 = 10 := rfl
theorem ln_459 : ln 459 = 2401 := rfl
theorem kd_460 : kd 460 = 10 := rfl
theorem ln_460 : ln 460 = 10080 := rfl
theorem kd_461 : kd 461 = 10 := rfl
theorem ln_461 : ln 461 = 336 := rfl
theorem kd_462 : kd 462 = 10 := rfl
theorem ln_462 : ln 462 = 16 := rfl
theorem kd_463 : kd 463 = 10 := rfl
theorem ln_463 : ln 463 = 28 := rfl
theorem kd_464 : kd 464 = 10 := rfl
theorem ln_464 : ln 464 = 7 := rfl
theorem kd_465 : kd 465 = 10 := rfl
theorem ln_465 : ln 465 = 120 := rfl
theorem kd_466 : kd 466 = 10 := rfl
theorem ln_466 : ln 466 = 3 := rfl
theorem kd_467 : kd 467 = 10 := rfl
theorem ln_467 : ln 467 = 80 := rfl
theorem kd_468 : kd 468 = 10 := rfl
theorem ln_468 : ln 468 = 4 := rfl
theorem kd_469 : kd 469 = 10 := rfl
theorem ln_469 : ln 469 = 5 := rfl
theorem kd_470 : kd 470 = 10 := rfl
theorem ln_470 : ln 470 = 5 := rfl
theorem kd_471 : kd 471 = 10 := rfl
theorem ln_471 : ln 471 = 24 := rfl
theorem kd_472 : kd 472 = 10 := rfl
theorem ln_472 : ln 472 = 28 := rfl
theorem kd_473 : kd 473 = 10 := rfl
theorem ln_473 : ln 473 = 7 := rfl
theorem kd_474 : kd 474 = 10 := rfl
theorem ln_474 : ln 474 = 4 := rfl
theorem kd_475 : kd 475 = 10 := rfl
theorem ln_475 : ln 475 = 4 := rfl
theorem kd_476 : kd 476 = 10 := rfl
theorem ln_476 : ln 476 = 4 := rfl
theorem kd_477 : kd 477 = 10 := rfl
theorem ln_477 : ln 477 = 336 := rfl
theorem kd_478 : kd 478 = 10 := rfl
theorem ln_478 : ln 478 = 336 := rfl
theorem kd_479 : kd 479 = 11 := rfl
theorem ln_479 : ln 479 = 336 := rfl
theorem kd_480 : kd 480 = 11 := rfl
theorem ln_480 : ln 480 = 336 := rfl
theorem kd_481 : kd 481 = 11 := rfl
theorem ln_481 : ln 481 = 336 := rfl
theorem kd_482 : kd 482 = 10 := rfl
theorem ln_482 : ln 482 = 40 := rfl
theorem kd_483 : kd 483 = 10 := rfl
theorem ln_483 : ln 483 = 64 := rfl
theorem kk_BOOK_noted0 : ∀ j, j < 7 → kd (10 + j) = 3 := by decide +kernel
theorem kd_BOOK_noted0 {j : Nat} (h : j < 7) : kd (10 + j) = 3 := kk_BOOK_noted0 j h
theorem kk_IREGS0 : ∀ j, j < 6 → kd (27 + j) = 3 := by decide +kernel
theorem kd_IREGS0 {j : Nat} (h : j < 6) : kd (27 + j) = 3 := kk_IREGS0 j h
theorem kk_IBOOK_noted0 : ∀ j, j < 7 → kd (35 + j) = 3 := by decide +kernel
theorem kd_IBOOK_noted0 {j : Nat} (h : j < 7) : kd (35 + j) = 3 := kk_IBOOK_noted0 j h
theorem kk_REGS0 : ∀ j, j < 6 → kd (44 + j) = 3 := by decide +kernel
theorem kd_REGS0 {j : Nat} (h : j < 6) : kd (44 + j) = 3 := kk_REGS0 j h
theorem kk_STEPQ0 : ∀ j, j < 30 → kd (53 + j) = 3 := by decide +kernel
theorem kd_STEPQ0 {j : Nat} (h : j < 30) : kd (53 + j) = 3 := kk_STEPQ0 j h
theorem kk_NODEQ0 : ∀ j, j < 336 → kd (88 + j) = 3 := by decide +kernel
theorem kd_NODEQ0 {j : Nat} (h : j < 336) : kd (88 + j) = 3 := kk_NODEQ0 j h
theorem kk_SUMS0 : ∀ j, j < 5 → kd (436 + j) = 3 := by decide +kernel
theorem kd_SUMS0 {j : Nat} (h : j < 5) : kd (436 + j) = 3 := kk_SUMS0 j h
theorem kk_TERMS0 : ∀ j, j < 5 → kd (442 + j) = 3 := by decide +kernel
theorem kd_TERMS0 {j : Nat} (h : j < 5) : kd (442 + j) = 3 := kk_TERMS0 j h
theorem kk_FACT0 : ∀ j, j < 5 → kd (448 + j) = 3 := by decide +kernel
theorem kd_FACT0 {j : Nat} (h : j < 5) : kd (448 + j) = 3 := kk_FACT0 j h
def q4 (f : Nat → Int32) (a b c d : Int32) : Nat → Int32 := upd (upd (upd (upd f 0 a) 1 b) 2 c) 3 d
theorem q4_0 {f : Nat → Int32} {a b c d : Int32} : q4 f a b c d 0 = a := rfl
theorem q4_1 {f : Nat → Int32} {a b c d : Int32} : q4 f a b c d 1 = b := rfl
theorem q4_2 {f : Nat → Int32} {a b c d : Int32} : q4 f a b c d 2 = c := rfl
theorem q4_3 {f : Nat → Int32} {a b c d : Int32} : q4 f a b c d 3 = d := rfl
theorem q4_q {f : Nat → Int32} {a b c d a' b' c' d' : Int32} : q4 (q4 f a b c d) a' b' c' d' = q4 f a' b' c' d' := by
  funext k
  unfold q4 upd
  repeat' split
  all_goals rfl
theorem q4_f {f : Nat → Int32} {a b c d : Int32} : upd (upd (upd (upd f 0 a) 1 b) 2 c) 3 d = q4 f a b c d := rfl
def bI (b : Bool) : Int32 := if b = true then 1 else 0
theorem bI_0 {b : Bool} : (bI b = 0) = (b = false) := by cases b <;> simp [bI]
theorem bI_t : bI true = 1 := rfl
theorem bI_f : bI false = 0 := rfl
theorem bI_01 {b : Bool} : (bI b = 0 ∨ bI b = 1) = True := by cases b <;> simp [bI]
theorem ite_bI {α : Sort _} {b : Bool} {x y : α} : (if bI b = 0 then x else y) = if b = true then y else x := by cases b <;> rfl
theorem z_0 : ((0 : Int32) = 0 ∨ (0 : Int32) = 1) = True := by decide
theorem z_1 : ((1 : Int32) = 0 ∨ (1 : Int32) = 1) = True := by decide
theorem e_0 : ((0 : Int32) = 0) = True := by decide
theorem e_1 : ((1 : Int32) = 0) = False := by decide
theorem gI_0 {x : Int32} {l : List Value} {f : Int32 → Prop} : gI ((.int x :: l)[0]?) f = f x := rfl
theorem gL_0 {x : Int64} {l : List Value} {f : Int64 → Prop} : gL ((.long x :: l)[0]?) f = f x := rfl
theorem gR_0 {x : Nat} {l : List Value} {f : Nat → Prop} : gR ((.ref x :: l)[0]?) f = f x := rfl
theorem gX_0 {x : Nat} {l : List Value} {f : Nat → Prop} : gX ((.retAddr x :: l)[0]?) f = f x := rfl
theorem gI_s {a : Value} {l : List Value} {k : Nat} {f : Int32 → Prop} : gI ((a :: l)[k + 1]?) f = gI (l[k]?) f := by rw [List.getElem?_cons_succ]
theorem gL_s {a : Value} {l : List Value} {k : Nat} {f : Int64 → Prop} : gL ((a :: l)[k + 1]?) f = gL (l[k]?) f := by rw [List.getElem?_cons_succ]
theorem gR_s {a : Value} {l : List Value} {k : Nat} {f : Nat → Prop} : gR ((a :: l)[k + 1]?) f = gR (l[k]?) f := by rw [List.getElem?_cons_succ]
