/-! conditional rows, discharged by omega -/
theorem tv {i N : Nat} (h : i < N) (hN : N ≤ 20000) : vp_in (nI i) N = True := eq_true (vin h hN)
theorem tc {i : Nat} (h : i < 20000) : (nI i).toNatClampNeg = i := nI_clamp (by omega)
theorem tl {a b : Nat} (h : a < b) (hb : b < 2000000) : (nI a < nI b) = True := eq_true (nI_lt h (by omega))
theorem tg {a b : Nat} (h : b ≤ a) (ha : a < 2000000) : (nI a < nI b) = False := eq_false (fun q => by have := (nI_ltI (by omega) (by omega)).mp q; omega)
theorem t0 {a : Nat} (ha : a < 2000000) : (nI a < 0) = False := eq_false (nI_pos (by omega))
theorem tz {a : Nat} (h : 0 < a) (ha : a < 2000000) : (nI a = 0) = False := eq_false (nI_ne0 h (by omega))
theorem te {a b : Nat} (ha : a < 2000000) (hb : b < 2000000) : (nI a = nI b) = (a = b) := propext (nI_eq (by omega) (by omega))
theorem tw {α : Type} {I : Nat → Nat → α} {a b : Nat} {f : Nat → α} (h : ¬ b = a) : wA I a f b = I b := if_neg h
theorem tu {f : Nat → Int32} {i k : Nat} {v : Int32} (h : ¬ k = i) : upd f i v k = f k := upd_n h
theorem tup {α : Type} {f : Nat → α} {i k : Nat} {v : α} (h : ¬ k = i) : va_up f i v k = f k := va_up_ne f v h
theorem tup_s {α : Type} {f : Nat → α} {i : Nat} {v : α} : va_up f i v i = v := va_up_self f i v
theorem tuL {f : Nat → Int64} {i k : Nat} {v : Int64} (h : ¬ k = i) : vp_updL f i v k = f k := if_neg h
theorem tuL_s {f : Nat → Int64} {i : Nat} {v : Int64} : vp_updL f i v i = v := if_pos rfl
theorem i1 {a : Nat} : nI a + 1 = nI (a + 1) := nI_1 a
theorem i2 {a : Nat} : nI a + 2 = nI (a + 2) := nI_add a 2
theorem i3 {a : Nat} : nI a + 3 = nI (a + 3) := nI_add a 3
theorem i4 {a : Nat} : 4 * nI a = nI (4 * a) := pk_mul 4 a
theorem i30 {a : Nat} : 30 * nI a = nI (30 * a) := pk_mul 30 a
theorem i40 {a : Nat} : 40 * nI a = nI (40 * a) := pk_mul 40 a
theorem j30 {a : Nat} : nI a * 30 = nI (a * 30) := pk_mul a 30
theorem nm1 {a : Nat} (h : 1 ≤ a) : nI a - 1 = nI (a - 1) := pk_sub (a := a) (b := 1) h
