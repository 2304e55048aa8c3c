/-! left translation: how far two nodes are -/
def zV (f g : Nat → Int) : Nat → Int
  | 0 => zA f g
  | 1 => zB f g
  | 2 => zC f g
  | _ => zD f g
def cdV (q : Nat) (f : Nat → Int) : Nat := cdZ q (f 0) (f 1) (f 2) (f 3)
def cjV (f : Nat → Int) : Nat → Int
  | 0 => f 0
  | k => -f k
def ndV (x a : Nat) : Nat → Int := fun k => (ndX x a k : Int)
/-- node b seen from node a -/
def lt (x a b : Nat) : Nat := nuX x (cdV (qW x) (zV (cjV (ndV x a)) (ndV x b)))
def ckU (q : Nat) : Bool := allB (q - 1) fun u => allB q fun a => allB q fun b => allB q fun c => allB q fun e => Nat.beq (cdR q ((u + 1) * a % q) ((u + 1) * b % q) ((u + 1) * c % q) ((u + 1) * e % q)) (cdR q a b c e)
theorem ckU_3 : ckU 3 = true := by decide +kernel
theorem ckU_5 : ckU 5 = true := by decide +kernel
theorem ckU_7 : ckU 7 = true := by decide +kernel
theorem ckU_q {q : Nat} (hq : qOk q) : ckU q = true := by
  rcases hq with rfl | rfl | rfl
  · exact ckU_3
  · exact ckU_5
  · exact ckU_7
theorem cd_u {q u a b c e : Nat} (hq : qOk q) (hu : 0 < u) (hu2 : u < q) (ha : a < q) (hb : b < q) (hc : c < q) (he : e < q) : cdR q (u * a % q) (u * b % q) (u * c % q) (u * e % q) = cdR q a b c e := by
  have h := allB_i (allB_i (allB_i (allB_i (allB_i (ckU_q hq) (u - 1) (by omega)) a ha) b hb) c hc) e he
  rw [Nat.beq_eq, show u - 1 + 1 = u by omega] at h
  exact h
theorem rz_lt {q : Nat} (hq : qOk q) (z : Int) : (z % q).toNat < q := by
  have h0 := (qOk_b hq).1
  have h1 := Int.emod_nonneg z (b := (q : Int)) (by omega)
  have h2 := Int.emod_lt_of_pos z (b := (q : Int)) (by omega)
  omega
theorem rz_u {q u : Nat} (hq : qOk q) (w k : Int) : ((((u : Int) * w + q * k) % q).toNat) = (u % q) * (w % q).toNat % q := by
  have h0 := (qOk_b hq).1
  have h1 := Int.emod_nonneg w (b := (q : Int)) (by omega)
  rw [Int.add_mul_emod_self_left, Int.mul_emod]
  have e1 : (w % (q : Int)) = ((w % q).toNat : Int) := (Int.toNat_of_nonneg h1).symm
  have e2 : ((u : Int) % q) = ((u % q : Nat) : Int) := by simp
  rw [e1, e2]
  have e3 : ∀ a b : Nat, ((a : Int) * (b : Int)) % (q : Int) = ((a * b % q : Nat) : Int) := fun a b => by rw [Int.natCast_emod, Int.natCast_mul]
  rw [e3, Int.toNat_natCast, Int.toNat_natCast]
/-- classes don't change by a number that is no multiple -/
theorem cdV_u {q u : Nat} {f g k : Nat → Int} (hq : qOk q) (hu : ¬ u % q = 0) (h : ∀ i, i < 4 → f i = (u : Int) * g i + q * k i) : cdV q f = cdV q g := by
  unfold cdV cdZ
  rw [h 0 (by decide), h 1 (by decide), h 2 (by decide), h 3 (by decide), rz_u hq, rz_u hq, rz_u hq, rz_u hq]
  have h0 := (qOk_b hq).1
  exact cd_u hq (by omega) (Nat.mod_lt _ h0) (rz_lt hq _) (rz_lt hq _) (rz_lt hq _) (rz_lt hq _)
theorem zV_assoc {f g h : Nat → Int} : ∀ i, i < 4 → zV (zV f g) h i = zV f (zV g h) i := by
  intro i hi
  rcases (by omega : i = 0 ∨ i = 1 ∨ i = 2 ∨ i = 3) with rfl | rfl | rfl | rfl
  all_goals
    simp only [zV, zA, zB, zC, zD]
    grind
theorem zV_l {f g k h : Nat → Int} {u q : Int} (e : ∀ i, i < 4 → f i = u * g i + q * k i) : ∀ i, i < 4 → zV f h i = u * zV g h i + q * zV k h i := by
  intro i hi
  have e0 := e 0 (by decide)
  have e1 := e 1 (by decide)
  have e2 := e 2 (by decide)
  have e3 := e 3 (by decide)
  rcases (by omega : i = 0 ∨ i = 1 ∨ i = 2 ∨ i = 3) with rfl | rfl | rfl | rfl
  all_goals
    simp only [zV, zA, zB, zC, zD, e0, e1, e2, e3]
    grind
theorem zV_r {f g k h : Nat → Int} {u q : Int} (e : ∀ i, i < 4 → f i = u * g i + q * k i) : ∀ i, i < 4 → zV h f i = u * zV h g i + q * zV h k i := by
  intro i hi
  have e0 := e 0 (by decide)
  have e1 := e 1 (by decide)
  have e2 := e 2 (by decide)
  have e3 := e 3 (by decide)
  rcases (by omega : i = 0 ∨ i = 1 ∨ i = 2 ∨ i = 3) with rfl | rfl | rfl | rfl
  all_goals
    simp only [zV, zA, zB, zC, zD, e0, e1, e2, e3]
    grind
theorem zV_n {f g : Nat → Int} : ∀ i, i < 4 → zV f (zV (cjV f) g) i = (f 0 * f 0 + f 1 * f 1 + f 2 * f 2 + f 3 * f 3) * g i := by
  intro i hi
  rcases (by omega : i = 0 ∨ i = 1 ∨ i = 2 ∨ i = 3) with rfl | rfl | rfl | rfl
  all_goals
    simp only [zV, zA, zB, zC, zD, cjV]
    grind
theorem cdV_q {q : Nat} {f g : Nat → Int} (h : ∀ i, i < 4 → f i = g i) : cdV q f = cdV q g := by
  unfold cdV
  rw [h 0 (by decide), h 1 (by decide), h 2 (by decide), h 3 (by decide)]
theorem zV_q {f g f' g' : Nat → Int} (h : ∀ i, i < 4 → f i = f' i) (h' : ∀ i, i < 4 → g i = g' i) : ∀ i, i < 4 → zV f g i = zV f' g' i := by
  intro i hi
  have e0 := h 0 (by decide)
  have e1 := h 1 (by decide)
  have e2 := h 2 (by decide)
  have e3 := h 3 (by decide)
  have d0 := h' 0 (by decide)
  have d1 := h' 1 (by decide)
  have d2 := h' 2 (by decide)
  have d3 := h' 3 (by decide)
  rcases (by omega : i = 0 ∨ i = 1 ∨ i = 2 ∨ i = 3) with rfl | rfl | rfl | rfl
  all_goals simp only [zV, zA, zB, zC, zD, e0, e1, e2, e3, d0, d1, d2, d3]
