/-! every kind of instruction is sound: from the abstract machine's next states the machine's; a call by its contract -/
def nFw : List (String × Nat × String × String × String × String) := [("QuaternionNet$Network", 110, "QuaternionNet$Quaternion", "a", "I", "QuaternionNet"), ("QuaternionNet$Network", 113, "QuaternionNet$Quaternion", "b", "I", "QuaternionNet"), ("QuaternionNet$Network", 116, "QuaternionNet$Quaternion", "c", "I", "QuaternionNet"), ("QuaternionNet$Network", 119, "QuaternionNet$Quaternion", "d", "I", "QuaternionNet"), ("QuaternionNet", 266, "QuaternionNet$Book", "size", "I", "QuaternionNet"), ("QuaternionNet", 296, "QuaternionNet$Image", "registers", "[LQuaternionNet$Quaternion;", "QuaternionNet"), ("QuaternionNet", 301, "QuaternionNet$Image", "notes", "LQuaternionNet$Book;", "QuaternionNet"), ("QuaternionNet", 305, "QuaternionNet$Image", "isThere", "Z", "QuaternionNet"), ("QuaternionNet", 308, "QuaternionNet$Image", "p", "I", "QuaternionNet"), ("QuaternionNet", 309, "QuaternionNet$Image", "q", "I", "QuaternionNet"), ("QuaternionNet", 312, "QuaternionNet$Image", "place", "I", "QuaternionNet"), ("QuaternionNet", 131, "QuaternionNet$Steps", "p", "I", "QuaternionNet"), ("QuaternionNet$Network", 88, "QuaternionNet$Steps", "size", "I", "QuaternionNet"), ("QuaternionNet$Walks", 56, "QuaternionNet$Steps", "size", "I", "QuaternionNet"), ("QuaternionNet", 208, "QuaternionNet$Steps", "size", "I", "QuaternionNet"), ("QuaternionNet", 63, "QuaternionNet$Network", "steps", "LQuaternionNet$Steps;", "QuaternionNet"), ("QuaternionNet$Walks", 52, "QuaternionNet$Network", "steps", "LQuaternionNet$Steps;", "QuaternionNet"), ("QuaternionNet", 127, "QuaternionNet$Network", "modulus", "I", "QuaternionNet"), ("QuaternionNet$Walks", 62, "QuaternionNet$Network", "size", "I", "QuaternionNet"), ("QuaternionNet", 205, "QuaternionNet$Network", "size", "I", "QuaternionNet"), ("QuaternionNet", 209, "QuaternionNet$Network", "sides", "Z", "QuaternionNet"), ("QuaternionNet", 313, "QuaternionNet$Reader", "length", "I", "QuaternionNet"), ("QuaternionNet", 283, "QuaternionNet$Reader", "troubles", "I", "QuaternionNet")]
def nMw : List (String × Nat × MethodName × String) := [("QuaternionNet", 11, ⟨"QuaternionNet$Walks", "<init>", "()V"⟩, "QuaternionNet"), ("QuaternionNet", 20, ⟨"QuaternionNet$Quaternion", "<init>", "()V"⟩, "QuaternionNet"), ("QuaternionNet", 27, ⟨"QuaternionNet$Book", "<init>", "()V"⟩, "QuaternionNet"), ("QuaternionNet", 51, ⟨"QuaternionNet$Image", "<init>", "()V"⟩, "QuaternionNet"), ("QuaternionNet$Image", 23, ⟨"QuaternionNet$Book", "<init>", "()V"⟩, "QuaternionNet"), ("QuaternionNet$Network", 11, ⟨"QuaternionNet$Steps", "<init>", "()V"⟩, "QuaternionNet"), ("QuaternionNet$Steps", 26, ⟨"QuaternionNet$Quaternion", "<init>", "()V"⟩, "QuaternionNet"), ("QuaternionNet$Network", 44, ⟨"QuaternionNet$Quaternion", "<init>", "()V"⟩, "QuaternionNet")]
def mAOA (U : State) : Prop := (Cond.arrayOver (.array .int)).before #[] U = true
def XK (U : State) : Prop := (∀ q ∈ nFw, va_Nw (.fieldLinkNest q.1 q.2.1 q.2.2.1 q.2.2.2.1 q.2.2.2.2.1 q.2.2.2.2.2) U) ∧ (∀ q ∈ nMw, va_Nw (.methodLinkNest q.1 q.2.1 q.2.2.1 q.2.2.2) U) ∧ va_AO (CN 3) U ∧ mAOA U
theorem mAOA.moved {u U : State} (hvm : u.vm.Alike U.vm) (h : mAOA u) : mAOA U := by
  unfold mAOA Cond.before Cond.holds at h
  simp only [Cond.value, beq_iff_eq] at h
  cases hc : u.vm.findClass (FieldType.array .int).toString with
  | none => simp [hc] at h
  | some comp =>
    simp only [hc, Option.bind_some, Option.bind_eq_some_iff, Option.map_eq_some_iff] at h
    obtain ⟨c, h2, k, h3, hb⟩ := h
    obtain ⟨k', hk', he⟩ := hvm.2.2 _ _ h3
    have e3 : U.vm.bare = u.vm.bare := by first | exact hvm.bare_eq | exact hvm.bare_eq.symm
    have e1 := va_idx_bare U.vm comp
    have e2 := va_idx_bare u.vm comp
    rw [e3] at e1
    have hi := (e1.symm.trans e2).trans h2
    split at hb
    · rename_i cmp ty hkd
      have hkind : k'.kind = .array cmp ty := by rw [he]; exact hkd
      simp only [Bool.and_eq_true, decide_eq_true_eq] at hb
      have f1 : U.vm.findClass (FieldType.array .int).toString = some comp := by rw [hvm.findClass]; exact hc
      have f2 : U.vm.findClass ("[" ++ (FieldType.array .int).toString) = some c := by rw [hvm.findClass]; exact hb.2
      unfold mAOA Cond.before Cond.holds
      simp only [Cond.value]
      rw [f1, Option.bind_some]
      refine (congrArg (fun o : Option Nat => (o.bind (fun c => (U.vm.classes[c]?).map fun (k : Class) => match k.kind with | .array _ ty => decide (ty = FieldType.array .int) && decide (U.vm.findClass ("[" ++ (FieldType.array .int).toString) = some c) | _ => false) == some true)) hi).trans ?_
      simp [hk', hkind, hb.1, f2]
    · cases hb
theorem XK.warm {s U : State} (hW : s.WarmedH U.vm) (h : XK s) : XK U := ⟨fun q hq => va_Nw.warmF hW (h.1 q hq), fun q hq => va_Nw.warmM hW (h.2.1 q hq), h.2.2.1.moved hW.alike, h.2.2.2.moved hW.alike⟩
theorem XK.call {U : State} {g : JFrame} {mk : MethodId} {a : Array Value} (h : XK U) : XK (U.calling g mk a) := ⟨fun q hq => va_Nw.same rfl rfl (h.1 q hq), fun q hq => va_Nw.same rfl rfl (h.2.1 q hq), h.2.2.1.moved (Vm.Alike.refl U.vm), h.2.2.2.moved (Vm.Alike.refl U.vm)⟩
def WS (y : Nat) : List Cond := Cond.code (mN y) (mB y) (mL y) (mR y) :: TT
/-- the memory and the heap -/
def Rp (D : va_G) (A : Nat → Prop) (s : State) (ad : Nat → Nat) (cd : Nat → ClassId) (h : Mm) (H : Heap) : Prop := va_P D cl (wd ad cd h) H ∧ va_D A (wd ad cd h) ∧ KO cd h s ∧ Wf h
/-- a call's start and end -/
def Pc1 (D : va_G) (ad : Nat → Nat) (cd : Nat → ClassId) (sz : Nat) (a : List Value) (h : Mm) : Array Value → State → Prop := va_Pc (a.map (conc ad)) fun U => U.heap.size = sz ∧ Rp D (fun _ => True) U ad cd h U.heap ∧ va_K D cl [] U ∧ XK U
def Qc1 (D : va_G) (ad : Nat → Nat) (cd : Nat → ClassId) (sz : Nat) (h : Mm) (Q : Qm) : Array Value → State → Outcome → State → Prop := fun _ st oc t => (∃ (r : Option Value) (ad' : Nat → Nat) (cd' : Nat → ClassId) (h' : Mm), oc = .returned (r.map (conc ad')) ∧ Q r h' ∧ (∀ v, r = some v → okV h' v) ∧ (∀ i, i < h.2.2.2.1 → ad' i = ad i ∧ cd' i = cd i) ∧ h.2.2.2.1 ≤ h'.2.2.2.1 ∧ h.2.2.2.2 ≤ h'.2.2.2.2 ∧ Rp D (va_A (wd ad cd h) sz) t ad' cd' h' t.heap) ∧ va_F (va_A (wd ad cd h) sz) st t
def rmd (d : Nat) (c : Nat × Nat) : Room := { frames := d, cells := c.1, slots := c.2, locals := 64 * d }
/-- the calls below are sound -/
def KS (l : Launch) (d : Nat) (K : Km) : Prop := ∀ (y : Nat) (a : List Value) (h : Mm) (Q : Qm) (D : va_G) (ad : Nat → Nat) (cd : Nat → ClassId) (sz : Nat), y < 225 → K y a h Q → (∀ v ∈ a, okV h v) → Met l (mN y) (WS y) (rmd d (cost y a)) (Pc1 D ad cd sz a h) (Qc1 D ad cd sz h (fun r h2 => Q r h2 ∧ h2.2.2.2.1 = h.2.2.2.1 + (cost y a).1 ∧ h2.2.2.2.2 = h.2.2.2.2 + (cost y a).2)) (cost y a).1 (cost y a).2 (va_A (wd ad cd h) sz)
/-- what is fixed while a method runs -/
def Cx (cc : ByteArray) (nL : Nat) (own : String) (ret : Option FieldType) (nm : String) (d : Nat) (p : Program) (s : State) (m : MethodId) (args : Array Value) (meth : Method) (c : Code) (R : Room) (D : va_G) (A : Nat → Prop) (h0 : Mm) (lim : Nat × Nat) (c0 : Cond) : Prop := p.tables.exec = Jvm.exec ∧ c.code = cc ∧ c.maxLocals = nL ∧ s.vm.findClass own = some m.cls ∧ (∀ w ∈ c0 :: TT, w.before args s = true) ∧ meth.sig.returnType = ret ∧ meth.locks = false ∧ meth.name = nm ∧ XK s ∧ va_K D cl [] s ∧ (∀ q : Nat, s.heap.size ≤ q → A q) ∧ (lim.1 - h0.2.2.2.1 ≤ R.cells ∧ lim.2 - h0.2.2.2.2 ≤ R.slots ∧ d + 1 ≤ R.frames ∧ 64 * (d + 1) ≤ R.locals)
/-- what holds at every step -/
def Iv (D : va_G) (A : Nat → Prop) (s : State) (h0 : Mm) (ad0 : Nat → Nat) (cd0 : Nat → ClassId) (lim : Nat × Nat) (h : Mm) (ad : Nat → Nat) (cd : Nat → ClassId) (H : Heap) (locs : List Loc) : Prop := Rp D A s ad cd h H ∧ va_S A s.heap H locs ∧ (∀ i, i < h0.2.2.2.1 → ad i = ad0 i ∧ cd i = cd0 i) ∧ (h0.2.2.2.1 ≤ h.2.2.2.1 ∧ h0.2.2.2.2 ≤ h.2.2.2.2) ∧ (h.2.2.2.1 ≤ lim.1 ∧ h.2.2.2.2 ≤ lim.2)
def Wm (p : Program) (l : Launch) (e : Env) (R : Room) (s : State) (m : MethodId) (args : Array Value) (below : List Frame) (meth : Method) (c : Code) (nL : Nat) (D : va_G) (A : Nat → Prop) (h0 : Mm) (ad0 : Nat → Nat) (cd0 : Nat → ClassId) (lim : Nat × Nat) (Qz : State → Prop) : Xm := fun pc ls st h => ∀ (ad : Nat → Nat) (cd : Nat → ClassId) (H : Heap) (locs : List Loc) (lsM : Array Slot), Iv D A s h0 ad0 cd0 lim h ad cd H locs → lv_has lsM nL (lvA ad 0 ls) → ls.length = nL → (∀ v ∈ ls, okV h v) → (∀ v ∈ st, okV h v) → W p l e R s m args below meth c H locs (h.2.2.2.1 - h0.2.2.2.1) (h.2.2.2.2 - h0.2.2.2.2) Qz (F0 m pc lsM (st.map (conc ad)))
/-- an instruction that ends a method, by what it gives -/
def retI (ret : Option FieldType) (r : Option Value) (i : Instr) : Prop := (∃ x, r = some (.int x) ∧ i = .ireturn ∧ (ret = some .int ∨ (ret = some .boolean ∧ (x = 0 ∨ x = 1)))) ∨ (∃ x, r = some (.long x) ∧ i = .lreturn ∧ ret = some .long) ∨ (∃ a, r = some (.ref a) ∧ i = .areturn ∧ ∃ rt, ret = some rt ∧ ((∃ n, rt = .object n) ∨ ∃ t, rt = .array t)) ∨ (r = none ∧ i = .return_ ∧ ret = none)
def EndOK (cc : ByteArray) (ret : Option FieldType) (p : Program) (l : Launch) (e : Env) (R : Room) (s : State) (m : MethodId) (args : Array Value) (below : List Frame) (meth : Method) (c : Code) (D : va_G) (A : Nat → Prop) (h0 : Mm) (ad0 : Nat → Nat) (cd0 : Nat → ClassId) (lim : Nat × Nat) (Qz : State → Prop) (Q : Qm) : Prop := ∀ (r : Option Value) (h : Mm) (ad : Nat → Nat) (cd : Nat → ClassId) (H : Heap) (locs : List Loc) (pc : Nat) (lsM : Array Slot) (i : Instr), Q r h → (∀ v, r = some v → okV h v) → Iv D A s h0 ad0 cd0 lim h ad cd H locs → retI ret r i → decode cc pc = .ok (i, 1) → W p l e R s m args below meth c H locs (h.2.2.2.1 - h0.2.2.2.1) (h.2.2.2.2 - h0.2.2.2.2) Qz (F0 m pc lsM ((r.map (conc ad)).toList))
/-- the law's script, where there is one -/
def Sx (s : State) (A : Nat → Prop) (b L : Nat) (xs : Nat → Int32) : Prop := va_X b L xs s s.heap ∧ b < s.heap.size ∧ ¬ A b
def Snd (cc : ByteArray) (nL : Nat) (own : String) (ret : Option FieldType) (nm : String) (pc : Nat) (o : Op) : Prop := ∀ (p : Program) (l : Launch) (e : Env) (R : Room) (s : State) (m : MethodId) (args : Array Value) (below : List Frame) (meth : Method) (c : Code) (D : va_G) (A : Nat → Prop) (h0 : Mm) (ad0 : Nat → Nat) (cd0 : Nat → ClassId) (lim : Nat × Nat) (Qz : State → Prop) (d : Nat) (K : Km) (Q : Qm) (c0 : Cond), Cx cc nL own ret nm d p s m args meth c R D A h0 lim c0 → KS l d K → EndOK cc ret p l e R s m args below meth c D A h0 ad0 cd0 lim Qz Q → ∀ (ls st : List Value) (h : Mm), o.1 K Q lim (Wm p l e R s m args below meth c nL D A h0 ad0 cd0 lim Qz) pc ls st h → Wm p l e R s m args below meth c nL D A h0 ad0 cd0 lim Qz pc ls st h
theorem Snd_ite {cc : ByteArray} {nL : Nat} {own : String} {ret : Option FieldType} {nm : String} {pc : Nat} {q : Prop} {i : Decidable q} {a b : Op} (ha : Snd cc nL own ret nm pc a) (hb : Snd cc nL own ret nm pc b) : Snd cc nL own ret nm pc (@ite Op q i a b) := by
  by_cases h : q
  · rw [if_pos h]; exact ha
  · rw [if_neg h]; exact hb
theorem Snd_F {cc : ByteArray} {nL : Nat} {own : String} {ret : Option FieldType} {nm : String} {pc : Nat} : Snd cc nL own ret nm pc oF := by
  intro p l e R s m args below meth c D A h0 ad0 cd0 lim Qz d K Q c0 C hK hE ls st h w
  exact w.elim
theorem Snd_at {cc : ByteArray} {nL : Nat} {own : String} {ret : Option FieldType} {nm : String} {pc k : Nat} {o : Op} (h : Snd cc nL own ret nm k o) : Snd cc nL own ret nm pc (if pc = k then o else oF) := by
  by_cases e : pc = k
  · rw [if_pos e, e]; exact h
  · rw [if_neg e]; exact Snd_F
theorem pI_x {st : List Value} {f : Int32 → List Value → Prop} (h : pI st f) : ∃ x s2, st = .int x :: s2 ∧ f x s2 := by
  unfold pI at h
  split at h
  · exact ⟨_, _, rfl, h⟩
  · exact h.elim
theorem pL_x {st : List Value} {f : Int64 → List Value → Prop} (h : pL st f) : ∃ x s2, st = .long x :: s2 ∧ f x s2 := by
  unfold pL at h
  split at h
  · exact ⟨_, _, rfl, h⟩
  · exact h.elim
theorem pR_x {st : List Value} {f : Nat → List Value → Prop} (h : pR st f) : ∃ x s2, st = .ref x :: s2 ∧ f x s2 := by
  unfold pR at h
  split at h
  · exact ⟨_, _, rfl, h⟩
  · exact h.elim
theorem p1_x {st : List Value} {f : Value → List Value → Prop} (h : p1 st f) : ∃ x s2, st = x :: s2 ∧ x.category = 1 ∧ f x s2 := by
  unfold p1 at h
  split at h
  · exact ⟨_, _, rfl, rfl, h⟩
  · exact ⟨_, _, rfl, rfl, h⟩
  · exact h.elim
theorem pE_x {st : List Value} {p : Prop} (h : pE st p) : st = [] ∧ p := by
  unfold pE at h
  split at h
  · exact ⟨rfl, h⟩
  · exact h.elim
theorem gI_x {o : Option Value} {f : Int32 → Prop} (h : gI o f) : ∃ x, o = some (.int x) ∧ f x := by
  unfold gI at h
  split at h
  · exact ⟨_, rfl, h⟩
  · exact h.elim
theorem gL_x {o : Option Value} {f : Int64 → Prop} (h : gL o f) : ∃ x, o = some (.long x) ∧ f x := by
  unfold gL at h
  split at h
  · exact ⟨_, rfl, h⟩
  · exact h.elim
theorem gR_x {o : Option Value} {f : Nat → Prop} (h : gR o f) : ∃ x, o = some (.ref x) ∧ f x := by
  unfold gR at h
  split at h
  · exact ⟨_, rfl, h⟩
  · exact h.elim
theorem pN_x {f : List Value → List Value → Prop} : ∀ (n : Nat) (a st : List Value), pN n a st f → ∃ b s2, st = b.reverse ++ s2 ∧ b.length = n ∧ f (b ++ a) s2
  | 0, a, st, h => ⟨[], st, rfl, rfl, h⟩
  | _ + 1, _, [], h => h.elim
  | n + 1, a, v :: st, h => by
    obtain ⟨b, s2, h1, h2, h3⟩ := pN_x n (v :: a) st h
    exact ⟨b ++ [v], s2, by rw [h1]; simp, by simp [h2], by simpa using h3⟩
theorem rl_x {p : Prop} : ∀ (n : Nat) (st : List Value), rl n st p → st.length ≤ n ∧ p
  | 0, [], h => ⟨Nat.le_refl _, h⟩
  | n + 1, [], h => ⟨Nat.zero_le _, h⟩
  | 0, _ :: _, h => h.elim
  | n + 1, _ :: st, h => by
    obtain ⟨h1, h2⟩ := rl_x n st h
    exact ⟨by simp; exact h1, h2⟩
theorem cat_le (st : List Value) : (st.map fun v => v.category).sum ≤ 2 * st.length := by
  induction st with
  | nil => simp
  | cons v st ih =>
    have : v.category ≤ 2 := by cases v <;> simp [Value.category]
    simp only [List.map_cons, List.sum_cons, List.length_cons]
    omega
