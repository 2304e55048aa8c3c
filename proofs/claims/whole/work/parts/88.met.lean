/-! a method's contract out of its instructions; all calls, to any depth -/
theorem ini_len {ad : Nat → Nat} : ∀ a : List Value, (lg_sl (a.map (conc ad))).length = (iniA a).length
  | [] => rfl
  | v :: a => by
    have ih := ini_len (ad := ad) a
    have e : lg_sl ((v :: a).map (conc ad)) = (if (conc ad v).category = 2 then [.val (conc ad v), .second] else [.val (conc ad v)]) ++ lg_sl (a.map (conc ad)) := by
      unfold lg_sl
      rw [List.map_cons, List.flatMap_cons]
    rw [e, List.length_append, ih]
    cases v <;> simp [iniA, conc, Value.category] <;> omega
theorem ini_sub {ad : Nat → Nat} : ∀ (a : List Value) (i : Nat), ∀ q ∈ lvA ad i (iniA a), q ∈ lv_args i (a.map (conc ad))
  | [], i, q, h => by simp [iniA, lvA] at h
  | v :: a, i, q, h => by
    have ih := ini_sub (ad := ad) a
    have e : lv_args i ((v :: a).map (conc ad)) = (i, conc ad v) :: lv_args (if (conc ad v).category = 2 then i + 2 else i + 1) (a.map (conc ad)) := rfl
    rw [e]
    cases v <;> simp only [iniA, lvA, conc, Value.category, if_true, if_false, reduceCtorEq, List.mem_cons] at h ⊢ <;> first | exact h.elim Or.inl (fun z => Or.inr (ih _ _ z)) | exact Or.inr (ih _ _ h)
theorem lvA_app {ad : Nat → Nat} (n : Nat) : ∀ (a : List Value) (i : Nat), lvA ad i (a ++ List.replicate n .null) = lvA ad i a
  | [], i => by
    show lvA ad i (List.replicate n .null) = []
    induction n generalizing i with
    | zero => rfl
    | succ n ih =>
      rw [List.replicate_succ]
      unfold lvA
      rw [if_pos rfl]
      exact ih _
  | v :: a, i => by
    rw [List.cons_append]
    unfold lvA
    rw [lvA_app n a]
theorem iniv_ok {h : Mm} : ∀ a : List Value, (∀ v ∈ a, okV h v) → ∀ v ∈ iniA a, okV h v
  | [], _, v, hv => by simp [iniA] at hv
  | w :: a, ha, v, hv => by
    have ih := iniv_ok a (fun v hv => ha v (List.mem_cons_of_mem _ hv))
    have hw := ha w List.mem_cons_self
    cases w <;> simp only [iniA, List.mem_cons] at hv <;> first | (rcases hv with rfl | rfl | hv <;> first | exact hw | exact okV_n | exact ih _ hv) | (rcases hv with rfl | hv <;> first | exact hw | exact ih _ hv)
/-- the end of a method of ours -/
theorem end_ok {y : Nat} {p : Program} {l : Launch} {e : Env} {R : Room} {s : State} {m : MethodId} {args : Array Value} {below : List Frame} {meth : Method} {c : Code} {D : va_G} {h0 : Mm} {ad0 : Nat → Nat} {cd0 : Nat → ClassId} {cs : Nat × Nat} {Q : Qm} (hx : p.tables.exec = Jvm.exec) (hb : c.code = mB y) (hrt : meth.sig.returnType = mR y) (hlk : meth.locks = false) : EndOK (mB y) (mR y) p l e R s m args below meth c D (va_A (wd ad0 cd0 h0) s.heap.size) h0 ad0 cd0 (h0.2.2.2.1 + cs.1, h0.2.2.2.2 + cs.2) (MQ below (Qc1 D ad0 cd0 s.heap.size h0 (fun r h2 => Q r h2 ∧ h2.2.2.2.1 = h0.2.2.2.1 + cs.1 ∧ h2.2.2.2.2 = h0.2.2.2.2 + cs.2)) args s cs.1 cs.2 (va_A (wd ad0 cd0 h0) s.heap.size)) (endQ (h0.2.2.2.1 + cs.1) (h0.2.2.2.2 + cs.2) Q) := by
  intro r h ad cd H locs pc lsM i hQ hok iv hri hdg
  obtain ⟨⟨hn, hs⟩, hQ⟩ := hQ
  obtain ⟨⟨hP, hD, hKO, hWf⟩, hS, hadd, hmn, hlim⟩ := iv
  have e1 : h.2.2.2.1 - h0.2.2.2.1 = cs.1 := by omega
  have e2 : h.2.2.2.2 - h0.2.2.2.2 = cs.2 := by omega
  rw [e1, e2]
  have hq : ∀ t : State, t.heap = H → s.WarmedH t.vm → Qc1 D ad0 cd0 s.heap.size h0 (fun r h2 => Q r h2 ∧ h2.2.2.2.1 = h0.2.2.2.1 + cs.1 ∧ h2.2.2.2.2 = h0.2.2.2.2 + cs.2) args s (.returned (r.map (conc ad))) t := fun t ht hW => ⟨⟨r, ad, cd, h, rfl, ⟨hQ, hn, hs⟩, hok, hadd, hmn.1, hmn.2, by rw [ht]; exact hP, hD, hKO.moved hW.alike, hWf⟩, hS.F ht⟩
  rcases hri with ⟨x, rfl, rfl, hr⟩ | ⟨x, rfl, rfl, hr⟩ | ⟨a, rfl, rfl, rt, hr, hr2⟩ | ⟨rfl, rfl, hr⟩
  · rcases hr with hr | ⟨hr, hz⟩
    · exact W.iret (v := x) hx hb (hrt.trans hr) hq hS.2.2 hdg hlk
    · exact W.zret (v := x) hx hb (hrt.trans hr) (by rcases hz with rfl | rfl <;> rfl) hq hS.2.2 hdg hlk
  · exact W.lret (v := x) hx hb (hrt.trans hr) hq hS.2.2 hdg hlk
  · exact W.aret (v := .ref (ad a)) hx hb (hrt.trans hr) hr2 (Or.inr ⟨_, rfl⟩) hq hS.2.2 hdg hlk
  · exact W.vret hx hb (hrt.trans hr) hq hS.2.2 hdg hlk
/-- a method's contract, one level above the calls' -/
theorem met_of {l : Launch} {d y : Nat} {a : List Value} {h : Mm} {Q : Qm} {D : va_G} {ad : Nat → Nat} {cd : Nat → ClassId} {sz : Nat} (hy : y < 225) (hK : KS l d (Call d)) (hS : ∀ pc, Snd (mB y) (mL y) (mN y).cls (mR y) (mN y).name pc (kod y pc)) (hc : Call (d + 1) y a h Q) (ha : ∀ v ∈ a, okV h v) : Met l (mN y) (WS y) (rmd (d + 1) (cost y a)) (Pc1 D ad cd sz a h) (Qc1 D ad cd sz h (fun r h2 => Q r h2 ∧ h2.2.2.2.1 = h.2.2.2.1 + (cost y a).1 ∧ h2.2.2.2.2 = h.2.2.2.2 + (cost y a).2)) (cost y a).1 (cost y a).2 (va_A (wd ad cd h) sz) := by
  obtain ⟨hlen, hw⟩ := hc
  refine va_MetF (cc := mB y) (maxL := mL y) (ret := mR y) (pf_ok y hy) rfl ?_
  intro p e s m args below meth c s₁ B hml hv
  obtain ⟨rfl, hsz, ⟨hP, hD0, hKO, hWf⟩, hKK, hxk⟩ := hv
  subst hsz
  have hl := lv_entry (a.map (conc ad)) (n := mL y) (by rw [ini_len]; exact hlen)
  rw [lg_entry_eq]
  generalize ((lg_sl (a.map (conc ad)) ++ List.replicate (mL y - (lg_sl (a.map (conc ad))).length) Slot.unset).toArray) = lsM at hl ⊢
  have C : Cx (mB y) (mL y) (mN y).cls (mR y) (mN y).name d p s m (a.map (conc ad)).toArray meth c (headSpec (WS y) (rmd (d + 1) (cost y a))).room D (va_A (wd ad cd h) s.heap.size) h (h.2.2.2.1 + (cost y a).1, h.2.2.2.2 + (cost y a).2) (Cond.code (mN y) (mB y) (mL y) (mR y)) := ⟨B.exec, B.bytes, hml, findClass_of_methodNamed B.named, atoms_spec (ws := WS y) B.pre, B.returns, B.notSynchronized, (name_of_methodNamed B.named B.method).1, hxk, hKK, fun q hq => Or.inr hq, by
    refine ⟨?_, ?_, Nat.le_refl _, Nat.le_refl _⟩
    · show h.2.2.2.1 + (cost y a).1 - h.2.2.2.1 ≤ (cost y a).1
      omega
    · show h.2.2.2.2 + (cost y a).2 - h.2.2.2.2 ≤ (cost y a).2
      omega⟩
  have z := hw (Wm p l e (headSpec (WS y) (rmd (d + 1) (cost y a))).room s m (a.map (conc ad)).toArray below meth c (mL y) D (va_A (wd ad cd h) s.heap.size) h ad cd (h.2.2.2.1 + (cost y a).1, h.2.2.2.2 + (cost y a).2) (MQ below (Qc1 D ad cd s.heap.size h (fun r h2 => Q r h2 ∧ h2.2.2.2.1 = h.2.2.2.1 + (cost y a).1 ∧ h2.2.2.2.2 = h.2.2.2.2 + (cost y a).2)) (a.map (conc ad)).toArray s (cost y a).1 (cost y a).2 (va_A (wd ad cd h) s.heap.size))) (fun pc ls st h1 w => hS pc p l e _ s m _ below meth c D _ h ad cd _ _ d (Call d) _ _ C hK (end_ok B.exec B.bytes B.returns B.notSynchronized) ls st h1 w) ad cd s.heap [] lsM ⟨⟨hP, hD0.self, hKO, hWf⟩, va_S.rf, fun _ _ => ⟨rfl, rfl⟩, ⟨Nat.le_refl _, Nat.le_refl _⟩, Nat.le_add_right _ _, Nat.le_add_right _ _⟩ (lv_weak (by
    unfold iniL
    rw [lvA_app]
    exact ini_sub a 0) hl) (by unfold iniL; rw [List.length_append, List.length_replicate]; omega) (by
    unfold iniL
    intro v hv
    rcases List.mem_append.mp hv with q | q
    · exact iniv_ok a ha v q
    · rw [List.eq_of_mem_replicate q]
      exact okV_n) (fun v hv => by cases hv)
  rw [Nat.sub_self, Nat.sub_self] at z
  exact z
theorem KS_0 {l : Launch} : KS l 0 (Call 0) := fun _ _ _ _ _ _ _ _ _ h _ => h.elim
theorem KS_s {l : Launch} (hS : ∀ y, y < 225 → ∀ pc, Snd (mB y) (mL y) (mN y).cls (mR y) (mN y).name pc (kod y pc)) : ∀ d, KS l d (Call d)
  | 0 => KS_0
  | d + 1 => fun y _ _ _ _ _ _ _ hy hc ha => met_of hy (KS_s hS d) (hS y hy) hc ha
