/-! a method's contract out of its instructions; all calls, to any depth -/
theorem lg_len {ad : Nat → Nat} : ∀ a : List Value, (lg_sl (a.map (conc ad))).length = (lg_sl a).length
  | [] => rfl
  | v :: a => by
    have ih := lg_len (ad := ad) a
    unfold lg_sl at ih ⊢
    simp only [List.map_cons, List.flatMap_cons, List.length_append, conc_cat, ih]
    split <;> rfl
theorem ini_len : ∀ a : List Value, (∀ v ∈ a, (∃ x, v = .int x) ∨ (∃ x, v = .long x) ∨ ∃ x, v = .ref x) → (iniA a).length = (lg_sl a).length
  | [], _ => rfl
  | v :: a, h => by
    have ih := ini_len a (fun w hw => h w (List.mem_cons_of_mem _ hw))
    unfold lg_sl at ih ⊢
    rcases h v List.mem_cons_self with ⟨x, rfl⟩ | ⟨x, rfl⟩ | ⟨x, rfl⟩
    · simp only [iniA, List.length_cons, List.flatMap_cons, List.length_append, ih, Value.category]
      simp
    · simp only [iniA, List.length_cons, List.flatMap_cons, List.length_append, ih, Value.category]
      simp
      omega
    · simp only [iniA, List.length_cons, List.flatMap_cons, List.length_append, ih, Value.category]
      simp
