/-! new int[3][40] -/
theorem sd_new3 {cc : ByteArray} {nL : Nat} {own : String} {ret : Option FieldType} {nm : String} {pc : Nat} (i : Nat) (hl : Cond.classLink own i "[[I" ∈ TT) (ha : Cond.arrayClass .int ∈ TT) (hdg : decode cc pc = .ok (.multianewarray i 2, 4)) : Snd cc nL own ret nm pc oNew3 := by
  sorry
