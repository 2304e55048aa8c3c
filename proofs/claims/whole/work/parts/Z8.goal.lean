/-! the law, over the abstract machine -/
def hp0 : Mm := (fun _ _ => 0, fun _ _ => 0, fun _ _ => none, 0, 0)
theorem lawGoal : ∀ (b L : Nat) (xs : Nat → Int32), L ≤ 3072 → WP (Call 1000) (kLaw b L xs) (600000, 7302250) (fun r _ => r = some (.int 1)) 0 [.retAddr b, .null, .null, .null] [] hp0 := by
  sorry
