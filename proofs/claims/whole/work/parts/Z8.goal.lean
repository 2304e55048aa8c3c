/-! the law, over the abstract machine -/
theorem lawGoal : ∀ (b L : Nat) (xs : Nat → Int32), L ≤ 3072 → WP (Call 1000) (kLaw b L xs) (600000, 7302250) (fun r _ => r = some (.int 1)) 0 [.retAddr b, .null, .null, .null] [] hp0 := fun b L xs hL =>
  law_start (d := 600) fun I P s hR => law_loop (d := 600) allCS hL (fun _ => rfl) (L + 1) 0 (by omega) (by omega) (by omega) 0 I (fun _ _ => 0) P hR
