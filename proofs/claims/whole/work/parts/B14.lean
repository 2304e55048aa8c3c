/-! Network: the network as it grows -/
theorem cls4_t {g : Nat → Int32} {q : Nat} {a b c e : Int32} (hq : qOk q) : ∀ k, k < 4 → cls4 g q a b c e k = nI (cl4 q a b c e / q ^ (3 - k) % q) := by
  obtain ⟨h0, h1, h2, h3⟩ := pt_t (a := a) (b := b) (c := c) (e := e) hq
  intro k hk
  unfold cls4
  match k, hk with
  | 0, _ => rw [q4_0, h0]
  | 1, _ => rw [q4_1, h1]
  | 2, _ => rw [q4_2, h2]
  | 3, _ => rw [q4_3, h3]
