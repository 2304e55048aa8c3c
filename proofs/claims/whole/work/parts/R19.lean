/-! the reference's measure: how far all nodes are from one -/
def gD (I : Nat → Nat → Int32) (f g : Nat → Int32) : Nat → Nat → Int32 := fun z => if z = 477 then f else if z = 478 then g else I z
theorem gD_77 {I : Nat → Nat → Int32} {f g : Nat → Int32} : gD I f g 477 = f := rfl
theorem gD_78 {I : Nat → Nat → Int32} {f g : Nat → Int32} : gD I f g 478 = g := rfl
theorem gD_o {I : Nat → Nat → Int32} {f g : Nat → Int32} {z : Nat} (h : ¬ z = 477) (h2 : ¬ z = 478) : gD I f g z = I z := by
  unfold gD
  rw [if_neg h, if_neg h2]
theorem gD_w77 {I : Nat → Nat → Int32} {f g h : Nat → Int32} : wA (gD I f g) 477 h = gD I h g := by
  funext z
  unfold wA gD
  by_cases e : z = 477
  · rw [if_pos e, if_pos e]
  · rw [if_neg e, if_neg e, if_neg e]
theorem gD_w78 {I : Nat → Nat → Int32} {f g h : Nat → Int32} : wA (gD I f g) 478 h = gD I f h := by
  funext z
  unfold wA gD
  by_cases e : z = 478
  · subst e; rfl
  · rw [if_neg e]
    split
    · rfl
    · rfl
theorem gD_id {I : Nat → Nat → Int32} : gD I (I 477) (I 478) = I := by
  funext z
  unfold gD
  by_cases e : z = 477
  · rw [if_pos e, e]
  · by_cases e2 : z = 478
    · rw [if_neg e, if_pos e2, e2]
    · rw [if_neg e, if_neg e2]
def cntB (f : Nat → Bool) : Nat → Nat
  | 0 => 0
  | n + 1 => if f n = true then cntB f n + 1 else cntB f n
theorem cntB_le {f : Nat → Bool} : ∀ n, cntB f n ≤ n
  | 0 => Nat.le_refl 0
  | n + 1 => by
    have := cntB_le (f := f) n
    unfold cntB
    split <;> omega
theorem cntB_lt {f : Nat → Bool} {m : Nat} (hm : f m = false) : ∀ n, m < n → cntB f n < n
  | 0, h => absurd h (Nat.not_lt_zero m)
  | n + 1, h => by
    have h1 := cntB_le (f := f) n
    unfold cntB
    by_cases e : m = n
    · subst e
      rw [if_neg (by rw [hm]; decide)]
      omega
    · have := cntB_lt hm n (by omega)
      split <;> omega
def vup (f : Nat → Bool) (m : Nat) : Nat → Bool := fun n => if n = m then true else f n
theorem vuq_s {f : Nat → Bool} {m : Nat} : vup f m m = true := if_pos rfl
theorem vuq_n {f : Nat → Bool} {m n : Nat} (h : ¬ n = m) : vup f m n = f n := if_neg h
theorem vuq_t {f : Nat → Bool} {m n : Nat} (h : f n = true) : vup f m n = true := by
  unfold vup
  split
  · rfl
  · exact h
theorem cntB_q {f g : Nat → Bool} : ∀ n, (∀ k, k < n → f k = g k) → cntB f n = cntB g n
  | 0, _ => rfl
  | n + 1, h => by
    unfold cntB
    rw [h n (by omega), cntB_q n fun k hk => h k (by omega)]
theorem cntB_u {f : Nat → Bool} {m : Nat} (hm : f m = false) : ∀ n, m < n → cntB (vup f m) n = cntB f n + 1
  | 0, h => absurd h (Nat.not_lt_zero m)
  | n + 1, h => by
    by_cases e : m = n
    · subst e
      have h1 := cntB_q (f := vup f m) (g := f) m fun k hk => vuq_n (by omega)
      unfold cntB
      rw [vuq_s, if_pos rfl, hm, if_neg (by decide), h1]
    · have ih := cntB_u hm n (by omega)
      unfold cntB
      rw [vuq_n (fun q => e q.symm), ih]
      split <;> rfl
/-- what a distance is -/
def DI (x fr : Nat) (D : Nat → Nat) : Prop := D fr = 0 ∧ (∀ m, m < nN x → D m ≤ 400) ∧ (∀ m t, m < nN x → t < sN x → D (tgX x m t) ≤ D m + 1) ∧ ∀ m, m < nN x → ¬ m = fr → ∃ m' t, m' < nN x ∧ t < sN x ∧ tgX x m' t = m ∧ D m = D m' + 1
/-- nodes behind k others are done, and the first t steps of node k of the row -/
def BV (x fr : Nat) (D : Nat → Nat) (k t c : Nat) (q : Nat → Nat) (vis : Nat → Bool) : Prop := (∀ i, i < c → q i < nN x ∧ vis (q i) = true) ∧ (∀ v, vis v = true → v < nN x ∧ ∃ i, i < c ∧ q i = v) ∧ (∀ i j, i ≤ j → j < c → D (q i) ≤ D (q j)) ∧ (k < c → ∀ j, j < c → D (q j) ≤ D (q k) + 1) ∧ (∀ i u, i < c → u < sN x → (i < k ∨ (i = k ∧ u < t)) → vis (tgX x (q i) u) = true) ∧ (k < c → ∀ v, v < nN x → D v ≤ D (q k) → vis v = true) ∧ c = cntB vis (nN x) ∧ vis fr = true
def qup (q : Nat → Nat) (c m : Nat) : Nat → Nat := fun i => if i = c then m else q i
theorem qup_s {q : Nat → Nat} {c m : Nat} : qup q c m c = m := if_pos rfl
theorem qup_n {q : Nat → Nat} {c m i : Nat} (h : ¬ i = c) : qup q c m i = q i := if_neg h
theorem BV_old {x fr k t c : Nat} {D q : Nat → Nat} {vis : Nat → Bool} (hk : k < c) (h : BV x fr D k t c q vis) (hv : vis (tgX x (q k) t) = true) : BV x fr D k (t + 1) c q vis := by
  obtain ⟨h1, h2, h3, h4, h5, h6, h7, h8⟩ := h
  refine ⟨h1, h2, h3, h4, fun i u hi hu hd => ?_, h6, h7, h8⟩
  by_cases e : i = k ∧ u = t
  · obtain ⟨rfl, rfl⟩ := e
    exact hv
  · exact h5 i u hi hu (by omega)
theorem BV_new {x fr k t c : Nat} {D q : Nat → Nat} {vis : Nat → Bool} (hx : x < 11) (hD : DI x fr D) (hk : k < c) (ht : t < sN x) (h : BV x fr D k t c q vis) (hv : vis (tgX x (q k) t) = false) : D (tgX x (q k) t) = D (q k) + 1 ∧ c < nN x ∧ BV x fr D k (t + 1) (c + 1) (qup q c (tgX x (q k) t)) (vup vis (tgX x (q k) t)) := by
  obtain ⟨d0, d4, d1, d2⟩ := hD
  obtain ⟨h1, h2, h3, h4, h5, h6, h7, h8⟩ := h
  have hq := (h1 k hk).1
  have hm := tg_lt hx hq ht
  have e1 := d1 (q k) t hq ht
  have e2 : D (tgX x (q k) t) = D (q k) + 1 := by
    by_cases hl : D (tgX x (q k) t) ≤ D (q k)
    · have := h6 hk _ hm hl
      rw [hv] at this
      cases this
    · omega
  generalize hg : tgX x (q k) t = m at *
  have hc : c < nN x := by rw [h7]; exact cntB_lt hv _ hm
  refine ⟨e2, hc, fun i hi => ?_, fun v hvv => ?_, fun i j hij hj => ?_, fun hk2 j hj => ?_, fun i u hi hu hd => ?_, fun hk2 v hvn hl => ?_, ?_, vuq_t h8⟩
  · by_cases e : i = c
    · subst e
      rw [qup_s]
      exact ⟨hm, vuq_s⟩
    · rw [qup_n e]
      exact ⟨(h1 i (by omega)).1, vuq_t (h1 i (by omega)).2⟩
  · by_cases e : v = m
    · subst e
      exact ⟨hm, c, by omega, qup_s⟩
    · rw [vuq_n e] at hvv
      obtain ⟨a, i, hi, ei⟩ := h2 v hvv
      exact ⟨a, i, by omega, by rw [qup_n (by omega)]; exact ei⟩
  · by_cases e : j = c
    · subst e
      rw [qup_s]
      by_cases e3 : i = j
      · subst e3
        rw [qup_s]
        exact Nat.le_refl _
      · rw [qup_n e3, e2]
        exact h4 hk i (by omega)
    · rw [qup_n e, qup_n (by omega)]
      exact h3 i j hij (by omega)
  · rw [qup_n (show ¬ k = c by omega)]
    by_cases e : j = c
    · subst e
      rw [qup_s, e2]
      exact Nat.le_refl _
    · rw [qup_n e]
      exact h4 hk j (by omega)
  · by_cases e : i = c
    · omega
    · rw [qup_n e]
      by_cases e3 : i = k ∧ u = t
      · obtain ⟨rfl, rfl⟩ := e3
        rw [hg]
        exact vuq_s
      · exact vuq_t (h5 i u (by omega) hu (by omega))
  · rw [qup_n (show ¬ k = c by omega)] at hl
    exact vuq_t (h6 hk v hvn hl)
  · rw [cntB_u hv _ hm, h7]
theorem BV_next {x fr k c : Nat} {D q : Nat → Nat} {vis : Nat → Bool} (hD : DI x fr D) (hk : k < c) (h : BV x fr D k (sN x) c q vis) : BV x fr D (k + 1) 0 c q vis := by
  obtain ⟨d0, d4, d1, d2⟩ := hD
  obtain ⟨h1, h2, h3, h4, h5, h6, h7, h8⟩ := h
  refine ⟨h1, h2, h3, fun hk2 j hj => ?_, fun i u hi hu hd => h5 i u hi hu (by omega), fun hk2 v hvn hl => ?_, h7, h8⟩
  · have := h4 hk j hj
    have := h3 k (k + 1) (by omega) hk2
    omega
  · by_cases hl2 : D v ≤ D (q k)
    · exact h6 hk v hvn hl2
    · have e1 := h4 hk (k + 1) hk2
      obtain ⟨m', t, hm', ht, et, ed⟩ := d2 v hvn (fun q => by subst q; omega)
      obtain ⟨-, i, hi, ei⟩ := h2 m' (h6 hk m' hm' (by omega))
      subst ei
      rw [← et]
      by_cases hik : i ≤ k
      · exact h5 i t hi ht (by omega)
      · have := h3 (k + 1) i (by omega) hi
        omega
theorem BV_end {x fr c : Nat} {D q : Nat → Nat} {vis : Nat → Bool} (hD : DI x fr D) (h : BV x fr D c 0 c q vis) : ∀ e v, v < nN x → D v ≤ e → vis v = true := by
  obtain ⟨d0, d4, d1, d2⟩ := hD
  obtain ⟨h1, h2, h3, h4, h5, h6, h7, h8⟩ := h
  intro e
  induction e with
  | zero =>
    intro v hv hd
    by_cases ev : v = fr
    · rw [ev]; exact h8
    · obtain ⟨m', t, hm', ht, et, ed⟩ := d2 v hv ev
      omega
  | succ e ih =>
    intro v hv hd
    by_cases ev : v = fr
    · rw [ev]; exact h8
    · obtain ⟨m', t, hm', ht, et, ed⟩ := d2 v hv ev
      obtain ⟨-, i, hi, ei⟩ := h2 m' (ih m' hm' (by omega))
      subst ei
      rw [← et]
      exact h5 i t hi ht (Or.inl hi)
