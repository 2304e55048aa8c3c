/-! the abstract machine is the machine: the picture of a memory as the kit's world; what a state of the walk is; every kind of instruction is sound -/
def conc (ad : Nat → Nat) (v : Value) : Value := match v with
  | .ref a => .ref (ad a)
  | .retAddr b => .ref b
  | v => v
theorem conc_cat {ad : Nat → Nat} {v : Value} : (conc ad v).category = v.category := by cases v <;> rfl
theorem conc_rf {ad : Nat → Nat} {o : Option Nat} : conc ad (va_rf o) = va_rf (o.map ad) := by cases o <;> rfl
theorem conc_sum {ad : Nat → Nat} : ∀ st : List Value, ((st.map (conc ad)).map fun v => v.category).sum = (st.map fun v => v.category).sum
  | [] => rfl
  | v :: st => by
    simp only [List.map_cons, List.sum_cons, conc_cat]
    rw [conc_sum st]
def flds (ad : Nat → Nat) (h : Mm) (ci a : Nat) : List Value := (List.range (nf ci)).map fun k => if fk ci k = 3 then va_rf ((h.2.2.1 a k).map ad) else .int (h.1 a k)
def arrE (ad : Nat → Nat) (h : Mm) (a : Nat) : vp_A := (ln a, if kd a = 10 then .inl (h.1 a) else if kd a = 11 then .inr (.inl (h.2.1 a)) else .inr (.inr (.inr (.inr fun j => (h.2.2.1 a j).map ad))))
def ent (ad : Nat → Nat) (cd : Nat → ClassId) (h : Mm) (a : Nat) : va_E := if kd a < 9 then .inr (kd a, flds ad h (kd a) a) else .inl (cd a, arrE ad h a)
def wd (ad : Nat → Nat) (cd : Nat → ClassId) (h : Mm) : va_W := (List.range h.2.2.2.1).map fun a => (ad a, ent ad cd h a)
theorem wd_len {ad : Nat → Nat} {cd : Nat → ClassId} {h : Mm} : (wd ad cd h).length = h.2.2.2.1 := by simp [wd]
theorem wd_at {ad : Nat → Nat} {cd : Nat → ClassId} {h : Mm} {a : Nat} (ha : a < h.2.2.2.1) : (wd ad cd h)[a]? = some (ad a, ent ad cd h a) := by
  unfold wd
  rw [List.getElem?_map, List.getElem?_range ha]
  rfl
theorem wd_no {ad : Nat → Nat} {cd : Nat → ClassId} {h : Mm} {a : Nat} (ha : ¬ a < h.2.2.2.1) : (wd ad cd h)[a]? = none := by
  rw [List.getElem?_eq_none]
  rw [wd_len]
  omega
theorem wd_set {ad : Nat → Nat} {cd : Nat → ClassId} {h h' : Mm} {a : Nat} {e : va_E} (hn : h'.2.2.2.1 = h.2.2.2.1) (he : ent ad cd h' a = e) (ho : ∀ b, ¬ b = a → ent ad cd h' b = ent ad cd h b) : (wd ad cd h).set a (ad a, e) = wd ad cd h' := by
  apply List.ext_getElem?
  intro i
  rw [List.getElem?_set]
  by_cases hi : i < h.2.2.2.1
  · rw [wd_at (h := h') (by rw [hn]; exact hi)]
    by_cases h1 : a = i
    · subst h1
      rw [if_pos rfl, if_pos (by rw [wd_len]; exact hi), he]
    · rw [if_neg h1, wd_at hi, ho i (fun q => h1 q.symm)]
  · rw [wd_no (h := h') (by rw [hn]; exact hi)]
    by_cases h1 : a = i
    · subst h1
      rw [if_pos rfl, if_neg (by rw [wd_len]; exact hi)]
    · rw [if_neg h1, wd_no hi]
theorem wd_push {ad ad' : Nat → Nat} {cd cd' : Nat → ClassId} {h h' : Mm} {q : Nat} {e : va_E} (hn : h'.2.2.2.1 = h.2.2.2.1 + 1) (ha : ad' h.2.2.2.1 = q) (he : ent ad' cd' h' h.2.2.2.1 = e) (ho : ∀ b, b < h.2.2.2.1 → ad' b = ad b ∧ ent ad' cd' h' b = ent ad cd h b) : wd ad cd h ++ [(q, e)] = wd ad' cd' h' := by
  apply List.ext_getElem?
  intro i
  by_cases hi : i < h.2.2.2.1
  · rw [List.getElem?_append_left (by rw [wd_len]; exact hi), wd_at hi, wd_at (by omega), (ho i hi).1, (ho i hi).2]
  · rw [List.getElem?_append_right (by rw [wd_len]; omega), wd_len]
    by_cases h1 : i = h.2.2.2.1
    · subst h1
      rw [wd_at (by omega), Nat.sub_self, ha, he]
      rfl
    · rw [wd_no (by omega), List.getElem?_eq_none]
      simp
      omega
theorem ent_ob {ad : Nat → Nat} {cd : Nat → ClassId} {h : Mm} {a ci : Nat} (hk : kd a = ci) (hc : ci < 9) : ent ad cd h a = .inr (ci, flds ad h ci a) := by
  unfold ent
  rw [hk, if_pos hc]
theorem ent_ar {ad : Nat → Nat} {cd : Nat → ClassId} {h : Mm} {a : Nat} (hk : 9 ≤ kd a) : ent ad cd h a = .inl (cd a, arrE ad h a) := by
  unfold ent
  rw [if_neg (by omega)]
theorem arrE_i {ad : Nat → Nat} {h : Mm} {a : Nat} (hk : kd a = 10) : arrE ad h a = (ln a, .inl (h.1 a)) := by
  unfold arrE
  rw [if_pos hk]
theorem arrE_l {ad : Nat → Nat} {h : Mm} {a : Nat} (hk : kd a = 11) : arrE ad h a = (ln a, .inr (.inl (h.2.1 a))) := by
  unfold arrE
  rw [if_neg (by omega), if_pos hk]
theorem arrE_r {ad : Nat → Nat} {h : Mm} {a : Nat} (hk : 12 ≤ kd a) : arrE ad h a = (ln a, .inr (.inr (.inr (.inr fun j => (h.2.2.1 a j).map ad)))) := by
  unfold arrE
  rw [if_neg (by omega), if_neg (by omega)]
theorem flds_at {ad : Nat → Nat} {h : Mm} {ci a k : Nat} (hk : k < nf ci) : (flds ad h ci a)[k]? = some (if fk ci k = 3 then va_rf ((h.2.2.1 a k).map ad) else .int (h.1 a k)) := by
  unfold flds
  rw [List.getElem?_map, List.getElem?_range hk]
  rfl
theorem flds_len {ad : Nat → Nat} {h : Mm} {ci a : Nat} : (flds ad h ci a).length = nf ci := by simp [flds]
theorem flds_set {ad : Nat → Nat} {h h' : Mm} {ci a k : Nat} {v : Value} (hv : (if fk ci k = 3 then va_rf ((h'.2.2.1 a k).map ad) else .int (h'.1 a k)) = v) (ho : ∀ j, ¬ j = k → h'.1 a j = h.1 a j ∧ h'.2.2.1 a j = h.2.2.1 a j) : (flds ad h ci a).set k v = flds ad h' ci a := by
  apply List.ext_getElem?
  intro i
  rw [List.getElem?_set]
  by_cases hi : i < nf ci
  · rw [flds_at (h := h') hi]
    by_cases h1 : k = i
    · subst h1
      rw [if_pos rfl, if_pos (by rw [flds_len]; exact hi), hv]
    · rw [if_neg h1, flds_at hi, (ho i (fun q => h1 q.symm)).1, (ho i (fun q => h1 q.symm)).2]
  · rw [List.getElem?_eq_none (l := flds ad h' ci a) (by rw [flds_len]; omega)]
    by_cases h1 : k = i
    · subst h1
      rw [if_pos rfl, if_neg (by rw [flds_len]; exact hi)]
    · rw [if_neg h1, List.getElem?_eq_none (by rw [flds_len]; omega)]
/-- what a cell's picture depends on -/
theorem ent_eq {ad : Nat → Nat} {cd : Nat → ClassId} {h h' : Mm} {b : Nat} (h1 : h'.1 b = h.1 b) (h2 : h'.2.1 b = h.2.1 b) (h3 : h'.2.2.1 b = h.2.2.1 b) : ent ad cd h' b = ent ad cd h b := by
  unfold ent flds arrE
  rw [h1, h2, h3]
theorem ent_ad {ad ad' : Nat → Nat} {cd cd' : Nat → ClassId} {h h' : Mm} {b : Nat} (h1 : h'.1 b = h.1 b) (h2 : h'.2.1 b = h.2.1 b) (h3 : h'.2.2.1 b = h.2.2.1 b) (h4 : cd' b = cd b) (h5 : ∀ k x, h.2.2.1 b k = some x → ad' x = ad x) : ent ad' cd' h' b = ent ad cd h b := by
  have e : ∀ k, (h.2.2.1 b k).map ad' = (h.2.2.1 b k).map ad := fun k => by
    cases hx : h.2.2.1 b k with
    | none => rfl
    | some x => simp [h5 k x hx]
  unfold ent flds arrE
  rw [h1, h2, h3, h4]
  simp only [e]
def tyK (k : Nat) : FieldType := if k = 10 then .int else if k = 11 then .long else if k = 12 then .object (CN 3) else .array .int
def KO (cd : Nat → ClassId) (h : Mm) (s : State) : Prop := ∀ a, a < h.2.2.2.1 → 9 ≤ kd a → ArrOfT s (cd a) (tyK (kd a)) ∧ va_RA s (cd a) (tyK (kd a))
theorem KO.moved {cd : Nat → ClassId} {h : Mm} {u U : State} (hvm : u.vm.Alike U.vm) (k : KO cd h u) : KO cd h U := fun a ha hk => ⟨arrOfT_moved hvm (k a ha hk).1, (k a ha hk).2.moved hvm⟩
theorem KO.at {cd : Nat → ClassId} {h : Mm} {s : State} {D : va_G} (hK : va_K D cl [] s) (k : KO cd h s) {a n : Nat} (ha : a < h.2.2.2.1) (hk : kd a = n) (hn : 9 ≤ n) : va_K D cl [(cd a, tyK n)] s := ⟨hK.1, fun j q hq => by
  cases j with
  | zero =>
    cases hq
    subst hk
    exact k a ha hn
  | succ j => simp at hq⟩
theorem KO.at2 {cd : Nat → ClassId} {h : Mm} {s : State} {D : va_G} (hK : va_K D cl [] s) (k : KO cd h s) {a b n : Nat} (ha : a < h.2.2.2.1) (hb : b < h.2.2.2.1) (hk : kd a = n) (hkb : kd b = n) (hn : 9 ≤ n) : va_K D cl [(cd a, tyK n), (cd b, tyK n)] s := ⟨hK.1, fun j q hq => by
  cases j with
  | zero =>
    cases hq
    subst hk
    exact k a ha hn
  | succ j =>
    cases j with
    | zero =>
      cases hq
      have z := k b hb (by omega)
      rw [hkb] at z
      exact z
    | succ j => simp at hq⟩
def Wf (h : Mm) : Prop := ∀ a k b, a < h.2.2.2.1 → h.2.2.1 a k = some b → b < h.2.2.2.1
def okV (h : Mm) (v : Value) : Prop := ∀ a, v = .ref a → a < h.2.2.2.1
theorem okV_i {h : Mm} {x : Int32} : okV h (.int x) := fun a q => by cases q
theorem okV_l {h : Mm} {x : Int64} : okV h (.long x) := fun a q => by cases q
theorem okV_n {h : Mm} : okV h .null := fun a q => by cases q
theorem okV_r {h : Mm} {a : Nat} (ha : a < h.2.2.2.1) : okV h (.ref a) := fun b q => by cases q; exact ha
theorem okV_rf {h : Mm} (w : Wf h) {a k : Nat} (ha : a < h.2.2.2.1) : okV h (va_rf (h.2.2.1 a k)) := fun b q => by
  cases hx : h.2.2.1 a k with
  | none => rw [hx] at q; cases q
  | some x => rw [hx] at q; cases q; exact w a k _ ha hx
theorem okV_le {h h' : Mm} (hn : h.2.2.2.1 ≤ h'.2.2.2.1) {v : Value} (k : okV h v) : okV h' v := fun a q => Nat.lt_of_lt_of_le (k a q) hn
theorem conc_ad {ad ad' : Nat → Nat} {h : Mm} (e : ∀ i, i < h.2.2.2.1 → ad' i = ad i) {v : Value} (k : okV h v) : conc ad' v = conc ad v := by
  cases v <;> first | rfl | exact congrArg Value.ref (e _ (k _ rfl))
theorem map_conc_ad {ad ad' : Nat → Nat} {h : Mm} (e : ∀ i, i < h.2.2.2.1 → ad' i = ad i) {st : List Value} (k : ∀ v ∈ st, okV h v) : st.map (conc ad') = st.map (conc ad) := List.map_congr_left fun v hv => conc_ad e (k v hv)
-- locals
def lvA (ad : Nat → Nat) : Nat → List Value → List (Nat × Value)
  | _, [] => []
  | i, v :: l => if v = .null then lvA ad (i + 1) l else (i, conc ad v) :: lvA ad (i + 1) l
theorem lvA_mem {ad : Nat → Nat} : ∀ (ls : List Value) (i : Nat) (q : Nat × Value), q ∈ lvA ad i ls ↔ ∃ j v, ls[j]? = some v ∧ ¬ v = .null ∧ q = (i + j, conc ad v)
  | [], i, q => ⟨fun h => by simp [lvA] at h, fun ⟨j, v, h, _⟩ => by simp at h⟩
  | v :: l, i, q => by
    have ih := lvA_mem (ad := ad) l (i + 1) q
    unfold lvA
    by_cases hv : v = .null
    · rw [if_pos hv, ih]
      constructor
      · rintro ⟨j, w, h1, h2, h3⟩
        exact ⟨j + 1, w, by simpa using h1, h2, by rw [h3]; congr 1; omega⟩
      · rintro ⟨j, w, h1, h2, h3⟩
        cases j with
        | zero =>
          simp at h1
          exact absurd (h1.symm.trans hv) h2
        | succ j => exact ⟨j, w, by simpa using h1, h2, by rw [h3]; congr 1; omega⟩
    · rw [if_neg hv, List.mem_cons, ih]
      constructor
      · rintro (h | ⟨j, w, h1, h2, h3⟩)
        · exact ⟨0, v, rfl, hv, h⟩
        · exact ⟨j + 1, w, by simpa using h1, h2, by rw [h3]; congr 1; omega⟩
      · rintro ⟨j, w, h1, h2, h3⟩
        cases j with
        | zero =>
          simp at h1
          subst h1
          exact Or.inl h3
        | succ j => exact Or.inr ⟨j, w, by simpa using h1, h2, by rw [h3]; congr 1; omega⟩
theorem lvA_at {ad : Nat → Nat} {lsM : Array Slot} {nL : Nat} {ls : List Value} (h : lv_has lsM nL (lvA ad 0 ls)) {k : Nat} {v : Value} (hv : ls[k]? = some v) (hn : ¬ v = .null) : lsM[k]? = some (.val (conc ad v)) := h.2.2 (k, conc ad v) ((lvA_mem ls 0 _).mpr ⟨k, v, hv, hn, by rw [Nat.zero_add]⟩)
theorem lv_weak {lsM : Array Slot} {nL : Nat} {l l' : List (Nat × Value)} (hs : ∀ q ∈ l', q ∈ l) (h : lv_has lsM nL l) : lv_has lsM nL l' := ⟨h.1, h.2.1, fun q hq => h.2.2 q (hs q hq)⟩
theorem clr1_len (ls : List Value) (k : Nat) : (clr1 ls k).length = ls.length := by
  cases k with
  | zero => rfl
  | succ j =>
    unfold clr1
    dsimp only
    split <;> simp
theorem clr1_at (ls : List Value) (k j : Nat) : (clr1 ls k)[j]? = if j + 1 = k ∧ ∃ v, ls[j]? = some v ∧ v.category = 2 then some .null else ls[j]? := by
  cases k with
  | zero =>
    rw [if_neg (fun q => by omega)]
    rfl
  | succ i =>
    unfold clr1
    dsimp only
    split
    · rename_i x hx
      rw [List.getElem?_set]
      by_cases e : i = j
      · subst e
        rw [if_pos rfl, if_pos (List.getElem?_eq_some_iff.mp hx).1, if_pos ⟨rfl, _, hx, rfl⟩]
      · rw [if_neg e, if_neg (fun q => by omega)]
    · rename_i x hx
      rw [List.getElem?_set]
      by_cases e : i = j
      · subst e
        rw [if_pos rfl, if_pos (List.getElem?_eq_some_iff.mp hx).1, if_pos ⟨rfl, _, hx, rfl⟩]
      · rw [if_neg e, if_neg (fun q => by omega)]
    · rename_i h1 h2
      rw [if_neg]
      rintro ⟨q, v, q2, q3⟩
      have e : j = i := by omega
      subst e
      cases v <;> first | (exact h1 _ q2) | (exact h2 _ q2) | (simp [Value.category] at q3)
theorem sL1_len (ls : List Value) (k : Nat) (v : Value) : (sL1 ls k v).length = ls.length := by
  unfold sL1
  rw [List.length_set, clr1_len]
theorem sL2_len (ls : List Value) (k : Nat) (v : Value) : (sL2 ls k v).length = ls.length := by
  unfold sL2
  rw [List.length_set, List.length_set, clr1_len]
theorem sL1_ok {h : Mm} {ls : List Value} {k : Nat} {v : Value} (hl : ∀ w ∈ ls, okV h w) (hv : okV h v) : ∀ w ∈ sL1 ls k v, okV h w := by
  intro w hw
  obtain ⟨j, hj⟩ := List.getElem?_of_mem hw
  unfold sL1 at hj
  rw [List.getElem?_set] at hj
  split at hj
  · split at hj
    · cases hj; exact hv
    · cases hj
  · rw [clr1_at] at hj
    split at hj
    · cases hj; exact okV_n
    · exact hl w (List.mem_of_getElem? hj)
theorem sL2_ok {h : Mm} {ls : List Value} {k : Nat} {v : Value} (hl : ∀ w ∈ ls, okV h w) (hv : okV h v) : ∀ w ∈ sL2 ls k v, okV h w := by
  intro w hw
  obtain ⟨j, hj⟩ := List.getElem?_of_mem hw
  unfold sL2 at hj
  rw [List.getElem?_set] at hj
  split at hj
  · split at hj
    · cases hj; exact okV_n
    · cases hj
  · exact sL1_ok hl hv w (List.mem_of_getElem? hj)
theorem sL1_sub {ad : Nat → Nat} {ls : List Value} {k : Nat} {v : Value} : ∀ q ∈ lvA ad 0 (sL1 ls k v), q ∈ (k, conc ad v) :: (lvA ad 0 ls).filter (fun q => !(q.1 == k) && !(q.1 + 1 == k && q.2.category == 2)) := by
  intro q hq
  obtain ⟨j, w, h1, h2, h3⟩ := (lvA_mem _ _ _).mp hq
  rw [Nat.zero_add] at h3
  subst h3
  unfold sL1 at h1
  rw [List.getElem?_set] at h1
  split at h1
  · rename_i e
    subst e
    split at h1
    · cases h1
      exact List.mem_cons_self
    · cases h1
  · rename_i e
    rw [clr1_at] at h1
    split at h1
    · cases h1
      exact absurd rfl h2
    · rename_i e2
      refine List.mem_cons_of_mem _ (List.mem_filter.mpr ⟨(lvA_mem _ _ _).mpr ⟨j, w, h1, h2, by rw [Nat.zero_add]⟩, ?_⟩)
      simp only [Bool.and_eq_true, Bool.not_eq_true', beq_eq_false_iff_ne, ne_eq, Bool.and_eq_false_iff, conc_cat]
      refine ⟨fun q => e q.symm, ?_⟩
      by_cases e3 : j + 1 = k
      · exact Or.inr (fun q => e2 ⟨e3, w, h1, q⟩)
      · exact Or.inl e3
theorem sL2_sub {ad : Nat → Nat} {ls : List Value} {k : Nat} {v : Value} : ∀ q ∈ lvA ad 0 (sL2 ls k v), q ∈ (k, conc ad v) :: (lvA ad 0 ls).filter (fun q => !(q.1 == k) && (!(q.1 == k + 1) && !(q.1 + 1 == k && q.2.category == 2))) := by
  intro q hq
  obtain ⟨j, w, h1, h2, h3⟩ := (lvA_mem _ _ _).mp hq
  rw [Nat.zero_add] at h3
  subst h3
  unfold sL2 at h1
  rw [List.getElem?_set] at h1
  split at h1
  · split at h1
    · cases h1
      exact absurd rfl h2
    · cases h1
  · rename_i e0
    rw [List.getElem?_set] at h1
    split at h1
    · rename_i e
      subst e
      split at h1
      · cases h1
        exact List.mem_cons_self
      · cases h1
    · rename_i e
      rw [clr1_at] at h1
      split at h1
      · cases h1
        exact absurd rfl h2
      · rename_i e2
        refine List.mem_cons_of_mem _ (List.mem_filter.mpr ⟨(lvA_mem _ _ _).mpr ⟨j, w, h1, h2, by rw [Nat.zero_add]⟩, ?_⟩)
        simp only [Bool.and_eq_true, Bool.not_eq_true', beq_eq_false_iff_ne, ne_eq, Bool.and_eq_false_iff, conc_cat]
        refine ⟨fun q => e q.symm, fun q => e0 q.symm, ?_⟩
        by_cases e3 : j + 1 = k
        · exact Or.inr (fun q => e2 ⟨e3, w, h1, q⟩)
        · exact Or.inl e3
theorem lvA_ad {ad ad' : Nat → Nat} {h : Mm} (e : ∀ i, i < h.2.2.2.1 → ad' i = ad i) : ∀ (ls : List Value) (i : Nat), (∀ v ∈ ls, okV h v) → lvA ad' i ls = lvA ad i ls
  | [], _, _ => rfl
  | v :: l, i, k => by
    unfold lvA
    rw [lvA_ad e l (i + 1) (fun w hw => k w (List.mem_cons_of_mem _ hw)), conc_ad e (k v List.mem_cons_self)]
