/-! new int[3][40] -/
theorem mo_outer (c : ClassId) (N h0 : Nat) : ∀ i : Nat, Jvm.Free.Multi.outerC c N h0 i = arrV c N (fun j => va_rf (if j < i then some (h0 + 1 + j) else none))
  | 0 => by
    show ({ cls := c, slots := Array.replicate N .null, vm := .none } : Cell) = _
    rw [arrV_new]
    refine congrArg (arrV c N) (funext fun j => ?_)
    simp [va_rf]
  | i + 1 => by
    show (Jvm.Free.Multi.outerC c N h0 i).setSlot i (.ref (h0 + 1 + i)) = _
    rw [mo_outer c N h0 i, arrV_store]
    refine congrArg (arrV c N) (funext fun j => ?_)
    by_cases e : j = i
    · subst e
      simp [updV, va_rf]
    · by_cases h : j < i
      · simp [updV, e, h, Nat.lt_succ_of_lt h]
      · simp [updV, e, h, show ¬ j < i + 1 by omega]
theorem isArr_cls {s : State} {c1 c2 : Cell} {ty : FieldType} (h : s.isArrayOf c1 ty) (e : c1.cls = c2.cls) (hv : ∀ k, c2.vm ≠ .statics k) : s.isArrayOf c2 ty := by
  unfold State.isArrayOf at h ⊢
  rw [← e]
  first | exact ⟨hv, h.2⟩ | exact h
def ad4 (ad : Nat → Nat) (z : Nat) : Nat → Nat := fun i => if i < 18 then ad i else if i < 22 then z + (i - 18) else ad i
def cd4 (cd : Nat → ClassId) (cA cI : ClassId) : Nat → ClassId := fun i => if i = 18 then cA else if i = 19 then cI else if i = 20 then cI else if i = 21 then cI else cd i
theorem sd_new3 {cc : ByteArray} {nL : Nat} {own : String} {ret : Option FieldType} {nm : String} {pc : Nat} (i : Nat) (hl : Cond.classLink own i "[[I" ∈ TT) (ha : Cond.arrayClass .int ∈ TT) (hdg : decode cc pc = .ok (.multianewarray i 2, 4)) : Snd cc nL own ret nm pc oNew3 := by
  intro p l e R s m args below meth c D A h0 ad0 cd0 lim Qz d K Q c0 C hK hE ls st h w ad cd H locs lsM iv hlv hll hlo hst
  obtain ⟨hx, hb, hml, hown, hts, hrt, hlk, hnm, hxk, hKK, hA, hR⟩ := C
  dsimp only [oNew3] at w
  have w1 := w
  clear w
  obtain ⟨y, s2, rfl, w⟩ := pI_x w1
  clear w1
  have w1 := w
  clear w
  obtain ⟨x, s3, rfl, w⟩ := pI_x w1
  clear w1
  obtain ⟨⟨rfl, rfl, hn18, h1, h2⟩, w⟩ := w
  have iv0 := iv
  obtain ⟨⟨hP, hD, hKO, hWf⟩, hS, hadd, hmn, hlim⟩ := iv
  intro T hT Xs
  have hst3 : F0 m pc lsM ((Value.int 40 :: Value.int 3 :: s3).map (conc ad)) = F0 m pc lsM (.int 40 :: .int 3 :: s3.map (conc ad)) := rfl
  obtain ⟨vm₁, cA, comp, -, fA, fC, hO, hI, X', step⟩ := Xs.multianewarray2F hx hown (ty := .int) (hts _ (List.mem_cons_of_mem _ hl)) hxk.2.2.2 (hts _ (List.mem_cons_of_mem _ ha)) (g := F0 m pc lsM (.int 40 :: .int 3 :: s3.map (conc ad))) rfl (by rw [hb]; exact hdg) rfl (by decide) (by decide) (by decide) (by decide) (by decide) rfl rfl (by have := hmn.1; have := hR.1; show _ + (1 + 3) ≤ _; omega) (by have := hmn.2; have := hR.2.1; show _ + (3 + 3 * 40) ≤ _; omega)
  have e3 : (3 : Int32).toNatClampNeg = 3 := rfl
  have e40 : (40 : Int32).toNatClampNeg = 40 := rfl
  rw [e3, e40] at X' step
  generalize hF : Jvm.Free.Multi.fill (T.setVm vm₁) cA comp 3 40 (defaultValue .int) 3 = F at X' step
  have hTh : (T.setVm vm₁).heap = H := hT
  obtain ⟨f1, f2, -, -⟩ := Jvm.Free.Multi.fill_facts (T.setVm vm₁) cA comp 3 40 (defaultValue .int) 3
  rw [hF, hTh] at f1 f2
  have hold : ∀ x : Nat, x < H.size → F.heap[x]? = H[x]? := fun x hx => by
    have := Jvm.Free.Multi.fill_old (T.setVm vm₁) cA comp 3 40 (defaultValue .int) (a := x) (by rw [hTh]; exact hx) 3
    rw [hF, hTh] at this
    exact this
  have hrow : ∀ j : Nat, j < 3 → F.heap[H.size + 1 + j]? = some (vp_cell comp (40, .inl (fun _ => 0))) := fun j hj => by
    have := Jvm.Free.Multi.fill_inner (T.setVm vm₁) cA comp 3 40 (defaultValue .int) 3 j hj
    rw [hF, hTh] at this
    rw [this]
    show some ({ cls := comp, slots := Array.replicate 40 (.int 0), vm := .none } : Cell) = _
    rw [arrV_new]
    rfl
  rw [mo_outer] at f2
  have hlt : ∀ a, a < 18 → ad a < H.size := fun a ha => (hP a _ (wd_at (by omega))).lt
  have e4 : ∀ a, a < 18 → ad4 ad H.size a = ad a := fun a ha => if_pos ha
  have en : (mem3 h).2.2.2.1 = 22 := by
    show h.2.2.2.1 + 1 + 1 + 1 + 1 = 22
    omega
  have m1 : ∀ b, b < 18 → (mem3 h).1 b = h.1 b ∧ (mem3 h).2.1 b = h.2.1 b ∧ (mem3 h).2.2.1 b = h.2.2.1 b := fun b hb => by
    refine ⟨?_, ?_, ?_⟩
    · show wA (wA (wA (wA h.1 h.2.2.2.1 _) (h.2.2.2.1 + 1) _) (h.2.2.2.1 + 1 + 1) _) (h.2.2.2.1 + 1 + 1 + 1) _ b = _
      rw [wA_n (by omega), wA_n (by omega), wA_n (by omega), wA_n (by omega)]
    · show wA (wA (wA (wA h.2.1 h.2.2.2.1 _) (h.2.2.2.1 + 1) _) (h.2.2.2.1 + 1 + 1) _) (h.2.2.2.1 + 1 + 1 + 1) _ b = _
      rw [wA_n (by omega), wA_n (by omega), wA_n (by omega), wA_n (by omega)]
    · show wA (wA (wA (wA (wA h.2.2.1 h.2.2.2.1 _) (h.2.2.2.1 + 1) _) (h.2.2.2.1 + 1 + 1) _) (h.2.2.2.1 + 1 + 1 + 1) _) h.2.2.2.1 _ b = _
      rw [wA_n (by omega), wA_n (by omega), wA_n (by omega), wA_n (by omega), wA_n (by omega)]
  have mP : (mem3 h).2.2.1 18 = fun j => if j < 3 then some (h.2.2.2.1 + 1 + j) else none := by
    show wA _ h.2.2.2.1 _ 18 = _
    rw [hn18, wA_s]
  have mI : ∀ b, 19 ≤ b → b < 22 → (mem3 h).1 b = fun _ => 0 := fun b h9 h2 => by
    show wA (wA (wA (wA h.1 h.2.2.2.1 _) (h.2.2.2.1 + 1) _) (h.2.2.2.1 + 1 + 1) _) (h.2.2.2.1 + 1 + 1 + 1) _ b = _
    rw [hn18]
    rcases (by omega : b = 19 ∨ b = 20 ∨ b = 21) with rfl | rfl | rfl <;> rfl
  have hent : ∀ b, b < 18 → ent (ad4 ad H.size) (cd4 cd cA comp) (mem3 h) b = ent ad cd h b := fun b hb => by
    obtain ⟨q1, q2, q3⟩ := m1 b hb
    refine ent_ad q1 q2 q3 ?_ (fun k x hx => e4 x ?_)
    · unfold cd4
      rw [if_neg (by omega), if_neg (by omega), if_neg (by omega), if_neg (by omega)]
    · have := hWf b k x (by omega) hx
      omega
  have hP' : va_P D cl (wd (ad4 ad H.size) (cd4 cd cA comp) (mem3 h)) F.heap := by
    intro k q hq
    have hk : k < 22 := by
      have := (List.getElem?_eq_some_iff.mp hq).1
      rw [wd_len, en] at this
      exact this
    rw [wd_at (by rw [en]; exact hk)] at hq
    cases hq
    by_cases h18 : k < 18
    · have z := hP k _ (wd_at (by omega))
      rw [hent k h18, e4 k h18]
      exact z.kept (hold _ (hlt k h18))
    · rcases (by omega : k = 18 ∨ k = 19 ∨ k = 20 ∨ k = 21) with rfl | rfl | rfl | rfl
      · rw [ent_ar (by decide), arrE_r (by decide)]
        show F.heap[H.size]? = some (vp_cell cA (3, .inr (.inr (.inr (.inr fun j => ((mem3 h).2.2.1 18 j).map (ad4 ad H.size))))))
        rw [f2, vp_cell_q]
        congr 2
        funext j
        rw [mP]
        by_cases h3 : j < 3
        · simp only [if_pos h3, Option.map_some]
          unfold ad4
          rw [if_neg (by omega), if_pos (by omega)]
          congr 2
          omega
        · simp only [if_neg h3, Option.map_none]
      · rw [ent_ar (by decide), arrE_i (by decide), mI 19 (by decide) (by decide)]
        exact hrow 0 (by decide)
      · rw [ent_ar (by decide), arrE_i (by decide), mI 20 (by decide) (by decide)]
        exact hrow 1 (by decide)
      · rw [ent_ar (by decide), arrE_i (by decide), mI 21 (by decide) (by decide)]
        exact hrow 2 (by decide)
  have hwat : ∀ (k : Nat) (q : Nat × va_E), (wd (ad4 ad H.size) (cd4 cd cA comp) (mem3 h))[k]? = some q → k < 22 ∧ q.1 = ad4 ad H.size k := fun k q hq => by
    have hk : k < 22 := by
      have := (List.getElem?_eq_some_iff.mp hq).1
      rw [wd_len, en] at this
      exact this
    rw [wd_at (by rw [en]; exact hk)] at hq
    cases hq
    exact ⟨hk, rfl⟩
  have h4v : ∀ k, ¬ k < 18 → k < 22 → ad4 ad H.size k = H.size + (k - 18) := fun k a b => by
    unfold ad4
    rw [if_neg a, if_pos b]
  have hD' : va_D A (wd (ad4 ad H.size) (cd4 cd cA comp) (mem3 h)) := by
    refine ⟨fun i j x y hi hj hxy => ?_, fun k q hq => ?_⟩
    · obtain ⟨i1, i2⟩ := hwat i x hi
      obtain ⟨j1, j2⟩ := hwat j y hj
      rw [i2, j2] at hxy
      by_cases a : i < 18 <;> by_cases b : j < 18
      · rw [e4 i a, e4 j b] at hxy
        exact hD.1 i j _ _ (wd_at (by omega)) (wd_at (by omega)) hxy
      · rw [e4 i a, h4v j b j1] at hxy
        have := hlt i a
        omega
      · rw [h4v i a i1, e4 j b] at hxy
        have := hlt j b
        omega
      · rw [h4v i a i1, h4v j b j1] at hxy
        omega
    · obtain ⟨k1, k2⟩ := hwat k q hq
      rw [k2]
      by_cases a : k < 18
      · rw [e4 k a]
        exact hD.2 k _ (wd_at (by omega))
      · rw [h4v k a k1]
        exact hA _ (by have := hS.1; omega)
  have hKO' : KO (cd4 cd cA comp) (mem3 h) s := by
    intro a ha hk
    rw [en] at ha
    by_cases h18 : a < 18
    · have : cd4 cd cA comp a = cd a := by
        unfold cd4
        rw [if_neg (by omega), if_neg (by omega), if_neg (by omega), if_neg (by omega)]
      rw [this]
      exact hKO a (by omega) hk
    · have hint : ArrOfT s comp .int ∧ va_RA s comp .int := ⟨fun N z => isArr_cls (hI 0 .null).1 rfl (fun k q => by cases q), fC⟩
      rcases (by omega : a = 18 ∨ a = 19 ∨ a = 20 ∨ a = 21) with rfl | rfl | rfl | rfl
      · exact ⟨fun N z => isArr_cls (hO 0 0 0).1 rfl (fun k q => by cases q), fA⟩
      · exact hint
      · exact hint
      · exact hint
  have hWf' : Wf (mem3 h) := by
    intro a k b ha hb
    rw [en] at ha ⊢
    by_cases h18 : a < 18
    · rw [(m1 a h18).2.2] at hb
      have := hWf a k b (by omega) hb
      omega
    · by_cases e18 : a = 18
      · subst e18
        rw [mP] at hb
        by_cases h3 : k < 3
        · simp only [if_pos h3, Option.some.injEq] at hb
          omega
        · simp only [if_neg h3] at hb
          cases hb
      · have hb2 : wA (wA (wA (wA (wA h.2.2.1 h.2.2.2.1 (fun _ => none)) (h.2.2.2.1 + 1) (fun _ => none)) (h.2.2.2.1 + 1 + 1) (fun _ => none)) (h.2.2.2.1 + 1 + 1 + 1) (fun _ => none)) h.2.2.2.1 (fun j => if j < 3 then some (h.2.2.2.1 + 1 + j) else none) a k = some b := hb
        rw [hn18] at hb2
        rcases (by omega : a = 19 ∨ a = 20 ∨ a = 21) with rfl | rfl | rfl <;> cases hb2
  have had : ∀ i, i < h.2.2.2.1 → ad4 ad H.size i = ad i := fun i hi => e4 i (by omega)
  have hle : h.2.2.2.1 ≤ (mem3 h).2.2.2.1 := by rw [en]; omega
  have z := w (ad4 ad H.size) (cd4 cd cA comp) F.heap locs lsM ⟨⟨hP', hD', hKO', hWf'⟩, ⟨by rw [f1]; have := hS.1; omega, fun q g1 g2 => (hold q (Nat.lt_of_lt_of_le g1 hS.1)).trans (hS.2.1 q g1 g2), hS.2.2⟩, fun i hi => by
    have h8 := hmn.1
    have h9 := hadd i hi
    rw [e4 i (by omega)]
    refine ⟨h9.1, ?_⟩
    rw [← h9.2]
    unfold cd4
    rw [if_neg (by omega), if_neg (by omega), if_neg (by omega), if_neg (by omega)], ⟨Nat.le_trans hmn.1 hle, Nat.le_trans hmn.2 (show h.2.2.2.2 ≤ h.2.2.2.2 + 3 + 40 + 40 + 40 by omega)⟩, h1, by show h.2.2.2.2 + 3 + 40 + 40 + 40 ≤ _; omega⟩ (by rw [lvA_ad had ls 0 hlo]; exact hlv) hll (fun v hv => okV_le hle (hlo v hv)) (okC (okV_r (by rw [en]; omega)) (fun v hv => okV_le hle (okT (okT hst) v hv)))
  have e1 : ((Value.ref h.2.2.2.1 :: s3).map (conc (ad4 ad H.size))) = .ref H.size :: s3.map (conc ad) := by
    show conc (ad4 ad H.size) (.ref h.2.2.2.1) :: s3.map (conc (ad4 ad H.size)) = _
    rw [map_conc_ad had (okT (okT hst))]
    show Value.ref (ad4 ad H.size h.2.2.2.1) :: _ = _
    rw [hn18, h4v 18 (by decide) (by decide)]
    rfl
  have e2 : (mem3 h).2.2.2.1 - h0.2.2.2.1 = h.2.2.2.1 - h0.2.2.2.1 + 1 + 3 := by
    show h.2.2.2.1 + 1 + 1 + 1 + 1 - h0.2.2.2.1 = _
    have := hmn.1
    omega
  have e5 : (mem3 h).2.2.2.2 - h0.2.2.2.2 = h.2.2.2.2 - h0.2.2.2.2 + 3 + 3 * 40 := by
    show h.2.2.2.2 + 3 + 40 + 40 + 40 - h0.2.2.2.2 = _
    have := hmn.2
    omega
  rw [e1, e2, e5] at z
  obtain ⟨t, a1, b1⟩ := z F rfl X'
  refine ⟨t, step t ?_, b1⟩
  have e : T.heap.size = H.size := by rw [hT]
  rw [e]
  exact a1
