/-! new cells, calls -/
theorem wd_new {ad : Nat → Nat} {cd : Nat → ClassId} {h : Mm} {q k : Nat} {cA : ClassId} {e : va_E} (w : Wf h) (he : ent (va_up ad h.2.2.2.1 q) (va_up cd h.2.2.2.1 cA) (mem0 h k) h.2.2.2.1 = e) : wd ad cd h ++ [(q, e)] = wd (va_up ad h.2.2.2.1 q) (va_up cd h.2.2.2.1 cA) (mem0 h k) := by
  refine wd_push rfl (va_up_self _ _ _) he (fun b hb => ⟨vup_n (by omega), ?_⟩)
  refine ent_ad (wA_n (by omega)) (wA_n (by omega)) (wA_n (by omega)) (vup_n (by omega)) (fun j x hx => vup_n ?_)
  have := w b j x hb hx
  omega
theorem Wf_new {h : Mm} {k : Nat} (w : Wf h) : Wf (mem0 h k) := by
  intro a j b ha hb
  have hb2 : wA h.2.2.1 h.2.2.2.1 (fun _ => none) a j = some b := hb
  by_cases e : a = h.2.2.2.1
  · rw [e, wA_s] at hb2
    cases hb2
  · rw [wA_n e] at hb2
    have ha2 : a < h.2.2.2.1 + 1 := ha
    have := w a j b (by omega) hb2
    show b < h.2.2.2.1 + 1
    omega
theorem KO_new {cd : Nat → ClassId} {h : Mm} {k : Nat} {s : State} {cA : ClassId} (kk : KO cd h s) (hn : 9 ≤ kd h.2.2.2.1 → ArrOfT s cA (tyK (kd h.2.2.2.1)) ∧ va_RA s cA (tyK (kd h.2.2.2.1))) : KO (va_up cd h.2.2.2.1 cA) (mem0 h k) s := by
  intro a ha hk
  have ha2 : a < h.2.2.2.1 + 1 := ha
  by_cases e : a = h.2.2.2.1
  · subst e
    rw [va_up_self]
    exact hn hk
  · rw [vup_n e]
    exact kk a (by omega) hk
theorem Iv_new {D : va_G} {A : Nat → Prop} {s : State} {h0 : Mm} {ad0 : Nat → Nat} {cd0 : Nat → ClassId} {lim : Nat × Nat} {h : Mm} {ad : Nat → Nat} {cd : Nat → ClassId} {H H1 : Heap} {locs : List Loc} {q k : Nat} {cA : ClassId} {e : va_E} (iv : Iv D A s h0 ad0 cd0 lim h ad cd H locs) (he : ent (va_up ad h.2.2.2.1 q) (va_up cd h.2.2.2.1 cA) (mem0 h k) h.2.2.2.1 = e) (hn : 9 ≤ kd h.2.2.2.1 → ArrOfT s cA (tyK (kd h.2.2.2.1)) ∧ va_RA s cA (tyK (kd h.2.2.2.1))) (hP : va_P D cl (wd ad cd h ++ [(q, e)]) H1) (hD : va_D A (wd ad cd h ++ [(q, e)])) (hS : va_S A s.heap H1 locs) (h1 : h.2.2.2.1 + 1 ≤ lim.1) (h2 : h.2.2.2.2 + k ≤ lim.2) : Iv D A s h0 ad0 cd0 lim (mem0 h k) (va_up ad h.2.2.2.1 q) (va_up cd h.2.2.2.1 cA) H1 locs := by
  obtain ⟨⟨-, -, hKO, hWf⟩, -, hadd, hmn, hlim⟩ := iv
  rw [wd_new hWf he] at hP hD
  refine ⟨⟨hP, hD, KO_new hKO hn, Wf_new hWf⟩, hS, fun i hi => ?_, ⟨Nat.le_trans hmn.1 (Nat.le_succ _), Nat.le_trans hmn.2 (Nat.le_add_right _ _)⟩, h1, h2⟩
  have h3 := hmn.1
  rw [vup_n (by omega), vup_n (by omega)]
  exact hadd i hi
theorem ad_new {ad : Nat → Nat} {h : Mm} {q : Nat} : ∀ i, i < h.2.2.2.1 → va_up ad h.2.2.2.1 q i = ad i := fun i hi => vup_n (by omega)
theorem go_new {p : Program} {l : Launch} {e : Env} {R : Room} {s : State} {m : MethodId} {args : Array Value} {below : List Frame} {meth : Method} {c : Code} {nL : Nat} {D : va_G} {A : Nat → Prop} {h0 : Mm} {ad0 : Nat → Nat} {cd0 : Nat → ClassId} {lim : Nat × Nat} {Qz : State → Prop} {pc : Nat} {ls st : List Value} {h : Mm} {k : Nat} {ad : Nat → Nat} {cd : Nat → ClassId} {q : Nat} {cA : ClassId} {H1 : Heap} {locs : List Loc} {lsM : Array Slot} (w : Wm p l e R s m args below meth c nL D A h0 ad0 cd0 lim Qz pc ls (.ref h.2.2.2.1 :: st) (mem0 h k)) (iv : Iv D A s h0 ad0 cd0 lim (mem0 h k) (va_up ad h.2.2.2.1 q) (va_up cd h.2.2.2.1 cA) H1 locs) (hm : h0.2.2.2.1 ≤ h.2.2.2.1 ∧ h0.2.2.2.2 ≤ h.2.2.2.2) (hlv : lv_has lsM nL (lvA ad 0 ls)) (hll : ls.length = nL) (hlo : ∀ v ∈ ls, okV h v) (hst : ∀ v ∈ st, okV h v) : W p l e R s m args below meth c H1 locs (h.2.2.2.1 - h0.2.2.2.1 + 1) (h.2.2.2.2 - h0.2.2.2.2 + k) Qz (F0 m pc lsM (.ref q :: st.map (conc ad))) := by
  have hle : h.2.2.2.1 ≤ (mem0 h k).2.2.2.1 := Nat.le_succ _
  have z := w _ _ _ _ lsM iv (by rw [lvA_ad ad_new ls 0 hlo]; exact hlv) hll (fun v hv => okV_le hle (hlo v hv)) (okC (okV_r (Nat.lt_succ_self _)) (fun v hv => okV_le hle (hst v hv)))
  have e1 : ((Value.ref h.2.2.2.1 :: st).map (conc (va_up ad h.2.2.2.1 q))) = .ref q :: st.map (conc ad) := by
    show conc (va_up ad h.2.2.2.1 q) (.ref h.2.2.2.1) :: st.map (conc (va_up ad h.2.2.2.1 q)) = _
    rw [map_conc_ad ad_new hst]
    show Value.ref (va_up ad h.2.2.2.1 q h.2.2.2.1) :: _ = _
    rw [va_up_self]
  have e2 : (mem0 h k).2.2.2.1 - h0.2.2.2.1 = h.2.2.2.1 - h0.2.2.2.1 + 1 := by
    show h.2.2.2.1 + 1 - h0.2.2.2.1 = _
    have := hm.1
    omega
  have e3 : (mem0 h k).2.2.2.2 - h0.2.2.2.2 = h.2.2.2.2 - h0.2.2.2.2 + k := by
    show h.2.2.2.2 + k - h0.2.2.2.2 = _
    have := hm.2
    omega
  rw [e1, e2, e3] at z
  exact z
theorem ln_le (a : Nat) : ln a ≤ 20000 := by
  unfold ln shp
  repeat' split
  all_goals decide
theorem sd_new {cc : ByteArray} {nL : Nat} {own : String} {ret : Option FieldType} {nm : String} {pc : Nat} (ci k i : Nat) (hc : ci < 9) (hk : nf ci = k) (hl : Cond.classLink own i (CN ci) ∈ TT) (hdg : decode cc pc = .ok (.new i, 3)) : Snd cc nL own ret nm pc (oNew ci k) := by
  intro p l e R s m args below meth c D A h0 ad0 cd0 lim Qz d K Q c0 C hK hE ls st h w ad cd H locs lsM iv hlv hll hlo hst
  obtain ⟨hx, hb, hml, hown, hts, hrt, hlk, hnm, hxk, hKK, hA, hR⟩ := C
  dsimp only [oNew] at w
  obtain ⟨⟨hkd, h1, h2⟩, w⟩ := w
  have iv0 := iv
  obtain ⟨⟨hP, hD, hKO, hWf⟩, hS, hadd, hmn, hlim⟩ := iv
  refine va_new (fs := (List.range (nf ci)).map fun k => if fk ci k = 3 then .null else .int 0) hx hb hts (fun w hw => List.mem_cons_of_mem _ (in_ok hc w hw)) (CTy ci) (fun k hk => ty_ok ci hc k hk) hown (hts _ (List.mem_cons_of_mem _ hl)) (hts _ (List.mem_cons_of_mem _ (TT_of _ (inst_ok ci hc) rfl))) (hts _ (List.mem_cons_of_mem _ (TT_of _ (ini_ok ci hc) rfl))) hKK hP hD hS hA (cl_at hc) ?_ (by have := hmn.1; have := hR.1; omega) (by have := hmn.2; have := hR.2.1; omega) hdg (fun q H1 hP1 hD1 hS1 => ?_)
  · intro j hj
    rw [def_ok ci hc j hj]
    unfold vp_V
    rw [List.getD_eq_getElem?_getD, List.getElem?_map, List.getElem?_range hj]
    rfl
  · subst hk
    refine go_new w (Iv_new (cA := 0) iv0 ?_ (fun q => by omega) hP1 hD1 hS1 h1 h2) hmn hlv hll hlo hst
    rw [ent_ob hkd hc]
    congr 2
    unfold flds
    apply List.map_congr_left
    intro j hj
    by_cases e : fk ci j = 3
    · rw [if_pos e, if_pos e]
      show va_rf ((wA h.2.2.1 h.2.2.2.1 (fun _ => none) h.2.2.2.1 j).map _) = _
      rw [wA_s]
      rfl
    · rw [if_neg e, if_neg e]
      show Value.int (wA h.1 h.2.2.2.1 (fun _ => 0) h.2.2.2.1 j) = _
      rw [wA_s]
theorem sd_newI {cc : ByteArray} {nL : Nat} {own : String} {ret : Option FieldType} {nm : String} {pc : Nat} (hl : Cond.arrayClass .int ∈ TT) (hdg : decode cc pc = .ok (.newarray .int, 2)) : Snd cc nL own ret nm pc (oNewA 10 2) := by
  intro p l e R s m args below meth c D A h0 ad0 cd0 lim Qz d K Q c0 C hK hE ls st h w ad cd H locs lsM iv hlv hll hlo hst
  obtain ⟨hx, hb, hml, hown, hts, hrt, hlk, hnm, hxk, hKK, hA, hR⟩ := C
  dsimp only [oNewA] at w
  have w1 := w
  clear w
  obtain ⟨x, s2, rfl, w⟩ := pI_x w1
  clear w1
  obtain ⟨⟨hkd, h0x, hln, h1, h2⟩, w⟩ := w
  have iv0 := iv
  obtain ⟨⟨hP, hD, hKO, hWf⟩, hS, hadd, hmn, hlim⟩ := iv
  have hbig : ln h.2.2.2.1 ≤ 20000 := ln_le _
  refine va_newa (atype := .int) (ty := .int) (a0 := (x.toNatClampNeg, .inl (fun _ => 0))) hx hb (hts _ (List.mem_cons_of_mem _ hl)) rfl hKK hP hD hS hA (fun cA => rfl) h0x rfl (by rw [← hln]; show _ * 4 ≤ _; omega) (by have := hmn.1; have := hR.1; omega) (by have := hmn.2; have := hR.2.1; omega) hdg (fun q cA H1 hK1 hP1 hD1 hS1 => ?_)
  refine go_new w (Iv_new (cA := cA) iv0 ?_ (fun q => ?_) hP1 hD1 hS1 h1 h2) hmn hlv hll hlo (okT hst)
  · rw [ent_ar (by omega), arrE_i hkd, va_up_self]
    show Sum.inl (cA, ln h.2.2.2.1, Sum.inl (wA h.1 h.2.2.2.1 (fun _ => 0) h.2.2.2.1)) = _
    rw [hln, wA_s]
  · rw [hkd]
    exact hK1.2 0 _ rfl
theorem sd_newL {cc : ByteArray} {nL : Nat} {own : String} {ret : Option FieldType} {nm : String} {pc : Nat} (hl : Cond.arrayClass .long ∈ TT) (hdg : decode cc pc = .ok (.newarray .long, 2)) : Snd cc nL own ret nm pc (oNewA 11 2) := by
  intro p l e R s m args below meth c D A h0 ad0 cd0 lim Qz d K Q c0 C hK hE ls st h w ad cd H locs lsM iv hlv hll hlo hst
  obtain ⟨hx, hb, hml, hown, hts, hrt, hlk, hnm, hxk, hKK, hA, hR⟩ := C
  dsimp only [oNewA] at w
  have w1 := w
  clear w
  obtain ⟨x, s2, rfl, w⟩ := pI_x w1
  clear w1
  obtain ⟨⟨hkd, h0x, hln, h1, h2⟩, w⟩ := w
  have iv0 := iv
  obtain ⟨⟨hP, hD, hKO, hWf⟩, hS, hadd, hmn, hlim⟩ := iv
  have hbig : ln h.2.2.2.1 ≤ 20000 := ln_le _
  refine va_newa (atype := .long) (ty := .long) (a0 := (x.toNatClampNeg, .inr (.inl (fun _ => 0)))) hx hb (hts _ (List.mem_cons_of_mem _ hl)) rfl hKK hP hD hS hA (fun cA => rfl) h0x rfl (by rw [← hln]; show _ * 8 ≤ _; omega) (by have := hmn.1; have := hR.1; omega) (by have := hmn.2; have := hR.2.1; omega) hdg (fun q cA H1 hK1 hP1 hD1 hS1 => ?_)
  refine go_new w (Iv_new (cA := cA) iv0 ?_ (fun q => ?_) hP1 hD1 hS1 h1 h2) hmn hlv hll hlo (okT hst)
  · rw [ent_ar (by omega), arrE_l hkd, va_up_self]
    show Sum.inl (cA, ln h.2.2.2.1, Sum.inr (Sum.inl (wA h.2.1 h.2.2.2.1 (fun _ => 0) h.2.2.2.1))) = _
    rw [hln, wA_s]
  · rw [hkd]
    exact hK1.2 0 _ rfl
theorem sd_newQ {cc : ByteArray} {nL : Nat} {own : String} {ret : Option FieldType} {nm : String} {pc : Nat} (i : Nat) (hl : Cond.classLink own i (CN 3) ∈ TT) (hdg : decode cc pc = .ok (.anewarray i, 3)) : Snd cc nL own ret nm pc (oNewA 12 3) := by
  intro p l e R s m args below meth c D A h0 ad0 cd0 lim Qz d K Q c0 C hK hE ls st h w ad cd H locs lsM iv hlv hll hlo hst
  obtain ⟨hx, hb, hml, hown, hts, hrt, hlk, hnm, hxk, hKK, hA, hR⟩ := C
  dsimp only [oNewA] at w
  have w1 := w
  clear w
  obtain ⟨x, s2, rfl, w⟩ := pI_x w1
  clear w1
  obtain ⟨⟨hkd, h0x, hln, h1, h2⟩, w⟩ := w
  have iv0 := iv
  obtain ⟨⟨hP, hD, hKO, hWf⟩, hS, hadd, hmn, hlim⟩ := iv
  have hbig : ln h.2.2.2.1 ≤ 20000 := ln_le _
  refine va_newq hx hb hown (hts _ (List.mem_cons_of_mem _ hl)) hxk.2.2.1 hKK hP hD hS hA h0x rfl (by rw [← hln]; omega) (by have := hmn.1; have := hR.1; omega) (by have := hmn.2; have := hR.2.1; omega) hdg (fun q cA H1 hK1 hP1 hD1 hS1 => ?_)
  refine go_new w (Iv_new (cA := cA) iv0 ?_ (fun q => ?_) hP1 hD1 hS1 h1 h2) hmn hlv hll hlo (okT hst)
  · rw [ent_ar (by omega), arrE_r (by omega), va_up_self]
    show Sum.inl (cA, ln h.2.2.2.1, Sum.inr (Sum.inr (Sum.inr (Sum.inr fun j => (wA h.2.2.1 h.2.2.2.1 (fun _ => none) h.2.2.2.1 j).map _)))) = _
    rw [hln, wA_s]
    rfl
  · rw [hkd]
    exact hK1.2 0 _ rfl
theorem Pc1_fb {D : va_G} {ad : Nat → Nat} {cd : Nat → ClassId} {sz : Nat} {a : List Value} {h : Mm} : FrameBlind (Pc1 D ad cd sz a h) := fun _ U g mk q => ⟨q.1, q.2.1, ⟨q.2.2.1.1, q.2.2.1.2.1, KO.moved (Vm.Alike.refl U.vm) q.2.2.1.2.2.1, q.2.2.1.2.2.2⟩, va_K.moved (u := U) (U := U.calling g mk _) (Vm.Alike.refl U.vm) q.2.2.2.1, XK.call q.2.2.2.2⟩
theorem GIn {c0 c1 : Cond} (h : c1 ∈ TT) {ws : List Cond} (hw : ∀ w ∈ ws, w ∈ TT) : GoodIn (c0 :: TT) (ws ++ (c1 :: TT)) := fun w hw2 => by
  have : w ∈ TT := by
    rcases List.mem_append.mp hw2 with q | q
    · exact hw w q
    · rcases List.mem_cons.mp q with q | q
      · rw [q]; exact h
      · exact q
  exact ⟨List.mem_cons_of_mem _ this, good_of_word (TT_g this)⟩
/-- behind a call -/
theorem run_go {p : Program} {l : Launch} {e : Env} {R : Room} {s : State} {m : MethodId} {args : Array Value} {below : List Frame} {meth : Method} {c : Code} {nL : Nat} {D : va_G} {A : Nat → Prop} {h0 : Mm} {ad0 : Nat → Nat} {cd0 : Nat → ClassId} {lim : Nat × Nat} {Qz : State → Prop} {pc : Nat} {ls st : List Value} {h : Mm} {ad : Nat → Nat} {cd : Nat → ClassId} {H : Heap} {locs : List Loc} {lsM : Array Slot} {st0 : List Value} {a : Array Value} {cs : Nat × Nat} {Q : Qm}
    (hr : va_Run p l e R s m args below meth c H locs (h.2.2.2.1 - h0.2.2.2.1) (h.2.2.2.2 - h0.2.2.2.2) cs.1 cs.2 (F0 m pc lsM st0) (st.map (conc ad)) (Qc1 D ad cd H.size h (fun r h2 => Q r h2 ∧ h2.2.2.2.1 = h.2.2.2.1 + cs.1 ∧ h2.2.2.2.2 = h.2.2.2.2 + cs.2) a) (va_A (wd ad cd h) H.size)) (hA : ∀ q : Nat, s.heap.size ≤ q → A q) (iv : Iv D A s h0 ad0 cd0 lim h ad cd H locs) (hc : h.2.2.2.1 + cs.1 ≤ lim.1 ∧ h.2.2.2.2 + cs.2 ≤ lim.2)
    (hlv : lv_has lsM nL (lvA ad 0 ls)) (hll : ls.length = nL) (hlo : ∀ v ∈ ls, okV h v) (hst : ∀ v ∈ st, okV h v) (kk : ∀ r h2, Q r h2 → Wm p l e R s m args below meth c nL D A h0 ad0 cd0 lim Qz (pc + 3) ls (r.toList ++ st) h2) : W p l e R s m args below meth c H locs (h.2.2.2.1 - h0.2.2.2.1) (h.2.2.2.2 - h0.2.2.2.2) Qz (F0 m pc lsM st0) := by
  obtain ⟨⟨hP, hD, hKO, hWf⟩, hS, hadd, hmn, hlim⟩ := iv
  have hfr : ∀ q, va_A (wd ad cd h) H.size q → A q := by
    intro q hq
    rcases hq with ⟨k, e0, hk⟩ | hq
    · exact hD.2 k _ hk
    · exact hA q (Nat.le_trans hS.1 hq)
  intro T hT X
  obtain ⟨v, st₀, t, T', L, h00, X', hL, e1, e2, ⟨⟨r, ad', cd', h', hv, ⟨hq, hn1, hn2⟩, hok, had, hm1, hm2, hP1, hD1, hKO1, hWf1⟩, hz, hk⟩, stp⟩ := hr T hT X
  cases hv
  rw [h00] at hz hk
  have hal : t.vm.Alike s.vm := by rw [← e2]; exact X'.warmed.alike.symm
  have had1 : ∀ i, i < h.2.2.2.1 → ad' i = ad i := fun i hi => (had i hi).1
  have iv' : Iv D A s h0 ad0 cd0 lim h' ad' cd' T'.heap (locs ++ L) := by
    refine ⟨⟨by rw [e1]; exact hP1, hD1.weaken (fun k q _ z => hfr q.1 z), hKO1.moved hal, hWf1⟩, ⟨Nat.le_trans hS.1 (by rw [e1]; exact hz), fun q g1 g2 => ?_, fun q hq2 => ?_⟩, fun i hi => ?_, ⟨Nat.le_trans hmn.1 hm1, Nat.le_trans hmn.2 hm2⟩, by rw [hn1]; exact hc.1, by rw [hn2]; exact hc.2⟩
    · rw [e1, hk q (Nat.lt_of_lt_of_le g1 hS.1) (fun z => g2 (hfr q z))]
      exact hS.2.1 q g1 g2
    · rcases List.mem_append.mp hq2 with z | z
      · exact hS.2.2 q z
      · exact hfr _ (hL q z)
    · have := hadd i hi
      have h9 := had i (Nat.lt_of_lt_of_le hi hmn.1)
      exact ⟨h9.1.trans this.1, h9.2.trans this.2⟩
  have z := kk r h' hq ad' cd' T'.heap (locs ++ L) lsM iv' (by rw [lvA_ad had1 ls 0 hlo]; exact hlv) hll (fun v hv => okV_le hm1 (hlo v hv)) (fun v hv => (List.mem_append.mp hv).elim (fun q => hok v (by cases r <;> simp at q; rw [q])) (fun q => okV_le hm1 (hst v q)))
  have e5 : (r.toList ++ st).map (conc ad') = (r.map (conc ad')).toList ++ st.map (conc ad) := by
    rw [List.map_append, map_conc_ad had1 hst]
    cases r <;> rfl
  have e6 : h'.2.2.2.1 - h0.2.2.2.1 = h.2.2.2.1 - h0.2.2.2.1 + cs.1 := by have := hmn.1; omega
  have e7 : h'.2.2.2.2 - h0.2.2.2.2 = h.2.2.2.2 - h0.2.2.2.2 + cs.2 := by have := hmn.2; omega
  rw [e5, e6, e7] at z
  obtain ⟨t2, a1, b1⟩ := z T' rfl X'
  exact ⟨t2, stp t2 a1, b1⟩
theorem cost0 {y : Nat} (h1 : (y == yFRESH) = false) (h2 : costT y = (0, 0)) (a : List Value) : cost y a = (0, 0) := by
  unfold cost
  split
  · rw [if_neg (by simpa using h1)]
  · exact h2
theorem Pc1_of {D : va_G} {A : Nat → Prop} {s : State} {ad : Nat → Nat} {cd : Nat → ClassId} {h : Mm} {H : Heap} {a : List Value} (hr : Rp D A s ad cd h H) (hK : va_K D cl [] s) (hx : XK s) : ∀ U : State, U.heap = H → s.WarmedH U.vm → Pc1 D ad cd H.size a h (a.map (conc ad)).toArray U := fun U hU hW => ⟨rfl, by rw [hU], ⟨by rw [hU]; exact hr.1, hr.2.1.weaken (fun _ _ _ _ => trivial), hr.2.2.1.moved hW.alike, hr.2.2.2⟩, va_K.moved hW.alike hK, hx.warm hW⟩
theorem rooms {d y : Nat} {R : Room} (hy : y < 225) (c : Nat × Nat) (hR : d + 1 ≤ R.frames ∧ 64 * (d + 1) ≤ R.locals) : (rmd d c).frames + 1 ≤ R.frames ∧ 8 + (mL y + 11) + (rmd d c).locals ≤ R.locals := by
  have := maxl_ok y hy
  refine ⟨hR.1, ?_⟩
  show 8 + (mL y + 11) + 64 * d ≤ R.locals
  have := hR.2
  omega
theorem st_ok {h : Mm} {b s2 : List Value} (hst : ∀ v ∈ b.reverse ++ s2, okV h v) : (∀ v ∈ b, okV h v) ∧ ∀ v ∈ s2, okV h v := ⟨fun v hv => hst v (List.mem_append_left _ (List.mem_reverse.mpr hv)), fun v hv => hst v (List.mem_append_right _ hv)⟩
theorem st_rm {ad : Nat → Nat} {s2 : List Value} (h : s2.length ≤ 4) {m : MethodId} {pc : Nat} {lsM : Array Slot} {x : List Value} : 2 * (F0 m pc lsM x).monitorRoom + ((s2.map (conc ad)).map fun v => v.category).sum ≤ 8 := lv_room (by
  rw [conc_sum]
  have := cat_le s2
  omega)
theorem st_mp {ad : Nat → Nat} {b s2 : List Value} : (b.reverse ++ s2).map (conc ad) = (b.map (conc ad)).reverse ++ s2.map (conc ad) := by
  rw [List.map_append, List.map_reverse]
theorem sd_callS {cc : ByteArray} {nL : Nat} {own : String} {ret : Option FieldType} {nm : String} {pc : Nat} (y na i : Nat) (hy : y < 225) (hna : mA y = na) (hcw : Cond.code (mN y) (mB y) (mL y) (mR y) ∈ TT) (hl : Cond.methodLink own i (mN y) ∈ TT) (hs : Cond.static (mN y) ∈ TT) (hc0 : (y == yFRESH) = false ∧ costT y = (0, 0)) (hdg : decode cc pc = .ok (.invokestatic i, 3)) : Snd cc nL own ret nm pc (oCallS y na) := by
  intro p l e R s m args below meth c D A h0 ad0 cd0 lim Qz d K Q c0 C hK hE ls st h w ad cd H locs lsM iv hlv hll hlo hst
  obtain ⟨hx, hb, hml, hown, hts, hrt, hlk, hnm, hxk, hKK, hA, hR⟩ := C
  dsimp only [oCallS] at w
  have w1 := w
  clear w
  obtain ⟨b, s2, rfl, hbl, w⟩ := pN_x _ _ _ w1
  clear w1
  rw [List.append_nil] at w
  obtain ⟨h4, w⟩ := rl_x _ _ w
  obtain ⟨hsb, hs2⟩ := st_ok hst
  have hM := hK y b h _ D ad cd H.size hy w hsb
  have hmh := mh_ok y hy
  rw [hna] at hmh
  have hmi : Cond.initialized (mN y).cls ∈ TT := TT_of _ (mini_ok y hy) rfl
  have cw := va_cwS (R := R) (s := s) (args := args) (ws := WS y) (rm := rmd d (cost y b)) na hts (own := own) (index := i) (GIn hcw (fun w hw => by
    rcases List.mem_cons.mp hw with rfl | hw
    · exact hl
    rcases List.mem_cons.mp hw with rfl | hw
    · exact hs
    rcases List.mem_cons.mp hw with rfl | hw
    · exact hmi
    cases hw)) rfl rfl rfl hmh (rooms hy _ hR.2.2)
  have hr := va_runS (As := b.map (conc ad)) (rest := s2.map (conc ad)) (H := H) (locs := locs) (cells := h.2.2.2.1 - h0.2.2.2.1) (slots := h.2.2.2.2 - h0.2.2.2.2) (p := p) (e := e) (below := below) (meth := meth) (g := F0 m pc lsM ((b.reverse ++ s2).map (conc ad))) ⟨hx, hb, hml, hown, hts⟩ hM cw ⟨Pc1_fb, Pc1_of iv.1 hKK hxk⟩ rfl (by rw [List.length_map, hbl]) hlv.1 st_mp (st_rm h4) hdg ⟨?_, ?_⟩
  · exact run_go hr hA iv (by rw [cost0 hc0.1 hc0.2]; exact iv.2.2.2.2) hlv hll hlo hs2 (fun r h2 q => q)
  · rw [cost0 hc0.1 hc0.2]
    have h9 := iv.2.2.2.2.1
    have := hR.1
    show _ - _ + 0 ≤ _
    omega
  · rw [cost0 hc0.1 hc0.2]
    have h9 := iv.2.2.2.2.2
    have := hR.2.1
    show _ - _ + 0 ≤ _
    omega
theorem sd_callV {cc : ByteArray} {nL : Nat} {own : String} {ret : Option FieldType} {nm : String} {pc : Nat} (ci : Nat) (hci : ci < 9) (y na i : Nat) (hy : y < 225) (hna : mA y = na) (hcw : Cond.code (mN y) (mB y) (mL y) (mR y) ∈ TT) (hcn : (mN y).cls = CN ci) (hl : Cond.methodLink own i (mN y) ∈ TT) (hin : Cond.instanceMethod (mN y) ∈ TT) (hse : Cond.selects (CN ci) (mN y) (mN y) ∈ TT) (hc0 : (y == yFRESH) = false ∧ costT y = (0, 0)) (hdg : decode cc pc = .ok (.invokevirtual i, 3)) : Snd cc nL own ret nm pc (oCallV ci y (na + 1)) := by
  intro p l e R s m args below meth c D A h0 ad0 cd0 lim Qz d K Q c0 C hK hE ls st h w ad cd H locs lsM iv hlv hll hlo hst
  obtain ⟨hx, hb, hml, hown, hts, hrt, hlk, hnm, hxk, hKK, hA, hR⟩ := C
  dsimp only [oCallV] at w
  have w1 := w
  clear w
  obtain ⟨b, s2, rfl, hbl, w⟩ := pN_x _ _ _ w1
  clear w1
  rw [List.append_nil] at w
  obtain ⟨h4, hhd, w⟩ := rl_x _ _ w
  obtain ⟨hsb, hs2⟩ := st_ok hst
  have hM := hK y b h _ D ad cd H.size hy w hsb
  obtain ⟨a, b2, rfl, hka⟩ : ∃ a b2, b = .ref a :: b2 ∧ kd a = ci := by
    unfold hdR at hhd
    split at hhd
    · exact ⟨_, _, rfl, hhd⟩
    · exact hhd.elim
  have hmh := mh_ok y hy
  have hmi : Cond.initialized (CN ci) ∈ TT := TT_of _ (ini_ok ci hci) rfl
  have hna2 : mA y = b2.length := by
    have : b2.length + 1 = na + 1 := by rw [← hbl]; rfl
    omega
  rw [hna2] at hmh
  have cw := cwV (R := R) (s := s) (args := args) (C := CN ci) (ws := WS y) (rm := rmd d (cost y (.ref a :: b2))) b2.length hts (own := own) (index := i) (GIn hcw (fun w hw => by
    rcases List.mem_cons.mp hw with rfl | hw
    · exact hl
    rcases List.mem_cons.mp hw with rfl | hw
    · exact hin
    rcases List.mem_cons.mp hw with rfl | hw
    · exact hse
    rcases List.mem_cons.mp hw with rfl | hw
    · exact hmi
    cases hw)) rfl rfl rfl ⟨hcn, hmh⟩ (rooms hy _ hR.2.2)
  have hr := va_runV (C := CN ci) (b := ad a) (As := b2.map (conc ad)) (rest := s2.map (conc ad)) (H := H) (locs := locs) (cells := h.2.2.2.1 - h0.2.2.2.1) (slots := h.2.2.2.2 - h0.2.2.2.2) (p := p) (e := e) (below := below) (meth := meth) (g := F0 m pc lsM (((Value.ref a :: b2).reverse ++ s2).map (conc ad))) ⟨hx, hb, hml, hown, hts⟩ hM cw ⟨Pc1_fb, va_recv hKK iv.1.1 (cl_at hci) (by rw [wd_at (hsb _ List.mem_cons_self _ rfl), ent_ob hka hci]), Pc1_of iv.1 hKK hxk⟩ rfl (by rw [List.length_map]) hlv.1 (by rw [st_mp, List.map_cons, List.reverse_cons, List.append_assoc]; rfl) (st_rm h4) hdg ⟨?_, ?_⟩
  · exact run_go hr hA iv (by rw [cost0 hc0.1 hc0.2]; exact iv.2.2.2.2) hlv hll hlo hs2 (fun r h2 q => q)
  · rw [cost0 hc0.1 hc0.2]
    have h9 := iv.2.2.2.2.1
    have := hR.1
    show _ - _ + 0 ≤ _
    omega
  · rw [cost0 hc0.1 hc0.2]
    have h9 := iv.2.2.2.2.2
    have := hR.2.1
    show _ - _ + 0 ≤ _
    omega
theorem sd_callI {cc : ByteArray} {nL : Nat} {own : String} {ret : Option FieldType} {nm : String} {pc : Nat} (y na i : Nat) (hy : y < 225) (hna : mA y = na) (hcw : Cond.code (mN y) (mB y) (mL y) (mR y) ∈ TT) (hrn : mR y = none) (hni : (mN y).name = "<init>") (hl : Cond.methodLink own i (mN y) ∈ TT) (hin : Cond.instanceMethod (mN y) ∈ TT) (hc0 : (y == yFRESH) = false ∧ costT y = (0, 0)) (hdg : decode cc pc = .ok (.invokespecial i, 3)) : Snd cc nL own ret nm pc (oCallI y (na + 1)) := by
  intro p l e R s m args below meth c D A h0 ad0 cd0 lim Qz d K Q c0 C hK hE ls st h w ad cd H locs lsM iv hlv hll hlo hst
  obtain ⟨hx, hb, hml, hown, hts, hrt, hlk, hnm, hxk, hKK, hA, hR⟩ := C
  dsimp only [oCallI] at w
  have w1 := w
  clear w
  obtain ⟨b, s2, rfl, hbl, w⟩ := pN_x _ _ _ w1
  clear w1
  rw [List.append_nil] at w
  obtain ⟨h4, hhd, w⟩ := rl_x _ _ w
  obtain ⟨hsb, hs2⟩ := st_ok hst
  obtain ⟨a, b2, rfl, hka⟩ : ∃ a b2, b = .ref a :: b2 ∧ kd a < 9 := by
    unfold hdO at hhd
    split at hhd
    · exact ⟨_, _, rfl, hhd⟩
    · exact hhd.elim
  have hM := hK y (.ref a :: b2) h _ D ad cd H.size hy w hsb
  have hmh := mh_ok y hy
  have hmi : Cond.initialized (mN y).cls ∈ TT := TT_of _ (mini_ok y hy) rfl
  have hna2 : mA y = b2.length := by
    have : b2.length + 1 = na + 1 := by rw [← hbl]; rfl
    omega
  rw [hna2] at hmh
  have cw := cwI (R := R) (s := s) (args := args) (ws := WS y) (rm := rmd d (cost y (.ref a :: b2))) b2.length hts (own := own) (index := i) (maxL := mL y) (bytes := mB y) (GIn (ws := []) hcw (fun w hw => by cases hw)) (by rw [← hrn]; rfl) rfl rfl (hts _ (List.mem_cons_of_mem _ hmi)) (hts _ (List.mem_cons_of_mem _ hl)) (hts _ (List.mem_cons_of_mem _ hin)) hni hmh (rooms hy _ hR.2.2)
  have hr := va_runI (b := ad a) (As := b2.map (conc ad)) (rest := s2.map (conc ad)) (H := H) (locs := locs) (cells := h.2.2.2.1 - h0.2.2.2.1) (slots := h.2.2.2.2 - h0.2.2.2.2) (p := p) (e := e) (below := below) (meth := meth) (g := F0 m pc lsM (((Value.ref a :: b2).reverse ++ s2).map (conc ad))) ⟨hx, hb, hml, hown, hts⟩ hM cw ⟨Pc1_fb, Pc1_of iv.1 hKK hxk⟩ rfl (by rw [List.length_map]) hlv.1 (by rw [st_mp, List.map_cons, List.reverse_cons, List.append_assoc]; rfl) (st_rm h4) hdg ⟨?_, ?_⟩
  · exact run_go hr hA iv (by rw [cost0 hc0.1 hc0.2]; exact iv.2.2.2.2) hlv hll hlo hs2 (fun r h2 q => q)
  · rw [cost0 hc0.1 hc0.2]
    have h9 := iv.2.2.2.2.1
    have := hR.1
    show _ - _ + 0 ≤ _
    omega
  · rw [cost0 hc0.1 hc0.2]
    have h9 := iv.2.2.2.2.2
    have := hR.2.1
    show _ - _ + 0 ≤ _
    omega
theorem sd_callIA {cc : ByteArray} {nL : Nat} {own : String} {ret : Option FieldType} {nm : String} {pc : Nat} (y na i : Nat) (hy : y < 225) (hna : mA y = na) (hcw : Cond.code (mN y) (mB y) (mL y) (mR y) ∈ TT) (hrn : mR y = none) (hni : (mN y).name = "<init>") (hl : Cond.methodLink own i (mN y) ∈ TT) (hin : Cond.instanceMethod (mN y) ∈ TT) (hdg : decode cc pc = .ok (.invokespecial i, 3)) : Snd cc nL own ret nm pc (oCallIA y (na + 1)) := by
  intro p l e R s m args below meth c D A h0 ad0 cd0 lim Qz d K Q c0 C hK hE ls st h w ad cd H locs lsM iv hlv hll hlo hst
  obtain ⟨hx, hb, hml, hown, hts, hrt, hlk, hnm, hxk, hKK, hA, hR⟩ := C
  dsimp only [oCallIA] at w
  have w1 := w
  clear w
  obtain ⟨b, s2, rfl, hbl, w⟩ := pN_x _ _ _ w1
  clear w1
  rw [List.append_nil] at w
  obtain ⟨h4, hhd, hcst, w⟩ := rl_x _ _ w
  obtain ⟨hsb, hs2⟩ := st_ok hst
  obtain ⟨a, b2, rfl, hka⟩ : ∃ a b2, b = .ref a :: b2 ∧ kd a < 9 := by
    unfold hdO at hhd
    split at hhd
    · exact ⟨_, _, rfl, hhd⟩
    · exact hhd.elim
  have hM := hK y (.ref a :: b2) h _ D ad cd H.size hy w hsb
  have hmh := mh_ok y hy
  have hmi : Cond.initialized (mN y).cls ∈ TT := TT_of _ (mini_ok y hy) rfl
  have hna2 : mA y = b2.length := by
    have : b2.length + 1 = na + 1 := by rw [← hbl]; rfl
    omega
  rw [hna2] at hmh
  have cw := cwI (R := R) (s := s) (args := args) (ws := WS y) (rm := rmd d (cost y (.ref a :: b2))) b2.length hts (own := own) (index := i) (maxL := mL y) (bytes := mB y) (GIn (ws := []) hcw (fun w hw => by cases hw)) (by rw [← hrn]; rfl) rfl rfl (hts _ (List.mem_cons_of_mem _ hmi)) (hts _ (List.mem_cons_of_mem _ hl)) (hts _ (List.mem_cons_of_mem _ hin)) hni hmh (rooms hy _ hR.2.2)
  have hr := va_runI (b := ad a) (As := b2.map (conc ad)) (rest := s2.map (conc ad)) (H := H) (locs := locs) (cells := h.2.2.2.1 - h0.2.2.2.1) (slots := h.2.2.2.2 - h0.2.2.2.2) (p := p) (e := e) (below := below) (meth := meth) (g := F0 m pc lsM (((Value.ref a :: b2).reverse ++ s2).map (conc ad))) ⟨hx, hb, hml, hown, hts⟩ hM cw ⟨Pc1_fb, Pc1_of iv.1 hKK hxk⟩ rfl (by rw [List.length_map]) hlv.1 (by rw [st_mp, List.map_cons, List.reverse_cons, List.append_assoc]; rfl) (st_rm h4) hdg ⟨?_, ?_⟩
  · exact run_go hr hA iv hcst hlv hll hlo hs2 (fun r h2 q => q)
  · have h9 := iv.2.2.2.1.1
    have := hR.1
    have := hcst.1
    omega
  · have h9 := iv.2.2.2.1.2
    have := hR.2.1
    have := hcst.2
    omega
theorem sd_callIN {cc : ByteArray} {nL : Nat} {own : String} {ret : Option FieldType} {nm : String} {pc : Nat} (y na i : Nat) (hy : y < 225) (hna : mA y = na) (hcw : Cond.code (mN y) (mB y) (mL y) (mR y) ∈ TT) (hrn : mR y = none) (hni : (mN y).name = "<init>") (hl : (own, i, mN y, "QuaternionNet") ∈ nMw) (hin : Cond.instanceMethod (mN y) ∈ TT) (hc0 : (y == yFRESH) = false ∧ costT y = (0, 0)) (hdg : decode cc pc = .ok (.invokespecial i, 3)) : Snd cc nL own ret nm pc (oCallI y (na + 1)) := by
  intro p l e R s m args below meth c D A h0 ad0 cd0 lim Qz d K Q c0 C hK hE ls st h w ad cd H locs lsM iv hlv hll hlo hst
  obtain ⟨hx, hb, hml, hown, hts, hrt, hlk, hnm, hxk, hKK, hA, hR⟩ := C
  dsimp only [oCallI] at w
  have w1 := w
  clear w
  obtain ⟨b, s2, rfl, hbl, w⟩ := pN_x _ _ _ w1
  clear w1
  rw [List.append_nil] at w
  obtain ⟨h4, hhd, w⟩ := rl_x _ _ w
  obtain ⟨hsb, hs2⟩ := st_ok hst
  obtain ⟨a, b2, rfl, hka⟩ : ∃ a b2, b = .ref a :: b2 ∧ kd a < 9 := by
    unfold hdO at hhd
    split at hhd
    · exact ⟨_, _, rfl, hhd⟩
    · exact hhd.elim
  have hM := hK y (.ref a :: b2) h _ D ad cd H.size hy w hsb
  have hmh := mh_ok y hy
  have hmi : Cond.initialized (mN y).cls ∈ TT := TT_of _ (mini_ok y hy) rfl
  have hna2 : mA y = b2.length := by
    have : b2.length + 1 = na + 1 := by rw [← hbl]; rfl
    omega
  rw [hna2] at hmh
  have cb := va_cnB (R := R) (s := s) (args := args) (own := own) (index := i) (host := "QuaternionNet") (bytes := mB y) (maxL := mL y) (ret := none) (ws := WS y) (rm := rmd d (cost y (.ref a :: b2))) b2.length hts (GIn (ws := []) hcw (fun w hw => by cases hw)) (by rw [← hrn]; rfl) rfl rfl (hxk.2.1 _ hl) (hts _ (List.mem_cons_of_mem _ hmi)) hmh (rooms hy _ hR.2.2)
  have hr := va_runIN (b := ad a) (As := b2.map (conc ad)) (rest := s2.map (conc ad)) (H := H) (locs := locs) (cells := h.2.2.2.1 - h0.2.2.2.1) (slots := h.2.2.2.2 - h0.2.2.2.2) (p := p) (e := e) (below := below) (meth := meth) (g := F0 m pc lsM (((Value.ref a :: b2).reverse ++ s2).map (conc ad))) ⟨hx, hb, hml, hown, hts⟩ hM ⟨cb, hni, hts _ (List.mem_cons_of_mem _ hin)⟩ ⟨Pc1_fb, Pc1_of iv.1 hKK hxk⟩ rfl (by rw [List.length_map]) hlv.1 (by rw [st_mp, List.map_cons, List.reverse_cons, List.append_assoc]; rfl) (st_rm h4) hdg ⟨?_, ?_⟩
  · exact run_go hr hA iv (by rw [cost0 hc0.1 hc0.2]; exact iv.2.2.2.2) hlv hll hlo hs2 (fun r h2 q => q)
  · rw [cost0 hc0.1 hc0.2]
    have h9 := iv.2.2.2.2.1
    have := hR.1
    show _ - _ + 0 ≤ _
    omega
  · rw [cost0 hc0.1 hc0.2]
    have h9 := iv.2.2.2.2.2
    have := hR.2.1
    show _ - _ + 0 ≤ _
    omega
theorem sd_callINA {cc : ByteArray} {nL : Nat} {own : String} {ret : Option FieldType} {nm : String} {pc : Nat} (y na i : Nat) (hy : y < 225) (hna : mA y = na) (hcw : Cond.code (mN y) (mB y) (mL y) (mR y) ∈ TT) (hrn : mR y = none) (hni : (mN y).name = "<init>") (hl : (own, i, mN y, "QuaternionNet") ∈ nMw) (hin : Cond.instanceMethod (mN y) ∈ TT) (hdg : decode cc pc = .ok (.invokespecial i, 3)) : Snd cc nL own ret nm pc (oCallIA y (na + 1)) := by
  intro p l e R s m args below meth c D A h0 ad0 cd0 lim Qz d K Q c0 C hK hE ls st h w ad cd H locs lsM iv hlv hll hlo hst
  obtain ⟨hx, hb, hml, hown, hts, hrt, hlk, hnm, hxk, hKK, hA, hR⟩ := C
  dsimp only [oCallIA] at w
  have w1 := w
  clear w
  obtain ⟨b, s2, rfl, hbl, w⟩ := pN_x _ _ _ w1
  clear w1
  rw [List.append_nil] at w
  obtain ⟨h4, hhd, hcst, w⟩ := rl_x _ _ w
  obtain ⟨hsb, hs2⟩ := st_ok hst
  obtain ⟨a, b2, rfl, hka⟩ : ∃ a b2, b = .ref a :: b2 ∧ kd a < 9 := by
    unfold hdO at hhd
    split at hhd
    · exact ⟨_, _, rfl, hhd⟩
    · exact hhd.elim
  have hM := hK y (.ref a :: b2) h _ D ad cd H.size hy w hsb
  have hmh := mh_ok y hy
  have hmi : Cond.initialized (mN y).cls ∈ TT := TT_of _ (mini_ok y hy) rfl
  have hna2 : mA y = b2.length := by
    have : b2.length + 1 = na + 1 := by rw [← hbl]; rfl
    omega
  rw [hna2] at hmh
  have cb := va_cnB (R := R) (s := s) (args := args) (own := own) (index := i) (host := "QuaternionNet") (bytes := mB y) (maxL := mL y) (ret := none) (ws := WS y) (rm := rmd d (cost y (.ref a :: b2))) b2.length hts (GIn (ws := []) hcw (fun w hw => by cases hw)) (by rw [← hrn]; rfl) rfl rfl (hxk.2.1 _ hl) (hts _ (List.mem_cons_of_mem _ hmi)) hmh (rooms hy _ hR.2.2)
  have hr := va_runIN (b := ad a) (As := b2.map (conc ad)) (rest := s2.map (conc ad)) (H := H) (locs := locs) (cells := h.2.2.2.1 - h0.2.2.2.1) (slots := h.2.2.2.2 - h0.2.2.2.2) (p := p) (e := e) (below := below) (meth := meth) (g := F0 m pc lsM (((Value.ref a :: b2).reverse ++ s2).map (conc ad))) ⟨hx, hb, hml, hown, hts⟩ hM ⟨cb, hni, hts _ (List.mem_cons_of_mem _ hin)⟩ ⟨Pc1_fb, Pc1_of iv.1 hKK hxk⟩ rfl (by rw [List.length_map]) hlv.1 (by rw [st_mp, List.map_cons, List.reverse_cons, List.append_assoc]; rfl) (st_rm h4) hdg ⟨?_, ?_⟩
  · exact run_go hr hA iv hcst hlv hll hlo hs2 (fun r h2 q => q)
  · have h9 := iv.2.2.2.1.1
    have := hR.1
    have := hcst.1
    omega
  · have h9 := iv.2.2.2.1.2
    have := hR.2.1
    have := hcst.2
    omega
theorem sd_callSA {cc : ByteArray} {nL : Nat} {own : String} {ret : Option FieldType} {nm : String} {pc : Nat} (y na i : Nat) (hy : y < 225) (hna : mA y = na) (hcw : Cond.code (mN y) (mB y) (mL y) (mR y) ∈ TT) (hl : Cond.methodLink own i (mN y) ∈ TT) (hs : Cond.static (mN y) ∈ TT) (hdg : decode cc pc = .ok (.invokestatic i, 3)) : Snd cc nL own ret nm pc (oCallA y na) := by
  intro p l e R s m args below meth c D A h0 ad0 cd0 lim Qz d K Q c0 C hK hE ls st h w ad cd H locs lsM iv hlv hll hlo hst
  obtain ⟨hx, hb, hml, hown, hts, hrt, hlk, hnm, hxk, hKK, hA, hR⟩ := C
  dsimp only [oCallA] at w
  have w1 := w
  clear w
  obtain ⟨b, s2, rfl, hbl, w⟩ := pN_x _ _ _ w1
  clear w1
  rw [List.append_nil] at w
  obtain ⟨h4, hcst, w⟩ := rl_x _ _ w
  obtain ⟨hsb, hs2⟩ := st_ok hst
  have hM := hK y b h _ D ad cd H.size hy w hsb
  have hmh := mh_ok y hy
  rw [hna] at hmh
  have hmi : Cond.initialized (mN y).cls ∈ TT := TT_of _ (mini_ok y hy) rfl
  have cw := va_cwS (R := R) (s := s) (args := args) (ws := WS y) (rm := rmd d (cost y b)) na hts (own := own) (index := i) (GIn hcw (fun w hw => by
    rcases List.mem_cons.mp hw with rfl | hw
    · exact hl
    rcases List.mem_cons.mp hw with rfl | hw
    · exact hs
    rcases List.mem_cons.mp hw with rfl | hw
    · exact hmi
    cases hw)) rfl rfl rfl hmh (rooms hy _ hR.2.2)
  have hr := va_runS (As := b.map (conc ad)) (rest := s2.map (conc ad)) (H := H) (locs := locs) (cells := h.2.2.2.1 - h0.2.2.2.1) (slots := h.2.2.2.2 - h0.2.2.2.2) (p := p) (e := e) (below := below) (meth := meth) (g := F0 m pc lsM ((b.reverse ++ s2).map (conc ad))) ⟨hx, hb, hml, hown, hts⟩ hM cw ⟨Pc1_fb, Pc1_of iv.1 hKK hxk⟩ rfl (by rw [List.length_map, hbl]) hlv.1 st_mp (st_rm h4) hdg ⟨?_, ?_⟩
  · exact run_go hr hA iv hcst hlv hll hlo hs2 (fun r h2 q => q)
  · have h9 := iv.2.2.2.1.1
    have := hR.1
    have := hcst.1
    omega
  · have h9 := iv.2.2.2.1.2
    have := hR.2.1
    have := hcst.2
    omega
theorem sd_obj {cc : ByteArray} {nL : Nat} {own : String} {ret : Option FieldType} {nm : String} {pc : Nat} (i : Nat) (hl : Cond.methodLink own i Lib.objectInit ∈ TT) (hin : Cond.instanceMethod Lib.objectInit ∈ TT) (hco : Cond.code Lib.objectInit ⟨#[0xb1]⟩ 1 none ∈ TT) (hdg : decode cc pc = .ok (.invokespecial i, 3)) : Snd cc nL own ret nm pc (oObj) := by
  intro p l e R s m args below meth c D A h0 ad0 cd0 lim Qz d K Q c0 C hK hE ls st h w ad cd H locs lsM iv hlv hll hlo hst
  obtain ⟨hx, hb, hml, hown, hts, hrt, hlk, hnm, hxk, hKK, hA, hR⟩ := C
  dsimp only [oObj] at w
  have w1 := w
  clear w
  obtain ⟨a, s2, rfl, w⟩ := pR_x w1
  clear w1
  obtain ⟨h4, w⟩ := rl_x _ _ w
  refine W.objInit hx hb hown (hts _ (List.mem_cons_of_mem _ hl)) (hts _ (List.mem_cons_of_mem _ hin)) (hts _ (List.mem_cons_of_mem _ hco)) rfl (by rw [hml]; exact hlv.1) rfl hdg (by have := hR.2.2.1; omega) (by
    have := st_rm (ad := ad) (m := m) (pc := pc) (lsM := lsM) (x := (Value.ref a :: s2).map (conc ad)) h4
    have h5 := hR.2.2.2
    omega) ?_
  exact w ad cd H locs lsM iv hlv hll hlo (okT hst)
theorem sd_copy {cc : ByteArray} {nL : Nat} {own : String} {ret : Option FieldType} {nm : String} {pc : Nat} (i : Nat) (hl : Cond.methodLink own i arraycopyName ∈ TT) (hn : Cond.native arraycopyName ∈ TT) (hs : Cond.static arraycopyName ∈ TT) (hi : Cond.initialized "java/lang/System" ∈ TT) (hdg : decode cc pc = .ok (.invokestatic i, 3)) : Snd cc nL own ret nm pc (oCopy) := by
  intro p l e R s m args below meth c D A h0 ad0 cd0 lim Qz d K Q c0 C hK hE ls st h w ad cd H locs lsM iv hlv hll hlo hst
  obtain ⟨hx, hb, hml, hown, hts, hrt, hlk, hnm, hxk, hKK, hA, hR⟩ := C
  dsimp only [oCopy] at w
  have w1 := w
  clear w
  obtain ⟨n, s2, rfl, w⟩ := pI_x w1
  clear w1
  have w1 := w
  clear w
  obtain ⟨dp, s3, rfl, w⟩ := pI_x w1
  clear w1
  have w1 := w
  clear w
  obtain ⟨b, s4, rfl, w⟩ := pR_x w1
  clear w1
  have w1 := w
  clear w
  obtain ⟨sp, s5, rfl, w⟩ := pI_x w1
  clear w1
  have w1 := w
  clear w
  obtain ⟨a, s6, rfl, w⟩ := pR_x w1
  clear w1
  obtain ⟨h4, ⟨⟨ha, hb2⟩, ⟨g1, g2, g3⟩, g4, g5⟩, w⟩ := rl_x _ _ w
  obtain ⟨⟨hP, hD, hKO, hWf⟩, hS, hadd, hmn, hlim⟩ := iv
  have hoa := okH (okT (okT (okT (okT hst))))
  have hob := okH (okT (okT hst))
  refine va_copyi (q0 := a) (q1 := b) (t0 := 0) (t1 := 1) hx hb (by rw [hml]; exact hlv.1.symm) hown (hts _ (List.mem_cons_of_mem _ hl)) (hts _ (List.mem_cons_of_mem _ hn)) (hts _ (List.mem_cons_of_mem _ hs)) (hts _ (List.mem_cons_of_mem _ hi)) (KO.at2 hKK hKO hoa hob ha hb2 (by decide)) hP hD hS (by rw [wd_at hoa, ent_ar (by omega), arrE_i ha]) (by rw [wd_at hob, ent_ar (by omega), arrE_i hb2]) rfl rfl rfl g1 g2 g3 g4 g5 (fun _ _ => rfl) (by have := hR.2.2.1; omega) (by
    have h7 := cat_le s6
    have h5 := hR.2.2.2
    rw [conc_sum]
    show _ + (7 + 11) ≤ _
    omega) hdg (fun H1 locs1 hP1 hD1 hS1 => ?_)
  rw [wd_iarr hb2] at hP1 hD1
  exact w ad cd H1 locs1 lsM ⟨⟨hP1, hD1, hKO, hWf⟩, hS1, hadd, hmn, hlim⟩ hlv hll hlo (okT (okT (okT (okT (okT hst)))))
