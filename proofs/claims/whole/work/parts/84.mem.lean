/-! the rows of fields, arrays and ends -/
theorem fk_ok : ∀ ci, ci < 9 → ∀ k, k < nf ci → (fk ci k = 0 → CTy ci k = .int) ∧ (fk ci k = 1 → CTy ci k = .boolean) ∧ (fk ci k = 3 → narrow (CTy ci k) (.ref 0) = .ref 0 ∧ fits (CTy ci k) (.ref 0) = true) := by decide +kernel
theorem nar_ref (t : FieldType) (a : Nat) (h : narrow t (.ref 0) = .ref 0 ∧ fits t (.ref 0) = true) : narrow t (.ref a) = .ref a ∧ fits t (.ref a) = true := by
  cases t <;> first | exact ⟨rfl, rfl⟩ | (exact absurd h.2 (by decide))
theorem def_ok : ∀ ci, ci < 9 → ∀ k, k < nf ci → defaultValue (CTy ci k) = if fk ci k = 3 then .null else .int 0 := by decide +kernel
theorem upd_s {f : Nat → Int32} {k : Nat} {x : Int32} : upd f k x k = x := if_pos rfl
theorem upd_n {f : Nat → Int32} {k j : Nat} {x : Int32} (h : ¬ j = k) : upd f k x j = f j := if_neg h
theorem vup_n {α : Type} {f : Nat → α} {k j : Nat} {x : α} (h : ¬ j = k) : va_up f k x j = f j := if_neg h
theorem wd_putI {ad : Nat → Nat} {cd : Nat → ClassId} {h : Mm} {a ci k : Nat} {x : Int32} (hk : kd a = ci) (hc : ci < 9) (hf : ¬ fk ci k = 3) : (wd ad cd h).set a (ad a, .inr (ci, (flds ad h ci a).set k (.int x))) = wd ad cd (wA h.1 a (upd (h.1 a) k x), h.2) := by
  refine wd_set rfl ?_ (fun b hb => ent_eq (wA_n hb) rfl rfl)
  rw [ent_ob hk hc, ← flds_set (h := h) (k := k) (v := .int x) (h' := (wA h.1 a (upd (h.1 a) k x), h.2))]
  · rw [if_neg hf]
    show Value.int (wA h.1 a (upd (h.1 a) k x) a k) = _
    rw [wA_s, upd_s]
  · intro j hj
    refine ⟨?_, rfl⟩
    show wA h.1 a (upd (h.1 a) k x) a j = _
    rw [wA_s, upd_n hj]
theorem wd_putR {ad : Nat → Nat} {cd : Nat → ClassId} {h : Mm} {a ci k b : Nat} (hk : kd a = ci) (hc : ci < 9) (hf : fk ci k = 3) : (wd ad cd h).set a (ad a, .inr (ci, (flds ad h ci a).set k (.ref (ad b)))) = wd ad cd (h.1, h.2.1, wA h.2.2.1 a (va_up (h.2.2.1 a) k (some b)), h.2.2.2) := by
  refine wd_set rfl ?_ (fun b hb => ent_eq rfl rfl (wA_n hb))
  rw [ent_ob hk hc, ← flds_set (h := h) (k := k) (v := .ref (ad b)) (h' := (h.1, h.2.1, wA h.2.2.1 a (va_up (h.2.2.1 a) k (some b)), h.2.2.2))]
  · rw [if_pos hf]
    show va_rf ((wA h.2.2.1 a (va_up (h.2.2.1 a) k (some b)) a k).map ad) = _
    rw [wA_s, va_up_self]
    rfl
  · intro j hj
    refine ⟨rfl, ?_⟩
    show wA h.2.2.1 a (va_up (h.2.2.1 a) k (some b)) a j = _
    rw [wA_s, vup_n hj]
theorem wd_iarr {ad : Nat → Nat} {cd : Nat → ClassId} {h : Mm} {a : Nat} {f : Nat → Int32} (hk : kd a = 10) : (wd ad cd h).set a (ad a, .inl (cd a, ln a, .inl f)) = wd ad cd (wA h.1 a f, h.2) := by
  refine wd_set rfl ?_ (fun b hb => ent_eq (wA_n hb) rfl rfl)
  rw [ent_ar (by omega), arrE_i hk]
  show Sum.inl (cd a, ln a, Sum.inl (wA h.1 a f a)) = _
  rw [wA_s]
theorem wd_larr {ad : Nat → Nat} {cd : Nat → ClassId} {h : Mm} {a : Nat} {f : Nat → Int64} (hk : kd a = 11) : (wd ad cd h).set a (ad a, .inl (cd a, ln a, .inr (.inl f))) = wd ad cd (h.1, wA h.2.1 a f, h.2.2) := by
  refine wd_set rfl ?_ (fun b hb => ent_eq rfl (wA_n hb) rfl)
  rw [ent_ar (by omega), arrE_l hk]
  show Sum.inl (cd a, ln a, Sum.inr (Sum.inl (wA h.2.1 a f a))) = _
  rw [wA_s]
theorem wd_aast {ad : Nat → Nat} {cd : Nat → ClassId} {h : Mm} {a k b : Nat} (hk : kd a = 12) : (wd ad cd h).set a (ad a, .inl (cd a, ln a, .inr (.inr (.inr (.inr (va_up (fun j => (h.2.2.1 a j).map ad) k (some (ad b)))))))) = wd ad cd (h.1, h.2.1, wA h.2.2.1 a (va_up (h.2.2.1 a) k (some b)), h.2.2.2) := by
  refine wd_set rfl ?_ (fun b hb => ent_eq rfl rfl (wA_n hb))
  rw [ent_ar (by omega), arrE_r (by omega)]
  refine congrArg (fun z => Sum.inl (cd a, ln a, Sum.inr (Sum.inr (Sum.inr (Sum.inr z))))) (funext fun j => ?_)
  show (wA h.2.2.1 a (va_up (h.2.2.1 a) k (some b)) a j).map ad = va_up (fun j => (h.2.2.1 a j).map ad) k (some (ad b)) j
  rw [wA_s]
  by_cases e : j = k
  · subst e
    rw [va_up_self, va_up_self]
    rfl
  · rw [vup_n e, vup_n e]
theorem Wf_put {h : Mm} {a k b : Nat} (w : Wf h) (hb : b < h.2.2.2.1) : Wf (h.1, h.2.1, wA h.2.2.1 a (va_up (h.2.2.1 a) k (some b)), h.2.2.2) := by
  intro x j y hx hy
  have hy2 : wA h.2.2.1 a (va_up (h.2.2.1 a) k (some b)) x j = some y := hy
  by_cases e : x = a
  · subst e
    rw [wA_s] at hy2
    by_cases e2 : j = k
    · subst e2
      rw [va_up_self] at hy2
      cases hy2
      exact hb
    · rw [vup_n e2] at hy2
      exact w x j y hx hy2
  · rw [wA_n e] at hy2
    exact w x j y hx hy2
theorem sd_getI {cc : ByteArray} {nL : Nat} {own : String} {ret : Option FieldType} {nm : String} {pc : Nat} (ci k i : Nat) (hc : ci < 9) (hk : k < nf ci) (hf : ¬ fk ci k = 3) (hl : Cond.fieldLink own i (CN ci) (CT ci k).2.1 (CT ci k).2.2.1 ∈ TT) (hdg : decode cc pc = .ok (.getfield i, 3)) : Snd cc nL own ret nm pc (oGetI ci k) := by
  intro p l e R s m args below meth c D A h0 ad0 cd0 lim Qz d K Q c0 C hK hE ls st h w ad cd H locs lsM iv hlv hll hlo hst
  obtain ⟨hx, hb, hml, hown, hts, hrt, hlk, hnm, hxk, hKK, hA, hR⟩ := C
  dsimp only [oGetI] at w
  have w1 := w
  clear w
  obtain ⟨a, s2, rfl, w⟩ := pR_x w1
  clear w1
  obtain ⟨⟨hP, hD, hKO, hWf⟩, hS, hadd, hmn, hlim⟩ := iv
  obtain ⟨ha, w⟩ := w
  refine va_get hx hb hts (fun w hw => List.mem_cons_of_mem _ (in_ok hc w hw)) hown hKK hP a (he := by rw [wd_at (okH hst), ent_ob ha hc]) (cl_at hc) k hk (hts _ (List.mem_cons_of_mem _ hl)) (fun x h9 => by rw [← dec_ok ci hc k hk]; exact h9) (v := .int (h.1 a k)) (by rw [flds_at hk]; exact congrArg some (if_neg hf)) hdg ?_
  exact w ad cd H locs lsM ⟨⟨hP, hD, hKO, hWf⟩, hS, hadd, hmn, hlim⟩ hlv hll hlo (okC okV_i (okT hst))
theorem sd_getR {cc : ByteArray} {nL : Nat} {own : String} {ret : Option FieldType} {nm : String} {pc : Nat} (ci k i : Nat) (hc : ci < 9) (hk : k < nf ci) (hf : fk ci k = 3) (hl : Cond.fieldLink own i (CN ci) (CT ci k).2.1 (CT ci k).2.2.1 ∈ TT) (hdg : decode cc pc = .ok (.getfield i, 3)) : Snd cc nL own ret nm pc (oGetR ci k) := by
  intro p l e R s m args below meth c D A h0 ad0 cd0 lim Qz d K Q c0 C hK hE ls st h w ad cd H locs lsM iv hlv hll hlo hst
  obtain ⟨hx, hb, hml, hown, hts, hrt, hlk, hnm, hxk, hKK, hA, hR⟩ := C
  dsimp only [oGetR] at w
  have w1 := w
  clear w
  obtain ⟨a, s2, rfl, w⟩ := pR_x w1
  clear w1
  obtain ⟨⟨hP, hD, hKO, hWf⟩, hS, hadd, hmn, hlim⟩ := iv
  obtain ⟨ha, w⟩ := w
  refine va_get hx hb hts (fun w hw => List.mem_cons_of_mem _ (in_ok hc w hw)) hown hKK hP a (he := by rw [wd_at (okH hst), ent_ob ha hc]) (cl_at hc) k hk (hts _ (List.mem_cons_of_mem _ hl)) (fun x h9 => by rw [← dec_ok ci hc k hk]; exact h9) (v := conc ad (va_rf (h.2.2.1 a k))) (by rw [flds_at hk]; exact congrArg some ((if_pos hf).trans conc_rf.symm)) hdg ?_
  exact w ad cd H locs lsM ⟨⟨hP, hD, hKO, hWf⟩, hS, hadd, hmn, hlim⟩ hlv hll hlo (okC (okV_rf hWf (okH hst)) (okT hst))
theorem sd_getIN {cc : ByteArray} {nL : Nat} {own : String} {ret : Option FieldType} {nm : String} {pc : Nat} (ci k i : Nat) (hc : ci < 9) (hk : k < nf ci) (hf : ¬ fk ci k = 3) (hl : (own, i, CN ci, (CT ci k).2.1, (CT ci k).2.2.1, "QuaternionNet") ∈ nFw) (hdg : decode cc pc = .ok (.getfield i, 3)) : Snd cc nL own ret nm pc (oGetI ci k) := by
  intro p l e R s m args below meth c D A h0 ad0 cd0 lim Qz d K Q c0 C hK hE ls st h w ad cd H locs lsM iv hlv hll hlo hst
  obtain ⟨hx, hb, hml, hown, hts, hrt, hlk, hnm, hxk, hKK, hA, hR⟩ := C
  dsimp only [oGetI] at w
  have w1 := w
  clear w
  obtain ⟨a, s2, rfl, w⟩ := pR_x w1
  clear w1
  obtain ⟨⟨hP, hD, hKO, hWf⟩, hS, hadd, hmn, hlim⟩ := iv
  obtain ⟨ha, w⟩ := w
  refine va_getN hx hb hts (fun w hw => List.mem_cons_of_mem _ (in_ok hc w hw)) hown hKK hP a (he := by rw [wd_at (okH hst), ent_ob ha hc]) (cl_at hc) k hk (va_Nw.use rfl (hxk.1 _ hl)) (fun x h9 => by rw [← dec_ok ci hc k hk]; exact h9) (v := .int (h.1 a k)) (by rw [flds_at hk]; exact congrArg some (if_neg hf)) hdg ?_
  exact w ad cd H locs lsM ⟨⟨hP, hD, hKO, hWf⟩, hS, hadd, hmn, hlim⟩ hlv hll hlo (okC okV_i (okT hst))
theorem sd_getRN {cc : ByteArray} {nL : Nat} {own : String} {ret : Option FieldType} {nm : String} {pc : Nat} (ci k i : Nat) (hc : ci < 9) (hk : k < nf ci) (hf : fk ci k = 3) (hl : (own, i, CN ci, (CT ci k).2.1, (CT ci k).2.2.1, "QuaternionNet") ∈ nFw) (hdg : decode cc pc = .ok (.getfield i, 3)) : Snd cc nL own ret nm pc (oGetR ci k) := by
  intro p l e R s m args below meth c D A h0 ad0 cd0 lim Qz d K Q c0 C hK hE ls st h w ad cd H locs lsM iv hlv hll hlo hst
  obtain ⟨hx, hb, hml, hown, hts, hrt, hlk, hnm, hxk, hKK, hA, hR⟩ := C
  dsimp only [oGetR] at w
  have w1 := w
  clear w
  obtain ⟨a, s2, rfl, w⟩ := pR_x w1
  clear w1
  obtain ⟨⟨hP, hD, hKO, hWf⟩, hS, hadd, hmn, hlim⟩ := iv
  obtain ⟨ha, w⟩ := w
  refine va_getN hx hb hts (fun w hw => List.mem_cons_of_mem _ (in_ok hc w hw)) hown hKK hP a (he := by rw [wd_at (okH hst), ent_ob ha hc]) (cl_at hc) k hk (va_Nw.use rfl (hxk.1 _ hl)) (fun x h9 => by rw [← dec_ok ci hc k hk]; exact h9) (v := conc ad (va_rf (h.2.2.1 a k))) (by rw [flds_at hk]; exact congrArg some ((if_pos hf).trans conc_rf.symm)) hdg ?_
  exact w ad cd H locs lsM ⟨⟨hP, hD, hKO, hWf⟩, hS, hadd, hmn, hlim⟩ hlv hll hlo (okC (okV_rf hWf (okH hst)) (okT hst))
theorem sd_putI {cc : ByteArray} {nL : Nat} {own : String} {ret : Option FieldType} {nm : String} {pc : Nat} (ci k i : Nat) (hc : ci < 9) (hk : k < nf ci) (hf : fk ci k = 0) (hfin : (CT ci k).2.2.2 = false) (hl : Cond.fieldLink own i (CN ci) (CT ci k).2.1 (CT ci k).2.2.1 ∈ TT) (hdg : decode cc pc = .ok (.putfield i, 3)) : Snd cc nL own ret nm pc (oPutI ci k) := by
  intro p l e R s m args below meth c D A h0 ad0 cd0 lim Qz d K Q c0 C hK hE ls st h w ad cd H locs lsM iv hlv hll hlo hst
  obtain ⟨hx, hb, hml, hown, hts, hrt, hlk, hnm, hxk, hKK, hA, hR⟩ := C
  dsimp only [oPutI] at w
  have w1 := w
  clear w
  obtain ⟨x, s2, rfl, w⟩ := pI_x w1
  clear w1
  have w1 := w
  clear w
  obtain ⟨a, s3, rfl, w⟩ := pR_x w1
  clear w1
  obtain ⟨⟨hP, hD, hKO, hWf⟩, hS, hadd, hmn, hlim⟩ := iv
  obtain ⟨ha, w⟩ := w
  have hty := fk_ok ci hc k hk
  refine va_put hx hb hts (fun w hw => List.mem_cons_of_mem _ (in_ok hc w hw)) (CTy ci) (fun k hk => ty_ok ci hc k hk) (fun a ha b hb => nm_ok ci hc a ha b hb) hown hKK hP hD hS a (he := by rw [wd_at (okH (okT hst)), ent_ob ha hc]) (cl_at hc) k hk (hts _ (List.mem_cons_of_mem _ hl)) (fun x h9 => by rw [← dec_ok ci hc k hk]; exact h9) hfin (ty_ok ci hc k hk) (by rw [hty.1 hf]; rfl) (by rw [hty.1 hf]; rfl) (by rw [flds_len]; exact hk) hdg (fun H1 locs1 hP1 hD1 hS1 => ?_)
  rw [show conc ad (.int x) = .int x from rfl, wd_putI ha hc (by omega)] at hP1 hD1
  exact w ad cd H1 locs1 lsM ⟨⟨hP1, hD1, hKO, hWf⟩, hS1, hadd, hmn, hlim⟩ hlv hll hlo (okT (okT hst))
theorem sd_putZ {cc : ByteArray} {nL : Nat} {own : String} {ret : Option FieldType} {nm : String} {pc : Nat} (ci k i : Nat) (hc : ci < 9) (hk : k < nf ci) (hf : fk ci k = 1) (hfin : (CT ci k).2.2.2 = false) (hl : Cond.fieldLink own i (CN ci) (CT ci k).2.1 (CT ci k).2.2.1 ∈ TT) (hdg : decode cc pc = .ok (.putfield i, 3)) : Snd cc nL own ret nm pc (oPutZ ci k) := by
  intro p l e R s m args below meth c D A h0 ad0 cd0 lim Qz d K Q c0 C hK hE ls st h w ad cd H locs lsM iv hlv hll hlo hst
  obtain ⟨hx, hb, hml, hown, hts, hrt, hlk, hnm, hxk, hKK, hA, hR⟩ := C
  dsimp only [oPutZ] at w
  have w1 := w
  clear w
  obtain ⟨x, s2, rfl, w⟩ := pI_x w1
  clear w1
  have w1 := w
  clear w
  obtain ⟨a, s3, rfl, w⟩ := pR_x w1
  clear w1
  obtain ⟨⟨hP, hD, hKO, hWf⟩, hS, hadd, hmn, hlim⟩ := iv
  obtain ⟨ha, hz, w⟩ := w
  have hty := fk_ok ci hc k hk
  refine va_put hx hb hts (fun w hw => List.mem_cons_of_mem _ (in_ok hc w hw)) (CTy ci) (fun k hk => ty_ok ci hc k hk) (fun a ha b hb => nm_ok ci hc a ha b hb) hown hKK hP hD hS a (he := by rw [wd_at (okH (okT hst)), ent_ob ha hc]) (cl_at hc) k hk (hts _ (List.mem_cons_of_mem _ hl)) (fun x h9 => by rw [← dec_ok ci hc k hk]; exact h9) hfin (ty_ok ci hc k hk) (by rw [hty.2.1 hf]; rcases hz with rfl | rfl <;> rfl) (by rw [hty.2.1 hf]; rcases hz with rfl | rfl <;> rfl) (by rw [flds_len]; exact hk) hdg (fun H1 locs1 hP1 hD1 hS1 => ?_)
  rw [show conc ad (.int x) = .int x from rfl, wd_putI ha hc (by omega)] at hP1 hD1
  exact w ad cd H1 locs1 lsM ⟨⟨hP1, hD1, hKO, hWf⟩, hS1, hadd, hmn, hlim⟩ hlv hll hlo (okT (okT hst))
theorem sd_putR {cc : ByteArray} {nL : Nat} {own : String} {ret : Option FieldType} {nm : String} {pc : Nat} (ci k i : Nat) (hc : ci < 9) (hk : k < nf ci) (hf : fk ci k = 3) (hfin : (CT ci k).2.2.2 = false) (hl : Cond.fieldLink own i (CN ci) (CT ci k).2.1 (CT ci k).2.2.1 ∈ TT) (hdg : decode cc pc = .ok (.putfield i, 3)) : Snd cc nL own ret nm pc (oPutR ci k) := by
  intro p l e R s m args below meth c D A h0 ad0 cd0 lim Qz d K Q c0 C hK hE ls st h w ad cd H locs lsM iv hlv hll hlo hst
  obtain ⟨hx, hb, hml, hown, hts, hrt, hlk, hnm, hxk, hKK, hA, hR⟩ := C
  dsimp only [oPutR] at w
  have w1 := w
  clear w
  obtain ⟨x, s2, rfl, w⟩ := pR_x w1
  clear w1
  have w1 := w
  clear w
  obtain ⟨a, s3, rfl, w⟩ := pR_x w1
  clear w1
  obtain ⟨⟨hP, hD, hKO, hWf⟩, hS, hadd, hmn, hlim⟩ := iv
  obtain ⟨ha, w⟩ := w
  have hty := fk_ok ci hc k hk
  refine va_put hx hb hts (fun w hw => List.mem_cons_of_mem _ (in_ok hc w hw)) (CTy ci) (fun k hk => ty_ok ci hc k hk) (fun a ha b hb => nm_ok ci hc a ha b hb) hown hKK hP hD hS a (he := by rw [wd_at (okH (okT hst)), ent_ob ha hc]) (cl_at hc) k hk (hts _ (List.mem_cons_of_mem _ hl)) (fun x h9 => by rw [← dec_ok ci hc k hk]; exact h9) hfin (ty_ok ci hc k hk) (nar_ref _ (ad x) (hty.2.2 hf)).1 (nar_ref _ (ad x) (hty.2.2 hf)).2 (by rw [flds_len]; exact hk) hdg (fun H1 locs1 hP1 hD1 hS1 => ?_)
  rw [show conc ad (.ref x) = .ref (ad x) from rfl, wd_putR ha hc hf] at hP1 hD1
  exact w ad cd H1 locs1 lsM ⟨⟨hP1, hD1, hKO, (Wf_put hWf (okH hst))⟩, hS1, hadd, hmn, hlim⟩ hlv hll hlo (okT (okT hst))
theorem sd_putIN {cc : ByteArray} {nL : Nat} {own : String} {ret : Option FieldType} {nm : String} {pc : Nat} (ci k i : Nat) (hc : ci < 9) (hk : k < nf ci) (hf : fk ci k = 0) (hfin : (CT ci k).2.2.2 = false) (hl : (own, i, CN ci, (CT ci k).2.1, (CT ci k).2.2.1, "QuaternionNet") ∈ nFw) (hdg : decode cc pc = .ok (.putfield i, 3)) : Snd cc nL own ret nm pc (oPutI ci k) := by
  intro p l e R s m args below meth c D A h0 ad0 cd0 lim Qz d K Q c0 C hK hE ls st h w ad cd H locs lsM iv hlv hll hlo hst
  obtain ⟨hx, hb, hml, hown, hts, hrt, hlk, hnm, hxk, hKK, hA, hR⟩ := C
  dsimp only [oPutI] at w
  have w1 := w
  clear w
  obtain ⟨x, s2, rfl, w⟩ := pI_x w1
  clear w1
  have w1 := w
  clear w
  obtain ⟨a, s3, rfl, w⟩ := pR_x w1
  clear w1
  obtain ⟨⟨hP, hD, hKO, hWf⟩, hS, hadd, hmn, hlim⟩ := iv
  obtain ⟨ha, w⟩ := w
  have hty := fk_ok ci hc k hk
  refine va_putN hx hb hts (fun w hw => List.mem_cons_of_mem _ (in_ok hc w hw)) (CTy ci) (fun k hk => ty_ok ci hc k hk) (fun a ha b hb => nm_ok ci hc a ha b hb) hown hKK hP hD hS a (he := by rw [wd_at (okH (okT hst)), ent_ob ha hc]) (cl_at hc) k hk (va_Nw.use rfl (hxk.1 _ hl)) (fun x h9 => by rw [← dec_ok ci hc k hk]; exact h9) hfin (ty_ok ci hc k hk) (by rw [hty.1 hf]; rfl) (by rw [hty.1 hf]; rfl) (by rw [flds_len]; exact hk) hdg (fun H1 locs1 hP1 hD1 hS1 => ?_)
  rw [show conc ad (.int x) = .int x from rfl, wd_putI ha hc (by omega)] at hP1 hD1
  exact w ad cd H1 locs1 lsM ⟨⟨hP1, hD1, hKO, hWf⟩, hS1, hadd, hmn, hlim⟩ hlv hll hlo (okT (okT hst))
theorem sd_putZN {cc : ByteArray} {nL : Nat} {own : String} {ret : Option FieldType} {nm : String} {pc : Nat} (ci k i : Nat) (hc : ci < 9) (hk : k < nf ci) (hf : fk ci k = 1) (hfin : (CT ci k).2.2.2 = false) (hl : (own, i, CN ci, (CT ci k).2.1, (CT ci k).2.2.1, "QuaternionNet") ∈ nFw) (hdg : decode cc pc = .ok (.putfield i, 3)) : Snd cc nL own ret nm pc (oPutZ ci k) := by
  intro p l e R s m args below meth c D A h0 ad0 cd0 lim Qz d K Q c0 C hK hE ls st h w ad cd H locs lsM iv hlv hll hlo hst
  obtain ⟨hx, hb, hml, hown, hts, hrt, hlk, hnm, hxk, hKK, hA, hR⟩ := C
  dsimp only [oPutZ] at w
  have w1 := w
  clear w
  obtain ⟨x, s2, rfl, w⟩ := pI_x w1
  clear w1
  have w1 := w
  clear w
  obtain ⟨a, s3, rfl, w⟩ := pR_x w1
  clear w1
  obtain ⟨⟨hP, hD, hKO, hWf⟩, hS, hadd, hmn, hlim⟩ := iv
  obtain ⟨ha, hz, w⟩ := w
  have hty := fk_ok ci hc k hk
  refine va_putN hx hb hts (fun w hw => List.mem_cons_of_mem _ (in_ok hc w hw)) (CTy ci) (fun k hk => ty_ok ci hc k hk) (fun a ha b hb => nm_ok ci hc a ha b hb) hown hKK hP hD hS a (he := by rw [wd_at (okH (okT hst)), ent_ob ha hc]) (cl_at hc) k hk (va_Nw.use rfl (hxk.1 _ hl)) (fun x h9 => by rw [← dec_ok ci hc k hk]; exact h9) hfin (ty_ok ci hc k hk) (by rw [hty.2.1 hf]; rcases hz with rfl | rfl <;> rfl) (by rw [hty.2.1 hf]; rcases hz with rfl | rfl <;> rfl) (by rw [flds_len]; exact hk) hdg (fun H1 locs1 hP1 hD1 hS1 => ?_)
  rw [show conc ad (.int x) = .int x from rfl, wd_putI ha hc (by omega)] at hP1 hD1
  exact w ad cd H1 locs1 lsM ⟨⟨hP1, hD1, hKO, hWf⟩, hS1, hadd, hmn, hlim⟩ hlv hll hlo (okT (okT hst))
theorem sd_putRN {cc : ByteArray} {nL : Nat} {own : String} {ret : Option FieldType} {nm : String} {pc : Nat} (ci k i : Nat) (hc : ci < 9) (hk : k < nf ci) (hf : fk ci k = 3) (hfin : (CT ci k).2.2.2 = false) (hl : (own, i, CN ci, (CT ci k).2.1, (CT ci k).2.2.1, "QuaternionNet") ∈ nFw) (hdg : decode cc pc = .ok (.putfield i, 3)) : Snd cc nL own ret nm pc (oPutR ci k) := by
  intro p l e R s m args below meth c D A h0 ad0 cd0 lim Qz d K Q c0 C hK hE ls st h w ad cd H locs lsM iv hlv hll hlo hst
  obtain ⟨hx, hb, hml, hown, hts, hrt, hlk, hnm, hxk, hKK, hA, hR⟩ := C
  dsimp only [oPutR] at w
  have w1 := w
  clear w
  obtain ⟨x, s2, rfl, w⟩ := pR_x w1
  clear w1
  have w1 := w
  clear w
  obtain ⟨a, s3, rfl, w⟩ := pR_x w1
  clear w1
  obtain ⟨⟨hP, hD, hKO, hWf⟩, hS, hadd, hmn, hlim⟩ := iv
  obtain ⟨ha, w⟩ := w
  have hty := fk_ok ci hc k hk
  refine va_putN hx hb hts (fun w hw => List.mem_cons_of_mem _ (in_ok hc w hw)) (CTy ci) (fun k hk => ty_ok ci hc k hk) (fun a ha b hb => nm_ok ci hc a ha b hb) hown hKK hP hD hS a (he := by rw [wd_at (okH (okT hst)), ent_ob ha hc]) (cl_at hc) k hk (va_Nw.use rfl (hxk.1 _ hl)) (fun x h9 => by rw [← dec_ok ci hc k hk]; exact h9) hfin (ty_ok ci hc k hk) (nar_ref _ (ad x) (hty.2.2 hf)).1 (nar_ref _ (ad x) (hty.2.2 hf)).2 (by rw [flds_len]; exact hk) hdg (fun H1 locs1 hP1 hD1 hS1 => ?_)
  rw [show conc ad (.ref x) = .ref (ad x) from rfl, wd_putR ha hc hf] at hP1 hD1
  exact w ad cd H1 locs1 lsM ⟨⟨hP1, hD1, hKO, (Wf_put hWf (okH hst))⟩, hS1, hadd, hmn, hlim⟩ hlv hll hlo (okT (okT hst))
theorem sd_putIF {cc : ByteArray} {nL : Nat} {own : String} {ret : Option FieldType} {nm : String} {pc : Nat} (ci k i : Nat) (hc : ci < 9) (hk : k < nf ci) (hf : fk ci k = 0) (hfin : (CT ci k).2.2.2 = true) (hin : nm = "<init>") (hdc : CN ci = own) (hl : Cond.fieldLink own i (CN ci) (CT ci k).2.1 (CT ci k).2.2.1 ∈ TT) (hdg : decode cc pc = .ok (.putfield i, 3)) : Snd cc nL own ret nm pc (oPutI ci k) := by
  intro p l e R s m args below meth c D A h0 ad0 cd0 lim Qz d K Q c0 C hK hE ls st h w ad cd H locs lsM iv hlv hll hlo hst
  obtain ⟨hx, hb, hml, hown, hts, hrt, hlk, hnm, hxk, hKK, hA, hR⟩ := C
  dsimp only [oPutI] at w
  have w1 := w
  clear w
  obtain ⟨x, s2, rfl, w⟩ := pI_x w1
  clear w1
  have w1 := w
  clear w
  obtain ⟨a, s3, rfl, w⟩ := pR_x w1
  clear w1
  obtain ⟨⟨hP, hD, hKO, hWf⟩, hS, hadd, hmn, hlim⟩ := iv
  obtain ⟨ha, w⟩ := w
  have hty := fk_ok ci hc k hk
  refine va_putF hx hb hts (fun w hw => List.mem_cons_of_mem _ (in_ok hc w hw)) (CTy ci) (fun k hk => ty_ok ci hc k hk) (fun a ha b hb => nm_ok ci hc a ha b hb) hown hKK hP hD hS a (he := by rw [wd_at (okH (okT hst)), ent_ob ha hc]) (cl_at hc) k hk (hts _ (List.mem_cons_of_mem _ hl)) (fun x h9 => by rw [← dec_ok ci hc k hk]; exact h9) hfin (hnm.trans hin) ((dec_ok ci hc k hk).trans hdc) (ty_ok ci hc k hk) (by rw [hty.1 hf]; rfl) (by rw [hty.1 hf]; rfl) (by rw [flds_len]; exact hk) hdg (fun H1 locs1 hP1 hD1 hS1 => ?_)
  rw [show conc ad (.int x) = .int x from rfl, wd_putI ha hc (by omega)] at hP1 hD1
  exact w ad cd H1 locs1 lsM ⟨⟨hP1, hD1, hKO, hWf⟩, hS1, hadd, hmn, hlim⟩ hlv hll hlo (okT (okT hst))
theorem sd_putZF {cc : ByteArray} {nL : Nat} {own : String} {ret : Option FieldType} {nm : String} {pc : Nat} (ci k i : Nat) (hc : ci < 9) (hk : k < nf ci) (hf : fk ci k = 1) (hfin : (CT ci k).2.2.2 = true) (hin : nm = "<init>") (hdc : CN ci = own) (hl : Cond.fieldLink own i (CN ci) (CT ci k).2.1 (CT ci k).2.2.1 ∈ TT) (hdg : decode cc pc = .ok (.putfield i, 3)) : Snd cc nL own ret nm pc (oPutZ ci k) := by
  intro p l e R s m args below meth c D A h0 ad0 cd0 lim Qz d K Q c0 C hK hE ls st h w ad cd H locs lsM iv hlv hll hlo hst
  obtain ⟨hx, hb, hml, hown, hts, hrt, hlk, hnm, hxk, hKK, hA, hR⟩ := C
  dsimp only [oPutZ] at w
  have w1 := w
  clear w
  obtain ⟨x, s2, rfl, w⟩ := pI_x w1
  clear w1
  have w1 := w
  clear w
  obtain ⟨a, s3, rfl, w⟩ := pR_x w1
  clear w1
  obtain ⟨⟨hP, hD, hKO, hWf⟩, hS, hadd, hmn, hlim⟩ := iv
  obtain ⟨ha, hz, w⟩ := w
  have hty := fk_ok ci hc k hk
  refine va_putF hx hb hts (fun w hw => List.mem_cons_of_mem _ (in_ok hc w hw)) (CTy ci) (fun k hk => ty_ok ci hc k hk) (fun a ha b hb => nm_ok ci hc a ha b hb) hown hKK hP hD hS a (he := by rw [wd_at (okH (okT hst)), ent_ob ha hc]) (cl_at hc) k hk (hts _ (List.mem_cons_of_mem _ hl)) (fun x h9 => by rw [← dec_ok ci hc k hk]; exact h9) hfin (hnm.trans hin) ((dec_ok ci hc k hk).trans hdc) (ty_ok ci hc k hk) (by rw [hty.2.1 hf]; rcases hz with rfl | rfl <;> rfl) (by rw [hty.2.1 hf]; rcases hz with rfl | rfl <;> rfl) (by rw [flds_len]; exact hk) hdg (fun H1 locs1 hP1 hD1 hS1 => ?_)
  rw [show conc ad (.int x) = .int x from rfl, wd_putI ha hc (by omega)] at hP1 hD1
  exact w ad cd H1 locs1 lsM ⟨⟨hP1, hD1, hKO, hWf⟩, hS1, hadd, hmn, hlim⟩ hlv hll hlo (okT (okT hst))
theorem sd_putRF {cc : ByteArray} {nL : Nat} {own : String} {ret : Option FieldType} {nm : String} {pc : Nat} (ci k i : Nat) (hc : ci < 9) (hk : k < nf ci) (hf : fk ci k = 3) (hfin : (CT ci k).2.2.2 = true) (hin : nm = "<init>") (hdc : CN ci = own) (hl : Cond.fieldLink own i (CN ci) (CT ci k).2.1 (CT ci k).2.2.1 ∈ TT) (hdg : decode cc pc = .ok (.putfield i, 3)) : Snd cc nL own ret nm pc (oPutR ci k) := by
  intro p l e R s m args below meth c D A h0 ad0 cd0 lim Qz d K Q c0 C hK hE ls st h w ad cd H locs lsM iv hlv hll hlo hst
  obtain ⟨hx, hb, hml, hown, hts, hrt, hlk, hnm, hxk, hKK, hA, hR⟩ := C
  dsimp only [oPutR] at w
  have w1 := w
  clear w
  obtain ⟨x, s2, rfl, w⟩ := pR_x w1
  clear w1
  have w1 := w
  clear w
  obtain ⟨a, s3, rfl, w⟩ := pR_x w1
  clear w1
  obtain ⟨⟨hP, hD, hKO, hWf⟩, hS, hadd, hmn, hlim⟩ := iv
  obtain ⟨ha, w⟩ := w
  have hty := fk_ok ci hc k hk
  refine va_putF hx hb hts (fun w hw => List.mem_cons_of_mem _ (in_ok hc w hw)) (CTy ci) (fun k hk => ty_ok ci hc k hk) (fun a ha b hb => nm_ok ci hc a ha b hb) hown hKK hP hD hS a (he := by rw [wd_at (okH (okT hst)), ent_ob ha hc]) (cl_at hc) k hk (hts _ (List.mem_cons_of_mem _ hl)) (fun x h9 => by rw [← dec_ok ci hc k hk]; exact h9) hfin (hnm.trans hin) ((dec_ok ci hc k hk).trans hdc) (ty_ok ci hc k hk) (nar_ref _ (ad x) (hty.2.2 hf)).1 (nar_ref _ (ad x) (hty.2.2 hf)).2 (by rw [flds_len]; exact hk) hdg (fun H1 locs1 hP1 hD1 hS1 => ?_)
  rw [show conc ad (.ref x) = .ref (ad x) from rfl, wd_putR ha hc hf] at hP1 hD1
  exact w ad cd H1 locs1 lsM ⟨⟨hP1, hD1, hKO, (Wf_put hWf (okH hst))⟩, hS1, hadd, hmn, hlim⟩ hlv hll hlo (okT (okT hst))
theorem sd_iald {cc : ByteArray} {nL : Nat} {own : String} {ret : Option FieldType} {nm : String} {pc : Nat} (hdg : decode cc pc = .ok (.iaload, 1)) : Snd cc nL own ret nm pc (oIald) := by
  intro p l e R s m args below meth c D A h0 ad0 cd0 lim Qz d K Q c0 C hK hE ls st h w ad cd H locs lsM iv hlv hll hlo hst
  obtain ⟨hx, hb, hml, hown, hts, hrt, hlk, hnm, hxk, hKK, hA, hR⟩ := C
  dsimp only [oIald] at w
  have w1 := w
  clear w
  obtain ⟨i, s2, rfl, w⟩ := pI_x w1
  clear w1
  have w1 := w
  clear w
  obtain ⟨a, s3, rfl, w⟩ := pR_x w1
  clear w1
  obtain ⟨⟨hP, hD, hKO, hWf⟩, hS, hadd, hmn, hlim⟩ := iv
  obtain ⟨ha, hi, w⟩ := w
  refine va_iald hx hb (KO.at hKK hKO (okH (okT hst)) ha (by decide)) hP a 0 (ha := by rw [wd_at (okH (okT hst)), ent_ar (by omega), arrE_i ha]) (ht := rfl) hi hdg ?_
  exact w ad cd H locs lsM ⟨⟨hP, hD, hKO, hWf⟩, hS, hadd, hmn, hlim⟩ hlv hll hlo (okC okV_i (okT (okT hst)))
theorem sd_lald {cc : ByteArray} {nL : Nat} {own : String} {ret : Option FieldType} {nm : String} {pc : Nat} (hdg : decode cc pc = .ok (.laload, 1)) : Snd cc nL own ret nm pc (oLald) := by
  intro p l e R s m args below meth c D A h0 ad0 cd0 lim Qz d K Q c0 C hK hE ls st h w ad cd H locs lsM iv hlv hll hlo hst
  obtain ⟨hx, hb, hml, hown, hts, hrt, hlk, hnm, hxk, hKK, hA, hR⟩ := C
  dsimp only [oLald] at w
  have w1 := w
  clear w
  obtain ⟨i, s2, rfl, w⟩ := pI_x w1
  clear w1
  have w1 := w
  clear w
  obtain ⟨a, s3, rfl, w⟩ := pR_x w1
  clear w1
  obtain ⟨⟨hP, hD, hKO, hWf⟩, hS, hadd, hmn, hlim⟩ := iv
  obtain ⟨ha, hi, w⟩ := w
  refine va_lald hx hb (KO.at hKK hKO (okH (okT hst)) ha (by decide)) hP a 0 (ha := by rw [wd_at (okH (okT hst)), ent_ar (by omega), arrE_l ha]) (ht := rfl) hi hdg ?_
  exact w ad cd H locs lsM ⟨⟨hP, hD, hKO, hWf⟩, hS, hadd, hmn, hlim⟩ hlv hll hlo (okC okV_l (okT (okT hst)))
theorem sd_aaldQ {cc : ByteArray} {nL : Nat} {own : String} {ret : Option FieldType} {nm : String} {pc : Nat} (hdg : decode cc pc = .ok (.aaload, 1)) : Snd cc nL own ret nm pc (oAald 12) := by
  intro p l e R s m args below meth c D A h0 ad0 cd0 lim Qz d K Q c0 C hK hE ls st h w ad cd H locs lsM iv hlv hll hlo hst
  obtain ⟨hx, hb, hml, hown, hts, hrt, hlk, hnm, hxk, hKK, hA, hR⟩ := C
  dsimp only [oAald] at w
  have w1 := w
  clear w
  obtain ⟨i, s2, rfl, w⟩ := pI_x w1
  clear w1
  have w1 := w
  clear w
  obtain ⟨a, s3, rfl, w⟩ := pR_x w1
  clear w1
  obtain ⟨⟨hP, hD, hKO, hWf⟩, hS, hadd, hmn, hlim⟩ := iv
  obtain ⟨ha, hi, w⟩ := w
  refine va_aldq (C := CN 3) hx hb (KO.at hKK hKO (okH (okT hst)) ha (by decide)) hP a 0 (ha := by rw [wd_at (okH (okT hst)), ent_ar (by omega), arrE_r (by omega)]) (ht := rfl) hi hdg ?_
  rw [← conc_rf]
  exact w ad cd H locs lsM ⟨⟨hP, hD, hKO, hWf⟩, hS, hadd, hmn, hlim⟩ hlv hll hlo (okC (okV_rf hWf (okH (okT hst))) (okT (okT hst)))
theorem sd_aaldR {cc : ByteArray} {nL : Nat} {own : String} {ret : Option FieldType} {nm : String} {pc : Nat} (hdg : decode cc pc = .ok (.aaload, 1)) : Snd cc nL own ret nm pc (oAald 13) := by
  intro p l e R s m args below meth c D A h0 ad0 cd0 lim Qz d K Q c0 C hK hE ls st h w ad cd H locs lsM iv hlv hll hlo hst
  obtain ⟨hx, hb, hml, hown, hts, hrt, hlk, hnm, hxk, hKK, hA, hR⟩ := C
  dsimp only [oAald] at w
  have w1 := w
  clear w
  obtain ⟨i, s2, rfl, w⟩ := pI_x w1
  clear w1
  have w1 := w
  clear w
  obtain ⟨a, s3, rfl, w⟩ := pR_x w1
  clear w1
  obtain ⟨⟨hP, hD, hKO, hWf⟩, hS, hadd, hmn, hlim⟩ := iv
  obtain ⟨ha, hi, w⟩ := w
  have hlt : i.toNatClampNeg < ln a := Nat.not_le.mp fun q => hi (Or.inr q)
  have hK1 := (hKO a (okH (okT hst)) (by omega)).1
  rw [ha] at hK1
  have hc1 := hP a _ (by rw [wd_at (okH (okT hst)), ent_ar (by omega), arrE_r (by omega)])
  refine W.aald (v := va_rf ((h.2.2.1 a i.toNatClampNeg).map ad)) (ty := .array .int) hx hb hc1 (hK1 (ln a) (fun j => va_rf ((h.2.2.1 a j).map ad))) rfl (fun q => by cases q) (by show ¬ (i < 0 ∨ (arrV _ _ _).slots.size ≤ _); rw [arrV_size]; exact hi) (by show (arrV _ _ _).slots[_]? = _; rw [arrV_read _ _ hlt]) rfl rfl hdg ?_
  rw [← conc_rf]
  exact w ad cd H locs lsM ⟨⟨hP, hD, hKO, hWf⟩, hS, hadd, hmn, hlim⟩ hlv hll hlo (okC (okV_rf hWf (okH (okT hst))) (okT (okT hst)))
theorem sd_iast {cc : ByteArray} {nL : Nat} {own : String} {ret : Option FieldType} {nm : String} {pc : Nat} (hdg : decode cc pc = .ok (.iastore, 1)) : Snd cc nL own ret nm pc (oIast) := by
  intro p l e R s m args below meth c D A h0 ad0 cd0 lim Qz d K Q c0 C hK hE ls st h w ad cd H locs lsM iv hlv hll hlo hst
  obtain ⟨hx, hb, hml, hown, hts, hrt, hlk, hnm, hxk, hKK, hA, hR⟩ := C
  dsimp only [oIast] at w
  have w1 := w
  clear w
  obtain ⟨x, s2, rfl, w⟩ := pI_x w1
  clear w1
  have w1 := w
  clear w
  obtain ⟨i, s3, rfl, w⟩ := pI_x w1
  clear w1
  have w1 := w
  clear w
  obtain ⟨a, s4, rfl, w⟩ := pR_x w1
  clear w1
  obtain ⟨⟨hP, hD, hKO, hWf⟩, hS, hadd, hmn, hlim⟩ := iv
  obtain ⟨ha, hi, w⟩ := w
  refine va_iast hx hb (KO.at hKK hKO (okH (okT (okT hst))) ha (by decide)) hP hD hS a 0 (ha := by rw [wd_at (okH (okT (okT hst))), ent_ar (by omega), arrE_i ha]) (ht := rfl) hi hdg (fun H1 locs1 hP1 hD1 hS1 => ?_)
  rw [wd_iarr ha] at hP1 hD1
  exact w ad cd H1 locs1 lsM ⟨⟨hP1, hD1, hKO, hWf⟩, hS1, hadd, hmn, hlim⟩ hlv hll hlo (okT (okT (okT hst)))
theorem sd_last {cc : ByteArray} {nL : Nat} {own : String} {ret : Option FieldType} {nm : String} {pc : Nat} (hdg : decode cc pc = .ok (.lastore, 1)) : Snd cc nL own ret nm pc (oLast) := by
  intro p l e R s m args below meth c D A h0 ad0 cd0 lim Qz d K Q c0 C hK hE ls st h w ad cd H locs lsM iv hlv hll hlo hst
  obtain ⟨hx, hb, hml, hown, hts, hrt, hlk, hnm, hxk, hKK, hA, hR⟩ := C
  dsimp only [oLast] at w
  have w1 := w
  clear w
  obtain ⟨x, s2, rfl, w⟩ := pL_x w1
  clear w1
  have w1 := w
  clear w
  obtain ⟨i, s3, rfl, w⟩ := pI_x w1
  clear w1
  have w1 := w
  clear w
  obtain ⟨a, s4, rfl, w⟩ := pR_x w1
  clear w1
  obtain ⟨⟨hP, hD, hKO, hWf⟩, hS, hadd, hmn, hlim⟩ := iv
  obtain ⟨ha, hi, w⟩ := w
  refine va_last hx hb (KO.at hKK hKO (okH (okT (okT hst))) ha (by decide)) hP hD hS a 0 (ha := by rw [wd_at (okH (okT (okT hst))), ent_ar (by omega), arrE_l ha]) (ht := rfl) hi hdg (fun H1 locs1 hP1 hD1 hS1 => ?_)
  rw [wd_larr ha] at hP1 hD1
  exact w ad cd H1 locs1 lsM ⟨⟨hP1, hD1, hKO, hWf⟩, hS1, hadd, hmn, hlim⟩ hlv hll hlo (okT (okT (okT hst)))
theorem sd_aast {cc : ByteArray} {nL : Nat} {own : String} {ret : Option FieldType} {nm : String} {pc : Nat} (hdg : decode cc pc = .ok (.aastore, 1)) : Snd cc nL own ret nm pc (oAast) := by
  intro p l e R s m args below meth c D A h0 ad0 cd0 lim Qz d K Q c0 C hK hE ls st h w ad cd H locs lsM iv hlv hll hlo hst
  obtain ⟨hx, hb, hml, hown, hts, hrt, hlk, hnm, hxk, hKK, hA, hR⟩ := C
  dsimp only [oAast] at w
  have w1 := w
  clear w
  obtain ⟨x, s2, rfl, w⟩ := pR_x w1
  clear w1
  have w1 := w
  clear w
  obtain ⟨i, s3, rfl, w⟩ := pI_x w1
  clear w1
  have w1 := w
  clear w
  obtain ⟨a, s4, rfl, w⟩ := pR_x w1
  clear w1
  obtain ⟨⟨hP, hD, hKO, hWf⟩, hS, hadd, hmn, hlim⟩ := iv
  obtain ⟨ha, hxk3, hi, w⟩ := w
  refine va_astq hx hb (KO.at hKK hKO (okH (okT (okT hst))) ha (by decide)) hP hD hS a 0 x 3 (ha := by rw [wd_at (okH (okT (okT hst))), ent_ar (by omega), arrE_r (by omega)]) (ht := rfl) (hv := by rw [wd_at (okH hst), ent_ob hxk3 (by decide)]) (hc := cl_at (by decide)) hi hdg (fun H1 locs1 hP1 hD1 hS1 => ?_)
  rw [wd_aast ha] at hP1 hD1
  exact w ad cd H1 locs1 lsM ⟨⟨hP1, hD1, hKO, Wf_put hWf (okH hst)⟩, hS1, hadd, hmn, hlim⟩ hlv hll hlo (okT (okT (okT hst)))
theorem sd_alen {cc : ByteArray} {nL : Nat} {own : String} {ret : Option FieldType} {nm : String} {pc : Nat} (hdg : decode cc pc = .ok (.arraylength, 1)) : Snd cc nL own ret nm pc (oLen) := by
  intro p l e R s m args below meth c D A h0 ad0 cd0 lim Qz d K Q c0 C hK hE ls st h w ad cd H locs lsM iv hlv hll hlo hst
  obtain ⟨hx, hb, hml, hown, hts, hrt, hlk, hnm, hxk, hKK, hA, hR⟩ := C
  dsimp only [oLen] at w
  have w1 := w
  clear w
  obtain ⟨a, s2, rfl, w⟩ := pR_x w1
  clear w1
  obtain ⟨⟨hP, hD, hKO, hWf⟩, hS, hadd, hmn, hlim⟩ := iv
  obtain ⟨ha, w⟩ := w
  refine va_alen hx hb (KO.at hKK hKO (okH hst) rfl (by omega)) hP a 0 (ha := by rw [wd_at (okH hst), ent_ar (by omega)]) (ht := rfl) rfl hdg ?_
  exact w ad cd H locs lsM ⟨⟨hP, hD, hKO, hWf⟩, hS, hadd, hmn, hlim⟩ hlv hll hlo (okC okV_i (okT hst))
theorem sd_ireturn {cc : ByteArray} {nL : Nat} {own : String} {ret : Option FieldType} {nm : String} {pc : Nat} (hdg : decode cc pc = .ok (.ireturn, 1)) (hr : ret = some .int) : Snd cc nL own ret nm pc (oIRet) := by
  intro p l e R s m args below meth c D A h0 ad0 cd0 lim Qz d K Q c0 C hK hE ls st h w ad cd H locs lsM iv hlv hll hlo hst
  obtain ⟨hx, hb, hml, hown, hts, hrt, hlk, hnm, hxk, hKK, hA, hR⟩ := C
  dsimp only [oIRet] at w
  have w1 := w
  clear w
  obtain ⟨x, s2, rfl, w⟩ := pI_x w1
  clear w1
  have w1 := w
  clear w
  obtain ⟨e0, w⟩ := pE_x w1
  clear w1
  subst e0
  exact hE (some (.int x)) h ad cd H locs pc lsM _ w (fun v q => by cases q; exact okV_i) iv (Or.inl ⟨x, rfl, rfl, Or.inl hr⟩) hdg
theorem sd_zreturn {cc : ByteArray} {nL : Nat} {own : String} {ret : Option FieldType} {nm : String} {pc : Nat} (hdg : decode cc pc = .ok (.ireturn, 1)) (hr : ret = some .boolean) : Snd cc nL own ret nm pc (oZRet) := by
  intro p l e R s m args below meth c D A h0 ad0 cd0 lim Qz d K Q c0 C hK hE ls st h w ad cd H locs lsM iv hlv hll hlo hst
  obtain ⟨hx, hb, hml, hown, hts, hrt, hlk, hnm, hxk, hKK, hA, hR⟩ := C
  dsimp only [oZRet] at w
  have w1 := w
  clear w
  obtain ⟨x, s2, rfl, w⟩ := pI_x w1
  clear w1
  have w1 := w
  clear w
  obtain ⟨e0, w⟩ := pE_x w1
  clear w1
  subst e0
  exact hE (some (.int x)) h ad cd H locs pc lsM _ w.2 (fun v q => by cases q; exact okV_i) iv (Or.inl ⟨x, rfl, rfl, Or.inr ⟨hr, w.1⟩⟩) hdg
theorem sd_lreturn {cc : ByteArray} {nL : Nat} {own : String} {ret : Option FieldType} {nm : String} {pc : Nat} (hdg : decode cc pc = .ok (.lreturn, 1)) (hr : ret = some .long) : Snd cc nL own ret nm pc (oLRet) := by
  intro p l e R s m args below meth c D A h0 ad0 cd0 lim Qz d K Q c0 C hK hE ls st h w ad cd H locs lsM iv hlv hll hlo hst
  obtain ⟨hx, hb, hml, hown, hts, hrt, hlk, hnm, hxk, hKK, hA, hR⟩ := C
  dsimp only [oLRet] at w
  have w1 := w
  clear w
  obtain ⟨x, s2, rfl, w⟩ := pL_x w1
  clear w1
  have w1 := w
  clear w
  obtain ⟨e0, w⟩ := pE_x w1
  clear w1
  subst e0
  exact hE (some (.long x)) h ad cd H locs pc lsM _ w (fun v q => by cases q; exact okV_l) iv (Or.inr (Or.inl ⟨x, rfl, rfl, hr⟩)) hdg
theorem sd_areturn {cc : ByteArray} {nL : Nat} {own : String} {ret : Option FieldType} {nm : String} {pc : Nat} (hdg : decode cc pc = .ok (.areturn, 1)) (hr : ∃ rt, ret = some rt ∧ ((∃ n, rt = .object n) ∨ ∃ t, rt = .array t)) : Snd cc nL own ret nm pc (oARet) := by
  intro p l e R s m args below meth c D A h0 ad0 cd0 lim Qz d K Q c0 C hK hE ls st h w ad cd H locs lsM iv hlv hll hlo hst
  obtain ⟨hx, hb, hml, hown, hts, hrt, hlk, hnm, hxk, hKK, hA, hR⟩ := C
  dsimp only [oARet] at w
  have w1 := w
  clear w
  obtain ⟨x, s2, rfl, w⟩ := pR_x w1
  clear w1
  have w1 := w
  clear w
  obtain ⟨e0, w⟩ := pE_x w1
  clear w1
  subst e0
  exact hE (some (.ref x)) h ad cd H locs pc lsM _ w (fun v q => by cases q; exact (hst _ List.mem_cons_self)) iv (Or.inr (Or.inr (Or.inl ⟨x, rfl, rfl, hr⟩))) hdg
theorem sd_vreturn {cc : ByteArray} {nL : Nat} {own : String} {ret : Option FieldType} {nm : String} {pc : Nat} (hdg : decode cc pc = .ok (.return_, 1)) (hr : ret = none) : Snd cc nL own ret nm pc (oVRet) := by
  intro p l e R s m args below meth c D A h0 ad0 cd0 lim Qz d K Q c0 C hK hE ls st h w ad cd H locs lsM iv hlv hll hlo hst
  obtain ⟨hx, hb, hml, hown, hts, hrt, hlk, hnm, hxk, hKK, hA, hR⟩ := C
  dsimp only [oVRet] at w
  have w1 := w
  clear w
  obtain ⟨e0, w⟩ := pE_x w1
  clear w1
  subst e0
  exact hE none h ad cd H locs pc lsM _ w (fun v q => by cases q) iv (Or.inr (Or.inr (Or.inr ⟨rfl, rfl, hr⟩))) hdg
