/-! the rows of the abstract machine's instructions: each is sound; by program out of a common head -/
theorem okC {h : Mm} {v : Value} {st : List Value} (hv : okV h v) (hs : ∀ w ∈ st, okV h w) : ∀ w ∈ v :: st, okV h w := fun w hw => (List.mem_cons.mp hw).elim (fun e => e ▸ hv) (hs w)
theorem okT {h : Mm} {v : Value} {st : List Value} (hs : ∀ w ∈ v :: st, okV h w) : ∀ w ∈ st, okV h w := fun w hw => hs w (List.mem_cons_of_mem _ hw)
theorem okH {h : Mm} {a : Nat} {st : List Value} (hs : ∀ w ∈ Value.ref a :: st, okV h w) : a < h.2.2.2.1 := hs _ List.mem_cons_self a rfl
theorem ite_a {c p q : Prop} {i : Decidable c} (h : c) (w : @ite Prop c i p q) : p := by
  rw [if_pos h] at w
  exact w
theorem ite_b {c p q : Prop} {i : Decidable c} (h : ¬ c) (w : @ite Prop c i p q) : q := by
  rw [if_neg h] at w
  exact w
theorem sd_iconst {cc : ByteArray} {nL : Nat} {own : String} {ret : Option FieldType} {nm : String} {pc : Nat} (n : Int) (v : Int32) (hdg : decode cc pc = .ok (.iconst n, 1)) (hv : Int32.ofInt n = v) : Snd cc nL own ret nm pc (oI v 1) := by
  intro p l e R s m args below meth c D A h0 ad0 cd0 lim Qz d K Q c0 C hK hE ls st h w ad cd H locs lsM iv hlv hll hlo hst
  obtain ⟨hx, hb, hml, hown, hts, hrt, hlk, hnm, hxk, hKK, hA, hR⟩ := C
  dsimp only [oI] at w
  exact lv_iconst hx hb hdg hv (w ad cd H locs lsM iv hlv hll hlo (okC okV_i hst))
theorem sd_bipush {cc : ByteArray} {nL : Nat} {own : String} {ret : Option FieldType} {nm : String} {pc : Nat} (n : Int) (v : Int32) (hdg : decode cc pc = .ok (.bipush n, 2)) (hv : (Int8.ofInt n).toInt32 = v) : Snd cc nL own ret nm pc (oI v 2) := by
  intro p l e R s m args below meth c D A h0 ad0 cd0 lim Qz d K Q c0 C hK hE ls st h w ad cd H locs lsM iv hlv hll hlo hst
  obtain ⟨hx, hb, hml, hown, hts, hrt, hlk, hnm, hxk, hKK, hA, hR⟩ := C
  dsimp only [oI] at w
  exact lv_bipush hx hb hdg hv (w ad cd H locs lsM iv hlv hll hlo (okC okV_i hst))
theorem sd_sipush {cc : ByteArray} {nL : Nat} {own : String} {ret : Option FieldType} {nm : String} {pc : Nat} (n : Int) (v : Int32) (hdg : decode cc pc = .ok (.sipush n, 3)) (hv : (Int16.ofInt n).toInt32 = v) : Snd cc nL own ret nm pc (oI v 3) := by
  intro p l e R s m args below meth c D A h0 ad0 cd0 lim Qz d K Q c0 C hK hE ls st h w ad cd H locs lsM iv hlv hll hlo hst
  obtain ⟨hx, hb, hml, hown, hts, hrt, hlk, hnm, hxk, hKK, hA, hR⟩ := C
  dsimp only [oI] at w
  exact lv_sipush hx hb hdg hv (w ad cd H locs lsM iv hlv hll hlo (okC okV_i hst))
theorem sd_lconst {cc : ByteArray} {nL : Nat} {own : String} {ret : Option FieldType} {nm : String} {pc : Nat} (n : Fin 2) (v : Int64) (hdg : decode cc pc = .ok (.lconst n, 1)) (hv : Int64.ofNat (n : Nat) = v) : Snd cc nL own ret nm pc (oJ v 1) := by
  intro p l e R s m args below meth c D A h0 ad0 cd0 lim Qz d K Q c0 C hK hE ls st h w ad cd H locs lsM iv hlv hll hlo hst
  obtain ⟨hx, hb, hml, hown, hts, hrt, hlk, hnm, hxk, hKK, hA, hR⟩ := C
  dsimp only [oJ] at w
  exact lv_lconst hx hb hdg hv (w ad cd H locs lsM iv hlv hll hlo (okC okV_l hst))
theorem sd_ldc2 {cc : ByteArray} {nL : Nat} {own : String} {ret : Option FieldType} {nm : String} {pc : Nat} (i : Nat) (v : Int64) (hc : Cond.constantLong own i v ∈ TT) (hdg : decode cc pc = .ok (.ldc2_w i, 3)) : Snd cc nL own ret nm pc (oJ v 3) := by
  intro p l e R s m args below meth c D A h0 ad0 cd0 lim Qz d K Q c0 C hK hE ls st h w ad cd H locs lsM iv hlv hll hlo hst
  obtain ⟨hx, hb, hml, hown, hts, hrt, hlk, hnm, hxk, hKK, hA, hR⟩ := C
  dsimp only [oJ] at w
  exact lv_ldc2 hx hb hown (hts _ (List.mem_cons_of_mem _ hc)) hdg (w ad cd H locs lsM iv hlv hll hlo (okC okV_l hst))
theorem sd_iload_n {cc : ByteArray} {nL : Nat} {own : String} {ret : Option FieldType} {nm : String} {pc : Nat} (k : Fin 4) (i : Nat) (hi : (k : Nat) = i) (hdg : decode cc pc = .ok (.iload_n k, 1)) : Snd cc nL own ret nm pc (oIl i 1) := by
  intro p l e R s m args below meth c D A h0 ad0 cd0 lim Qz d K Q c0 C hK hE ls st h w ad cd H locs lsM iv hlv hll hlo hst
  obtain ⟨hx, hb, hml, hown, hts, hrt, hlk, hnm, hxk, hKK, hA, hR⟩ := C
  dsimp only [oIl] at w
  have w1 := w
  clear w
  obtain ⟨x, e, w⟩ := gI_x w1
  clear w1
  exact lv_iload_n hx hb hdg hi (lvA_at hlv e (fun q => by cases q)) (w ad cd H locs lsM iv hlv hll hlo (okC okV_i hst))
theorem sd_iload {cc : ByteArray} {nL : Nat} {own : String} {ret : Option FieldType} {nm : String} {pc : Nat} (i : Nat) (hdg : decode cc pc = .ok (.iload i, 2)) : Snd cc nL own ret nm pc (oIl i 2) := by
  intro p l e R s m args below meth c D A h0 ad0 cd0 lim Qz d K Q c0 C hK hE ls st h w ad cd H locs lsM iv hlv hll hlo hst
  obtain ⟨hx, hb, hml, hown, hts, hrt, hlk, hnm, hxk, hKK, hA, hR⟩ := C
  dsimp only [oIl] at w
  have w1 := w
  clear w
  obtain ⟨x, e, w⟩ := gI_x w1
  clear w1
  exact lv_iload hx hb hdg (lvA_at hlv e (fun q => by cases q)) (w ad cd H locs lsM iv hlv hll hlo (okC okV_i hst))
theorem sd_lload_n {cc : ByteArray} {nL : Nat} {own : String} {ret : Option FieldType} {nm : String} {pc : Nat} (k : Fin 4) (i : Nat) (hi : (k : Nat) = i) (hdg : decode cc pc = .ok (.lload_n k, 1)) : Snd cc nL own ret nm pc (oLl i 1) := by
  intro p l e R s m args below meth c D A h0 ad0 cd0 lim Qz d K Q c0 C hK hE ls st h w ad cd H locs lsM iv hlv hll hlo hst
  obtain ⟨hx, hb, hml, hown, hts, hrt, hlk, hnm, hxk, hKK, hA, hR⟩ := C
  dsimp only [oLl] at w
  have w1 := w
  clear w
  obtain ⟨x, e, w⟩ := gL_x w1
  clear w1
  exact lv_lload_n hx hb hdg hi (lvA_at hlv e (fun q => by cases q)) (w ad cd H locs lsM iv hlv hll hlo (okC okV_l hst))
theorem sd_lload {cc : ByteArray} {nL : Nat} {own : String} {ret : Option FieldType} {nm : String} {pc : Nat} (i : Nat) (hdg : decode cc pc = .ok (.lload i, 2)) : Snd cc nL own ret nm pc (oLl i 2) := by
  intro p l e R s m args below meth c D A h0 ad0 cd0 lim Qz d K Q c0 C hK hE ls st h w ad cd H locs lsM iv hlv hll hlo hst
  obtain ⟨hx, hb, hml, hown, hts, hrt, hlk, hnm, hxk, hKK, hA, hR⟩ := C
  dsimp only [oLl] at w
  have w1 := w
  clear w
  obtain ⟨x, e, w⟩ := gL_x w1
  clear w1
  exact lv_lload hx hb hdg (lvA_at hlv e (fun q => by cases q)) (w ad cd H locs lsM iv hlv hll hlo (okC okV_l hst))
theorem sd_aload_n {cc : ByteArray} {nL : Nat} {own : String} {ret : Option FieldType} {nm : String} {pc : Nat} (k : Fin 4) (i : Nat) (hi : (k : Nat) = i) (hdg : decode cc pc = .ok (.aload_n k, 1)) : Snd cc nL own ret nm pc (oAl i 1) := by
  intro p l e R s m args below meth c D A h0 ad0 cd0 lim Qz d K Q c0 C hK hE ls st h w ad cd H locs lsM iv hlv hll hlo hst
  obtain ⟨hx, hb, hml, hown, hts, hrt, hlk, hnm, hxk, hKK, hA, hR⟩ := C
  dsimp only [oAl] at w
  have w1 := w
  clear w
  obtain ⟨x, e, w⟩ := gR_x w1
  clear w1
  exact lv_aload_n hx hb hdg hi (lvA_at hlv e (fun q => by cases q)) (w ad cd H locs lsM iv hlv hll hlo (okC (hlo _ (List.mem_of_getElem? e)) hst))
theorem sd_aload {cc : ByteArray} {nL : Nat} {own : String} {ret : Option FieldType} {nm : String} {pc : Nat} (i : Nat) (hdg : decode cc pc = .ok (.aload i, 2)) : Snd cc nL own ret nm pc (oAl i 2) := by
  intro p l e R s m args below meth c D A h0 ad0 cd0 lim Qz d K Q c0 C hK hE ls st h w ad cd H locs lsM iv hlv hll hlo hst
  obtain ⟨hx, hb, hml, hown, hts, hrt, hlk, hnm, hxk, hKK, hA, hR⟩ := C
  dsimp only [oAl] at w
  have w1 := w
  clear w
  obtain ⟨x, e, w⟩ := gR_x w1
  clear w1
  exact lv_aload hx hb hdg (lvA_at hlv e (fun q => by cases q)) (w ad cd H locs lsM iv hlv hll hlo (okC (hlo _ (List.mem_of_getElem? e)) hst))
theorem sd_istore_n {cc : ByteArray} {nL : Nat} {own : String} {ret : Option FieldType} {nm : String} {pc : Nat} (k : Fin 4) (i : Nat) (hi : (k : Nat) = i) (hn : i < nL) (hdg : decode cc pc = .ok (.istore_n k, 1)) : Snd cc nL own ret nm pc (oIs i 1) := by
  intro p l e R s m args below meth c D A h0 ad0 cd0 lim Qz d K Q c0 C hK hE ls st h w ad cd H locs lsM iv hlv hll hlo hst
  obtain ⟨hx, hb, hml, hown, hts, hrt, hlk, hnm, hxk, hKK, hA, hR⟩ := C
  dsimp only [oIs] at w
  have w1 := w
  clear w
  obtain ⟨x, s2, rfl, w⟩ := pI_x w1
  clear w1
  refine lv_istore_n hx hb hdg hi hlv hn rfl (fun ls' hl' => ?_)
  exact w ad cd H locs ls' iv (lv_weak sL1_sub hl') (by rw [sL1_len]; exact hll) (sL1_ok hlo okV_i) (okT hst)
theorem sd_istore {cc : ByteArray} {nL : Nat} {own : String} {ret : Option FieldType} {nm : String} {pc : Nat} (i : Nat) (hn : i < nL) (hdg : decode cc pc = .ok (.istore i, 2)) : Snd cc nL own ret nm pc (oIs i 2) := by
  intro p l e R s m args below meth c D A h0 ad0 cd0 lim Qz d K Q c0 C hK hE ls st h w ad cd H locs lsM iv hlv hll hlo hst
  obtain ⟨hx, hb, hml, hown, hts, hrt, hlk, hnm, hxk, hKK, hA, hR⟩ := C
  dsimp only [oIs] at w
  have w1 := w
  clear w
  obtain ⟨x, s2, rfl, w⟩ := pI_x w1
  clear w1
  refine lv_istore hx hb hdg hlv hn rfl (fun ls' hl' => ?_)
  exact w ad cd H locs ls' iv (lv_weak sL1_sub hl') (by rw [sL1_len]; exact hll) (sL1_ok hlo okV_i) (okT hst)
theorem sd_astore_n {cc : ByteArray} {nL : Nat} {own : String} {ret : Option FieldType} {nm : String} {pc : Nat} (k : Fin 4) (i : Nat) (hi : (k : Nat) = i) (hn : i < nL) (hdg : decode cc pc = .ok (.astore_n k, 1)) : Snd cc nL own ret nm pc (oAs i 1) := by
  intro p l e R s m args below meth c D A h0 ad0 cd0 lim Qz d K Q c0 C hK hE ls st h w ad cd H locs lsM iv hlv hll hlo hst
  obtain ⟨hx, hb, hml, hown, hts, hrt, hlk, hnm, hxk, hKK, hA, hR⟩ := C
  dsimp only [oAs] at w
  have w1 := w
  clear w
  obtain ⟨x, s2, rfl, w⟩ := pR_x w1
  clear w1
  refine lv_astore_n hx hb hdg hi hlv hn rfl (fun ls' hl' => ?_)
  exact w ad cd H locs ls' iv (lv_weak sL1_sub hl') (by rw [sL1_len]; exact hll) (sL1_ok hlo (hst _ List.mem_cons_self)) (okT hst)
theorem sd_astore {cc : ByteArray} {nL : Nat} {own : String} {ret : Option FieldType} {nm : String} {pc : Nat} (i : Nat) (hn : i < nL) (hdg : decode cc pc = .ok (.astore i, 2)) : Snd cc nL own ret nm pc (oAs i 2) := by
  intro p l e R s m args below meth c D A h0 ad0 cd0 lim Qz d K Q c0 C hK hE ls st h w ad cd H locs lsM iv hlv hll hlo hst
  obtain ⟨hx, hb, hml, hown, hts, hrt, hlk, hnm, hxk, hKK, hA, hR⟩ := C
  dsimp only [oAs] at w
  have w1 := w
  clear w
  obtain ⟨x, s2, rfl, w⟩ := pR_x w1
  clear w1
  refine lv_astore hx hb hdg hlv hn rfl (fun ls' hl' => ?_)
  exact w ad cd H locs ls' iv (lv_weak sL1_sub hl') (by rw [sL1_len]; exact hll) (sL1_ok hlo (hst _ List.mem_cons_self)) (okT hst)
theorem sd_lstore_n {cc : ByteArray} {nL : Nat} {own : String} {ret : Option FieldType} {nm : String} {pc : Nat} (k : Fin 4) (i : Nat) (hi : (k : Nat) = i) (hn : i + 1 < nL) (hdg : decode cc pc = .ok (.lstore_n k, 1)) : Snd cc nL own ret nm pc (oLs i 1) := by
  intro p l e R s m args below meth c D A h0 ad0 cd0 lim Qz d K Q c0 C hK hE ls st h w ad cd H locs lsM iv hlv hll hlo hst
  obtain ⟨hx, hb, hml, hown, hts, hrt, hlk, hnm, hxk, hKK, hA, hR⟩ := C
  dsimp only [oLs] at w
  have w1 := w
  clear w
  obtain ⟨x, s2, rfl, w⟩ := pL_x w1
  clear w1
  refine lv_lstore_n hx hb hdg hi hlv hn rfl (fun ls' hl' => ?_)
  exact w ad cd H locs ls' iv (lv_weak sL2_sub hl') (by rw [sL2_len]; exact hll) (sL2_ok hlo okV_l) (okT hst)
theorem sd_lstore {cc : ByteArray} {nL : Nat} {own : String} {ret : Option FieldType} {nm : String} {pc : Nat} (i : Nat) (hn : i + 1 < nL) (hdg : decode cc pc = .ok (.lstore i, 2)) : Snd cc nL own ret nm pc (oLs i 2) := by
  intro p l e R s m args below meth c D A h0 ad0 cd0 lim Qz d K Q c0 C hK hE ls st h w ad cd H locs lsM iv hlv hll hlo hst
  obtain ⟨hx, hb, hml, hown, hts, hrt, hlk, hnm, hxk, hKK, hA, hR⟩ := C
  dsimp only [oLs] at w
  have w1 := w
  clear w
  obtain ⟨x, s2, rfl, w⟩ := pL_x w1
  clear w1
  refine lv_lstore hx hb hdg hlv hn rfl (fun ls' hl' => ?_)
  exact w ad cd H locs ls' iv (lv_weak sL2_sub hl') (by rw [sL2_len]; exact hll) (sL2_ok hlo okV_l) (okT hst)
theorem sd_iinc {cc : ByteArray} {nL : Nat} {own : String} {ret : Option FieldType} {nm : String} {pc : Nat} (i : Nat) (n : Int) (v : Int32) (hv : Int32.ofInt n = v) (hn : i < nL) (hdg : decode cc pc = .ok (.iinc i n, 3)) : Snd cc nL own ret nm pc (oInc i v) := by
  intro p l e R s m args below meth c D A h0 ad0 cd0 lim Qz d K Q c0 C hK hE ls st h w ad cd H locs lsM iv hlv hll hlo hst
  obtain ⟨hx, hb, hml, hown, hts, hrt, hlk, hnm, hxk, hKK, hA, hR⟩ := C
  dsimp only [oInc] at w
  have w1 := w
  clear w
  obtain ⟨x, e, w⟩ := gI_x w1
  clear w1
  obtain ⟨k, hk⟩ := List.getElem?_of_mem ((lvA_mem ls 0 (i, conc ad (.int x))).mpr ⟨i, _, e, (fun q => by cases q), by rw [Nat.zero_add]⟩)
  refine lv_iinc (v := x + v) hx hb hdg hlv hk (by rw [hv]) hn rfl (fun ls' hl' => ?_)
  exact w ad cd H locs ls' iv (lv_weak sL1_sub hl') (by rw [sL1_len]; exact hll) (sL1_ok hlo okV_i) hst
theorem sd_iadd {cc : ByteArray} {nL : Nat} {own : String} {ret : Option FieldType} {nm : String} {pc : Nat} (hdg : decode cc pc = .ok (.iadd, 1)) : Snd cc nL own ret nm pc (oAdd) := by
  intro p l e R s m args below meth c D A h0 ad0 cd0 lim Qz d K Q c0 C hK hE ls st h w ad cd H locs lsM iv hlv hll hlo hst
  obtain ⟨hx, hb, hml, hown, hts, hrt, hlk, hnm, hxk, hKK, hA, hR⟩ := C
  dsimp only [oAdd, oBin] at w
  have w1 := w
  clear w
  obtain ⟨y, s2, rfl, w⟩ := pI_x w1
  clear w1
  have w1 := w
  clear w
  obtain ⟨x, s3, rfl, w⟩ := pI_x w1
  clear w1
  exact lv_iadd hx hb hdg (w ad cd H locs lsM iv hlv hll hlo (okC okV_i (okT (okT hst))))
theorem sd_isub {cc : ByteArray} {nL : Nat} {own : String} {ret : Option FieldType} {nm : String} {pc : Nat} (hdg : decode cc pc = .ok (.isub, 1)) : Snd cc nL own ret nm pc (oSub) := by
  intro p l e R s m args below meth c D A h0 ad0 cd0 lim Qz d K Q c0 C hK hE ls st h w ad cd H locs lsM iv hlv hll hlo hst
  obtain ⟨hx, hb, hml, hown, hts, hrt, hlk, hnm, hxk, hKK, hA, hR⟩ := C
  dsimp only [oSub, oBin] at w
  have w1 := w
  clear w
  obtain ⟨y, s2, rfl, w⟩ := pI_x w1
  clear w1
  have w1 := w
  clear w
  obtain ⟨x, s3, rfl, w⟩ := pI_x w1
  clear w1
  exact lv_isub hx hb hdg (w ad cd H locs lsM iv hlv hll hlo (okC okV_i (okT (okT hst))))
theorem sd_imul {cc : ByteArray} {nL : Nat} {own : String} {ret : Option FieldType} {nm : String} {pc : Nat} (hdg : decode cc pc = .ok (.imul, 1)) : Snd cc nL own ret nm pc (oMul) := by
  intro p l e R s m args below meth c D A h0 ad0 cd0 lim Qz d K Q c0 C hK hE ls st h w ad cd H locs lsM iv hlv hll hlo hst
  obtain ⟨hx, hb, hml, hown, hts, hrt, hlk, hnm, hxk, hKK, hA, hR⟩ := C
  dsimp only [oMul, oBin] at w
  have w1 := w
  clear w
  obtain ⟨y, s2, rfl, w⟩ := pI_x w1
  clear w1
  have w1 := w
  clear w
  obtain ⟨x, s3, rfl, w⟩ := pI_x w1
  clear w1
  exact lv_imul hx hb hdg (w ad cd H locs lsM iv hlv hll hlo (okC okV_i (okT (okT hst))))
theorem sd_iand {cc : ByteArray} {nL : Nat} {own : String} {ret : Option FieldType} {nm : String} {pc : Nat} (hdg : decode cc pc = .ok (.iand, 1)) : Snd cc nL own ret nm pc (oAnd) := by
  intro p l e R s m args below meth c D A h0 ad0 cd0 lim Qz d K Q c0 C hK hE ls st h w ad cd H locs lsM iv hlv hll hlo hst
  obtain ⟨hx, hb, hml, hown, hts, hrt, hlk, hnm, hxk, hKK, hA, hR⟩ := C
  dsimp only [oAnd, oBin] at w
  have w1 := w
  clear w
  obtain ⟨y, s2, rfl, w⟩ := pI_x w1
  clear w1
  have w1 := w
  clear w
  obtain ⟨x, s3, rfl, w⟩ := pI_x w1
  clear w1
  exact lv_iand hx hb hdg (w ad cd H locs lsM iv hlv hll hlo (okC okV_i (okT (okT hst))))
theorem sd_ior {cc : ByteArray} {nL : Nat} {own : String} {ret : Option FieldType} {nm : String} {pc : Nat} (hdg : decode cc pc = .ok (.ior, 1)) : Snd cc nL own ret nm pc (oOr) := by
  intro p l e R s m args below meth c D A h0 ad0 cd0 lim Qz d K Q c0 C hK hE ls st h w ad cd H locs lsM iv hlv hll hlo hst
  obtain ⟨hx, hb, hml, hown, hts, hrt, hlk, hnm, hxk, hKK, hA, hR⟩ := C
  dsimp only [oOr, oBin] at w
  have w1 := w
  clear w
  obtain ⟨y, s2, rfl, w⟩ := pI_x w1
  clear w1
  have w1 := w
  clear w
  obtain ⟨x, s3, rfl, w⟩ := pI_x w1
  clear w1
  exact lv_ior hx hb hdg (w ad cd H locs lsM iv hlv hll hlo (okC okV_i (okT (okT hst))))
theorem sd_ixor {cc : ByteArray} {nL : Nat} {own : String} {ret : Option FieldType} {nm : String} {pc : Nat} (hdg : decode cc pc = .ok (.ixor, 1)) : Snd cc nL own ret nm pc (oXor) := by
  intro p l e R s m args below meth c D A h0 ad0 cd0 lim Qz d K Q c0 C hK hE ls st h w ad cd H locs lsM iv hlv hll hlo hst
  obtain ⟨hx, hb, hml, hown, hts, hrt, hlk, hnm, hxk, hKK, hA, hR⟩ := C
  dsimp only [oXor, oBin] at w
  have w1 := w
  clear w
  obtain ⟨y, s2, rfl, w⟩ := pI_x w1
  clear w1
  have w1 := w
  clear w
  obtain ⟨x, s3, rfl, w⟩ := pI_x w1
  clear w1
  exact lv_ixor hx hb hdg (w ad cd H locs lsM iv hlv hll hlo (okC okV_i (okT (okT hst))))
theorem sd_idiv {cc : ByteArray} {nL : Nat} {own : String} {ret : Option FieldType} {nm : String} {pc : Nat} (hdg : decode cc pc = .ok (.idiv, 1)) : Snd cc nL own ret nm pc (oDiv) := by
  intro p l e R s m args below meth c D A h0 ad0 cd0 lim Qz d K Q c0 C hK hE ls st h w ad cd H locs lsM iv hlv hll hlo hst
  obtain ⟨hx, hb, hml, hown, hts, hrt, hlk, hnm, hxk, hKK, hA, hR⟩ := C
  dsimp only [oDiv] at w
  have w1 := w
  clear w
  obtain ⟨y, s2, rfl, w⟩ := pI_x w1
  clear w1
  have w1 := w
  clear w
  obtain ⟨x, s3, rfl, w⟩ := pI_x w1
  clear w1
  exact lv_idiv hx hb hdg w.1 (w.2 ad cd H locs lsM iv hlv hll hlo (okC okV_i (okT (okT hst))))
theorem sd_irem {cc : ByteArray} {nL : Nat} {own : String} {ret : Option FieldType} {nm : String} {pc : Nat} (hdg : decode cc pc = .ok (.irem, 1)) : Snd cc nL own ret nm pc (oRem) := by
  intro p l e R s m args below meth c D A h0 ad0 cd0 lim Qz d K Q c0 C hK hE ls st h w ad cd H locs lsM iv hlv hll hlo hst
  obtain ⟨hx, hb, hml, hown, hts, hrt, hlk, hnm, hxk, hKK, hA, hR⟩ := C
  dsimp only [oRem] at w
  have w1 := w
  clear w
  obtain ⟨y, s2, rfl, w⟩ := pI_x w1
  clear w1
  have w1 := w
  clear w
  obtain ⟨x, s3, rfl, w⟩ := pI_x w1
  clear w1
  exact lv_irem hx hb hdg w.1 (w.2 ad cd H locs lsM iv hlv hll hlo (okC okV_i (okT (okT hst))))
theorem sd_ineg {cc : ByteArray} {nL : Nat} {own : String} {ret : Option FieldType} {nm : String} {pc : Nat} (hdg : decode cc pc = .ok (.ineg, 1)) : Snd cc nL own ret nm pc (oNeg) := by
  intro p l e R s m args below meth c D A h0 ad0 cd0 lim Qz d K Q c0 C hK hE ls st h w ad cd H locs lsM iv hlv hll hlo hst
  obtain ⟨hx, hb, hml, hown, hts, hrt, hlk, hnm, hxk, hKK, hA, hR⟩ := C
  dsimp only [oNeg] at w
  have w1 := w
  clear w
  obtain ⟨x, s2, rfl, w⟩ := pI_x w1
  clear w1
  exact lv_ineg hx hb hdg (w ad cd H locs lsM iv hlv hll hlo (okC okV_i (okT hst)))
theorem sd_ladd {cc : ByteArray} {nL : Nat} {own : String} {ret : Option FieldType} {nm : String} {pc : Nat} (hdg : decode cc pc = .ok (.ladd, 1)) : Snd cc nL own ret nm pc (oLAdd) := by
  intro p l e R s m args below meth c D A h0 ad0 cd0 lim Qz d K Q c0 C hK hE ls st h w ad cd H locs lsM iv hlv hll hlo hst
  obtain ⟨hx, hb, hml, hown, hts, hrt, hlk, hnm, hxk, hKK, hA, hR⟩ := C
  dsimp only [oLAdd, oLBin] at w
  have w1 := w
  clear w
  obtain ⟨y, s2, rfl, w⟩ := pL_x w1
  clear w1
  have w1 := w
  clear w
  obtain ⟨x, s3, rfl, w⟩ := pL_x w1
  clear w1
  exact lv_ladd hx hb hdg (w ad cd H locs lsM iv hlv hll hlo (okC okV_l (okT (okT hst))))
theorem sd_lsub {cc : ByteArray} {nL : Nat} {own : String} {ret : Option FieldType} {nm : String} {pc : Nat} (hdg : decode cc pc = .ok (.lsub, 1)) : Snd cc nL own ret nm pc (oLSub) := by
  intro p l e R s m args below meth c D A h0 ad0 cd0 lim Qz d K Q c0 C hK hE ls st h w ad cd H locs lsM iv hlv hll hlo hst
  obtain ⟨hx, hb, hml, hown, hts, hrt, hlk, hnm, hxk, hKK, hA, hR⟩ := C
  dsimp only [oLSub, oLBin] at w
  have w1 := w
  clear w
  obtain ⟨y, s2, rfl, w⟩ := pL_x w1
  clear w1
  have w1 := w
  clear w
  obtain ⟨x, s3, rfl, w⟩ := pL_x w1
  clear w1
  exact lv_lsub hx hb hdg (w ad cd H locs lsM iv hlv hll hlo (okC okV_l (okT (okT hst))))
theorem sd_lmul {cc : ByteArray} {nL : Nat} {own : String} {ret : Option FieldType} {nm : String} {pc : Nat} (hdg : decode cc pc = .ok (.lmul, 1)) : Snd cc nL own ret nm pc (oLMul) := by
  intro p l e R s m args below meth c D A h0 ad0 cd0 lim Qz d K Q c0 C hK hE ls st h w ad cd H locs lsM iv hlv hll hlo hst
  obtain ⟨hx, hb, hml, hown, hts, hrt, hlk, hnm, hxk, hKK, hA, hR⟩ := C
  dsimp only [oLMul, oLBin] at w
  have w1 := w
  clear w
  obtain ⟨y, s2, rfl, w⟩ := pL_x w1
  clear w1
  have w1 := w
  clear w
  obtain ⟨x, s3, rfl, w⟩ := pL_x w1
  clear w1
  exact lv_lmul hx hb hdg (w ad cd H locs lsM iv hlv hll hlo (okC okV_l (okT (okT hst))))
theorem sd_ldiv {cc : ByteArray} {nL : Nat} {own : String} {ret : Option FieldType} {nm : String} {pc : Nat} (hdg : decode cc pc = .ok (.ldiv, 1)) : Snd cc nL own ret nm pc (oLDiv) := by
  intro p l e R s m args below meth c D A h0 ad0 cd0 lim Qz d K Q c0 C hK hE ls st h w ad cd H locs lsM iv hlv hll hlo hst
  obtain ⟨hx, hb, hml, hown, hts, hrt, hlk, hnm, hxk, hKK, hA, hR⟩ := C
  dsimp only [oLDiv] at w
  have w1 := w
  clear w
  obtain ⟨y, s2, rfl, w⟩ := pL_x w1
  clear w1
  have w1 := w
  clear w
  obtain ⟨x, s3, rfl, w⟩ := pL_x w1
  clear w1
  exact lv_ldiv hx hb hdg w.1 (w.2 ad cd H locs lsM iv hlv hll hlo (okC okV_l (okT (okT hst))))
theorem sd_lneg {cc : ByteArray} {nL : Nat} {own : String} {ret : Option FieldType} {nm : String} {pc : Nat} (hdg : decode cc pc = .ok (.lneg, 1)) : Snd cc nL own ret nm pc (oLNeg) := by
  intro p l e R s m args below meth c D A h0 ad0 cd0 lim Qz d K Q c0 C hK hE ls st h w ad cd H locs lsM iv hlv hll hlo hst
  obtain ⟨hx, hb, hml, hown, hts, hrt, hlk, hnm, hxk, hKK, hA, hR⟩ := C
  dsimp only [oLNeg] at w
  have w1 := w
  clear w
  obtain ⟨x, s2, rfl, w⟩ := pL_x w1
  clear w1
  exact lv_lneg hx hb hdg (w ad cd H locs lsM iv hlv hll hlo (okC okV_l (okT hst)))
theorem sd_i2l {cc : ByteArray} {nL : Nat} {own : String} {ret : Option FieldType} {nm : String} {pc : Nat} (hdg : decode cc pc = .ok (.i2l, 1)) : Snd cc nL own ret nm pc (oI2L) := by
  intro p l e R s m args below meth c D A h0 ad0 cd0 lim Qz d K Q c0 C hK hE ls st h w ad cd H locs lsM iv hlv hll hlo hst
  obtain ⟨hx, hb, hml, hown, hts, hrt, hlk, hnm, hxk, hKK, hA, hR⟩ := C
  dsimp only [oI2L] at w
  have w1 := w
  clear w
  obtain ⟨x, s2, rfl, w⟩ := pI_x w1
  clear w1
  exact lv_i2l hx hb hdg rfl (w ad cd H locs lsM iv hlv hll hlo (okC okV_l (okT hst)))
theorem sd_l2i {cc : ByteArray} {nL : Nat} {own : String} {ret : Option FieldType} {nm : String} {pc : Nat} (hdg : decode cc pc = .ok (.l2i, 1)) : Snd cc nL own ret nm pc (oL2I) := by
  intro p l e R s m args below meth c D A h0 ad0 cd0 lim Qz d K Q c0 C hK hE ls st h w ad cd H locs lsM iv hlv hll hlo hst
  obtain ⟨hx, hb, hml, hown, hts, hrt, hlk, hnm, hxk, hKK, hA, hR⟩ := C
  dsimp only [oL2I] at w
  have w1 := w
  clear w
  obtain ⟨x, s2, rfl, w⟩ := pL_x w1
  clear w1
  exact lv_l2i hx hb hdg rfl (w ad cd H locs lsM iv hlv hll hlo (okC okV_i (okT hst)))
theorem sd_lcmp {cc : ByteArray} {nL : Nat} {own : String} {ret : Option FieldType} {nm : String} {pc : Nat} (hdg : decode cc pc = .ok (.lcmp, 1)) : Snd cc nL own ret nm pc (oLcmp) := by
  intro p l e R s m args below meth c D A h0 ad0 cd0 lim Qz d K Q c0 C hK hE ls st h w ad cd H locs lsM iv hlv hll hlo hst
  obtain ⟨hx, hb, hml, hown, hts, hrt, hlk, hnm, hxk, hKK, hA, hR⟩ := C
  dsimp only [oLcmp] at w
  have w1 := w
  clear w
  obtain ⟨y, s2, rfl, w⟩ := pL_x w1
  clear w1
  have w1 := w
  clear w
  obtain ⟨x, s3, rfl, w⟩ := pL_x w1
  clear w1
  exact W.lcmp hx hb hdg (w ad cd H locs lsM iv hlv hll hlo (okC okV_i (okT (okT hst))))
theorem sd_dup {cc : ByteArray} {nL : Nat} {own : String} {ret : Option FieldType} {nm : String} {pc : Nat} (hdg : decode cc pc = .ok (.dup, 1)) : Snd cc nL own ret nm pc (oDup) := by
  intro p l e R s m args below meth c D A h0 ad0 cd0 lim Qz d K Q c0 C hK hE ls st h w ad cd H locs lsM iv hlv hll hlo hst
  obtain ⟨hx, hb, hml, hown, hts, hrt, hlk, hnm, hxk, hKK, hA, hR⟩ := C
  dsimp only [oDup] at w
  have w1 := w
  clear w
  obtain ⟨x, s2, rfl, hc, w⟩ := p1_x w1
  clear w1
  exact lv_dup hx hb hdg (conc_cat.trans hc) (w ad cd H locs lsM iv hlv hll hlo (okC (hst _ List.mem_cons_self) hst))
theorem sd_pop {cc : ByteArray} {nL : Nat} {own : String} {ret : Option FieldType} {nm : String} {pc : Nat} (hdg : decode cc pc = .ok (.pop, 1)) : Snd cc nL own ret nm pc (oPop) := by
  intro p l e R s m args below meth c D A h0 ad0 cd0 lim Qz d K Q c0 C hK hE ls st h w ad cd H locs lsM iv hlv hll hlo hst
  obtain ⟨hx, hb, hml, hown, hts, hrt, hlk, hnm, hxk, hKK, hA, hR⟩ := C
  dsimp only [oPop] at w
  have w1 := w
  clear w
  obtain ⟨x, s2, rfl, hc, w⟩ := p1_x w1
  clear w1
  exact lv_pop hx hb hdg (conc_cat.trans hc) (w ad cd H locs lsM iv hlv hll hlo (okT hst))
theorem sd_dup_x1 {cc : ByteArray} {nL : Nat} {own : String} {ret : Option FieldType} {nm : String} {pc : Nat} (hdg : decode cc pc = .ok (.dup_x1, 1)) : Snd cc nL own ret nm pc (oDupX1) := by
  intro p l e R s m args below meth c D A h0 ad0 cd0 lim Qz d K Q c0 C hK hE ls st h w ad cd H locs lsM iv hlv hll hlo hst
  obtain ⟨hx, hb, hml, hown, hts, hrt, hlk, hnm, hxk, hKK, hA, hR⟩ := C
  dsimp only [oDupX1] at w
  have w1 := w
  clear w
  obtain ⟨x, s2, rfl, hc, w⟩ := p1_x w1
  clear w1
  have w1 := w
  clear w
  obtain ⟨y, s3, rfl, hc2, w⟩ := p1_x w1
  clear w1
  exact lv_dup_x1 hx hb hdg (conc_cat.trans hc) (conc_cat.trans hc2) (w ad cd H locs lsM iv hlv hll hlo (okC (hst _ List.mem_cons_self) (okC (okT hst _ List.mem_cons_self) (okC (hst _ List.mem_cons_self) (okT (okT hst))))))
theorem sd_dup2 {cc : ByteArray} {nL : Nat} {own : String} {ret : Option FieldType} {nm : String} {pc : Nat} (hdg : decode cc pc = .ok (.dup2, 1)) : Snd cc nL own ret nm pc (oDup2) := by
  intro p l e R s m args below meth c D A h0 ad0 cd0 lim Qz d K Q c0 C hK hE ls st h w ad cd H locs lsM iv hlv hll hlo hst
  obtain ⟨hx, hb, hml, hown, hts, hrt, hlk, hnm, hxk, hKK, hA, hR⟩ := C
  dsimp only [oDup2] at w
  have w1 := w
  clear w
  obtain ⟨x, s2, rfl, hc, w⟩ := p1_x w1
  clear w1
  have w1 := w
  clear w
  obtain ⟨y, s3, rfl, hc2, w⟩ := p1_x w1
  clear w1
  exact lv_dup2_11 hx hb hdg (conc_cat.trans hc) (conc_cat.trans hc2) (w ad cd H locs lsM iv hlv hll hlo (okC (hst _ List.mem_cons_self) (okC (okT hst _ List.mem_cons_self) hst)))
theorem sd_if_eq {cc : ByteArray} {nL : Nat} {own : String} {ret : Option FieldType} {nm : String} {pc : Nat} (off : Int) (t : Nat) (hdg : decode cc pc = .ok (.ifCond .eq off, 3)) (ht : (pc : Int) + off = (t : Int)) : Snd cc nL own ret nm pc (oEq t) := by
  intro p l e R s m args below meth c D A h0 ad0 cd0 lim Qz d K Q c0 C hK hE ls st h w ad cd H locs lsM iv hlv hll hlo hst
  obtain ⟨hx, hb, hml, hown, hts, hrt, hlk, hnm, hxk, hKK, hA, hR⟩ := C
  dsimp only [oEq] at w
  have w1 := w
  clear w
  obtain ⟨x, s2, rfl, w⟩ := pI_x w1
  clear w1
  exact lv_if_eq hx hb hdg ht (fun q => (ite_a (q) w) ad cd H locs lsM iv hlv hll hlo (okT hst)) (fun q => (ite_b (q) w) ad cd H locs lsM iv hlv hll hlo (okT hst))
theorem sd_if_ne {cc : ByteArray} {nL : Nat} {own : String} {ret : Option FieldType} {nm : String} {pc : Nat} (off : Int) (t : Nat) (hdg : decode cc pc = .ok (.ifCond .ne off, 3)) (ht : (pc : Int) + off = (t : Int)) : Snd cc nL own ret nm pc (oNe t) := by
  intro p l e R s m args below meth c D A h0 ad0 cd0 lim Qz d K Q c0 C hK hE ls st h w ad cd H locs lsM iv hlv hll hlo hst
  obtain ⟨hx, hb, hml, hown, hts, hrt, hlk, hnm, hxk, hKK, hA, hR⟩ := C
  dsimp only [oNe] at w
  have w1 := w
  clear w
  obtain ⟨x, s2, rfl, w⟩ := pI_x w1
  clear w1
  exact lv_if_ne hx hb hdg ht (fun q => (ite_b (q) w) ad cd H locs lsM iv hlv hll hlo (okT hst)) (fun q => (ite_a (q) w) ad cd H locs lsM iv hlv hll hlo (okT hst))
theorem sd_if_lt {cc : ByteArray} {nL : Nat} {own : String} {ret : Option FieldType} {nm : String} {pc : Nat} (off : Int) (t : Nat) (hdg : decode cc pc = .ok (.ifCond .lt off, 3)) (ht : (pc : Int) + off = (t : Int)) : Snd cc nL own ret nm pc (oLt t) := by
  intro p l e R s m args below meth c D A h0 ad0 cd0 lim Qz d K Q c0 C hK hE ls st h w ad cd H locs lsM iv hlv hll hlo hst
  obtain ⟨hx, hb, hml, hown, hts, hrt, hlk, hnm, hxk, hKK, hA, hR⟩ := C
  dsimp only [oLt] at w
  have w1 := w
  clear w
  obtain ⟨x, s2, rfl, w⟩ := pI_x w1
  clear w1
  exact lv_if_lt hx hb hdg ht (fun q => (ite_a (q) w) ad cd H locs lsM iv hlv hll hlo (okT hst)) (fun q => (ite_b (q) w) ad cd H locs lsM iv hlv hll hlo (okT hst))
theorem sd_if_ge {cc : ByteArray} {nL : Nat} {own : String} {ret : Option FieldType} {nm : String} {pc : Nat} (off : Int) (t : Nat) (hdg : decode cc pc = .ok (.ifCond .ge off, 3)) (ht : (pc : Int) + off = (t : Int)) : Snd cc nL own ret nm pc (oGe t) := by
  intro p l e R s m args below meth c D A h0 ad0 cd0 lim Qz d K Q c0 C hK hE ls st h w ad cd H locs lsM iv hlv hll hlo hst
  obtain ⟨hx, hb, hml, hown, hts, hrt, hlk, hnm, hxk, hKK, hA, hR⟩ := C
  dsimp only [oGe] at w
  have w1 := w
  clear w
  obtain ⟨x, s2, rfl, w⟩ := pI_x w1
  clear w1
  exact lv_if_ge hx hb hdg ht (fun q => (ite_b (Int32.not_lt.mpr q) w) ad cd H locs lsM iv hlv hll hlo (okT hst)) (fun q => (ite_a (Int32.not_le.mp q) w) ad cd H locs lsM iv hlv hll hlo (okT hst))
theorem sd_if_gt {cc : ByteArray} {nL : Nat} {own : String} {ret : Option FieldType} {nm : String} {pc : Nat} (off : Int) (t : Nat) (hdg : decode cc pc = .ok (.ifCond .gt off, 3)) (ht : (pc : Int) + off = (t : Int)) : Snd cc nL own ret nm pc (oGt t) := by
  intro p l e R s m args below meth c D A h0 ad0 cd0 lim Qz d K Q c0 C hK hE ls st h w ad cd H locs lsM iv hlv hll hlo hst
  obtain ⟨hx, hb, hml, hown, hts, hrt, hlk, hnm, hxk, hKK, hA, hR⟩ := C
  dsimp only [oGt] at w
  have w1 := w
  clear w
  obtain ⟨x, s2, rfl, w⟩ := pI_x w1
  clear w1
  exact lv_if_gt hx hb hdg ht (fun q => (ite_a (q) w) ad cd H locs lsM iv hlv hll hlo (okT hst)) (fun q => (ite_b (q) w) ad cd H locs lsM iv hlv hll hlo (okT hst))
theorem sd_if_le {cc : ByteArray} {nL : Nat} {own : String} {ret : Option FieldType} {nm : String} {pc : Nat} (off : Int) (t : Nat) (hdg : decode cc pc = .ok (.ifCond .le off, 3)) (ht : (pc : Int) + off = (t : Int)) : Snd cc nL own ret nm pc (oLe t) := by
  intro p l e R s m args below meth c D A h0 ad0 cd0 lim Qz d K Q c0 C hK hE ls st h w ad cd H locs lsM iv hlv hll hlo hst
  obtain ⟨hx, hb, hml, hown, hts, hrt, hlk, hnm, hxk, hKK, hA, hR⟩ := C
  dsimp only [oLe] at w
  have w1 := w
  clear w
  obtain ⟨x, s2, rfl, w⟩ := pI_x w1
  clear w1
  exact lv_if_le hx hb hdg ht (fun q => (ite_b (Int32.not_lt.mpr q) w) ad cd H locs lsM iv hlv hll hlo (okT hst)) (fun q => (ite_a (Int32.not_le.mp q) w) ad cd H locs lsM iv hlv hll hlo (okT hst))
theorem sd_icmp_eq {cc : ByteArray} {nL : Nat} {own : String} {ret : Option FieldType} {nm : String} {pc : Nat} (off : Int) (t : Nat) (hdg : decode cc pc = .ok (.if_icmp .eq off, 3)) (ht : (pc : Int) + off = (t : Int)) : Snd cc nL own ret nm pc (oCEq t) := by
  intro p l e R s m args below meth c D A h0 ad0 cd0 lim Qz d K Q c0 C hK hE ls st h w ad cd H locs lsM iv hlv hll hlo hst
  obtain ⟨hx, hb, hml, hown, hts, hrt, hlk, hnm, hxk, hKK, hA, hR⟩ := C
  dsimp only [oCEq] at w
  have w1 := w
  clear w
  obtain ⟨y, s2, rfl, w⟩ := pI_x w1
  clear w1
  have w1 := w
  clear w
  obtain ⟨x, s3, rfl, w⟩ := pI_x w1
  clear w1
  exact lv_icmp_eq hx hb hdg ht (fun q => (ite_a (q) w) ad cd H locs lsM iv hlv hll hlo (okT (okT hst))) (fun q => (ite_b (q) w) ad cd H locs lsM iv hlv hll hlo (okT (okT hst)))
theorem sd_icmp_ne {cc : ByteArray} {nL : Nat} {own : String} {ret : Option FieldType} {nm : String} {pc : Nat} (off : Int) (t : Nat) (hdg : decode cc pc = .ok (.if_icmp .ne off, 3)) (ht : (pc : Int) + off = (t : Int)) : Snd cc nL own ret nm pc (oCNe t) := by
  intro p l e R s m args below meth c D A h0 ad0 cd0 lim Qz d K Q c0 C hK hE ls st h w ad cd H locs lsM iv hlv hll hlo hst
  obtain ⟨hx, hb, hml, hown, hts, hrt, hlk, hnm, hxk, hKK, hA, hR⟩ := C
  dsimp only [oCNe] at w
  have w1 := w
  clear w
  obtain ⟨y, s2, rfl, w⟩ := pI_x w1
  clear w1
  have w1 := w
  clear w
  obtain ⟨x, s3, rfl, w⟩ := pI_x w1
  clear w1
  exact lv_icmp_ne hx hb hdg ht (fun q => (ite_b (q) w) ad cd H locs lsM iv hlv hll hlo (okT (okT hst))) (fun q => (ite_a (q) w) ad cd H locs lsM iv hlv hll hlo (okT (okT hst)))
theorem sd_icmp_lt {cc : ByteArray} {nL : Nat} {own : String} {ret : Option FieldType} {nm : String} {pc : Nat} (off : Int) (t : Nat) (hdg : decode cc pc = .ok (.if_icmp .lt off, 3)) (ht : (pc : Int) + off = (t : Int)) : Snd cc nL own ret nm pc (oCLt t) := by
  intro p l e R s m args below meth c D A h0 ad0 cd0 lim Qz d K Q c0 C hK hE ls st h w ad cd H locs lsM iv hlv hll hlo hst
  obtain ⟨hx, hb, hml, hown, hts, hrt, hlk, hnm, hxk, hKK, hA, hR⟩ := C
  dsimp only [oCLt] at w
  have w1 := w
  clear w
  obtain ⟨y, s2, rfl, w⟩ := pI_x w1
  clear w1
  have w1 := w
  clear w
  obtain ⟨x, s3, rfl, w⟩ := pI_x w1
  clear w1
  exact lv_icmp_lt hx hb hdg ht (fun q => (ite_a (q) w) ad cd H locs lsM iv hlv hll hlo (okT (okT hst))) (fun q => (ite_b (q) w) ad cd H locs lsM iv hlv hll hlo (okT (okT hst)))
theorem sd_icmp_ge {cc : ByteArray} {nL : Nat} {own : String} {ret : Option FieldType} {nm : String} {pc : Nat} (off : Int) (t : Nat) (hdg : decode cc pc = .ok (.if_icmp .ge off, 3)) (ht : (pc : Int) + off = (t : Int)) : Snd cc nL own ret nm pc (oCGe t) := by
  intro p l e R s m args below meth c D A h0 ad0 cd0 lim Qz d K Q c0 C hK hE ls st h w ad cd H locs lsM iv hlv hll hlo hst
  obtain ⟨hx, hb, hml, hown, hts, hrt, hlk, hnm, hxk, hKK, hA, hR⟩ := C
  dsimp only [oCGe] at w
  have w1 := w
  clear w
  obtain ⟨y, s2, rfl, w⟩ := pI_x w1
  clear w1
  have w1 := w
  clear w
  obtain ⟨x, s3, rfl, w⟩ := pI_x w1
  clear w1
  exact lv_icmp_ge hx hb hdg ht (fun q => (ite_b (Int32.not_lt.mpr q) w) ad cd H locs lsM iv hlv hll hlo (okT (okT hst))) (fun q => (ite_a (Int32.not_le.mp q) w) ad cd H locs lsM iv hlv hll hlo (okT (okT hst)))
theorem sd_icmp_gt {cc : ByteArray} {nL : Nat} {own : String} {ret : Option FieldType} {nm : String} {pc : Nat} (off : Int) (t : Nat) (hdg : decode cc pc = .ok (.if_icmp .gt off, 3)) (ht : (pc : Int) + off = (t : Int)) : Snd cc nL own ret nm pc (oCGt t) := by
  intro p l e R s m args below meth c D A h0 ad0 cd0 lim Qz d K Q c0 C hK hE ls st h w ad cd H locs lsM iv hlv hll hlo hst
  obtain ⟨hx, hb, hml, hown, hts, hrt, hlk, hnm, hxk, hKK, hA, hR⟩ := C
  dsimp only [oCGt] at w
  have w1 := w
  clear w
  obtain ⟨y, s2, rfl, w⟩ := pI_x w1
  clear w1
  have w1 := w
  clear w
  obtain ⟨x, s3, rfl, w⟩ := pI_x w1
  clear w1
  exact lv_icmp_gt hx hb hdg ht (fun q => (ite_a (q) w) ad cd H locs lsM iv hlv hll hlo (okT (okT hst))) (fun q => (ite_b (q) w) ad cd H locs lsM iv hlv hll hlo (okT (okT hst)))
theorem sd_icmp_le {cc : ByteArray} {nL : Nat} {own : String} {ret : Option FieldType} {nm : String} {pc : Nat} (off : Int) (t : Nat) (hdg : decode cc pc = .ok (.if_icmp .le off, 3)) (ht : (pc : Int) + off = (t : Int)) : Snd cc nL own ret nm pc (oCLe t) := by
  intro p l e R s m args below meth c D A h0 ad0 cd0 lim Qz d K Q c0 C hK hE ls st h w ad cd H locs lsM iv hlv hll hlo hst
  obtain ⟨hx, hb, hml, hown, hts, hrt, hlk, hnm, hxk, hKK, hA, hR⟩ := C
  dsimp only [oCLe] at w
  have w1 := w
  clear w
  obtain ⟨y, s2, rfl, w⟩ := pI_x w1
  clear w1
  have w1 := w
  clear w
  obtain ⟨x, s3, rfl, w⟩ := pI_x w1
  clear w1
  exact lv_icmp_le hx hb hdg ht (fun q => (ite_b (Int32.not_lt.mpr q) w) ad cd H locs lsM iv hlv hll hlo (okT (okT hst))) (fun q => (ite_a (Int32.not_le.mp q) w) ad cd H locs lsM iv hlv hll hlo (okT (okT hst)))
theorem sd_goto {cc : ByteArray} {nL : Nat} {own : String} {ret : Option FieldType} {nm : String} {pc : Nat} (off : Int) (t : Nat) (hdg : decode cc pc = .ok (.goto off, 3)) (ht : (pc : Int) + off = (t : Int)) : Snd cc nL own ret nm pc (oGoto t) := by
  intro p l e R s m args below meth c D A h0 ad0 cd0 lim Qz d K Q c0 C hK hE ls st h w ad cd H locs lsM iv hlv hll hlo hst
  obtain ⟨hx, hb, hml, hown, hts, hrt, hlk, hnm, hxk, hKK, hA, hR⟩ := C
  dsimp only [oGoto] at w
  exact lv_goto hx hb hdg ht (w ad cd H locs lsM iv hlv hll hlo hst)
theorem sd_tab {cc : ByteArray} {nL : Nat} {own : String} {ret : Option FieldType} {nm : String} {pc : Nat} (dflt lo hi : Int) (offs : Array Int) (len : Nat) (ts : List Nat) (df : Nat) (hdg : decode cc pc = .ok (.tableswitch dflt lo hi offs, len)) (ho : offs = (ts.map fun (t : Nat) => (t : Int) - pc).toArray) (hh : hi + 1 = lo + ts.length) (hd : (pc : Int) + dflt = (df : Int)) : Snd cc nL own ret nm pc (oTab lo ts df) := by
  intro p l e R s m args below meth c D A h0 ad0 cd0 lim Qz d K Q c0 C hK hE ls st h w ad cd H locs lsM iv hlv hll hlo hst
  obtain ⟨hx, hb, hml, hown, hts, hrt, hlk, hnm, hxk, hKK, hA, hR⟩ := C
  dsimp only [oTab] at w
  have w1 := w
  clear w
  obtain ⟨x, s2, rfl, w⟩ := pI_x w1
  clear w1
  by_cases h1 : x.toInt < lo
  · rw [show tabT lo ts df x = df from if_pos h1] at w
    exact lv_tableOut hx hb hdg (Or.inl h1) hd (w ad cd H locs lsM iv hlv hll hlo (okT hst))
  · by_cases h2 : hi < x.toInt
    · have e : ts[(x.toInt - lo).toNat]? = none := List.getElem?_eq_none (by omega)
      rw [show tabT lo ts df x = df from by unfold tabT; rw [if_neg h1, List.getD_eq_getElem?_getD, e]; rfl] at w
      exact lv_tableOut hx hb hdg (Or.inr h2) hd (w ad cd H locs lsM iv hlv hll hlo (okT hst))
    · have hl : (x.toInt - lo).toNat < ts.length := by omega
      have e : ts[(x.toInt - lo).toNat]? = some ts[(x.toInt - lo).toNat] := List.getElem?_eq_getElem hl
      rw [show tabT lo ts df x = ts[(x.toInt - lo).toNat] from by unfold tabT; rw [if_neg h1, List.getD_eq_getElem?_getD, e]; rfl] at w
      refine lv_tableIn (off := (ts[(x.toInt - lo).toNat] : Int) - pc) hx hb hdg h1 h2 ?_ (by omega) (w ad cd H locs lsM iv hlv hll hlo (okT hst))
      rw [ho, List.getElem?_toArray, List.getElem?_map, e]
      rfl
theorem look_off (pc : Nat) (dflt : Int) (df : Nat) (hd : (pc : Int) + dflt = (df : Int)) (x : Int32) : ∀ ps : List (Int32 × Nat), (pc : Int) + Op.lookupswitch.offset (ps.map fun (q : Int32 × Nat) => (q.1.toInt, (q.2 : Int) - pc)) dflt x.toInt = (lookT ps df x : Int)
  | [] => hd
  | (k, t) :: l => by
    show (pc : Int) + Op.lookupswitch.offset ((k.toInt, (t : Int) - pc) :: l.map fun (q : Int32 × Nat) => (q.1.toInt, (q.2 : Int) - pc)) dflt x.toInt = ((if x = k then t else lookT l df x : Nat) : Int)
    rw [Op.lookupswitch.offset_cons]
    by_cases e : x = k
    · rw [if_pos (by rw [e]), if_pos e]
      omega
    · rw [if_neg (fun q => e (Int32.toInt_inj.mp q.symm)), if_neg e]
      exact look_off pc dflt df hd x l
theorem sd_look {cc : ByteArray} {nL : Nat} {own : String} {ret : Option FieldType} {nm : String} {pc : Nat} (dflt : Int) (qs : Array (Int × Int)) (len : Nat) (ps : List (Int32 × Nat)) (df : Nat) (hdg : decode cc pc = .ok (.lookupswitch dflt qs, len)) (hp : (qs.toList.zip (qs.toList.drop 1)).all (fun (a, next) => a.1 < next.1) = true) (ho : qs.toList = ps.map fun (q : Int32 × Nat) => (q.1.toInt, (q.2 : Int) - pc)) (hd : (pc : Int) + dflt = (df : Int)) : Snd cc nL own ret nm pc (oLook ps df) := by
  intro p l e R s m args below meth c D A h0 ad0 cd0 lim Qz d K Q c0 C hK hE ls st h w ad cd H locs lsM iv hlv hll hlo hst
  obtain ⟨hx, hb, hml, hown, hts, hrt, hlk, hnm, hxk, hKK, hA, hR⟩ := C
  dsimp only [oLook] at w
  have w1 := w
  clear w
  obtain ⟨x, s2, rfl, w⟩ := pI_x w1
  clear w1
  exact lv_lookup hx hb hdg hp rfl (by rw [ho]; exact look_off pc dflt df hd x ps) (w ad cd H locs lsM iv hlv hll hlo (okT hst))
