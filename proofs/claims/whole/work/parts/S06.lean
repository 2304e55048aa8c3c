/-! the beginning: REL holds of new objects -/
theorem CP_454 {P : Nat → Nat → Option Nat} {f : Nat → Option Nat} (h : CP P) : CP (wA P 454 f) := by
  unfold CP at *
  rw [tw (by decide), tw (by decide), tw (by decide), tw (by decide), tw (by decide), tw (by decide), tw (by decide), tw (by decide), tw (by decide), tw (by decide), tw (by decide), tw (by decide), tw (by decide), tw (by decide)]
  exact h
theorem MP_454 {P : Nat → Nat → Option Nat} : MP (wA P 454 (va_up (va_up (va_up (va_up (va_up (va_up (va_up (va_up (va_up (va_up (va_up (va_up (va_up (va_up (va_up (va_up (va_up (va_up (va_up (va_up (va_up (va_up (va_up (va_up (va_up (va_up (va_up (va_up (va_up (P 454) 2 (some 455)) 4 (some 456)) 5 (some 457)) 7 (some 458)) 8 (some 459)) 9 (some 460)) 11 (some 461)) 13 (some 462)) 15 (some 463)) 16 (some 464)) 18 (some 465)) 19 (some 466)) 20 (some 467)) 23 (some 468)) 25 (some 469)) 26 (some 470)) 35 (some 471)) 36 (some 472)) 37 (some 473)) 39 (some 474)) 40 (some 475)) 41 (some 476)) 42 (some 477)) 43 (some 478)) 44 (some 479)) 45 (some 480)) 46 (some 481)) 47 (some 482)) 48 (some 483))) := by
  unfold MP
  refine ⟨?_, ?_, ?_, ?_, ?_, ?_, ?_, ?_, ?_, ?_, ?_, ?_, ?_, ?_, ?_, ?_, ?_, ?_, ?_, ?_, ?_, ?_, ?_, ?_, ?_, ?_, ?_, ?_, ?_⟩
  all_goals simp (disch := omega) only [wA_s, tup, tup_s]
theorem REL_0 {J K : Nat → Nat → Int32} {P : Nat → Nat → Option Nat} (hJ : NC 0 J) (jo : ∀ a, ¬ (50 ≤ a ∧ a < 430) → J a = wA (fun _ _ => 0) 22 (m1F (fun _ => 0)) a) (hc : CP P) (hp : NP P) (p2 : P 1 2 = some 4) (p3 : P 1 3 = some 5) (p4 : P 1 4 = some 6) (hK : MC 0 (K 454 0) (K 454 1) (K 454 6) (K 454 10) (K 454 12) K) (ko : ∀ a, ¬ a = 454 → ¬ (456 ≤ a ∧ a < 462) → ¬ a = 474 → ¬ a = 477 → ¬ a = 478 → K a = wA J 466 (m1F (J 466)) a) (k4 : ∀ k, ¬ k = 0 → ¬ k = 1 → ¬ k = 6 → ¬ k = 10 → ¬ k = 12 → K 454 k = J 454 k) : REL 0 K (fun _ _ => 0) (wA P 454 (va_up (va_up (va_up (va_up (va_up (va_up (va_up (va_up (va_up (va_up (va_up (va_up (va_up (va_up (va_up (va_up (va_up (va_up (va_up (va_up (va_up (va_up (va_up (va_up (va_up (va_up (va_up (va_up (va_up (P 454) 2 (some 455)) 4 (some 456)) 5 (some 457)) 7 (some 458)) 8 (some 459)) 9 (some 460)) 11 (some 461)) 13 (some 462)) 15 (some 463)) 16 (some 464)) 18 (some 465)) 19 (some 466)) 20 (some 467)) 23 (some 468)) 25 (some 469)) 26 (some 470)) 35 (some 471)) 36 (some 472)) 37 (some 473)) 39 (some 474)) 40 (some 475)) 41 (some 476)) 42 (some 477)) 43 (some 478)) 44 (some 479)) 45 (some 480)) 46 (some 481)) 47 (some 482)) 48 (some 483))) := by
  have z : ∀ a, ¬ a = 454 → ¬ (456 ≤ a ∧ a < 462) → ¬ a = 474 → ¬ a = 477 → ¬ a = 478 → ¬ a = 466 → ¬ (50 ≤ a ∧ a < 430) → ¬ a = 22 → K a = fun _ => 0 := fun a a1 a2 a3 a4 a5 a6 a7 a8 => by rw [ko a a1 a2 a3 a4 a5, tw a6, jo a a7, tw a8]
  have j4 : J 454 = fun _ => 0 := by rw [jo 454 (by omega), tw (by decide)]
  have z4 : ∀ k, ¬ k = 0 → ¬ k = 1 → ¬ k = 6 → ¬ k = 10 → ¬ k = 12 → K 454 k = 0 := fun k c0 c1 c2 c3 c4 => by rw [k4 k c0 c1 c2 c3 c4, j4]
  have e22 : K 22 = m1F (fun _ => 0) := by rw [ko 22 (by decide) (by omega) (by decide) (by decide) (by decide), tw (by decide), jo 22 (by omega), wA_s]
  have e466 : K 466 = m1F (fun _ => 0) := by rw [ko 466 (by decide) (by omega) (by decide) (by decide) (by decide), wA_s, jo 466 (by omega), tw (by decide)]
  have hN : NC 0 (cut 50 429 K) := NC_d (NC_q (fun a l1 l2 => by rw [ko a (by omega) (by omega) (by omega) (by omega) (by omega), tw (by omega)]) hJ)
  have hM : MC 0 (K 454 0) (K 454 1) (K 454 6) (K 454 10) (K 454 12) (cut 456 462 K) := MC_j hK (cut_e (by decide) (by decide)) (cut_e (by decide) (by decide)) (cut_e (by decide) (by decide)) (cut_e (by decide) (by decide)) (cut_e (by decide) (by decide)) (cut_e (by decide) (by decide))
  have nn : 0 < nN 0 := by decide
  have n0 : (0 : Int32) = nI 0 := rfl
  have pn : ∀ f, ¬ f = 454 → wA P 454 (va_up (va_up (va_up (va_up (va_up (va_up (va_up (va_up (va_up (va_up (va_up (va_up (va_up (va_up (va_up (va_up (va_up (va_up (va_up (va_up (va_up (va_up (va_up (va_up (va_up (va_up (va_up (va_up (va_up (P 454) 2 (some 455)) 4 (some 456)) 5 (some 457)) 7 (some 458)) 8 (some 459)) 9 (some 460)) 11 (some 461)) 13 (some 462)) 15 (some 463)) 16 (some 464)) 18 (some 465)) 19 (some 466)) 20 (some 467)) 23 (some 468)) 25 (some 469)) 26 (some 470)) 35 (some 471)) 36 (some 472)) 37 (some 473)) 39 (some 474)) 40 (some 475)) 41 (some 476)) 42 (some 477)) 43 (some 478)) 44 (some 479)) 45 (some 480)) 46 (some 481)) 47 (some 482)) 48 (some 483)) f = P f := fun f hf => tw hf
  refine ⟨by decide, CP_454 hc, NP_w hp (by decide), MP_454, ⟨4, 5, 6, ?_, ?_, ?_, by omega, by omega, by omega, by omega, by omega, by omega⟩, hN, hM, ⟨?_, 0, nn, ?_⟩, ⟨?_, 0, by decide, ?_, fun i hi => absurd hi (Nat.not_lt_zero i)⟩, fun r hr k hk => ?_, fun r hr => ⟨?_, Or.inl ?_⟩, ⟨?_, 0, by decide, ?_, fun i hi => absurd hi (Nat.not_lt_zero i)⟩, ⟨?_, Or.inl ?_⟩, ⟨?_, 0, by decide, ?_, fun i hi => absurd hi (Nat.not_lt_zero i)⟩, ⟨?_, 0, by decide, ?_, fun i hi => absurd hi (Nat.not_lt_zero i)⟩, Or.inl ?_⟩
  · rw [pn 1 (by decide)]; exact p2
  · rw [pn 1 (by decide)]; exact p3
  · rw [pn 1 (by decide)]; exact p4
  · rw [z 0 (by decide) (by omega) (by decide) (by decide) (by decide) (by decide) (by omega) (by decide), z4 3 (by decide) (by decide) (by decide) (by decide) (by decide)]
  · rw [z 0 (by decide) (by omega) (by decide) (by decide) (by decide) (by decide) (by omega) (by decide)]; rfl
  · rw [z 0 (by decide) (by omega) (by decide) (by decide) (by decide) (by decide) (by omega) (by decide), z4 14 (by decide) (by decide) (by decide) (by decide) (by decide)]
  · rw [z 0 (by decide) (by omega) (by decide) (by decide) (by decide) (by decide) (by omega) (by decide)]; rfl
  · rw [cut_e (by omega) (by omega), z (44 + r) (by omega) (by omega) (by omega) (by omega) (by omega) (by omega) (by omega) (by omega), z 455 (by decide) (by omega) (by decide) (by decide) (by decide) (by decide) (by omega) (by decide)]
    exact ⟨rfl, (by decide : fit1 0 = true)⟩
  · rw [e22, e466]
  · rw [e22]
    rcases (by omega : r = 0 ∨ r = 1 ∨ r = 2) with rfl | rfl | rfl <;> rfl
  · rw [z 8 (by decide) (by omega) (by decide) (by decide) (by decide) (by decide) (by omega) (by decide), z4 17 (by decide) (by decide) (by decide) (by decide) (by decide)]
  · rw [z 8 (by decide) (by omega) (by decide) (by decide) (by decide) (by decide) (by omega) (by decide)]; rfl
  · rw [z 25 (by decide) (by omega) (by decide) (by decide) (by decide) (by decide) (by omega) (by decide), z4 31 (by decide) (by decide) (by decide) (by decide) (by decide)]
  · exact z4 31 (by decide) (by decide) (by decide) (by decide) (by decide)
  · rw [z 430 (by decide) (by omega) (by decide) (by decide) (by decide) (by decide) (by omega) (by decide), z4 21 (by decide) (by decide) (by decide) (by decide) (by decide)]
  · rw [z 430 (by decide) (by omega) (by decide) (by decide) (by decide) (by decide) (by omega) (by decide)]; rfl
  · rw [z 430 (by decide) (by omega) (by decide) (by decide) (by decide) (by decide) (by omega) (by decide), z4 27 (by decide) (by decide) (by decide) (by decide) (by decide)]
  · rw [z 430 (by decide) (by omega) (by decide) (by decide) (by decide) (by decide) (by omega) (by decide)]; rfl
  · rw [z 1 (by decide) (by omega) (by decide) (by decide) (by decide) (by decide) (by omega) (by decide)]
