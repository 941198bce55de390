/-! the engine at the start -/
section St8
variable {g : gG}
theorem s_rob {b n j : Nat} (h : ∀ j, j < n → cA 341 b j = some (b + 1 + 2 * j) ∧ kT (b + 1 + 2 * j) = 4 ∧ b + 1 + 2 * j < 223) (hj : j < n) : rob (wA g 341) (gZ g + b) j = gZ g + (b + 1 + 2 * j) := rob_e (wA_at (h j hj).1)
theorem s_xD : xD (hG (gZ g)) (wA g 341) (gZ g + 80) (gZ g + 113) := by
  have e35 : hG (gZ g) 35 0 = gZ g + 146 := rfl
  have e36 : hG (gZ g) 36 0 = gZ g + 188 := rfl
  have e37 : hG (gZ g) 37 0 = gZ g + 179 := rfl
  have e38 : hG (gZ g) 38 0 = gZ g + 181 := rfl
  have e40 : hG (gZ g) 40 0 = gZ g + 185 := rfl
  unfold xD
  rw [e35, e36, e37, e38, e40]
  refine ⟨fun i j hi hj e => ?_, fun i j hi hj e => ?_, fun i j hi hj e => ?_, fun i j hi hj e => ?_, fun i j hi hj e => ?_, fun i hi e => ?_, by omega, fun i hi e => ?_⟩
  · rw [s_rob tB80 hi, s_rob tB80 hj] at e; omega
  · rw [s_rob tB113 hi, s_rob tB113 hj] at e; omega
  · rw [s_rob tB80 hi, s_rob tB113 hj] at e; omega
  · rw [s_rob tB146 hi, s_rob tB146 hj] at e; omega
  · rw [s_rob tB188 hi, s_rob tB188 hj] at e; omega
  · rw [s_rob tB188 hi] at e; omega
  · rw [s_rob tB146 hi] at e; omega
theorem s_E8 : lE8 g (wI g 341) (wA g 341) zA (gZ g + 42) (gZ g + 80) (gZ g + 113) := by
  have i0 : ∀ o k, cI 341 o k = 0 → (wI g 341 (gZ g + o) k).toInt = 0 := fun o k h => by rw [wI_0 h]; rfl
  have e38 : hG (gZ g) 38 0 = gZ g + 181 := rfl
  refine ⟨0, 0, fun _ => (fun _ => 0, fun _ _ => 0), fun _ => 0, ⟨i0 42 1 (by decide +kernel), i0 42 2 (by decide +kernel), ⟨Int.le_refl 0, Int.le_refl 0, by decide⟩, fun r hr => absurd hr (Nat.not_lt_zero r), ⟨i0 205 2 (by decide +kernel), ⟨Int.le_refl 0, Int.le_refl 0⟩, fun r h0 h1 => absurd h1 (by omega), fun r hr => absurd hr (Nat.not_lt_zero r)⟩, fun r hr => absurd hr (Nat.not_lt_zero r)⟩, ⟨?_, ⟨?_, ?_, ?_⟩, fun r hr => absurd hr (Nat.not_lt_zero r), s_xD, ?_⟩, lB_0 (i0 179 3 (by decide +kernel))⟩
  · exact eS_0 (fun r hr => absurd hr (Nat.not_lt_zero r)) (Int.le_refl 0) (by rw [i0 0 14 (by decide +kernel)]; decide) (fun r hr => absurd hr (Nat.not_lt_zero r)) (fun r hr => absurd hr (Nat.not_lt_zero r)) (i0 0 15 (by decide +kernel))
  · rw [i0 0 15 (by decide +kernel), i0 205 8 (by decide +kernel)]
  · rw [wI_0 (o := 0) (k := 16) (by decide +kernel), wI_0 (o := 205) (k := 9) (by decide +kernel)]
  · rw [wI_0 (o := 0) (k := 17) (by decide +kernel), wI_0 (o := 205) (k := 10) (by decide +kernel)]
  · rw [e38]; exact i0 181 3 (by decide +kernel)
end St8
