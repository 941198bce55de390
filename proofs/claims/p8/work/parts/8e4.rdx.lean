/-! the last round, read off the marks -/
def rdX (f : Nat → Int32) (i : Nat) (v : Int) : Prop := 0 ≤ v ∧ (∀ q, q < i → (f (6 * q + 5)).toInt ≤ v) ∧ (v = 0 ∨ ∃ q, q < i ∧ v = (f (6 * q + 5)).toInt)
theorem rdX_0 {f : Nat → Int32} : rdX f 0 0 := ⟨Int.le_refl _, fun q h => absurd h (Nat.not_lt_zero q), Or.inl rfl⟩
theorem rdX_s {f : Nat → Int32} {i : Nat} {v w : Int} (h : rdX f i v) (hw : (w = v ∧ (f (6 * i + 5)).toInt ≤ v) ∨ (w = (f (6 * i + 5)).toInt ∧ v ≤ (f (6 * i + 5)).toInt)) : rdX f (i + 1) w := by
  obtain ⟨h1, h2, h3⟩ := h
  refine ⟨by omega, fun q hq => ?_, ?_⟩
  · by_cases e : q = i
    · rw [e]; omega
    · have := h2 q (by omega); omega
  · rcases hw with ⟨e, _⟩ | ⟨e, _⟩
    · rw [e]; exact h3.imp id (fun ⟨q, a, b⟩ => ⟨q, by omega, b⟩)
    · exact Or.inr ⟨i, by omega, e⟩
theorem rg_R {c : LC} {x y f : Nat → Int32} {n m R k : Nat} {z : Int} (h : rgY c x n y m R f k) (hz : rdX f k z) : z = (R : Int) := by
  obtain ⟨h1, _, h3, _, M, h5, h6⟩ := h
  obtain ⟨z1, z2, z3⟩ := hz
  have mk : ∀ q, q < k → ∃ w : Nat, w ≤ R ∧ (f (6 * q + 5)).toInt = (w : Int) := fun q hq => by
    have r := h5.2.1 q hq
    obtain ⟨w, w1, w2⟩ := rS_at R _ r.1
    refine ⟨w, w1, ?_⟩
    rw [r.2.2, h6 w _ w1 w2, iI_val ⟨by omega, by omega⟩]
  have le : z ≤ (R : Int) := by
    rcases z3 with e | ⟨q, a, e⟩
    · omega
    · obtain ⟨w, w1, w2⟩ := mk q a
      omega
  have ge : (R : Int) ≤ z := by
    rcases h3 with e | ⟨t, ht⟩
    · omega
    · obtain ⟨q, a, e⟩ := h5.2.2 t (rS_new R t ht)
      have r := (h5.2.1 q a).2.2
      rw [e, h6 R t (Nat.le_refl _) ht] at r
      have s := z2 q a
      rw [r, iI_val ⟨by omega, by omega⟩] at s
      exact s
  omega
