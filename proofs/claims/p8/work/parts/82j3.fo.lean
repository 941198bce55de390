def pFo (z K V : Int) : Prop := (z = -1 ∧ ¬ (K = 3 ∧ 16 ≤ V ∧ V ≤ 19)) ∨ (0 ≤ z ∧ K = 3 ∧ V = 16 + z ∧ z ≤ 3)
theorem pFo_y {z K V : Int} (h : pFo z K V) (k : 0 ≤ z) : K = 3 ∧ V = 16 + z ∧ z ≤ 3 := by rcases h with h | h; (· exact absurd h.1 (by omega)); (· exact h.2)
theorem pFo_n {z K V : Int} (h : pFo z K V) (k : z < 0) : ¬ (K = 3 ∧ 16 ≤ V ∧ V ≤ 19) := by rcases h with h | h; (· exact h.2); (· exact absurd h.1 (by omega))
section Fo
variable {b : tTx} {n : Nat} {c x : Int} {h : Nat}
theorem sFo_0 (a : pK b n h = 3) (v : pV b n h = 16) : sFo b n c x h = (0, h + 1, x) := by unfold sFo; rw [if_pos ⟨a, by omega, by omega⟩, if_pos v]
theorem sFo_c (a : pK b n h = 3) (v : 17 ≤ pV b n h ∧ pV b n h ≤ 19) (w : pCf b n c (h + 1) = 0) : sFo b n c x h = (0, h + 2, x) := by unfold sFo; rw [if_pos ⟨a, by omega, by omega⟩, if_neg (by omega), if_pos w]
theorem sFo_v (a : pK b n h = 3) (v : 17 ≤ pV b n h ∧ pV b n h ≤ 19) (w : pCf b n c (h + 1) ≠ 0) : sFo b n c x h = (pCf b n c (h + 1), h + 1, 0) := by unfold sFo; rw [if_pos ⟨a, by omega, by omega⟩, if_neg (by omega), if_neg w]
theorem sFo_n (a : ¬ (pK b n h = 3 ∧ 16 ≤ pV b n h ∧ pV b n h ≤ 19)) : sFo b n c x h = (1, h, 0) := by unfold sFo; rw [if_neg a]
end Fo
