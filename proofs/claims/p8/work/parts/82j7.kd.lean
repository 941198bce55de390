def pKd (z K V : Int) : Prop := (z = -1 ∧ ¬ (K = 3 ∧ 1 ≤ V ∧ V ≤ 8)) ∨ (1 ≤ z ∧ z ≤ 8 ∧ K = 3 ∧ V = z)
theorem pKd_y {z K V : Int} (h : pKd z K V) (k : 0 ≤ z) : 1 ≤ z ∧ z ≤ 8 ∧ K = 3 ∧ V = z := by rcases h with h | h; (· exact absurd h.1 (by omega)); (· exact h)
theorem pKd_n {z K V : Int} (h : pKd z K V) (k : z < 0) : ¬ (K = 3 ∧ 1 ≤ V ∧ V ≤ 8) := by rcases h with h | h; (· exact h.2); (· exact absurd h.1 (by omega))
theorem pKd_m {K V : Int} (a : Hid (¬ (K = 3 ∧ V = ((1 : Nat) : Int)))) (b : Hid (¬ (K = 3 ∧ V = ((2 : Nat) : Int)))) (c : Hid (¬ (K = 3 ∧ V = ((3 : Nat) : Int)))) (d : Hid (¬ (K = 3 ∧ V = ((4 : Nat) : Int)))) (e : Hid (¬ (K = 3 ∧ V = ((5 : Nat) : Int)))) (f : Hid (¬ (K = 3 ∧ V = ((6 : Nat) : Int)))) (g : Hid (¬ (K = 3 ∧ V = ((7 : Nat) : Int)))) (h : Hid (¬ (K = 3 ∧ V = ((8 : Nat) : Int)))) : ¬ (K = 3 ∧ 1 ≤ V ∧ V ≤ 8) := fun ⟨k, l, m⟩ => by
  unfold Hid at *
  have : V = 1 ∨ V = 2 ∨ V = 3 ∨ V = 4 ∨ V = 5 ∨ V = 6 ∨ V = 7 ∨ V = 8 := by omega
  rcases this with q | q | q | q | q | q | q | q
  · exact a ⟨k, q⟩
  · exact b ⟨k, q⟩
  · exact c ⟨k, q⟩
  · exact d ⟨k, q⟩
  · exact e ⟨k, q⟩
  · exact f ⟨k, q⟩
  · exact g ⟨k, q⟩
  · exact h ⟨k, q⟩
