/-! the reference: rows laid -/
section Lay
variable {f g g' g'' : Nat → Int32} {b : Nat} {k e : Int}
def layP (f g g' : Nat → Int32) (b : Nat) (k e : Int) : Prop :=
  (∀ r : Nat, (r : Int) < k → f (6 * r + 4) ≠ 0 → ∀ j : Nat, j < 6 → g' (b + 6 * (wCnt f r).toNat + j) = f (6 * r + j)) ∧
  (∀ j : Nat, (j : Int) < e → g' (b + 6 * (wCnt f k.toNat).toNat + j) = f (6 * k.toNat + j)) ∧
  ∀ p : Nat, p < b ∨ b + 6 * (wCnt f k.toNat).toNat + e.toNat ≤ p → g' p = g p
theorem layP_0 : layP f g g b 0 0 := ⟨fun r h => absurd h (by omega), fun j h => absurd h (by omega), fun _ _ => rfl⟩
theorem wC_lt {r k : Nat} (h : r < k) (n : f (6 * r + 4) ≠ 0) : wCnt f r + 1 ≤ wCnt f k := by
  have q := wCnt_s (f := f) (k := (r : Int)) (by omega) (by
    intro q9; refine n (Int32.toInt_inj.mp ?_); unfold tI at q9
    rw [show (6 * (r : Int) + 4).toNat = 6 * r + 4 by omega] at q9; rw [q9]; rfl)
  rw [show ((r : Int) + 1).toNat = r + 1 by omega, show (r : Int).toNat = r by omega] at q
  have q2 := wCnt_le (f := f) (a := r + 1) (b := k) h
  omega
theorem layP_s (h : layP f g g' b k e) (hk : 0 ≤ k) (h0 : 0 ≤ e ∧ e < 6) (hp : ∀ p : Nat, p ≠ b + 6 * (wCnt f k.toNat).toNat + e.toNat → g'' p = g' p) (hq : g'' (b + 6 * (wCnt f k.toNat).toNat + e.toNat) = f (6 * k.toNat + e.toNat)) : layP f g g'' b k (e + 1) := by
  refine ⟨fun r hr n j hj => ?_, fun j hj => ?_, fun p hp' => ?_⟩
  · have q := wC_lt (f := f) (r := r) (k := k.toNat) (by omega) n
    have q1 := wCnt_0 (f := f) (a := r)
    rw [hp _ (by omega)]; exact h.1 r hr n j hj
  · by_cases w : (j : Int) = e
    · rw [show j = e.toNat by omega]; exact hq
    · rw [hp _ (by omega)]; exact h.2.1 j (by omega)
  · rw [hp _ (by omega)]; exact h.2.2 p (by omega)
theorem layP_n (h : layP f g g' b k 6) (hk : 0 ≤ k) (n : tI f (6 * k + 4) ≠ 0) : layP f g g' b (k + 1) 0 := by
  have q := wCnt_s (f := f) hk n
  have q1 := wCnt_0 (f := f) (a := k.toNat)
  refine ⟨fun r hr nr j hj => ?_, fun j hj => absurd hj (by omega), fun p hp => h.2.2 p (by rw [q] at hp; omega)⟩
  by_cases w : (r : Int) = k
  · rw [show r = k.toNat by omega]; exact h.2.1 j (by omega)
  · exact h.1 r (by omega) nr j hj
theorem layP_z (h : layP f g g' b k 0) (hk : 0 ≤ k) (n : tI f (6 * k + 4) = 0) : layP f g g' b (k + 1) 0 := by
  have q := wCnt_z (f := f) hk n
  refine ⟨fun r hr nr j hj => ?_, fun j hj => absurd hj (by omega), fun p hp => h.2.2 p (by rw [q] at hp; omega)⟩
  by_cases w : (r : Int) = k
  · refine absurd ?_ nr
    unfold tI at n; rw [show (6 * k + 4).toNat = 6 * r + 4 by omega] at n
    exact Int32.toInt_inj.mp (by rw [n]; rfl)
  · exact h.1 r (by omega) nr j hj
end Lay
/-- what lays answers and leaves -/
def lyP (gh : gGh) (sd rr n : Int) (AI AI' : gI) (z : Int) : Prop :=
  (z = 0 ∧ layP (AI (gh 75 0)) (AI (gh 56 0)) (AI' (gh 56 0)) (11520 * sd + 720 * rr).toNat n 0 ∧ (∀ j : Nat, j ≠ (16 * sd + rr).toNat → AI' (gh 57 0) j = AI (gh 57 0) j) ∧ AI' (gh 57 0) (16 * sd + rr).toNat = iI (wCnt (AI (gh 75 0)) n.toNat) ∧ wCnt (AI (gh 75 0)) n.toNat ≤ 120) ∨
  (z = -3 ∧ 120 < wCnt (AI (gh 75 0)) n.toNat ∧ AI' (gh 56 0) = AI (gh 56 0) ∧ AI' (gh 57 0) = AI (gh 57 0))
theorem lyP_z {gh : gGh} {sd rr n : Int} {AI AI' : gI} {z : Int} (h : lyP gh sd rr n AI AI' z) : z = 0 ∨ z = -3 ∨ z = -4 := by
  rcases h with h | h
  · exact Or.inl h.1
  · exact Or.inr (Or.inl h.1)
