/-! the reference: where a tuple comes -/
theorem ry6_n {f : Nat → Int32} {k : Int} (h : 0 ≤ k) : rk f (6 * k) = ry6 f k.toNat := by
  unfold ry6; rw [show 6 * k = 6 * ((k.toNat : Nat) : Int) by omega]
section Ref
variable {f f' : Nat → Int32} {n k : Nat} {t : Tup} {c m : Int32}
def loW (f : Nat → Int32) (n k : Nat) (t : Tup) : Prop := k ≤ n ∧ (∀ i, i < k → tc (tup f i) t = -1) ∧ ∀ i, k ≤ i → i < n → tc (tup f i) t ≠ -1
theorem lo_of (hs : srtB f n) (hk : k ≤ n) (a : 0 < k → tc (tup f (k - 1)) t = -1) (b : k < n → tc (tup f k) t ≠ -1) : loW f n k t := by
  refine ⟨hk, fun i hi => ?_, fun i hi hn e => ?_⟩
  · have q := a (by omega)
    by_cases w : i = k - 1
    · rw [w]; exact q
    · exact tc_t (b := tup f (k - 1)) (by rw [hs i (k - 1) (by omega) (by omega)]; decide) (by rw [q]; decide) (Or.inl (by rw [hs i (k - 1) (by omega) (by omega)]; decide))
  · by_cases w : i = k
    · rw [w] at e; exact b (by omega) e
    · have q := hs k i (by omega) hn
      exact b (by omega) (tc_t (b := tup f i) (by rw [q]; decide) (by rw [e]; decide) (Or.inl (by rw [q]; decide)))
theorem lo_at (hs : srtB f n) (h : loW f n k t) (hk : k < n → tc (tup f k) t ≠ 0) : atW f n k t := by
  refine ⟨h.1, h.2.1, fun i hi hn => ?_⟩
  have q1 := h.2.2 k (Nat.le_refl _) (by omega)
  have q2 := hk (by omega)
  have q3 : tc (tup f k) t = 1 := by
    rcases tc_r (a := tup f k) (b := t) with e | e | e
    · exact absurd e q1
    · exact absurd e q2
    · exact e
  by_cases w : i = k
  · rw [w]; exact q3
  · have a : tc t (tup f k) = -1 := by rw [tc_s, q3]
    have b := hs k i (by omega) hn
    have d := tc_t (a := t) (b := tup f k) (c := tup f i) (by rw [a]; decide) (by rw [b]; decide) (Or.inl (by rw [a]; decide))
    rw [tc_s, d]; rfl
/-- rows moved up by one, a row written -/
def shW (f f' : Nat → Int32) (n : Nat) (i : Int) : Prop := (∀ j : Nat, (j : Int) ≤ i + 6 → f' j = f j) ∧ ∀ j : Nat, i < (j : Int) → j < 6 * n → f' (j + 6) = f j
theorem shW_0 : shW f f n (6 * (n : Int) - 1) := ⟨fun _ _ => rfl, fun j h h2 => absurd h (by omega)⟩
theorem shW_s {f'' : Nat → Int32} {i : Int} (h : shW f f' n i) (h0 : 0 ≤ i) (e : ∀ j : Nat, j ≠ (i + 6).toNat → f'' j = f' j) (e' : f'' (i + 6).toNat = f' i.toNat) : shW f f'' n (i - 1) := by
  refine ⟨fun j hj => by rw [e j (by omega)]; exact h.1 j (by omega), fun j hj hn => ?_⟩
  by_cases w : (j : Int) = i
  · rw [show j + 6 = (i + 6).toNat by omega, e', show i.toNat = j by omega]; exact h.1 j (by omega)
  · rw [e _ (by omega)]; exact h.2 j (by omega) hn
def wrW (f f' : Nat → Int32) (k n : Nat) (t : Tup) (i : Int) : Prop := (∀ j : Nat, j < 6 * k → f' j = f j) ∧ (∀ j : Nat, (j : Int) < i → f' (6 * k + j) = tg t j) ∧ ∀ j : Nat, 6 * k ≤ j → j < 6 * n → f' (j + 6) = f j
theorem wrW_0 {i : Int} (h : shW f f' n i) (hi : i = 6 * (k : Int) - 1) : wrW f f' k n t 0 := ⟨fun j hj => h.1 j (by omega), fun j hj => absurd hj (by omega), fun j hj hn => h.2 j (by omega) hn⟩
theorem wrW_s {f'' : Nat → Int32} {i : Int} (h : wrW f f' k n t i) (h0 : 0 ≤ i ∧ i < 4) (e : ∀ j : Nat, j ≠ 6 * k + i.toNat → f'' j = f' j) (e' : f'' (6 * k + i.toNat) = tg t i.toNat) : wrW f f'' k n t (i + 1) := by
  refine ⟨fun j hj => by rw [e j (by omega)]; exact h.1 j hj, fun j hj => ?_, fun j hj hn => by rw [e _ (by omega)]; exact h.2.2 j hj hn⟩
  by_cases w : j = i.toNat
  · rw [w]; exact e'
  · rw [e _ (by omega)]; exact h.2.1 j (by omega)
theorem wrW_e {f1 f2 : Nat → Int32} {i : Int} (h : wrW f f' k n t i) (hi : 4 ≤ i) (e1 : ∀ j, j ≠ 6 * k + 4 → f1 j = f' j) (e1' : f1 (6 * k + 4) = c) (e2 : ∀ j, j ≠ 6 * k + 5 → f2 j = f1 j) (e2' : f2 (6 * k + 5) = m) : insW f f2 k n t c m := by
  refine ⟨fun r hr j hj => by rw [e2 _ (by omega), e1 _ (by omega)]; exact h.1 _ (by omega), ⟨tg_x (fun j hj => ?_), by rw [e2 _ (by omega)]; exact e1', e2'⟩, fun r hr hn j hj => ?_⟩
  · rw [tg_up j hj, e2 _ (by omega), e1 _ (by omega)]; exact h.2.1 j (by omega)
  · rw [show 6 * (r + 1) + j = 6 * r + j + 6 by omega, e2 _ (by omega), e1 _ (by omega)]; exact h.2.2 _ (by omega) (by omega)
end Ref
