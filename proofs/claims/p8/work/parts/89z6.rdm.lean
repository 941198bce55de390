/-! the reference: what is read -/
/-- a tuple as it is told, 0 beyond the columns -/
def kyT (cols a b c d : Int) : Tup := (iI a, iI (if 1 < cols then b else 0), iI (if 2 < cols then c else 0), iI (if 3 < cols then d else 0))
theorem kyT_of {cols a b c d k0 k1 k2 k3 : Int} {h : Nat → Int32} (e0 : h 0 = iI k0) (e1 : h 1 = iI k1) (e2 : h 2 = iI k2) (e3 : h 3 = iI k3) (f0 : k0 = a) (f1 : k1 = if 1 < cols then b else 0) (f2 : k2 = if 2 < cols then c else 0) (f3 : k3 = if 3 < cols then d else 0) : ∀ j, j < 4 → h j = tg (kyT cols a b c d) j := fun j hj => by
  subst f0; subst f1; subst f2; subst f3
  match j, hj with
  | 0, _ => exact e0
  | 1, _ => exact e1
  | 2, _ => exact e2
  | 3, _ => exact e3
/-- where a tuple is found -/
def fdM (f : Nat → Int32) (n : Nat) (t : Tup) (z : Int) : Prop := (0 ≤ z ∧ z < (n : Int) ∧ tup f z.toNat = t) ∨ (z = -1 ∧ ∀ q : Nat, q < n → tup f q ≠ t)
theorem fdM_r {f : Nat → Int32} {n : Nat} {t : Tup} {z : Int} (h : fdM f n t z) : z = -1 ∨ (0 ≤ z ∧ z < (n : Int)) := by
  rcases h with h | h
  · exact Or.inr ⟨h.1, h.2.1⟩
  · exact Or.inl h.1
theorem fdM_y {f : Nat → Int32} {n : Nat} {t : Tup} {z : Int} (h : fdM f n t z) (h0 : 0 ≤ z) : tup f z.toNat = t := by
  rcases h with h | h
  · exact h.2.2
  · have := h.1; omega
theorem fdM_n {f : Nat → Int32} {n : Nat} {t : Tup} {z : Int} (h : fdM f n t z) (h0 : z < 0) : ∀ q : Nat, q < n → tup f q ≠ t := by
  rcases h with h | h
  · have := h.1; omega
  · exact h.2
theorem fdM_c {f : Nat → Int32} {n : Nat} {t : Tup} {z : Int} (ok : okB f n) (h : fdM f n t z) (h0 : 0 ≤ z) : bS f n t = f (6 * z.toNat + 4) := by
  have r := fdM_r h
  rw [← fdM_y h h0]; exact bS_s ok.1 (by omega)
theorem fdM_0 {f : Nat → Int32} {n : Nat} {t : Tup} {z : Int} (h : fdM f n t z) (h0 : z < 0) : bS f n t = 0 := bS_n n (fun i hi => fdM_n h h0 i hi)
def smA (f : Nat → Int32) : Nat → Int32
  | 0 => 0
  | i + 1 => smA f i + f (6 * i + 4)
theorem smA_c {f f' : Nat → Int32} : ∀ n, rwA f f' n → smA f n = smA f' n
  | 0, _ => rfl
  | n + 1, h => by rw [smA, smA, smA_c n (fun i hi => h i (by omega)), h n (by omega) 4 (by omega)]
/-- told or not -/
def tdM (T : Nat → Int32) (nr : Nat) (rr wh : Int) : Prop := (0 ≤ rr ∧ rr < (nr : Int)) ∧ (wh = 4 ∨ (0 ≤ wh ∧ wh < tI T (40 * rr + 1)))
/-- the round of a tuple -/
def mkR (f : Nat → Int32) (n : Nat) (t : Tup) (z : Int) : Prop := (∃ i, i < n ∧ tup f i = t ∧ z = (f (6 * i + 5)).toInt) ∨ ((∀ q : Nat, q < n → tup f q ≠ t) ∧ z = -1)
