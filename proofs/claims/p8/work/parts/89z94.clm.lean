/-! the reference: a column's values -/
def cvM (f : Nat → Int32) (c q : Nat) : Int := (f (6 * q + c)).toInt
def leI (f : Nat → Int32) (c : Nat) (i : Nat) (v : Int) : Prop := (∀ q, q < i → v ≤ cvM f c q) ∧ (v = 2147483647 ∨ ∃ q, q < i ∧ v = cvM f c q)
def moI (f : Nat → Int32) (c : Nat) (i : Nat) (v : Int) : Prop := (∀ q, q < i → cvM f c q ≤ v) ∧ (v = -2147483648 ∨ ∃ q, q < i ∧ v = cvM f c q)
def leL (f : Nat → Int32) (c n : Nat) (v : Int) : Prop := (∀ q, q < n → v ≤ cvM f c q) ∧ ∃ q, q < n ∧ v = cvM f c q
def moL (f : Nat → Int32) (c n : Nat) (v : Int) : Prop := (∀ q, q < n → cvM f c q ≤ v) ∧ ∃ q, q < n ∧ v = cvM f c q
noncomputable def unC (f : Nat → Int32) (c : Nat) : Nat → Nat
  | 0 => 0
  | i + 1 => unC f c i + pN1 (∀ q, q < i → cvM f c q ≠ cvM f c i)
section Clm
variable {f : Nat → Int32} {c i n : Nat} {v w is j : Int}
theorem cv_r : -2147483648 ≤ cvM f c i ∧ cvM f c i ≤ 2147483647 := zr_t _
theorem leI_0 : leI f c 0 2147483647 := ⟨fun q h => absurd h (Nat.not_lt_zero q), Or.inl rfl⟩
theorem moI_0 : moI f c 0 (-2147483648) := ⟨fun q h => absurd h (Nat.not_lt_zero q), Or.inl rfl⟩
theorem leI_k (h : leI f c i v) (hw : v ≤ cvM f c i) : leI f c (i + 1) v := by
  refine ⟨fun q hq => ?_, h.2.imp id (fun ⟨q, a, b⟩ => ⟨q, by omega, b⟩)⟩
  by_cases e : q = i
  · rw [e]; exact hw
  · exact h.1 q (by omega)
theorem leI_n (h : leI f c i v) (hw : cvM f c i ≤ v) : leI f c (i + 1) (cvM f c i) := by
  refine ⟨fun q hq => ?_, Or.inr ⟨i, by omega, rfl⟩⟩
  by_cases e : q = i
  · rw [e]; exact Int.le_refl _
  · have := h.1 q (by omega); omega
theorem moI_k (h : moI f c i v) (hw : cvM f c i ≤ v) : moI f c (i + 1) v := by
  refine ⟨fun q hq => ?_, h.2.imp id (fun ⟨q, a, b⟩ => ⟨q, by omega, b⟩)⟩
  by_cases e : q = i
  · rw [e]; exact hw
  · exact h.1 q (by omega)
theorem moI_n (h : moI f c i v) (hw : v ≤ cvM f c i) : moI f c (i + 1) (cvM f c i) := by
  refine ⟨fun q hq => ?_, Or.inr ⟨i, by omega, rfl⟩⟩
  by_cases e : q = i
  · rw [e]; exact Int.le_refl _
  · have := h.1 q (by omega); omega
theorem leI_e (h : leI f c n v) (hn : 0 < n) : leL f c n v := ⟨h.1, by
  rcases h.2 with e | e
  · have a := h.1 0 hn
    have b := cv_r (f := f) (c := c) (i := 0)
    exact ⟨0, hn, by omega⟩
  · exact e⟩
theorem moI_e (h : moI f c n v) (hn : 0 < n) : moL f c n v := ⟨h.1, by
  rcases h.2 with e | e
  · have a := h.1 0 hn
    have b := cv_r (f := f) (c := c) (i := 0)
    exact ⟨0, hn, by omega⟩
  · exact e⟩
/-- so far none ahead is alike -/
def unI (f : Nat → Int32) (c i : Nat) (is j : Int) : Prop := (is = 1 ∧ ∀ q : Nat, (q : Int) < j → cvM f c q ≠ cvM f c i) ∨ (is = 0 ∧ ¬ ∀ q, q < i → cvM f c q ≠ cvM f c i)
theorem unI_0 : unI f c i 1 0 := Or.inl ⟨rfl, fun q h => absurd h (by omega)⟩
theorem unI_y (h : unI f c i is j) (hi : is ≠ 0) (h0 : 0 ≤ j) (e : cvM f c j.toNat ≠ cvM f c i) : unI f c i 1 (j + 1) := by
  rcases h with ⟨_, h⟩ | ⟨h, _⟩
  · exact Or.inl ⟨rfl, fun q hq => by
      by_cases w : (q : Int) = j
      · rw [show q = j.toNat by omega]; exact e
      · exact h q (by omega)⟩
  · exact absurd h hi
theorem unI_n (h0 : 0 ≤ j) (hj : j < (i : Int)) (e : cvM f c j.toNat = cvM f c i) : unI f c i 0 (j + 1) := Or.inr ⟨rfl, fun q => q j.toNat (by omega) e⟩
theorem unI_z (h : unI f c i is j) (hi : is = 0) : unI f c i 0 (j + 1) := by
  rcases h with ⟨h, _⟩ | ⟨_, h⟩
  · omega
  · exact Or.inr ⟨rfl, h⟩
theorem unI_r (h : unI f c i is j) : is = 0 ∨ is = 1 := h.elim (fun a => Or.inr a.1) (fun a => Or.inl a.1)
theorem unI_e (h : unI f c i is j) (hj : (i : Int) ≤ j) : ((unC f c (i + 1) : Nat) : Int) = ((unC f c i : Nat) : Int) + is := by
  rcases h with ⟨e, h⟩ | ⟨e, h⟩
  · rw [unC, pN1_y (fun q hq => h q (by omega)), e]; omega
  · rw [unC, pN1_n h, e]; omega
end Clm
def clM (T : Nat → Int32) (nr : Nat) (n : Nat) (rr cl wh : Int) : Prop := (0 ≤ rr ∧ rr < (nr : Int)) ∧ (0 ≤ cl ∧ cl < tI T (40 * rr + 1)) ∧ (0 ≤ wh ∧ wh ≤ 2) ∧ (wh = 2 ∨ 0 < n)
def clP (f : Nat → Int32) (n : Nat) (cl wh z : Int) : Prop := (wh = 0 ∧ leL f cl.toNat n z) ∨ (wh = 1 ∧ moL f cl.toNat n z) ∨ (wh = 2 ∧ z = ((unC f cl.toNat n : Nat) : Int))
