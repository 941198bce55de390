def c9T : List Nat := [0, 5, 0, 0, 3, 0, 4, 0, 0, 0, 0, 2, 0, 2, 0, 2, 0, 2, 0, 2, 0, 2, 0, 2, 0, 2, 0, 2, 0, 2, 0, 2, 0, 2, 0, 2, 0, 2, 0, 2, 0, 2, 0, 0, 0, 2, 0, 2, 0, 2, 0, 2, 0, 2, 0, 2, 0, 2, 0, 2, 0, 2, 0, 2, 0, 2, 0, 2, 0, 2, 0, 2, 0, 2, 0, 2, 0, 0, 0, 0, 0, 0, 1, 0, 1, 0, 1, 0, 1, 0, 1, 0, 1, 0, 1, 0, 1, 0, 1, 0, 1, 0, 1, 0, 1, 0, 1, 0, 1, 0, 1, 0, 1, 0, 0, 1, 0, 1, 0, 1, 0, 1, 0, 1, 0, 1, 0, 1, 0, 1, 0, 1, 0, 1, 0, 1, 0, 1, 0, 1, 0, 1, 0, 1, 0, 1, 0, 0, 1, 0, 1, 0, 1, 0, 1, 0, 1, 0, 1, 0, 1, 0, 1, 0, 1, 0, 1, 0, 1, 0, 1, 0, 1, 0, 1, 0, 1, 0, 1, 0, 1, 0, 1, 0, 1, 0, 1, 0, 0, 0, 1, 0, 1, 0, 1, 0, 1, 0, 1, 0, 1, 0, 1, 0, 1, 0, 5, 0, 5, 0, 5, 5, 5, 5, 5, 5, 5, 5, 5, 5, 5, 5, 0]
def c10T : List Nat := [99, 99, 99, 99, 99, 99, 99, 99, 99, 99, 99, 99, 99, 99, 99, 99, 99, 99, 99, 99, 99, 99, 99, 99, 99, 99, 99, 99, 99, 99, 99, 99, 99, 99, 99, 99, 99, 99, 99, 99, 99, 99, 99, 99, 99, 99, 99, 99, 99, 99, 99, 99, 99, 99, 99, 99, 99, 99, 99, 99, 99, 99, 99, 99, 99, 99, 99, 99, 99, 99, 99, 99, 99, 99, 99, 99, 99, 99, 99, 99, 99, 99, 99, 99, 99, 99, 99, 99, 99, 99, 99, 99, 99, 99, 99, 99, 99, 99, 99, 99, 99, 99, 99, 99, 99, 99, 99, 99, 99, 99, 99, 99, 99, 99, 99, 99, 99, 99, 99, 99, 99, 99, 99, 99, 99, 99, 99, 99, 99, 99, 99, 99, 99, 99, 99, 99, 99, 99, 99, 99, 99, 99, 99, 99, 99, 99, 99, 99, 99, 99, 99, 99, 99, 99, 99, 99, 99, 99, 99, 99, 99, 99, 99, 99, 99, 99, 99, 99, 99, 99, 99, 99, 99, 99, 99, 99, 99, 99, 99, 99, 99, 99, 99, 99, 99, 99, 99, 99, 99, 99, 99, 99, 99, 99, 99, 99, 99, 99, 99, 99, 99, 99, 99, 99, 99, 99, 0, 99, 3, 99, 6, 7, 11, 12, 13, 15, 25, 27, 28, 29, 30, 31, 99]
def c20T : List Nat := [0, 0, 0, 0, 0, 0, 0, 0, 0, 0, 0, 0, 0, 0, 0, 0, 0, 0, 0, 0, 0, 2, 3, 76, 4, 5, 6, 7, 1, 187, 77, 78, 79, 0, 0, 146, 188, 179, 181, 183, 185, 0, 0, 0, 0, 0, 0, 0, 205, 0, 206, 207, 0, 208, 209, 0, 210, 211, 0, 0, 0, 212, 213, 214, 0, 215, 0, 0, 0, 0, 0, 0, 0, 0, 0, 216, 0, 217, 218, 219, 220, 221]
def t9 (o : Nat) : Nat := c9T.getD o 0
def t10 (o : Nat) : Nat := c10T.getD o 99
def t20 (a : Nat) : Nat := c20T.getD a 0
/-- the ghosts of the start: z is the first cell -/
def hG (z : Nat) : gGh := fun a b => match a with
  | 0 => b + 1
  | 1 => cI 341 (b - z) 1
  | 2 => cI 341 (b - z) 0
  | 3 => b + 1
  | 4 => if b < z + 42 then z + 8 else z + 42
  | 5 => if b < z + 42 then (b - z - 10) / 2 else (b - z - 44) / 2
  | 6 => b + 1
  | 7 => b - 1
  | 8 => b - 1
  | 9 => t9 (b - z)
  | 10 => t10 (b - z)
  | 42 => 1
  | a + 11 => z + t20 (a + 11)
theorem hG1 {z o : Nat} : hG z 1 (z + o) = cI 341 o 1 := by show cI 341 (z + o - z) 1 = _; rw [Nat.add_sub_cancel_left]
theorem hG2 {z o : Nat} : hG z 2 (z + o) = cI 341 o 0 := by show cI 341 (z + o - z) 0 = _; rw [Nat.add_sub_cancel_left]
theorem hG9 {z o : Nat} : hG z 9 (z + o) = t9 o := by show t9 (z + o - z) = _; rw [Nat.add_sub_cancel_left]
theorem hG10 {z o : Nat} : hG z 10 (z + o) = t10 o := by show t10 (z + o - z) = _; rw [Nat.add_sub_cancel_left]
/-- the ghosts of the reference's side: both tapes and the changes are kept by all that does not feed or change -/
def hGm (z : Nat) : gGh := fun a b => match a with
  | 9 => if b = z + 1 ∨ b = z + 212 ∨ b = z + 213 ∨ b = z + 214 ∨ b = z + 215 then 0 else hG z 9 b
  | a => hG z a b
theorem hGm9 {z b : Nat} (h : ¬ (b = z + 1 ∨ b = z + 212 ∨ b = z + 213 ∨ b = z + 214 ∨ b = z + 215)) : hGm z 9 b = hG z 9 b := if_neg h
theorem hGm_ne {z b n : Nat} (h : hG z 9 b = n) (hn : n ≠ 5) : hGm z 9 b ≠ 5 := by
  show (if b = z + 1 ∨ b = z + 212 ∨ b = z + 213 ∨ b = z + 214 ∨ b = z + 215 then 0 else hG z 9 b) ≠ 5
  by_cases q : b = z + 1 ∨ b = z + 212 ∨ b = z + 213 ∨ b = z + 214 ∨ b = z + 215
  · rw [if_pos q]; decide
  · rw [if_neg q, h]; exact hn
/-- the same, where the reference's changes may change -/
def hGc (z : Nat) : gGh := fun a b => match a with
  | 9 => if b = z + 1 ∨ b = z + 215 then 0 else hG z 9 b
  | a => hG z a b
theorem hGc9 {z b : Nat} (h : ¬ (b = z + 1 ∨ b = z + 215)) : hGc z 9 b = hG z 9 b := if_neg h
theorem hGc_ne {z b n : Nat} (h : hG z 9 b = n) (hn : n ≠ 5) : hGc z 9 b ≠ 5 := by
  show (if b = z + 1 ∨ b = z + 215 then 0 else hG z 9 b) ≠ 5
  by_cases q : b = z + 1 ∨ b = z + 215
  · rw [if_pos q]; decide
  · rw [if_neg q, h]; exact hn
/-- the world of both systems; M: what the other side holds -/
def gW (g : gG) (M : gI × gI) : gG := (g.1, g.2.1, (List.range' (gZ g) 223, gZ g), (M, g.2.2.2.2))
theorem gO_o {g : gG} {M : gI × gI} {a c : Nat} (hOK : gOK g) (h : gO (gW g M) a c) : ∃ o, o < 223 ∧ a = gZ g + o ∧ kT o = c := by
  obtain ⟨h1, h2⟩ := h
  have h3 := List.mem_range'_1.mp h1
  refine ⟨a - gZ g, by omega, by omega, ?_⟩
  have h4 := (hOK (a - gZ g) (by omega)).1
  rw [show gZ g + (a - gZ g) = a by omega] at h4
  exact h4.symm.trans h2
theorem gO_i {g : gG} {M : gI × gI} {o c : Nat} (hOK : gOK g) (ho : o < 223) (hk : kT o = c) : gO (gW g M) (gZ g + o) c := ⟨List.mem_range'_1.mpr ⟨Nat.le_add_right _ _, Nat.add_lt_add_left ho _⟩, (hOK o ho).1.trans hk⟩
theorem gAr_i {g : gG} {M : gI × gI} {o c n : Nat} (hOK : gOK g) (ho : o < 223) (hk : kT o = c) (hn : nT o = n) : gAr (gW g M) (gZ g + o) c n := ⟨List.mem_range'_1.mpr ⟨Nat.le_add_right _ _, Nat.add_lt_add_left ho _⟩, (hOK o ho).1.trans hk, (hOK o ho).2.trans hn⟩
theorem wI_at {g : gG} {o k v : Nat} (h : cI 341 o k = v) : (wI g 341 (gZ g + o) k).toInt = (iI (v : Int)).toInt := by unfold wI; rw [if_pos (Nat.le_add_right _ _), Nat.add_sub_cancel_left, h]
theorem wI_v {g : gG} {o k v : Nat} (h : cI 341 o k = v) (hv : v ≤ 1000) : (wI g 341 (gZ g + o) k).toInt = (v : Int) := (wI_at h).trans (iI_val ⟨by omega, by omega⟩)
theorem wI_0 {g : gG} {o k : Nat} (h : cI 341 o k = 0) : wI g 341 (gZ g + o) k = 0 := by unfold wI; rw [if_pos (Nat.le_add_right _ _), Nat.add_sub_cancel_left, h]; rfl
theorem tR1 : ∀ o, o < 223 → kT o = 4 → cR 341 o 2 = some (o + 1) ∧ kT (o + 1) = 9 ∧ nT (o + 1) = 6 * cI 341 o 1 := by decide +kernel
theorem tR2 : ∀ o, o < 223 → kT o = 4 → t9 (o + 1) = 1 ∧ o + 1 < 223 ∧ cI 341 o 3 = 0 := by decide +kernel
theorem tR3 : ∀ o, o < 223 → kT o = 4 → (cI 341 o 0 = 4 ∨ cI 341 o 0 = 5) ∧ 40 ≤ cI 341 o 1 ∧ cI 341 o 1 ≤ 240 := by decide +kernel
theorem tL1 : ∀ o, o < 223 → kT o = 0 → cR 341 o 7 = some (o + 1) ∧ kT (o + 1) = 9 ∧ nT (o + 1) = 32 := by decide +kernel
theorem tL2 : ∀ o, o < 223 → kT o = 0 → t9 (o + 1) = 2 ∧ o + 1 < 223 := by decide +kernel
theorem tL3 : ∀ o, o < 223 → kT o = 0 → ∀ k, k < 15 → cI 341 o k = 0 := by decide +kernel
theorem tL4 : ∀ o, o < 223 → kT o = 0 → (10 ≤ o ∧ o ≤ 41 ∧ o % 2 = 0) ∨ (44 ≤ o ∧ o ≤ 75 ∧ o % 2 = 0) := by decide +kernel
theorem tP1 : ∀ o, o < 223 → kT o = 2 → o = 8 ∨ o = 42 := by decide +kernel
theorem tP2 : ∀ j, j < 16 → cA 341 9 j = some (10 + 2 * j) ∧ kT (10 + 2 * j) = 0 ∧ 10 + 2 * j < 42 := by decide +kernel
theorem tP3 : ∀ j, j < 16 → cA 341 43 j = some (44 + 2 * j) ∧ kT (44 + 2 * j) = 0 ∧ 44 + 2 * j < 76 := by decide +kernel
theorem tK6 : ∀ o, o < 223 → kT o = 6 → o = 0 := by decide +kernel
theorem tK1 : ∀ o, o < 223 → kT o = 1 → o = 2 := by decide +kernel
theorem tK5 : ∀ o, o < 223 → kT o = 5 → o = 3 := by decide +kernel
theorem tK3 : ∀ o, o < 223 → kT o = 3 → o = 76 := by decide +kernel
theorem tK7 : ∀ o, o < 223 → kT o = 7 → o = 205 := by decide +kernel
theorem tM0 : ∀ k, k < 32 → cI 341 205 k = 0 := by decide +kernel
theorem tB {z : Nat} : True := trivial
/-- a row of Rows at b, its first at b + 1 -/
theorem isRA_i {g : gG} {M : gI × gI} {b n lim key : Nat} (hOK : gOK g) (hb : b < 223) (hk : kT b = 12) (hn : nT b = n) (h : ∀ j, j < n → cA 341 b j = some (b + 1 + 2 * j) ∧ kT (b + 1 + 2 * j) = 4 ∧ b + 1 + 2 * j < 223) (h2 : ∀ j, j < n → cI 341 (b + 1 + 2 * j) 1 = lim ∧ cI 341 (b + 1 + 2 * j) 0 = key) (h3 : ∀ j, j < n → b + 1 + 2 * j ≠ 179) : isRA (gW g M) (hG (gZ g)) (wA g 341) (gZ g + b) n lim key :=
  ⟨gAr_i hOK hb hk hn, fun j hj => ⟨gZ g + (b + 1 + 2 * j), wA_at (h j hj).1, gO_i hOK (h j hj).2.2 (h j hj).2.1, hG1.trans (h2 j hj).1, hG2.trans (h2 j hj).2, show gZ g + (b + 1 + 2 * j) ≠ gZ g + 179 by have := h3 j hj; omega⟩⟩
theorem isR1_i {g : gG} {M : gI × gI} {o lim key : Nat} (hOK : gOK g) (ho : o < 223) (hk : kT o = 4) (h1 : cI 341 o 1 = lim) (h2 : cI 341 o 0 = key) : isR1 (gW g M) (hG (gZ g)) (gZ g + o) lim key := ⟨gO_i hOK ho hk, hG1.trans h1, hG2.trans h2⟩
theorem tB80 : ∀ j, j < 16 → cA 341 80 j = some (80 + 1 + 2 * j) ∧ kT (80 + 1 + 2 * j) = 4 ∧ 80 + 1 + 2 * j < 223 := by decide +kernel
theorem tC80 : ∀ j, j < 16 → cI 341 (80 + 1 + 2 * j) 1 = 120 ∧ cI 341 (80 + 1 + 2 * j) 0 = 4 := by decide +kernel
theorem tB113 : ∀ j, j < 16 → cA 341 113 j = some (113 + 1 + 2 * j) ∧ kT (113 + 1 + 2 * j) = 4 ∧ 113 + 1 + 2 * j < 223 := by decide +kernel
theorem tC113 : ∀ j, j < 16 → cI 341 (113 + 1 + 2 * j) 1 = 120 ∧ cI 341 (113 + 1 + 2 * j) 0 = 4 := by decide +kernel
theorem tB146 : ∀ j, j < 16 → cA 341 146 j = some (146 + 1 + 2 * j) ∧ kT (146 + 1 + 2 * j) = 4 ∧ 146 + 1 + 2 * j < 223 := by decide +kernel
theorem tC146 : ∀ j, j < 16 → cI 341 (146 + 1 + 2 * j) 1 = 240 ∧ cI 341 (146 + 1 + 2 * j) 0 = 4 := by decide +kernel
theorem tB188 : ∀ j, j < 8 → cA 341 188 j = some (188 + 1 + 2 * j) ∧ kT (188 + 1 + 2 * j) = 4 ∧ 188 + 1 + 2 * j < 223 := by decide +kernel
theorem tC188 : ∀ j, j < 8 → cI 341 (188 + 1 + 2 * j) 1 = 40 ∧ cI 341 (188 + 1 + 2 * j) 0 = 5 := by decide +kernel
section Start
variable {g : gG} {M : gI × gI}
theorem s_rows (hOK : gOK g) : vRows (gW g M) (hG (gZ g)) (wR g 341) (wI g 341) := by
  intro a ha
  obtain ⟨o, ho, rfl, hk⟩ := gO_o hOK ha
  obtain ⟨a1, a2, a3⟩ := tR1 o ho hk
  obtain ⟨a4, a5, a6⟩ := tR2 o ho hk
  obtain ⟨a7, a8, a9⟩ := tR3 o ho hk
  refine ⟨⟨wR_at a1, ?_, ?_, ?_⟩, ⟨?_, ?_, ?_, ?_⟩, ?_, ?_, ?_⟩
  · rw [hG1]; exact gAr_i hOK a5 a2 a3
  · exact hG9.trans a4
  · show gZ g + o + 1 - 1 = gZ g + o; omega
  · rw [hG2]; exact wI_v rfl (by omega)
  · rw [hG1]; exact wI_v rfl (by omega)
  · rw [wI_v a6 (by omega)]; omega
  · rw [wI_v a6 (by omega)]; omega
  · rw [hG2]; exact a7
  · rw [hG1]; exact a8
  · rw [hG1]; exact a9
theorem s_c5 : vC5 (gW g M) (hG (gZ g)) zA := fun _ _ _ _ _ => ⟨by show 0 ≤ (0 : Int32).toInt; decide, by show (0 : Int32).toInt ≤ 15; decide⟩
theorem s_line (hOK : gOK g) : vLine (gW g M) (hG (gZ g)) (wR g 341) (wI g 341) zA := by
  intro a ha
  obtain ⟨o, ho, rfl, hk⟩ := gO_o hOK ha
  obtain ⟨a1, a2, a3⟩ := tL1 o ho hk
  obtain ⟨a4, a5⟩ := tL2 o ho hk
  have a6 := tL3 o ho hk
  have a7 := tL4 o ho hk
  have e : ∀ k, k < 15 → wI g 341 (gZ g + o) k = 0 := fun k hk => wI_0 (a6 k hk)
  have e4 : hG (gZ g) 4 (gZ g + o) = gZ g + 8 ∨ hG (gZ g) 4 (gZ g + o) = gZ g + 42 := by
    show (if _ then _ else _) = _ ∨ (if _ then _ else _) = _
    by_cases q : gZ g + o < gZ g + 42
    · rw [if_pos q]; exact Or.inl rfl
    · rw [if_neg q]; exact Or.inr rfl
  refine ⟨⟨wR_at a1, gAr_i hOK a5 a2 a3, hG9.trans a4, ?_, ?_, ?_⟩, ?_, ?_, ?_⟩
  · show gZ g + o + 1 - 1 = gZ g + o; omega
  · rcases e4 with q | q <;> rw [q]
    · exact gO_i hOK (by decide) (by decide +kernel)
    · exact gO_i hOK (by decide) (by decide +kernel)
  · show (if _ then _ else _) < 16
    by_cases q : gZ g + o < gZ g + 42
    · rw [if_pos q]; omega
    · rw [if_neg q]; omega
  · unfold vLineI
    rw [e 0 (by decide), e 2 (by decide), e 3 (by decide), e 4 (by decide), e 5 (by decide), e 6 (by decide), e 8 (by decide), e 9 (by decide), e 10 (by decide), e 12 (by decide)]
    decide
  · rw [e 0 (by decide), e 8 (by decide)]
    exact ⟨fun q => absurd q (by decide), fun _ => ⟨by decide, fun k hk => absurd hk (by show ¬ (k : Int) < 0; omega)⟩, fun q => absurd q (by decide), fun q => absurd q (by decide)⟩
  · intro q
    have z0 : (wI g 341 (hG (gZ g) 4 (gZ g + o)) 1).toInt = 0 := by
      rcases e4 with w | w <;> rw [w]
      · exact wI_v (v := 0) (by decide +kernel) (by decide)
      · exact wI_v (v := 0) (by decide +kernel) (by decide)
    rw [z0] at q
    exact absurd q (by omega)
theorem s_plan (hOK : gOK g) : vPlan (gW g M) (hG (gZ g)) (wR g 341) (wA g 341) (wI g 341) := by
  intro a ha
  obtain ⟨o, ho, rfl, hk⟩ := gO_o hOK ha
  rcases tP1 o ho hk with rfl | rfl
  · refine ⟨⟨wR_at (o := 8) (k := 0) (q := 9) (by decide +kernel), gAr_i hOK (o := 9) (by decide) (by decide +kernel) (by decide +kernel), fun j hj => ?_, fun b hb h4 => ?_⟩, ?_⟩
    · obtain ⟨b1, b2, b3⟩ := tP2 j hj
      refine ⟨gZ g + (10 + 2 * j), wA_at b1, gO_i hOK (by omega) b2, ?_, ?_⟩
      · show (if _ then _ else _) = _; rw [if_pos (by omega)]
      · show (if _ then _ else _) = _; rw [if_pos (by omega)]; omega
    · obtain ⟨o', ho', rfl, hk'⟩ := gO_o hOK hb
      have q := tL4 o' ho' hk'
      have h4' : (if gZ g + o' < gZ g + 42 then gZ g + 8 else gZ g + 42) = gZ g + 8 := h4
      have lt : gZ g + o' < gZ g + 42 := by
        by_cases w : gZ g + o' < gZ g + 42
        · exact w
        · rw [if_neg w] at h4'; omega
      have e5 : hG (gZ g) 5 (gZ g + o') = (o' - 10) / 2 := by show (if _ then _ else _) = _; rw [if_pos lt]; omega
      rw [e5]
      have t := (tP2 ((o' - 10) / 2) (by omega)).1
      rw [show 10 + 2 * ((o' - 10) / 2) = o' by omega] at t
      exact wA_at (o := 9) t
    · rw [wI_v (v := 0) (by decide +kernel) (by decide), wI_v (v := 0) (by decide +kernel) (by decide)]; decide
  · refine ⟨⟨wR_at (o := 42) (k := 0) (q := 43) (by decide +kernel), gAr_i hOK (o := 43) (by decide) (by decide +kernel) (by decide +kernel), fun j hj => ?_, fun b hb h4 => ?_⟩, ?_⟩
    · obtain ⟨b1, b2, b3⟩ := tP3 j hj
      refine ⟨gZ g + (44 + 2 * j), wA_at b1, gO_i hOK (by omega) b2, ?_, ?_⟩
      · show (if _ then _ else _) = _; rw [if_neg (by omega)]
      · show (if _ then _ else _) = _; rw [if_neg (by omega)]; omega
    · obtain ⟨o', ho', rfl, hk'⟩ := gO_o hOK hb
      have q := tL4 o' ho' hk'
      have h4' : (if gZ g + o' < gZ g + 42 then gZ g + 8 else gZ g + 42) = gZ g + 42 := h4
      have lt : ¬ gZ g + o' < gZ g + 42 := fun w => by rw [if_pos w] at h4'; omega
      have e5 : hG (gZ g) 5 (gZ g + o') = (o' - 44) / 2 := by show (if _ then _ else _) = _; rw [if_neg lt]; omega
      rw [e5]
      have t := (tP3 ((o' - 44) / 2) (by omega)).1
      rw [show 44 + 2 * ((o' - 44) / 2) = o' by omega] at t
      exact wA_at (o := 43) t
    · rw [wI_v (v := 0) (by decide +kernel) (by decide), wI_v (v := 0) (by decide +kernel) (by decide)]; decide
theorem s_x (hOK : gOK g) : vX (gW g M) (hG (gZ g)) (wR g 341) (wA g 341) (wI g 341) := by
  intro a ha
  obtain ⟨o, ho, rfl, hk⟩ := gO_o hOK ha
  have e := tK6 o ho hk
  subst e
  refine ⟨⟨wR_at (q := 1) (by decide +kernel), gAr_i hOK (o := 1) (by decide) (by decide +kernel) (by decide +kernel), hG9.trans (by decide +kernel)⟩, ⟨wR_at (q := 2) (by decide +kernel), gO_i hOK (o := 2) (by decide) (by decide +kernel)⟩, ⟨gZ g + 42, wR_at (by decide +kernel), gO_i hOK (by decide) (by decide +kernel)⟩, ⟨wR_at (q := 76) (by decide +kernel), gO_i hOK (o := 76) (by decide) (by decide +kernel)⟩,
    ⟨gZ g + 80, wR_at (by decide +kernel), isRA_i hOK (by decide) (by decide +kernel) (by decide +kernel) tB80 tC80 (fun j hj => by omega)⟩, ⟨gZ g + 113, wR_at (by decide +kernel), isRA_i hOK (by decide) (by decide +kernel) (by decide +kernel) tB113 tC113 (fun j hj => by omega)⟩, ⟨wR_at (q := 146) (by decide +kernel), isRA_i hOK (b := 146) (by decide) (by decide +kernel) (by decide +kernel) tB146 tC146 (fun j hj => by omega)⟩,
    ⟨wR_at (q := 179) (by decide +kernel), isR1_i hOK (o := 179) (by decide) (by decide +kernel) (by decide +kernel) (by decide +kernel)⟩, ⟨wR_at (q := 181) (by decide +kernel), isR1_i hOK (o := 181) (by decide) (by decide +kernel) (by decide +kernel) (by decide +kernel)⟩, ⟨wR_at (q := 183) (by decide +kernel), isR1_i hOK (o := 183) (by decide) (by decide +kernel) (by decide +kernel) (by decide +kernel)⟩, ⟨wR_at (q := 185) (by decide +kernel), isR1_i hOK (o := 185) (by decide) (by decide +kernel) (by decide +kernel) (by decide +kernel)⟩,
    ⟨wR_at (q := 187) (by decide +kernel), gAr_i hOK (o := 187) (by decide) (by decide +kernel) (by decide +kernel), hG9.trans (by decide +kernel)⟩, ⟨wR_at (q := 188) (by decide +kernel), isRA_i hOK (b := 188) (by decide) (by decide +kernel) (by decide +kernel) tB188 tC188 (fun j hj => by omega)⟩, ?_⟩
  rw [wI_v (v := 0) (by decide +kernel) (by decide), wI_v (v := 0) (by decide +kernel) (by decide), wI_v (v := 0) (by decide +kernel) (by decide)]
  decide
theorem s_pr (hOK : gOK g) : vPr (gW g M) (hG (gZ g)) (wR g 341) (wI g 341) := by
  intro a ha
  obtain ⟨o, ho, rfl, hk⟩ := gO_o hOK ha
  have e := tK1 o ho hk
  subst e
  refine ⟨⟨wR_at (q := 3) (by decide +kernel), gO_i hOK (o := 3) (by decide) (by decide +kernel)⟩, ⟨gZ g + 8, wR_at (by decide +kernel), gO_i hOK (by decide) (by decide +kernel)⟩, ⟨gZ g + 10, wR_at (by decide +kernel), gO_i hOK (by decide) (by decide +kernel)⟩, ?_⟩
  rw [wI_v (v := 0) (by decide +kernel) (by decide)]
  decide
theorem s_tk (hOK : gOK g) : vTk (gW g M) (hG (gZ g)) (wR g 341) (wI g 341) zA := by
  intro a ha
  obtain ⟨o, ho, rfl, hk⟩ := gO_o hOK ha
  have e := tK5 o ho hk
  subst e
  have z0 : (wI g 341 (gZ g + 3) 4).toInt = ((0 : Nat) : Int) := wI_v (by decide +kernel) (by decide)
  refine ⟨⟨rfl, wR_at (q := 4) (by decide +kernel), gAr_i hOK (o := 4) (by decide) (by decide +kernel) (by decide +kernel), hG9.trans (by decide +kernel)⟩, ⟨wR_at (q := 5) (by decide +kernel), gAr_i hOK (o := 5) (by decide) (by decide +kernel) (by decide +kernel), hG9.trans (by decide +kernel)⟩, ⟨wR_at (q := 6) (by decide +kernel), gAr_i hOK (o := 6) (by decide) (by decide +kernel) (by decide +kernel), hG9.trans (by decide +kernel)⟩, ⟨wR_at (q := 7) (by decide +kernel), gAr_i hOK (o := 7) (by decide) (by decide +kernel) (by decide +kernel)⟩, ?_, fun j hj => ?_⟩
  · rw [z0]; decide
  · rw [z0] at hj; exact absurd hj (by omega)
theorem s_rk (hOK : gOK g) : vRk (gW g M) (hG (gZ g)) (wR g 341) := by
  intro a ha
  obtain ⟨o, ho, rfl, hk⟩ := gO_o hOK ha
  have e := tK3 o ho hk
  subst e
  exact ⟨⟨wR_at (q := 77) (by decide +kernel), gAr_i hOK (o := 77) (by decide) (by decide +kernel) (by decide +kernel), hG9.trans (by decide +kernel)⟩, ⟨wR_at (q := 78) (by decide +kernel), gAr_i hOK (o := 78) (by decide) (by decide +kernel) (by decide +kernel), hG9.trans (by decide +kernel)⟩, ⟨wR_at (q := 79) (by decide +kernel), gAr_i hOK (o := 79) (by decide) (by decide +kernel) (by decide +kernel), hG9.trans (by decide +kernel)⟩⟩
theorem s_inv (hOK : gOK g) : gInv (gW g (wI g 341, zA)) (hG (gZ g)) (wR g 341) (wA g 341) (wI g 341) zA :=
  ⟨s_rows hOK, s_c5, s_line hOK, s_plan hOK, s_x hOK, s_pr hOK, s_tk hOK, s_rk hOK, fun _ _ => rfl, fun _ _ => rfl, fun _ => ⟨gO_i hOK (o := 179) (by decide) (by decide +kernel), hG2.trans (by decide +kernel), rfl, rfl⟩⟩
theorem s_xS (hOK : gOK g) : xS (gW g M) (hG (gZ g)) (wR g 341) (wA g 341) (gZ g + 0) (gZ g + 42) (gZ g + 80) (gZ g + 113) :=
  ⟨gO_i hOK (by decide) (by decide +kernel), wR_at (by decide +kernel), gO_i hOK (by decide) (by decide +kernel), wR_at (by decide +kernel), isRA_i hOK (by decide) (by decide +kernel) (by decide +kernel) tB80 tC80 (fun j hj => by omega), wR_at (by decide +kernel), isRA_i hOK (by decide) (by decide +kernel) (by decide +kernel) tB113 tC113 (fun j hj => by omega)⟩
theorem s_ma (hOK : gOK g) {k n o : Nat} (ho : o < 223) (e : hGm (gZ g) (50 + k) 0 = gZ g + o) (h1 : cR 341 205 k = some o) (h2 : kT o = 9) (h3 : nT o = n) (h4 : t9 o = 5) (h5 : t10 o = k) (h6 : k ≠ 15 → k ≠ 11 → k ≠ 12 → k ≠ 13 → o ≠ 1 ∧ o ≠ 212 ∧ o ≠ 213 ∧ o ≠ 214 ∧ o ≠ 215) : wR g 341 (gZ g + 205) k = some (hGm (gZ g) (50 + k) 0) ∧ gAr (gW g M) (hGm (gZ g) (50 + k) 0) 9 n ∧ (k ≠ 15 → k ≠ 11 → k ≠ 12 → k ≠ 13 → hGm (gZ g) 9 (hGm (gZ g) (50 + k) 0) = 5) ∧ hGm (gZ g) 10 (hGm (gZ g) (50 + k) 0) = k := by
  rw [e]
  exact ⟨wR_at h1, gAr_i hOK ho h2 h3, fun hk h1 h2 h3 => (hGm9 (fun q => by have := h6 hk h1 h2 h3; omega)).trans (hG9.trans h4), hG10.trans h5⟩
theorem s_minv (hOK : gOK g) : mInv (gW g (wI g 341, zA)) (hGm (gZ g)) (wR g 341) (wI g 341) zA := by
  refine ⟨fun m hm => ?_, fun m hm => ?_, fun _ _ _ _ => rfl, fun _ _ => rfl⟩
  · obtain ⟨o, ho, rfl, hk⟩ := gO_o hOK hm
    have e := tK7 o ho hk
    subst e
    refine ⟨rfl, fun q hq => ?_, ⟨wR_at (q := 207) (by decide +kernel), gAr_i hOK (o := 207) (by decide) (by decide +kernel) (by decide +kernel)⟩, ⟨wR_at (q := 209) (by decide +kernel), gAr_i hOK (o := 209) (by decide) (by decide +kernel) (by decide +kernel)⟩⟩
    simp only [mTab, List.mem_cons, List.not_mem_nil, or_false] at hq
    rcases hq with rfl | rfl | rfl | rfl | rfl | rfl | rfl | rfl | rfl | rfl | rfl | rfl | rfl | rfl
    · exact s_ma hOK (o := 206) (by decide) rfl (by decide +kernel) (by decide +kernel) (by decide +kernel) (by decide +kernel) (by decide +kernel) (by decide)
    · exact s_ma hOK (o := 208) (by decide) rfl (by decide +kernel) (by decide +kernel) (by decide +kernel) (by decide +kernel) (by decide +kernel) (by decide)
    · exact s_ma hOK (o := 210) (by decide) rfl (by decide +kernel) (by decide +kernel) (by decide +kernel) (by decide +kernel) (by decide +kernel) (by decide)
    · exact s_ma hOK (o := 211) (by decide) rfl (by decide +kernel) (by decide +kernel) (by decide +kernel) (by decide +kernel) (by decide +kernel) (by decide)
    · exact s_ma hOK (o := 212) (by decide) rfl (by decide +kernel) (by decide +kernel) (by decide +kernel) (by decide +kernel) (by decide +kernel) (by decide)
    · exact s_ma hOK (o := 213) (by decide) rfl (by decide +kernel) (by decide +kernel) (by decide +kernel) (by decide +kernel) (by decide +kernel) (by decide)
    · exact s_ma hOK (o := 214) (by decide) rfl (by decide +kernel) (by decide +kernel) (by decide +kernel) (by decide +kernel) (by decide +kernel) (by decide)
    · exact s_ma hOK (o := 215) (by decide) rfl (by decide +kernel) (by decide +kernel) (by decide +kernel) (by decide +kernel) (by decide +kernel) (by decide)
    · exact s_ma hOK (o := 216) (by decide) rfl (by decide +kernel) (by decide +kernel) (by decide +kernel) (by decide +kernel) (by decide +kernel) (by decide)
    · exact s_ma hOK (o := 217) (by decide) rfl (by decide +kernel) (by decide +kernel) (by decide +kernel) (by decide +kernel) (by decide +kernel) (by decide)
    · exact s_ma hOK (o := 218) (by decide) rfl (by decide +kernel) (by decide +kernel) (by decide +kernel) (by decide +kernel) (by decide +kernel) (by decide)
    · exact s_ma hOK (o := 219) (by decide) rfl (by decide +kernel) (by decide +kernel) (by decide +kernel) (by decide +kernel) (by decide +kernel) (by decide)
    · exact s_ma hOK (o := 220) (by decide) rfl (by decide +kernel) (by decide +kernel) (by decide +kernel) (by decide +kernel) (by decide +kernel) (by decide)
    · exact s_ma hOK (o := 221) (by decide) rfl (by decide +kernel) (by decide +kernel) (by decide +kernel) (by decide +kernel) (by decide +kernel) (by decide)
  · obtain ⟨o, ho, rfl, hk⟩ := gO_o hOK hm
    have e := tK7 o ho hk
    subst e
    have e : ∀ k, k < 32 → wI g 341 (gZ g + 205) k = 0 := fun k hk => wI_0 (tM0 k hk)
    refine ⟨?_, fun _ _ => ⟨by show 0 ≤ (0 : Int32).toInt; decide, by show (0 : Int32).toInt ≤ 120; decide⟩, fun _ _ => ⟨by show 0 ≤ (0 : Int32).toInt; decide, by show (0 : Int32).toInt ≤ 15; decide⟩, fun r h0 h1 => ?_, fun r h0 h1 => ?_⟩
    · unfold mNum
      rw [e 2 (by decide), e 5 (by decide), e 8 (by decide), e 14 (by decide), e 16 (by decide), e 18 (by decide), e 19 (by decide), e 20 (by decide), e 21 (by decide), e 23 (by decide), e 24 (by decide), e 26 (by decide)]
      decide
    · rw [e 2 (by decide)] at h1; exact absurd h1 (by show ¬ r < 0; omega)
    · rw [e 5 (by decide)] at h1; exact absurd h1 (by show ¬ r < 0; omega)
end Start
