/-! what a state of the class is: bounds and shapes. gh: 0 cells of Rows, 1 its limit, 2 its keys, 3 parts of a Line, 4 its plan, 5 its place there, 6 lines of a Plan, 7 whose cells, 8 whose parts, 9 an int array's part (1 cells, 2 parts, 3 kinds, 4 values, 0 others) -/
abbrev gGh : Type := Nat → Nat → Nat
def vRows (g : gG) (gh : gGh) (R : gR) (I : gI) : Prop := ∀ a, gO g a 4 →
  (R a 2 = some (gh 0 a) ∧ gAr g (gh 0 a) 9 (6 * gh 1 a) ∧ gh 9 (gh 0 a) = 1 ∧ gh 7 (gh 0 a) = a) ∧
  ((I a 0).toInt = (gh 2 a : Int) ∧ (I a 1).toInt = (gh 1 a : Int) ∧ 0 ≤ (I a 3).toInt ∧ (I a 3).toInt ≤ (gh 1 a : Int)) ∧
  ((gh 2 a = 4 ∨ gh 2 a = 5) ∧ 40 ≤ gh 1 a ∧ gh 1 a ≤ 240)
def vC5 (g : gG) (gh : gGh) (AI : gI) : Prop := ∀ a, gO g a 4 → gh 2 a = 5 → ∀ j : Nat, j < gh 1 a → 0 ≤ (AI (gh 0 a) (6 * j)).toInt ∧ (AI (gh 0 a) (6 * j)).toInt ≤ 15
def okPart (kd pc : Int) (f : Nat → Int32) : Prop :=
  (kd = 1 → ∀ k : Nat, (k : Int) < pc → 0 ≤ (f (4 * k)).toInt ∧ (f (4 * k)).toInt ≤ 3 ∧ -1 ≤ (f (4 * k + 2)).toInt ∧ (f (4 * k + 2)).toInt ≤ 3) ∧
  (kd = 0 ∨ kd = 2 ∨ kd = 8 → pc ≤ 4 ∧ ∀ k : Nat, (k : Int) < pc → -1 ≤ (f (2 * k)).toInt ∧ (f (2 * k)).toInt ≤ 3) ∧
  (kd = 3 → pc ≤ 4 ∧ ∀ k : Nat, (k : Int) < pc → 0 ≤ (f (2 * k)).toInt ∧ (f (2 * k)).toInt ≤ 3 ∧ 0 ≤ (f (2 * k + 1)).toInt ∧ (f (2 * k + 1)).toInt ≤ 3) ∧
  (kd = 7 → pc ≤ 3 ∧ ∀ k : Nat, (k : Int) < pc → 0 ≤ (f k).toInt ∧ (f k).toInt ≤ 3)
def vLineS (g : gG) (gh : gGh) (R : gR) (a : Nat) : Prop := R a 7 = some (gh 3 a) ∧ gAr g (gh 3 a) 9 32 ∧ gh 9 (gh 3 a) = 2 ∧ gh 8 (gh 3 a) = a ∧ gO g (gh 4 a) 2 ∧ gh 5 a < 16
def vLineI (f : Nat → Int32) : Prop := 0 ≤ (f 0).toInt ∧ (f 0).toInt ≤ 8 ∧ 0 ≤ (f 2).toInt ∧ (f 2).toInt ≤ 9 ∧ -1 ≤ (f 3).toInt ∧ (f 3).toInt ≤ 15 ∧ -1 ≤ (f 4).toInt ∧ (f 4).toInt ≤ 15 ∧
  0 ≤ (f 5).toInt ∧ (f 5).toInt ≤ 4 ∧ 0 ≤ (f 6).toInt ∧ (f 6).toInt ≤ 4 ∧ 0 ≤ (f 8).toInt ∧ (f 8).toInt ≤ 8 ∧ 0 ≤ (f 9).toInt ∧ (f 9).toInt ≤ 3 ∧ 0 ≤ (f 10).toInt ∧ (f 10).toInt ≤ 3 ∧ 0 ≤ (f 12).toInt ∧ (f 12).toInt ≤ 3
def vLine (g : gG) (gh : gGh) (R : gR) (I AI : gI) : Prop := ∀ a, gO g a 0 → vLineS g gh R a ∧ vLineI (I a) ∧ okPart (I a 0).toInt (I a 8).toInt (AI (gh 3 a)) ∧ ((gh 5 a : Int) < (I (gh 4 a) 1).toInt → (I a 2).toInt ≤ 4)
def vPlan (g : gG) (gh : gGh) (R AR : gR) (I : gI) : Prop := ∀ a, gO g a 2 →
  (R a 0 = some (gh 6 a) ∧ gAr g (gh 6 a) 11 16 ∧ (∀ j : Nat, j < 16 → ∃ b, AR (gh 6 a) j = some b ∧ gO g b 0 ∧ gh 4 b = a ∧ gh 5 b = j) ∧ ∀ b, gO g b 0 → gh 4 b = a → AR (gh 6 a) (gh 5 b) = some b) ∧
  (0 ≤ (I a 1).toInt ∧ (I a 1).toInt ≤ 16 ∧ 0 ≤ (I a 2).toInt ∧ (I a 2).toInt ≤ 16)
/-- a row of Rows: n of them, of that limit and so many keys -/
def isRA (g : gG) (gh : gGh) (AR : gR) (b n lim key : Nat) : Prop := gAr g b 12 n ∧ ∀ j : Nat, j < n → ∃ r, AR b j = some r ∧ gO g r 4 ∧ gh 1 r = lim ∧ gh 2 r = key ∧ r ≠ gh 37 0
def isR1 (g : gG) (gh : gGh) (r lim key : Nat) : Prop := gO g r 4 ∧ gh 1 r = lim ∧ gh 2 r = key
/-- the one BagTree x: gh 20 .. name its parts -/
def vX (g : gG) (gh : gGh) (R AR : gR) (I : gI) : Prop := ∀ x, gO g x 6 →
  (R x 0 = some (gh 28 0) ∧ gAr g (gh 28 0) 8 936 ∧ gh 9 (gh 28 0) = 5) ∧ (R x 2 = some (gh 21 0) ∧ gO g (gh 21 0) 1) ∧ (∃ p, R x 3 = some p ∧ gO g p 2) ∧ (R x 4 = some (gh 23 0) ∧ gO g (gh 23 0) 3) ∧
  (∃ b, R x 5 = some b ∧ isRA g gh AR b 16 120 4) ∧ (∃ b, R x 6 = some b ∧ isRA g gh AR b 16 120 4) ∧ (R x 7 = some (gh 35 0) ∧ isRA g gh AR (gh 35 0) 16 240 4) ∧
  (R x 8 = some (gh 37 0) ∧ isR1 g gh (gh 37 0) 40 5) ∧ (R x 9 = some (gh 38 0) ∧ isR1 g gh (gh 38 0) 40 5) ∧ (R x 10 = some (gh 39 0) ∧ isR1 g gh (gh 39 0) 40 4) ∧ (R x 11 = some (gh 40 0) ∧ isR1 g gh (gh 40 0) 240 4) ∧
  (R x 12 = some (gh 29 0) ∧ gAr g (gh 29 0) 9 5 ∧ gh 9 (gh 29 0) = 0) ∧ (R x 13 = some (gh 36 0) ∧ isRA g gh AR (gh 36 0) 8 40 5) ∧
  (0 ≤ (I x 1).toInt ∧ (I x 1).toInt ≤ 936 ∧ 0 ≤ (I x 14).toInt ∧ (I x 14).toInt ≤ 7 ∧ 0 ≤ (I x 15).toInt ∧ (I x 15).toInt ≤ 8)
def vPr (g : gG) (gh : gGh) (R : gR) (I : gI) : Prop := ∀ a, gO g a 1 → (R a 0 = some (gh 22 0) ∧ gO g (gh 22 0) 5) ∧ (∃ q, R a 1 = some q ∧ gO g q 2) ∧ (∃ q, R a 2 = some q ∧ gO g q 0) ∧ (0 ≤ (I a 3).toInt ∧ (I a 3).toInt ≤ 900)
def vTk (g : gG) (gh : gGh) (R : gR) (I AI : gI) : Prop := ∀ a, gO g a 5 →
  (a = gh 22 0 ∧ R a 0 = some (gh 24 0) ∧ gAr g (gh 24 0) 9 901 ∧ gh 9 (gh 24 0) = 3) ∧ (R a 1 = some (gh 25 0) ∧ gAr g (gh 25 0) 9 901 ∧ gh 9 (gh 25 0) = 0) ∧ (R a 2 = some (gh 26 0) ∧ gAr g (gh 26 0) 9 901 ∧ gh 9 (gh 26 0) = 4) ∧ (R a 3 = some (gh 27 0) ∧ gAr g (gh 27 0) 10 901) ∧
  (0 ≤ (I a 4).toInt ∧ (I a 4).toInt ≤ 901) ∧ (∀ j : Nat, (j : Int) < (I a 4).toInt → (AI (gh 24 0) j).toInt = 2 → 0 ≤ (AI (gh 26 0) j).toInt ∧ (AI (gh 26 0) j).toInt ≤ 3)
def vRk (g : gG) (gh : gGh) (R : gR) : Prop := ∀ a, gO g a 3 → (R a 0 = some (gh 30 0) ∧ gAr g (gh 30 0) 9 5 ∧ gh 9 (gh 30 0) = 0) ∧ (R a 1 = some (gh 31 0) ∧ gAr g (gh 31 0) 9 8 ∧ gh 9 (gh 31 0) = 0) ∧ (R a 2 = some (gh 32 0) ∧ gAr g (gh 32 0) 9 480 ∧ gh 9 (gh 32 0) = 0)
/-- the other side is as gM says: no method of the class touches it -/
def vRM (g : gG) (gh : gGh) (R : gR) (I AI : gI) : Prop := vRk g gh R ∧ (∀ b, gO g b 7 → I b = (gM g).1 b) ∧ (∀ b, gh 9 b = 5 → AI b = (gM g).2 b) ∧
  (gh 42 0 = 1 → gO g (gh 37 0) 4 ∧ gh 2 (gh 37 0) = 5 ∧ I (gh 37 0) 3 = (gM g).1 (gh 37 0) 3 ∧ AI (gh 0 (gh 37 0)) = (gM g).2 (gh 0 (gh 37 0)))
theorem vRM_c {g : gG} {gh : gGh} {R : gR} {I I' AI AI' : gI} (h : vRM g gh R I AI) (e : ∀ b, gO g b 7 → I' b = I b) (e5 : ∀ b, gh 9 b = 5 → AI' b = AI b) (e4 : gO g (gh 37 0) 4 → gh 42 0 = 1 → gh 2 (gh 37 0) = 5 → I' (gh 37 0) 3 = I (gh 37 0) 3 ∧ AI' (gh 0 (gh 37 0)) = AI (gh 0 (gh 37 0))) : vRM g gh R I' AI' :=
  ⟨h.1, fun b hb => (e b hb).trans (h.2.1 b hb), fun b hb => (e5 b hb).trans (h.2.2.1 b hb), fun q => ⟨(h.2.2.2 q).1, (h.2.2.2 q).2.1, (e4 (h.2.2.2 q).1 q (h.2.2.2 q).2.1).1.trans (h.2.2.2 q).2.2.1, (e4 (h.2.2.2 q).1 q (h.2.2.2 q).2.1).2.trans (h.2.2.2 q).2.2.2⟩⟩
def gInv (g : gG) (gh : gGh) (R AR : gR) (I AI : gI) : Prop := vRows g gh R I ∧ vC5 g gh AI ∧ vLine g gh R I AI ∧ vPlan g gh R AR I ∧ vX g gh R AR I ∧ vPr g gh R I ∧ vTk g gh R I AI ∧ vRM g gh R I AI
theorem gO_ne {g : gG} {a b c d : Nat} (ha : gO g a c) (hb : gO g b d) (h : c ≠ d) : a ≠ b := fun q => h (by rw [← ha.2, ← hb.2, q])
theorem gO_ar {g : gG} {a b c d n : Nat} (ha : gO g a c) (hb : gAr g b d n) (h : c ≠ d) : a ≠ b := fun q => h (by rw [← ha.2, ← hb.2.1, q])
/-! each part looks at its own fields alone -/
theorem vRows_c {g : gG} {gh : gGh} {R : gR} {I I' : gI} (h : vRows g gh R I) (e : ∀ b, gO g b 4 → I' b = I b) : vRows g gh R I' := fun a ha => by rw [e a ha]; exact h a ha
theorem vC5_c {g : gG} {gh : gGh} {R : gR} {I AI AI' : gI} (h : vC5 g gh AI) (hr : vRows g gh R I) (e : ∀ b, gh 9 b = 1 → AI' b = AI b) : vC5 g gh AI' := fun a ha h5 => by rw [e _ (hr a ha).1.2.2.1]; exact h a ha h5
theorem vLine_c {g : gG} {gh : gGh} {R : gR} {I I' AI AI' : gI} (h : vLine g gh R I AI) (e : ∀ b, gO g b 0 → I' b = I b) (e2 : ∀ b, gO g b 2 → I' b 1 = I b 1) (e3 : ∀ b, gh 9 b = 2 → AI' b = AI b) : vLine g gh R I' AI' := fun a ha => by
  have q := h a ha
  rw [e a ha, e3 _ q.1.2.2.1, e2 _ q.1.2.2.2.2.1]
  exact q
theorem vPlan_c {g : gG} {gh : gGh} {R AR : gR} {I I' : gI} (h : vPlan g gh R AR I) (e : ∀ b, gO g b 2 → I' b = I b) : vPlan g gh R AR I' := fun a ha => by rw [e a ha]; exact h a ha
theorem vX_c {g : gG} {gh : gGh} {R AR : gR} {I I' : gI} (h : vX g gh R AR I) (e : ∀ b, gO g b 6 → I' b = I b) : vX g gh R AR I' := fun a ha => by rw [e a ha]; exact h a ha
theorem vPr_c {g : gG} {gh : gGh} {R : gR} {I I' : gI} (h : vPr g gh R I) (e : ∀ b, gO g b 1 → I' b = I b) : vPr g gh R I' := fun a ha => by rw [e a ha]; exact h a ha
theorem vTk_c {g : gG} {gh : gGh} {R : gR} {I I' AI AI' : gI} (h : vTk g gh R I AI) (e : ∀ b, gO g b 5 → I' b = I b) (e3 : ∀ b, gh 9 b = 3 → AI' b = AI b) (e4 : ∀ b, gh 9 b = 4 → AI' b = AI b) : vTk g gh R I' AI' := fun a ha => by
  have q := h a ha
  rw [e a ha, e3 _ q.1.2.2.2, e4 _ q.2.2.1.2.2]
  exact q
/-- an int field of an object of class c that no part looks at, or of which only one does -/
theorem gup2_o {I : gI} {g : gG} {a b c d k : Nat} {v : Int32} (ha : gO g a c) (hb : gO g b d) (h : d ≠ c) : gup2 I a k v b = I b := funext fun j => gup2_a _ _ (gO_ne hb ha h)
/-- an array of a part that no invariant looks at -/
theorem gInv_plain {g : gG} {gh : gGh} {R AR : gR} {I AI AI' : gI} (h : gInv g gh R AR I AI) {a : Nat} (ha : gh 9 a = 0) (e : ∀ b, b ≠ a → AI' b = AI b) : gInv g gh R AR I AI' := by
  obtain ⟨h1, h2, h3, h4, h5, h6, h7, h8⟩ := h
  have ne : ∀ b n, n ≠ 0 → gh 9 b = n → AI' b = AI b := fun b n hn hb => e b (fun q => hn (by rw [← hb, q, ha]))
  exact ⟨h1, vC5_c h2 h1 (fun b hb => ne b 1 (by decide) hb), vLine_c h3 (fun _ _ => rfl) (fun _ _ => rfl) (fun b hb => ne b 2 (by decide) hb), h4, h5, h6, vTk_c h7 (fun _ _ => rfl) (fun b hb => ne b 3 (by decide) hb) (fun b hb => ne b 4 (by decide) hb), vRM_c h8 (fun _ _ => rfl) (fun b hb => ne b 5 (by decide) hb) (fun hb _ _ => ⟨rfl, ne _ 1 (by decide) (h1 _ hb).1.2.2.1⟩)⟩
/-- the cells of a Rows -/
theorem gInv_cells {g : gG} {gh : gGh} {R AR : gR} {I AI AI' : gI} (h : gInv g gh R AR I AI) {a : Nat} (ha : gO g a 4) (e : ∀ b, b ≠ gh 0 a → AI' b = AI b)
    (h5 : gh 2 a = 5 → ∀ j : Nat, j < gh 1 a → 0 ≤ (AI' (gh 0 a) (6 * j)).toInt ∧ (AI' (gh 0 a) (6 * j)).toInt ≤ 15) (hfz : gh 2 a = 5 → gh 42 0 = 1 → a ≠ gh 37 0) : gInv g gh R AR I AI' := by
  obtain ⟨h1, h2, h3, h4, h5', h6, h7, h8⟩ := h
  have hr := (h1 a ha).1.2.2
  have ne : ∀ b n, n ≠ 1 → gh 9 b = n → AI' b = AI b := fun b n hn hb => e b (fun q => hn (by rw [← hb, q, hr.1]))
  refine ⟨h1, fun b hb hk j hj => ?_, vLine_c h3 (fun _ _ => rfl) (fun _ _ => rfl) (fun b hb => ne b 2 (by decide) hb), h4, h5', h6, vTk_c h7 (fun _ _ => rfl) (fun b hb => ne b 3 (by decide) hb) (fun b hb => ne b 4 (by decide) hb), vRM_c h8 (fun _ _ => rfl) (fun b hb => ne b 5 (by decide) hb) (fun hb q1 q2 => ⟨rfl, e _ (fun q => by
    have ea : gh 37 0 = a := by rw [← (h1 _ hb).1.2.2.2, q, hr.2]
    exact hfz (ea ▸ q2) q1 ea.symm)⟩)⟩
  by_cases hq : b = a
  · subst hq; exact h5 hk j hj
  · rw [e _ (fun q => hq (by rw [← (h1 b hb).1.2.2.2, q, hr.2]))]
    exact h2 b hb hk j hj
/-- the length of a Rows -/
theorem gInv_len {g : gG} {gh : gGh} {R AR : gR} {I AI : gI} (h : gInv g gh R AR I AI) {a : Nat} (ha : gO g a 4) {z : Int} (h0 : 0 ≤ z) (hz : z ≤ (gh 1 a : Int)) (hfz : gh 2 a = 5 → gh 42 0 = 1 → a ≠ gh 37 0) : gInv g gh R AR (gup2 I a 3 (iI z)) AI := by
  obtain ⟨h1, h2, h3, h4, h5, h6, h7, h8⟩ := h
  have hr := h1 a ha
  have nO : ∀ d, d ≠ 4 → ∀ b, gO g b d → gup2 I a 3 (iI z) b = I b := fun d hd b hb => gup2_o ha hb hd
  refine ⟨fun b hb => ?_, h2, vLine_c h3 (nO 0 (by decide)) (fun b hb => by rw [nO 2 (by decide) b hb]) (fun _ _ => rfl), vPlan_c h4 (nO 2 (by decide)), vX_c h5 (nO 6 (by decide)), vPr_c h6 (nO 1 (by decide)), vTk_c h7 (nO 5 (by decide)) (fun _ _ => rfl) (fun _ _ => rfl), vRM_c h8 (nO 7 (by decide)) (fun _ _ => rfl) (fun hb q1 q2 => ⟨gup2_a _ _ (fun ea => hfz (ea ▸ q2) q1 ea.symm), rfl⟩)⟩
  obtain ⟨q1, ⟨q2, q3, q4, q5⟩, q6⟩ := h1 b hb
  refine ⟨q1, ?_, q6⟩
  rw [gup2_k _ _ (by decide), gup2_k _ _ (by decide)]
  by_cases hq : b = a
  · subst hq
    rw [gup2_s, iI_val ⟨by omega, by omega⟩]
    exact ⟨q2, q3, h0, hz⟩
  · rw [gup2_a _ _ hq]
    exact ⟨q2, q3, q4, q5⟩
theorem gI_rows {g : gG} {gh : gGh} {R AR : gR} {I AI : gI} (h : gInv g gh R AR I AI) {a : Nat} (ha : gO g a 4) : (I a 0).toInt = (gh 2 a : Int) ∧ (I a 1).toInt = (gh 1 a : Int) ∧ 0 ≤ (I a 3).toInt ∧ (I a 3).toInt ≤ (gh 1 a : Int) ∧ 4 ≤ gh 2 a ∧ gh 2 a ≤ 5 ∧ 40 ≤ gh 1 a ∧ gh 1 a ≤ 240 := by
  have q := h.1 a ha
  refine ⟨q.2.1.1, q.2.1.2.1, q.2.1.2.2.1, q.2.1.2.2.2, ?_, ?_, q.2.2.2.1, q.2.2.2.2⟩
  · rcases q.2.2.1 with h | h <;> omega
  · rcases q.2.2.1 with h | h <;> omega
theorem gR_cells {g : gG} {gh : gGh} {R AR : gR} {I AI : gI} (h : gInv g gh R AR I AI) {a : Nat} (ha : gO g a 4) : R a 2 = some (gh 0 a) ∧ gAr g (gh 0 a) 9 (6 * gh 1 a) := ⟨(h.1 a ha).1.1, (h.1 a ha).1.2.1⟩
/-- the flag is down, or up where the batch is as told -/
def ghF (k : Nat) (gh : gGh) : gGh := fun a b => match a with
  | 42 => k
  | a => gh a b
theorem gInv_dn {g : gG} {gh : gGh} {R AR : gR} {I AI : gI} (h : gInv g gh R AR I AI) : gInv g (ghF 0 gh) R AR I AI := by
  obtain ⟨h1, h2, h3, h4, h5, h6, h7, h8⟩ := h
  exact ⟨h1, h2, h3, h4, h5, h6, h7, h8.1, h8.2.1, h8.2.2.1, fun q => absurd q (by show ¬ (0 : Nat) = 1; decide)⟩
theorem gInv_up {g : gG} {gh : gGh} {R AR : gR} {I AI : gI} (h : gInv g gh R AR I AI) (h37 : gO g (gh 37 0) 4 ∧ gh 2 (gh 37 0) = 5) (hB : I (gh 37 0) 3 = (gM g).1 (gh 37 0) 3 ∧ AI (gh 0 (gh 37 0)) = (gM g).2 (gh 0 (gh 37 0))) : gInv g (ghF 1 gh) R AR I AI := by
  obtain ⟨h1, h2, h3, h4, h5, h6, h7, h8⟩ := h
  exact ⟨h1, h2, h3, h4, h5, h6, h7, h8.1, h8.2.1, h8.2.2.1, fun _ => ⟨h37.1, h37.2, hB.1, hB.2⟩⟩
