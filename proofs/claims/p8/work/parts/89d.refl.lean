/-! the reference: a line's tests and terms as told -/
def tsM (T : Nat → Int32) (r : Int) (c : LC) : Prop := tI T (40 * r + 4) = c.1 4 ∧ ∀ k : Nat, (k : Int) < c.1 4 → mP T r (k : Int) 0 = c.2 k 0 ∧
  ((mP T r (k : Int) 1 = 0 ∧ c.2 k 1 = 61) ∨ (mP T r (k : Int) 1 = 1 ∧ c.2 k 1 = 60) ∨ (mP T r (k : Int) 1 ≠ 0 ∧ mP T r (k : Int) 1 ≠ 1 ∧ c.2 k 1 ≠ 61 ∧ c.2 k 1 ≠ 60)) ∧
  ((mP T r (k : Int) 2 = 1 ∧ c.2 k 2 ≠ -1 ∧ mP T r (k : Int) 3 = c.2 k 2) ∨ (mP T r (k : Int) 2 ≠ 1 ∧ c.2 k 2 = -1 ∧ mP T r (k : Int) 3 = c.2 k 3))
theorem tsM_at {T : Nat → Int32} {r k : Int} {c : LC} (h : tsM T r c) (h0 : 0 ≤ k) (h1 : k < c.1 4) : mP T r k 0 = c.2 k.toNat 0 ∧
    ((mP T r k 1 = 0 ∧ c.2 k.toNat 1 = 61) ∨ (mP T r k 1 = 1 ∧ c.2 k.toNat 1 = 60) ∨ (mP T r k 1 ≠ 0 ∧ mP T r k 1 ≠ 1 ∧ c.2 k.toNat 1 ≠ 61 ∧ c.2 k.toNat 1 ≠ 60)) ∧
    ((mP T r k 2 = 1 ∧ c.2 k.toNat 2 ≠ -1 ∧ mP T r k 3 = c.2 k.toNat 2) ∨ (mP T r k 2 ≠ 1 ∧ c.2 k.toNat 2 = -1 ∧ mP T r k 3 = c.2 k.toNat 3)) := by
  have q := h.2 k.toNat (by omega)
  rw [Int.toNat_of_nonneg h0] at q; exact q
def tmM (T : Nat → Int32) (r fm : Int) (c : LC) : Prop := ∀ k : Nat, (k : Int) < c.1 4 → mP T r (fm + (k : Int)) 0 = c.2 k 0 ∧ mP T r (fm + (k : Int)) 1 = c.2 k 1 ∧ (0 ≤ c.2 k 0 ∨ c.2 k 0 = -1)
theorem tmM_at {T : Nat → Int32} {r fm k : Int} {c : LC} (h : tmM T r fm c) (h0 : 0 ≤ k) (h1 : k < c.1 4) : mP T r (fm + k) 0 = c.2 k.toNat 0 ∧ mP T r (fm + k) 1 = c.2 k.toNat 1 ∧ (0 ≤ c.2 k.toNat 0 ∨ c.2 k.toNat 0 = -1) := by
  have q := h k.toNat (by omega)
  rw [Int.toNat_of_nonneg h0] at q; exact q
theorem trT_n {c : LC} {h : Nat → Int32} {k : Nat} (hk : k < 4) (h1 : c.1 4 ≤ (k : Int)) : tg (trT c h) k = 0 := by
  unfold trT; rw [tg_mk _ hk, if_neg (by omega)]
theorem trT_y {c : LC} {h : Nat → Int32} {k : Nat} (hk : k < 4) (h1 : (k : Int) < c.1 4) : tg (trT c h) k = trm c h k := by
  unfold trT; rw [tg_mk _ hk, if_pos h1]
