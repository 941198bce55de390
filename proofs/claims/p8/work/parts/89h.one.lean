/-! the reference: tuples of one group -/
section One
variable {c : LC} {t u : Tup} {T : Nat → Int32} {r k : Int}
def gpM (T : Nat → Int32) (r : Int) (c : LC) : Prop := tI T (40 * r + 4) = c.1 4 ∧ c.1 4 ≤ 4 ∧ ∀ k : Nat, (k : Int) < c.1 4 → mP T r (k : Int) 0 = c.2 k 0
theorem gpM_at (h : gpM T r c) (h0 : 0 ≤ k) (h1 : k < c.1 4) : mP T r k 0 = c.2 k.toNat 0 := by
  have q := h.2.2 k.toNat (by omega)
  rw [Int.toNat_of_nonneg h0] at q; exact q
theorem gk_t (h : ∀ j : Nat, (j : Int) < c.1 4 → tg t (c.2 j 0).toNat = tg u (c.2 j 0).toNat) : gk c t = gk c u := by
  unfold gk; congr 1; funext j
  by_cases w : (j : Int) < c.1 4
  · rw [if_pos w, if_pos w]; exact h j w
  · rw [if_neg w, if_neg w]
theorem gk_k {j : Nat} (h : gk c t = gk c u) (h1 : (j : Int) < c.1 4) (h4 : j < 4) : tg t (c.2 j 0).toNat = tg u (c.2 j 0).toNat := by
  have q : tg (gk c t) j = tg (gk c u) j := by rw [h]
  unfold gk at q; rw [tg_mk j h4, tg_mk j h4, if_pos h1, if_pos h1] at q; exact q
end One
