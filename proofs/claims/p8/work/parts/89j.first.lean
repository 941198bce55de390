/-! the reference: a row of a bag -/
theorem hF_at {f F : Nat → Int32} {b : Int} {k p : Int} (h : ∀ q : Nat, q < 720 → f (b.toNat + q) = F q) (hb : 0 ≤ b) (h0 : 0 ≤ k ∧ k < 120) (e : p = b + 6 * k) : ∀ j, j < 4 → f (p.toNat + j) = tg (tup F k.toNat) j := fun j hj => by
  rw [tg_up j hj, ← h _ (by omega)]; congr 1; omega
