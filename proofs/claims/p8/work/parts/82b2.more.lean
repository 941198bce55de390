theorem thn_t {k v : Int} {h : Nat} {s y : pR} {f : Nat → Int → pR} (e : s = (k, h, v)) (hk : k = 0) (K : f h v = y) : thn s f = y := by rw [e]; subst hk; exact K
