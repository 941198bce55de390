/-! joins: a pair is told by its tuple -/
section Join
variable {c : LC} {x y : Nat → Int32} {t u t' u' s : Tup} {n m i j d q : Nat}
theorem jc_le : ∀ (e d : Nat), jc c d ≤ jc c (d + e)
  | 0, _ => Nat.le_refl _
  | e + 1, d => by
    have := jc_le e d
    rw [show d + (e + 1) = (d + e) + 1 by omega, jc]; omega
theorem jc_s (h : ¬ tld c d) : jc c (d + 1) = jc c d + 1 := by rw [jc, pN1_y h]
theorem jc_k (h : tld c d) : jc c (d + 1) = jc c d := by rw [jc, pN1_n (fun q => q h)]; omega
theorem jc_lt (h : ¬ tld c d) (k : d < q) : jc c d < jc c q := by
  have := jc_le (c := c) (q - (d + 1)) (d + 1)
  rw [show d + 1 + (q - (d + 1)) = q by omega, jc_s h] at this
  omega
theorem jc_u : ∀ d, jc c d ≤ d
  | 0 => Nat.le_refl _
  | d + 1 => by
    have := jc_u d
    by_cases w : tld c d
    · rw [jc_k w]; omega
    · rw [jc_s w]; omega
theorem jc_at : ∀ (m q : Nat), q < jc c m → ∃ d, d < m ∧ ¬ tld c d ∧ jc c d = q
  | 0, q, h => absurd h (Nat.not_lt_zero _)
  | m + 1, q, h => by
    by_cases w : tld c m
    · rw [jc_k w] at h
      obtain ⟨d, a, b⟩ := jc_at m q h
      exact ⟨d, by omega, b⟩
    · rw [jc_s w] at h
      by_cases v : q < jc c m
      · obtain ⟨d, a, b⟩ := jc_at m q v
        exact ⟨d, by omega, b⟩
      · exact ⟨m, by omega, w, by omega⟩
theorem jat_y : ∀ (m : Nat), d < m → ¬ tld c d → jat c u m (jc c d) = tg u d
  | 0, h, _ => absurd h (Nat.not_lt_zero _)
  | m + 1, h, k => by
    rw [jat]
    by_cases w : d = m
    · subst w; exact pI_y ⟨k, rfl⟩
    · rw [pI_n (fun e => ?_)]
      · exact jat_y m (by omega) k
      · have := jc_lt (q := m) k (by omega)
        omega
theorem jat_n : ∀ (m : Nat), jc c m ≤ q → jat c u m q = 0
  | 0, _ => rfl
  | m + 1, h => by
    rw [jat, pI_n (fun e => ?_)]
    · exact jat_n m (by have := jc_le (c := c) 1 m; omega)
    · have := jc_s (c := c) e.1
      omega
/-- a key that is told column by column is the joined tuple -/
theorem jn_of {k : Nat → Int32} (h1 : ∀ j : Nat, (j : Int) < c.1 5 → j < 4 → k j = tg t j) (h2 : ∀ d : Nat, d < (c.1 6).toNat → ¬ tld c d → k ((c.1 5).toNat + jc c d) = tg u d) (h3 : ∀ j : Nat, (c.1 5).toNat + jc c (c.1 6).toNat ≤ j → j < 4 → k j = 0) (h5 : 0 ≤ c.1 5) : ∀ j, j < 4 → k j = tg (jn c t u) j := fun j hj => by
  unfold jn
  rw [tg_mk j hj]
  by_cases w : (j : Int) < c.1 5
  · rw [if_pos w]; exact h1 j w hj
  · rw [if_neg w]
    by_cases v : j - (c.1 5).toNat < jc c (c.1 6).toNat
    · obtain ⟨d, hd, hn, e⟩ := jc_at _ _ v
      have := h2 d hd hn
      rw [← e, jat_y _ hd hn, ← this]
      congr 1; omega
    · rw [jat_n _ (by omega)]; exact h3 j (by omega) hj
/-- of two pairs that are alike and have one tuple: they are one -/
def jOK (c : LC) : Prop := 0 ≤ c.1 5 ∧ c.1 5 ≤ 4 ∧ 0 ≤ c.1 6 ∧ c.1 6 ≤ 4 ∧ (c.1 5).toNat + jc c (c.1 6).toNat ≤ 4 ∧ ∀ k : Nat, (k : Int) < c.1 4 → 0 ≤ c.2 k 0 ∧ c.2 k 0 < c.1 5 ∧ 0 ≤ c.2 k 1 ∧ c.2 k 1 < c.1 6
def zT (cols : Int) (t : Tup) : Prop := ∀ k : Nat, cols ≤ (k : Int) → k < 4 → tg t k = 0
theorem jn_i (hc : jOK c) (zt : zT (c.1 5) t) (zt' : zT (c.1 5) t') (zu : zT (c.1 6) u) (zu' : zT (c.1 6) u') (a : alk c t u) (b : alk c t' u') (e : jn c t u = jn c t' u') : t = t' ∧ u = u' := by
  obtain ⟨c1, c2, c3, c4, c5, c6⟩ := hc
  have g : ∀ k, k < 4 → tg (jn c t u) k = tg (jn c t' u') k := fun k _ => by rw [e]
  have et : t = t' := tg_x (fun k hk => by
    by_cases w : (k : Int) < c.1 5
    · have := g k hk
      unfold jn at this
      rwa [tg_mk k hk, tg_mk k hk, if_pos w, if_pos w] at this
    · rw [zt k (by omega) hk, zt' k (by omega) hk])
  refine ⟨et, tg_x (fun k hk => ?_)⟩
  by_cases w : (k : Int) < c.1 6
  · by_cases v : tld c k
    · obtain ⟨p, hp, ep⟩ := v
      have q1 := a p hp
      have q2 := b p hp
      rw [ep, show ((k : Int)).toNat = k by omega] at q1 q2
      rw [← q1, ← q2, et]
    · have hk6 : k < (c.1 6).toNat := by omega
      have lt := jc_lt (c := c) (q := (c.1 6).toNat) v hk6
      have := g ((c.1 5).toNat + jc c k) (by omega)
      unfold jn at this
      rw [tg_mk _ (by omega), tg_mk _ (by omega), if_neg (by omega), if_neg (by omega), show (c.1 5).toNat + jc c k - (c.1 5).toNat = jc c k by omega, jat_y _ hk6 v, jat_y _ hk6 v] at this
      exact this
  · rw [zu k (by omega) hk, zu' k (by omega) hk]
/-- a pair ahead of the place (i, j) -/
def bfr (i j i' j' : Nat) : Prop := i' < i ∨ (i' = i ∧ j' < j)
theorem sR_supp {κ : Tup → Tup} {α : Tup → Int32 → Int32} {S : Tup → Int32} : ∀ (m : Nat) (s : Tup), sR κ α y m S s ≠ 0 → S s ≠ 0 ∨ ∃ j, j < m ∧ α (tup y j) (y (6 * j + 4)) ≠ 0 ∧ κ (tup y j) = s
  | 0, s, h => Or.inl h
  | m + 1, s, h => by
    rw [sR] at h
    by_cases w : s = κ (tup y m)
    · by_cases v : α (tup y m) (y (6 * m + 4)) = 0
      · rw [v, sAdd_0] at h
        rcases sR_supp m s h with h | ⟨j, a, b⟩
        · exact Or.inl h
        · exact Or.inr ⟨j, by omega, b⟩
      · exact Or.inr ⟨m, by omega, v, w.symm⟩
    · rw [sAdd_k w] at h
      rcases sR_supp m s h with h | ⟨j, a, b⟩
      · exact Or.inl h
      · exact Or.inr ⟨j, by omega, b⟩
theorem sR_keep {κ : Tup → Tup} {α : Tup → Int32 → Int32} {S : Tup → Int32} : ∀ (k m : Nat) (s : Tup), (∀ j, m ≤ j → j < m + k → α (tup y j) (y (6 * j + 4)) ≠ 0 → κ (tup y j) ≠ s) → sR κ α y (m + k) S s = sR κ α y m S s
  | 0, _, _, _ => rfl
  | k + 1, m, s, h => by
    rw [show m + (k + 1) = (m + k) + 1 by omega, sR]
    have ih := sR_keep (S := S) k m s (fun j a b => h j a (by omega))
    by_cases w : s = κ (tup y (m + k))
    · by_cases v : α (tup y (m + k)) (y (6 * (m + k) + 4)) = 0
      · rw [v, sAdd_0]; exact ih
      · exact absurd w.symm (h (m + k) (by omega) (by omega) v)
    · rw [sAdd_k w]; exact ih
theorem pI_ne {p : Prop} {a : Int32} (h : pI p a 0 ≠ 0) : p := Classical.byContradiction (fun k => h (pI_n k))
theorem sJ_supp : ∀ (i : Nat) (s : Tup), sJ c x y m i s ≠ 0 → ∃ i' j', i' < i ∧ j' < m ∧ alk c (tup x i') (tup y j') ∧ jn c (tup x i') (tup y j') = s
  | 0, s, h => absurd rfl h
  | i + 1, s, h => by
    rw [sJ] at h
    rcases sR_supp m s h with h | ⟨j, a, b, e⟩
    · obtain ⟨i', j', a, b⟩ := sJ_supp i s h
      exact ⟨i', j', by omega, b⟩
    · exact ⟨i, j, by omega, a, pI_ne b, e⟩
theorem sJ1_supp (h : sJ1 c (tup x i) (x (6 * i + 4)) y j (sJ c x y m i) s ≠ 0) : ∃ i' j', (i' < i ∧ j' < m ∨ i' = i ∧ j' < j) ∧ alk c (tup x i') (tup y j') ∧ jn c (tup x i') (tup y j') = s := by
  rcases sR_supp j s h with h | ⟨j', a, b, e⟩
  · obtain ⟨i', j', a, b, e⟩ := sJ_supp i s h
    exact ⟨i', j', Or.inl ⟨a, b⟩, e⟩
  · exact ⟨i, j', Or.inr ⟨rfl, a⟩, pI_ne b, e⟩
def zB (cols : Int) (f : Nat → Int32) (n : Nat) : Prop := ∀ i, i < n → zT cols (tup f i)
theorem jn_r (hc : jOK c) (hx : okB x n) (hy : okB y m) (zx : zB (c.1 5) x n) (zy : zB (c.1 6) y m) {i j i' j' : Nat} (h1 : i < n) (h2 : j < m) (h3 : i' < n) (h4 : j' < m) (a : alk c (tup x i) (tup y j)) (b : alk c (tup x i') (tup y j')) (e : jn c (tup x i) (tup y j) = jn c (tup x i') (tup y j')) : i = i' ∧ j = j' := by
  have q := jn_i hc (zx i h1) (zx i' h3) (zy j h2) (zy j' h4) a b e
  exact ⟨srtB_ne hx.1 h1 h3 q.1, srtB_ne hy.1 h2 h4 q.2⟩
/-- what is there of a tuple stays -/
theorem sJ_keep (hc : jOK c) (hx : okB x n) (hy : okB y m) (zx : zB (c.1 5) x n) (zy : zB (c.1 6) y m) : ∀ (k i : Nat), i + k ≤ n → ∀ s, sJ c x y m i s ≠ 0 → sJ c x y m (i + k) s = sJ c x y m i s
  | 0, _, _, _, _ => rfl
  | k + 1, i, h, s, hs => by
    rw [show i + (k + 1) = (i + k) + 1 by omega, sJ]
    have ih := sJ_keep hc hx hy zx zy k i (by omega) s hs
    obtain ⟨i', j', a, b, d, e⟩ := sJ_supp i s hs
    have := sR_keep (κ := jn c (tup x (i + k))) (α := fun u b => pI (alk c (tup x (i + k)) u) (x (6 * (i + k) + 4) * b) 0) (y := y) (S := sJ c x y m (i + k)) m 0 s (fun j _ hj hn q => by
      have := (jn_r hc hx hy zx zy (by omega) (by omega) (by omega) b (pI_ne hn) d (q.trans e.symm)).1
      omega)
    rw [Nat.zero_add] at this
    exact this.trans ih
theorem sJ1_keep (hc : jOK c) (hx : okB x n) (hy : okB y m) (zx : zB (c.1 5) x n) (zy : zB (c.1 6) y m) (hi : i < n) (hj : j ≤ m) (hs : sJ1 c (tup x i) (x (6 * i + 4)) y j (sJ c x y m i) s ≠ 0) : sJ c x y m n s ≠ 0 := by
  have e1 : sJ c x y m (i + 1) s = sJ1 c (tup x i) (x (6 * i + 4)) y j (sJ c x y m i) s := by
    rw [sJ]
    obtain ⟨i', j', a, d, e⟩ := sJ1_supp hs
    have := sR_keep (κ := jn c (tup x i)) (α := fun u b => pI (alk c (tup x i) u) (x (6 * i + 4) * b) 0) (y := y) (S := sJ c x y m i) (m - j) j s (fun j2 h1 h2 hn q => by
      have hj' : j' < m := by omega
      have := jn_r hc hx hy zx zy hi (by omega) (by omega) hj' (pI_ne hn) d (q.trans e.symm)
      omega)
    rw [show j + (m - j) = m by omega] at this
    exact this
  have := sJ_keep hc hx hy zx zy (n - (i + 1)) (i + 1) (by omega) s (by rw [e1]; exact hs)
  rw [show i + 1 + (n - (i + 1)) = n by omega] at this
  rw [this, e1]; exact hs
theorem pC_le {t : Tup} : ∀ (k j : Nat), pC c t y j ≤ pC c t y (j + k)
  | 0, _ => Nat.le_refl _
  | k + 1, j => by
    have := pC_le (t := t) k j
    rw [show j + (k + 1) = (j + k) + 1 by omega, pC]; omega
theorem pJ_le : ∀ (k i : Nat), pJ c x y m i ≤ pJ c x y m (i + k)
  | 0, _ => Nat.le_refl _
  | k + 1, i => by
    have := pJ_le k i
    rw [show i + (k + 1) = (i + k) + 1 by omega, pJ]; omega
theorem pJ_at (hi : i < n) (hj : j ≤ m) : pJ c x y m i + pC c (tup x i) y j ≤ pJ c x y m n := by
  have a := pC_le (c := c) (t := tup x i) (y := y) (m - j) j
  rw [show j + (m - j) = m by omega] at a
  have b := pJ_le (c := c) (x := x) (y := y) (m := m) (n - (i + 1)) (i + 1)
  rw [show i + 1 + (n - (i + 1)) = n by omega, pJ] at b
  omega
theorem pC_y (h : alk c t (tup y j)) : pC c t y (j + 1) = pC c t y j + 1 := by rw [pC, pN1_y h]
theorem pC_n (h : ¬ alk c t (tup y j)) : pC c t y (j + 1) = pC c t y j := by rw [pC, pN1_n h]; omega
theorem sJ1_y {a : Int32} {S : Tup → Int32} (h : alk c t (tup y j)) : sJ1 c t a y (j + 1) S = sAdd (sJ1 c t a y j S) (jn c t (tup y j)) (a * y (6 * j + 4)) := by
  unfold sJ1; rw [sR, pI_y h]
theorem sJ1_n {a : Int32} {S : Tup → Int32} (h : ¬ alk c t (tup y j)) : sJ1 c t a y (j + 1) S = sJ1 c t a y j S := by
  unfold sJ1; rw [sR, pI_n h, sAdd_0]
/-- no place for one more: there are too many -/
theorem isB_full {f : Nat → Int32} {L : Nat} {S : Tup → Int32} {v : Int32} (h : isB f L S zM) (h0 : S s = 0) (hv : v ≠ 0) : bigP L (fun t => sAdd S s v t ≠ 0) := by
  have ne : ∀ i, i < L → tup f i ≠ s := fun i hi e => by
    have := (h.2.1 i hi).1
    rw [e] at this
    exact this h0
  refine bigP_of (t := s) h.1 (fun i hi => ?_) (by rw [sAdd_s, h0, Int32.zero_add]; exact hv) ne
  rw [sAdd_k (ne i hi)]; exact (h.2.1 i hi).1
end Join
theorem isB_full9 {f : Nat → Int32} {L k : Nat} {S : Tup → Int32} {s : Tup} {v : Int32} (h : isB f k S zM) (hk : L ≤ k) (h0 : S s = 0) (hv : v ≠ 0) : bigP L (fun t => sAdd S s v t ≠ 0) := by
  obtain ⟨g, g1, g2⟩ := isB_full h h0 hv
  exact ⟨g, fun i j a b => g1 i j a (by omega), fun i a => g2 i (by omega)⟩
theorem isB_add9 {f f' : Nat → Int32} {n : Nat} {S : Tup → Int32} {t : Tup} {v : Nat → Int} {lim len len' z x : Int} (a : isB f n S zM) (hl : len = (n : Int)) (h : addP 4 lim f f' len len' v x z) (hv : ∀ k, k < 4 → v k = tu t k) (zc : zr x) : (z = 1 ∧ 0 ≤ len' ∧ isB f' len'.toNat (sAdd S t (iI x)) zM) ∨ (z = 0 ∧ lim ≤ len ∧ S t = 0 ∧ iI x ≠ 0) := by
  subst hl
  rcases isB_add a hv h zc with h | ⟨h1, h2, h3, h4, _⟩
  · exact Or.inl h
  · exact Or.inr ⟨h1, h2, h3, h4⟩
theorem tld_ln {f P : Nat → Int32} {c : LC} {z : Int} (h : lnC f P c) (hk : c.1 0 = 3) (h0 : 0 ≤ z) : (∃ j : Nat, (j : Int) < (f 8).toInt ∧ (P (2 * j + 1)).toInt = z) ↔ tld c z.toNat := by
  have e8 := h.2.1 (Or.inr (Or.inr (Or.inl hk)))
  have ep := h.2.2.2.2.1 (Or.inr (Or.inl hk))
  unfold tld
  rw [e8]
  exact ⟨fun ⟨j, a, b⟩ => ⟨j, a, by rw [← (ep j a).2]; omega⟩, fun ⟨j, a, b⟩ => ⟨j, a, by rw [(ep j a).2]; omega⟩⟩
theorem jn_e1 {c : LC} {c2 : Int} {k : Nat → Int32} {u : Tup} (h : ∀ d : Nat, (d : Int) < c2 → ¬ tld c d → k ((c.1 5).toNat + jc c d) = tg u d) (h0 : 0 ≤ c2) (hh : c2 = c.1 6 ∨ 4 ≤ c.1 5 + jc c c2.toNat) (d : Nat) (hd : d < (c.1 6).toNat) (hn : ¬ tld c d) (h9 : (c.1 5).toNat + jc c (c.1 6).toNat ≤ 4) (h5 : 0 ≤ c.1 5) : k ((c.1 5).toNat + jc c d) = tg u d := by
  by_cases w : (d : Int) < c2
  · exact h d w hn
  · exfalso
    rcases hh with e | e
    · omega
    · have a := jc_lt (q := (c.1 6).toNat) hn hd
      have b := jc_le (c := c) (d - c2.toNat) c2.toNat
      rw [show c2.toNat + (d - c2.toNat) = d by omega] at b
      omega
theorem jn_e2 {c : LC} {c2 : Int} {j : Nat} (h0 : 0 ≤ c2) (h2 : c2 ≤ c.1 6) (h : (c.1 5).toNat + jc c (c.1 6).toNat ≤ j) : (c.1 5).toNat + jc c c2.toNat ≤ j := by
  have b := jc_le (c := c) ((c.1 6).toNat - c2.toNat) c2.toNat
  rw [show c2.toNat + ((c.1 6).toNat - c2.toNat) = (c.1 6).toNat by omega] at b
  omega
