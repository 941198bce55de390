/-! groups -/
def fldP (c : LC) (f f' : Nat → Int32) (row : Nat) (v a : Int32) : Prop :=
  (∀ j, j ≠ 6 * row + 4 → j ≠ 6 * row + 5 → f' j = f j) ∧ f' (6 * row + 4) = (fS c (f (6 * row + 5), f (6 * row + 4)) v a).2 ∧ f' (6 * row + 5) = (fS c (f (6 * row + 5), f (6 * row + 4)) v a).1
section Fold
variable {c : LC} {f f' : Nat → Int32} {row : Nat} {v a : Int32}
theorem fld_cnt (h9 : c.1 9 = 0) (e : ∀ j, j ≠ 6 * row + 4 → f' j = f j) (e4 : f' (6 * row + 4) = f (6 * row + 4) + a) : fldP c f f' row v a := by
  unfold fldP fS
  rw [if_pos h9]
  exact ⟨fun j h4 _ => e j h4, e4, e _ (by omega)⟩
theorem fld_sum (h9 : c.1 9 = 1) (e : ∀ j, j ≠ 6 * row + 4 → f' j = f j) (e4 : f' (6 * row + 4) = f (6 * row + 4) + a * v) : fldP c f f' row v a := by
  unfold fldP fS
  rw [if_neg (by omega), if_pos h9]
  exact ⟨fun j h4 _ => e j h4, e4, e _ (by omega)⟩
theorem fld_no (h0 : c.1 9 ≠ 0) (h1 : c.1 9 ≠ 1) (ha : ¬ 0 < a.toInt) : fldP c f f row v a := by
  unfold fldP fS
  rw [if_neg h0, if_neg h1, if_neg ha]
  exact ⟨fun j _ _ => rfl, rfl, rfl⟩
theorem fld_set (h0 : c.1 9 ≠ 0) (h1 : c.1 9 ≠ 1) (ha : 0 < a.toInt) (hc : f (6 * row + 5) = 0 ∨ (c.1 9 = 2 ∧ v.toInt < (f (6 * row + 4)).toInt) ∨ (c.1 9 ≠ 2 ∧ (f (6 * row + 4)).toInt < v.toInt)) (e : ∀ j, j ≠ 6 * row + 4 → j ≠ 6 * row + 5 → f' j = f j) (e4 : f' (6 * row + 4) = v) (e5 : f' (6 * row + 5) = 1) : fldP c f f' row v a := by
  unfold fldP fS
  rw [if_neg h0, if_neg h1, if_pos ha]
  refine ⟨e, ?_, e5⟩
  show f' (6 * row + 4) = if f (6 * row + 5) = 0 ∨ (c.1 9 = 2 ∧ v.toInt < (f (6 * row + 4)).toInt) ∨ (c.1 9 ≠ 2 ∧ (f (6 * row + 4)).toInt < v.toInt) then v else f (6 * row + 4)
  rw [if_pos hc]; exact e4
theorem fld_keep (h0 : c.1 9 ≠ 0) (h1 : c.1 9 ≠ 1) (ha : 0 < a.toInt) (hc : ¬ (f (6 * row + 5) = 0 ∨ (c.1 9 = 2 ∧ v.toInt < (f (6 * row + 4)).toInt) ∨ (c.1 9 ≠ 2 ∧ (f (6 * row + 4)).toInt < v.toInt))) (e : ∀ j, j ≠ 6 * row + 5 → f' j = f j) (e5 : f' (6 * row + 5) = 1) : fldP c f f' row v a := by
  unfold fldP fS
  rw [if_neg h0, if_neg h1, if_pos ha]
  refine ⟨fun j _ h5 => e j h5, ?_, e5⟩
  show f' (6 * row + 4) = if f (6 * row + 5) = 0 ∨ (c.1 9 = 2 ∧ v.toInt < (f (6 * row + 4)).toInt) ∨ (c.1 9 ≠ 2 ∧ (f (6 * row + 4)).toInt < v.toInt) then v else f (6 * row + 4)
  rw [if_neg hc]; exact e _ (by omega)
end Fold
/-- the groups of the first i rows: their folds, whether they have one -/
def gPs (c : LC) (x : Nat → Int32) (i : Nat) : Tup → Prop := fun u => ∃ k, k < i ∧ gk c (tup x k) = u
def gSs (c : LC) (x : Nat → Int32) (i : Nat) : Tup → Int32 := fun u => (gF c x u i).2
def gMs (c : LC) (x : Nat → Int32) (i : Nat) : Tup → Int32 := fun u => (gF c x u i).1
section Group
variable {c : LC} {f f' f1 f2 f3 x : Nat → Int32} {n m i k row : Nat} {u t : Tup}
theorem gF_0 : ∀ i, (∀ k, k < i → gk c (tup x k) ≠ u) → gF c x u i = (0, 0)
  | 0, _ => rfl
  | i + 1, h => by rw [gF, if_neg (h i (by omega))]; exact gF_0 i (fun k hk => h k (by omega))
theorem gF_y (h : gk c (tup x i) = u) : gF c x u (i + 1) = fS c (gF c x u i) (tg (tup x i) (c.1 10).toNat) (x (6 * i + 4)) := by rw [gF, if_pos h]
theorem gF_n (h : gk c (tup x i) ≠ u) : gF c x u (i + 1) = gF c x u i := by rw [gF, if_neg h]
/-- the row's group is there -/
def grI (c : LC) (x f : Nat → Int32) (m i : Nat) : Prop := isW f m (gPs c x i) (gSs c x i) (gMs c x i) ∧ m ≤ i
theorem grI_0 : grI c x f 0 0 := ⟨isW_0 (fun t ⟨k, hk, _⟩ => Nat.not_lt_zero k hk), Nat.le_refl _⟩
/-- behind finding it, or its coming in -/
def grJ (c : LC) (x f : Nat → Int32) (m i : Nat) : Prop := isW f m (gPs c x (i + 1)) (gSs c x i) (gMs c x i) ∧ m ≤ i + 1
theorem grJ_y (h : grI c x f m i) (hr : row < m) (e : tup f row = gk c (tup x i)) : grJ c x f m i := by
  refine ⟨isW_q h.1 (fun t => ⟨fun ⟨k, hk, q⟩ => ?_, fun ⟨k, hk, q⟩ => ⟨k, by omega, q⟩⟩) (fun _ _ => rfl) (fun _ _ => rfl), by have := h.2; omega⟩
  by_cases w : k = i
  · have := (h.1.2.1 row hr).1
    rw [e] at this
    have e2 : gk c (tup x i) = t := by rw [← w]; exact q
    rwa [e2] at this
  · exact ⟨k, by omega, q⟩
theorem grJ_n (h : grI c x f m i) (hat : atW f m row (gk c (tup x i))) (e : insW f f' row m (gk c (tup x i)) 0 0) : grJ c x f' (m + 1) i := by
  have q := isW_ins h.1 hat e
  have z := gF_0 (c := c) (x := x) (u := gk c (tup x i)) i (fun k hk e => q.1 ⟨k, hk, e⟩)
  refine ⟨isW_q q.2 (fun t => ⟨fun ⟨k, hk, w⟩ => ?_, fun w => ?_⟩) (fun t _ => ?_) (fun t _ => ?_), by have := h.2; omega⟩
  · by_cases v : k = i
    · exact Or.inl (by rw [← w, v])
    · exact Or.inr ⟨k, by omega, w⟩
  · rcases w with w | ⟨k, hk, w⟩
    · exact ⟨i, by omega, w.symm⟩
    · exact ⟨k, by omega, w⟩
  · by_cases w : t = gk c (tup x i)
    · rw [w, tUp_s]; show (gF c x _ i).2 = 0; rw [z]
    · rw [tUp_k w]
  · by_cases w : t = gk c (tup x i)
    · rw [w, tUp_s]; show (gF c x _ i).1 = 0; rw [z]
    · rw [tUp_k w]
theorem grI_s (h : grJ c x f m i) (hr : row < m) (e : tup f row = gk c (tup x i)) (q : fldP c f f' row (tg (tup x i) (c.1 10).toNat) (x (6 * i + 4))) : grI c x f' m (i + 1) := by
  obtain ⟨q1, q2, q3⟩ := q
  have a := h.1.2.1 row hr
  rw [e] at a
  have e1 : (f (6 * row + 5), f (6 * row + 4)) = gF c x (gk c (tup x i)) i := by rw [a.2.1, a.2.2]; rfl
  rw [e1, ← gF_y rfl] at q2 q3
  -- the amount first, then the mark
  have s1 := isW_set (f' := fun j => if j = 6 * row + 5 then f j else f' j) h.1 hr e (c := (gF c x (gk c (tup x i)) (i + 1)).2) (fun j hj => by
    show (if j = 6 * row + 5 then f j else f' j) = f j
    by_cases w : j = 6 * row + 5
    · rw [if_pos w]
    · rw [if_neg w]; exact q1 j hj w) (by show (if 6 * row + 4 = 6 * row + 5 then f (6 * row + 4) else f' (6 * row + 4)) = _; rw [if_neg (by omega)]; exact q2)
  have et : tup (fun j => if j = 6 * row + 5 then f j else f' j) row = gk c (tup x i) := by
    rw [← e]
    refine tg_x (fun k hk => ?_)
    rw [tg_up k hk, tg_up k hk]
    show (if 6 * row + k = 6 * row + 5 then f (6 * row + k) else f' (6 * row + k)) = f (6 * row + k)
    rw [if_neg (by omega)]; exact q1 _ (by omega) (by omega)
  have s2 := isW_setM (f' := f') s1 hr et (c := (gF c x (gk c (tup x i)) (i + 1)).1) (fun j hj => by
    show f' j = if j = 6 * row + 5 then f j else f' j
    rw [if_neg hj]) q3
  refine ⟨isW_q s2 (fun _ => Iff.rfl) (fun t _ => ?_) (fun t _ => ?_), h.2⟩
  · by_cases w : t = gk c (tup x i)
    · rw [w, tUp_s]; rfl
    · rw [tUp_k w]; show (gF c x t (i + 1)).2 = (gF c x t i).2; rw [gF_n (fun q => w q.symm)]
  · by_cases w : t = gk c (tup x i)
    · rw [w, tUp_s]; rfl
    · rw [tUp_k w]; show (gF c x t (i + 1)).1 = (gF c x t i).1; rw [gF_n (fun q => w q.symm)]
/-- the first k rows have the fold in their column -/
def grF (c : LC) (x f : Nat → Int32) (n m k : Nat) : Prop :=
  ∃ f0, isW f0 m (gPs c x n) (gSs c x n) (gMs c x n) ∧ (∀ j, 6 * k ≤ j → f j = f0 j) ∧ ∀ r, r < k → tup f r = tset (tup f0 r) (c.1 4).toNat (f0 (6 * r + 4)) ∧ f (6 * r + 4) = 1 ∧ f (6 * r + 5) = 0
theorem grF_0 (h : grI c x f m n) : grF c x f n m 0 := ⟨f, h.1, fun _ _ => rfl, fun r hr => absurd hr (Nat.not_lt_zero r)⟩
theorem tg_ts {t : Tup} {k j : Nat} {v : Int32} (hj : j < 4) : tg (tset t k v) j = if j = k then v else tg t j := by unfold tset; exact tg_mk j hj
theorem grF_s (h : grF c x f n m k) (hk : k < m) (h4 : (c.1 4).toNat < 4) (e1 : ∀ j, j ≠ 6 * k + (c.1 4).toNat → f1 j = f j) (e1' : f1 (6 * k + (c.1 4).toNat) = f (6 * k + 4)) (e2 : ∀ j, j ≠ 6 * k + 4 → f2 j = f1 j) (e2' : f2 (6 * k + 4) = 1) (e3 : ∀ j, j ≠ 6 * k + 5 → f3 j = f2 j) (e3' : f3 (6 * k + 5) = 0) : grF c x f3 n m (k + 1) := by
  obtain ⟨f0, a, b, d⟩ := h
  refine ⟨f0, a, fun j hj => ?_, fun r hr => ?_⟩
  · rw [e3 j (by omega), e2 j (by omega), e1 j (by omega)]; exact b j (by omega)
  · by_cases w : r < k
    · have q := d r w
      refine ⟨?_, ?_, ?_⟩
      · rw [← q.1]
        exact tg_x (fun j hj => by rw [tg_up j hj, tg_up j hj, e3 _ (by omega), e2 _ (by omega), e1 _ (by omega)])
      · rw [e3 _ (by omega), e2 _ (by omega), e1 _ (by omega)]; exact q.2.1
      · rw [e3 _ (by omega), e2 _ (by omega), e1 _ (by omega)]; exact q.2.2
    · have er : r = k := by omega
      subst er
      refine ⟨tg_x (fun j hj => ?_), ?_, e3'⟩
      · rw [tg_up j hj, tg_ts hj, e3 _ (by omega), e2 _ (by omega)]
        by_cases v : j = (c.1 4).toNat
        · rw [if_pos v, v, e1', b _ (by omega)]
        · rw [if_neg v, e1 _ (by omega), b _ (by omega), tg_up j hj]
      · rw [e3 _ (by omega)]; exact e2'
theorem gk_z (h : c.1 4 ≤ (k : Int)) (hk : k < 4) : tg (gk c t) k = 0 := by unfold gk; rw [tg_mk k hk, if_neg (by omega)]
theorem grF_e (h : grF c x f n m m) (h0 : 0 ≤ c.1 4) (h4 : c.1 4 ≤ 3) : isB f m (sG c x n) zM := by
  obtain ⟨f0, a, -, d⟩ := h
  have ez : ∀ r, r < m → ∀ k : Nat, c.1 4 ≤ (k : Int) → k < 4 → tg (tup f0 r) k = 0 := fun r hr k h1 h2 => by
    obtain ⟨j, hj, e⟩ := (a.2.1 r hr).1
    rw [← e]; exact gk_z h1 h2
  have eT : ∀ r, r < m → tup f r = gTp c x n (tup f0 r) := fun r hr => by
    rw [(d r hr).1]; unfold gTp; rw [(a.2.1 r hr).2.1]; rfl
  refine ⟨fun r s hrs hs => ?_, fun r hr => ?_, fun t ht => ?_⟩
  · have q := a.1 r s hrs hs
    rw [tc_lt] at q ⊢
    obtain ⟨q, q1, q2, q3⟩ := q
    have hq : (q : Int) < c.1 4 := by
      by_cases w : (q : Int) < c.1 4
      · exact w
      · unfold tu at q3
        rw [ez r (by omega) q (by omega) q1, ez s hs q (by omega) q1] at q3
        omega
    refine ⟨q, q1, fun j hj => ?_, ?_⟩
    · rw [(d r (by omega)).1, (d s hs).1, tg_ts (by omega), tg_ts (by omega), if_neg (by omega), if_neg (by omega)]; exact q2 j hj
    · unfold tu at q3 ⊢
      rw [(d r (by omega)).1, (d s hs).1, tg_ts (by omega), tg_ts (by omega), if_neg (by omega), if_neg (by omega)]; exact q3
  · obtain ⟨j, hj, e⟩ := (a.2.1 r hr).1
    have y : sG c x n (tup f r) = 1 := by
      unfold sG
      exact pI_y ⟨j, hj, by rw [e]; exact (eT r hr).symm⟩
    show sG c x n (tup f r) ≠ 0 ∧ f (6 * r + 4) = sG c x n (tup f r) ∧ f (6 * r + 5) = 0
    rw [y]
    exact ⟨by decide, (d r hr).2.1, (d r hr).2.2⟩
  · have ht : sG c x n t ≠ 0 := ht
    obtain ⟨j, hj, e⟩ := pI_ne ht
    obtain ⟨r, hr, q⟩ := a.2.2 (gk c (tup x j)) ⟨j, hj, rfl⟩
    exact ⟨r, hr, by rw [eT r hr, q]; exact e⟩
end Group
