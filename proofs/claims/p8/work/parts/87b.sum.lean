/-! sums over rows -/
abbrev s0T : Tup → Int32 := fun _ => 0
def sR (κ : Tup → Tup) (α : Tup → Int32 → Int32) (f : Nat → Int32) : Nat → (Tup → Int32) → Tup → Int32
  | 0, S => S
  | i + 1, S => sAdd (sR κ α f i S) (κ (tup f i)) (α (tup f i) (f (6 * i + 4)))
theorem sR_c {κ : Tup → Tup} {α : Tup → Int32 → Int32} {f f' : Nat → Int32} {S : Tup → Int32} : ∀ n, rwA f f' n → sR κ α f n S = sR κ α f' n S
  | 0, _ => rfl
  | n + 1, h => by
    rw [sR, sR, sR_c n (fun i hi => h i (by omega)), rwS_t (h n (by omega)), h n (by omega) 4 (by omega)]
/-- what a bag has of a tuple -/
def bS (f : Nat → Int32) : Nat → Tup → Int32
  | 0, _ => 0
  | i + 1, t => if tup f i = t then f (6 * i + 4) else bS f i t
theorem bS_c {f f' : Nat → Int32} {t : Tup} : ∀ n, rwA f f' n → bS f n t = bS f' n t
  | 0, _ => rfl
  | n + 1, h => by
    rw [bS, bS, bS_c n (fun i hi => h i (by omega)), rwS_t (h n (by omega)), h n (by omega) 4 (by omega)]
theorem bS_n {f : Nat → Int32} {t : Tup} : ∀ n, (∀ i, i < n → tup f i ≠ t) → bS f n t = 0
  | 0, _ => rfl
  | n + 1, h => by rw [bS, if_neg (h n (by omega)), bS_n n (fun i hi => h i (by omega))]
theorem bS_y {f : Nat → Int32} {t : Tup} {j : Nat} : ∀ n, (∀ i, i < n → tup f i = t → i = j) → j < n → tup f j = t → bS f n t = f (6 * j + 4)
  | 0, _, h, _ => absurd h (Nat.not_lt_zero _)
  | n + 1, h, hj, e => by
    rw [bS]
    by_cases w : tup f n = t
    · rw [if_pos w, h n (by omega) w]
    · rw [if_neg w]
      have : j ≠ n := fun q => w (by rw [← q]; exact e)
      exact bS_y n (fun i hi => h i (by omega)) (by omega) e
theorem bS_W {f : Nat → Int32} {n : Nat} {P : Tup → Prop} {S M : Tup → Int32} (h : isW f n P S M) {t : Tup} (ht : P t) : bS f n t = S t := by
  obtain ⟨j, hj, e⟩ := h.2.2 t ht
  rw [bS_y n (fun i hi q => srtB_ne h.1 hi hj (q.trans e.symm)) hj e, (h.2.1 j hj).2.1, e]
theorem bS_Wn {f : Nat → Int32} {n : Nat} {P : Tup → Prop} {S M : Tup → Int32} (h : isW f n P S M) {t : Tup} (ht : ¬ P t) : bS f n t = 0 :=
  bS_n n (fun i hi e => ht (by rw [← e]; exact (h.2.1 i hi).1))
theorem bS_B {f : Nat → Int32} {n : Nat} {S M : Tup → Int32} (h : isB f n S M) : bS f n = S := funext fun t => by
  by_cases w : S t = 0
  · rw [w]; exact bS_Wn h (fun q => q w)
  · exact bS_W h w
theorem bS_s {f : Nat → Int32} {n i : Nat} (h : srtB f n) (hi : i < n) : bS f n (tup f i) = f (6 * i + 4) :=
  bS_y n (fun j hj e => srtB_ne h hj hi e) hi rfl
/-- a list of rows is a bag -/
def okB (f : Nat → Int32) (n : Nat) : Prop := srtB f n ∧ ∀ i, i < n → f (6 * i + 4) ≠ 0
theorem okB_c {f f' : Nat → Int32} {n : Nat} (e : rwA f' f n) (h : okB f n) : okB f' n := by
  have et : ∀ i, i < n → tup f' i = tup f i := fun i hi => rwS_t (e i hi)
  exact ⟨fun i j hij hj => by rw [et i (by omega), et j hj]; exact h.1 i j hij hj, fun i hi => by rw [e i hi 4 (by omega)]; exact h.2 i hi⟩
theorem okB_of {f : Nat → Int32} {n : Nat} {S M : Tup → Int32} (h : isB f n S M) : okB f n := ⟨h.1, fun i hi => by rw [(h.2.1 i hi).2.1]; exact (h.2.1 i hi).1⟩
theorem okB_at {f : Nat → Int32} {n : Nat} (h : okB f n) {t : Tup} (ht : bS f n t ≠ 0) : ∃ i, i < n ∧ tup f i = t := by
  apply Classical.byContradiction
  intro q
  exact ht (bS_n n (fun i hi e => q ⟨i, hi, e⟩))
/-- marks of a list of rows -/
def bM (f : Nat → Int32) : Nat → Tup → Int32
  | 0, _ => 0
  | i + 1, t => if tup f i = t then f (6 * i + 5) else bM f i t
theorem bM_y {f : Nat → Int32} {t : Tup} {j : Nat} : ∀ n, (∀ i, i < n → tup f i = t → i = j) → j < n → tup f j = t → bM f n t = f (6 * j + 5)
  | 0, _, h, _ => absurd h (Nat.not_lt_zero _)
  | n + 1, h, hj, e => by
    rw [bM]
    by_cases w : tup f n = t
    · rw [if_pos w, h n (by omega) w]
    · rw [if_neg w]
      have : j ≠ n := fun q => w (by rw [← q]; exact e)
      exact bM_y n (fun i hi => h i (by omega)) (by omega) e
theorem okB_B {f : Nat → Int32} {n : Nat} (h : okB f n) : isB f n (bS f n) (bM f n) := by
  refine ⟨h.1, fun i hi => ?_, fun t ht => okB_at h ht⟩
  have e := bS_s h.1 hi
  refine ⟨?_, e.symm, (bM_y n (fun j hj e => srtB_ne h.1 hj hi e) hi rfl).symm⟩
  show bS f n (tup f i) ≠ 0
  rw [e]; exact h.2 i hi
/-- sums by a bag's own tuples -/
theorem sR_n {α : Tup → Int32 → Int32} {f : Nat → Int32} {S : Tup → Int32} {t : Tup} : ∀ i, (∀ j, j < i → tup f j ≠ t) → sR id α f i S t = S t
  | 0, _ => rfl
  | i + 1, h => by
    rw [sR, sAdd_k (show t ≠ id (tup f i) from fun e => h i (by omega) e.symm)]
    exact sR_n i (fun j hj => h j (by omega))
theorem sR_y {α : Tup → Int32 → Int32} {f : Nat → Int32} {S : Tup → Int32} {n k : Nat} (hs : srtB f n) : ∀ i, i ≤ n → k < i → sR id α f i S (tup f k) = S (tup f k) + α (tup f k) (f (6 * k + 4))
  | 0, _, h => absurd h (Nat.not_lt_zero _)
  | i + 1, hn, h => by
    rw [sR]
    by_cases w : k = i
    · subst w
      have e : sAdd (sR id α f k S) (id (tup f k)) (α (tup f k) (f (6 * k + 4))) (tup f k) = sR id α f k S (tup f k) + α (tup f k) (f (6 * k + 4)) := sAdd_s
      rw [e, sR_n k (fun j hj e => absurd (srtB_ne hs (by omega) (by omega) e) (by omega))]
    · rw [sAdd_k (show tup f k ≠ id (tup f i) from fun e => w (srtB_ne hs (by omega) (by omega) e))]
      exact sR_y hs i (by omega) (by omega)
theorem sR_all {α : Tup → Int32 → Int32} {f : Nat → Int32} {n : Nat} {S : Tup → Int32} (h : okB f n) (h0 : ∀ t, α t 0 = 0) : sR id α f n S = fun t => S t + α t (bS f n t) := funext fun t => by
  by_cases w : ∃ i, i < n ∧ tup f i = t
  · obtain ⟨i, hi, e⟩ := w
    subst e
    rw [sR_y h.1 n (Nat.le_refl _) hi, bS_s h.1 hi]
  · rw [sR_n n (fun j hj e => w ⟨j, hj, e⟩), bS_n n (fun j hj e => w ⟨j, hj, e⟩), h0, Int32.add_zero]
/-! a row comes behind all -/
def apP (f f' o : Nat → Int32) (row len x : Int) : Prop := (∀ j : Nat, (j : Int) < 6 * len → f' j = f j) ∧ (∀ t : Nat, t < 4 → f' ((6 * len).toNat + t) = o ((6 * row).toNat + t)) ∧ f' ((6 * len).toNat + 4) = iI x ∧ f' ((6 * len).toNat + 5) = 0
theorem ap_p {f f2 f3 f4 o : Nat → Int32} {row len x : Int} (h0 : 0 ≤ len) (h1 : 0 ≤ row) (e2 : f2 = va_cpy o f (row * 6).toNat (len * 6).toNat (4 : Int).toNat) (e3 : ∀ j : Nat, j ≠ (len * 6 + 5).toNat → f3 j = f2 j) (e3' : f3 (len * 6 + 5).toNat = 0) (e4 : ∀ j : Nat, j ≠ (len * 6 + 4).toNat → f4 j = f3 j) (e4' : f4 (len * 6 + 4).toNat = iI x) : apP f f4 o row len x := by
  refine ⟨fun j hj => ?_, fun t ht => ?_, ?_, ?_⟩
  · rw [e4 j (by omega), e3 j (by omega), e2]
    unfold va_cpy
    rw [if_neg (by omega)]
  · rw [e4 _ (by omega), e3 _ (by omega), e2]
    unfold va_cpy
    rw [if_pos ⟨by omega, by omega⟩, show (row * 6).toNat + ((6 * len).toNat + t - (len * 6).toNat) = (6 * row).toNat + t by omega]
  · rw [show (6 * len).toNat + 4 = (len * 6 + 4).toNat by omega]; exact e4'
  · rw [e4 _ (by omega), show (6 * len).toNat + 5 = (len * 6 + 5).toNat by omega]; exact e3'
theorem ap_W {f f' o : Nat → Int32} {row len x : Int} {n : Nat} (h : apP f f' o row len x) (hl : len = (n : Int)) (h1 : 0 ≤ row) : insW f f' n n (tup o row.toNat) (iI x) 0 := by
  obtain ⟨a, b, c, d⟩ := h
  have e6 : (6 * len).toNat = 6 * n := by omega
  have e7 : (6 * row).toNat = 6 * row.toNat := by omega
  rw [e6] at c d
  refine ⟨fun i hi j hj => a _ (by omega), ⟨tg_x (fun k hk => ?_), c, d⟩, fun i hi hl => absurd hl (by omega)⟩
  have q := b k hk
  rw [e6, e7] at q
  rw [tg_up k hk, tg_up k hk]; exact q
theorem isB_ap {f f' : Nat → Int32} {n : Nat} {S : Tup → Int32} {t : Tup} {c : Int32} (a : isB f n S zM) (h : ∀ i, i < n → tc (tup f i) t = -1) (e : insW f f' n n t c 0) (hc : c ≠ 0) : isB f' (n + 1) (sAdd S t c) zM := by
  have hat : atW f n n t := ⟨Nat.le_refl _, h, fun i hi hl => absurd hl (by omega)⟩
  have q := isW_ins a hat e
  have s0 : S t = 0 := Classical.byContradiction q.1
  refine isW_q q.2 (fun s => ?_) (fun s _ => by rw [sAdd_up, s0, Int32.zero_add]) (fun s _ => ?_)
  · show sAdd S t c s ≠ 0 ↔ pAdd (fun t => S t ≠ 0) t s
    by_cases w : s = t
    · rw [w, sAdd_s, s0, Int32.zero_add]; exact ⟨fun _ => Or.inl rfl, fun _ => hc⟩
    · rw [sAdd_k w]; exact ⟨fun e => Or.inr e, fun e => e.resolve_left w⟩
  · by_cases w : s = t
    · rw [w, tUp_s]
    · rw [tUp_k w]
/-! two bags together: i rows of a, j of b are done, m rows are out -/
def gaI (a b f : Nat → Int32) (na nb i j m : Nat) (S : Tup → Int32) : Prop :=
  srtB f m ∧ (∀ r : Nat, r < m → f (6 * r + 4) = S (tup f r) ∧ S (tup f r) ≠ 0 ∧ f (6 * r + 5) = 0) ∧ (∀ r k : Nat, r < m → i ≤ k → k < na → tc (tup f r) (tup a k) = -1) ∧ (∀ r k : Nat, r < m → j ≤ k → k < nb → tc (tup f r) (tup b k) = -1) ∧
  (∀ t : Tup, S t ≠ 0 → (∃ r : Nat, r < m ∧ tup f r = t) ∨ (∃ k : Nat, i ≤ k ∧ k < na ∧ tup a k = t) ∨ (∃ k : Nat, j ≤ k ∧ k < nb ∧ tup b k = t)) ∧
  (∀ k l : Nat, k < j → i ≤ l → l < na → tc (tup b k) (tup a l) = -1) ∧ (∀ k l : Nat, k < i → j ≤ l → l < nb → tc (tup a k) (tup b l) = -1)
/-- the head t is passed -/
def gaT (a b : Nat → Int32) (na nb i j i' j' : Nat) (t : Tup) : Prop :=
  (i' = i ∨ (i' = i + 1 ∧ i < na ∧ tup a i = t)) ∧ (j' = j ∨ (j' = j + 1 ∧ j < nb ∧ tup b j = t)) ∧ (∀ k, i' ≤ k → k < na → tc t (tup a k) = -1) ∧ (∀ k, j' ≤ k → k < nb → tc t (tup b k) = -1) ∧ (i' = i + 1 ∨ j' = j + 1)
section Gather
variable {a b f f' : Nat → Int32} {na nb i j i' j' m : Nat} {S : Tup → Int32} {sg : Int32} {t : Tup} {c : Int32}
theorem ga_0 (hA : okB a na) (hB : okB b nb) (hS : ∀ t, S t = bS a na t + sg * bS b nb t) : gaI a b f na nb 0 0 0 S := by
  refine ⟨fun i j _ h => absurd h (Nat.not_lt_zero j), fun r h => absurd h (Nat.not_lt_zero r), fun r k h => absurd h (Nat.not_lt_zero r), fun r k h => absurd h (Nat.not_lt_zero r), fun t ht => ?_, fun k l h => absurd h (Nat.not_lt_zero k), fun k l h => absurd h (Nat.not_lt_zero k)⟩
  by_cases q : bS a na t = 0
  · by_cases w : bS b nb t = 0
    · rw [hS, q, w, Int32.mul_zero, Int32.add_zero] at ht; exact absurd rfl ht
    · obtain ⟨k, hk, e⟩ := okB_at hB w
      exact Or.inr (Or.inr ⟨k, Nat.zero_le _, hk, e⟩)
  · obtain ⟨k, hk, e⟩ := okB_at hA q
    exact Or.inr (Or.inl ⟨k, Nat.zero_le _, hk, e⟩)
/-- at the end the rows out are the bag -/
theorem ga_e (h : gaI a b f na nb i j m S) (hi : na ≤ i) (hj : nb ≤ j) : isB f m S zM := by
  obtain ⟨h1, h2, -, -, h5, -, -⟩ := h
  refine ⟨h1, fun r hr => ⟨(h2 r hr).2.1, (h2 r hr).1, (h2 r hr).2.2⟩, fun t ht => ?_⟩
  rcases h5 t ht with q | ⟨k, a1, a2, _⟩ | ⟨k, a1, a2, _⟩
  · exact q
  · exact absurd a2 (by omega)
  · exact absurd a2 (by omega)
theorem ga_lt (h : gaI a b f na nb i j m S) (ht : gaT a b na nb i j i' j' t) : ∀ r, r < m → tc (tup f r) t = -1 := fun r hr => by
  obtain ⟨t1, t2, -, -, t5⟩ := ht
  rcases t5 with e | e
  · rcases t1 with q | ⟨_, q, rfl⟩
    · omega
    · exact h.2.2.1 r i hr (Nat.le_refl _) q
  · rcases t2 with q | ⟨_, q, rfl⟩
    · omega
    · exact h.2.2.2.1 r j hr (Nat.le_refl _) q
theorem ga_ord (hA : okB a na) (hB : okB b nb) (h : gaI a b f na nb i j m S) (ht : gaT a b na nb i j i' j' t) :
    (∀ k l : Nat, k < j' → i' ≤ l → l < na → tc (tup b k) (tup a l) = -1) ∧ (∀ k l : Nat, k < i' → j' ≤ l → l < nb → tc (tup a k) (tup b l) = -1) := by
  obtain ⟨t1, t2, t3, t4, t5⟩ := ht
  obtain ⟨-, -, -, -, -, h6, h7⟩ := h
  refine ⟨fun k l hk hl hn => ?_, fun k l hk hl hn => ?_⟩
  · by_cases w : k < j
    · exact h6 k l w (by omega) hn
    · rcases t2 with q | ⟨q, q1, q2⟩
      · omega
      · rw [show k = j by omega, q2]; exact t3 l hl hn
  · by_cases w : k < i
    · exact h7 k l w (by omega) hn
    · rcases t1 with q | ⟨q, q1, q2⟩
      · omega
      · rw [show k = i by omega, q2]; exact t4 l hl hn
theorem ga_skip (hA : okB a na) (hB : okB b nb) (h : gaI a b f na nb i j m S) (ht : gaT a b na nb i j i' j' t) (h0 : S t = 0) : gaI a b f na nb i' j' m S := by
  have ho := ga_ord hA hB h ht
  obtain ⟨t1, t2, t3, t4, t5⟩ := ht
  obtain ⟨h1, h2, h3, h4, h5, -, -⟩ := h
  refine ⟨h1, h2, fun r k hr hk hn => h3 r k hr (by omega) hn, fun r k hr hk hn => h4 r k hr (by omega) hn, fun s hs => ?_, ho.1, ho.2⟩
  have ne : s ≠ t := fun e => hs (by rw [e]; exact h0)
  rcases h5 s hs with q | ⟨k, k1, k2, k3⟩ | ⟨k, k1, k2, k3⟩
  · exact Or.inl q
  · by_cases w : i' ≤ k
    · exact Or.inr (Or.inl ⟨k, w, k2, k3⟩)
    · rcases t1 with q | ⟨q, q1, q2⟩
      · omega
      · exact absurd (by rw [← k3, ← q2, show k = i by omega]) ne
  · by_cases w : j' ≤ k
    · exact Or.inr (Or.inr ⟨k, w, k2, k3⟩)
    · rcases t2 with q | ⟨q, q1, q2⟩
      · omega
      · exact absurd (by rw [← k3, ← q2, show k = j by omega]) ne
theorem ga_app (hA : okB a na) (hB : okB b nb) (h : gaI a b f na nb i j m S) (ht : gaT a b na nb i j i' j' t) (h0 : S t ≠ 0) (e : insW f f' m m t (S t) 0) : gaI a b f' na nb i' j' (m + 1) S := by
  have ho := ga_ord hA hB h ht
  have hlt := ga_lt h ht
  obtain ⟨t1, t2, t3, t4, t5⟩ := ht
  obtain ⟨h1, h2, h3, h4, h5, -, -⟩ := h
  obtain ⟨e1, e2, -⟩ := e
  have r1 : ∀ r, r < m → tup f' r = tup f r := fun r hr => rwS_t (e1 r hr)
  refine ⟨fun r s hrs hs => ?_, fun r hr => ?_, fun r k hr hk hn => ?_, fun r k hr hk hn => ?_, fun s hs => ?_, ho.1, ho.2⟩
  · by_cases w : s < m
    · rw [r1 r (by omega), r1 s w]; exact h1 r s hrs w
    · rw [show s = m by omega, e2.1, r1 r (by omega)]; exact hlt r (by omega)
  · by_cases w : r < m
    · rw [r1 r w, e1 r w 4 (by omega), e1 r w 5 (by omega)]; exact h2 r w
    · rw [show r = m by omega, e2.1]; exact ⟨e2.2.1, h0, e2.2.2⟩
  · by_cases w : r < m
    · rw [r1 r w]; exact h3 r k w (by omega) hn
    · rw [show r = m by omega, e2.1]; exact t3 k hk hn
  · by_cases w : r < m
    · rw [r1 r w]; exact h4 r k w (by omega) hn
    · rw [show r = m by omega, e2.1]; exact t4 k hk hn
  · rcases h5 s hs with ⟨r, hr, q⟩ | ⟨k, k1, k2, k3⟩ | ⟨k, k1, k2, k3⟩
    · exact Or.inl ⟨r, by omega, (r1 r hr).trans q⟩
    · by_cases w : i' ≤ k
      · exact Or.inr (Or.inl ⟨k, w, k2, k3⟩)
      · rcases t1 with q | ⟨q, q1, q2⟩
        · omega
        · exact Or.inl ⟨m, by omega, by rw [e2.1, ← q2, ← k3, show k = i by omega]⟩
    · by_cases w : j' ≤ k
      · exact Or.inr (Or.inr ⟨k, w, k2, k3⟩)
      · rcases t2 with q | ⟨q, q1, q2⟩
        · omega
        · exact Or.inl ⟨m, by omega, by rw [e2.1, ← q2, ← k3, show k = j by omega]⟩
theorem ga_big (h : gaI a b f na nb i j m S) (ht : gaT a b na nb i j i' j' t) (h0 : S t ≠ 0) : bigP m (fun t => S t ≠ 0) :=
  bigP_of h.1 (fun r hr => (h.2.1 r hr).2.1) h0 (fun r hr => tc_ne (ga_lt h ht r hr))
/-- the head of a alone, of b alone, of both -/
theorem ga_a (hA : okB a na) (hB : okB b nb) (hS : ∀ t, S t = bS a na t + sg * bS b nb t) (h : gaI a b f na nb i j m S) (hi : i < na) (hj : j < nb → tc (tup a i) (tup b j) = -1) : gaT a b na nb i j (i + 1) j (tup a i) ∧ S (tup a i) = a (6 * i + 4) := by
  have up : ∀ k, j ≤ k → k < nb → tc (tup a i) (tup b k) = -1 := fun k hk hn => by
    have q := hj (by omega)
    by_cases w : k = j
    · rw [w]; exact q
    · exact tc_t (b := tup b j) (by rw [q]; decide) (srtB_le hB.1 hk hn) (Or.inl (by rw [q]; decide))
  refine ⟨⟨Or.inr ⟨rfl, hi, rfl⟩, Or.inl rfl, fun k hk hn => hA.1 i k (by omega) hn, up, Or.inl rfl⟩, ?_⟩
  rw [hS, bS_s hA.1 hi, bS_n nb (fun k hk e => ?_), Int32.mul_zero, Int32.add_zero]
  by_cases w : k < j
  · exact tc_ne (h.2.2.2.2.2.1 k i w (Nat.le_refl _) hi) e
  · exact tc_ne (up k (by omega) hk) e.symm
theorem ga_b (hA : okB a na) (hB : okB b nb) (hS : ∀ t, S t = bS a na t + sg * bS b nb t) (h : gaI a b f na nb i j m S) (hj : j < nb) (hi : i < na → tc (tup a i) (tup b j) = 1) : gaT a b na nb i j i (j + 1) (tup b j) ∧ S (tup b j) = sg * b (6 * j + 4) := by
  have up : ∀ k, i ≤ k → k < na → tc (tup b j) (tup a k) = -1 := fun k hk hn => by
    have q := hi (by omega)
    have q' : tc (tup b j) (tup a i) = -1 := by rw [tc_s, q]
    by_cases w : k = i
    · rw [w]; exact q'
    · exact tc_t (b := tup a i) (by rw [q']; decide) (srtB_le hA.1 hk hn) (Or.inl (by rw [q']; decide))
  refine ⟨⟨Or.inl rfl, Or.inr ⟨rfl, hj, rfl⟩, up, fun k hk hn => hB.1 j k (by omega) hn, Or.inr rfl⟩, ?_⟩
  rw [hS, bS_s hB.1 hj, bS_n na (fun k hk e => ?_), Int32.zero_add]
  by_cases w : k < i
  · exact tc_ne (h.2.2.2.2.2.2 k j w (Nat.le_refl _) hj) e
  · exact tc_ne (up k (by omega) hk) e.symm
theorem ga_ab (hA : okB a na) (hB : okB b nb) (hS : ∀ t, S t = bS a na t + sg * bS b nb t) (hi : i < na) (hj : j < nb) (e : tc (tup a i) (tup b j) = 0) : gaT a b na nb i j (i + 1) (j + 1) (tup a i) ∧ S (tup a i) = a (6 * i + 4) + sg * b (6 * j + 4) := by
  have e := tc_0.mp e
  refine ⟨⟨Or.inr ⟨rfl, hi, rfl⟩, Or.inr ⟨rfl, hj, e.symm⟩, fun k hk hn => hA.1 i k (by omega) hn, fun k hk hn => by rw [e]; exact hB.1 j k (by omega) hn, Or.inl rfl⟩, ?_⟩
  rw [hS, bS_s hA.1 hi, e, bS_s hB.1 hj]
/-- two bags together are no more than both -/
theorem ga_cnt {L : Nat} (hA : okB a na) (hB : okB b nb) (h : bigP L (fun t => bS a na t + sg * bS b nb t ≠ 0)) : L < na + nb := by
  obtain ⟨g, g1, g2⟩ := h
  have q : ∀ i, ∃ k, i ≤ L → (k < na ∧ tup a k = g i) ∨ (na ≤ k ∧ k < na + nb ∧ tup b (k - na) = g i) := fun i => by
    by_cases w : i ≤ L
    · by_cases z : bS a na (g i) = 0
      · by_cases z2 : bS b nb (g i) = 0
        · exact absurd (by rw [z, z2, Int32.mul_zero, Int32.add_zero]) (g2 i w)
        · obtain ⟨k, hk, e⟩ := okB_at hB z2
          exact ⟨na + k, fun _ => Or.inr ⟨by omega, by omega, by rw [show na + k - na = k by omega]; exact e⟩⟩
      · obtain ⟨k, hk, e⟩ := okB_at hA z
        exact ⟨k, fun _ => Or.inl ⟨hk, e⟩⟩
    · exact ⟨0, fun h => absurd h w⟩
  have := php (na + nb) (L + 1) (fun i => (q i).choose) (fun i hi => by
    rcases (q i).choose_spec (by omega) with ⟨w, _⟩ | ⟨_, w, _⟩
    · show (q i).choose < _
      omega
    · exact w) (fun i j hij hj e => by
    have e : (q i).choose = (q j).choose := e
    rcases (q i).choose_spec (by omega) with ⟨w, x⟩ | ⟨w, w', x⟩
    · rcases (q j).choose_spec (by omega) with ⟨v, y⟩ | ⟨v, v', y⟩
      · exact g1 i j hij (by omega) (by rw [← x, ← y, e])
      · omega
    · rcases (q j).choose_spec (by omega) with ⟨v, y⟩ | ⟨v, v', y⟩
      · omega
      · exact g1 i j hij (by omega) (by rw [← x, ← y, e]))
  omega
end Gather
/-- a choice by a condition -/
noncomputable def pI (p : Prop) (a b : Int32) : Int32 := @ite _ p (Classical.propDecidable p) a b
theorem pI_y {p : Prop} {a b : Int32} (h : p) : pI p a b = a := @if_pos _ (Classical.propDecidable p) h _ _ _
theorem pI_n {p : Prop} {a b : Int32} (h : ¬ p) : pI p a b = b := @if_neg _ (Classical.propDecidable p) h _ _ _
