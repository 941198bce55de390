section
/-! what a line of a plan says. c.1: 0 kind, 1 columns, 2 first, 3 second, 4 parts, 5 and 6 the columns of first and second, 7 and 8 the pair of a ring, 9 fold, 10 its column; c.2 k w: part k -/
abbrev LC : Type := (Nat → Int) × (Nat → Nat → Int)
abbrev RF : Type := Nat → Nat × (Nat → Int32)
def tst3 (v s w : Int) : Prop := if s = 61 then v = w else if s = 60 then v < w else w < v
section Spec
variable (c : LC)
def tstP (k : Nat) (t : Tup) : Prop := tst3 (tu t (c.2 k 0).toNat) (c.2 k 1) (if c.2 k 2 = -1 then c.2 k 3 else tu t (c.2 k 2).toNat)
def hldP (t : Tup) : Prop := ∀ k : Nat, (k : Int) < c.1 4 → tstP c k t
def trm (h : Nat → Int32) (k : Nat) : Int32 := (if c.2 k 0 = -1 then 0 else h (c.2 k 0).toNat) + iI (c.2 k 1)
def trT (h : Nat → Int32) : Tup := tmk (fun k => if (k : Int) < c.1 4 then trm c h k else 0)
/-- a tuple of a ring and one of its second relation side by side -/
def sdH (t u : Tup) : Nat → Int32 := fun k => if (k : Int) < c.1 5 then tg t k else tg u (k - (c.1 5).toNat)
def vK (t : Tup) : Tup := if c.1 0 = 2 then trT c (tg t) else t
noncomputable def vA (t : Tup) (a : Int32) : Int32 := if c.1 0 = 1 then pI (hldP c t) a 0 else if c.1 0 = 6 then pI (0 < a.toInt) 1 0 else a
/-! joins -/
def tld (d : Nat) : Prop := ∃ k : Nat, (k : Int) < c.1 4 ∧ c.2 k 1 = (d : Int)
def alk (t u : Tup) : Prop := ∀ k : Nat, (k : Int) < c.1 4 → tg t (c.2 k 0).toNat = tg u (c.2 k 1).toNat
noncomputable def pN1 (p : Prop) : Nat := @ite _ p (Classical.propDecidable p) 1 0
noncomputable def jc : Nat → Nat
  | 0 => 0
  | d + 1 => jc d + pN1 (¬ tld c d)
noncomputable def jat (u : Tup) : Nat → Nat → Int32
  | 0, _ => 0
  | d + 1, q => pI (¬ tld c d ∧ jc c d = q) (tg u d) (jat u d q)
noncomputable def jn (t u : Tup) : Tup := tmk (fun k => if (k : Int) < c.1 5 then tg t k else jat c u (c.1 6).toNat (k - (c.1 5).toNat))
noncomputable def sJ1 (t : Tup) (a : Int32) (y : Nat → Int32) (m : Nat) (S : Tup → Int32) : Tup → Int32 := sR (jn c t) (fun u b => pI (alk c t u) (a * b) 0) y m S
noncomputable def sJ (x y : Nat → Int32) (m : Nat) : Nat → Tup → Int32
  | 0 => s0T
  | i + 1 => sJ1 c (tup x i) (x (6 * i + 4)) y m (sJ x y m i)
noncomputable def pC (t : Tup) (y : Nat → Int32) : Nat → Nat
  | 0 => 0
  | j + 1 => pC t y j + pN1 (alk c t (tup y j))
noncomputable def pJ (x y : Nat → Int32) (m : Nat) : Nat → Nat
  | 0 => 0
  | i + 1 => pJ x y m i + pC c (tup x i) y m
/-! groups -/
def gk (t : Tup) : Tup := tmk (fun k => if (k : Int) < c.1 4 then tg t (c.2 k 0).toNat else 0)
def fS (s : Int32 × Int32) (v a : Int32) : Int32 × Int32 :=
  if c.1 9 = 0 then (s.1, s.2 + a) else if c.1 9 = 1 then (s.1, s.2 + a * v)
  else if 0 < a.toInt then (1, if s.1 = 0 ∨ (c.1 9 = 2 ∧ v.toInt < s.2.toInt) ∨ (c.1 9 ≠ 2 ∧ s.2.toInt < v.toInt) then v else s.2) else s
def gF (f : Nat → Int32) (u : Tup) : Nat → Int32 × Int32
  | 0 => (0, 0)
  | i + 1 => if gk c (tup f i) = u then fS c (gF f u i) (tg (tup f i) (c.1 10).toNat) (f (6 * i + 4)) else gF f u i
def tset (t : Tup) (k : Nat) (v : Int32) : Tup := tmk (fun j => if j = k then v else tg t j)
def gTp (f : Nat → Int32) (n : Nat) (u : Tup) : Tup := tset u (c.1 4).toNat (gF c f u n).2
noncomputable def sG (f : Nat → Int32) (n : Nat) : Tup → Int32 := fun t => pI (∃ i, i < n ∧ gTp c f n (gk c (tup f i)) = t) 1 0
/-! rings -/
def rGo (y : Nat → Int32) (m : Nat) (t s : Tup) : Prop := ∃ j, j < m ∧ 0 < (y (6 * j + 4)).toInt ∧ tg t (c.1 7).toNat = tg (tup y j) (c.1 8).toNat ∧ trT c (sdH c t (tup y j)) = s
/-- of a round: what is new, what came so far -/
def rS (x : Nat → Int32) (n : Nat) (y : Nat → Int32) (m : Nat) : Nat → (Tup → Prop) × (Tup → Prop)
  | 0 => (fun s => ∃ i, i < n ∧ 0 < (x (6 * i + 4)).toInt ∧ tup x i = s, fun s => ∃ i, i < n ∧ 0 < (x (6 * i + 4)).toInt ∧ tup x i = s)
  | r + 1 => (fun s => (∃ t, (rS x n y m r).1 t ∧ rGo c y m t s) ∧ ¬ (rS x n y m r).2 s, fun s => (rS x n y m r).2 s ∨ ((∃ t, (rS x n y m r).1 t ∧ rGo c y m t s) ∧ ¬ (rS x n y m r).2 s))
def rgY (x : Nat → Int32) (n : Nat) (y : Nat → Int32) (m : Nat) (R : Nat) (f : Nat → Int32) (k : Nat) : Prop :=
  R ≤ 40 ∧ (∀ t, ¬ (rS c x n y m (R + 1)).1 t) ∧ (R = 0 ∨ ∃ t, (rS c x n y m R).1 t) ∧ k ≤ 120 ∧ ∃ M, isW f k (rS c x n y m R).2 (fun _ => 1) M ∧ ∀ q t, q ≤ R → (rS c x n y m q).1 t → M t = iI (q : Int)
def rgP (x : Nat → Int32) (n : Nat) (y : Nat → Int32) (m : Nat) (z : Int) (f : Nat → Int32) (k : Nat) : Prop :=
  (z = 0 ∧ ∃ R, rgY c x n y m R f k) ∨ (z = -3 ∧ ∃ q, q ≤ 40 ∧ bigP 120 (rS c x n y m q).2) ∨ (z = -4 ∧ (∃ t, (rS c x n y m 41).1 t) ∧ ¬ bigP 120 (rS c x n y m 40).2)
/-! a view -/
noncomputable def vS (F : RF) : Tup → Int32 :=
  if c.1 0 = 3 then sJ c (F (c.1 2).toNat).2 (F (c.1 3).toNat).2 (F (c.1 3).toNat).1 (F (c.1 2).toNat).1
  else if c.1 0 = 4 then fun t => bS (F (c.1 2).toNat).2 (F (c.1 2).toNat).1 t + iI 1 * bS (F (c.1 3).toNat).2 (F (c.1 3).toNat).1 t
  else if c.1 0 = 5 then fun t => bS (F (c.1 2).toNat).2 (F (c.1 2).toNat).1 t + iI (-1) * bS (F (c.1 3).toNat).2 (F (c.1 3).toNat).1 t
  else if c.1 0 = 7 then sG c (F (c.1 2).toNat).2 (F (c.1 2).toNat).1
  else sR (vK c) (vA c) (F (c.1 2).toNat).2 (F (c.1 2).toNat).1 s0T
def vMany (F : RF) : Prop := c.1 0 = 3 ∧ 1500 < pJ c (F (c.1 2).toNat).2 (F (c.1 3).toNat).2 (F (c.1 3).toNat).1 (F (c.1 2).toNat).1
def vwP (F : RF) (z : Int) (f : Nat → Int32) (k : Nat) : Prop :=
  if c.1 0 = 8 then rgP c (F (c.1 2).toNat).2 (F (c.1 2).toNat).1 (F (c.1 3).toNat).2 (F (c.1 3).toNat).1 z f k
  else (z = 0 ∧ ¬ vMany c F ∧ isB f k (vS c F) zM ∧ k ≤ 120) ∨ (z = -3 ∧ (vMany c F ∨ bigP 120 (fun t => vS c F t ≠ 0)))
end Spec
section Det
variable {c : LC} {x y f f' : Nat → Int32} {n m k k' R R' : Nat} {F : RF} {z z' : Int} {t u : Tup}
theorem pN1_y {p : Prop} (h : p) : pN1 p = 1 := @if_pos _ (Classical.propDecidable p) h _ _ _
theorem pN1_n {p : Prop} (h : ¬ p) : pN1 p = 0 := @if_neg _ (Classical.propDecidable p) h _ _ _
/-- no round behind one without new ones brings any -/
theorem rS_no (h : ∀ t, ¬ (rS c x n y m R).1 t) : ∀ d, ∀ t, ¬ (rS c x n y m (R + d)).1 t
  | 0 => h
  | d + 1 => fun t ht => by
    obtain ⟨⟨s, hs, _⟩, _⟩ := ht
    exact rS_no h d s hs
theorem rS_le : ∀ (d : Nat) (t : Tup), (rS c x n y m R).2 t → (rS c x n y m (R + d)).2 t
  | 0, _, h => h
  | d + 1, t, h => Or.inl (rS_le d t h)
theorem rS_lt {q : Nat} (h : q ≤ R) (t : Tup) (ht : (rS c x n y m q).2 t) : (rS c x n y m R).2 t := by
  have := rS_le (R - q) t ht
  rwa [show q + (R - q) = R by omega] at this
theorem rS_new : ∀ (q : Nat) (t : Tup), (rS c x n y m q).1 t → (rS c x n y m q).2 t
  | 0, _, h => h
  | _ + 1, _, h => Or.inr h
/-- what came so far came in one of the rounds -/
theorem rS_at : ∀ (R : Nat) (t : Tup), (rS c x n y m R).2 t → ∃ q, q ≤ R ∧ (rS c x n y m q).1 t
  | 0, t, h => ⟨0, Nat.le_refl _, h⟩
  | R + 1, t, h => by
    rcases h with h | h
    · obtain ⟨q, hq, e⟩ := rS_at R t h
      exact ⟨q, by omega, e⟩
    · exact ⟨R + 1, Nat.le_refl _, h⟩
/-- when no new ones come, what came stays -/
theorem rS_end (h : ∀ t, ¬ (rS c x n y m (R + 1)).1 t) : ∀ (q : Nat) (t : Tup), (rS c x n y m q).2 t → (rS c x n y m R).2 t := fun q t ht => by
  by_cases w : q ≤ R
  · exact rS_lt w t ht
  · obtain ⟨p, hp, e⟩ := rS_at q t ht
    by_cases v : p ≤ R
    · exact rS_lt v t (rS_new p t e)
    · have := rS_no h (p - (R + 1)) t
      rw [show R + 1 + (p - (R + 1)) = p by omega] at this
      exact absurd e this
theorem rgY_u (a : rgY c x n y m R f k) (b : rgY c x n y m R' f' k') : R = R' ∧ k = k' ∧ rwA f f' k := by
  obtain ⟨a1, a2, a3, a4, M, a5, a6⟩ := a
  obtain ⟨b1, b2, b3, b4, M', b5, b6⟩ := b
  have e : R = R' := by
    rcases Nat.lt_trichotomy R R' with w | w | w
    · rcases b3 with q | ⟨t, q⟩
      · omega
      · have := rS_no a2 (R' - (R + 1)) t
        rw [show R + 1 + (R' - (R + 1)) = R' by omega] at this
        exact absurd q this
    · exact w
    · rcases a3 with q | ⟨t, q⟩
      · omega
      · have := rS_no b2 (R - (R' + 1)) t
        rw [show R' + 1 + (R - (R' + 1)) = R by omega] at this
        exact absurd q this
  subst e
  have q := isW_u a5 b5 (fun _ _ => rfl) (fun t ht => by
    obtain ⟨q, hq, e⟩ := rS_at R t ht
    rw [a6 q t hq e, b6 q t hq e])
  exact ⟨rfl, q⟩
theorem rgP_u (a : rgP c x n y m z f k) (b : rgP c x n y m z' f' k') : z = z' ∧ (z = 0 → k = k' ∧ rwA f f' k) := by
  have yn : ∀ {f : Nat → Int32} {k : Nat}, (∃ R, rgY c x n y m R f k) → (∃ q, q ≤ 40 ∧ bigP 120 (rS c x n y m q).2) → False := fun {f k} ⟨R, h1, h2, h3, h4, M, h5, _⟩ ⟨q, _, hb⟩ => by
    have := isW_big h5 (bigP_m hb (rS_end h2 q))
    omega
  have yr : ∀ {f : Nat → Int32} {k : Nat}, (∃ R, rgY c x n y m R f k) → (∃ t, (rS c x n y m 41).1 t) → False := fun {f k} ⟨R, h1, h2, _⟩ ⟨t, ht⟩ => by
    have := rS_no h2 (40 - R) t
    rw [show R + 1 + (40 - R) = 41 by omega] at this
    exact this ht
  have nr : (∃ q, q ≤ 40 ∧ bigP 120 (rS c x n y m q).2) → ¬ bigP 120 (rS c x n y m 40).2 → False := fun ⟨q, hq, hb⟩ h => h (bigP_m hb (rS_lt hq))
  rcases a with ⟨a1, a2⟩ | ⟨a1, a2⟩ | ⟨a1, a2, a3⟩
  · rcases b with ⟨b1, b2⟩ | ⟨b1, b2⟩ | ⟨b1, b2, b3⟩
    · obtain ⟨R, a2⟩ := a2
      obtain ⟨R', b2⟩ := b2
      exact ⟨by omega, fun _ => (rgY_u a2 b2).2⟩
    · exact (yn a2 b2).elim
    · exact (yr a2 b2).elim
  · rcases b with ⟨b1, b2⟩ | ⟨b1, b2⟩ | ⟨b1, b2, b3⟩
    · exact (yn b2 a2).elim
    · exact ⟨by omega, fun h => absurd h (by omega)⟩
    · exact (nr a2 b3).elim
  · rcases b with ⟨b1, b2⟩ | ⟨b1, b2⟩ | ⟨b1, b2, b3⟩
    · exact (yr b2 a2).elim
    · exact (nr b2 a3).elim
    · exact ⟨by omega, fun h => absurd h (by omega)⟩
/-- what a view has is told by what its relations have -/
theorem vwP_u (a : vwP c F z f k) (b : vwP c F z' f' k') : z = z' ∧ (z = 0 → k = k' ∧ rwA f f' k) := by
  unfold vwP at a b
  by_cases w : c.1 0 = 8
  · rw [if_pos w] at a b; exact rgP_u a b
  · rw [if_neg w] at a b
    have no : ∀ {f : Nat → Int32} {k : Nat}, ¬ vMany c F → isB f k (vS c F) zM → k ≤ 120 → (vMany c F ∨ bigP 120 (fun t => vS c F t ≠ 0)) → False := fun {f k} h1 h2 h3 h4 => by
      rcases h4 with h4 | h4
      · exact h1 h4
      · have := isW_big h2 h4; omega
    rcases a with ⟨a1, a2, a3, a4⟩ | ⟨a1, a2⟩
    · rcases b with ⟨b1, b2, b3, b4⟩ | ⟨b1, b2⟩
      · exact ⟨by omega, fun _ => isW_u a3 b3 (fun _ _ => rfl) (fun _ _ => rfl)⟩
      · exact (no a2 a3 a4 b2).elim
    · rcases b with ⟨b1, b2, b3, b4⟩ | ⟨b1, b2⟩
      · exact (no b2 b3 b4 a2).elim
      · exact ⟨by omega, fun h => absurd h (by omega)⟩
/-! the same rows, the same view -/
def rfA (F F' : RF) (r : Nat) : Prop := (F r).1 = (F' r).1 ∧ rwA (F r).2 (F' r).2 (F r).1
theorem gF_c {f f' : Nat → Int32} {u : Tup} : ∀ n, rwA f f' n → gF c f u n = gF c f' u n
  | 0, _ => rfl
  | n + 1, h => by rw [gF, gF, gF_c n (fun i hi => h i (by omega)), rwS_t (h n (by omega)), h n (by omega) 4 (by omega)]
theorem pC_c {t : Tup} {y y' : Nat → Int32} : ∀ m, rwA y y' m → pC c t y m = pC c t y' m
  | 0, _ => rfl
  | m + 1, h => by rw [pC, pC, pC_c m (fun i hi => h i (by omega)), rwS_t (h m (by omega))]
theorem pJ_c {x x' y y' : Nat → Int32} (hy : rwA y y' m) : ∀ n, rwA x x' n → pJ c x y m n = pJ c x' y' m n
  | 0, _ => rfl
  | n + 1, h => by rw [pJ, pJ, pJ_c hy n (fun i hi => h i (by omega)), rwS_t (h n (by omega)), pC_c m hy]
theorem sJ_c {x x' y y' : Nat → Int32} (hy : rwA y y' m) : ∀ n, rwA x x' n → sJ c x y m n = sJ c x' y' m n
  | 0, _ => rfl
  | n + 1, h => by
    rw [sJ, sJ, sJ_c hy n (fun i hi => h i (by omega)), rwS_t (h n (by omega)), h n (by omega) 4 (by omega)]
    unfold sJ1
    rw [sR_c m hy]
theorem sG_c {f f' : Nat → Int32} (h : rwA f f' n) : sG c f n = sG c f' n := funext fun t => by
  have e : (∃ i, i < n ∧ gTp c f n (gk c (tup f i)) = t) ↔ ∃ i, i < n ∧ gTp c f' n (gk c (tup f' i)) = t := by
    refine ⟨fun ⟨i, hi, q⟩ => ⟨i, hi, ?_⟩, fun ⟨i, hi, q⟩ => ⟨i, hi, ?_⟩⟩
    · unfold gTp at q ⊢; rw [← gF_c n h, ← rwS_t (h i hi)]; exact q
    · unfold gTp at q ⊢; rw [gF_c n h, rwS_t (h i hi)]; exact q
  unfold sG
  rw [propext e]
theorem rS_c {x x' y y' : Nat → Int32} (hx : rwA x x' n) (hy : rwA y y' m) : ∀ r, rS c x n y m r = rS c x' n y' m r
  | 0 => by
    have e : (fun s => ∃ i, i < n ∧ 0 < (x (6 * i + 4)).toInt ∧ tup x i = s) = fun s => ∃ i, i < n ∧ 0 < (x' (6 * i + 4)).toInt ∧ tup x' i = s := funext fun s => propext ⟨fun ⟨i, hi, a, b⟩ => ⟨i, hi, by rw [← hx i hi 4 (by omega)]; exact a, by rw [← rwS_t (hx i hi)]; exact b⟩, fun ⟨i, hi, a, b⟩ => ⟨i, hi, by rw [hx i hi 4 (by omega)]; exact a, by rw [rwS_t (hx i hi)]; exact b⟩⟩
    rw [rS, rS, e]
  | r + 1 => by
    have e : ∀ t s, rGo c y m t s ↔ rGo c y' m t s := fun t s => ⟨fun ⟨j, hj, a, b, d⟩ => ⟨j, hj, by rw [← hy j hj 4 (by omega)]; exact a, by rw [← rwS_t (hy j hj)]; exact b, by rw [← rwS_t (hy j hj)]; exact d⟩, fun ⟨j, hj, a, b, d⟩ => ⟨j, hj, by rw [hy j hj 4 (by omega)]; exact a, by rw [rwS_t (hy j hj)]; exact b, by rw [rwS_t (hy j hj)]; exact d⟩⟩
    rw [rS, rS, rS_c hx hy r]
    have e2 : rGo c y m = rGo c y' m := funext fun t => funext fun s => propext (e t s)
    rw [e2]
theorem vS_c {F F' : RF} (h1 : rfA F F' (c.1 2).toNat) (h2 : rfA F F' (c.1 3).toNat) : vS c F = vS c F' := by
  unfold vS
  obtain ⟨a1, a2⟩ := h1
  obtain ⟨b1, b2⟩ := h2
  rw [sJ_c b2 _ a2, sG_c a2, sR_c _ a2, ← a1, ← b1]
  have e : ∀ t, bS (F (c.1 2).toNat).2 (F (c.1 2).toNat).1 t = bS (F' (c.1 2).toNat).2 (F (c.1 2).toNat).1 t := fun t => bS_c _ a2
  have e' : ∀ t, bS (F (c.1 3).toNat).2 (F (c.1 3).toNat).1 t = bS (F' (c.1 3).toNat).2 (F (c.1 3).toNat).1 t := fun t => bS_c _ b2
  simp only [e, e']
theorem vwP_c {F F' : RF} (h1 : rfA F F' (c.1 2).toNat) (h2 : rfA F F' (c.1 3).toNat) (h : vwP c F z f k) : vwP c F' z f k := by
  have es := vS_c h1 h2
  obtain ⟨a1, a2⟩ := h1
  obtain ⟨b1, b2⟩ := h2
  have em : vMany c F ↔ vMany c F' := by unfold vMany; rw [pJ_c b2 _ a2, a1, b1]
  unfold vwP at h ⊢
  by_cases w : c.1 0 = 8
  · rw [if_pos w] at h ⊢
    unfold rgP rgY at h ⊢
    rw [show rS c (F (c.1 2).toNat).2 (F (c.1 2).toNat).1 (F (c.1 3).toNat).2 (F (c.1 3).toNat).1 = rS c (F' (c.1 2).toNat).2 (F' (c.1 2).toNat).1 (F' (c.1 3).toNat).2 (F' (c.1 3).toNat).1 from funext fun r => by rw [rS_c a2 b2 r, a1, b1]] at h
    exact h
  · rw [if_neg w] at h ⊢
    rw [← es, ← em]; exact h
theorem vwP_f {F : RF} (e : rwA f' f k) (h : vwP c F z f k) : vwP c F z f' k := by
  unfold vwP at h ⊢
  by_cases w : c.1 0 = 8
  · rw [if_pos w] at h ⊢
    rcases h with ⟨a, R, h1, h2, h3, h4, M, h5, h6⟩ | h
    · exact Or.inl ⟨a, R, h1, h2, h3, h4, M, isW_c h5 e, h6⟩
    · exact Or.inr h
  · rw [if_neg w] at h ⊢
    rcases h with ⟨a1, a2, a3, a4⟩ | h
    · exact Or.inl ⟨a1, a2, isW_c a3 e, a4⟩
    · exact Or.inr h
end Det
end
section
/-! what a line of the class holds -/
def lnC (f P : Nat → Int32) (c : LC) : Prop :=
  ((f 0).toInt = c.1 0 ∧ (f 2).toInt = c.1 1 ∧ (f 3).toInt = c.1 2 ∧ (f 4).toInt = c.1 3) ∧
  ((c.1 0 = 1 ∨ c.1 0 = 2 ∨ c.1 0 = 3 ∨ c.1 0 = 7 ∨ c.1 0 = 8) → (f 8).toInt = c.1 4) ∧ ((c.1 0 = 3 ∨ c.1 0 = 8) → (f 5).toInt = c.1 5 ∧ (f 6).toInt = c.1 6) ∧
  (c.1 0 = 1 → ∀ k : Nat, (k : Int) < c.1 4 → (P (4 * k)).toInt = c.2 k 0 ∧ (P (4 * k + 1)).toInt = c.2 k 1 ∧ (P (4 * k + 2)).toInt = c.2 k 2 ∧ (P (4 * k + 3)).toInt = c.2 k 3) ∧
  ((c.1 0 = 2 ∨ c.1 0 = 3 ∨ c.1 0 = 8) → ∀ k : Nat, (k : Int) < c.1 4 → (P (2 * k)).toInt = c.2 k 0 ∧ (P (2 * k + 1)).toInt = c.2 k 1) ∧
  (c.1 0 = 7 → (∀ k : Nat, (k : Int) < c.1 4 → (P k).toInt = c.2 k 0) ∧ (f 11).toInt = 16 + c.1 9 ∧ (f 12).toInt = c.1 10) ∧
  (c.1 0 = 8 → (f 9).toInt = c.1 7 ∧ (f 10).toInt = c.1 8)
theorem lnC_m {f f' P P' : Nat → Int32} {c : LC} (h : lnC f P c) (e : f' = f) (e' : P' = P) : lnC f' P' c := by rw [e, e']; exact h
/-! heads of two bags -/
section Heads
variable {a b : Nat → Int32} {na nb i j v : Int}
theorem oh_lt (h0 : 0 ≤ i) (q : (na ≤ i ∧ v = 1) ∨ (i < na ∧ nb ≤ j ∧ v = -1) ∨ (i < na ∧ j < nb ∧ v = tc (tup a i.toNat) (tup b j.toNat))) (hv : v < 0) : i < na ∧ (j < nb → tc (tup a i.toNat) (tup b j.toNat) = -1) := by
  rcases q with ⟨_, q2⟩ | ⟨q1, q2, _⟩ | ⟨q1, q2, q3⟩
  · exact absurd q2 (by omega)
  · exact ⟨q1, fun h => absurd h (by omega)⟩
  · refine ⟨q1, fun _ => ?_⟩
    have := @tc_r (tup a i.toNat) (tup b j.toNat)
    omega
theorem oh_gt (h0 : 0 ≤ i) (q : (na ≤ i ∧ v = 1) ∨ (i < na ∧ nb ≤ j ∧ v = -1) ∨ (i < na ∧ j < nb ∧ v = tc (tup a i.toNat) (tup b j.toNat))) (hv : 0 < v) (hor : i < na ∨ j < nb) : j < nb ∧ (i < na → tc (tup a i.toNat) (tup b j.toNat) = 1) := by
  rcases q with ⟨q1, q2⟩ | ⟨q1, q2, q3⟩ | ⟨q1, q2, q3⟩
  · exact ⟨by omega, fun h => absurd h (by omega)⟩
  · exact absurd q3 (by omega)
  · refine ⟨q2, fun _ => ?_⟩
    have := @tc_r (tup a i.toNat) (tup b j.toNat)
    omega
theorem oh_eq (h0 : 0 ≤ i) (q : (na ≤ i ∧ v = 1) ∨ (i < na ∧ nb ≤ j ∧ v = -1) ∨ (i < na ∧ j < nb ∧ v = tc (tup a i.toNat) (tup b j.toNat))) (hv : v = 0) : i < na ∧ j < nb ∧ tc (tup a i.toNat) (tup b j.toNat) = 0 := by
  rcases q with ⟨_, q2⟩ | ⟨q1, q2, q3⟩ | ⟨q1, q2, q3⟩
  · exact absurd q2 (by omega)
  · exact absurd q3 (by omega)
  · exact ⟨q1, q2, by omega⟩
end Heads
/-- what a search told, at one place -/
theorem ga_tl {a b f : Nat → Int32} {na nb i j m : Nat} {S : Tup → Int32} {sg : Int32} {iz jz : Int} (hA : okB a na) (hB : okB b nb) (hS : ∀ t, S t = bS a na t + sg * bS b nb t) (h : gaI a b f na nb i j m S) (hi : i = iz.toNat) (hj : j = jz.toNat) (h0 : 0 ≤ iz) (h1 : 0 ≤ jz) (q : iz < (na : Int) ∧ (jz < (nb : Int) → tc (tup a iz.toNat) (tup b jz.toNat) = -1)) : gaT a b na nb i j (iz + 1).toNat j (tup a i) ∧ S (tup a i) = a (6 * i + 4) := by
  subst hi hj
  rw [show (iz + 1).toNat = iz.toNat + 1 by omega]
  exact ga_a hA hB hS h (by omega) (fun w => q.2 (by omega))
theorem ga_tg {a b f : Nat → Int32} {na nb i j m : Nat} {S : Tup → Int32} {sg : Int32} {iz jz : Int} (hA : okB a na) (hB : okB b nb) (hS : ∀ t, S t = bS a na t + sg * bS b nb t) (h : gaI a b f na nb i j m S) (hi : i = iz.toNat) (hj : j = jz.toNat) (h0 : 0 ≤ iz) (h1 : 0 ≤ jz) (q : jz < (nb : Int) ∧ (iz < (na : Int) → tc (tup a iz.toNat) (tup b jz.toNat) = 1)) : gaT a b na nb i j i (jz + 1).toNat (tup b j) ∧ S (tup b j) = sg * b (6 * j + 4) := by
  subst hi hj
  rw [show (jz + 1).toNat = jz.toNat + 1 by omega]
  exact ga_b hA hB hS h (by omega) (fun w => q.2 (by omega))
theorem ga_te {a b f : Nat → Int32} {na nb i j m : Nat} {S : Tup → Int32} {sg : Int32} {iz jz : Int} (hA : okB a na) (hB : okB b nb) (hS : ∀ t, S t = bS a na t + sg * bS b nb t) (h : gaI a b f na nb i j m S) (hi : i = iz.toNat) (hj : j = jz.toNat) (h0 : 0 ≤ iz) (h1 : 0 ≤ jz) (q : iz < (na : Int) ∧ jz < (nb : Int) ∧ tc (tup a iz.toNat) (tup b jz.toNat) = 0) : gaT a b na nb i j (iz + 1).toNat (jz + 1).toNat (tup a i) ∧ S (tup a i) = a (6 * i + 4) + sg * b (6 * j + 4) := by
  subst hi hj
  rw [show (iz + 1).toNat = iz.toNat + 1 by omega, show (jz + 1).toNat = jz.toNat + 1 by omega]
  exact ga_ab hA hB hS (by omega) (by omega) q.2.2
/-! frames of the reckoning -/
def kI (o : Nat) (I I' : gI) : Prop := ∀ b, b ≠ o → I' b = I b
def kA (gh : gGh) (o : Nat) (AI AI' : gI) : Prop := ∀ b, b ≠ gh 0 o → b ≠ gh 30 0 → b ≠ gh 31 0 → b ≠ gh 32 0 → AI' b = AI b
section KFrame
variable {g : gG} {gh : gGh} {R AR : gR} {I I' I'' AI AI' AI'' I0 AI0 : gI} {o x a ln : Nat}
theorem kI_r : kI o I I := fun _ _ => rfl
theorem kI_t (h : kI o I I') (h' : kI o I' I'') : kI o I I'' := fun b hb => (h' b hb).trans (h b hb)
theorem kA_r : kA gh o AI AI := fun _ _ _ _ _ => rfl
theorem kA_t (h : kA gh o AI AI') (h' : kA gh o AI' AI'') : kA gh o AI AI'' := fun b h0 h1 h2 h3 => (h' b h0 h1 h2 h3).trans (h b h0 h1 h2 h3)
theorem kA_o (h : ∀ b, b ≠ gh 0 o → AI' b = AI b) : kA gh o AI AI' := fun b h0 _ _ _ => h b h0
theorem kA_0 (h : ∀ b, b ≠ gh 30 0 → AI' b = AI b) : kA gh o AI AI' := fun b _ h0 _ _ => h b h0
theorem kA_1 (h : ∀ b, b ≠ gh 31 0 → AI' b = AI b) : kA gh o AI AI' := fun b _ _ h0 _ => h b h0
theorem kA_2 (h : ∀ b, b ≠ gh 32 0 → AI' b = AI b) : kA gh o AI AI' := fun b _ _ _ h0 => h b h0
theorem cells_ne (hv : gInv g gh R AR I AI) (ho : gO g o 4) (hx : gO g x 4) (h : x ≠ o) : gh 0 x ≠ gh 0 o := fun e => h (by rw [← (hv.1 x hx).1.2.2.2, e, (hv.1 o ho).1.2.2.2])
theorem cells_9 (hv : gInv g gh R AR I AI) (hx : gO g x 4) : gh 9 (gh 0 x) = 1 := (hv.1 x hx).1.2.2.1
theorem ne_9 {b d n m : Nat} (hb : gh 9 b = n) (hd : gh 9 d = m) (h : n ≠ m) : b ≠ d := fun e => h (by rw [← hb, ← hd, e])
theorem cells_k (hv : gInv g gh R AR I AI) (ha : gO g a 3) (hx : gO g x 4) : gh 0 x ≠ gh 30 0 ∧ gh 0 x ≠ gh 31 0 ∧ gh 0 x ≠ gh 32 0 :=
  ⟨ne_9 (cells_9 hv hx) (ro30 hv ha) (by decide), ne_9 (cells_9 hv hx) (ro31 hv ha) (by decide), ne_9 (cells_9 hv hx) (ro32 hv ha) (by decide)⟩
theorem kA_x (f : kA gh o AI AI') (hv : gInv g gh R AR I0 AI0) (ha : gO g a 3) (ho : gO g o 4) (hx : gO g x 4) (h : x ≠ o) : AI' (gh 0 x) = AI (gh 0 x) :=
  f _ (cells_ne hv ho hx h) (cells_k hv ha hx).1 (cells_k hv ha hx).2.1 (cells_k hv ha hx).2.2
theorem ln_9 (hv : gInv g gh R AR I AI) (hl : gO g ln 0) : gh 9 (gh 3 ln) = 2 := (hv.2.2.1 ln hl).1.2.2.1
theorem kA_l (f : kA gh o AI AI') (hv : gInv g gh R AR I0 AI0) (ha : gO g a 3) (ho : gO g o 4) (hl : gO g ln 0) : AI' (gh 3 ln) = AI (gh 3 ln) :=
  f _ (ne_9 (ln_9 hv hl) (cells_9 hv ho) (by decide)) (ne_9 (ln_9 hv hl) (ro30 hv ha) (by decide)) (ne_9 (ln_9 hv hl) (ro31 hv ha) (by decide)) (ne_9 (ln_9 hv hl) (ro32 hv ha) (by decide))
theorem rk_ne (hv : gInv g gh R AR I AI) (ha : gO g a 3) : gh 30 0 ≠ gh 31 0 ∧ gh 30 0 ≠ gh 32 0 ∧ gh 31 0 ≠ gh 32 0 := by
  have a0 := (gR_rk0 hv ha).2.2.2
  have a1 := (gR_rk1 hv ha).2.2.2
  have a2 := (gR_rk2 hv ha).2.2.2
  refine ⟨fun e => ?_, fun e => ?_, fun e => ?_⟩
  · rw [e] at a0; omega
  · rw [e] at a0; omega
  · rw [e] at a1; omega
end KFrame
/-! a part of the rows goes over, in order -/
def selI (f : Nat → Int32) (m : Nat) (x : Nat → Int32) (n i : Nat) (S : Tup → Int32) : Prop :=
  isB f m S zM ∧ m ≤ i ∧ ∀ r k, r < m → i ≤ k → k < n → tc (tup f r) (tup x k) = -1
section Sel
variable {f f' x : Nat → Int32} {m n i : Nat} {S : Tup → Int32} {κ : Tup → Tup} {α : Tup → Int32 → Int32} {iz : Int}
theorem selI_0 : selI f 0 x n 0 s0T := ⟨isW_0 (fun t h => h rfl), Nat.le_refl _, fun r k h => absurd h (Nat.not_lt_zero r)⟩
theorem selI_no (h : selI f m x n i (sR κ α x i s0T)) (ha : α (tup x i) (x (6 * i + 4)) = 0) : selI f m x n (i + 1) (sR κ α x (i + 1) s0T) := by
  rw [sR, ha, sAdd_0]
  exact ⟨h.1, by have := h.2.1; omega, fun r k hr hk hn => h.2.2 r k hr (by omega) hn⟩
theorem selI_ap (hx : okB x n) (hi : i < n) (h : selI f m x n i (sR κ α x i s0T)) (hk : κ (tup x i) = tup x i) (ha : α (tup x i) (x (6 * i + 4)) ≠ 0) (e : insW f f' m m (tup x i) (α (tup x i) (x (6 * i + 4))) 0) : selI f' (m + 1) x n (i + 1) (sR κ α x (i + 1) s0T) := by
  rw [sR, hk]
  refine ⟨isB_ap h.1 (fun r hr => h.2.2 r i hr (Nat.le_refl _) hi) e ha, by have := h.2.1; omega, fun r k hr hk hn => ?_⟩
  by_cases w : r < m
  · rw [rwS_t (e.1 r w)]; exact h.2.2 r k w (by omega) hn
  · rw [show r = m by omega, e.2.1.1]; exact hx.1 i k (by omega) hn
end Sel
/-- a bag whose sum goes over rows has no more of them -/
def prjI (f : Nat → Int32) (m i : Nat) (S : Tup → Int32) : Prop := isB f m S zM ∧ m ≤ i
theorem add_le {f f' : Nat → Int32} {lim len len' x z : Int} {v : Nat → Int} (h : addP 4 lim f f' len len' v x z) : len' ≤ len + 1 := by
  rcases h with ⟨_, _, _, h⟩ | ⟨_, _, _, _, h⟩
  · rcases h with ⟨_, _, h, _⟩ | ⟨_, _, _, h, _⟩ | ⟨_, _, _, h, _⟩ <;> omega
  · rcases h with ⟨_, h, _⟩ | ⟨_, h, _⟩ <;> omega
/-- a key of a few cells is a tuple -/
theorem key_tu {f : Nat → Int32} {t : Tup} (h : ∀ k, k < 4 → f k = tg t k) : ∀ k, k < 4 → rk f 0 k = tu t k := fun k hk => by
  unfold rk tu
  rw [show (0 : Int).toNat + k = k by simp, h k hk]
theorem prj_step {f f' x : Nat → Int32} {m i : Nat} {κ : Tup → Tup} {α : Tup → Int32 → Int32} {lim len len' z n : Int} {v : Nat → Int} (h : prjI f m i (sR κ α x i s0T)) (hl : len = (m : Int)) (q : addP 4 lim f f' len len' v n z) (hv : ∀ k, k < 4 → v k = tu (κ (tup x i)) k) (hx : iI n = α (tup x i) (x (6 * i + 4))) (zn : zr n) (hlim : len < lim) : z = 1 ∧ 0 ≤ len' ∧ prjI f' len'.toNat (i + 1) (sR κ α x (i + 1) s0T) := by
  subst hl
  have hle := add_le q
  have hm := h.2
  rcases isB_add h.1 hv q zn with ⟨a, b, d⟩ | ⟨_, a, _⟩
  · rw [hx] at d
    exact ⟨a, b, d, by omega⟩
  · omega
theorem vK_id {c : LC} {t : Tup} (h : c.1 0 ≠ 2) : vK c t = t := if_neg h
theorem vK_2 {c : LC} {t : Tup} (h : c.1 0 = 2) : vK c t = trT c (tg t) := if_pos h
theorem vA1_y {c : LC} {t : Tup} {a : Int32} (h : c.1 0 = 1) (k : hldP c t) : vA c t a = a := by unfold vA; rw [if_pos h, pI_y k]
theorem vA1_n {c : LC} {t : Tup} {a : Int32} (h : c.1 0 = 1) (k : ¬ hldP c t) : vA c t a = 0 := by unfold vA; rw [if_pos h, pI_n k]
theorem vA6_y {c : LC} {t : Tup} {a : Int32} (h : c.1 0 = 6) (k : 0 < a.toInt) : vA c t a = 1 := by unfold vA; rw [if_neg (by omega), if_pos h, pI_y k]
theorem vA6_n {c : LC} {t : Tup} {a : Int32} (h : c.1 0 = 6) (k : ¬ 0 < a.toInt) : vA c t a = 0 := by unfold vA; rw [if_neg (by omega), if_pos h, pI_n k]
theorem vA_id {c : LC} {t : Tup} {a : Int32} (h : c.1 0 ≠ 1) (k : c.1 0 ≠ 6) : vA c t a = a := by unfold vA; rw [if_neg h, if_neg k]
theorem rowt {f : Nat → Int32} {i : Int} (h : 0 ≤ i) : ∀ j, j < 4 → f ((i * 6).toNat + j) = tg (tup f i.toNat) j := fun j hj => by rw [tg_up j hj]; congr 1; omega
theorem tst3_y {v s w : Int} (h1 : s = 61 → v = w) (h2 : s = 60 → v < w) (h3 : s ≠ 61 → s ≠ 60 → w < v) : tst3 v s w := by
  unfold tst3
  by_cases a : s = 61
  · rw [if_pos a]; exact h1 a
  · rw [if_neg a]
    by_cases b : s = 60
    · rw [if_pos b]; exact h2 b
    · rw [if_neg b]; exact h3 a b
theorem tst3_e {v s w : Int} (h : tst3 v s w) : (s = 61 ∧ v = w) ∨ (s = 60 ∧ v < w) ∨ (s ≠ 61 ∧ s ≠ 60 ∧ w < v) := by
  unfold tst3 at h
  by_cases a : s = 61
  · rw [if_pos a] at h; exact Or.inl ⟨a, h⟩
  · rw [if_neg a] at h
    by_cases b : s = 60
    · rw [if_pos b] at h; exact Or.inr (Or.inl ⟨b, h⟩)
    · rw [if_neg b] at h; exact Or.inr (Or.inr ⟨a, b, h⟩)
end
section
/-! joins: a pair is told by its tuple -/
section Join
variable {c : LC} {x y : Nat → Int32} {t u t' u' s : Tup} {n m i j d q : Nat}
theorem jc_le : ∀ (e d : Nat), jc c d ≤ jc c (d + e)
  | 0, _ => Nat.le_refl _
  | e + 1, d => by
    have := jc_le e d
    rw [show d + (e + 1) = (d + e) + 1 by omega, jc]; omega
theorem jc_s (h : ¬ tld c d) : jc c (d + 1) = jc c d + 1 := by rw [jc, pN1_y h]
theorem jc_k (h : tld c d) : jc c (d + 1) = jc c d := by rw [jc, pN1_n (fun q => q h)]; omega
theorem jc_lt (h : ¬ tld c d) (k : d < q) : jc c d < jc c q := by
  have := jc_le (c := c) (q - (d + 1)) (d + 1)
  rw [show d + 1 + (q - (d + 1)) = q by omega, jc_s h] at this
  omega
theorem jc_u : ∀ d, jc c d ≤ d
  | 0 => Nat.le_refl _
  | d + 1 => by
    have := jc_u d
    by_cases w : tld c d
    · rw [jc_k w]; omega
    · rw [jc_s w]; omega
theorem jc_at : ∀ (m q : Nat), q < jc c m → ∃ d, d < m ∧ ¬ tld c d ∧ jc c d = q
  | 0, q, h => absurd h (Nat.not_lt_zero _)
  | m + 1, q, h => by
    by_cases w : tld c m
    · rw [jc_k w] at h
      obtain ⟨d, a, b⟩ := jc_at m q h
      exact ⟨d, by omega, b⟩
    · rw [jc_s w] at h
      by_cases v : q < jc c m
      · obtain ⟨d, a, b⟩ := jc_at m q v
        exact ⟨d, by omega, b⟩
      · exact ⟨m, by omega, w, by omega⟩
theorem jat_y : ∀ (m : Nat), d < m → ¬ tld c d → jat c u m (jc c d) = tg u d
  | 0, h, _ => absurd h (Nat.not_lt_zero _)
  | m + 1, h, k => by
    rw [jat]
    by_cases w : d = m
    · subst w; exact pI_y ⟨k, rfl⟩
    · rw [pI_n (fun e => ?_)]
      · exact jat_y m (by omega) k
      · have := jc_lt (q := m) k (by omega)
        omega
theorem jat_n : ∀ (m : Nat), jc c m ≤ q → jat c u m q = 0
  | 0, _ => rfl
  | m + 1, h => by
    rw [jat, pI_n (fun e => ?_)]
    · exact jat_n m (by have := jc_le (c := c) 1 m; omega)
    · have := jc_s (c := c) e.1
      omega
/-- a key that is told column by column is the joined tuple -/
theorem jn_of {k : Nat → Int32} (h1 : ∀ j : Nat, (j : Int) < c.1 5 → j < 4 → k j = tg t j) (h2 : ∀ d : Nat, d < (c.1 6).toNat → ¬ tld c d → k ((c.1 5).toNat + jc c d) = tg u d) (h3 : ∀ j : Nat, (c.1 5).toNat + jc c (c.1 6).toNat ≤ j → j < 4 → k j = 0) (h5 : 0 ≤ c.1 5) : ∀ j, j < 4 → k j = tg (jn c t u) j := fun j hj => by
  unfold jn
  rw [tg_mk j hj]
  by_cases w : (j : Int) < c.1 5
  · rw [if_pos w]; exact h1 j w hj
  · rw [if_neg w]
    by_cases v : j - (c.1 5).toNat < jc c (c.1 6).toNat
    · obtain ⟨d, hd, hn, e⟩ := jc_at _ _ v
      have := h2 d hd hn
      rw [← e, jat_y _ hd hn, ← this]
      congr 1; omega
    · rw [jat_n _ (by omega)]; exact h3 j (by omega) hj
/-- of two pairs that are alike and have one tuple: they are one -/
def jOK (c : LC) : Prop := 0 ≤ c.1 5 ∧ c.1 5 ≤ 4 ∧ 0 ≤ c.1 6 ∧ c.1 6 ≤ 4 ∧ (c.1 5).toNat + jc c (c.1 6).toNat ≤ 4 ∧ ∀ k : Nat, (k : Int) < c.1 4 → 0 ≤ c.2 k 0 ∧ c.2 k 0 < c.1 5 ∧ 0 ≤ c.2 k 1 ∧ c.2 k 1 < c.1 6
def zT (cols : Int) (t : Tup) : Prop := ∀ k : Nat, cols ≤ (k : Int) → k < 4 → tg t k = 0
theorem jn_i (hc : jOK c) (zt : zT (c.1 5) t) (zt' : zT (c.1 5) t') (zu : zT (c.1 6) u) (zu' : zT (c.1 6) u') (a : alk c t u) (b : alk c t' u') (e : jn c t u = jn c t' u') : t = t' ∧ u = u' := by
  obtain ⟨c1, c2, c3, c4, c5, c6⟩ := hc
  have g : ∀ k, k < 4 → tg (jn c t u) k = tg (jn c t' u') k := fun k _ => by rw [e]
  have et : t = t' := tg_x (fun k hk => by
    by_cases w : (k : Int) < c.1 5
    · have := g k hk
      unfold jn at this
      rwa [tg_mk k hk, tg_mk k hk, if_pos w, if_pos w] at this
    · rw [zt k (by omega) hk, zt' k (by omega) hk])
  refine ⟨et, tg_x (fun k hk => ?_)⟩
  by_cases w : (k : Int) < c.1 6
  · by_cases v : tld c k
    · obtain ⟨p, hp, ep⟩ := v
      have q1 := a p hp
      have q2 := b p hp
      rw [ep, show ((k : Int)).toNat = k by omega] at q1 q2
      rw [← q1, ← q2, et]
    · have hk6 : k < (c.1 6).toNat := by omega
      have lt := jc_lt (c := c) (q := (c.1 6).toNat) v hk6
      have := g ((c.1 5).toNat + jc c k) (by omega)
      unfold jn at this
      rw [tg_mk _ (by omega), tg_mk _ (by omega), if_neg (by omega), if_neg (by omega), show (c.1 5).toNat + jc c k - (c.1 5).toNat = jc c k by omega, jat_y _ hk6 v, jat_y _ hk6 v] at this
      exact this
  · rw [zu k (by omega) hk, zu' k (by omega) hk]
/-- a pair ahead of the place (i, j) -/
def bfr (i j i' j' : Nat) : Prop := i' < i ∨ (i' = i ∧ j' < j)
theorem sR_supp {κ : Tup → Tup} {α : Tup → Int32 → Int32} {S : Tup → Int32} : ∀ (m : Nat) (s : Tup), sR κ α y m S s ≠ 0 → S s ≠ 0 ∨ ∃ j, j < m ∧ α (tup y j) (y (6 * j + 4)) ≠ 0 ∧ κ (tup y j) = s
  | 0, s, h => Or.inl h
  | m + 1, s, h => by
    rw [sR] at h
    by_cases w : s = κ (tup y m)
    · by_cases v : α (tup y m) (y (6 * m + 4)) = 0
      · rw [v, sAdd_0] at h
        rcases sR_supp m s h with h | ⟨j, a, b⟩
        · exact Or.inl h
        · exact Or.inr ⟨j, by omega, b⟩
      · exact Or.inr ⟨m, by omega, v, w.symm⟩
    · rw [sAdd_k w] at h
      rcases sR_supp m s h with h | ⟨j, a, b⟩
      · exact Or.inl h
      · exact Or.inr ⟨j, by omega, b⟩
theorem sR_keep {κ : Tup → Tup} {α : Tup → Int32 → Int32} {S : Tup → Int32} : ∀ (k m : Nat) (s : Tup), (∀ j, m ≤ j → j < m + k → α (tup y j) (y (6 * j + 4)) ≠ 0 → κ (tup y j) ≠ s) → sR κ α y (m + k) S s = sR κ α y m S s
  | 0, _, _, _ => rfl
  | k + 1, m, s, h => by
    rw [show m + (k + 1) = (m + k) + 1 by omega, sR]
    have ih := sR_keep (S := S) k m s (fun j a b => h j a (by omega))
    by_cases w : s = κ (tup y (m + k))
    · by_cases v : α (tup y (m + k)) (y (6 * (m + k) + 4)) = 0
      · rw [v, sAdd_0]; exact ih
      · exact absurd w.symm (h (m + k) (by omega) (by omega) v)
    · rw [sAdd_k w]; exact ih
theorem pI_ne {p : Prop} {a : Int32} (h : pI p a 0 ≠ 0) : p := Classical.byContradiction (fun k => h (pI_n k))
theorem sJ_supp : ∀ (i : Nat) (s : Tup), sJ c x y m i s ≠ 0 → ∃ i' j', i' < i ∧ j' < m ∧ alk c (tup x i') (tup y j') ∧ jn c (tup x i') (tup y j') = s
  | 0, s, h => absurd rfl h
  | i + 1, s, h => by
    rw [sJ] at h
    rcases sR_supp m s h with h | ⟨j, a, b, e⟩
    · obtain ⟨i', j', a, b⟩ := sJ_supp i s h
      exact ⟨i', j', by omega, b⟩
    · exact ⟨i, j, by omega, a, pI_ne b, e⟩
theorem sJ1_supp (h : sJ1 c (tup x i) (x (6 * i + 4)) y j (sJ c x y m i) s ≠ 0) : ∃ i' j', (i' < i ∧ j' < m ∨ i' = i ∧ j' < j) ∧ alk c (tup x i') (tup y j') ∧ jn c (tup x i') (tup y j') = s := by
  rcases sR_supp j s h with h | ⟨j', a, b, e⟩
  · obtain ⟨i', j', a, b, e⟩ := sJ_supp i s h
    exact ⟨i', j', Or.inl ⟨a, b⟩, e⟩
  · exact ⟨i, j', Or.inr ⟨rfl, a⟩, pI_ne b, e⟩
def zB (cols : Int) (f : Nat → Int32) (n : Nat) : Prop := ∀ i, i < n → zT cols (tup f i)
theorem jn_r (hc : jOK c) (hx : okB x n) (hy : okB y m) (zx : zB (c.1 5) x n) (zy : zB (c.1 6) y m) {i j i' j' : Nat} (h1 : i < n) (h2 : j < m) (h3 : i' < n) (h4 : j' < m) (a : alk c (tup x i) (tup y j)) (b : alk c (tup x i') (tup y j')) (e : jn c (tup x i) (tup y j) = jn c (tup x i') (tup y j')) : i = i' ∧ j = j' := by
  have q := jn_i hc (zx i h1) (zx i' h3) (zy j h2) (zy j' h4) a b e
  exact ⟨srtB_ne hx.1 h1 h3 q.1, srtB_ne hy.1 h2 h4 q.2⟩
/-- what is there of a tuple stays -/
theorem sJ_keep (hc : jOK c) (hx : okB x n) (hy : okB y m) (zx : zB (c.1 5) x n) (zy : zB (c.1 6) y m) : ∀ (k i : Nat), i + k ≤ n → ∀ s, sJ c x y m i s ≠ 0 → sJ c x y m (i + k) s = sJ c x y m i s
  | 0, _, _, _, _ => rfl
  | k + 1, i, h, s, hs => by
    rw [show i + (k + 1) = (i + k) + 1 by omega, sJ]
    have ih := sJ_keep hc hx hy zx zy k i (by omega) s hs
    obtain ⟨i', j', a, b, d, e⟩ := sJ_supp i s hs
    have := sR_keep (κ := jn c (tup x (i + k))) (α := fun u b => pI (alk c (tup x (i + k)) u) (x (6 * (i + k) + 4) * b) 0) (y := y) (S := sJ c x y m (i + k)) m 0 s (fun j _ hj hn q => by
      have := (jn_r hc hx hy zx zy (by omega) (by omega) (by omega) b (pI_ne hn) d (q.trans e.symm)).1
      omega)
    rw [Nat.zero_add] at this
    exact this.trans ih
theorem sJ1_keep (hc : jOK c) (hx : okB x n) (hy : okB y m) (zx : zB (c.1 5) x n) (zy : zB (c.1 6) y m) (hi : i < n) (hj : j ≤ m) (hs : sJ1 c (tup x i) (x (6 * i + 4)) y j (sJ c x y m i) s ≠ 0) : sJ c x y m n s ≠ 0 := by
  have e1 : sJ c x y m (i + 1) s = sJ1 c (tup x i) (x (6 * i + 4)) y j (sJ c x y m i) s := by
    rw [sJ]
    obtain ⟨i', j', a, d, e⟩ := sJ1_supp hs
    have := sR_keep (κ := jn c (tup x i)) (α := fun u b => pI (alk c (tup x i) u) (x (6 * i + 4) * b) 0) (y := y) (S := sJ c x y m i) (m - j) j s (fun j2 h1 h2 hn q => by
      have hj' : j' < m := by omega
      have := jn_r hc hx hy zx zy hi (by omega) (by omega) hj' (pI_ne hn) d (q.trans e.symm)
      omega)
    rw [show j + (m - j) = m by omega] at this
    exact this
  have := sJ_keep hc hx hy zx zy (n - (i + 1)) (i + 1) (by omega) s (by rw [e1]; exact hs)
  rw [show i + 1 + (n - (i + 1)) = n by omega] at this
  rw [this, e1]; exact hs
theorem pC_le {t : Tup} : ∀ (k j : Nat), pC c t y j ≤ pC c t y (j + k)
  | 0, _ => Nat.le_refl _
  | k + 1, j => by
    have := pC_le (t := t) k j
    rw [show j + (k + 1) = (j + k) + 1 by omega, pC]; omega
theorem pJ_le : ∀ (k i : Nat), pJ c x y m i ≤ pJ c x y m (i + k)
  | 0, _ => Nat.le_refl _
  | k + 1, i => by
    have := pJ_le k i
    rw [show i + (k + 1) = (i + k) + 1 by omega, pJ]; omega
theorem pJ_at (hi : i < n) (hj : j ≤ m) : pJ c x y m i + pC c (tup x i) y j ≤ pJ c x y m n := by
  have a := pC_le (c := c) (t := tup x i) (y := y) (m - j) j
  rw [show j + (m - j) = m by omega] at a
  have b := pJ_le (c := c) (x := x) (y := y) (m := m) (n - (i + 1)) (i + 1)
  rw [show i + 1 + (n - (i + 1)) = n by omega, pJ] at b
  omega
theorem pC_y (h : alk c t (tup y j)) : pC c t y (j + 1) = pC c t y j + 1 := by rw [pC, pN1_y h]
theorem pC_n (h : ¬ alk c t (tup y j)) : pC c t y (j + 1) = pC c t y j := by rw [pC, pN1_n h]; omega
theorem sJ1_y {a : Int32} {S : Tup → Int32} (h : alk c t (tup y j)) : sJ1 c t a y (j + 1) S = sAdd (sJ1 c t a y j S) (jn c t (tup y j)) (a * y (6 * j + 4)) := by
  unfold sJ1; rw [sR, pI_y h]
theorem sJ1_n {a : Int32} {S : Tup → Int32} (h : ¬ alk c t (tup y j)) : sJ1 c t a y (j + 1) S = sJ1 c t a y j S := by
  unfold sJ1; rw [sR, pI_n h, sAdd_0]
/-- no place for one more: there are too many -/
theorem isB_full {f : Nat → Int32} {L : Nat} {S : Tup → Int32} {v : Int32} (h : isB f L S zM) (h0 : S s = 0) (hv : v ≠ 0) : bigP L (fun t => sAdd S s v t ≠ 0) := by
  have ne : ∀ i, i < L → tup f i ≠ s := fun i hi e => by
    have := (h.2.1 i hi).1
    rw [e] at this
    exact this h0
  refine bigP_of (t := s) h.1 (fun i hi => ?_) (by rw [sAdd_s, h0, Int32.zero_add]; exact hv) ne
  rw [sAdd_k (ne i hi)]; exact (h.2.1 i hi).1
end Join
theorem isB_full9 {f : Nat → Int32} {L k : Nat} {S : Tup → Int32} {s : Tup} {v : Int32} (h : isB f k S zM) (hk : L ≤ k) (h0 : S s = 0) (hv : v ≠ 0) : bigP L (fun t => sAdd S s v t ≠ 0) := by
  obtain ⟨g, g1, g2⟩ := isB_full h h0 hv
  exact ⟨g, fun i j a b => g1 i j a (by omega), fun i a => g2 i (by omega)⟩
theorem isB_add9 {f f' : Nat → Int32} {n : Nat} {S : Tup → Int32} {t : Tup} {v : Nat → Int} {lim len len' z x : Int} (a : isB f n S zM) (hl : len = (n : Int)) (h : addP 4 lim f f' len len' v x z) (hv : ∀ k, k < 4 → v k = tu t k) (zc : zr x) : (z = 1 ∧ 0 ≤ len' ∧ isB f' len'.toNat (sAdd S t (iI x)) zM) ∨ (z = 0 ∧ lim ≤ len ∧ S t = 0 ∧ iI x ≠ 0) := by
  subst hl
  rcases isB_add a hv h zc with h | ⟨h1, h2, h3, h4, _⟩
  · exact Or.inl h
  · exact Or.inr ⟨h1, h2, h3, h4⟩
theorem tld_ln {f P : Nat → Int32} {c : LC} {z : Int} (h : lnC f P c) (hk : c.1 0 = 3) (h0 : 0 ≤ z) : (∃ j : Nat, (j : Int) < (f 8).toInt ∧ (P (2 * j + 1)).toInt = z) ↔ tld c z.toNat := by
  have e8 := h.2.1 (Or.inr (Or.inr (Or.inl hk)))
  have ep := h.2.2.2.2.1 (Or.inr (Or.inl hk))
  unfold tld
  rw [e8]
  exact ⟨fun ⟨j, a, b⟩ => ⟨j, a, by rw [← (ep j a).2]; omega⟩, fun ⟨j, a, b⟩ => ⟨j, a, by rw [(ep j a).2]; omega⟩⟩
theorem jn_e1 {c : LC} {c2 : Int} {k : Nat → Int32} {u : Tup} (h : ∀ d : Nat, (d : Int) < c2 → ¬ tld c d → k ((c.1 5).toNat + jc c d) = tg u d) (h0 : 0 ≤ c2) (hh : c2 = c.1 6 ∨ 4 ≤ c.1 5 + jc c c2.toNat) (d : Nat) (hd : d < (c.1 6).toNat) (hn : ¬ tld c d) (h9 : (c.1 5).toNat + jc c (c.1 6).toNat ≤ 4) (h5 : 0 ≤ c.1 5) : k ((c.1 5).toNat + jc c d) = tg u d := by
  by_cases w : (d : Int) < c2
  · exact h d w hn
  · exfalso
    rcases hh with e | e
    · omega
    · have a := jc_lt (q := (c.1 6).toNat) hn hd
      have b := jc_le (c := c) (d - c2.toNat) c2.toNat
      rw [show c2.toNat + (d - c2.toNat) = d by omega] at b
      omega
theorem jn_e2 {c : LC} {c2 : Int} {j : Nat} (h0 : 0 ≤ c2) (h2 : c2 ≤ c.1 6) (h : (c.1 5).toNat + jc c (c.1 6).toNat ≤ j) : (c.1 5).toNat + jc c c2.toNat ≤ j := by
  have b := jc_le (c := c) ((c.1 6).toNat - c2.toNat) c2.toNat
  rw [show c2.toNat + ((c.1 6).toNat - c2.toNat) = (c.1 6).toNat by omega] at b
  omega
end
section
/-! groups -/
def fldP (c : LC) (f f' : Nat → Int32) (row : Nat) (v a : Int32) : Prop :=
  (∀ j, j ≠ 6 * row + 4 → j ≠ 6 * row + 5 → f' j = f j) ∧ f' (6 * row + 4) = (fS c (f (6 * row + 5), f (6 * row + 4)) v a).2 ∧ f' (6 * row + 5) = (fS c (f (6 * row + 5), f (6 * row + 4)) v a).1
section Fold
variable {c : LC} {f f' : Nat → Int32} {row : Nat} {v a : Int32}
theorem fld_cnt (h9 : c.1 9 = 0) (e : ∀ j, j ≠ 6 * row + 4 → f' j = f j) (e4 : f' (6 * row + 4) = f (6 * row + 4) + a) : fldP c f f' row v a := by
  unfold fldP fS
  rw [if_pos h9]
  exact ⟨fun j h4 _ => e j h4, e4, e _ (by omega)⟩
theorem fld_sum (h9 : c.1 9 = 1) (e : ∀ j, j ≠ 6 * row + 4 → f' j = f j) (e4 : f' (6 * row + 4) = f (6 * row + 4) + a * v) : fldP c f f' row v a := by
  unfold fldP fS
  rw [if_neg (by omega), if_pos h9]
  exact ⟨fun j h4 _ => e j h4, e4, e _ (by omega)⟩
theorem fld_no (h0 : c.1 9 ≠ 0) (h1 : c.1 9 ≠ 1) (ha : ¬ 0 < a.toInt) : fldP c f f row v a := by
  unfold fldP fS
  rw [if_neg h0, if_neg h1, if_neg ha]
  exact ⟨fun j _ _ => rfl, rfl, rfl⟩
theorem fld_set (h0 : c.1 9 ≠ 0) (h1 : c.1 9 ≠ 1) (ha : 0 < a.toInt) (hc : f (6 * row + 5) = 0 ∨ (c.1 9 = 2 ∧ v.toInt < (f (6 * row + 4)).toInt) ∨ (c.1 9 ≠ 2 ∧ (f (6 * row + 4)).toInt < v.toInt)) (e : ∀ j, j ≠ 6 * row + 4 → j ≠ 6 * row + 5 → f' j = f j) (e4 : f' (6 * row + 4) = v) (e5 : f' (6 * row + 5) = 1) : fldP c f f' row v a := by
  unfold fldP fS
  rw [if_neg h0, if_neg h1, if_pos ha]
  refine ⟨e, ?_, e5⟩
  show f' (6 * row + 4) = if f (6 * row + 5) = 0 ∨ (c.1 9 = 2 ∧ v.toInt < (f (6 * row + 4)).toInt) ∨ (c.1 9 ≠ 2 ∧ (f (6 * row + 4)).toInt < v.toInt) then v else f (6 * row + 4)
  rw [if_pos hc]; exact e4
theorem fld_keep (h0 : c.1 9 ≠ 0) (h1 : c.1 9 ≠ 1) (ha : 0 < a.toInt) (hc : ¬ (f (6 * row + 5) = 0 ∨ (c.1 9 = 2 ∧ v.toInt < (f (6 * row + 4)).toInt) ∨ (c.1 9 ≠ 2 ∧ (f (6 * row + 4)).toInt < v.toInt))) (e : ∀ j, j ≠ 6 * row + 5 → f' j = f j) (e5 : f' (6 * row + 5) = 1) : fldP c f f' row v a := by
  unfold fldP fS
  rw [if_neg h0, if_neg h1, if_pos ha]
  refine ⟨fun j _ h5 => e j h5, ?_, e5⟩
  show f' (6 * row + 4) = if f (6 * row + 5) = 0 ∨ (c.1 9 = 2 ∧ v.toInt < (f (6 * row + 4)).toInt) ∨ (c.1 9 ≠ 2 ∧ (f (6 * row + 4)).toInt < v.toInt) then v else f (6 * row + 4)
  rw [if_neg hc]; exact e _ (by omega)
end Fold
/-- the groups of the first i rows: their folds, whether they have one -/
def gPs (c : LC) (x : Nat → Int32) (i : Nat) : Tup → Prop := fun u => ∃ k, k < i ∧ gk c (tup x k) = u
def gSs (c : LC) (x : Nat → Int32) (i : Nat) : Tup → Int32 := fun u => (gF c x u i).2
def gMs (c : LC) (x : Nat → Int32) (i : Nat) : Tup → Int32 := fun u => (gF c x u i).1
section Group
variable {c : LC} {f f' f1 f2 f3 x : Nat → Int32} {n m i k row : Nat} {u t : Tup}
theorem gF_0 : ∀ i, (∀ k, k < i → gk c (tup x k) ≠ u) → gF c x u i = (0, 0)
  | 0, _ => rfl
  | i + 1, h => by rw [gF, if_neg (h i (by omega))]; exact gF_0 i (fun k hk => h k (by omega))
theorem gF_y (h : gk c (tup x i) = u) : gF c x u (i + 1) = fS c (gF c x u i) (tg (tup x i) (c.1 10).toNat) (x (6 * i + 4)) := by rw [gF, if_pos h]
theorem gF_n (h : gk c (tup x i) ≠ u) : gF c x u (i + 1) = gF c x u i := by rw [gF, if_neg h]
/-- the row's group is there -/
def grI (c : LC) (x f : Nat → Int32) (m i : Nat) : Prop := isW f m (gPs c x i) (gSs c x i) (gMs c x i) ∧ m ≤ i
theorem grI_0 : grI c x f 0 0 := ⟨isW_0 (fun t ⟨k, hk, _⟩ => Nat.not_lt_zero k hk), Nat.le_refl _⟩
/-- behind finding it, or its coming in -/
def grJ (c : LC) (x f : Nat → Int32) (m i : Nat) : Prop := isW f m (gPs c x (i + 1)) (gSs c x i) (gMs c x i) ∧ m ≤ i + 1
theorem grJ_y (h : grI c x f m i) (hr : row < m) (e : tup f row = gk c (tup x i)) : grJ c x f m i := by
  refine ⟨isW_q h.1 (fun t => ⟨fun ⟨k, hk, q⟩ => ?_, fun ⟨k, hk, q⟩ => ⟨k, by omega, q⟩⟩) (fun _ _ => rfl) (fun _ _ => rfl), by have := h.2; omega⟩
  by_cases w : k = i
  · have := (h.1.2.1 row hr).1
    rw [e] at this
    have e2 : gk c (tup x i) = t := by rw [← w]; exact q
    rwa [e2] at this
  · exact ⟨k, by omega, q⟩
theorem grJ_n (h : grI c x f m i) (hat : atW f m row (gk c (tup x i))) (e : insW f f' row m (gk c (tup x i)) 0 0) : grJ c x f' (m + 1) i := by
  have q := isW_ins h.1 hat e
  have z := gF_0 (c := c) (x := x) (u := gk c (tup x i)) i (fun k hk e => q.1 ⟨k, hk, e⟩)
  refine ⟨isW_q q.2 (fun t => ⟨fun ⟨k, hk, w⟩ => ?_, fun w => ?_⟩) (fun t _ => ?_) (fun t _ => ?_), by have := h.2; omega⟩
  · by_cases v : k = i
    · exact Or.inl (by rw [← w, v])
    · exact Or.inr ⟨k, by omega, w⟩
  · rcases w with w | ⟨k, hk, w⟩
    · exact ⟨i, by omega, w.symm⟩
    · exact ⟨k, by omega, w⟩
  · by_cases w : t = gk c (tup x i)
    · rw [w, tUp_s]; show (gF c x _ i).2 = 0; rw [z]
    · rw [tUp_k w]
  · by_cases w : t = gk c (tup x i)
    · rw [w, tUp_s]; show (gF c x _ i).1 = 0; rw [z]
    · rw [tUp_k w]
theorem grI_s (h : grJ c x f m i) (hr : row < m) (e : tup f row = gk c (tup x i)) (q : fldP c f f' row (tg (tup x i) (c.1 10).toNat) (x (6 * i + 4))) : grI c x f' m (i + 1) := by
  obtain ⟨q1, q2, q3⟩ := q
  have a := h.1.2.1 row hr
  rw [e] at a
  have e1 : (f (6 * row + 5), f (6 * row + 4)) = gF c x (gk c (tup x i)) i := by rw [a.2.1, a.2.2]; rfl
  rw [e1, ← gF_y rfl] at q2 q3
  -- the amount first, then the mark
  have s1 := isW_set (f' := fun j => if j = 6 * row + 5 then f j else f' j) h.1 hr e (c := (gF c x (gk c (tup x i)) (i + 1)).2) (fun j hj => by
    show (if j = 6 * row + 5 then f j else f' j) = f j
    by_cases w : j = 6 * row + 5
    · rw [if_pos w]
    · rw [if_neg w]; exact q1 j hj w) (by show (if 6 * row + 4 = 6 * row + 5 then f (6 * row + 4) else f' (6 * row + 4)) = _; rw [if_neg (by omega)]; exact q2)
  have et : tup (fun j => if j = 6 * row + 5 then f j else f' j) row = gk c (tup x i) := by
    rw [← e]
    refine tg_x (fun k hk => ?_)
    rw [tg_up k hk, tg_up k hk]
    show (if 6 * row + k = 6 * row + 5 then f (6 * row + k) else f' (6 * row + k)) = f (6 * row + k)
    rw [if_neg (by omega)]; exact q1 _ (by omega) (by omega)
  have s2 := isW_setM (f' := f') s1 hr et (c := (gF c x (gk c (tup x i)) (i + 1)).1) (fun j hj => by
    show f' j = if j = 6 * row + 5 then f j else f' j
    rw [if_neg hj]) q3
  refine ⟨isW_q s2 (fun _ => Iff.rfl) (fun t _ => ?_) (fun t _ => ?_), h.2⟩
  · by_cases w : t = gk c (tup x i)
    · rw [w, tUp_s]; rfl
    · rw [tUp_k w]; show (gF c x t (i + 1)).2 = (gF c x t i).2; rw [gF_n (fun q => w q.symm)]
  · by_cases w : t = gk c (tup x i)
    · rw [w, tUp_s]; rfl
    · rw [tUp_k w]; show (gF c x t (i + 1)).1 = (gF c x t i).1; rw [gF_n (fun q => w q.symm)]
/-- the first k rows have the fold in their column -/
def grF (c : LC) (x f : Nat → Int32) (n m k : Nat) : Prop :=
  ∃ f0, isW f0 m (gPs c x n) (gSs c x n) (gMs c x n) ∧ (∀ j, 6 * k ≤ j → f j = f0 j) ∧ ∀ r, r < k → tup f r = tset (tup f0 r) (c.1 4).toNat (f0 (6 * r + 4)) ∧ f (6 * r + 4) = 1 ∧ f (6 * r + 5) = 0
theorem grF_0 (h : grI c x f m n) : grF c x f n m 0 := ⟨f, h.1, fun _ _ => rfl, fun r hr => absurd hr (Nat.not_lt_zero r)⟩
theorem tg_ts {t : Tup} {k j : Nat} {v : Int32} (hj : j < 4) : tg (tset t k v) j = if j = k then v else tg t j := by unfold tset; exact tg_mk j hj
theorem grF_s (h : grF c x f n m k) (hk : k < m) (h4 : (c.1 4).toNat < 4) (e1 : ∀ j, j ≠ 6 * k + (c.1 4).toNat → f1 j = f j) (e1' : f1 (6 * k + (c.1 4).toNat) = f (6 * k + 4)) (e2 : ∀ j, j ≠ 6 * k + 4 → f2 j = f1 j) (e2' : f2 (6 * k + 4) = 1) (e3 : ∀ j, j ≠ 6 * k + 5 → f3 j = f2 j) (e3' : f3 (6 * k + 5) = 0) : grF c x f3 n m (k + 1) := by
  obtain ⟨f0, a, b, d⟩ := h
  refine ⟨f0, a, fun j hj => ?_, fun r hr => ?_⟩
  · rw [e3 j (by omega), e2 j (by omega), e1 j (by omega)]; exact b j (by omega)
  · by_cases w : r < k
    · have q := d r w
      refine ⟨?_, ?_, ?_⟩
      · rw [← q.1]
        exact tg_x (fun j hj => by rw [tg_up j hj, tg_up j hj, e3 _ (by omega), e2 _ (by omega), e1 _ (by omega)])
      · rw [e3 _ (by omega), e2 _ (by omega), e1 _ (by omega)]; exact q.2.1
      · rw [e3 _ (by omega), e2 _ (by omega), e1 _ (by omega)]; exact q.2.2
    · have er : r = k := by omega
      subst er
      refine ⟨tg_x (fun j hj => ?_), ?_, e3'⟩
      · rw [tg_up j hj, tg_ts hj, e3 _ (by omega), e2 _ (by omega)]
        by_cases v : j = (c.1 4).toNat
        · rw [if_pos v, v, e1', b _ (by omega)]
        · rw [if_neg v, e1 _ (by omega), b _ (by omega), tg_up j hj]
      · rw [e3 _ (by omega)]; exact e2'
theorem gk_z (h : c.1 4 ≤ (k : Int)) (hk : k < 4) : tg (gk c t) k = 0 := by unfold gk; rw [tg_mk k hk, if_neg (by omega)]
theorem grF_e (h : grF c x f n m m) (h0 : 0 ≤ c.1 4) (h4 : c.1 4 ≤ 3) : isB f m (sG c x n) zM := by
  obtain ⟨f0, a, -, d⟩ := h
  have ez : ∀ r, r < m → ∀ k : Nat, c.1 4 ≤ (k : Int) → k < 4 → tg (tup f0 r) k = 0 := fun r hr k h1 h2 => by
    obtain ⟨j, hj, e⟩ := (a.2.1 r hr).1
    rw [← e]; exact gk_z h1 h2
  have eT : ∀ r, r < m → tup f r = gTp c x n (tup f0 r) := fun r hr => by
    rw [(d r hr).1]; unfold gTp; rw [(a.2.1 r hr).2.1]; rfl
  refine ⟨fun r s hrs hs => ?_, fun r hr => ?_, fun t ht => ?_⟩
  · have q := a.1 r s hrs hs
    rw [tc_lt] at q ⊢
    obtain ⟨q, q1, q2, q3⟩ := q
    have hq : (q : Int) < c.1 4 := by
      by_cases w : (q : Int) < c.1 4
      · exact w
      · unfold tu at q3
        rw [ez r (by omega) q (by omega) q1, ez s hs q (by omega) q1] at q3
        omega
    refine ⟨q, q1, fun j hj => ?_, ?_⟩
    · rw [(d r (by omega)).1, (d s hs).1, tg_ts (by omega), tg_ts (by omega), if_neg (by omega), if_neg (by omega)]; exact q2 j hj
    · unfold tu at q3 ⊢
      rw [(d r (by omega)).1, (d s hs).1, tg_ts (by omega), tg_ts (by omega), if_neg (by omega), if_neg (by omega)]; exact q3
  · obtain ⟨j, hj, e⟩ := (a.2.1 r hr).1
    have y : sG c x n (tup f r) = 1 := by
      unfold sG
      exact pI_y ⟨j, hj, by rw [e]; exact (eT r hr).symm⟩
    show sG c x n (tup f r) ≠ 0 ∧ f (6 * r + 4) = sG c x n (tup f r) ∧ f (6 * r + 5) = 0
    rw [y]
    exact ⟨by decide, (d r hr).2.1, (d r hr).2.2⟩
  · have ht : sG c x n t ≠ 0 := ht
    obtain ⟨j, hj, e⟩ := pI_ne ht
    obtain ⟨r, hr, q⟩ := a.2.2 (gk c (tup x j)) ⟨j, hj, rfl⟩
    exact ⟨r, hr, by rw [eT r hr, q]; exact e⟩
end Group
end
section
/-! rings -/
def arT (A : Nat → Int32) (k : Nat) : Tup := tmk (fun j => A (4 * k + j))
theorem arT_at {A : Nat → Int32} {k j : Nat} (hj : j < 4) : tg (arT A k) j = A (4 * k + j) := by unfold arT; exact tg_mk j hj
theorem arT_c {A A' : Nat → Int32} {k : Nat} (h : ∀ j, j < 4 → A' (4 * k + j) = A (4 * k + j)) : arT A' k = arT A k := tg_x (fun j hj => by rw [arT_at hj, arT_at hj, h j hj])
def rOK (c : LC) : Prop := 1 ≤ c.1 5 ∧ 0 ≤ c.1 6 ∧ c.1 5 + c.1 6 ≤ 4 ∧ c.1 4 = c.1 5 ∧ 0 ≤ c.1 7 ∧ c.1 7 < c.1 5 ∧ 0 ≤ c.1 8 ∧ c.1 8 < c.1 6 ∧ ∀ k : Nat, (k : Int) < c.1 4 → -1 ≤ c.2 k 0 ∧ c.2 k 0 < c.1 5 + c.1 6
section RGo
variable {c : LC} {y : Nat → Int32} {j : Nat} {t s : Tup}
theorem rGo_0 : ¬ rGo c y 0 t s := fun ⟨j, hj, _⟩ => Nat.not_lt_zero j hj
theorem rGo_s : rGo c y (j + 1) t s ↔ rGo c y j t s ∨ (0 < (y (6 * j + 4)).toInt ∧ tg t (c.1 7).toNat = tg (tup y j) (c.1 8).toNat ∧ trT c (sdH c t (tup y j)) = s) := by
  refine ⟨fun ⟨k, hk, a⟩ => ?_, fun h => ?_⟩
  · by_cases w : k = j
    · subst w; exact Or.inr a
    · exact Or.inl ⟨k, by omega, a⟩
  · rcases h with ⟨k, hk, a⟩ | a
    · exact ⟨k, by omega, a⟩
    · exact ⟨j, by omega, a⟩
end RGo
/-- the rows of a ring and the order in which they came: n rows, of them those from a on new against P -/
def rgI (f A : Nat → Int32) (n a : Nat) (P Q : Tup → Prop) (M : Tup → Int32) (rd : Int32) : Prop :=
  isW f n (fun s => P s ∨ Q s) (fun _ => 1) (fun t => pI (P t) (M t) rd) ∧ a ≤ n ∧ (∀ k, a ≤ k → k < n → ¬ P (arT A k) ∧ Q (arT A k)) ∧ ∀ s, ¬ P s → Q s → ∃ k, a ≤ k ∧ k < n ∧ arT A k = s
section RgI
variable {f f' A A' : Nat → Int32} {n a p : Nat} {P Q Q' : Tup → Prop} {M : Tup → Int32} {rd : Int32} {t : Tup}
theorem rgI_q (h : rgI f A n a P Q M rd) (hQ : ∀ s, P s ∨ Q' s ↔ P s ∨ Q s) : rgI f A n a P Q' M rd := by
  obtain ⟨h1, h2, h3, h4⟩ := h
  refine ⟨isW_q h1 hQ (fun _ _ => rfl) (fun _ _ => rfl), h2, fun k a b => ?_, fun s hs hq => h4 s hs (((hQ s).mp (Or.inr hq)).resolve_left hs)⟩
  have := h3 k a b
  exact ⟨this.1, ((hQ _).mpr (Or.inr this.2)).resolve_left this.1⟩
theorem rgI_c (h : rgI f A n a P Q M rd) (e : rwA f' f n) (eA : ∀ j, j < 4 * n → A' j = A j) : rgI f' A' n a P Q M rd := by
  obtain ⟨h1, h2, h3, h4⟩ := h
  have ea : ∀ k, k < n → arT A' k = arT A k := fun k hk => arT_c (fun j hj => eA _ (by omega))
  refine ⟨isW_c h1 e, h2, fun k a b => by rw [ea k b]; exact h3 k a b, fun s hs hq => ?_⟩
  obtain ⟨k, a, b, e⟩ := h4 s hs hq
  exact ⟨k, a, b, (ea k b).trans e⟩
/-- one more comes -/
theorem rgI_ins (h : rgI f A n a P Q M rd) (hat : atW f n p t) (e : insW f f' p n t 1 rd) (eA : ∀ j, j < 4 * n → A' j = A j) (eT : arT A' n = t) : rgI f' A' (n + 1) a P (fun s => Q s ∨ s = t) M rd := by
  obtain ⟨h1, h2, h3, h4⟩ := h
  have q := isW_ins h1 hat e
  have nP : ¬ P t := fun w => q.1 (Or.inl w)
  have ea : ∀ k, k < n → arT A' k = arT A k := fun k hk => arT_c (fun j hj => eA _ (by omega))
  refine ⟨isW_q q.2 (fun s => ⟨fun w => ?_, fun w => ?_⟩) (fun s _ => ?_) (fun s _ => ?_), by omega, fun k hk hn => ?_, fun s hs hq => ?_⟩
  · rcases w with w | w | w
    · exact Or.inr (Or.inl w)
    · exact Or.inr (Or.inr w)
    · exact Or.inl w
  · rcases w with w | w | w
    · exact Or.inr (Or.inr w)
    · exact Or.inl w
    · exact Or.inr (Or.inl w)
  · by_cases w : s = t
    · rw [w, tUp_s]
    · rw [tUp_k w]
  · by_cases w : s = t
    · rw [w, tUp_s, pI_n nP]
    · rw [tUp_k w]
  · by_cases w : k < n
    · rw [ea k w]
      have := h3 k hk w
      exact ⟨this.1, Or.inl this.2⟩
    · rw [show k = n by omega, eT]; exact ⟨nP, Or.inr rfl⟩
  · rcases hq with hq | hq
    · obtain ⟨k, a1, a2, a3⟩ := h4 s hs hq
      exact ⟨k, a1, by omega, (ea k a2).trans a3⟩
    · exact ⟨n, h2, by omega, eT.trans hq.symm⟩
theorem rgI_big {L : Nat} (h : rgI f A n a P Q M rd) (hl : L ≤ n) (hat : atW f n p t) : bigP L (fun s => (P s ∨ Q s) ∨ s = t) := by
  obtain ⟨g, g1, g2⟩ := bigP_of (P := fun s => (P s ∨ Q s) ∨ s = t) h.1.1 (fun i hi => Or.inl (h.1.2.1 i hi).1) (Or.inr rfl) (atW_n hat)
  exact ⟨g, fun i j x y => g1 i j x (by omega), fun i x => g2 i (by omega)⟩
end RgI
/-! the rounds: fr is where the tuples of round r begin -/
def rgR (c : LC) (x : Nat → Int32) (n : Nat) (y : Nat → Int32) (m : Nat) (f A : Nat → Int32) (len fr r : Nat) : Prop :=
  ∃ M, isW f len (rS c x n y m r).2 (fun _ => 1) M ∧ (∀ q t, q ≤ r → (rS c x n y m q).1 t → M t = iI (q : Int)) ∧ fr ≤ len ∧ len ≤ 120 ∧ (∀ k, fr ≤ k → k < len → (rS c x n y m r).1 (arT A k)) ∧ (∀ s, (rS c x n y m r).1 s → ∃ k, fr ≤ k ∧ k < len ∧ arT A k = s) ∧
    (1 ≤ r → ∃ t, (rS c x n y m (r - 1)).1 t) ∧ (41 ≤ r → fr = len)
/-- in a round behind round r: the tuples fr to k have gone on -/
def rgK (c : LC) (x : Nat → Int32) (n : Nat) (y : Nat → Int32) (m : Nat) (f A : Nat → Int32) (len fr to k r : Nat) (M : Tup → Int32) (T : Nat → Tup) : Prop :=
  (∀ i, i < to → arT A i = T i) ∧ rgI f A len to (rS c x n y m r).2 (fun s => ∃ i, fr ≤ i ∧ i < k ∧ rGo c y m (T i) s) M (iI ((r : Int) + 1)) ∧ (∀ q t, q ≤ r → (rS c x n y m q).1 t → M t = iI (q : Int)) ∧ (∀ i, fr ≤ i → i < to → (rS c x n y m r).1 (T i)) ∧ (∀ s, (rS c x n y m r).1 s → ∃ i, fr ≤ i ∧ i < to ∧ T i = s) ∧ (40 ≤ r → len = to) ∧ len ≤ 120 ∧ to ≤ 120
section Rounds
variable {c : LC} {x y f f' A A' : Nat → Int32} {n m len len' fr to k r : Nat} {M : Tup → Int32} {T : Nat → Tup}
theorem rg_init {M : Tup → Int32} (h : rgI f A len 0 (fun _ => False) (fun s => ∃ i, i < n ∧ 0 < (x (6 * i + 4)).toInt ∧ tup x i = s) M (iI 0)) (hl : len ≤ 120) : rgR c x n y m f A len 0 0 := by
  obtain ⟨h1, h2, h3, h4⟩ := h
  refine ⟨fun _ => iI 0, isW_q h1 (fun s => ⟨fun w => Or.inr w, fun w => w.resolve_left (fun q => q)⟩) (fun _ _ => rfl) (fun s _ => (pI_n (fun q => q)).symm), fun q t hq _ => by rw [show q = 0 by omega]; rfl, Nat.zero_le _, hl, fun k _ hk => (h3 k (Nat.zero_le _) hk).2, fun s hs => ?_, fun w => absurd w (by omega), fun w => absurd w (by omega)⟩
  exact h4 s (fun q => q) hs
theorem rg_enter (h : rgR c x n y m f A len fr r) : ∃ M T, rgK c x n y m f A len fr len fr r M T := by
  obtain ⟨M, h1, h2, h3, h4, h5, h6, h7, h8⟩ := h
  refine ⟨M, arT A, fun _ _ => rfl, ⟨isW_q h1 (fun s => ⟨fun w => ?_, fun w => Or.inl w⟩) (fun _ _ => rfl) (fun s hs => pI_y hs), Nat.le_refl _, fun k a b => absurd b (by omega), fun s _ ⟨i, a, b, _⟩ => absurd b (by omega)⟩, h2, h5, h6, fun _ => rfl, h4, h4⟩
  rcases w with w | ⟨i, a, b, _⟩
  · exact w
  · exact absurd b (by omega)
theorem rg_step (h : rgK c x n y m f A len fr to k r M T) (hk : fr ≤ k) (q : rgI f' A' len' to (rS c x n y m r).2 (fun s => (∃ i, fr ≤ i ∧ i < k ∧ rGo c y m (T i) s) ∨ rGo c y m (T k) s) M (iI ((r : Int) + 1))) (eA : ∀ j, j < 4 * len → A' j = A j) (hl : 40 ≤ r → len' = len) (h120 : len' ≤ 120) : rgK c x n y m f' A' len' fr to (k + 1) r M T := by
  obtain ⟨h1, h2, h3, h4, h5, h6, h7, h8⟩ := h
  have hto := h2.2.1
  refine ⟨fun i hi => ?_, rgI_q q (fun s => ?_), h3, h4, h5, fun w => (hl w).trans (h6 w), h120, h8⟩
  · rw [← h1 i hi]; exact arT_c (fun j hj => eA _ (by omega))
  · refine ⟨fun w => ?_, fun w => ?_⟩
    · rcases w with w | ⟨i, a, b, d⟩
      · exact Or.inl w
      · by_cases e : i = k
        · exact Or.inr (Or.inr (by rw [← e]; exact d))
        · exact Or.inr (Or.inl ⟨i, a, by omega, d⟩)
    · rcases w with w | ⟨i, a, b, d⟩ | d
      · exact Or.inl w
      · exact Or.inr ⟨i, a, by omega, d⟩
      · exact Or.inr ⟨k, hk, by omega, d⟩
theorem rg_new (h : rgK c x n y m f A len fr to k r M T) (hk : k ≤ to) {s : Tup} (hq : ∃ i, fr ≤ i ∧ i < k ∧ rGo c y m (T i) s) (hn : ¬ (rS c x n y m r).2 s) : (rS c x n y m (r + 1)).1 s := by
  obtain ⟨i, a, b, d⟩ := hq
  exact ⟨⟨T i, h.2.2.2.1 i a (by omega), d⟩, hn⟩
theorem rg_round (h : rgK c x n y m f A len fr to to r M T) (hlt : fr < to) : rgR c x n y m f A len to (r + 1) := by
  have hnew := fun {s} => rg_new h (Nat.le_refl _) (s := s)
  obtain ⟨h1, h2, h3, h4, h5, h6, h7, h8⟩ := h
  obtain ⟨g1, g2, g3, g4⟩ := h2
  have hq : ∀ s, (rS c x n y m (r + 1)).1 s → ∃ i, fr ≤ i ∧ i < to ∧ rGo c y m (T i) s := fun s ⟨⟨t, ht, d⟩, _⟩ => by
    obtain ⟨i, a, b, e⟩ := h5 t ht
    exact ⟨i, a, b, by rw [e]; exact d⟩
  refine ⟨fun t => pI ((rS c x n y m r).2 t) (M t) (iI ((r : Int) + 1)), isW_q g1 (fun s => ⟨fun w => ?_, fun w => ?_⟩) (fun _ _ => rfl) (fun _ _ => rfl), fun q t hq9 ht => ?_, g2, h7, fun k a b => ?_, fun s hs => ?_, fun _ => ?_, fun w => ?_⟩
  · rcases w with w | w
    · exact Or.inl w
    · exact Or.inr (hq s w)
  · by_cases v : (rS c x n y m r).2 s
    · exact Or.inl v
    · exact Or.inr (hnew (w.resolve_left v) v)
  · by_cases e : q = r + 1
    · subst e
      show pI ((rS c x n y m r).2 t) (M t) (iI ((r : Int) + 1)) = _
      rw [pI_n ht.2]; rfl
    · show pI ((rS c x n y m r).2 t) (M t) (iI ((r : Int) + 1)) = _
      rw [pI_y (rS_lt (by omega) t (rS_new q t ht))]
      exact h3 q t (by omega) ht
  · have := g3 k a b
    exact hnew this.2 this.1
  · exact g4 s hs.2 (hq s hs)
  · exact ⟨T fr, h4 fr (Nat.le_refl _) hlt⟩
  · exact (h6 (by omega)).symm
theorem rg_big (h : rgK c x n y m f A len fr to k r M T) (hk : fr ≤ k) (hk2 : k < to) (hr : r + 1 ≤ 40) (hb : bigP 120 (fun s => (rS c x n y m r).2 s ∨ (∃ i, fr ≤ i ∧ i < k ∧ rGo c y m (T i) s) ∨ rGo c y m (T k) s)) : ∃ q, q ≤ 40 ∧ bigP 120 (rS c x n y m q).2 := by
  refine ⟨r + 1, hr, bigP_m hb (fun s hs => ?_)⟩
  by_cases v : (rS c x n y m r).2 s
  · exact Or.inl v
  · rcases hs with hs | ⟨i, a, b, d⟩ | d
    · exact absurd hs v
    · exact Or.inr ⟨⟨T i, h.2.2.2.1 i a (by omega), d⟩, v⟩
    · exact Or.inr ⟨⟨T k, h.2.2.2.1 k hk hk2, d⟩, v⟩
theorem rg_many (h : rgK c x n y m f A len fr to k r M T) (hk : fr ≤ k) (hk2 : k < to) (hr : r = 40) {s : Tup} (hs : ¬ ((rS c x n y m r).2 s ∨ ∃ i, fr ≤ i ∧ i < k ∧ rGo c y m (T i) s)) (hg : rGo c y m (T k) s) : (∃ t, (rS c x n y m 41).1 t) ∧ ¬ bigP 120 (rS c x n y m 40).2 := by
  subst hr
  refine ⟨⟨s, ⟨T k, h.2.2.2.1 k hk hk2, hg⟩, fun w => hs (Or.inl w)⟩, fun hb => ?_⟩
  have := isW_big h.2.1.1 (bigP_m hb (fun t ht => Or.inl ht))
  have := h.2.2.2.2.2.2.1
  omega
theorem rg_end (h : rgR c x n y m f A len fr r) (hr : r ≤ 41) (he : fr = len ∨ r = 41) : ∃ R, rgY c x n y m R f len := by
  obtain ⟨M, h1, h2, h3, h4, h5, h6, h7, h8⟩ := h
  have no : ∀ t, ¬ (rS c x n y m r).1 t := fun t ht => by
    obtain ⟨k, a, b, _⟩ := h6 t ht
    rcases he with e | e
    · omega
    · have := h8 (by omega)
      omega
  by_cases w : r = 0
  · subst w
    refine ⟨0, by omega, fun t ⟨⟨s, hs, _⟩, _⟩ => no s hs, Or.inl rfl, h4, M, h1, h2⟩
  · obtain ⟨p, rfl⟩ : ∃ p, r = p + 1 := ⟨r - 1, by omega⟩
    refine ⟨p, by omega, no, Or.inr (h7 (by omega)), h4, M, isW_q h1 (fun t => ⟨fun q => Or.inl q, fun q => ?_⟩) (fun _ _ => rfl) (fun _ _ => rfl), fun q t hq ht => h2 q t (by omega) ht⟩
    rcases q with q | q
    · exact q
    · exact absurd q (no t)
end Rounds
/-! steps of the walk -/
def rQ0 (x : Nat → Int32) (n : Nat) : Tup → Prop := fun s => ∃ i, i < n ∧ 0 < (x (6 * i + 4)).toInt ∧ tup x i = s
section RWalk
variable {c : LC} {x y f A : Nat → Int32} {n m i j a p : Nat} {P Q : Tup → Prop} {M : Tup → Int32} {rd : Int32} {t s : Tup}
theorem insW_m {f f1 f2 : Nat → Int32} {p n : Nat} {t : Tup} {c m0 m : Int32} (h : insW f f1 p n t c m0) (e : ∀ j, j ≠ 6 * p + 5 → f2 j = f1 j) (e5 : f2 (6 * p + 5) = m) : insW f f2 p n t c m := by
  obtain ⟨h1, h2, h3⟩ := h
  refine ⟨fun i hi j hj => by rw [e _ (by omega)]; exact h1 i hi j hj, ⟨?_, by rw [e _ (by omega)]; exact h2.2.1, e5⟩, fun i hi hn j hj => by rw [e _ (by omega)]; exact h3 i hi hn j hj⟩
  rw [← h2.1]
  exact tg_x (fun k hk => by rw [tg_up k hk, tg_up k hk, e _ (by omega)])
theorem rgI_n (h : rgI f A n a P Q M rd) (hat : atW f n p t) : ¬ (P t ∨ Q t) := isW_n h.1 (atW_n hat)
theorem rGo_m (h : j ≤ m) (w : rGo c y j t s) : rGo c y m t s := by
  obtain ⟨k, a, b⟩ := w
  exact ⟨k, by omega, b⟩
theorem rg_go (h1 : 0 < (y (6 * j + 4)).toInt) (h2 : tg t (c.1 7).toNat = tg (tup y j) (c.1 8).toNat) (hj : j < m) : rGo c y m t (trT c (sdH c t (tup y j))) := ⟨j, hj, h1, h2, rfl⟩
theorem rg_q1 (h1 : 0 < (y (6 * j + 4)).toInt) (h2 : tg t (c.1 7).toNat = tg (tup y j) (c.1 8).toNat) : (P s ∨ Q s ∨ rGo c y j t s ∨ (0 < (y (6 * j + 4)).toInt ∧ tg t (c.1 7).toNat = tg (tup y j) (c.1 8).toNat ∧ trT c (sdH c t (tup y j)) = s)) ↔ (P s ∨ (Q s ∨ rGo c y j t s) ∨ s = trT c (sdH c t (tup y j))) := by
  constructor
  · rintro (h | h | h | ⟨_, _, h⟩)
    · exact Or.inl h
    · exact Or.inr (Or.inl (Or.inl h))
    · exact Or.inr (Or.inl (Or.inr h))
    · exact Or.inr (Or.inr h.symm)
  · rintro (h | (h | h) | h)
    · exact Or.inl h
    · exact Or.inr (Or.inl h)
    · exact Or.inr (Or.inr (Or.inl h))
    · exact Or.inr (Or.inr (Or.inr ⟨h1, h2, h.symm⟩))
theorem rg_q2 (h1 : 0 < (y (6 * j + 4)).toInt) (h2 : tg t (c.1 7).toNat = tg (tup y j) (c.1 8).toNat) (h3 : P (trT c (sdH c t (tup y j))) ∨ Q (trT c (sdH c t (tup y j))) ∨ rGo c y j t (trT c (sdH c t (tup y j)))) : (P s ∨ Q s ∨ rGo c y j t s ∨ (0 < (y (6 * j + 4)).toInt ∧ tg t (c.1 7).toNat = tg (tup y j) (c.1 8).toNat ∧ trT c (sdH c t (tup y j)) = s)) ↔ (P s ∨ Q s ∨ rGo c y j t s) := by
  constructor
  · rintro (h | h | h | ⟨_, _, h⟩)
    · exact Or.inl h
    · exact Or.inr (Or.inl h)
    · exact Or.inr (Or.inr h)
    · rw [← h]; exact h3
  · rintro (h | h | h)
    · exact Or.inl h
    · exact Or.inr (Or.inl h)
    · exact Or.inr (Or.inr (Or.inl h))
theorem rg_q3 (h1 : ¬ (0 < (y (6 * j + 4)).toInt ∧ tg t (c.1 7).toNat = tg (tup y j) (c.1 8).toNat ∧ trT c (sdH c t (tup y j)) = s)) : (P s ∨ Q s ∨ rGo c y j t s ∨ (0 < (y (6 * j + 4)).toInt ∧ tg t (c.1 7).toNat = tg (tup y j) (c.1 8).toNat ∧ trT c (sdH c t (tup y j)) = s)) ↔ (P s ∨ Q s ∨ rGo c y j t s) := by
  constructor
  · rintro (h | h | h | h)
    · exact Or.inl h
    · exact Or.inr (Or.inl h)
    · exact Or.inr (Or.inr h)
    · exact absurd h h1
  · rintro (h | h | h)
    · exact Or.inl h
    · exact Or.inr (Or.inl h)
    · exact Or.inr (Or.inr (Or.inl h))
theorem rg_zero : rgI f A 0 0 (fun _ => False) (rQ0 x 0) zM (iI 0) :=
  ⟨isW_0 (fun t h => h.elim (fun h => h) (fun ⟨i, hi, _⟩ => Nat.not_lt_zero i hi)), Nat.le_refl _, fun k _ h => absurd h (Nat.not_lt_zero k), fun s _ ⟨i, hi, _⟩ => absurd hi (Nat.not_lt_zero i)⟩
theorem rg_at (h : rgI f A n 0 (fun _ => False) (rQ0 x i) M rd) (hx : okB x m) (hi : i < m) : atW f n n (tup x i) := by
  refine ⟨Nat.le_refl _, fun r hr => ?_, fun r a b => absurd b (by omega)⟩
  obtain ⟨k, hk, _, e⟩ := ((h.1.2.1 r hr).1).resolve_left (fun h => h)
  rw [← e]; exact hx.1 k i hk hi
theorem rq0_y (h : 0 < (x (6 * i + 4)).toInt) : (False ∨ rQ0 x (i + 1) s) ↔ (False ∨ rQ0 x i s ∨ s = tup x i) := by
  constructor
  · rintro (h | ⟨k, hk, a, b⟩)
    · exact Or.inl h
    · by_cases w : k = i
      · exact Or.inr (Or.inr (by rw [← b, w]))
      · exact Or.inr (Or.inl ⟨k, by omega, a, b⟩)
  · rintro (w | ⟨k, hk, a, b⟩ | w)
    · exact Or.inl w
    · exact Or.inr ⟨k, by omega, a, b⟩
    · exact Or.inr ⟨i, by omega, h, w.symm⟩
theorem rq0_n (h : ¬ 0 < (x (6 * i + 4)).toInt) : (False ∨ rQ0 x (i + 1) s) ↔ (False ∨ rQ0 x i s) := by
  constructor
  · rintro (h | ⟨k, hk, a, b⟩)
    · exact Or.inl h
    · by_cases w : k = i
      · rw [w] at a; exact absurd a h
      · exact Or.inr ⟨k, by omega, a, b⟩
  · rintro (w | ⟨k, hk, a, b⟩)
    · exact Or.inl w
    · exact Or.inr ⟨k, by omega, a, b⟩
end RWalk
theorem rgR_le {c : LC} {x y f A : Nat → Int32} {n m len fr r : Nat} (h : rgR c x n y m f A len fr r) : fr ≤ len ∧ len ≤ 120 := by
  obtain ⟨M, h1, h2, h3, h4, h5⟩ := h
  exact ⟨h3, h4⟩
end
section
/-! the relations of a plan -/
def rob (AR : gR) (b r : Nat) : Nat := (AR b r).getD 0
theorem rob_e {AR : gR} {b r y : Nat} (h : AR b r = some y) : rob AR b r = y := by unfold rob; rw [h]; rfl
/-- what an array of bags has -/
def rfC (gh : gGh) (AR : gR) (I AI : gI) (b : Nat) : RF := fun r => ((I (rob AR b r) 3).toInt.toNat, AI (gh 0 (rob AR b r)))
def cOK (c : LC) (r : Nat) (cl : Nat → Int) : Prop :=
  (1 ≤ c.1 0 ∧ c.1 0 ≤ 8 ∧ 0 ≤ c.1 2 ∧ c.1 2 < (r : Int) ∧ -1 ≤ c.1 3 ∧ c.1 3 < (r : Int)) ∧ ((c.1 0 = 3 ∨ c.1 0 = 4 ∨ c.1 0 = 5 ∨ c.1 0 = 8) → 0 ≤ c.1 3) ∧
  (c.1 0 = 2 → 0 ≤ c.1 4 ∧ ∀ k : Nat, (k : Int) < c.1 4 → c.2 k 0 < 4) ∧ (c.1 0 = 3 → jOK c ∧ c.1 5 = cl (c.1 2).toNat ∧ c.1 6 = cl (c.1 3).toNat) ∧
  (c.1 0 = 7 → (0 ≤ c.1 4 ∧ c.1 4 ≤ 3) ∧ (0 ≤ c.1 9 ∧ c.1 9 ≤ 3) ∧ 0 ≤ c.1 10 ∧ c.1 10 ≤ 3) ∧ (c.1 0 = 8 → rOK c ∧ c.1 5 = cl (c.1 2).toNat ∧ c.1 6 = cl (c.1 3).toNat)
/-- the columns of a view -/
def cZ (c : LC) (r : Nat) (cl : Nat → Int) : Prop :=
  (c.1 0 = 1 ∨ c.1 0 = 6 → cl r = cl (c.1 2).toNat) ∧ (c.1 0 = 4 ∨ c.1 0 = 5 → cl r = cl (c.1 2).toNat ∧ cl (c.1 3).toNat = cl (c.1 2).toNat) ∧ (c.1 0 = 2 → cl r = c.1 4) ∧ (c.1 0 = 3 → cl r = c.1 5 + jc c (c.1 6).toNat) ∧ (c.1 0 = 7 → cl r = c.1 4 + 1) ∧ (c.1 0 = 8 → cl r = c.1 5)
def bgOK (F : RF) (cl : Nat → Int) (r : Nat) : Prop := okB (F r).2 (F r).1 ∧ (F r).1 ≤ 120 ∧ zB (cl r) (F r).2 (F r).1
section Vw
variable {c : LC} {F : RF} {x y f : Nat → Int32} {n m k r : Nat} {z len : Int} {cl : Nat → Int} {t : Tup}
theorem vw_1 (hk : c.1 0 = 1 ∨ c.1 0 = 2 ∨ c.1 0 = 6) (h1 : F (c.1 2).toNat = (n, x)) (h : z = 0 ∧ isB f len.toNat (sR (vK c) (vA c) x n s0T) zM ∧ len ≤ (n : Int)) (hn : n ≤ 120) : vwP c F z f len.toNat := by
  unfold vwP
  rw [if_neg (by omega)]
  refine Or.inl ⟨h.1, fun q => by have := q.1; omega, ?_, by omega⟩
  unfold vS
  rw [if_neg (by omega), if_neg (by omega), if_neg (by omega), if_neg (by omega), h1]
  exact h.2.1
theorem vw_7 (hk : c.1 0 = 7) (h1 : F (c.1 2).toNat = (n, x)) (h : z = 0 ∧ isB f len.toNat (sG c x n) zM ∧ len ≤ (n : Int)) (hn : n ≤ 120) : vwP c F z f len.toNat := by
  unfold vwP
  rw [if_neg (by omega)]
  refine Or.inl ⟨h.1, fun q => by have := q.1; omega, ?_, by omega⟩
  unfold vS
  rw [if_neg (by omega), if_neg (by omega), if_neg (by omega), if_pos hk, h1]
  exact h.2.1
theorem vw_8 (hk : c.1 0 = 8) (h1 : F (c.1 2).toNat = (n, x)) (h2 : F (c.1 3).toNat = (m, y)) (h : rgP c x n y m z f k) : vwP c F z f k := by
  unfold vwP
  rw [if_pos hk, h1, h2]; exact h
theorem vw_3 (hk : c.1 0 = 3) (h1 : F (c.1 2).toNat = (n, x)) (h2 : F (c.1 3).toNat = (m, y)) (h : (z = 0 ∧ ¬ 1500 < pJ c x y m n ∧ isB f len.toNat (sJ c x y m n) zM ∧ len ≤ 120) ∨ (z = -3 ∧ (1500 < pJ c x y m n ∨ bigP 120 (fun t => sJ c x y m n t ≠ 0)))) : vwP c F z f len.toNat := by
  have es : vS c F = sJ c x y m n := by unfold vS; rw [if_pos hk, h1, h2]
  have em : vMany c F ↔ 1500 < pJ c x y m n := by unfold vMany; rw [h1, h2]; exact ⟨fun q => q.2, fun q => ⟨hk, q⟩⟩
  unfold vwP
  rw [if_neg (by omega), es, em]
  rcases h with ⟨a, b, d, e⟩ | h
  · exact Or.inl ⟨a, b, d, by omega⟩
  · exact Or.inr h
theorem vw_4 {sg : Int} {w : Int} (hk : (c.1 0 = 4 ∧ sg = 1) ∨ (c.1 0 = 5 ∧ sg = -1)) (h1 : F (c.1 2).toNat = (n, x)) (h2 : F (c.1 3).toNat = (m, y)) (h : (w = 1 ∧ isB f len.toNat (fun t => bS x n t + iI sg * bS y m t) zM) ∨ (w = 0 ∧ bigP 120 (fun t => bS x n t + iI sg * bS y m t ≠ 0))) (hl : len ≤ 120) (hz : (w = 1 ∧ z = 0) ∨ (w = 0 ∧ z = -3)) : vwP c F z f len.toNat := by
  have es : vS c F = fun t => bS x n t + iI sg * bS y m t := by
    unfold vS
    rcases hk with ⟨a, b⟩ | ⟨a, b⟩
    · rw [if_neg (by omega), if_pos a, h1, h2, b]
    · rw [if_neg (by omega), if_neg (by omega), if_pos a, h1, h2, b]
  unfold vwP
  rw [if_neg (by omega), es]
  rcases h with ⟨a, b⟩ | ⟨a, b⟩
  · exact Or.inl ⟨by omega, fun q => by have := q.1; omega, b, by omega⟩
  · exact Or.inr ⟨by omega, Or.inr b⟩
/-! what a view has is a bag again, 0 beyond its columns -/
theorem zT_m {a b : Int} {t : Tup} (h : a ≤ b) (k : zT a t) : zT b t := fun j h1 h2 => k j (by omega) h2
theorem zB_of {cols : Int} {f : Nat → Int32} {n : Nat} {P : Tup → Prop} {S M : Tup → Int32} (a : isW f n P S M) (h : ∀ t, P t → zT cols t) : zB cols f n := fun i hi => h _ (a.2.1 i hi).1
theorem trT_z {h : Nat → Int32} : zT (c.1 4) (trT c h) := fun k h1 h2 => by unfold trT; rw [tg_mk k h2, if_neg (by omega)]
theorem jn_z {u : Tup} (h5 : 0 ≤ c.1 5) (h6 : c.1 5 ≤ 4) : zT (c.1 5 + jc c (c.1 6).toNat) (jn c t u) := fun k h1 h2 => by
  unfold jn
  rw [tg_mk k h2, if_neg (by omega), jat_n _ (by omega)]
theorem bS_z {cols : Int} (h : zB cols f n) (hs : bS f n t ≠ 0) : zT cols t := by
  apply Classical.byContradiction
  intro q
  exact hs (bS_n n (fun i hi e => q (by rw [← e]; exact h i hi)))
theorem vw_ok (hc : cOK c r cl) (hz : cZ c r cl) (hb : ∀ q, q < r → bgOK F cl q) (h : vwP c F 0 f k) : okB f k ∧ k ≤ 120 ∧ zB (cl r) f k := by
  obtain ⟨⟨k1, k2, k3, k4, k5, k6⟩, k7, k8, k9, k10, k11⟩ := hc
  obtain ⟨z1, z4, z2, z3, z7, z8⟩ := hz
  have b1 := hb (c.1 2).toNat (by omega)
  unfold vwP at h
  by_cases w8 : c.1 0 = 8
  · rw [if_pos w8] at h
    rcases h with ⟨_, R, h1, h2, h3, h4, M, h5, h6⟩ | ⟨h, _⟩ | ⟨h, _⟩
    · refine ⟨⟨h5.1, fun i hi => by rw [(h5.2.1 i hi).2.1]; exact (by decide : (1 : Int32) ≠ 0)⟩, h4, ?_⟩
      rw [z8 w8]
      obtain ⟨hr, e5, e6⟩ := k11 w8
      refine zB_of h5 (fun t ht => ?_)
      obtain ⟨q, _, e⟩ := rS_at R t ht
      cases q with
      | zero =>
        obtain ⟨i, hi, _, e⟩ := e
        rw [← e, e5]; exact b1.2.2 i hi
      | succ q =>
        obtain ⟨⟨s, _, j, _, _, _, e⟩, _⟩ := e
        rw [← e, ← hr.2.2.2.1]; exact trT_z
    · exact absurd h (by decide)
    · exact absurd h (by decide)
  · rw [if_neg w8] at h
    rcases h with ⟨_, _, h1, h2⟩ | ⟨h, _⟩
    · refine ⟨okB_of h1, h2, zB_of h1 (fun t ht => ?_)⟩
      have ht : vS c F t ≠ 0 := ht
      unfold vS at ht
      by_cases w3 : c.1 0 = 3
      · rw [if_pos w3] at ht
        obtain ⟨i, j, _, _, _, e⟩ := sJ_supp _ _ ht
        rw [← e, z3 w3]; exact jn_z (k9 w3).1.1 (k9 w3).1.2.1
      · rw [if_neg w3] at ht
        by_cases w4 : c.1 0 = 4 ∨ c.1 0 = 5
        · have b2 := hb (c.1 3).toNat (by have := k7 (by omega); omega)
          have e := z4 w4
          have hor : bS (F (c.1 2).toNat).2 (F (c.1 2).toNat).1 t ≠ 0 ∨ bS (F (c.1 3).toNat).2 (F (c.1 3).toNat).1 t ≠ 0 := by
            by_cases q : bS (F (c.1 2).toNat).2 (F (c.1 2).toNat).1 t = 0
            · refine Or.inr (fun q2 => ?_)
              rcases w4 with w | w
              · rw [if_pos w] at ht
                have ht : bS (F (c.1 2).toNat).2 (F (c.1 2).toNat).1 t + iI 1 * bS (F (c.1 3).toNat).2 (F (c.1 3).toNat).1 t ≠ 0 := ht
                rw [q, q2, Int32.mul_zero, Int32.add_zero] at ht; exact ht rfl
              · rw [if_neg (by omega), if_pos w] at ht
                have ht : bS (F (c.1 2).toNat).2 (F (c.1 2).toNat).1 t + iI (-1) * bS (F (c.1 3).toNat).2 (F (c.1 3).toNat).1 t ≠ 0 := ht
                rw [q, q2, Int32.mul_zero, Int32.add_zero] at ht; exact ht rfl
            · exact Or.inl q
          rcases hor with q | q
          · rw [e.1]; exact bS_z b1.2.2 q
          · rw [e.1, ← e.2]; exact bS_z b2.2.2 q
        · rw [if_neg (by omega), if_neg (by omega)] at ht
          by_cases w7 : c.1 0 = 7
          · rw [if_pos w7] at ht
            obtain ⟨i, hi, e⟩ := pI_ne ht
            have k10 := k10 w7
            rw [← e, z7 w7]
            intro j h1 h2
            unfold gTp
            rw [tg_ts h2, if_neg (by omega)]
            exact gk_z (by omega) h2
          · rw [if_neg w7] at ht
            rcases sR_supp _ _ ht with q | ⟨j, hj, _, e⟩
            · exact absurd rfl q
            · rw [← e]
              by_cases w2 : c.1 0 = 2
              · rw [vK_2 w2, z2 w2]; exact trT_z
              · rw [vK_id w2, z1 (by omega)]; exact b1.2.2 j hj
    · exact absurd h (by decide)
end Vw
end
section
/-! changes of tables -/
def btu (f : Nat → Int32) (i : Nat) : Tup := (f (6 * i + 1), f (6 * i + 2), f (6 * i + 3), f (6 * i + 4))
theorem btu_at {f : Nat → Int32} {i k : Nat} (hk : k < 4) : tg (btu f i) k = f (6 * i + 1 + k) := by
  match k, hk with
  | 0, _ => rfl
  | 1, _ => rfl
  | 2, _ => rfl
  | 3, _ => rfl
  | k + 4, h => exact absurd h (by omega)
/-- by how much a table's tuple becomes more -/
def cS (f : Nat → Int32) (tb : Int) : Nat → Tup → Int32
  | 0, _ => 0
  | i + 1, t => if (f (6 * i)).toInt = tb ∧ btu f i = t then f (6 * i + 5) else cS f tb i t
/-- a batch: in order, no amount is 0 -/
def btO (f : Nat → Int32) (n : Nat) : Prop := srt 5 f (n : Int) ∧ ∀ i, i < n → f (6 * i + 5) ≠ 0
section Batch
variable {f f' g : Nat → Int32} {n m i j : Nat} {tb : Int} {t : Tup}
theorem bt_lt (h : srt 5 f (n : Int)) (hij : i < j) (hj : j < n) (e : (f (6 * i)).toInt = (f (6 * j)).toInt) : tc (btu f i) (btu f j) = -1 := by
  have q := h i j hij (by omega)
  unfold kc at q
  rw [kcF_lt] at q
  obtain ⟨q, _, q1, q2, q3⟩ := q
  have q0 : q ≠ 0 := fun w => by
    rw [w, ry6_e, ry6_e, Nat.add_zero, Nat.add_zero, e] at q3
    omega
  rw [tc_lt]
  refine ⟨q - 1, by omega, fun r hr => ?_, ?_⟩
  · have := q2 (r + 1) (Nat.zero_le _) (by omega)
    rw [ry6_e, ry6_e] at this
    rw [btu_at (by omega), btu_at (by omega)]
    apply Int32.toInt_inj.mp
    rw [show 6 * i + 1 + r = 6 * i + (r + 1) by omega, show 6 * j + 1 + r = 6 * j + (r + 1) by omega]; exact this
  · rw [ry6_e, ry6_e] at q3
    unfold tu
    rw [btu_at (by omega), btu_at (by omega), show 6 * i + 1 + (q - 1) = 6 * i + q by omega, show 6 * j + 1 + (q - 1) = 6 * j + q by omega]; exact q3
theorem cS_n : ∀ i, (∀ j, j < i → ¬ ((f (6 * j)).toInt = tb ∧ btu f j = t)) → cS f tb i t = 0
  | 0, _ => rfl
  | i + 1, h => by rw [cS, if_neg (h i (by omega))]; exact cS_n i (fun j hj => h j (by omega))
theorem cS_c {f f' : Nat → Int32} : ∀ n, (∀ j, j < 6 * n → f' j = f j) → cS f' tb n t = cS f tb n t
  | 0, _ => rfl
  | n + 1, h => by
    have e : btu f' n = btu f n := by unfold btu; rw [h _ (by omega), h _ (by omega), h _ (by omega), h _ (by omega)]
    rw [cS, cS, cS_c n (fun j hj => h j (by omega)), e, h _ (by omega), h _ (by omega)]
theorem cS_y (h : srt 5 f (n : Int)) : ∀ m, m ≤ n → j < m → (f (6 * j)).toInt = tb → cS f tb m (btu f j) = f (6 * j + 5)
  | 0, _, hj, _ => absurd hj (Nat.not_lt_zero _)
  | m + 1, hm, hj, e => by
    rw [cS]
    by_cases w : j = m
    · subst w; rw [if_pos ⟨e, rfl⟩]
    · rw [if_neg (fun q => ?_)]
      · exact cS_y h m (by omega) (by omega) e
      · exact tc_ne (bt_lt h (show j < m by omega) (by omega) (e.trans q.1.symm)) q.2.symm
/-- the changes of one table, picked so far: m rows -/
def pkI (f g : Nat → Int32) (n : Nat) (tb : Int) (m i : Nat) : Prop :=
  isB g m (fun t => cS f tb i t) zM ∧ m ≤ i ∧ ∀ r, r < m → ∃ j, j < i ∧ (f (6 * j)).toInt = tb ∧ tup g r = btu f j
theorem pkI_0 : pkI f g n tb 0 0 := ⟨isW_0 (fun t h => h rfl), Nat.le_refl _, fun r hr => absurd hr (Nat.not_lt_zero r)⟩
theorem pkI_n (h : pkI f g n tb m i) (hn : (f (6 * i)).toInt ≠ tb) : pkI f g n tb m (i + 1) := by
  refine ⟨isW_q h.1 (fun t => ?_) (fun t _ => ?_) (fun _ _ => rfl), by have := h.2.1; omega, fun r hr => ?_⟩
  · show cS f tb (i + 1) t ≠ 0 ↔ cS f tb i t ≠ 0
    rw [cS, if_neg (fun q => hn q.1)]
  · show cS f tb (i + 1) t = cS f tb i t
    rw [cS, if_neg (fun q => hn q.1)]
  · obtain ⟨j, a, b⟩ := h.2.2 r hr
    exact ⟨j, by omega, b⟩
theorem pkI_y {g' : Nat → Int32} (hb : btO f n) (hi : i < n) (h : pkI f g n tb m i) (he : (f (6 * i)).toInt = tb) (e : insW g g' m m (btu f i) (f (6 * i + 5)) 0) : pkI f g' n tb (m + 1) (i + 1) := by
  have lt : ∀ r, r < m → tc (tup g r) (btu f i) = -1 := fun r hr => by
    obtain ⟨j, a, b, d⟩ := h.2.2 r hr
    rw [d]; exact bt_lt hb.1 a hi (b.trans he.symm)
  have q := isB_ap h.1 lt e (hb.2 i hi)
  have z : cS f tb i (btu f i) = 0 := cS_n i (fun j hj w => tc_ne (bt_lt hb.1 hj hi (w.1.trans he.symm)) w.2)
  have es : (fun t => cS f tb (i + 1) t) = sAdd (fun t => cS f tb i t) (btu f i) (f (6 * i + 5)) := funext fun t => by
    by_cases w : t = btu f i
    · subst w
      have e1 : sAdd (fun t => cS f tb i t) (btu f i) (f (6 * i + 5)) (btu f i) = cS f tb i (btu f i) + f (6 * i + 5) := sAdd_s
      rw [e1, z, Int32.zero_add]
      show cS f tb (i + 1) (btu f i) = _
      rw [cS, if_pos ⟨he, rfl⟩]
    · rw [sAdd_k w]
      show cS f tb (i + 1) t = cS f tb i t
      rw [cS, if_neg (fun q => w q.2.symm)]
  refine ⟨by unfold isB at q ⊢; rw [es]; exact q, by have := h.2.1; omega, fun r hr => ?_⟩
  by_cases w : r < m
  · obtain ⟨j, a, b, d⟩ := h.2.2 r w
    exact ⟨j, by omega, b, (rwS_t (e.1 r w)).trans d⟩
  · exact ⟨i, by omega, he, by rw [show r = m by omega]; exact e.2.1.1⟩
end Batch
/-! what a batch would make of the relations -/
/-- a table's tuple falls below 0 -/
def blw (f : Nat → Int32) (F : RF) (sg : Int) (i : Nat) : Prop := (bS (F (f (6 * i)).toInt.toNat).2 (F (f (6 * i)).toInt.toNat).1 (btu f i) + iI sg * f (6 * i + 5)).toInt < 0
def tbS (f : Nat → Int32) (n : Nat) (F : RF) (sg : Int) (r : Nat) : Tup → Int32 := fun t => bS (F r).2 (F r).1 t + iI sg * cS f (r : Int) n t
/-- relation r is as it should be -/
def stP (tbs : Int) (c : Nat → LC) (T : Nat → Tup → Int32) (F : RF) (r : Nat) : Prop :=
  if (r : Int) < tbs then isB (F r).2 (F r).1 (T r) zM ∧ (F r).1 ≤ 120 else vwP (c r) F 0 (F r).2 (F r).1
def stF (tbs : Int) (c : Nat → LC) (T : Nat → Tup → Int32) (F : RF) (r : Nat) (z : Int) : Prop :=
  if (r : Int) < tbs then z = -3 ∧ bigP 120 (fun t => T r t ≠ 0) else z ≠ 0 ∧ ∃ f k, vwP (c r) F z f k
def rnP (tbs : Int) (nr : Nat) (c : Nat → LC) (bl : Prop) (T : Nat → Tup → Int32) (z : Int) (F : RF) : Prop :=
  (bl ∧ z = -2) ∨ (¬ bl ∧ ∃ r, r ≤ nr ∧ (∀ q, q < r → stP tbs c T F q) ∧ ((r = nr ∧ z = 0) ∨ (r < nr ∧ stF tbs c T F r z)))
section Rn
variable {tbs : Int} {nr r : Nat} {c : Nat → LC} {bl : Prop} {T : Nat → Tup → Int32} {z z' : Int} {F F' : RF}
/-- views look at relations ahead of them -/
def cLt (tbs : Int) (nr : Nat) (c : Nat → LC) : Prop := ∀ r : Nat, r < nr → tbs ≤ (r : Int) → (c r).1 2 < (r : Int) ∧ 0 ≤ (c r).1 2 ∧ (c r).1 3 < (r : Int)
theorem stP_u (hl : cLt tbs nr c) (hr : r ≤ nr) (a : ∀ q, q < r → stP tbs c T F q) (b : ∀ q, q < r → stP tbs c T F' q) : ∀ q, q < r → rfA F F' q := by
  have all : ∀ m q, q ≤ m → q < r → rfA F F' q := by
    intro m
    induction m with
    | zero =>
      intro q hq hr2
      have e : q = 0 := by omega
      subst e
      have x := a 0 hr2
      have y := b 0 hr2
      unfold stP at x y
      by_cases w : ((0 : Nat) : Int) < tbs
      · rw [if_pos w] at x y
        exact isW_u x.1 y.1 (fun _ _ => rfl) (fun _ _ => rfl)
      · have := hl 0 (by omega) (by omega)
        omega
    | succ m ih =>
      intro q hq hr2
      by_cases e : q ≤ m
      · exact ih q e hr2
      · have e : q = m + 1 := by omega
        subst e
        have x := a (m + 1) hr2
        have y := b (m + 1) hr2
        unfold stP at x y
        by_cases w : ((m + 1 : Nat) : Int) < tbs
        · rw [if_pos w] at x y
          exact isW_u x.1 y.1 (fun _ _ => rfl) (fun _ _ => rfl)
        · rw [if_neg w] at x y
          have l := hl (m + 1) (by omega) (by omega)
          have h1 := ih ((c (m + 1)).1 2).toNat (by omega) (by omega)
          have h2 := ih ((c (m + 1)).1 3).toNat (by omega) (by omega)
          have x := vwP_c h1 h2 x
          exact (vwP_u x y).2 rfl
  exact fun q hq => all q q (Nat.le_refl _) hq
theorem rnP_u (hl : cLt tbs nr c) (a : rnP tbs nr c bl T z F) (b : rnP tbs nr c bl T z' F') : z = z' ∧ (z = 0 → ∀ q, q < nr → rfA F F' q) := by
  rcases a with ⟨a1, a2⟩ | ⟨a1, r, a2, a3, a4⟩
  · rcases b with ⟨b1, b2⟩ | ⟨b1, _⟩
    · exact ⟨by omega, fun h => absurd h (by omega)⟩
    · exact absurd a1 b1
  · rcases b with ⟨b1, _⟩ | ⟨b1, s, b2, b3, b4⟩
    · exact absurd b1 a1
    · -- the first that is refused is one
      have nofail : ∀ {r s : Nat} {F F' : RF} {z : Int}, r < nr → r < s → s ≤ nr → (∀ q, q < r → stP tbs c T F q) → (∀ q, q < s → stP tbs c T F' q) → stF tbs c T F r z → False := fun {r s F F' z} h1 h2 h3 h4 h5 h6 => by
        have x := h5 r h2
        unfold stF at h6
        unfold stP at x
        by_cases w : (r : Int) < tbs
        · rw [if_pos w] at h6 x
          have := isW_big x.1 h6.2
          omega
        · rw [if_neg w] at h6 x
          obtain ⟨h6, f, k, h7⟩ := h6
          have l := hl r h1 (by omega)
          have e := stP_u hl (by omega) h4 (fun q hq => h5 q (by omega))
          have y := vwP_c (e ((c r).1 2).toNat (by omega)) (e ((c r).1 3).toNat (by omega)) h7
          exact h6 (vwP_u y x).1
      rcases Nat.lt_trichotomy r s with w | w | w
      · rcases a4 with ⟨a4, _⟩ | ⟨a4, a5⟩
        · omega
        · exact (nofail a4 w b2 a3 b3 a5).elim
      · subst w
        have e := stP_u hl a2 a3 b3
        rcases a4 with ⟨a4, a5⟩ | ⟨a4, a5⟩
        · rcases b4 with ⟨b4, b5⟩ | ⟨b4, b5⟩
          · exact ⟨by omega, fun _ q hq => e q (by omega)⟩
          · omega
        · rcases b4 with ⟨b4, b5⟩ | ⟨b4, b5⟩
          · omega
          · unfold stF at a5 b5
            by_cases v : (r : Int) < tbs
            · rw [if_pos v] at a5 b5
              exact ⟨by omega, fun h => absurd h (by omega)⟩
            · rw [if_neg v] at a5 b5
              obtain ⟨a5, f, k, a6⟩ := a5
              obtain ⟨b5, f', k', b6⟩ := b5
              have l := hl r a4 (by omega)
              have y := vwP_c (e ((c r).1 2).toNat (by omega)) (e ((c r).1 3).toNat (by omega)) a6
              exact ⟨(vwP_u y b6).1, fun h => absurd h a5⟩
      · rcases b4 with ⟨b4, _⟩ | ⟨b4, b5⟩
        · omega
        · exact (nofail b4 w a2 b3 a3 b5).elim
end Rn
end
section
/-! the bags that come next: who is who, what stays -/
def rsD (AR : gR) (b n : Nat) : Prop := ∀ i j, i < n → j < n → rob AR b i = rob AR b j → i = j
def rsX (AR : gR) (b n b' n' : Nat) : Prop := ∀ i j, i < n → j < n' → rob AR b i ≠ rob AR b' j
def nIf (gh : gGh) (AR : gR) (nA : Nat) (I I' : gI) : Prop := ∀ b, b ≠ gh 39 0 → (∀ r, r < 16 → rob AR nA r ≠ b) → I' b = I b
def nAf (gh : gGh) (AR : gR) (nA : Nat) (AI AI' : gI) : Prop := ∀ b, b ≠ gh 0 (gh 39 0) → (∀ r, r < 16 → gh 0 (rob AR nA r) ≠ b) → b ≠ gh 29 0 → b ≠ gh 30 0 → b ≠ gh 31 0 → b ≠ gh 32 0 → AI' b = AI b
section Next
variable {g : gG} {gh : gGh} {R AR : gR} {I I' I'' AI AI' AI'' I0 AI0 : gI} {nA bA b o q r n : Nat}
theorem nIf_r : nIf gh AR nA I I := fun _ _ _ => rfl
theorem nIf_t (h : nIf gh AR nA I I') (h' : nIf gh AR nA I' I'') : nIf gh AR nA I I'' := fun b a c => (h' b a c).trans (h b a c)
theorem nAf_r : nAf gh AR nA AI AI := fun _ _ _ _ _ _ _ => rfl
theorem nAf_t (h : nAf gh AR nA AI AI') (h' : nAf gh AR nA AI' AI'') : nAf gh AR nA AI AI'' := fun b a c d e f k => (h' b a c d e f k).trans (h b a c d e f k)
theorem nIf_n (hr : r < 16) (h : ∀ b, b ≠ rob AR nA r → I' b = I b) : nIf gh AR nA I I' := fun b _ c => h b (fun e => c r hr e.symm)
theorem nAf_n (hr : r < 16) (h : ∀ b, b ≠ gh 0 (rob AR nA r) → AI' b = AI b) : nAf gh AR nA AI AI' := fun b _ c _ _ _ _ => h b (fun e => c r hr e.symm)
theorem nAf_k (hr : r < 16) (h : kA gh (rob AR nA r) AI AI') : nAf gh AR nA AI AI' := fun b _ c _ e f k => h b (fun e => c r hr e.symm) e f k
theorem nIf_c (h : ∀ b, b ≠ gh 39 0 → I' b = I b) : nIf gh AR nA I I' := fun b a _ => h b a
theorem nAf_c (h : ∀ b, b ≠ gh 0 (gh 39 0) → b ≠ gh 29 0 → AI' b = AI b) : nAf gh AR nA AI AI' := fun b a _ d _ _ _ => h b a d
theorem nAf_y (h : ∀ b, b ≠ gh 29 0 → AI' b = AI b) : nAf gh AR nA AI AI' := fun b _ _ d _ _ _ => h b d
theorem isRA_o {lim key : Nat} (h : isRA g gh AR b n lim key) (hr : r < n) : AR b r = some (rob AR b r) ∧ gO g (rob AR b r) 4 ∧ gh 1 (rob AR b r) = lim ∧ gh 2 (rob AR b r) = key := by
  obtain ⟨y, a, c, d, e, _⟩ := h.2 r hr
  rw [rob_e a]; exact ⟨a, c, d, e⟩
theorem rfC_k (hI : I' (rob AR b r) = I (rob AR b r)) (hA : AI' (gh 0 (rob AR b r)) = AI (gh 0 (rob AR b r))) : rfC gh AR I' AI' b r = rfC gh AR I AI b r := by unfold rfC; rw [hI, hA]
/-- a Rows that is none of those that change stays -/
theorem nAf_o (f : nAf gh AR nA AI AI') (hv : gInv g gh R AR I0 AI0) {x : Nat} (hx : gO g x 6) (ho : gO g o 4) (hn : isRA g gh AR nA 16 120 4) (h39 : o ≠ gh 39 0) (hne : ∀ r, r < 16 → rob AR nA r ≠ o) : AI' (gh 0 o) = AI (gh 0 o) := by
  have a := gR_x4 hv hx
  have k := cells_k hv a.2 ho
  have t := gR_x10 hv hx
  refine f _ (cells_ne hv t.2.1 ho h39) (fun r hr e => ?_) (ne_9 (cells_9 hv ho) (ro29 hv hx) (by decide)) k.1 k.2.1 k.2.2
  have q := isRA_o hn hr
  exact cells_ne hv ho q.2.1 (hne r hr) e
theorem nAf_ln (f : nAf gh AR nA AI AI') (hv : gInv g gh R AR I0 AI0) {x ln : Nat} (hx : gO g x 6) (hl : gO g ln 0) (hn : isRA g gh AR nA 16 120 4) : AI' (gh 3 ln) = AI (gh 3 ln) := by
  have a := gR_x4 hv hx
  have t := gR_x10 hv hx
  have l9 := ln_9 hv hl
  refine f _ (ne_9 l9 (cells_9 hv t.2.1) (by decide)) (fun r hr e => ?_) (ne_9 l9 (ro29 hv hx) (by decide)) (ne_9 l9 (ro30 hv a.2) (by decide)) (ne_9 l9 (ro31 hv a.2) (by decide)) (ne_9 l9 (ro32 hv a.2) (by decide))
  exact ne_9 (cells_9 hv (isRA_o hn hr).2.1) l9 (by decide) e
end Next
section StP
variable {tbs : Int} {nr r q : Nat} {c : Nat → LC} {T : Nat → Tup → Int32} {F F' : RF} {cl : Nat → Int} {f : Nat → Int32} {n : Nat} {sg : Int}
theorem stP_k (hl : cLt tbs nr c) (hq : q < nr) (h : ∀ p, p ≤ q → F' p = F p) (a : stP tbs c T F q) : stP tbs c T F' q := by
  unfold stP at a ⊢
  rw [h q (Nat.le_refl _)]
  by_cases w : (q : Int) < tbs
  · rw [if_pos w] at a ⊢; exact a
  · rw [if_neg w] at a ⊢
    have l := hl q hq (by omega)
    refine vwP_c ?_ ?_ a
    · unfold rfA; rw [h ((c q).1 2).toNat (by omega)]; exact ⟨rfl, rwA_r⟩
    · unfold rfA; rw [h ((c q).1 3).toNat (by omega)]; exact ⟨rfl, rwA_r⟩
/-- a batch's changes have 0 beyond their tables' columns -/
def btZ (cl : Nat → Int) (f : Nat → Int32) (n : Nat) : Prop := ∀ i, i < n → zT (cl (f (6 * i)).toInt.toNat) (btu f i)
theorem cS_z {r : Nat} (hz : btZ cl f n) {t : Tup} : ∀ m, m ≤ n → cS f (r : Int) m t ≠ 0 → zT (cl r) t
  | 0, _, h => absurd rfl h
  | m + 1, hm, h => by
    rw [cS] at h
    by_cases w : (f (6 * m)).toInt = (r : Int) ∧ btu f m = t
    · have := hz m (by omega)
      rw [w.1, w.2] at this
      exact this
    · rw [if_neg w] at h
      exact cS_z hz m (by omega) h
theorem tb_ok {k : Nat} {g : Nat → Int32} (hF : zB (cl r) (F r).2 (F r).1) (hz : btZ cl f n) (h : isB g k (tbS f n F sg r) zM) (hk : k ≤ 120) : okB g k ∧ k ≤ 120 ∧ zB (cl r) g k := by
  refine ⟨okB_of h, hk, zB_of h (fun t ht => ?_)⟩
  have ht : bS (F r).2 (F r).1 t + iI sg * cS f (r : Int) n t ≠ 0 := ht
  by_cases w : bS (F r).2 (F r).1 t = 0
  · by_cases v : cS f (r : Int) n t = 0
    · rw [w, v, Int32.mul_zero, Int32.add_zero] at ht; exact absurd rfl ht
    · exact cS_z hz n (Nat.le_refl _) v
  · exact bS_z hF w
end StP
end
section
/-! one relation more -/
section Steps
variable {tbs sg : Int} {nr k n m : Nat} {c : Nat → LC} {T : Nat → Tup → Int32} {F F' F0 : RF} {cl : Nat → Int} {f g : Nat → Int32} {z : Int}
def stA (tbs : Int) (c : Nat → LC) (T : Nat → Tup → Int32) (cl : Nat → Int) (F : RF) (k : Nat) : Prop := ∀ q, q < k → stP tbs c T F q ∧ bgOK F cl q
theorem cLt_of (h : ∀ r : Nat, r < nr → tbs ≤ (r : Int) → cOK (c r) r cl ∧ cZ (c r) r cl) : cLt tbs nr c := fun r h1 h2 => by
  obtain ⟨⟨_, _, a, b, _, d⟩, _⟩ := (h r h1 h2).1
  exact ⟨b, a, d⟩
theorem st_0 : stA tbs c T cl F 0 := fun q hq => absurd hq (Nat.not_lt_zero q)
theorem st_up (hl : cLt tbs nr c) (hk : k ≤ nr) (e : ∀ q, q < k → F' q = F q) (h : stA tbs c T cl F k) : stA tbs c T cl F' k := fun q hq => by
  refine ⟨stP_k hl (by omega) (fun p hp => e p (by omega)) (h q hq).1, ?_⟩
  have := (h q hq).2
  unfold bgOK at this ⊢
  rw [e q hq]; exact this
theorem st_tb (h : stA tbs c (tbS f n F0 sg) cl F k) (hk : (k : Int) < tbs) (e : F k = (m, g)) (hF : zB (cl k) (F0 k).2 (F0 k).1) (hz : btZ cl f n) (hB : isB g m (tbS f n F0 sg k) zM) (hm : m ≤ 120) : stA tbs c (tbS f n F0 sg) cl F (k + 1) := fun q hq => by
  by_cases w : q < k
  · exact h q w
  · have eq : q = k := by omega
    subst eq
    unfold stP bgOK
    rw [if_pos hk, e]
    exact ⟨⟨hB, hm⟩, tb_ok hF hz hB hm⟩
theorem st_vw (h : stA tbs c T cl F k) (hk : tbs ≤ (k : Int)) (hc : cOK (c k) k cl ∧ cZ (c k) k cl) (e : F k = (m, g)) (hv : vwP (c k) F 0 g m) : stA tbs c T cl F (k + 1) := fun q hq => by
  by_cases w : q < k
  · exact h q w
  · have eq : q = k := by omega
    subst eq
    unfold stP
    rw [if_neg (by omega), e]
    refine ⟨hv, ?_⟩
    unfold bgOK
    rw [e]
    exact vw_ok hc.1 hc.2 (fun p hp => (h p hp).2) hv
theorem st_vc (hc : cOK (c k) k cl) (e : ∀ q, q < k → F' q = F q) (h : vwP (c k) F z g m) : vwP (c k) F' z g m := by
  obtain ⟨⟨_, _, a, b, _, d⟩, _⟩ := hc
  refine vwP_c ?_ ?_ h
  · unfold rfA; rw [e ((c k).1 2).toNat (by omega)]; exact ⟨rfl, rwA_r⟩
  · by_cases w : ((c k).1 3).toNat < k
    · unfold rfA; rw [e ((c k).1 3).toNat w]; exact ⟨rfl, rwA_r⟩
    · have : ((c k).1 3).toNat = 0 := by omega
      unfold rfA; rw [this, e 0 (by omega)]; exact ⟨rfl, rwA_r⟩
end Steps
/-- what moved of a relation -/
def mvQ (gh : gGh) (AR : gR) (I AI : gI) (bA nA : Nat) (I' AI' : gI) (r : Nat) : Prop :=
  isB (AI' (gh 0 (rob AR (gh 35 0) r))) (I' (rob AR (gh 35 0) r) 3).toInt.toNat (fun t => bS (AI (gh 0 (rob AR nA r))) (I (rob AR nA r) 3).toInt.toNat t + iI (-1) * bS (AI (gh 0 (rob AR bA r))) (I (rob AR bA r) 3).toInt.toNat t) zM ∧ 0 ≤ (I' (rob AR (gh 35 0) r) 3).toInt
end
