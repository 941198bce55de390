/-! what a line of a plan says. c.1: 0 kind, 1 columns, 2 first, 3 second, 4 parts, 5 and 6 the columns of first and second, 7 and 8 the pair of a ring, 9 fold, 10 its column; c.2 k w: part k -/
abbrev LC : Type := (Nat → Int) × (Nat → Nat → Int)
abbrev RF : Type := Nat → Nat × (Nat → Int32)
def tst3 (v s w : Int) : Prop := if s = 61 then v = w else if s = 60 then v < w else w < v
section Spec
variable (c : LC)
def tstP (k : Nat) (t : Tup) : Prop := tst3 (tu t (c.2 k 0).toNat) (c.2 k 1) (if c.2 k 2 = -1 then c.2 k 3 else tu t (c.2 k 2).toNat)
def hldP (t : Tup) : Prop := ∀ k : Nat, (k : Int) < c.1 4 → tstP c k t
def trm (h : Nat → Int32) (k : Nat) : Int32 := (if c.2 k 0 = -1 then 0 else h (c.2 k 0).toNat) + iI (c.2 k 1)
def trT (h : Nat → Int32) : Tup := tmk (fun k => if (k : Int) < c.1 4 then trm c h k else 0)
/-- a tuple of a ring and one of its second relation side by side -/
def sdH (t u : Tup) : Nat → Int32 := fun k => if (k : Int) < c.1 5 then tg t k else tg u (k - (c.1 5).toNat)
def vK (t : Tup) : Tup := if c.1 0 = 2 then trT c (tg t) else t
noncomputable def vA (t : Tup) (a : Int32) : Int32 := if c.1 0 = 1 then pI (hldP c t) a 0 else if c.1 0 = 6 then pI (0 < a.toInt) 1 0 else a
/-! joins -/
def tld (d : Nat) : Prop := ∃ k : Nat, (k : Int) < c.1 4 ∧ c.2 k 1 = (d : Int)
def alk (t u : Tup) : Prop := ∀ k : Nat, (k : Int) < c.1 4 → tg t (c.2 k 0).toNat = tg u (c.2 k 1).toNat
noncomputable def pN1 (p : Prop) : Nat := @ite _ p (Classical.propDecidable p) 1 0
noncomputable def jc : Nat → Nat
  | 0 => 0
  | d + 1 => jc d + pN1 (¬ tld c d)
noncomputable def jat (u : Tup) : Nat → Nat → Int32
  | 0, _ => 0
  | d + 1, q => pI (¬ tld c d ∧ jc c d = q) (tg u d) (jat u d q)
noncomputable def jn (t u : Tup) : Tup := tmk (fun k => if (k : Int) < c.1 5 then tg t k else jat c u (c.1 6).toNat (k - (c.1 5).toNat))
noncomputable def sJ1 (t : Tup) (a : Int32) (y : Nat → Int32) (m : Nat) (S : Tup → Int32) : Tup → Int32 := sR (jn c t) (fun u b => pI (alk c t u) (a * b) 0) y m S
noncomputable def sJ (x y : Nat → Int32) (m : Nat) : Nat → Tup → Int32
  | 0 => s0T
  | i + 1 => sJ1 c (tup x i) (x (6 * i + 4)) y m (sJ x y m i)
noncomputable def pC (t : Tup) (y : Nat → Int32) : Nat → Nat
  | 0 => 0
  | j + 1 => pC t y j + pN1 (alk c t (tup y j))
noncomputable def pJ (x y : Nat → Int32) (m : Nat) : Nat → Nat
  | 0 => 0
  | i + 1 => pJ x y m i + pC c (tup x i) y m
/-! groups -/
def gk (t : Tup) : Tup := tmk (fun k => if (k : Int) < c.1 4 then tg t (c.2 k 0).toNat else 0)
def fS (s : Int32 × Int32) (v a : Int32) : Int32 × Int32 :=
  if c.1 9 = 0 then (s.1, s.2 + a) else if c.1 9 = 1 then (s.1, s.2 + a * v)
  else if 0 < a.toInt then (1, if s.1 = 0 ∨ (c.1 9 = 2 ∧ v.toInt < s.2.toInt) ∨ (c.1 9 ≠ 2 ∧ s.2.toInt < v.toInt) then v else s.2) else s
def gF (f : Nat → Int32) (u : Tup) : Nat → Int32 × Int32
  | 0 => (0, 0)
  | i + 1 => if gk c (tup f i) = u then fS c (gF f u i) (tg (tup f i) (c.1 10).toNat) (f (6 * i + 4)) else gF f u i
def tset (t : Tup) (k : Nat) (v : Int32) : Tup := tmk (fun j => if j = k then v else tg t j)
def gTp (f : Nat → Int32) (n : Nat) (u : Tup) : Tup := tset u (c.1 4).toNat (gF c f u n).2
noncomputable def sG (f : Nat → Int32) (n : Nat) : Tup → Int32 := fun t => pI (∃ i, i < n ∧ gTp c f n (gk c (tup f i)) = t) 1 0
/-! rings -/
def rGo (y : Nat → Int32) (m : Nat) (t s : Tup) : Prop := ∃ j, j < m ∧ 0 < (y (6 * j + 4)).toInt ∧ tg t (c.1 7).toNat = tg (tup y j) (c.1 8).toNat ∧ trT c (sdH c t (tup y j)) = s
/-- of a round: what is new, what came so far -/
def rS (x : Nat → Int32) (n : Nat) (y : Nat → Int32) (m : Nat) : Nat → (Tup → Prop) × (Tup → Prop)
  | 0 => (fun s => ∃ i, i < n ∧ 0 < (x (6 * i + 4)).toInt ∧ tup x i = s, fun s => ∃ i, i < n ∧ 0 < (x (6 * i + 4)).toInt ∧ tup x i = s)
  | r + 1 => (fun s => (∃ t, (rS x n y m r).1 t ∧ rGo c y m t s) ∧ ¬ (rS x n y m r).2 s, fun s => (rS x n y m r).2 s ∨ ((∃ t, (rS x n y m r).1 t ∧ rGo c y m t s) ∧ ¬ (rS x n y m r).2 s))
def rgY (x : Nat → Int32) (n : Nat) (y : Nat → Int32) (m : Nat) (R : Nat) (f : Nat → Int32) (k : Nat) : Prop :=
  R ≤ 40 ∧ (∀ t, ¬ (rS c x n y m (R + 1)).1 t) ∧ (R = 0 ∨ ∃ t, (rS c x n y m R).1 t) ∧ k ≤ 120 ∧ ∃ M, isW f k (rS c x n y m R).2 (fun _ => 1) M ∧ ∀ q t, q ≤ R → (rS c x n y m q).1 t → M t = iI (q : Int)
def rgP (x : Nat → Int32) (n : Nat) (y : Nat → Int32) (m : Nat) (z : Int) (f : Nat → Int32) (k : Nat) : Prop :=
  (z = 0 ∧ ∃ R, rgY c x n y m R f k) ∨ (z = -3 ∧ ∃ q, q ≤ 40 ∧ bigP 120 (rS c x n y m q).2) ∨ (z = -4 ∧ (∃ t, (rS c x n y m 41).1 t) ∧ ¬ bigP 120 (rS c x n y m 40).2)
/-! a view -/
noncomputable def vS (F : RF) : Tup → Int32 :=
  if c.1 0 = 3 then sJ c (F (c.1 2).toNat).2 (F (c.1 3).toNat).2 (F (c.1 3).toNat).1 (F (c.1 2).toNat).1
  else if c.1 0 = 4 then fun t => bS (F (c.1 2).toNat).2 (F (c.1 2).toNat).1 t + iI 1 * bS (F (c.1 3).toNat).2 (F (c.1 3).toNat).1 t
  else if c.1 0 = 5 then fun t => bS (F (c.1 2).toNat).2 (F (c.1 2).toNat).1 t + iI (-1) * bS (F (c.1 3).toNat).2 (F (c.1 3).toNat).1 t
  else if c.1 0 = 7 then sG c (F (c.1 2).toNat).2 (F (c.1 2).toNat).1
  else sR (vK c) (vA c) (F (c.1 2).toNat).2 (F (c.1 2).toNat).1 s0T
def vMany (F : RF) : Prop := c.1 0 = 3 ∧ 1500 < pJ c (F (c.1 2).toNat).2 (F (c.1 3).toNat).2 (F (c.1 3).toNat).1 (F (c.1 2).toNat).1
def vwP (F : RF) (z : Int) (f : Nat → Int32) (k : Nat) : Prop :=
  if c.1 0 = 8 then rgP c (F (c.1 2).toNat).2 (F (c.1 2).toNat).1 (F (c.1 3).toNat).2 (F (c.1 3).toNat).1 z f k
  else (z = 0 ∧ ¬ vMany c F ∧ isB f k (vS c F) zM ∧ k ≤ 120) ∨ (z = -3 ∧ (vMany c F ∨ bigP 120 (fun t => vS c F t ≠ 0)))
end Spec
section Det
variable {c : LC} {x y f f' : Nat → Int32} {n m k k' R R' : Nat} {F : RF} {z z' : Int} {t u : Tup}
theorem pN1_y {p : Prop} (h : p) : pN1 p = 1 := @if_pos _ (Classical.propDecidable p) h _ _ _
theorem pN1_n {p : Prop} (h : ¬ p) : pN1 p = 0 := @if_neg _ (Classical.propDecidable p) h _ _ _
/-- no round behind one without new ones brings any -/
theorem rS_no (h : ∀ t, ¬ (rS c x n y m R).1 t) : ∀ d, ∀ t, ¬ (rS c x n y m (R + d)).1 t
  | 0 => h
  | d + 1 => fun t ht => by
    obtain ⟨⟨s, hs, _⟩, _⟩ := ht
    exact rS_no h d s hs
theorem rS_le : ∀ (d : Nat) (t : Tup), (rS c x n y m R).2 t → (rS c x n y m (R + d)).2 t
  | 0, _, h => h
  | d + 1, t, h => Or.inl (rS_le d t h)
theorem rS_lt {q : Nat} (h : q ≤ R) (t : Tup) (ht : (rS c x n y m q).2 t) : (rS c x n y m R).2 t := by
  have := rS_le (R - q) t ht
  rwa [show q + (R - q) = R by omega] at this
theorem rS_new : ∀ (q : Nat) (t : Tup), (rS c x n y m q).1 t → (rS c x n y m q).2 t
  | 0, _, h => h
  | _ + 1, _, h => Or.inr h
/-- what came so far came in one of the rounds -/
theorem rS_at : ∀ (R : Nat) (t : Tup), (rS c x n y m R).2 t → ∃ q, q ≤ R ∧ (rS c x n y m q).1 t
  | 0, t, h => ⟨0, Nat.le_refl _, h⟩
  | R + 1, t, h => by
    rcases h with h | h
    · obtain ⟨q, hq, e⟩ := rS_at R t h
      exact ⟨q, by omega, e⟩
    · exact ⟨R + 1, Nat.le_refl _, h⟩
/-- when no new ones come, what came stays -/
theorem rS_end (h : ∀ t, ¬ (rS c x n y m (R + 1)).1 t) : ∀ (q : Nat) (t : Tup), (rS c x n y m q).2 t → (rS c x n y m R).2 t := fun q t ht => by
  by_cases w : q ≤ R
  · exact rS_lt w t ht
  · obtain ⟨p, hp, e⟩ := rS_at q t ht
    by_cases v : p ≤ R
    · exact rS_lt v t (rS_new p t e)
    · have := rS_no h (p - (R + 1)) t
      rw [show R + 1 + (p - (R + 1)) = p by omega] at this
      exact absurd e this
theorem rgY_u (a : rgY c x n y m R f k) (b : rgY c x n y m R' f' k') : R = R' ∧ k = k' ∧ rwA f f' k := by
  obtain ⟨a1, a2, a3, a4, M, a5, a6⟩ := a
  obtain ⟨b1, b2, b3, b4, M', b5, b6⟩ := b
  have e : R = R' := by
    rcases Nat.lt_trichotomy R R' with w | w | w
    · rcases b3 with q | ⟨t, q⟩
      · omega
      · have := rS_no a2 (R' - (R + 1)) t
        rw [show R + 1 + (R' - (R + 1)) = R' by omega] at this
        exact absurd q this
    · exact w
    · rcases a3 with q | ⟨t, q⟩
      · omega
      · have := rS_no b2 (R - (R' + 1)) t
        rw [show R' + 1 + (R - (R' + 1)) = R by omega] at this
        exact absurd q this
  subst e
  have q := isW_u a5 b5 (fun _ _ => rfl) (fun t ht => by
    obtain ⟨q, hq, e⟩ := rS_at R t ht
    rw [a6 q t hq e, b6 q t hq e])
  exact ⟨rfl, q⟩
theorem rgP_u (a : rgP c x n y m z f k) (b : rgP c x n y m z' f' k') : z = z' ∧ (z = 0 → k = k' ∧ rwA f f' k) := by
  have yn : ∀ {f : Nat → Int32} {k : Nat}, (∃ R, rgY c x n y m R f k) → (∃ q, q ≤ 40 ∧ bigP 120 (rS c x n y m q).2) → False := fun {f k} ⟨R, h1, h2, h3, h4, M, h5, _⟩ ⟨q, _, hb⟩ => by
    have := isW_big h5 (bigP_m hb (rS_end h2 q))
    omega
  have yr : ∀ {f : Nat → Int32} {k : Nat}, (∃ R, rgY c x n y m R f k) → (∃ t, (rS c x n y m 41).1 t) → False := fun {f k} ⟨R, h1, h2, _⟩ ⟨t, ht⟩ => by
    have := rS_no h2 (40 - R) t
    rw [show R + 1 + (40 - R) = 41 by omega] at this
    exact this ht
  have nr : (∃ q, q ≤ 40 ∧ bigP 120 (rS c x n y m q).2) → ¬ bigP 120 (rS c x n y m 40).2 → False := fun ⟨q, hq, hb⟩ h => h (bigP_m hb (rS_lt hq))
  rcases a with ⟨a1, a2⟩ | ⟨a1, a2⟩ | ⟨a1, a2, a3⟩
  · rcases b with ⟨b1, b2⟩ | ⟨b1, b2⟩ | ⟨b1, b2, b3⟩
    · obtain ⟨R, a2⟩ := a2
      obtain ⟨R', b2⟩ := b2
      exact ⟨by omega, fun _ => (rgY_u a2 b2).2⟩
    · exact (yn a2 b2).elim
    · exact (yr a2 b2).elim
  · rcases b with ⟨b1, b2⟩ | ⟨b1, b2⟩ | ⟨b1, b2, b3⟩
    · exact (yn b2 a2).elim
    · exact ⟨by omega, fun h => absurd h (by omega)⟩
    · exact (nr a2 b3).elim
  · rcases b with ⟨b1, b2⟩ | ⟨b1, b2⟩ | ⟨b1, b2, b3⟩
    · exact (yr b2 a2).elim
    · exact (nr b2 a3).elim
    · exact ⟨by omega, fun h => absurd h (by omega)⟩
/-- what a view has is told by what its relations have -/
theorem vwP_u (a : vwP c F z f k) (b : vwP c F z' f' k') : z = z' ∧ (z = 0 → k = k' ∧ rwA f f' k) := by
  unfold vwP at a b
  by_cases w : c.1 0 = 8
  · rw [if_pos w] at a b; exact rgP_u a b
  · rw [if_neg w] at a b
    have no : ∀ {f : Nat → Int32} {k : Nat}, ¬ vMany c F → isB f k (vS c F) zM → k ≤ 120 → (vMany c F ∨ bigP 120 (fun t => vS c F t ≠ 0)) → False := fun {f k} h1 h2 h3 h4 => by
      rcases h4 with h4 | h4
      · exact h1 h4
      · have := isW_big h2 h4; omega
    rcases a with ⟨a1, a2, a3, a4⟩ | ⟨a1, a2⟩
    · rcases b with ⟨b1, b2, b3, b4⟩ | ⟨b1, b2⟩
      · exact ⟨by omega, fun _ => isW_u a3 b3 (fun _ _ => rfl) (fun _ _ => rfl)⟩
      · exact (no a2 a3 a4 b2).elim
    · rcases b with ⟨b1, b2, b3, b4⟩ | ⟨b1, b2⟩
      · exact (no b2 b3 b4 a2).elim
      · exact ⟨by omega, fun h => absurd h (by omega)⟩
/-! the same rows, the same view -/
def rfA (F F' : RF) (r : Nat) : Prop := (F r).1 = (F' r).1 ∧ rwA (F r).2 (F' r).2 (F r).1
theorem gF_c {f f' : Nat → Int32} {u : Tup} : ∀ n, rwA f f' n → gF c f u n = gF c f' u n
  | 0, _ => rfl
  | n + 1, h => by rw [gF, gF, gF_c n (fun i hi => h i (by omega)), rwS_t (h n (by omega)), h n (by omega) 4 (by omega)]
theorem pC_c {t : Tup} {y y' : Nat → Int32} : ∀ m, rwA y y' m → pC c t y m = pC c t y' m
  | 0, _ => rfl
  | m + 1, h => by rw [pC, pC, pC_c m (fun i hi => h i (by omega)), rwS_t (h m (by omega))]
theorem pJ_c {x x' y y' : Nat → Int32} (hy : rwA y y' m) : ∀ n, rwA x x' n → pJ c x y m n = pJ c x' y' m n
  | 0, _ => rfl
  | n + 1, h => by rw [pJ, pJ, pJ_c hy n (fun i hi => h i (by omega)), rwS_t (h n (by omega)), pC_c m hy]
theorem sJ_c {x x' y y' : Nat → Int32} (hy : rwA y y' m) : ∀ n, rwA x x' n → sJ c x y m n = sJ c x' y' m n
  | 0, _ => rfl
  | n + 1, h => by
    rw [sJ, sJ, sJ_c hy n (fun i hi => h i (by omega)), rwS_t (h n (by omega)), h n (by omega) 4 (by omega)]
    unfold sJ1
    rw [sR_c m hy]
theorem sG_c {f f' : Nat → Int32} (h : rwA f f' n) : sG c f n = sG c f' n := funext fun t => by
  have e : (∃ i, i < n ∧ gTp c f n (gk c (tup f i)) = t) ↔ ∃ i, i < n ∧ gTp c f' n (gk c (tup f' i)) = t := by
    refine ⟨fun ⟨i, hi, q⟩ => ⟨i, hi, ?_⟩, fun ⟨i, hi, q⟩ => ⟨i, hi, ?_⟩⟩
    · unfold gTp at q ⊢; rw [← gF_c n h, ← rwS_t (h i hi)]; exact q
    · unfold gTp at q ⊢; rw [gF_c n h, rwS_t (h i hi)]; exact q
  unfold sG
  rw [propext e]
theorem rS_c {x x' y y' : Nat → Int32} (hx : rwA x x' n) (hy : rwA y y' m) : ∀ r, rS c x n y m r = rS c x' n y' m r
  | 0 => by
    have e : (fun s => ∃ i, i < n ∧ 0 < (x (6 * i + 4)).toInt ∧ tup x i = s) = fun s => ∃ i, i < n ∧ 0 < (x' (6 * i + 4)).toInt ∧ tup x' i = s := funext fun s => propext ⟨fun ⟨i, hi, a, b⟩ => ⟨i, hi, by rw [← hx i hi 4 (by omega)]; exact a, by rw [← rwS_t (hx i hi)]; exact b⟩, fun ⟨i, hi, a, b⟩ => ⟨i, hi, by rw [hx i hi 4 (by omega)]; exact a, by rw [rwS_t (hx i hi)]; exact b⟩⟩
    rw [rS, rS, e]
  | r + 1 => by
    have e : ∀ t s, rGo c y m t s ↔ rGo c y' m t s := fun t s => ⟨fun ⟨j, hj, a, b, d⟩ => ⟨j, hj, by rw [← hy j hj 4 (by omega)]; exact a, by rw [← rwS_t (hy j hj)]; exact b, by rw [← rwS_t (hy j hj)]; exact d⟩, fun ⟨j, hj, a, b, d⟩ => ⟨j, hj, by rw [hy j hj 4 (by omega)]; exact a, by rw [rwS_t (hy j hj)]; exact b, by rw [rwS_t (hy j hj)]; exact d⟩⟩
    rw [rS, rS, rS_c hx hy r]
    have e2 : rGo c y m = rGo c y' m := funext fun t => funext fun s => propext (e t s)
    rw [e2]
theorem vS_c {F F' : RF} (h1 : rfA F F' (c.1 2).toNat) (h2 : rfA F F' (c.1 3).toNat) : vS c F = vS c F' := by
  unfold vS
  obtain ⟨a1, a2⟩ := h1
  obtain ⟨b1, b2⟩ := h2
  rw [sJ_c b2 _ a2, sG_c a2, sR_c _ a2, ← a1, ← b1]
  have e : ∀ t, bS (F (c.1 2).toNat).2 (F (c.1 2).toNat).1 t = bS (F' (c.1 2).toNat).2 (F (c.1 2).toNat).1 t := fun t => bS_c _ a2
  have e' : ∀ t, bS (F (c.1 3).toNat).2 (F (c.1 3).toNat).1 t = bS (F' (c.1 3).toNat).2 (F (c.1 3).toNat).1 t := fun t => bS_c _ b2
  simp only [e, e']
theorem vwP_c {F F' : RF} (h1 : rfA F F' (c.1 2).toNat) (h2 : rfA F F' (c.1 3).toNat) (h : vwP c F z f k) : vwP c F' z f k := by
  have es := vS_c h1 h2
  obtain ⟨a1, a2⟩ := h1
  obtain ⟨b1, b2⟩ := h2
  have em : vMany c F ↔ vMany c F' := by unfold vMany; rw [pJ_c b2 _ a2, a1, b1]
  unfold vwP at h ⊢
  by_cases w : c.1 0 = 8
  · rw [if_pos w] at h ⊢
    unfold rgP rgY at h ⊢
    rw [show rS c (F (c.1 2).toNat).2 (F (c.1 2).toNat).1 (F (c.1 3).toNat).2 (F (c.1 3).toNat).1 = rS c (F' (c.1 2).toNat).2 (F' (c.1 2).toNat).1 (F' (c.1 3).toNat).2 (F' (c.1 3).toNat).1 from funext fun r => by rw [rS_c a2 b2 r, a1, b1]] at h
    exact h
  · rw [if_neg w] at h ⊢
    rw [← es, ← em]; exact h
theorem vwP_f {F : RF} (e : rwA f' f k) (h : vwP c F z f k) : vwP c F z f' k := by
  unfold vwP at h ⊢
  by_cases w : c.1 0 = 8
  · rw [if_pos w] at h ⊢
    rcases h with ⟨a, R, h1, h2, h3, h4, M, h5, h6⟩ | h
    · exact Or.inl ⟨a, R, h1, h2, h3, h4, M, isW_c h5 e, h6⟩
    · exact Or.inr h
  · rw [if_neg w] at h ⊢
    rcases h with ⟨a1, a2, a3, a4⟩ | h
    · exact Or.inl ⟨a1, a2, isW_c a3 e, a4⟩
    · exact Or.inr h
end Det
