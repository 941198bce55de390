/-! changes of tables -/
def btu (f : Nat → Int32) (i : Nat) : Tup := (f (6 * i + 1), f (6 * i + 2), f (6 * i + 3), f (6 * i + 4))
theorem btu_at {f : Nat → Int32} {i k : Nat} (hk : k < 4) : tg (btu f i) k = f (6 * i + 1 + k) := by
  match k, hk with
  | 0, _ => rfl
  | 1, _ => rfl
  | 2, _ => rfl
  | 3, _ => rfl
  | k + 4, h => exact absurd h (by omega)
/-- by how much a table's tuple becomes more -/
def cS (f : Nat → Int32) (tb : Int) : Nat → Tup → Int32
  | 0, _ => 0
  | i + 1, t => if (f (6 * i)).toInt = tb ∧ btu f i = t then f (6 * i + 5) else cS f tb i t
/-- a batch: in order, no amount is 0 -/
def btO (f : Nat → Int32) (n : Nat) : Prop := srt 5 f (n : Int) ∧ ∀ i, i < n → f (6 * i + 5) ≠ 0
section Batch
variable {f f' g : Nat → Int32} {n m i j : Nat} {tb : Int} {t : Tup}
theorem bt_lt (h : srt 5 f (n : Int)) (hij : i < j) (hj : j < n) (e : (f (6 * i)).toInt = (f (6 * j)).toInt) : tc (btu f i) (btu f j) = -1 := by
  have q := h i j hij (by omega)
  unfold kc at q
  rw [kcF_lt] at q
  obtain ⟨q, _, q1, q2, q3⟩ := q
  have q0 : q ≠ 0 := fun w => by
    rw [w, ry6_e, ry6_e, Nat.add_zero, Nat.add_zero, e] at q3
    omega
  rw [tc_lt]
  refine ⟨q - 1, by omega, fun r hr => ?_, ?_⟩
  · have := q2 (r + 1) (Nat.zero_le _) (by omega)
    rw [ry6_e, ry6_e] at this
    rw [btu_at (by omega), btu_at (by omega)]
    apply Int32.toInt_inj.mp
    rw [show 6 * i + 1 + r = 6 * i + (r + 1) by omega, show 6 * j + 1 + r = 6 * j + (r + 1) by omega]; exact this
  · rw [ry6_e, ry6_e] at q3
    unfold tu
    rw [btu_at (by omega), btu_at (by omega), show 6 * i + 1 + (q - 1) = 6 * i + q by omega, show 6 * j + 1 + (q - 1) = 6 * j + q by omega]; exact q3
theorem cS_n : ∀ i, (∀ j, j < i → ¬ ((f (6 * j)).toInt = tb ∧ btu f j = t)) → cS f tb i t = 0
  | 0, _ => rfl
  | i + 1, h => by rw [cS, if_neg (h i (by omega))]; exact cS_n i (fun j hj => h j (by omega))
theorem cS_c {f f' : Nat → Int32} : ∀ n, (∀ j, j < 6 * n → f' j = f j) → cS f' tb n t = cS f tb n t
  | 0, _ => rfl
  | n + 1, h => by
    have e : btu f' n = btu f n := by unfold btu; rw [h _ (by omega), h _ (by omega), h _ (by omega), h _ (by omega)]
    rw [cS, cS, cS_c n (fun j hj => h j (by omega)), e, h _ (by omega), h _ (by omega)]
theorem cS_y (h : srt 5 f (n : Int)) : ∀ m, m ≤ n → j < m → (f (6 * j)).toInt = tb → cS f tb m (btu f j) = f (6 * j + 5)
  | 0, _, hj, _ => absurd hj (Nat.not_lt_zero _)
  | m + 1, hm, hj, e => by
    rw [cS]
    by_cases w : j = m
    · subst w; rw [if_pos ⟨e, rfl⟩]
    · rw [if_neg (fun q => ?_)]
      · exact cS_y h m (by omega) (by omega) e
      · exact tc_ne (bt_lt h (show j < m by omega) (by omega) (e.trans q.1.symm)) q.2.symm
/-- the changes of one table, picked so far: m rows -/
def pkI (f g : Nat → Int32) (n : Nat) (tb : Int) (m i : Nat) : Prop :=
  isB g m (fun t => cS f tb i t) zM ∧ m ≤ i ∧ ∀ r, r < m → ∃ j, j < i ∧ (f (6 * j)).toInt = tb ∧ tup g r = btu f j
theorem pkI_0 : pkI f g n tb 0 0 := ⟨isW_0 (fun t h => h rfl), Nat.le_refl _, fun r hr => absurd hr (Nat.not_lt_zero r)⟩
theorem pkI_n (h : pkI f g n tb m i) (hn : (f (6 * i)).toInt ≠ tb) : pkI f g n tb m (i + 1) := by
  refine ⟨isW_q h.1 (fun t => ?_) (fun t _ => ?_) (fun _ _ => rfl), by have := h.2.1; omega, fun r hr => ?_⟩
  · show cS f tb (i + 1) t ≠ 0 ↔ cS f tb i t ≠ 0
    rw [cS, if_neg (fun q => hn q.1)]
  · show cS f tb (i + 1) t = cS f tb i t
    rw [cS, if_neg (fun q => hn q.1)]
  · obtain ⟨j, a, b⟩ := h.2.2 r hr
    exact ⟨j, by omega, b⟩
theorem pkI_y {g' : Nat → Int32} (hb : btO f n) (hi : i < n) (h : pkI f g n tb m i) (he : (f (6 * i)).toInt = tb) (e : insW g g' m m (btu f i) (f (6 * i + 5)) 0) : pkI f g' n tb (m + 1) (i + 1) := by
  have lt : ∀ r, r < m → tc (tup g r) (btu f i) = -1 := fun r hr => by
    obtain ⟨j, a, b, d⟩ := h.2.2 r hr
    rw [d]; exact bt_lt hb.1 a hi (b.trans he.symm)
  have q := isB_ap h.1 lt e (hb.2 i hi)
  have z : cS f tb i (btu f i) = 0 := cS_n i (fun j hj w => tc_ne (bt_lt hb.1 hj hi (w.1.trans he.symm)) w.2)
  have es : (fun t => cS f tb (i + 1) t) = sAdd (fun t => cS f tb i t) (btu f i) (f (6 * i + 5)) := funext fun t => by
    by_cases w : t = btu f i
    · subst w
      have e1 : sAdd (fun t => cS f tb i t) (btu f i) (f (6 * i + 5)) (btu f i) = cS f tb i (btu f i) + f (6 * i + 5) := sAdd_s
      rw [e1, z, Int32.zero_add]
      show cS f tb (i + 1) (btu f i) = _
      rw [cS, if_pos ⟨he, rfl⟩]
    · rw [sAdd_k w]
      show cS f tb (i + 1) t = cS f tb i t
      rw [cS, if_neg (fun q => w q.2.symm)]
  refine ⟨by unfold isB at q ⊢; rw [es]; exact q, by have := h.2.1; omega, fun r hr => ?_⟩
  by_cases w : r < m
  · obtain ⟨j, a, b, d⟩ := h.2.2 r w
    exact ⟨j, by omega, b, (rwS_t (e.1 r w)).trans d⟩
  · exact ⟨i, by omega, he, by rw [show r = m by omega]; exact e.2.1.1⟩
end Batch
/-! what a batch would make of the relations -/
/-- a table's tuple falls below 0 -/
def blw (f : Nat → Int32) (F : RF) (sg : Int) (i : Nat) : Prop := (bS (F (f (6 * i)).toInt.toNat).2 (F (f (6 * i)).toInt.toNat).1 (btu f i) + iI sg * f (6 * i + 5)).toInt < 0
def tbS (f : Nat → Int32) (n : Nat) (F : RF) (sg : Int) (r : Nat) : Tup → Int32 := fun t => bS (F r).2 (F r).1 t + iI sg * cS f (r : Int) n t
/-- relation r is as it should be -/
def stP (tbs : Int) (c : Nat → LC) (T : Nat → Tup → Int32) (F : RF) (r : Nat) : Prop :=
  if (r : Int) < tbs then isB (F r).2 (F r).1 (T r) zM ∧ (F r).1 ≤ 120 else vwP (c r) F 0 (F r).2 (F r).1
def stF (tbs : Int) (c : Nat → LC) (T : Nat → Tup → Int32) (F : RF) (r : Nat) (z : Int) : Prop :=
  if (r : Int) < tbs then z = -3 ∧ bigP 120 (fun t => T r t ≠ 0) else z ≠ 0 ∧ ∃ f k, vwP (c r) F z f k
def rnP (tbs : Int) (nr : Nat) (c : Nat → LC) (bl : Prop) (T : Nat → Tup → Int32) (z : Int) (F : RF) : Prop :=
  (bl ∧ z = -2) ∨ (¬ bl ∧ ∃ r, r ≤ nr ∧ (∀ q, q < r → stP tbs c T F q) ∧ ((r = nr ∧ z = 0) ∨ (r < nr ∧ stF tbs c T F r z)))
section Rn
variable {tbs : Int} {nr r : Nat} {c : Nat → LC} {bl : Prop} {T : Nat → Tup → Int32} {z z' : Int} {F F' : RF}
/-- views look at relations ahead of them -/
def cLt (tbs : Int) (nr : Nat) (c : Nat → LC) : Prop := ∀ r : Nat, r < nr → tbs ≤ (r : Int) → (c r).1 2 < (r : Int) ∧ 0 ≤ (c r).1 2 ∧ (c r).1 3 < (r : Int)
theorem stP_u (hl : cLt tbs nr c) (hr : r ≤ nr) (a : ∀ q, q < r → stP tbs c T F q) (b : ∀ q, q < r → stP tbs c T F' q) : ∀ q, q < r → rfA F F' q := by
  have all : ∀ m q, q ≤ m → q < r → rfA F F' q := by
    intro m
    induction m with
    | zero =>
      intro q hq hr2
      have e : q = 0 := by omega
      subst e
      have x := a 0 hr2
      have y := b 0 hr2
      unfold stP at x y
      by_cases w : ((0 : Nat) : Int) < tbs
      · rw [if_pos w] at x y
        exact isW_u x.1 y.1 (fun _ _ => rfl) (fun _ _ => rfl)
      · have := hl 0 (by omega) (by omega)
        omega
    | succ m ih =>
      intro q hq hr2
      by_cases e : q ≤ m
      · exact ih q e hr2
      · have e : q = m + 1 := by omega
        subst e
        have x := a (m + 1) hr2
        have y := b (m + 1) hr2
        unfold stP at x y
        by_cases w : ((m + 1 : Nat) : Int) < tbs
        · rw [if_pos w] at x y
          exact isW_u x.1 y.1 (fun _ _ => rfl) (fun _ _ => rfl)
        · rw [if_neg w] at x y
          have l := hl (m + 1) (by omega) (by omega)
          have h1 := ih ((c (m + 1)).1 2).toNat (by omega) (by omega)
          have h2 := ih ((c (m + 1)).1 3).toNat (by omega) (by omega)
          have x := vwP_c h1 h2 x
          exact (vwP_u x y).2 rfl
  exact fun q hq => all q q (Nat.le_refl _) hq
theorem rnP_u (hl : cLt tbs nr c) (a : rnP tbs nr c bl T z F) (b : rnP tbs nr c bl T z' F') : z = z' ∧ (z = 0 → ∀ q, q < nr → rfA F F' q) := by
  rcases a with ⟨a1, a2⟩ | ⟨a1, r, a2, a3, a4⟩
  · rcases b with ⟨b1, b2⟩ | ⟨b1, _⟩
    · exact ⟨by omega, fun h => absurd h (by omega)⟩
    · exact absurd a1 b1
  · rcases b with ⟨b1, _⟩ | ⟨b1, s, b2, b3, b4⟩
    · exact absurd b1 a1
    · -- the first that is refused is one
      have nofail : ∀ {r s : Nat} {F F' : RF} {z : Int}, r < nr → r < s → s ≤ nr → (∀ q, q < r → stP tbs c T F q) → (∀ q, q < s → stP tbs c T F' q) → stF tbs c T F r z → False := fun {r s F F' z} h1 h2 h3 h4 h5 h6 => by
        have x := h5 r h2
        unfold stF at h6
        unfold stP at x
        by_cases w : (r : Int) < tbs
        · rw [if_pos w] at h6 x
          have := isW_big x.1 h6.2
          omega
        · rw [if_neg w] at h6 x
          obtain ⟨h6, f, k, h7⟩ := h6
          have l := hl r h1 (by omega)
          have e := stP_u hl (by omega) h4 (fun q hq => h5 q (by omega))
          have y := vwP_c (e ((c r).1 2).toNat (by omega)) (e ((c r).1 3).toNat (by omega)) h7
          exact h6 (vwP_u y x).1
      rcases Nat.lt_trichotomy r s with w | w | w
      · rcases a4 with ⟨a4, _⟩ | ⟨a4, a5⟩
        · omega
        · exact (nofail a4 w b2 a3 b3 a5).elim
      · subst w
        have e := stP_u hl a2 a3 b3
        rcases a4 with ⟨a4, a5⟩ | ⟨a4, a5⟩
        · rcases b4 with ⟨b4, b5⟩ | ⟨b4, b5⟩
          · exact ⟨by omega, fun _ q hq => e q (by omega)⟩
          · omega
        · rcases b4 with ⟨b4, b5⟩ | ⟨b4, b5⟩
          · omega
          · unfold stF at a5 b5
            by_cases v : (r : Int) < tbs
            · rw [if_pos v] at a5 b5
              exact ⟨by omega, fun h => absurd h (by omega)⟩
            · rw [if_neg v] at a5 b5
              obtain ⟨a5, f, k, a6⟩ := a5
              obtain ⟨b5, f', k', b6⟩ := b5
              have l := hl r a4 (by omega)
              have y := vwP_c (e ((c r).1 2).toNat (by omega)) (e ((c r).1 3).toNat (by omega)) a6
              exact ⟨(vwP_u y b6).1, fun h => absurd h a5⟩
      · rcases b4 with ⟨b4, _⟩ | ⟨b4, b5⟩
        · omega
        · exact (nofail b4 w a2 b3 a3 b5).elim
end Rn
