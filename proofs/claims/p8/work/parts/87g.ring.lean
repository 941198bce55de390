/-! rings -/
def arT (A : Nat → Int32) (k : Nat) : Tup := tmk (fun j => A (4 * k + j))
theorem arT_at {A : Nat → Int32} {k j : Nat} (hj : j < 4) : tg (arT A k) j = A (4 * k + j) := by unfold arT; exact tg_mk j hj
theorem arT_c {A A' : Nat → Int32} {k : Nat} (h : ∀ j, j < 4 → A' (4 * k + j) = A (4 * k + j)) : arT A' k = arT A k := tg_x (fun j hj => by rw [arT_at hj, arT_at hj, h j hj])
def rOK (c : LC) : Prop := 1 ≤ c.1 5 ∧ 0 ≤ c.1 6 ∧ c.1 5 + c.1 6 ≤ 4 ∧ c.1 4 = c.1 5 ∧ 0 ≤ c.1 7 ∧ c.1 7 < c.1 5 ∧ 0 ≤ c.1 8 ∧ c.1 8 < c.1 6 ∧ ∀ k : Nat, (k : Int) < c.1 4 → -1 ≤ c.2 k 0 ∧ c.2 k 0 < c.1 5 + c.1 6
section RGo
variable {c : LC} {y : Nat → Int32} {j : Nat} {t s : Tup}
theorem rGo_0 : ¬ rGo c y 0 t s := fun ⟨j, hj, _⟩ => Nat.not_lt_zero j hj
theorem rGo_s : rGo c y (j + 1) t s ↔ rGo c y j t s ∨ (0 < (y (6 * j + 4)).toInt ∧ tg t (c.1 7).toNat = tg (tup y j) (c.1 8).toNat ∧ trT c (sdH c t (tup y j)) = s) := by
  refine ⟨fun ⟨k, hk, a⟩ => ?_, fun h => ?_⟩
  · by_cases w : k = j
    · subst w; exact Or.inr a
    · exact Or.inl ⟨k, by omega, a⟩
  · rcases h with ⟨k, hk, a⟩ | a
    · exact ⟨k, by omega, a⟩
    · exact ⟨j, by omega, a⟩
end RGo
/-- the rows of a ring and the order in which they came: n rows, of them those from a on new against P -/
def rgI (f A : Nat → Int32) (n a : Nat) (P Q : Tup → Prop) (M : Tup → Int32) (rd : Int32) : Prop :=
  isW f n (fun s => P s ∨ Q s) (fun _ => 1) (fun t => pI (P t) (M t) rd) ∧ a ≤ n ∧ (∀ k, a ≤ k → k < n → ¬ P (arT A k) ∧ Q (arT A k)) ∧ ∀ s, ¬ P s → Q s → ∃ k, a ≤ k ∧ k < n ∧ arT A k = s
section RgI
variable {f f' A A' : Nat → Int32} {n a p : Nat} {P Q Q' : Tup → Prop} {M : Tup → Int32} {rd : Int32} {t : Tup}
theorem rgI_q (h : rgI f A n a P Q M rd) (hQ : ∀ s, P s ∨ Q' s ↔ P s ∨ Q s) : rgI f A n a P Q' M rd := by
  obtain ⟨h1, h2, h3, h4⟩ := h
  refine ⟨isW_q h1 hQ (fun _ _ => rfl) (fun _ _ => rfl), h2, fun k a b => ?_, fun s hs hq => h4 s hs (((hQ s).mp (Or.inr hq)).resolve_left hs)⟩
  have := h3 k a b
  exact ⟨this.1, ((hQ _).mpr (Or.inr this.2)).resolve_left this.1⟩
theorem rgI_c (h : rgI f A n a P Q M rd) (e : rwA f' f n) (eA : ∀ j, j < 4 * n → A' j = A j) : rgI f' A' n a P Q M rd := by
  obtain ⟨h1, h2, h3, h4⟩ := h
  have ea : ∀ k, k < n → arT A' k = arT A k := fun k hk => arT_c (fun j hj => eA _ (by omega))
  refine ⟨isW_c h1 e, h2, fun k a b => by rw [ea k b]; exact h3 k a b, fun s hs hq => ?_⟩
  obtain ⟨k, a, b, e⟩ := h4 s hs hq
  exact ⟨k, a, b, (ea k b).trans e⟩
/-- one more comes -/
theorem rgI_ins (h : rgI f A n a P Q M rd) (hat : atW f n p t) (e : insW f f' p n t 1 rd) (eA : ∀ j, j < 4 * n → A' j = A j) (eT : arT A' n = t) : rgI f' A' (n + 1) a P (fun s => Q s ∨ s = t) M rd := by
  obtain ⟨h1, h2, h3, h4⟩ := h
  have q := isW_ins h1 hat e
  have nP : ¬ P t := fun w => q.1 (Or.inl w)
  have ea : ∀ k, k < n → arT A' k = arT A k := fun k hk => arT_c (fun j hj => eA _ (by omega))
  refine ⟨isW_q q.2 (fun s => ⟨fun w => ?_, fun w => ?_⟩) (fun s _ => ?_) (fun s _ => ?_), by omega, fun k hk hn => ?_, fun s hs hq => ?_⟩
  · rcases w with w | w | w
    · exact Or.inr (Or.inl w)
    · exact Or.inr (Or.inr w)
    · exact Or.inl w
  · rcases w with w | w | w
    · exact Or.inr (Or.inr w)
    · exact Or.inl w
    · exact Or.inr (Or.inl w)
  · by_cases w : s = t
    · rw [w, tUp_s]
    · rw [tUp_k w]
  · by_cases w : s = t
    · rw [w, tUp_s, pI_n nP]
    · rw [tUp_k w]
  · by_cases w : k < n
    · rw [ea k w]
      have := h3 k hk w
      exact ⟨this.1, Or.inl this.2⟩
    · rw [show k = n by omega, eT]; exact ⟨nP, Or.inr rfl⟩
  · rcases hq with hq | hq
    · obtain ⟨k, a1, a2, a3⟩ := h4 s hs hq
      exact ⟨k, a1, by omega, (ea k a2).trans a3⟩
    · exact ⟨n, h2, by omega, eT.trans hq.symm⟩
theorem rgI_big {L : Nat} (h : rgI f A n a P Q M rd) (hl : L ≤ n) (hat : atW f n p t) : bigP L (fun s => (P s ∨ Q s) ∨ s = t) := by
  obtain ⟨g, g1, g2⟩ := bigP_of (P := fun s => (P s ∨ Q s) ∨ s = t) h.1.1 (fun i hi => Or.inl (h.1.2.1 i hi).1) (Or.inr rfl) (atW_n hat)
  exact ⟨g, fun i j x y => g1 i j x (by omega), fun i x => g2 i (by omega)⟩
end RgI
/-! the rounds: fr is where the tuples of round r begin -/
def rgR (c : LC) (x : Nat → Int32) (n : Nat) (y : Nat → Int32) (m : Nat) (f A : Nat → Int32) (len fr r : Nat) : Prop :=
  ∃ M, isW f len (rS c x n y m r).2 (fun _ => 1) M ∧ (∀ q t, q ≤ r → (rS c x n y m q).1 t → M t = iI (q : Int)) ∧ fr ≤ len ∧ len ≤ 120 ∧ (∀ k, fr ≤ k → k < len → (rS c x n y m r).1 (arT A k)) ∧ (∀ s, (rS c x n y m r).1 s → ∃ k, fr ≤ k ∧ k < len ∧ arT A k = s) ∧
    (1 ≤ r → ∃ t, (rS c x n y m (r - 1)).1 t) ∧ (41 ≤ r → fr = len)
/-- in a round behind round r: the tuples fr to k have gone on -/
def rgK (c : LC) (x : Nat → Int32) (n : Nat) (y : Nat → Int32) (m : Nat) (f A : Nat → Int32) (len fr to k r : Nat) (M : Tup → Int32) (T : Nat → Tup) : Prop :=
  (∀ i, i < to → arT A i = T i) ∧ rgI f A len to (rS c x n y m r).2 (fun s => ∃ i, fr ≤ i ∧ i < k ∧ rGo c y m (T i) s) M (iI ((r : Int) + 1)) ∧ (∀ q t, q ≤ r → (rS c x n y m q).1 t → M t = iI (q : Int)) ∧ (∀ i, fr ≤ i → i < to → (rS c x n y m r).1 (T i)) ∧ (∀ s, (rS c x n y m r).1 s → ∃ i, fr ≤ i ∧ i < to ∧ T i = s) ∧ (40 ≤ r → len = to) ∧ len ≤ 120 ∧ to ≤ 120
section Rounds
variable {c : LC} {x y f f' A A' : Nat → Int32} {n m len len' fr to k r : Nat} {M : Tup → Int32} {T : Nat → Tup}
theorem rg_init {M : Tup → Int32} (h : rgI f A len 0 (fun _ => False) (fun s => ∃ i, i < n ∧ 0 < (x (6 * i + 4)).toInt ∧ tup x i = s) M (iI 0)) (hl : len ≤ 120) : rgR c x n y m f A len 0 0 := by
  obtain ⟨h1, h2, h3, h4⟩ := h
  refine ⟨fun _ => iI 0, isW_q h1 (fun s => ⟨fun w => Or.inr w, fun w => w.resolve_left (fun q => q)⟩) (fun _ _ => rfl) (fun s _ => (pI_n (fun q => q)).symm), fun q t hq _ => by rw [show q = 0 by omega]; rfl, Nat.zero_le _, hl, fun k _ hk => (h3 k (Nat.zero_le _) hk).2, fun s hs => ?_, fun w => absurd w (by omega), fun w => absurd w (by omega)⟩
  exact h4 s (fun q => q) hs
theorem rg_enter (h : rgR c x n y m f A len fr r) : ∃ M T, rgK c x n y m f A len fr len fr r M T := by
  obtain ⟨M, h1, h2, h3, h4, h5, h6, h7, h8⟩ := h
  refine ⟨M, arT A, fun _ _ => rfl, ⟨isW_q h1 (fun s => ⟨fun w => ?_, fun w => Or.inl w⟩) (fun _ _ => rfl) (fun s hs => pI_y hs), Nat.le_refl _, fun k a b => absurd b (by omega), fun s _ ⟨i, a, b, _⟩ => absurd b (by omega)⟩, h2, h5, h6, fun _ => rfl, h4, h4⟩
  rcases w with w | ⟨i, a, b, _⟩
  · exact w
  · exact absurd b (by omega)
theorem rg_step (h : rgK c x n y m f A len fr to k r M T) (hk : fr ≤ k) (q : rgI f' A' len' to (rS c x n y m r).2 (fun s => (∃ i, fr ≤ i ∧ i < k ∧ rGo c y m (T i) s) ∨ rGo c y m (T k) s) M (iI ((r : Int) + 1))) (eA : ∀ j, j < 4 * len → A' j = A j) (hl : 40 ≤ r → len' = len) (h120 : len' ≤ 120) : rgK c x n y m f' A' len' fr to (k + 1) r M T := by
  obtain ⟨h1, h2, h3, h4, h5, h6, h7, h8⟩ := h
  have hto := h2.2.1
  refine ⟨fun i hi => ?_, rgI_q q (fun s => ?_), h3, h4, h5, fun w => (hl w).trans (h6 w), h120, h8⟩
  · rw [← h1 i hi]; exact arT_c (fun j hj => eA _ (by omega))
  · refine ⟨fun w => ?_, fun w => ?_⟩
    · rcases w with w | ⟨i, a, b, d⟩
      · exact Or.inl w
      · by_cases e : i = k
        · exact Or.inr (Or.inr (by rw [← e]; exact d))
        · exact Or.inr (Or.inl ⟨i, a, by omega, d⟩)
    · rcases w with w | ⟨i, a, b, d⟩ | d
      · exact Or.inl w
      · exact Or.inr ⟨i, a, by omega, d⟩
      · exact Or.inr ⟨k, hk, by omega, d⟩
theorem rg_new (h : rgK c x n y m f A len fr to k r M T) (hk : k ≤ to) {s : Tup} (hq : ∃ i, fr ≤ i ∧ i < k ∧ rGo c y m (T i) s) (hn : ¬ (rS c x n y m r).2 s) : (rS c x n y m (r + 1)).1 s := by
  obtain ⟨i, a, b, d⟩ := hq
  exact ⟨⟨T i, h.2.2.2.1 i a (by omega), d⟩, hn⟩
theorem rg_round (h : rgK c x n y m f A len fr to to r M T) (hlt : fr < to) : rgR c x n y m f A len to (r + 1) := by
  have hnew := fun {s} => rg_new h (Nat.le_refl _) (s := s)
  obtain ⟨h1, h2, h3, h4, h5, h6, h7, h8⟩ := h
  obtain ⟨g1, g2, g3, g4⟩ := h2
  have hq : ∀ s, (rS c x n y m (r + 1)).1 s → ∃ i, fr ≤ i ∧ i < to ∧ rGo c y m (T i) s := fun s ⟨⟨t, ht, d⟩, _⟩ => by
    obtain ⟨i, a, b, e⟩ := h5 t ht
    exact ⟨i, a, b, by rw [e]; exact d⟩
  refine ⟨fun t => pI ((rS c x n y m r).2 t) (M t) (iI ((r : Int) + 1)), isW_q g1 (fun s => ⟨fun w => ?_, fun w => ?_⟩) (fun _ _ => rfl) (fun _ _ => rfl), fun q t hq9 ht => ?_, g2, h7, fun k a b => ?_, fun s hs => ?_, fun _ => ?_, fun w => ?_⟩
  · rcases w with w | w
    · exact Or.inl w
    · exact Or.inr (hq s w)
  · by_cases v : (rS c x n y m r).2 s
    · exact Or.inl v
    · exact Or.inr (hnew (w.resolve_left v) v)
  · by_cases e : q = r + 1
    · subst e
      show pI ((rS c x n y m r).2 t) (M t) (iI ((r : Int) + 1)) = _
      rw [pI_n ht.2]; rfl
    · show pI ((rS c x n y m r).2 t) (M t) (iI ((r : Int) + 1)) = _
      rw [pI_y (rS_lt (by omega) t (rS_new q t ht))]
      exact h3 q t (by omega) ht
  · have := g3 k a b
    exact hnew this.2 this.1
  · exact g4 s hs.2 (hq s hs)
  · exact ⟨T fr, h4 fr (Nat.le_refl _) hlt⟩
  · exact (h6 (by omega)).symm
theorem rg_big (h : rgK c x n y m f A len fr to k r M T) (hk : fr ≤ k) (hk2 : k < to) (hr : r + 1 ≤ 40) (hb : bigP 120 (fun s => (rS c x n y m r).2 s ∨ (∃ i, fr ≤ i ∧ i < k ∧ rGo c y m (T i) s) ∨ rGo c y m (T k) s)) : ∃ q, q ≤ 40 ∧ bigP 120 (rS c x n y m q).2 := by
  refine ⟨r + 1, hr, bigP_m hb (fun s hs => ?_)⟩
  by_cases v : (rS c x n y m r).2 s
  · exact Or.inl v
  · rcases hs with hs | ⟨i, a, b, d⟩ | d
    · exact absurd hs v
    · exact Or.inr ⟨⟨T i, h.2.2.2.1 i a (by omega), d⟩, v⟩
    · exact Or.inr ⟨⟨T k, h.2.2.2.1 k hk hk2, d⟩, v⟩
theorem rg_many (h : rgK c x n y m f A len fr to k r M T) (hk : fr ≤ k) (hk2 : k < to) (hr : r = 40) {s : Tup} (hs : ¬ ((rS c x n y m r).2 s ∨ ∃ i, fr ≤ i ∧ i < k ∧ rGo c y m (T i) s)) (hg : rGo c y m (T k) s) : (∃ t, (rS c x n y m 41).1 t) ∧ ¬ bigP 120 (rS c x n y m 40).2 := by
  subst hr
  refine ⟨⟨s, ⟨T k, h.2.2.2.1 k hk hk2, hg⟩, fun w => hs (Or.inl w)⟩, fun hb => ?_⟩
  have := isW_big h.2.1.1 (bigP_m hb (fun t ht => Or.inl ht))
  have := h.2.2.2.2.2.2.1
  omega
theorem rg_end (h : rgR c x n y m f A len fr r) (hr : r ≤ 41) (he : fr = len ∨ r = 41) : ∃ R, rgY c x n y m R f len := by
  obtain ⟨M, h1, h2, h3, h4, h5, h6, h7, h8⟩ := h
  have no : ∀ t, ¬ (rS c x n y m r).1 t := fun t ht => by
    obtain ⟨k, a, b, _⟩ := h6 t ht
    rcases he with e | e
    · omega
    · have := h8 (by omega)
      omega
  by_cases w : r = 0
  · subst w
    refine ⟨0, by omega, fun t ⟨⟨s, hs, _⟩, _⟩ => no s hs, Or.inl rfl, h4, M, h1, h2⟩
  · obtain ⟨p, rfl⟩ : ∃ p, r = p + 1 := ⟨r - 1, by omega⟩
    refine ⟨p, by omega, no, Or.inr (h7 (by omega)), h4, M, isW_q h1 (fun t => ⟨fun q => Or.inl q, fun q => ?_⟩) (fun _ _ => rfl) (fun _ _ => rfl), fun q t hq ht => h2 q t (by omega) ht⟩
    rcases q with q | q
    · exact q
    · exact absurd q (no t)
end Rounds
/-! steps of the walk -/
def rQ0 (x : Nat → Int32) (n : Nat) : Tup → Prop := fun s => ∃ i, i < n ∧ 0 < (x (6 * i + 4)).toInt ∧ tup x i = s
section RWalk
variable {c : LC} {x y f A : Nat → Int32} {n m i j a p : Nat} {P Q : Tup → Prop} {M : Tup → Int32} {rd : Int32} {t s : Tup}
theorem insW_m {f f1 f2 : Nat → Int32} {p n : Nat} {t : Tup} {c m0 m : Int32} (h : insW f f1 p n t c m0) (e : ∀ j, j ≠ 6 * p + 5 → f2 j = f1 j) (e5 : f2 (6 * p + 5) = m) : insW f f2 p n t c m := by
  obtain ⟨h1, h2, h3⟩ := h
  refine ⟨fun i hi j hj => by rw [e _ (by omega)]; exact h1 i hi j hj, ⟨?_, by rw [e _ (by omega)]; exact h2.2.1, e5⟩, fun i hi hn j hj => by rw [e _ (by omega)]; exact h3 i hi hn j hj⟩
  rw [← h2.1]
  exact tg_x (fun k hk => by rw [tg_up k hk, tg_up k hk, e _ (by omega)])
theorem rgI_n (h : rgI f A n a P Q M rd) (hat : atW f n p t) : ¬ (P t ∨ Q t) := isW_n h.1 (atW_n hat)
theorem rGo_m (h : j ≤ m) (w : rGo c y j t s) : rGo c y m t s := by
  obtain ⟨k, a, b⟩ := w
  exact ⟨k, by omega, b⟩
theorem rg_go (h1 : 0 < (y (6 * j + 4)).toInt) (h2 : tg t (c.1 7).toNat = tg (tup y j) (c.1 8).toNat) (hj : j < m) : rGo c y m t (trT c (sdH c t (tup y j))) := ⟨j, hj, h1, h2, rfl⟩
theorem rg_q1 (h1 : 0 < (y (6 * j + 4)).toInt) (h2 : tg t (c.1 7).toNat = tg (tup y j) (c.1 8).toNat) : (P s ∨ Q s ∨ rGo c y j t s ∨ (0 < (y (6 * j + 4)).toInt ∧ tg t (c.1 7).toNat = tg (tup y j) (c.1 8).toNat ∧ trT c (sdH c t (tup y j)) = s)) ↔ (P s ∨ (Q s ∨ rGo c y j t s) ∨ s = trT c (sdH c t (tup y j))) := by
  constructor
  · rintro (h | h | h | ⟨_, _, h⟩)
    · exact Or.inl h
    · exact Or.inr (Or.inl (Or.inl h))
    · exact Or.inr (Or.inl (Or.inr h))
    · exact Or.inr (Or.inr h.symm)
  · rintro (h | (h | h) | h)
    · exact Or.inl h
    · exact Or.inr (Or.inl h)
    · exact Or.inr (Or.inr (Or.inl h))
    · exact Or.inr (Or.inr (Or.inr ⟨h1, h2, h.symm⟩))
theorem rg_q2 (h1 : 0 < (y (6 * j + 4)).toInt) (h2 : tg t (c.1 7).toNat = tg (tup y j) (c.1 8).toNat) (h3 : P (trT c (sdH c t (tup y j))) ∨ Q (trT c (sdH c t (tup y j))) ∨ rGo c y j t (trT c (sdH c t (tup y j)))) : (P s ∨ Q s ∨ rGo c y j t s ∨ (0 < (y (6 * j + 4)).toInt ∧ tg t (c.1 7).toNat = tg (tup y j) (c.1 8).toNat ∧ trT c (sdH c t (tup y j)) = s)) ↔ (P s ∨ Q s ∨ rGo c y j t s) := by
  constructor
  · rintro (h | h | h | ⟨_, _, h⟩)
    · exact Or.inl h
    · exact Or.inr (Or.inl h)
    · exact Or.inr (Or.inr h)
    · rw [← h]; exact h3
  · rintro (h | h | h)
    · exact Or.inl h
    · exact Or.inr (Or.inl h)
    · exact Or.inr (Or.inr (Or.inl h))
theorem rg_q3 (h1 : ¬ (0 < (y (6 * j + 4)).toInt ∧ tg t (c.1 7).toNat = tg (tup y j) (c.1 8).toNat ∧ trT c (sdH c t (tup y j)) = s)) : (P s ∨ Q s ∨ rGo c y j t s ∨ (0 < (y (6 * j + 4)).toInt ∧ tg t (c.1 7).toNat = tg (tup y j) (c.1 8).toNat ∧ trT c (sdH c t (tup y j)) = s)) ↔ (P s ∨ Q s ∨ rGo c y j t s) := by
  constructor
  · rintro (h | h | h | h)
    · exact Or.inl h
    · exact Or.inr (Or.inl h)
    · exact Or.inr (Or.inr h)
    · exact absurd h h1
  · rintro (h | h | h)
    · exact Or.inl h
    · exact Or.inr (Or.inl h)
    · exact Or.inr (Or.inr (Or.inl h))
theorem rg_zero : rgI f A 0 0 (fun _ => False) (rQ0 x 0) zM (iI 0) :=
  ⟨isW_0 (fun t h => h.elim (fun h => h) (fun ⟨i, hi, _⟩ => Nat.not_lt_zero i hi)), Nat.le_refl _, fun k _ h => absurd h (Nat.not_lt_zero k), fun s _ ⟨i, hi, _⟩ => absurd hi (Nat.not_lt_zero i)⟩
theorem rg_at (h : rgI f A n 0 (fun _ => False) (rQ0 x i) M rd) (hx : okB x m) (hi : i < m) : atW f n n (tup x i) := by
  refine ⟨Nat.le_refl _, fun r hr => ?_, fun r a b => absurd b (by omega)⟩
  obtain ⟨k, hk, _, e⟩ := ((h.1.2.1 r hr).1).resolve_left (fun h => h)
  rw [← e]; exact hx.1 k i hk hi
theorem rq0_y (h : 0 < (x (6 * i + 4)).toInt) : (False ∨ rQ0 x (i + 1) s) ↔ (False ∨ rQ0 x i s ∨ s = tup x i) := by
  constructor
  · rintro (h | ⟨k, hk, a, b⟩)
    · exact Or.inl h
    · by_cases w : k = i
      · exact Or.inr (Or.inr (by rw [← b, w]))
      · exact Or.inr (Or.inl ⟨k, by omega, a, b⟩)
  · rintro (w | ⟨k, hk, a, b⟩ | w)
    · exact Or.inl w
    · exact Or.inr ⟨k, by omega, a, b⟩
    · exact Or.inr ⟨i, by omega, h, w.symm⟩
theorem rq0_n (h : ¬ 0 < (x (6 * i + 4)).toInt) : (False ∨ rQ0 x (i + 1) s) ↔ (False ∨ rQ0 x i s) := by
  constructor
  · rintro (h | ⟨k, hk, a, b⟩)
    · exact Or.inl h
    · by_cases w : k = i
      · rw [w] at a; exact absurd a h
      · exact Or.inr ⟨k, by omega, a, b⟩
  · rintro (w | ⟨k, hk, a, b⟩)
    · exact Or.inl w
    · exact Or.inr ⟨k, by omega, a, b⟩
end RWalk
theorem rgR_le {c : LC} {x y f A : Nat → Int32} {n m len fr r : Nat} (h : rgR c x n y m f A len fr r) : fr ≤ len ∧ len ≤ 120 := by
  obtain ⟨M, h1, h2, h3, h4, h5⟩ := h
  exact ⟨h3, h4⟩
