/-! bags: tuples of four, an amount and a mark for each; told by rows in order, they are one -/
abbrev Tup : Type := Int32 × Int32 × Int32 × Int32
def tup (f : Nat → Int32) (i : Nat) : Tup := (f (6 * i), f (6 * i + 1), f (6 * i + 2), f (6 * i + 3))
/-- a column of a tuple -/
def tg (t : Tup) : Nat → Int32
  | 0 => t.1
  | 1 => t.2.1
  | 2 => t.2.2.1
  | 3 => t.2.2.2
  | _ => 0
def tu (t : Tup) (k : Nat) : Int := (tg t k).toInt
/-- a tuple told by its columns -/
def tmk (h : Nat → Int32) : Tup := (h 0, h 1, h 2, h 3)
theorem tg_mk {h : Nat → Int32} : ∀ k, k < 4 → tg (tmk h) k = h k := fun k hk => by
  match k, hk with
  | 0, _ => rfl
  | 1, _ => rfl
  | 2, _ => rfl
  | 3, _ => rfl
  | k + 4, h => exact absurd h (by omega)
theorem tg_x {a b : Tup} (h : ∀ k, k < 4 → tg a k = tg b k) : a = b := by
  obtain ⟨a0, a1, a2, a3⟩ := a
  obtain ⟨b0, b1, b2, b3⟩ := b
  have e0 : a0 = b0 := h 0 (by omega)
  have e1 : a1 = b1 := h 1 (by omega)
  have e2 : a2 = b2 := h 2 (by omega)
  have e3 : a3 = b3 := h 3 (by omega)
  rw [e0, e1, e2, e3]
theorem tg_up {f : Nat → Int32} {i : Nat} : ∀ k, k < 4 → tg (tup f i) k = f (6 * i + k) := fun k hk => by
  match k, hk with
  | 0, _ => rfl
  | 1, _ => rfl
  | 2, _ => rfl
  | 3, _ => rfl
  | k + 4, h => exact absurd h (by omega)
theorem tup_mk {f : Nat → Int32} {i : Nat} : tup f i = tmk (fun k => f (6 * i + k)) := rfl
theorem tu_ry {f : Nat → Int32} {i : Nat} : ∀ t, t < 4 → ry6 f i t = tu (tup f i) t := fun t ht => by
  rw [ry6_e]; unfold tu; rw [tg_up t ht]
/-- the order of tuples: -1, 0, 1 -/
def tc (a b : Tup) : Int := kc 4 (tu a) (tu b)
theorem tc_r {a b : Tup} : tc a b = -1 ∨ tc a b = 0 ∨ tc a b = 1 := kc_r
theorem tc_s {a b : Tup} : tc b a = - tc a b := kc_s
theorem tc_0 {a b : Tup} : tc a b = 0 ↔ a = b := by
  unfold tc
  rw [kc_0]
  exact ⟨fun h => tg_x (fun k hk => Int32.toInt_inj.mp (h k hk)), fun h => by rw [h]; exact fun _ _ => rfl⟩
theorem tc_t {a b c : Tup} (h : tc a b ≤ 0) (k : tc b c ≤ 0) (d : tc a b < 0 ∨ tc b c < 0) : tc a c = -1 := kc_t h k d
theorem tc_ne {a b : Tup} (h : tc a b = -1) : a ≠ b := fun e => by rw [tc_0.mpr e] at h; exact absurd h (by decide)
theorem tc_ne1 {a b : Tup} (h : tc a b = 1) : a ≠ b := fun e => by rw [tc_0.mpr e] at h; exact absurd h (by decide)
theorem tc_ry {f f' : Nat → Int32} {i j : Nat} : kc 4 (ry6 f i) (ry6 f' j) = tc (tup f i) (tup f' j) := kc_c tu_ry tu_ry
theorem tc_ku {f : Nat → Int32} {i : Nat} {t : Tup} : kc 4 (ry6 f i) (tu t) = tc (tup f i) t := kc_c tu_ry (fun _ _ => rfl)
theorem tc_kv {f : Nat → Int32} {i : Nat} {t : Tup} {v : Nat → Int} (h : ∀ k, k < 4 → v k = tu t k) : kc 4 (ry6 f i) v = tc (tup f i) t := kc_c tu_ry h
/-- the first place at which two differ -/
theorem kcF_lt {u v : Nat → Int} : ∀ (m s : Nat), kcF u v m s = -1 ↔ ∃ q : Nat, s ≤ q ∧ q < s + m ∧ (∀ r, s ≤ r → r < q → u r = v r) ∧ u q < v q
  | 0, s => ⟨fun h => absurd h (by rw [kcF]; decide), fun ⟨q, a, b, _⟩ => absurd b (by omega)⟩
  | m + 1, s => by
    have ih := kcF_lt (u := u) (v := v) m (s + 1)
    by_cases h : u s = v s
    · rw [kcF_e h, ih]
      constructor
      · rintro ⟨q, a, b, c, d⟩
        exact ⟨q, by omega, by omega, fun r h1 h2 => if e : r = s then by rw [e]; exact h else c r (by omega) h2, d⟩
      · rintro ⟨q, a, b, c, d⟩
        have ne : q ≠ s := fun e => by rw [e, h] at d; omega
        exact ⟨q, by omega, by omega, fun r h1 h2 => c r (by omega) h2, d⟩
    · by_cases k : u s < v s
      · rw [kcF_l k]
        exact ⟨fun _ => ⟨s, Nat.le_refl _, by omega, fun r h1 h2 => absurd h2 (by omega), k⟩, fun _ => rfl⟩
      · rw [kcF_g (by omega)]
        refine ⟨fun e => absurd e (by decide), fun ⟨q, a, b, c, d⟩ => ?_⟩
        by_cases e : q = s
        · rw [e] at d; omega
        · exact absurd (c s (Nat.le_refl _) (by omega)) h
theorem tc_lt {a b : Tup} : tc a b = -1 ↔ ∃ q : Nat, q < 4 ∧ (∀ r, r < q → tg a r = tg b r) ∧ tu a q < tu b q := by
  unfold tc kc
  rw [kcF_lt]
  exact ⟨fun ⟨q, _, b, c, d⟩ => ⟨q, by omega, fun r h => Int32.toInt_inj.mp (c r (Nat.zero_le _) h), d⟩, fun ⟨q, b, c, d⟩ => ⟨q, Nat.zero_le _, by omega, fun r _ h => congrArg Int32.toInt (c r h), d⟩⟩
/-- n rows in order, no two alike -/
def srtB (f : Nat → Int32) (n : Nat) : Prop := ∀ i j : Nat, i < j → j < n → tc (tup f i) (tup f j) = -1
theorem srt_B {f : Nat → Int32} {n : Nat} : srt 4 f (n : Int) ↔ srtB f n :=
  ⟨fun h i j hij hj => by rw [← tc_ry]; exact h i j hij (by omega), fun h i j hij hj => by rw [tc_ry]; exact h i j hij (by omega)⟩
theorem srtB_ne {f : Nat → Int32} {n i j : Nat} (h : srtB f n) (hi : i < n) (hj : j < n) (e : tup f i = tup f j) : i = j := by
  rcases Nat.lt_trichotomy i j with w | w | w
  · exact absurd e (tc_ne (h i j w hj))
  · exact w
  · exact absurd e.symm (tc_ne (h j i w hi))
theorem srtB_le {f : Nat → Int32} {n i j : Nat} (h : srtB f n) (hij : i ≤ j) (hj : j < n) : tc (tup f i) (tup f j) ≤ 0 := by
  by_cases e : i = j
  · rw [e, tc_0.mpr rfl]; decide
  · rw [h i j (by omega) hj]; decide
/-- rows in order: just those of P, with their amounts and marks -/
def isW (f : Nat → Int32) (n : Nat) (P : Tup → Prop) (S M : Tup → Int32) : Prop :=
  srtB f n ∧ (∀ i : Nat, i < n → P (tup f i) ∧ f (6 * i + 4) = S (tup f i) ∧ f (6 * i + 5) = M (tup f i)) ∧ ∀ t : Tup, P t → ∃ i : Nat, i < n ∧ tup f i = t
def rwS (f' : Nat → Int32) (i' : Nat) (f : Nat → Int32) (i : Nat) : Prop := ∀ j, j < 6 → f' (6 * i' + j) = f (6 * i + j)
theorem rwS_t {f f' : Nat → Int32} {i i' : Nat} (h : rwS f' i' f i) : tup f' i' = tup f i := tg_x (fun k hk => by rw [tg_up k hk, tg_up k hk]; exact h k (by omega))
theorem rwS_of {f f' : Nat → Int32} {i i' : Nat} (h : tup f' i' = tup f i) (h4 : f' (6 * i' + 4) = f (6 * i + 4)) (h5 : f' (6 * i' + 5) = f (6 * i + 5)) : rwS f' i' f i := fun j hj => by
  by_cases a : j < 4
  · rw [← tg_up (f := f') (i := i') j a, ← tg_up (f := f) (i := i) j a, h]
  · by_cases b : j = 4
    · rw [b]; exact h4
    · rw [show j = 5 by omega]; exact h5
/-- as many rows, all alike -/
def rwA (f f' : Nat → Int32) (n : Nat) : Prop := ∀ i, i < n → rwS f i f' i
theorem rwA_s {f f' : Nat → Int32} {n : Nat} (h : rwA f f' n) : rwA f' f n := fun i hi j hj => (h i hi j hj).symm
theorem rwA_t {f f' f'' : Nat → Int32} {n : Nat} (h : rwA f f' n) (k : rwA f' f'' n) : rwA f f'' n := fun i hi j hj => (h i hi j hj).trans (k i hi j hj)
theorem rwA_r {f : Nat → Int32} {n : Nat} : rwA f f n := fun _ _ _ _ => rfl
theorem rwA_of {f f' : Nat → Int32} {n : Nat} (h : ∀ j, j < 6 * n → f j = f' j) : rwA f f' n := fun i hi j hj => h _ (by omega)
theorem rwA_at {f f' : Nat → Int32} {n : Nat} (h : rwA f f' n) {j : Nat} (hj : j < 6 * n) : f j = f' j := by
  have q := h (j / 6) (by omega) (j % 6) (by omega)
  rwa [show 6 * (j / 6) + j % 6 = j by omega] at q
section IsW
variable {f f' : Nat → Int32} {n n' p : Nat} {P P' : Tup → Prop} {S S' M M' : Tup → Int32} {t : Tup} {c m : Int32}
theorem isW_c (h : isW f n P S M) (e : rwA f' f n) : isW f' n P S M := by
  have et : ∀ i, i < n → tup f' i = tup f i := fun i hi => rwS_t (e i hi)
  refine ⟨fun i j hij hj => by rw [et i (by omega), et j hj]; exact h.1 i j hij hj, fun i hi => ?_, fun t ht => ?_⟩
  · rw [et i hi, e i hi 4 (by omega), e i hi 5 (by omega)]; exact h.2.1 i hi
  · obtain ⟨i, hi, q⟩ := h.2.2 t ht
    exact ⟨i, hi, (et i hi).trans q⟩
theorem isW_q (h : isW f n P S M) (hP : ∀ t, P' t ↔ P t) (hS : ∀ t, P t → S' t = S t) (hM : ∀ t, P t → M' t = M t) : isW f n P' S' M' := by
  refine ⟨h.1, fun i hi => ?_, fun t ht => h.2.2 t ((hP t).mp ht)⟩
  have q := h.2.1 i hi
  rw [hS _ q.1, hM _ q.1]
  exact ⟨(hP _).mpr q.1, q.2⟩
theorem isW_0 (h : ∀ t, ¬ P t) : isW f 0 P S M := ⟨fun i j _ hj => absurd hj (Nat.not_lt_zero j), fun i hi => absurd hi (Nat.not_lt_zero i), fun t ht => absurd ht (h t)⟩
theorem isW_h (a : isW f n P S M) (b : isW f' n' P S' M') (i : Nat) (ih : ∀ j, j < i → j < n ∧ j < n' ∧ tup f j = tup f' j) (hi : i < n) : i < n' ∧ tup f i = tup f' i := by
  obtain ⟨a1, a2, a3⟩ := a
  obtain ⟨b1, b2, b3⟩ := b
  obtain ⟨j, hj, ej⟩ := b3 (tup f i) (a2 i hi).1
  have ji : i ≤ j := by
    by_cases w : j < i
    · have q := ih j w
      have e := srtB_ne a1 q.1 hi (q.2.2.trans ej)
      omega
    · omega
  have hi' : i < n' := by omega
  refine ⟨hi', ?_⟩
  obtain ⟨k, hk, ek⟩ := a3 (tup f' i) (b2 i hi').1
  have ki : i ≤ k := by
    by_cases w : k < i
    · have q := ih k w
      have e := srtB_ne b1 q.2.1 hi' (q.2.2.symm.trans ek)
      omega
    · omega
  by_cases w : k = i
  · rw [← ek, w]
  · exfalso
    have q1 := a1 i k (by omega) hk
    rw [ek] at q1
    have q2 := srtB_le b1 ji hj
    rw [ej] at q2
    have q3 := tc_t (a := tup f i) (b := tup f' i) (c := tup f i) (by rw [q1]; decide) q2 (Or.inl (by rw [q1]; decide))
    exact tc_ne q3 rfl
/-- rows of one P are one: as many, row by row -/
theorem isW_u (a : isW f n P S M) (b : isW f' n' P S' M') (hS : ∀ t, P t → S t = S' t) (hM : ∀ t, P t → M t = M' t) : n = n' ∧ rwA f f' n := by
  have all : ∀ m i : Nat, i ≤ m → (i < n → i < n' ∧ tup f i = tup f' i) ∧ (i < n' → i < n ∧ tup f i = tup f' i) := by
    intro m
    induction m with
    | zero =>
      intro i hi
      have e : i = 0 := by omega
      subst e
      refine ⟨isW_h a b 0 (fun j hj => absurd hj (Nat.not_lt_zero j)), fun h => ?_⟩
      have q := isW_h b a 0 (fun j hj => absurd hj (Nat.not_lt_zero j)) h
      exact ⟨q.1, q.2.symm⟩
    | succ m ih =>
      intro i hi
      by_cases e : i ≤ m
      · exact ih i e
      · have e : i = m + 1 := by omega
        subst e
        refine ⟨fun h => isW_h a b (m + 1) (fun j hj => ?_) h, fun h => ?_⟩
        · have q := (ih j (by omega)).1 (by omega)
          exact ⟨by omega, q.1, q.2⟩
        · have q := isW_h b a (m + 1) (fun j hj => by
            have q := (ih j (by omega)).2 (by omega)
            exact ⟨by omega, q.1, q.2.symm⟩) h
          exact ⟨q.1, q.2.symm⟩
  have hn : n = n' := by
    rcases Nat.lt_trichotomy n n' with w | w | w
    · have q := ((all n n (Nat.le_refl _)).2 w).1
      omega
    · exact w
    · have q := ((all n' n' (Nat.le_refl _)).1 w).1
      omega
  refine ⟨hn, fun i hi => ?_⟩
  have q := (all i i (Nat.le_refl _)).1 hi
  have pa := a.2.1 i hi
  have pb := b.2.1 i q.1
  refine rwS_of q.2 ?_ ?_
  · rw [pa.2.1, pb.2.1, ← q.2]; exact hS _ pa.1
  · rw [pa.2.2, pb.2.2, ← q.2]; exact hM _ pa.1
theorem isW_n (a : isW f n P S M) (h : ∀ i : Nat, i < n → tup f i ≠ t) : ¬ P t := fun q => by
  obtain ⟨i, hi, e⟩ := a.2.2 t q
  exact h i hi e
theorem isW_i (a : isW f n P S M) {i j : Nat} (hi : i < n) (hj : j < n) (e : tup f i = tup f j) : i = j := srtB_ne a.1 hi hj e
def tUp (S : Tup → Int32) (t : Tup) (c : Int32) : Tup → Int32 := fun s => if s = t then c else S s
theorem tUp_s : tUp S t c t = c := if_pos rfl
theorem tUp_k {s : Tup} (h : s ≠ t) : tUp S t c s = S s := if_neg h
def pAdd (P : Tup → Prop) (t : Tup) : Tup → Prop := fun s => s = t ∨ P s
/-- a row comes in at p -/
def insW (f f' : Nat → Int32) (p n : Nat) (t : Tup) (c m : Int32) : Prop :=
  (∀ i, i < p → rwS f' i f i) ∧ (tup f' p = t ∧ f' (6 * p + 4) = c ∧ f' (6 * p + 5) = m) ∧ ∀ i, p ≤ i → i < n → rwS f' (i + 1) f i
/-- where a tuple would come -/
def atW (f : Nat → Int32) (n p : Nat) (t : Tup) : Prop := p ≤ n ∧ (∀ i : Nat, i < p → tc (tup f i) t = -1) ∧ ∀ i : Nat, p ≤ i → i < n → tc (tup f i) t = 1
theorem atW_n (h : atW f n p t) : ∀ i : Nat, i < n → tup f i ≠ t := fun i hi => by
  by_cases w : i < p
  · exact tc_ne (h.2.1 i w)
  · exact tc_ne1 (h.2.2 i (by omega) hi)
theorem isW_ins (a : isW f n P S M) (h : atW f n p t) (e : insW f f' p n t c m) : ¬ P t ∧ isW f' (n + 1) (pAdd P t) (tUp S t c) (tUp M t m) := by
  have nP := isW_n a (atW_n h)
  obtain ⟨hp, lo, hi⟩ := h
  obtain ⟨e1, e2, e3⟩ := e
  have r1 : ∀ i, i < p → tup f' i = tup f i := fun i w => rwS_t (e1 i w)
  have r3 : ∀ i, p ≤ i → i < n → tup f' (i + 1) = tup f i := fun i w w2 => rwS_t (e3 i w w2)
  refine ⟨nP, fun i j hij hj => ?_, fun i hi2 => ?_, fun s hs => ?_⟩
  · by_cases c1 : j < p
    · rw [r1 i (by omega), r1 j c1]; exact a.1 i j hij (by omega)
    · by_cases c2 : j = p
      · subst c2
        rw [r1 i hij, e2.1]; exact lo i hij
      · obtain ⟨k, rfl⟩ : ∃ k, j = k + 1 := ⟨j - 1, by omega⟩
        rw [r3 k (by omega) (by omega)]
        by_cases c3 : i < p
        · rw [r1 i c3]; exact a.1 i k (by omega) (by omega)
        · by_cases c4 : i = p
          · subst c4
            rw [e2.1, tc_s, hi k (by omega) (by omega)]
          · obtain ⟨l, rfl⟩ : ∃ l, i = l + 1 := ⟨i - 1, by omega⟩
            rw [r3 l (by omega) (by omega)]; exact a.1 l k (by omega) (by omega)
  · by_cases c1 : i < p
    · have q := a.2.1 i (by omega)
      have ne : tup f i ≠ t := tc_ne (lo i c1)
      rw [r1 i c1, e1 i c1 4 (by omega), e1 i c1 5 (by omega), tUp_k ne, tUp_k ne]
      exact ⟨Or.inr q.1, q.2⟩
    · by_cases c2 : i = p
      · subst c2
        rw [e2.1, e2.2.1, e2.2.2, tUp_s, tUp_s]
        exact ⟨Or.inl rfl, rfl, rfl⟩
      · obtain ⟨k, rfl⟩ : ∃ k, i = k + 1 := ⟨i - 1, by omega⟩
        have q := a.2.1 k (by omega)
        have ne : tup f k ≠ t := tc_ne1 (hi k (by omega) (by omega))
        rw [r3 k (by omega) (by omega), e3 k (by omega) (by omega) 4 (by omega), e3 k (by omega) (by omega) 5 (by omega), tUp_k ne, tUp_k ne]
        exact ⟨Or.inr q.1, q.2⟩
  · rcases hs with rfl | hs
    · exact ⟨p, by omega, e2.1⟩
    · obtain ⟨i, hi2, e⟩ := a.2.2 s hs
      by_cases w : i < p
      · exact ⟨i, by omega, (r1 i w).trans e⟩
      · exact ⟨i + 1, by omega, (r3 i (by omega) hi2).trans e⟩
/-- a row's amount, or its mark, becomes another -/
theorem isW_set (a : isW f n P S M) (hp : p < n) (et : tup f p = t) (h1 : ∀ j, j ≠ 6 * p + 4 → f' j = f j) (h2 : f' (6 * p + 4) = c) : isW f' n P (tUp S t c) M := by
  have r1 : ∀ i, tup f' i = tup f i := fun i => tg_x (fun k hk => by rw [tg_up k hk, tg_up k hk, h1 _ (by omega)])
  refine ⟨fun i j hij hj => by rw [r1, r1]; exact a.1 i j hij hj, fun i hi => ?_, fun s hs => ?_⟩
  · have q := a.2.1 i hi
    rw [r1, h1 (6 * i + 5) (by omega)]
    by_cases w : i = p
    · subst w; rw [et, h2, tUp_s]; rw [et] at q; exact ⟨q.1, rfl, q.2.2⟩
    · have ne : tup f i ≠ t := fun e => w (srtB_ne a.1 hi hp (e.trans et.symm))
      rw [tUp_k ne, h1 _ (by omega)]; exact q
  · obtain ⟨i, hi, e⟩ := a.2.2 s hs
    exact ⟨i, hi, (r1 i).trans e⟩
theorem isW_setM (a : isW f n P S M) (hp : p < n) (et : tup f p = t) (h1 : ∀ j, j ≠ 6 * p + 5 → f' j = f j) (h2 : f' (6 * p + 5) = c) : isW f' n P S (tUp M t c) := by
  have r1 : ∀ i, tup f' i = tup f i := fun i => tg_x (fun k hk => by rw [tg_up k hk, tg_up k hk, h1 _ (by omega)])
  refine ⟨fun i j hij hj => by rw [r1, r1]; exact a.1 i j hij hj, fun i hi => ?_, fun s hs => ?_⟩
  · have q := a.2.1 i hi
    rw [r1, h1 (6 * i + 4) (by omega)]
    by_cases w : i = p
    · subst w; rw [et, h2, tUp_s]; rw [et] at q; exact ⟨q.1, q.2.1, rfl⟩
    · have ne : tup f i ≠ t := fun e => w (srtB_ne a.1 hi hp (e.trans et.symm))
      rw [tUp_k ne, h1 _ (by omega)]; exact q
  · obtain ⟨i, hi, e⟩ := a.2.2 s hs
    exact ⟨i, hi, (r1 i).trans e⟩
/-- a row goes out -/
theorem isW_rem (a : isW f n P S M) (hp : p < n) (et : tup f p = t) (i : remP f f' (p : Int) (n : Int)) : isW f' (n - 1) (fun s => P s ∧ s ≠ t) S M := by
  obtain ⟨i1, i2⟩ := i
  have r1 : ∀ j, j < p → rwS f' j f j := fun j hj k hk => i1 _ (by omega)
  have r3 : ∀ j, p ≤ j → j + 1 < n → rwS f' j f (j + 1) := fun j hj hl k hk => by rw [show 6 * (j + 1) + k = 6 * j + k + 6 by omega]; exact i2 _ (by omega) (by omega)
  have ne : ∀ j, j < n → j ≠ p → tup f j ≠ t := fun j hj hn e => hn (srtB_ne a.1 hj hp (e.trans et.symm))
  refine ⟨fun j k hjk hk => ?_, fun j hj => ?_, fun s hs => ?_⟩
  · by_cases c1 : k < p
    · rw [rwS_t (r1 j (by omega)), rwS_t (r1 k c1)]; exact a.1 j k hjk (by omega)
    · rw [rwS_t (r3 k (by omega) (by omega))]
      by_cases c2 : j < p
      · rw [rwS_t (r1 j c2)]; exact a.1 j (k + 1) (by omega) (by omega)
      · rw [rwS_t (r3 j (by omega) (by omega))]; exact a.1 (j + 1) (k + 1) (by omega) (by omega)
  · by_cases c1 : j < p
    · have q := a.2.1 j (by omega)
      rw [rwS_t (r1 j c1), r1 j c1 4 (by omega), r1 j c1 5 (by omega)]
      exact ⟨⟨q.1, ne j (by omega) (by omega)⟩, q.2⟩
    · have q := a.2.1 (j + 1) (by omega)
      have z := r3 j (by omega) (by omega)
      rw [rwS_t z, z 4 (by omega), z 5 (by omega)]
      exact ⟨⟨q.1, ne (j + 1) (by omega) (by omega)⟩, q.2⟩
  · obtain ⟨k, hk, ek⟩ := a.2.2 s hs.1
    have kp : k ≠ p := fun w => hs.2 (by rw [← ek, w, et])
    by_cases w : k < p
    · exact ⟨k, by omega, (rwS_t (r1 k w)).trans ek⟩
    · obtain ⟨l, rfl⟩ : ∃ l, k = l + 1 := ⟨k - 1, by omega⟩
      exact ⟨l, by omega, (rwS_t (r3 l (by omega) hk)).trans ek⟩
/-! a search -/
theorem fd_y {v : Nat → Int} {z : Int} (hv : ∀ k, k < 4 → v k = tu t k) (h : fdK 4 f (n : Int) v z) (h0 : 0 ≤ z) : z.toNat < n ∧ tup f z.toNat = t := by
  rcases h with ⟨_, a, b⟩ | ⟨a, _⟩
  · rw [tc_kv hv] at b
    exact ⟨by omega, tc_0.mp b⟩
  · exact absurd a (by omega)
theorem fd_n {v : Nat → Int} {z : Int} (hs : srtB f n) (hv : ∀ k, k < 4 → v k = tu t k) (h : fdK 4 f (n : Int) v z) (h0 : z < 0) : atW f n (-1 - z).toNat t := by
  rcases h with ⟨a, _⟩ | ⟨_, a, b, c⟩
  · exact absurd a (by omega)
  · have hs' := srt_B.mpr hs
    refine ⟨by omega, fun i w => ?_, fun i w w2 => ?_⟩
    · rw [← tc_kv hv]
      exact srt_lo (p := (-1 - z).toNat) hs' (fun w => by rw [show (-1 - z).toNat - 1 = (-1 - z - 1).toNat by omega]; exact b (by omega)) (by omega) i w
    · rw [← tc_kv hv]
      exact srt_hi (p := (-1 - z).toNat) hs' (fun w => c (by omega)) i w (by omega)
theorem insP_W {v : Nat → Int} {len x r : Int} (hv : ∀ k, k < 4 → v k = tu t k) (hr : 0 ≤ r) (hl : len = (n : Int)) (h : insP 4 f f' v r len x) : insW f f' r.toNat n t (iI x) 0 := by
  obtain ⟨i1, i2, i3, i4, i5⟩ := h
  have e6 : (6 * r).toNat = 6 * r.toNat := by omega
  rw [e6] at i3
  refine ⟨fun i hi j hj => i1 _ (by omega), ⟨tg_x (fun k hk => ?_), i3, by have := i4 rfl; rwa [e6] at this⟩, fun i hi hl2 j hj => ?_⟩
  · have q := i2 k hk
    rw [e6] at q
    rw [tg_up k hk]
    exact Int32.toInt_inj.mp (q.trans (hv k hk))
  · rw [show 6 * (i + 1) + j = 6 * i + j + 6 by omega]
    exact i5 _ (by omega) (by omega)
/-! a bag: no amount is 0 -/
def isB (f : Nat → Int32) (n : Nat) (S M : Tup → Int32) : Prop := isW f n (fun t => S t ≠ 0) S M
abbrev zM : Tup → Int32 := fun _ => 0
def sAdd (S : Tup → Int32) (t : Tup) (c : Int32) : Tup → Int32 := fun s => if s = t then S s + c else S s
theorem sAdd_s : sAdd S t c t = S t + c := if_pos rfl
theorem sAdd_k {s : Tup} (h : s ≠ t) : sAdd S t c s = S s := if_neg h
theorem sAdd_0 : sAdd S t 0 = S := funext fun s => by
  by_cases w : s = t
  · rw [w, sAdd_s, Int32.add_zero]
  · exact sAdd_k w
theorem sAdd_up : sAdd S t c = tUp S t (S t + c) := funext fun s => by
  by_cases w : s = t
  · rw [w, sAdd_s, tUp_s]
  · rw [sAdd_k w, tUp_k w]
/-- what addAmount does to a bag -/
theorem isB_add {v : Nat → Int} {lim len' z x : Int} (a : isB f n S zM) (hv : ∀ k, k < 4 → v k = tu t k) (h : addP 4 lim f f' (n : Int) len' v x z) (zc : zr x) : (z = 1 ∧ 0 ≤ len' ∧ isB f' len'.toNat (sAdd S t (iI x)) zM) ∨ (z = 0 ∧ lim ≤ (n : Int) ∧ S t = 0 ∧ iI x ≠ 0 ∧ f' = f ∧ len' = (n : Int)) := by
  have c0 : iI x = 0 ↔ x = 0 := ⟨fun e => (iI_eq zc zr_0).mp e, fun e => by rw [e]; rfl⟩
  have a' : isW f n (fun t => S t ≠ 0) S zM := a
  rcases h with ⟨q, k1, k2, k3⟩ | ⟨r, k1, k2, k3, k4⟩
  · have hat := fd_n a'.1 hv k1 (by omega)
    have s0 : S t = 0 := by
      have := isW_n a' (atW_n hat)
      exact Classical.byContradiction this
    rcases k3 with ⟨y1, y2, y3, y4⟩ | ⟨y1, y2, y3, y4, y5⟩ | ⟨y1, y2, y3, y4, y5⟩
    · subst y4
      refine Or.inl ⟨y2, by omega, ?_⟩
      rw [c0.mpr y1, sAdd_0, y3, show ((n : Int)).toNat = n by omega]; exact a
    · exact Or.inr ⟨y3, y2, s0, fun e => y1 (c0.mp e), y5, y4⟩
    · refine Or.inl ⟨y3, by omega, ?_⟩
      rw [y4, show ((n : Int) + 1).toNat = n + 1 by omega]
      have iw := insP_W hv k2 rfl y5
      rw [show (-1 - (-1 - q)).toNat = q.toNat by omega] at hat
      refine isW_q (isW_ins a' hat iw).2 (fun s => ?_) (fun s _ => ?_) (fun s _ => ?_)
      · show sAdd S t (iI x) s ≠ 0 ↔ pAdd (fun t => S t ≠ 0) t s
        by_cases w : s = t
        · rw [w, sAdd_s, s0, Int32.zero_add]; exact ⟨fun _ => Or.inl rfl, fun _ e => y1 (c0.mp e)⟩
        · rw [sAdd_k w]; exact ⟨fun e => Or.inr e, fun e => e.resolve_left w⟩
      · rw [sAdd_up, s0, Int32.zero_add]
      · by_cases w : s = t
        · rw [w, tUp_s]
        · rw [tUp_k w]
  · obtain ⟨x2, x3⟩ := fd_y hv k1 k2
    have e6 : (6 * r).toNat = 6 * r.toNat := by omega
    rw [e6] at k4
    have am : f (6 * r.toNat + 4) = S t := by rw [(a'.2.1 _ x2).2.1, x3]
    have hx : iI ((f (6 * r.toNat + 4)).toInt + x) = S t + iI x := by rw [am, ← iI_add, iI_self]
    have er : ((r.toNat : Nat) : Int) = r := by omega
    have pt : S t ≠ 0 := by have := (a'.2.1 _ x2).1; rwa [x3] at this
    rcases k4 with ⟨y1, y2, y3⟩ | ⟨y1, y2, y3⟩
    · refine Or.inl ⟨k3, by omega, ?_⟩
      rw [← er] at y3
      rw [y2, show ((n : Int) - 1).toNat = n - 1 by omega]
      rw [hx] at y1
      refine isW_q (isW_rem a' x2 x3 y3) (fun s => ?_) (fun s q => ?_) (fun _ _ => rfl)
      · show sAdd S t (iI x) s ≠ 0 ↔ S s ≠ 0 ∧ s ≠ t
        by_cases w : s = t
        · rw [w, sAdd_s, y1]; exact ⟨fun e => absurd rfl e, fun e => absurd rfl e.2⟩
        · rw [sAdd_k w]; exact ⟨fun e => ⟨e, w⟩, fun e => e.1⟩
      · exact sAdd_k q.2
    · refine Or.inl ⟨k3, by omega, ?_⟩
      rw [y2, show ((n : Int)).toNat = n by omega]
      obtain ⟨z1, z2⟩ := y3
      rw [e6] at z1 z2
      refine isW_q (isW_set a' x2 x3 z1 (z2.trans hx)) (fun s => ?_) (fun s _ => by rw [sAdd_up]) (fun _ _ => rfl)
      show sAdd S t (iI x) s ≠ 0 ↔ S s ≠ 0
      by_cases w : s = t
      · rw [w, sAdd_s]; rw [hx] at y1; exact ⟨fun _ => pt, fun _ => y1⟩
      · rw [sAdd_k w]
end IsW
/-! how many -/
theorem php : ∀ (n m : Nat) (h : Nat → Nat), (∀ i, i < m → h i < n) → (∀ i j, i < j → j < m → h i ≠ h j) → m ≤ n
  | 0, m, h, h1, _ => by
    by_cases w : m = 0
    · omega
    · exact absurd (h1 0 (by omega)) (Nat.not_lt_zero _)
  | n + 1, 0, h, _, _ => Nat.zero_le _
  | n + 1, k + 1, h, h1, h2 => by
    have ih := php n k (fun i => if h i = n then h k else h i) (fun i hi => by
      have a := h1 i (by omega)
      have b := h1 k (by omega)
      have d := h2 i k hi (by omega)
      show (if h i = n then h k else h i) < n
      by_cases w : h i = n
      · rw [if_pos w]; omega
      · rw [if_neg w]; omega) (fun i j hij hj => by
      have a := h2 i j hij (by omega)
      have b := h2 i k (by omega) (by omega)
      have d := h2 j k hj (by omega)
      show (if h i = n then h k else h i) ≠ (if h j = n then h k else h j)
      by_cases w : h i = n
      · by_cases w2 : h j = n
        · omega
        · rw [if_pos w, if_neg w2]; omega
      · by_cases w2 : h j = n
        · rw [if_neg w, if_pos w2]; omega
        · rw [if_neg w, if_neg w2]; exact a)
    omega
/-- more than L -/
def bigP (L : Nat) (P : Tup → Prop) : Prop := ∃ g : Nat → Tup, (∀ i j, i < j → j ≤ L → g i ≠ g j) ∧ ∀ i, i ≤ L → P (g i)
theorem bigP_m {L : Nat} {P P' : Tup → Prop} (h : bigP L P) (k : ∀ t, P t → P' t) : bigP L P' := ⟨h.choose, h.choose_spec.1, fun i hi => k _ (h.choose_spec.2 i hi)⟩
theorem isW_big {f : Nat → Int32} {n L : Nat} {P : Tup → Prop} {S M : Tup → Int32} (a : isW f n P S M) (h : bigP L P) : L < n := by
  obtain ⟨g, g1, g2⟩ := h
  have q : ∀ i, ∃ j, i ≤ L → j < n ∧ tup f j = g i := fun i => by
    by_cases w : i ≤ L
    · obtain ⟨j, hj, e⟩ := a.2.2 _ (g2 i w)
      exact ⟨j, fun _ => ⟨hj, e⟩⟩
    · exact ⟨0, fun h => absurd h w⟩
  have := php n (L + 1) (fun i => (q i).choose) (fun i hi => ((q i).choose_spec (by omega)).1) (fun i j hij hj e => by
    have e1 := ((q i).choose_spec (by omega)).2
    have e2 := ((q j).choose_spec (by omega)).2
    exact g1 i j hij (by omega) (by rw [← e1, ← e2]; exact congrArg (tup f) e))
  omega
/-- n rows of P, and one more that is none of them -/
theorem bigP_of {f : Nat → Int32} {n : Nat} {P : Tup → Prop} {t : Tup} (hs : srtB f n) (h : ∀ i, i < n → P (tup f i)) (ht : P t) (hn : ∀ i, i < n → tup f i ≠ t) : bigP n P := by
  refine ⟨fun i => if i < n then tup f i else t, fun i j hij hj => ?_, fun i hi => ?_⟩
  · show (if i < n then tup f i else t) ≠ (if j < n then tup f j else t)
    rw [if_pos (by omega)]
    by_cases w : j < n
    · rw [if_pos w]; exact tc_ne (hs i j hij w)
    · rw [if_neg w]; exact hn i (by omega)
  · show P (if i < n then tup f i else t)
    by_cases w : i < n
    · rw [if_pos w]; exact h i w
    · rw [if_neg w]; exact ht
