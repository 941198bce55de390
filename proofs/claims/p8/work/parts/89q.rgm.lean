/-! the reference: rings -/
section Rgm
variable {c : LC} {x y f f' F F' A : Nat → Int32} {t u s : Tup} {T : Nat → Int32} {r z k' : Int} {n m i j k p was len len' R : Nat} {P Q Q' : Tup → Prop} {M : Tup → Int32} {rd : Int32} {Tk : Nat → Tup} {hh h2 : Nat → Int32}
def rgM (T : Nat → Int32) (r : Int) (c : LC) : Prop := tmM T r 1 c ∧ tI T (40 * r + 4) = c.1 4 ∧ tI T (40 * tI T (40 * r + 2) + 1) = c.1 5 ∧ tI T (40 * tI T (40 * r + 3) + 1) = c.1 6 ∧ mP T r 0 0 = c.1 7 ∧ mP T r 0 1 = c.1 8
theorem isW_bg {S M : Tup → Int32} {L : Nat} (a : isW f n P S M) (h : L < n) : bigP L P := ⟨tup f, fun i j hij hj e => absurd (isW_i a (by omega) (by omega) e) (by omega), fun i hi => (a.2.1 i (by omega)).1⟩
theorem trT_cg (h : ∀ k : Nat, (k : Int) < c.1 4 → c.2 k 0 ≠ -1 → hh (c.2 k 0).toNat = h2 (c.2 k 0).toNat) : trT c hh = trT c h2 := by
  unfold trT; congr 1; funext k
  by_cases w : (k : Int) < c.1 4
  · rw [if_pos w, if_pos w]; unfold trm
    by_cases v : c.2 k 0 = -1
    · rw [if_pos v, if_pos v]
    · rw [if_neg v, if_neg v, h k w v]
  · rw [if_neg w, if_neg w]
def rfI (f : Nat → Int32) (n : Nat) (P Q : Tup → Prop) (M : Tup → Int32) (rd : Int32) : Prop := isW f n (fun s => P s ∨ Q s) (fun _ => 1) (fun t => pI (P t) (M t) rd)
theorem rfI_q (h : rfI f n P Q M rd) (hQ : ∀ s, P s ∨ Q' s ↔ P s ∨ Q s) : rfI f n P Q' M rd := isW_q h hQ (fun _ _ => rfl) (fun _ _ => rfl)
theorem rfI_s (hn : ¬ (P t ∨ Q t)) (h : (z = 0 ∧ (P t ∨ Q t) ∧ k' = (n : Int) ∧ isW f' n (fun s => P s ∨ Q s) (sAdd (fun _ => 1) t (iI 1)) (fun t => pI (P t) (M t) rd)) ∨
    (z = 1 ∧ ¬ (P t ∨ Q t) ∧ k' = (n : Int) + 1 ∧ isW f' (n + 1) (pAdd (fun s => P s ∨ Q s) t) (tUp (fun _ => 1) t (iI 1)) (tUp (fun t => pI (P t) (M t) rd) t rd))) : z = 1 ∧ k' = (n : Int) + 1 ∧ rfI f' k'.toNat P (fun s => Q s ∨ s = t) M rd := by
  rcases h with ⟨_, h2, _⟩ | ⟨h1, _, h3, h4⟩
  · exact absurd h2 hn
  · refine ⟨h1, h3, ?_⟩
    rw [show k'.toNat = n + 1 by omega]
    refine isW_q h4 (fun s => ⟨fun w => ?_, fun w => ?_⟩) (fun s _ => ?_) (fun s _ => ?_)
    · rcases w with w | w | w
      · exact Or.inr (Or.inl w)
      · exact Or.inr (Or.inr w)
      · exact Or.inl w
    · rcases w with w | w | w
      · exact Or.inr (Or.inr w)
      · exact Or.inl w
      · exact Or.inr (Or.inl w)
    · by_cases w : s = t
      · rw [w, tUp_s]; rfl
      · rw [tUp_k w]
    · by_cases w : s = t
      · rw [w, tUp_s, pI_n (fun q => hn (Or.inl q))]
      · rw [tUp_k w]
/-- what comes of the tuples ahead of k, and of k with the first j -/
def rqM (c : LC) (y : Nat → Int32) (m : Nat) (Tk : Nat → Tup) (k j : Nat) : Tup → Prop := fun s => (∃ i, i < k ∧ rGo c y m (Tk i) s) ∨ rGo c y j (Tk k) s
theorem rqM_0 : ¬ rqM c y m Tk 0 0 s := fun h => h.elim (fun ⟨i, hi, _⟩ => Nat.not_lt_zero i hi) rGo_0
theorem rqM_r : rqM c y m Tk (k + 1) 0 s ↔ rqM c y m Tk k m s := by
  refine ⟨fun h => ?_, fun h => ?_⟩
  · rcases h with ⟨i, hi, w⟩ | h
    · by_cases e : i = k
      · rw [e] at w; exact Or.inr w
      · exact Or.inl ⟨i, by omega, w⟩
    · exact absurd h rGo_0
  · rcases h with ⟨i, hi, w⟩ | h
    · exact Or.inl ⟨i, by omega, w⟩
    · exact Or.inl ⟨k, by omega, h⟩
theorem rqM_3 (h1 : ¬ (0 < (y (6 * j + 4)).toInt ∧ tg (Tk k) (c.1 7).toNat = tg (tup y j) (c.1 8).toNat)) : rqM c y m Tk k (j + 1) s ↔ rqM c y m Tk k j s := by
  unfold rqM; rw [rGo_s]
  refine ⟨fun h => ?_, fun h => ?_⟩
  · rcases h with h | h | h
    · exact Or.inl h
    · exact Or.inr h
    · exact absurd ⟨h.1, h.2.1⟩ h1
  · rcases h with h | h
    · exact Or.inl h
    · exact Or.inr (Or.inl h)
theorem rqM_1 (h1 : 0 < (y (6 * j + 4)).toInt) (h2 : tg (Tk k) (c.1 7).toNat = tg (tup y j) (c.1 8).toNat) : rqM c y m Tk k (j + 1) s ↔ rqM c y m Tk k j s ∨ s = trT c (sdH c (Tk k) (tup y j)) := by
  unfold rqM; rw [rGo_s]
  refine ⟨fun h => ?_, fun h => ?_⟩
  · rcases h with h | h | h
    · exact Or.inl (Or.inl h)
    · exact Or.inl (Or.inr h)
    · exact Or.inr h.2.2.symm
  · rcases h with (h | h) | h
    · exact Or.inl h
    · exact Or.inr (Or.inl h)
    · exact Or.inr (Or.inr ⟨h1, h2, h.symm⟩)
theorem rqM_a (h : rqM c y m Tk k j s) (hk : k < was) (hj : j ≤ m) : ∃ i, i < was ∧ rGo c y m (Tk i) s := by
  rcases h with ⟨i, hi, w⟩ | w
  · exact ⟨i, by omega, w⟩
  · exact ⟨k, hk, rGo_m hj w⟩
theorem rqM_e : rqM c y m Tk was 0 s ↔ ∃ i, i < was ∧ rGo c y m (Tk i) s := ⟨fun h => h.elim id (fun w => absurd w rGo_0), fun h => Or.inl h⟩
theorem rq_d (hin : P t ∨ Q t) (e : Q' s ↔ Q s ∨ s = t) : P s ∨ Q' s ↔ P s ∨ Q s := by
  rw [e]
  refine ⟨fun h => ?_, fun h => ?_⟩
  · rcases h with h | h | h
    · exact Or.inl h
    · exact Or.inr h
    · rw [h]; exact hin
  · rcases h with h | h
    · exact Or.inl h
    · exact Or.inr (Or.inl h)
/-- the tuples of the round, as they were picked -/
def frW (W : Nat → Int32) (r : Nat) (F : Nat → Int32) (was k : Nat) : Prop := (∀ i, i < was → ∃ p, p < k ∧ tup W p = arT F i ∧ W (6 * p + 5) = iI (r : Int)) ∧ ∀ p, p < k → W (6 * p + 5) = iI (r : Int) → ∃ i, i < was ∧ arT F i = tup W p
theorem frW_0 : frW f R F 0 0 := ⟨fun i h => absurd h (Nat.not_lt_zero i), fun p h => absurd h (Nat.not_lt_zero p)⟩
theorem frW_n (h : frW f R F was k) (hn : f (6 * k + 5) ≠ iI (R : Int)) : frW f R F was (k + 1) := by
  refine ⟨fun i hi => ?_, fun p hp e => ?_⟩
  · obtain ⟨p, a, b⟩ := h.1 i hi
    exact ⟨p, by omega, b⟩
  · by_cases w : p = k
    · rw [w] at e; exact absurd e hn
    · exact h.2 p (by omega) e
theorem frW_y (h : frW f R F was k) (hy : f (6 * k + 5) = iI (R : Int)) (e : ∀ j, j < 4 * was → F' j = F j) (e' : ∀ j, j < 4 → F' (4 * was + j) = f (6 * k + j)) : frW f R F' (was + 1) (k + 1) := by
  have ea : ∀ i, i < was → arT F' i = arT F i := fun i hi => arT_c (fun j hj => e _ (by omega))
  have eb : arT F' was = tup f k := tg_x (fun j hj => by rw [arT_at hj, tg_up j hj]; exact e' j hj)
  refine ⟨fun i hi => ?_, fun p hp e => ?_⟩
  · by_cases w : i = was
    · exact ⟨k, by omega, by rw [w, eb], hy⟩
    · obtain ⟨p, a, b⟩ := h.1 i (by omega)
      exact ⟨p, by omega, by rw [ea i (by omega)]; exact b⟩
  · by_cases w : p = k
    · exact ⟨was, by omega, by rw [w, eb]⟩
    · obtain ⟨i, a, b⟩ := h.2 p (by omega) e
      exact ⟨i, by omega, by rw [ea i a]; exact b⟩
/-- the set at a round's end -/
def rhM (c : LC) (x : Nat → Int32) (n : Nat) (y : Nat → Int32) (m : Nat) (W : Nat → Int32) (len r : Nat) : Prop :=
  ∃ M, isW W len (rS c x n y m r).2 (fun _ => 1) M ∧ (∀ q t, q ≤ r → (rS c x n y m q).1 t → M t = iI (q : Int)) ∧ len ≤ 120 ∧ (1 ≤ r → ∃ t, (rS c x n y m r).1 t)
def frA (c : LC) (x : Nat → Int32) (n : Nat) (y : Nat → Int32) (m r was : Nat) (Tk : Nat → Tup) : Prop := (∀ i, i < was → (rS c x n y m r).1 (Tk i)) ∧ ∀ t, (rS c x n y m r).1 t → ∃ i, i < was ∧ Tk i = t
theorem frW_e (hW : isW f len (rS c x n y m R).2 (fun _ => 1) M) (hM : ∀ q t, q ≤ R → (rS c x n y m q).1 t → M t = iI (q : Int)) (hR : R ≤ 40) (h : frW f R F was len) : frA c x n y m R was (arT F) := by
  refine ⟨fun i hi => ?_, fun t ht => ?_⟩
  · obtain ⟨p, a, b, d⟩ := h.1 i hi
    have q := hW.2.1 p a
    obtain ⟨w, w1, w2⟩ := rS_at R _ q.1
    have e := hM w _ w1 w2
    rw [← q.2.2, d] at e
    have e9 := (iI_eq (a := (R : Int)) (b := (w : Int)) ⟨by omega, by omega⟩ ⟨by omega, by omega⟩).mp e
    rw [← b, show R = w by omega]; exact w2
  · obtain ⟨p, a, b⟩ := hW.2.2 t (rS_new R t ht)
    have q := hW.2.1 p a
    obtain ⟨i, d1, d2⟩ := h.2 p a (by rw [q.2.2, b]; exact hM R t (Nat.le_refl _) ht)
    exact ⟨i, d1, d2.trans b⟩
theorem rh_new (hT : frA c x n y m R was Tk) : (rS c x n y m (R + 1)).1 s ↔ rqM c y m Tk was 0 s ∧ ¬ (rS c x n y m R).2 s := by
  rw [rqM_e]
  refine ⟨fun ⟨⟨t, a, b⟩, d⟩ => ?_, fun ⟨⟨i, a, b⟩, d⟩ => ⟨⟨Tk i, hT.1 i a, b⟩, d⟩⟩
  obtain ⟨i, e1, e2⟩ := hT.2 t a
  exact ⟨⟨i, e1, by rw [e2]; exact b⟩, d⟩
theorem rh_all (hT : frA c x n y m R was Tk) : (rS c x n y m (R + 1)).2 s ↔ (rS c x n y m R).2 s ∨ rqM c y m Tk was 0 s := by
  refine ⟨fun w => ?_, fun w => ?_⟩
  · rcases w with w | w
    · exact Or.inl w
    · exact Or.inr ((rh_new hT).mp w).1
  · by_cases v : (rS c x n y m R).2 s
    · exact Or.inl v
    · exact Or.inr ((rh_new hT).mpr ⟨w.resolve_left v, v⟩)
theorem rh_no (hW : isW f len (rS c x n y m R).2 (fun _ => 1) M) (hT : frA c x n y m R was Tk) (h : rfI f' len' (rS c x n y m R).2 (rqM c y m Tk was 0) M rd) (e : len' = len) : ∀ t, ¬ (rS c x n y m (R + 1)).1 t := fun t ht => by
  have q := (rh_new hT).mp ht
  have b := bigP_of (P := fun s => (rS c x n y m R).2 s ∨ rqM c y m Tk was 0 s) hW.1 (fun i hi => Or.inl (hW.2.1 i hi).1) (Or.inr q.1) (fun i hi e => q.2 (by rw [← e]; exact (hW.2.1 i hi).1))
  have := isW_big h b
  omega
theorem rh_end (hW : isW f len (rS c x n y m R).2 (fun _ => 1) M) (hM : ∀ q t, q ≤ R → (rS c x n y m q).1 t → M t = iI (q : Int)) (hN : 1 ≤ R → ∃ t, (rS c x n y m R).1 t) (hR : R ≤ 40) (hl : len ≤ 120) (hT : frA c x n y m R was Tk) (h : rfI f' len' (rS c x n y m R).2 (rqM c y m Tk was 0) M rd) (e : len' = len) : rgY c x n y m R f' len' := by
  have no := rh_no hW hT h e
  refine ⟨hR, no, ?_, by omega, M, isW_q h (fun s => ⟨fun w => Or.inl w, fun w => ?_⟩) (fun _ _ => rfl) (fun s hs => ?_), hM⟩
  · by_cases w : R = 0
    · exact Or.inl w
    · exact Or.inr (hN (by omega))
  · rcases w with w | w
    · exact w
    · exact Classical.byContradiction fun v => no s ((rh_new hT).mpr ⟨w, v⟩)
  · have v : (rS c x n y m R).2 s := by
      rcases hs with w | w
      · exact w
      · exact Classical.byContradiction fun v => no s ((rh_new hT).mpr ⟨w, v⟩)
    exact (pI_y v).symm
theorem rh_next (hW : isW f len (rS c x n y m R).2 (fun _ => 1) M) (hM : ∀ q t, q ≤ R → (rS c x n y m q).1 t → M t = iI (q : Int)) (hT : frA c x n y m R was Tk) (h : rfI f' len' (rS c x n y m R).2 (rqM c y m Tk was 0) M (iI ((R : Int) + 1))) (hl : len' ≤ 120) (e : len' ≠ len) : rhM c x n y m f' len' (R + 1) := by
  refine ⟨fun t => pI ((rS c x n y m R).2 t) (M t) (iI ((R : Int) + 1)), isW_q h (fun s => rh_all hT) (fun _ _ => rfl) (fun _ _ => rfl), fun q t hq ht => ?_, hl, fun _ => ?_⟩
  · by_cases w : q = R + 1
    · subst w
      show pI ((rS c x n y m R).2 t) (M t) (iI ((R : Int) + 1)) = _
      rw [pI_n ht.2]; rfl
    · show pI ((rS c x n y m R).2 t) (M t) (iI ((R : Int) + 1)) = _
      rw [pI_y (rS_lt (by omega) t (rS_new q t ht))]
      exact hM q t (by omega) ht
  · refine Classical.byContradiction fun no => e ?_
    have b := isW_q (P' := (rS c x n y m R).2) (S' := fun _ => 1) (M' := M) h (fun s => ⟨fun w => Or.inl w, fun w => w.elim id (fun w => Classical.byContradiction fun v => no ⟨s, (rh_new hT).mpr ⟨w, v⟩⟩)⟩) (fun _ _ => rfl) (fun s hs => (pI_y (hs.elim id (fun w => Classical.byContradiction fun v => no ⟨s, (rh_new hT).mpr ⟨w, v⟩⟩))).symm)
    exact (isW_u hW b (fun _ _ => rfl) (fun _ _ => rfl)).1.symm
theorem rh_big (hT : frA c x n y m R was Tk) (hR : R + 1 ≤ 40) (hb : bigP 120 (fun s => (rS c x n y m R).2 s ∨ ∃ i, i < was ∧ rGo c y m (Tk i) s)) : ∃ q, q ≤ 40 ∧ bigP 120 (rS c x n y m q).2 :=
  ⟨R + 1, hR, bigP_m hb (fun s hs => (rh_all hT).mpr (hs.elim Or.inl (fun w => Or.inr (rqM_e.mpr w))))⟩
theorem rh_many (hW : isW f len (rS c x n y m R).2 (fun _ => 1) M) (hl : len ≤ 120) (hT : frA c x n y m R was Tk) (hR : R = 40) (hs : ∃ s, ¬ (rS c x n y m R).2 s ∧ ∃ i, i < was ∧ rGo c y m (Tk i) s) : (∃ t, (rS c x n y m 41).1 t) ∧ ¬ bigP 120 (rS c x n y m 40).2 := by
  subst hR
  obtain ⟨s, a, b⟩ := hs
  refine ⟨⟨s, (rh_new hT).mpr ⟨rqM_e.mpr b, a⟩⟩, fun hb => ?_⟩
  have := isW_big hW hb
  omega
/-- round 0 -/
theorem rh_0 (h : isW f len (rQ0 x n) (fun _ => 1) zM) (hl : len ≤ 120) : rhM c x n y m f len 0 := ⟨zM, h, fun q t hq _ => by rw [show q = 0 by omega]; rfl, hl, fun w => absurd w (by omega)⟩
theorem rq_s (hn : ¬ rQ0 x i t) (h0 : 0 < (x (6 * i + 4)).toInt) (et : tup x i = t) (h : (z = 0 ∧ rQ0 x i t ∧ k' = (len : Int) ∧ isW f' len (rQ0 x i) (sAdd (fun _ => 1) t (iI 1)) zM) ∨ (z = 1 ∧ ¬ rQ0 x i t ∧ k' = (len : Int) + 1 ∧ isW f' (len + 1) (pAdd (rQ0 x i) t) (tUp (fun _ => 1) t (iI 1)) (tUp zM t (iI 0)))) : isW f' k'.toNat (rQ0 x (i + 1)) (fun _ => 1) zM := by
  rcases h with ⟨_, h2, _⟩ | ⟨_, _, h3, h4⟩
  · exact absurd h2 hn
  · rw [show k'.toNat = len + 1 by omega]
    refine isW_q h4 (fun s => ⟨fun ⟨q, a, b, d⟩ => ?_, fun w => ?_⟩) (fun s _ => ?_) (fun s _ => ?_)
    · by_cases e : q = i
      · exact Or.inl (by rw [← d, e, et])
      · exact Or.inr ⟨q, by omega, b, d⟩
    · rcases w with w | ⟨q, a, b⟩
      · exact ⟨i, by omega, h0, by rw [w, et]⟩
      · exact ⟨q, by omega, b⟩
    · by_cases w : s = t
      · rw [w, tUp_s]; rfl
      · rw [tUp_k w]
    · by_cases w : s = t
      · rw [w, tUp_s]; rfl
      · rw [tUp_k w]
theorem rq_n (h0 : ¬ 0 < (x (6 * i + 4)).toInt) (h : isW f len (rQ0 x i) (fun _ => 1) zM) : isW f len (rQ0 x (i + 1)) (fun _ => 1) zM := by
  refine isW_q h (fun s => ⟨fun ⟨q, a, b, d⟩ => ⟨q, ?_, b, d⟩, fun ⟨q, a, b⟩ => ⟨q, by omega, b⟩⟩) (fun _ _ => rfl) (fun _ _ => rfl)
  by_cases e : q = i
  · rw [e] at b; exact absurd b h0
  · omega
theorem rq_no (hx : okB x n) (hi : i < n) : ¬ rQ0 x i (tup x i) := fun ⟨q, a, _, d⟩ => absurd (srtB_ne hx.1 (by omega) hi d) (by omega)
/-- a ring's set, laid -/
theorem rgY_lay {W g g' : Nat → Int32} {b : Nat} (h : rgY c x n y m R W k) (hl : layP W g g' b (k : Int) 0) : rgY c x n y m R (fun q => g' (b + q)) (wCnt W k).toNat := by
  obtain ⟨h1, h2, h3, h4, M, h5, h6⟩ := h
  have e := layP_B (S := fun t => pI ((rS c x n y m R).2 t) 1 0) (isW_q h5 (fun _ => Iff.rfl) (fun t ht => pI_y ht) (fun _ _ => rfl)) hl (fun t ht => pI_ne ht)
  have u := wCnt_u (f := W) (a := k)
  refine ⟨h1, h2, h3, by omega, M, isW_q e (fun t => ⟨fun ht => ?_, fun ht => pI_ne ht⟩) (fun t ht => (pI_y (pI_ne ht)).symm) (fun _ _ => rfl), h6⟩
  show pI _ 1 0 ≠ 0
  rw [pI_y ht]; decide
end Rgm
