/-! the reference: sides copied -/
def cpL (f f' : Nat → Int32) (N fm to k : Int) : Prop := (∀ q : Nat, (q : Int) < N * to ∨ N * to + k ≤ (q : Int) → f' q = f q) ∧ ∀ q : Nat, (q : Int) < k → f' ((N * to).toNat + q) = f ((N * fm).toNat + q)
theorem cpL_0 {f : Nat → Int32} {N fm to : Int} : cpL f f N fm to 0 := ⟨fun _ _ => rfl, fun q h => absurd h (by omega)⟩
theorem cpL_s {f f' f2 : Nat → Int32} {N fm to k : Int} (h : cpL f f' N fm to k) (h0 : 0 ≤ k) (ht : 0 ≤ N * to) (hf : 0 ≤ N * fm) (hk : N * fm = N * to ∨ N * fm + k < N * to ∨ N * to + k ≤ N * fm) (e : ∀ j, j ≠ (N * to + k).toNat → f2 j = f' j) (e' : f2 (N * to + k).toNat = f' (N * fm + k).toNat) : cpL f f2 N fm to (k + 1) := by
  refine ⟨fun q hq => ?_, fun q hq => ?_⟩
  · rw [e q (by omega)]; exact h.1 q (by omega)
  · by_cases w : (q : Int) = k
    · rw [show (N * to).toNat + q = (N * to + k).toNat by omega, e', show (N * fm).toNat + q = (N * fm + k).toNat by omega]
      exact h.1 _ (by omega)
    · rw [e _ (by omega)]; exact h.2 q (by omega)
def cpP (gh : gGh) (fm to : Int) (AI AI' : gI) : Prop := (∀ b, b ≠ gh 56 0 → b ≠ gh 57 0 → b ≠ gh 79 0 → AI' b = AI b) ∧ cpL (AI (gh 56 0)) (AI' (gh 56 0)) 11520 fm to 11520 ∧ cpL (AI (gh 57 0)) (AI' (gh 57 0)) 16 fm to 16 ∧ cpL (AI (gh 79 0)) (AI' (gh 79 0)) 16 fm to 16
theorem cp_to {gh : gGh} {fm to : Int} {AI AI' : gI} (h : cpP gh fm to AI AI') (h0 : 0 ≤ fm ∧ 0 ≤ to) {r : Nat} (hr : r < 16) : rfM gh AI' to r = rfM gh AI fm r := by
  unfold rfM
  refine Prod.ext ?_ (funext fun q => ?_)
  · show (AI' (gh 57 0) _).toInt.toNat = (AI (gh 57 0) _).toInt.toNat
    have e := h.2.2.1.2 r (by omega)
    rw [show (16 * to + (r : Int)).toNat = (16 * to).toNat + r by omega, e, show (16 * fm).toNat + r = (16 * fm + (r : Int)).toNat by omega]
  · show (if q < 720 then _ else _) = if q < 720 then _ else _
    by_cases w : q < 720
    · rw [if_pos w, if_pos w]
      have e := h.2.1.2 (720 * r + q) (by omega)
      rw [show (11520 * to + 720 * (r : Int)).toNat + q = (11520 * to).toNat + (720 * r + q) by omega, e]; congr 1; omega
    · rw [if_neg w, if_neg w]
theorem cp_o {gh : gGh} {fm to sd : Int} {AI AI' : gI} (h : cpP gh fm to AI AI') (h0 : 0 ≤ fm ∧ 0 ≤ to) (hs : 0 ≤ sd) (hne : sd ≠ to) {r : Nat} (hr : r < 16) : rfM gh AI' sd r = rfM gh AI sd r := by
  unfold rfM
  refine Prod.ext ?_ (funext fun q => ?_)
  · show (AI' (gh 57 0) _).toInt.toNat = (AI (gh 57 0) _).toInt.toNat
    rw [h.2.2.1.1 _ (by omega)]
  · show (if q < 720 then _ else _) = if q < 720 then _ else _
    by_cases w : q < 720
    · rw [if_pos w, if_pos w, h.2.1.1 _ (by omega)]
    · rw [if_neg w, if_neg w]
/-! the reference: a table with its changes -/
section Chm
variable {x b W W' : Nat → Int32} {n m i j nb : Nat} {rr z k' : Int} {t : Tup} {P : Tup → Prop} {S : Tup → Int32} {cn : Int32}
/-- the batch, read off three arrays -/
def rbE (T V C b : Nat → Int32) (nb : Nat) : Prop := ∀ i, i < nb → T i = b (6 * i) ∧ (∀ k, k < 4 → V (4 * i + k) = b (6 * i + 1 + k)) ∧ C i = b (6 * i + 5)
def gaX (f : Nat → Int32) (n : Nat) (P : Tup → Prop) (S : Tup → Int32) : Prop := isW f n P S zM ∧ ∀ t, S t ≠ 0 → P t
theorem gaX_R (h : gaX W n P S) : gaR W n S := ⟨P, h.1, h.2⟩
theorem gaX_s (h0 : ∀ t, S t ≠ 0 → P t) (h : (z = 0 ∧ P t ∧ k' = (n : Int) ∧ isW W' n P (sAdd S t cn) zM) ∨ (z = 1 ∧ ¬ P t ∧ k' = (n : Int) + 1 ∧ isW W' (n + 1) (pAdd P t) (tUp S t cn) (tUp zM t (iI 0)))) : gaX W' k'.toNat (pAdd P t) (sAdd S t cn) := by
  have hs : ∀ s, sAdd S t cn s ≠ 0 → pAdd P t s := fun s hs => by
    by_cases w : s = t
    · exact Or.inl w
    · rw [sAdd_k w] at hs; exact Or.inr (h0 s hs)
  rcases h with ⟨_, h2, h3, h4⟩ | ⟨_, h2, h3, h4⟩
  · refine ⟨?_, hs⟩
    rw [show k'.toNat = n by omega]
    refine isW_q h4 (fun s => ⟨fun w => ?_, fun w => Or.inr w⟩) (fun _ _ => rfl) (fun _ _ => rfl)
    rcases w with w | w
    · rw [w]; exact h2
    · exact w
  · have e0 : S t = 0 := Classical.byContradiction (fun q => h2 (h0 t q))
    have eS : tUp S t cn = sAdd S t cn := by rw [sAdd_up, e0, Int32.zero_add]
    have eM : tUp zM t (iI 0) = zM := funext fun s => by
      unfold tUp
      by_cases w : s = t
      · rw [if_pos w]; rfl
      · rw [if_neg w]
    rw [eS, eM] at h4
    exact ⟨by rw [show k'.toNat = n + 1 by omega]; exact h4, hs⟩
theorem gaX_q {P' : Tup → Prop} {S' : Tup → Int32} (h : gaX W n P S) (hP : ∀ t, P' t ↔ P t) (hS : ∀ t, S' t = S t) : gaX W n P' S' := ⟨isW_q h.1 hP (fun t _ => hS t) (fun _ _ => rfl), fun t ht => (hP t).mpr (h.2 t (by rw [← hS t]; exact ht))⟩
def paX (x : Nat → Int32) (i : Nat) : Tup → Prop := fun t => ∃ q, q < i ∧ tup x q = t
def pbX (x : Nat → Int32) (n : Nat) (b : Nat → Int32) (rr : Int) (j : Nat) : Tup → Prop := fun t => paX x n t ∨ ∃ q, q < j ∧ (b (6 * q)).toInt = rr ∧ btu b q = t
def sbX (x : Nat → Int32) (n : Nat) (b : Nat → Int32) (rr : Int) (j : Nat) : Tup → Int32 := fun t => bS x n t + cS b rr j t
abbrev s1X (x : Nat → Int32) (i : Nat) : Tup → Int32 := sR id (fun _ a => a) x i s0T
theorem gx_0 : gaX W 0 (paX x 0) (s1X x 0) := ⟨isW_0 (fun t ⟨q, h, _⟩ => Nat.not_lt_zero q h), fun t h => absurd rfl h⟩
theorem gx_1 (h : gaX W m (pAdd (paX x i) (tup x i)) (sAdd (s1X x i) (tup x i) (x (6 * i + 4)))) : gaX W m (paX x (i + 1)) (s1X x (i + 1)) := by
  refine gaX_q h (fun t => ⟨fun ⟨q, a, e⟩ => ?_, fun w => ?_⟩) (fun t => rfl)
  · by_cases w : q = i
    · exact Or.inl (by rw [← e, w])
    · exact Or.inr ⟨q, by omega, e⟩
  · rcases w with w | ⟨q, a, e⟩
    · exact ⟨i, by omega, w.symm⟩
    · exact ⟨q, by omega, e⟩
theorem gx_2 (hx : okB x n) (h : gaX W m (paX x n) (s1X x n)) : gaX W m (pbX x n b rr 0) (sbX x n b rr 0) := by
  refine gaX_q h (fun t => ⟨fun w => w.elim id (fun ⟨q, a, _⟩ => absurd a (Nat.not_lt_zero q)), Or.inl⟩) (fun t => ?_)
  show bS x n t + cS b rr 0 t = s1X x n t
  rw [show cS b rr 0 t = 0 from rfl, Int32.add_zero]
  show _ = sR id (fun _ a => a) x n s0T t
  rw [sR_all hx (fun _ => rfl)]
  show bS x n t = s0T t + bS x n t
  rw [show s0T t = 0 from rfl, Int32.zero_add]
theorem gx_n (hn : (b (6 * j)).toInt ≠ rr) (h : gaX W m (pbX x n b rr j) (sbX x n b rr j)) : gaX W m (pbX x n b rr (j + 1)) (sbX x n b rr (j + 1)) := by
  refine gaX_q h (fun t => ⟨fun w => ?_, fun w => ?_⟩) (fun t => ?_)
  · rcases w with w | ⟨q, a, e⟩
    · exact Or.inl w
    · by_cases v : q = j
      · rw [v] at e; exact absurd e.1 hn
      · exact Or.inr ⟨q, by omega, e⟩
  · rcases w with w | ⟨q, a, e⟩
    · exact Or.inl w
    · exact Or.inr ⟨q, by omega, e⟩
  · show bS x n t + cS b rr (j + 1) t = bS x n t + cS b rr j t
    rw [cS, if_neg (fun q => hn q.1)]
theorem gx_y (hb : btO b nb) (hj : j < nb) (hy : (b (6 * j)).toInt = rr) (h : gaX W m (pAdd (pbX x n b rr j) (btu b j)) (sAdd (sbX x n b rr j) (btu b j) (b (6 * j + 5)))) : gaX W m (pbX x n b rr (j + 1)) (sbX x n b rr (j + 1)) := by
  refine gaX_q h (fun t => ⟨fun w => ?_, fun w => ?_⟩) (fun t => ?_)
  · rcases w with w | ⟨q, a, e⟩
    · exact Or.inr (Or.inl w)
    · by_cases v : q = j
      · exact Or.inl (by rw [← e.2, v])
      · exact Or.inr (Or.inr ⟨q, by omega, e⟩)
  · rcases w with w | w | ⟨q, a, e⟩
    · exact Or.inr ⟨j, by omega, hy, w.symm⟩
    · exact Or.inl w
    · exact Or.inr ⟨q, by omega, e⟩
  · show bS x n t + cS b rr (j + 1) t = sAdd (sbX x n b rr j) (btu b j) (b (6 * j + 5)) t
    by_cases w : t = btu b j
    · rw [w, sAdd_s, cS, if_pos ⟨hy, rfl⟩]
      show _ = bS x n (btu b j) + cS b rr j (btu b j) + b (6 * j + 5)
      rw [cS_n j (fun q hq e => absurd (bt_lt hb.1 hq hj (by rw [e.1, hy])) (by rw [e.2, tc_0.mpr rfl]; decide)), Int32.add_zero]
    · rw [sAdd_k w, cS, if_neg (fun q => w q.2.symm)]; rfl
/-- a table's count would be below 0 -/
def lowX (x : Nat → Int32) (n : Nat) (b : Nat → Int32) (rr : Int) (nb : Nat) : Prop := ∃ t, pbX x n b rr nb t ∧ (sbX x n b rr nb t).toInt < 0
theorem low_y (h : gaX W m (pbX x n b rr nb) (sbX x n b rr nb)) (hi : i < m) (hl : (W (6 * i + 4)).toInt < 0) : lowX x n b rr nb := by
  have q := h.1.2.1 i hi
  exact ⟨tup W i, q.1, by rw [← q.2.1]; exact hl⟩
theorem low_n (h : gaX W m (pbX x n b rr nb) (sbX x n b rr nb)) (hn : ∀ i : Nat, (i : Int) < (m : Int) → 0 ≤ (W (6 * i + 4)).toInt) : ¬ lowX x n b rr nb := fun ⟨t, a, e⟩ => by
  obtain ⟨i, hi, w⟩ := h.1.2.2 t a
  have q := (h.1.2.1 i hi).2.1
  rw [w] at q
  have := hn i (by omega)
  rw [q] at this
  omega
theorem low_b {F : RF} (hb : btO b nb) (hF : ∀ t, 0 ≤ (bS (F rr.toNat).2 (F rr.toNat).1 t).toInt) (h0 : 0 ≤ rr) (h : lowX (F rr.toNat).2 (F rr.toNat).1 b rr nb) : ∃ i, i < nb ∧ blw b F 1 i := by
  obtain ⟨t, a, e⟩ := h
  by_cases w : ∃ q, q < nb ∧ (b (6 * q)).toInt = rr ∧ btu b q = t
  · obtain ⟨q, q1, q2, q3⟩ := w
    refine ⟨q, q1, ?_⟩
    unfold blw
    have c := cS_y hb.1 nb (Nat.le_refl _) q1 q2
    rw [q3] at c ⊢
    rw [q2]
    have e9 : sbX (F rr.toNat).2 (F rr.toNat).1 b rr nb t = bS (F rr.toNat).2 (F rr.toNat).1 t + b (6 * q + 5) := by
      show _ + cS b rr nb t = _
      rw [c]
    rw [e9] at e
    rw [show (iI 1 : Int32) = 1 from rfl, Int32.one_mul]; exact e
  · have c := cS_n (f := b) (tb := rr) (t := t) nb (fun q hq k => w ⟨q, hq, k⟩)
    have e9 : sbX (F rr.toNat).2 (F rr.toNat).1 b rr nb t = bS (F rr.toNat).2 (F rr.toNat).1 t := by
      show _ + cS b rr nb t = _
      rw [c, Int32.add_zero]
    rw [e9] at e
    have := hF t
    omega
theorem low_f {F : RF} {tbs : Int} (hb : btO b nb) (htb : ∀ i, i < nb → 0 ≤ (b (6 * i)).toInt ∧ (b (6 * i)).toInt < tbs) (h : ∀ q : Nat, (q : Int) < tbs → ¬ lowX (F q).2 (F q).1 b (q : Int) nb) : ¬ ∃ i, i < nb ∧ blw b F 1 i := fun ⟨i, hi, e⟩ => by
  have q := htb i hi
  refine h (b (6 * i)).toInt.toNat (by omega) ⟨btu b i, Or.inr ⟨i, hi, by omega, rfl⟩, ?_⟩
  have e1 : (((b (6 * i)).toInt.toNat : Nat) : Int) = (b (6 * i)).toInt := by omega
  show (bS (F (b (6 * i)).toInt.toNat).2 (F (b (6 * i)).toInt.toNat).1 (btu b i) + cS b (((b (6 * i)).toInt.toNat : Nat) : Int) nb (btu b i)).toInt < 0
  rw [e1, cS_y hb.1 nb (Nat.le_refl _) hi rfl]
  unfold blw at e
  rw [show (iI 1 : Int32) = 1 from rfl, Int32.one_mul] at e; exact e
theorem sb_tb {F : RF} {r : Nat} : sbX (F r).2 (F r).1 b (r : Int) nb = tbS b nb F 1 r := funext fun t => by
  show _ = bS (F r).2 (F r).1 t + iI 1 * cS b (r : Int) nb t
  rw [show (iI 1 : Int32) = 1 from rfl, Int32.one_mul]; rfl
end Chm
