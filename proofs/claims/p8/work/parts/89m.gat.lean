/-! the reference: what was gathered so far -/
section Gat
variable {f f' g g' : Nat → Int32} {n b : Nat} {S : Tup → Int32} {P : Tup → Prop} {t : Tup} {cn : Int32} {z k : Int}
def gaR (f : Nat → Int32) (n : Nat) (S : Tup → Int32) : Prop := ∃ P : Tup → Prop, isW f n P S zM ∧ ∀ t, S t ≠ 0 → P t
theorem gaR_0 : gaR f 0 s0T := ⟨fun _ => False, isW_0 (fun _ h => h), fun t h => absurd rfl h⟩
theorem gaR_s (hS : ∀ t, S t ≠ 0 → P t) (h : (z = 0 ∧ P t ∧ k = (n : Int) ∧ isW f' n P (sAdd S t cn) zM) ∨ (z = 1 ∧ ¬ P t ∧ k = (n : Int) + 1 ∧ isW f' (n + 1) (pAdd P t) (tUp S t cn) (tUp zM t (iI 0)))) : gaR f' k.toNat (sAdd S t cn) := by
  rcases h with ⟨_, h2, h3, h4⟩ | ⟨_, h2, h3, h4⟩
  · refine ⟨P, by rw [show k.toNat = n by omega]; exact h4, fun s hs => ?_⟩
    by_cases w : s = t
    · rw [w]; exact h2
    · rw [sAdd_k w] at hs; exact hS s hs
  · have e0 : S t = 0 := Classical.byContradiction (fun q => h2 (hS t q))
    have eS : tUp S t cn = sAdd S t cn := by rw [sAdd_up, e0, Int32.zero_add]
    have eM : tUp zM t (iI 0) = zM := funext fun s => by
      unfold tUp
      by_cases w : s = t
      · rw [if_pos w]; rfl
      · rw [if_neg w]
    rw [eS, eM] at h4
    refine ⟨pAdd P t, by rw [show k.toNat = n + 1 by omega]; exact h4, fun s hs => ?_⟩
    by_cases w : s = t
    · exact Or.inl w
    · rw [sAdd_k w] at hs; exact Or.inr (hS s hs)
theorem gaR_lay (h : gaR f n S) (hl : layP f g g' b (n : Int) 0) : isB (fun q => g' (b + q)) (wCnt f n).toNat S zM := by
  obtain ⟨P, h1, h2⟩ := h
  exact layP_B h1 hl h2
theorem gaR_big (h : gaR f n S) (hl : 120 < wCnt f n) : bigP 120 (fun t => S t ≠ 0) := by
  have ex : ∀ i : Nat, ∃ r : Nat, i ≤ 120 → r < n ∧ f (6 * r + 4) ≠ 0 ∧ wCnt f r = (i : Int) := fun i => by
    by_cases w : i ≤ 120
    · obtain ⟨r, h1, h2, h3⟩ := wC_ex (f := f) n i (by omega)
      exact ⟨r, fun _ => ⟨h1, h2, h3⟩⟩
    · exact ⟨0, fun q => absurd q w⟩
  obtain ⟨P, hw, _⟩ := h
  refine ⟨fun i => tup f (ex i).choose, fun i j hij hj e => ?_, fun i hi => ?_⟩
  · have a1 := (ex i).choose_spec (by omega)
    have a2 := (ex j).choose_spec hj
    have q := isW_i hw a1.1 a2.1 e
    have q1 := a1.2.2
    rw [q, a2.2.2] at q1
    omega
  · have a1 := (ex i).choose_spec hi
    show S (tup f _) ≠ 0
    rw [← (hw.2.1 _ a1.1).2.1]; exact a1.2.1
end Gat
/-! the reference: a join -/
section Jn
variable {c : LC} {t u : Tup} {T : Nat → Int32} {r k d is : Int} {K K' : Nat → Int32}
def jnM (T : Nat → Int32) (r : Int) (c : LC) : Prop := tI T (40 * r + 4) = c.1 4 ∧ tI T (40 * tI T (40 * r + 2) + 1) = c.1 5 ∧ tI T (40 * tI T (40 * r + 3) + 1) = c.1 6 ∧
  (∀ k : Nat, (k : Int) < c.1 4 → mP T r (k : Int) 0 = c.2 k 0 ∧ mP T r (k : Int) 1 = c.2 k 1) ∧ ∀ d : Nat, (d : Int) < c.1 6 → (mBit (tI T (40 * r + 5)) (d : Int) = 1 ↔ tld c d)
theorem jnM_at (h : jnM T r c) (h0 : 0 ≤ k) (h1 : k < c.1 4) : mP T r k 0 = c.2 k.toNat 0 ∧ mP T r k 1 = c.2 k.toNat 1 := by
  have q := h.2.2.2.1 k.toNat (by omega)
  rw [Int.toNat_of_nonneg h0] at q; exact q
theorem jnM_d (h : jnM T r c) (h0 : 0 ≤ d) (h1 : d < c.1 6) : mBit (tI T (40 * r + 5)) d = 1 ↔ tld c d.toNat := by
  have q := h.2.2.2.2 d.toNat (by omega)
  rw [Int.toNat_of_nonneg h0] at q; exact q
theorem jnM_c (h : jnM T r c) : ∀ d : Nat, (d : Int) ≤ c.1 6 → mCnt (tI T (40 * r + 5)) d = ((jc c d : Nat) : Int)
  | 0, _ => rfl
  | d + 1, hd => by
    have ih := jnM_c h d (by omega)
    have e := h.2.2.2.2 d (by omega)
    rw [mCnt, ih]
    by_cases w : tld c d
    · rw [if_pos (e.mpr w), jc_k w]; omega
    · rw [if_neg (fun q => w (e.mp q)), jc_s w]; omega
def alI (c : LC) (t u : Tup) (is k : Int) : Prop := (is = 1 ∧ ∀ j : Nat, (j : Int) < k → tg t (c.2 j 0).toNat = tg u (c.2 j 1).toNat) ∨ (is = 0 ∧ ¬ alk c t u)
theorem alI_0 : alI c t u 1 0 := Or.inl ⟨rfl, fun j h => absurd h (by omega)⟩
theorem alI_y (h : alI c t u is k) (hi : is ≠ 0) (h0 : 0 ≤ k) (e : tg t (c.2 k.toNat 0).toNat = tg u (c.2 k.toNat 1).toNat) : alI c t u 1 (k + 1) := by
  rcases h with ⟨_, h⟩ | ⟨h, _⟩
  · exact Or.inl ⟨rfl, fun j hj => by
      by_cases w : (j : Int) = k
      · rw [show j = k.toNat by omega]; exact e
      · exact h j (by omega)⟩
  · exact absurd h hi
theorem alI_n (h0 : 0 ≤ k) (h1 : k < c.1 4) (e : tg t (c.2 k.toNat 0).toNat ≠ tg u (c.2 k.toNat 1).toNat) : alI c t u 0 (k + 1) := Or.inr ⟨rfl, fun q => e (q k.toNat (by omega))⟩
theorem alI_z (h : alI c t u is k) (hi : is = 0) : alI c t u 0 (k + 1) := by
  rcases h with ⟨h, _⟩ | ⟨_, h⟩
  · omega
  · exact Or.inr ⟨rfl, h⟩
theorem alI_t (h : alI c t u is k) (hi : is ≠ 0) (hk : c.1 4 ≤ k) : alk c t u := by
  rcases h with ⟨_, h⟩ | ⟨h, _⟩
  · exact fun j hj => h j (by omega)
  · exact absurd h hi
theorem alI_f (h : alI c t u is k) (hi : is = 0) : ¬ alk c t u := by
  rcases h with ⟨h, _⟩ | ⟨_, h⟩
  · omega
  · exact h
def jtM (c : LC) (t u : Tup) (K : Nat → Int32) (d : Int) : Prop := (∀ j : Nat, (j : Int) < c.1 5 → j < 4 → K j = tg t j) ∧ (∀ q : Nat, (q : Int) < d → ¬ tld c q → K ((c.1 5).toNat + jc c q) = tg u q) ∧ ∀ j : Nat, (c.1 5).toNat + jc c d.toNat ≤ j → j < 4 → K j = 0
theorem jtM_0 (h : ∀ j, j < 4 → K j = tg t j) (z : zT (c.1 5) t) (h5 : 0 ≤ c.1 5) : jtM c t u K 0 := by
  refine ⟨fun j _ h4 => h j h4, fun q hq => absurd hq (by omega), fun j hj h4 => ?_⟩
  have e : jc c (0 : Int).toNat = 0 := rfl
  rw [e] at hj
  rw [h j h4]; exact z j (by omega) h4
theorem jtM_k (h : jtM c t u K d) (h0 : 0 ≤ d) (w : tld c d.toNat) : jtM c t u K (d + 1) := by
  refine ⟨h.1, fun q hq hn => ?_, fun j hj h4 => ?_⟩
  · by_cases e : (q : Int) = d
    · exact absurd w (by rw [show d.toNat = q by omega]; exact hn)
    · exact h.2.1 q (by omega) hn
  · rw [show (d + 1).toNat = d.toNat + 1 by omega, jc_k w] at hj; exact h.2.2 j hj h4
theorem jtM_s (h : jtM c t u K d) (h0 : 0 ≤ d) (h5 : 0 ≤ c.1 5) (w : ¬ tld c d.toNat) (e : ∀ j, j ≠ (c.1 5).toNat + jc c d.toNat → K' j = K j) (e' : K' ((c.1 5).toNat + jc c d.toNat) = tg u d.toNat) : jtM c t u K' (d + 1) := by
  refine ⟨fun j hj h4 => by rw [e j (by omega)]; exact h.1 j hj h4, fun q hq hn => ?_, fun j hj h4 => ?_⟩
  · by_cases x : (q : Int) = d
    · rw [show q = d.toNat by omega]; exact e'
    · have lt := jc_lt (q := d.toNat) hn (by omega)
      rw [e _ (by omega)]; exact h.2.1 q (by omega) hn
  · rw [show (d + 1).toNat = d.toNat + 1 by omega, jc_s w] at hj
    rw [e j (by omega)]; exact h.2.2 j (by omega) h4
theorem jtM_e (h : jtM c t u K d) (h0 : 0 ≤ d) (hd : c.1 6 ≤ d) (hd2 : d ≤ c.1 6) (h5 : 0 ≤ c.1 5) : ∀ j, j < 4 → K j = tg (jn c t u) j :=
  jn_of h.1 (fun q hq hn => h.2.1 q (by omega) hn) (fun j hj h4 => h.2.2 j (by rw [show d = c.1 6 by omega]; exact hj) h4) h5
end Jn
