/-! the same tokens, as the reference keeps them -/
def tMw (b : tTx) (k : Nat) : Nat → Int64
  | 0 => 0
  | m + 1 => if m < 8 then 256 * tMw b k m + (iI (b (k + m) % 256)).toInt64 else tMw b k m
def tNq (b : tTx) (k : Nat) : Nat → Int
  | 0 => 0
  | m + 1 => if m < 4 ∧ tDg (b (k + m)) then 10 * tNq b k m + b (k + m) - 48 else tNq b k m
/-- the reference's number of a kind -/
def tkM (K : Int) : Int := if K = 0 then 0 else if K = 1 then 5 else if K = 2 then 1 else if K = 3 then 2 else if K = 4 then 3 else 4
theorem tNq_le {b : tTx} {k : Nat} : ∀ m, 0 ≤ tNq b k m ∧ tNq b k m ≤ 10 ^ (min m 4) - 1
  | 0 => by show (0 : Int) ≤ 0 ∧ (0 : Int) ≤ 10 ^ 0 - 1; decide
  | m + 1 => by
    have g := tNq_le (b := b) (k := k) m
    rw [tNq]
    by_cases h : m < 4 ∧ tDg (b (k + m))
    · rw [if_pos h]
      rw [show min m 4 = m by omega] at g
      rw [show min (m + 1) 4 = m + 1 by omega, Int.pow_succ]
      have := h.2
      omega
    · rw [if_neg h]
      refine ⟨g.1, Int.le_trans g.2 ?_⟩
      have : (10 : Int) ^ min m 4 ≤ 10 ^ min (m + 1) 4 := by
        rcases (show m = 0 ∨ m = 1 ∨ m = 2 ∨ m = 3 ∨ 4 ≤ m by omega) with rfl | rfl | rfl | rfl | h4
        · decide
        · decide
        · decide
        · decide
        · rw [show min m 4 = 4 by omega, show min (m + 1) 4 = 4 by omega]; exact Int.le_refl _
      omega
theorem tNq_9 {b : tTx} {k m : Nat} : 0 ≤ tNq b k m ∧ tNq b k m ≤ 9999 := by
  have g := tNq_le (b := b) (k := k) m
  have : (10 : Int) ^ min m 4 ≤ 10000 := by
    rcases (show min m 4 = 0 ∨ min m 4 = 1 ∨ min m 4 = 2 ∨ min m 4 = 3 ∨ min m 4 = 4 by omega) with h | h | h | h | h <;> rw [h] <;> decide
  omega
/-- all digits: the number itself -/
theorem tNq_nb {b : tTx} {k : Nat} : ∀ {m}, m ≤ 4 → (∀ j, j < m → tDg (b (k + j))) → tNq b k m = tNb b k m
  | 0, _, _ => rfl
  | m + 1, hm, h => by rw [tNq, tNb, if_pos ⟨by omega, h m (by omega)⟩, tNq_nb (by omega) (fun j hj => h j (by omega))]
theorem tNq_2 {b : tTx} {k : Nat} (h0 : ¬ tDg (b k)) (h1 : tDg (b (k + 1))) : tNq b k 2 = b (k + 1) - 48 := by
  rw [tNq, if_pos ⟨by decide, h1⟩, tNq, if_neg (fun q => h0 q.2), tNq]; omega
/-- the reference at the token that stands at k: place, end, kind, number, word -/
def tMk (b : tTx) (n k : Nat) (f : Nat → Int32) (w : Int64) : Prop :=
  (f 19).toInt = (k : Int) ∧ (f 20).toInt = (tNd b n k : Int) ∧ (f 21).toInt = tkM (tKd b n k) ∧
  (tkM (tKd b n k) = 4 → (f 23).toInt = tKd b n k) ∧ (tKd b n k = 2 ∨ tKd b n k = 4 → (f 23).toInt = tVl b n k) ∧ (tKd b n k = 3 → w = tMw b k (tRn b n k - k))
/-- what a run is: its end, kind and number -/
theorem tMk_run {b : tTx} {n k : Nat} {f : Nat → Int32} {w : Int64} (hk : k < n) (hr : tRu (b k)) (h19 : (f 19).toInt = (k : Int)) (h20 : (f 20).toInt = (tRn b n k : Int)) (h21 : (f 21).toInt = tkM (tKr b k (tRn b n k - k))) (h23 : (f 23).toInt = tNq b k (tRn b n k - k)) (hw : w = tMw b k (tRn b n k - k)) : tMk b n k f w := by
  have eK : tKd b n k = tKr b k (tRn b n k - k) := by unfold tKd; rw [if_neg (by omega), if_pos hr]
  have eV : tVl b n k = tVr b k (tRn b n k - k) := by unfold tVl; rw [if_neg (by omega), if_pos hr]
  have eN : tNd b n k = tRn b n k := by unfold tNd; rw [if_neg (by omega), if_pos hr]
  refine ⟨h19, by rw [eN]; exact h20, by rw [eK]; exact h21, fun q => ?_, fun q => ?_, fun _ => hw⟩
  · rw [eK] at q
    exfalso
    have h : tKr b k (tRn b n k - k) = 1 ∨ tKr b k (tRn b n k - k) = 2 ∨ tKr b k (tRn b n k - k) = 3 ∨ tKr b k (tRn b n k - k) = 4 := by
      unfold tKr
      by_cases a : tDc b k (tRn b n k - k) = 0 ∧ tRn b n k - k ≤ 8
      · rw [if_pos a]; omega
      · rw [if_neg a]
        by_cases c : tDc b k (tRn b n k - k) = tRn b n k - k ∧ tRn b n k - k ≤ 4
        · rw [if_pos c]; omega
        · rw [if_neg c]
          by_cases d : tRn b n k - k = 2 ∧ b k = 99 ∧ 48 ≤ b (k + 1) ∧ b (k + 1) ≤ 51
          · rw [if_pos d]; omega
          · rw [if_neg d]; omega
    rcases h with h | h | h | h <;> rw [h] at q <;> exact absurd q (by decide)
  · rw [eK] at q
    rw [h23, eV]
    unfold tVr
    rcases q with q | q
    · rw [q, if_neg (by decide), if_neg (by decide), if_pos rfl]
      unfold tKr at q
      by_cases a : tDc b k (tRn b n k - k) = 0 ∧ tRn b n k - k ≤ 8
      · rw [if_pos a] at q; exact absurd q (by decide)
      · rw [if_neg a] at q
        by_cases c : tDc b k (tRn b n k - k) = tRn b n k - k ∧ tRn b n k - k ≤ 4
        · rw [if_pos c] at q; exact absurd q (by decide)
        · rw [if_neg c] at q
          by_cases d : tRn b n k - k = 2 ∧ b k = 99 ∧ 48 ≤ b (k + 1) ∧ b (k + 1) ≤ 51
          · rw [d.1]; exact tNq_2 (by omega) (by omega)
          · rw [if_neg d] at q; exact absurd q (by decide)
    · rw [q, if_neg (by decide), if_pos rfl]
      unfold tKr at q
      by_cases a : tDc b k (tRn b n k - k) = 0 ∧ tRn b n k - k ≤ 8
      · rw [if_pos a] at q; exact absurd q (by decide)
      · rw [if_neg a] at q
        by_cases c : tDc b k (tRn b n k - k) = tRn b n k - k ∧ tRn b n k - k ≤ 4
        · exact tNq_nb c.2 (tDc_all c.1)
        · rw [if_neg c] at q
          by_cases d : tRn b n k - k = 2 ∧ b k = 99 ∧ 48 ≤ b (k + 1) ∧ b (k + 1) ≤ 51
          · rw [if_pos d] at q; exact absurd q (by decide)
          · rw [if_neg d] at q; exact absurd q (by decide)
theorem tMk_end {b : tTx} {n k : Nat} {f : Nat → Int32} {w : Int64} (hk : n ≤ k) (hn : k ≤ n) (h19 : (f 19).toInt = (k : Int)) (h20 : (f 20).toInt = (k : Int)) (h21 : (f 21).toInt = 0) : tMk b n k f w := by
  have e : k = n := by omega
  subst e
  have eK : tKd b k k = 0 := by unfold tKd; rw [if_pos (Nat.le_refl _)]
  have eN : tNd b k k = k := by unfold tNd; rw [if_pos (Nat.le_refl _)]
  refine ⟨h19, by rw [eN]; exact h20, by rw [eK]; exact h21, fun q => ?_, fun q => ?_, fun q => ?_⟩
  · rw [eK] at q; exact absurd q (by decide)
  · rw [eK] at q; exact absurd q (by decide)
  · rw [eK] at q; exact absurd q (by decide)
theorem tMk_sg {b : tTx} {n k : Nat} {f : Nat → Int32} {w : Int64} (hk : k < n) (hr : ¬ tRu (b k)) (h19 : (f 19).toInt = (k : Int)) (h20 : (f 20).toInt = (k : Int) + 1) (h : (tSg (b k) ∧ (f 21).toInt = 4 ∧ (f 23).toInt = b k) ∨ (¬ tSg (b k) ∧ (f 21).toInt = 5)) : tMk b n k f w := by
  have eN : tNd b n k = k + 1 := by unfold tNd; rw [if_neg (by omega), if_neg hr]
  rcases h with ⟨a, c, d⟩ | ⟨a, c⟩
  · have eK : tKd b n k = b k := by unfold tKd; rw [if_neg (by omega), if_neg hr, if_pos a]
    have e4 : tkM (b k) = 4 := by unfold tkM; rw [if_neg (by omega), if_neg (by omega), if_neg (by omega), if_neg (by omega), if_neg (by omega)]
    refine ⟨h19, by rw [eN]; omega, by rw [eK, e4]; exact c, fun _ => by rw [eK]; exact d, fun q => ?_, fun q => ?_⟩
    · rw [eK] at q; exact absurd q (by omega)
    · rw [eK] at q; exact absurd q (by omega)
  · have eK : tKd b n k = 1 := by unfold tKd; rw [if_neg (by omega), if_neg hr, if_neg a]
    refine ⟨h19, by rw [eN]; omega, by rw [eK]; exact c, fun q => ?_, fun q => ?_, fun q => ?_⟩
    · rw [eK] at q; exact absurd q (by decide)
    · rw [eK] at q; exact absurd q (by decide)
    · rw [eK] at q; exact absurd q (by decide)
