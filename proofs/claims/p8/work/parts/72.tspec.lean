/-! the tokens of a text, as both sides read them: b its bytes (from -128 to 127), n its length -/
abbrev tTx : Type := Nat → Int
abbrev tDg (c : Int) : Prop := 48 ≤ c ∧ c ≤ 57
abbrev tRu (c : Int) : Prop := (48 ≤ c ∧ c ≤ 57) ∨ (97 ≤ c ∧ c ≤ 122)
abbrev tBl (c : Int) : Prop := c = 32 ∨ c = 10
abbrev tSg (c : Int) : Prop := c = 61 ∨ c = 60 ∨ c = 62 ∨ c = 43 ∨ c = 45 ∨ c = 44 ∨ c = 59
def tSkF (b : tTx) : Nat → Nat → Nat
  | 0, k => k
  | f + 1, k => if tBl (b k) then tSkF b f (k + 1) else k
/-- the first place from k on that is no blank -/
def tSk (b : tTx) (n k : Nat) : Nat := tSkF b (n - k) k
def tRnF (b : tTx) : Nat → Nat → Nat
  | 0, k => k
  | f + 1, k => if tRu (b k) then tRnF b f (k + 1) else k
/-- the end of a run -/
def tRn (b : tTx) (n k : Nat) : Nat := tRnF b (n - k) k
theorem tSk_n {b : tTx} {n k : Nat} (h : n ≤ k) : tSk b n k = k := by unfold tSk; rw [show n - k = 0 by omega]; rfl
theorem tSk_b {b : tTx} {n k : Nat} (h : k < n) (hb : tBl (b k)) : tSk b n k = tSk b n (k + 1) := by
  unfold tSk; rw [show n - k = (n - (k + 1)) + 1 by omega, tSkF, if_pos hb]
theorem tSk_s {b : tTx} {n k : Nat} (h : k < n) (hb : ¬ tBl (b k)) : tSk b n k = k := by
  unfold tSk; rw [show n - k = (n - (k + 1)) + 1 by omega, tSkF, if_neg hb]
theorem tRn_n {b : tTx} {n k : Nat} (h : n ≤ k) : tRn b n k = k := by unfold tRn; rw [show n - k = 0 by omega]; rfl
theorem tRn_b {b : tTx} {n k : Nat} (h : k < n) (hb : tRu (b k)) : tRn b n k = tRn b n (k + 1) := by
  unfold tRn; rw [show n - k = (n - (k + 1)) + 1 by omega, tRnF, if_pos hb]
theorem tRn_s {b : tTx} {n k : Nat} (h : k < n) (hb : ¬ tRu (b k)) : tRn b n k = k := by
  unfold tRn; rw [show n - k = (n - (k + 1)) + 1 by omega, tRnF, if_neg hb]
theorem tRnF_le {b : tTx} : ∀ (f k : Nat), k ≤ tRnF b f k ∧ tRnF b f k ≤ k + f ∧ (∀ j, k ≤ j → j < tRnF b f k → tRu (b j)) ∧ (tRnF b f k < k + f → ¬ tRu (b (tRnF b f k)))
  | 0, k => ⟨Nat.le_refl _, Nat.le_refl _, fun j h1 h2 => absurd h2 (by show ¬ j < k; omega), fun h => absurd h (by show ¬ k < k + 0; omega)⟩
  | f + 1, k => by
    rw [tRnF]
    by_cases h : tRu (b k)
    · rw [if_pos h]
      obtain ⟨h1, h2, h3, h4⟩ := tRnF_le (b := b) f (k + 1)
      refine ⟨by omega, by omega, fun j hj hl => ?_, fun hl => h4 (by omega)⟩
      by_cases q : j = k
      · rw [q]; exact h
      · exact h3 j (by omega) hl
    · rw [if_neg h]
      exact ⟨Nat.le_refl _, by omega, fun j h1 h2 => absurd h2 (by omega), fun _ => h⟩
theorem tRn_le {b : tTx} {n k : Nat} (h : k ≤ n) : k ≤ tRn b n k ∧ tRn b n k ≤ n ∧ (∀ j, k ≤ j → j < tRn b n k → tRu (b j)) ∧ (tRn b n k < n → ¬ tRu (b (tRn b n k))) := by
  obtain ⟨h1, h2, h3, h4⟩ := tRnF_le (b := b) (n - k) k
  exact ⟨h1, by unfold tRn; omega, h3, fun q => h4 (by unfold tRn at q; omega)⟩
/-- where all to e are of the run, and e is none or the end -/
theorem tRn_at {b : tTx} {n : Nat} : ∀ {k e : Nat}, k ≤ e → e ≤ n → (∀ j, k ≤ j → j < e → tRu (b j)) → (e < n → ¬ tRu (b e)) → tRn b n k = e := by
  intro k e h1 h2 h3 h4
  obtain ⟨g1, g2, g3, g4⟩ := tRn_le (b := b) (n := n) (k := k) (by omega)
  rcases Nat.lt_trichotomy (tRn b n k) e with q | q | q
  · exact absurd (h3 _ g1 q) (g4 (by omega))
  · exact q
  · exact absurd (g3 e h1 q) (h4 (by omega))
theorem tSkF_le {b : tTx} : ∀ (f k : Nat), k ≤ tSkF b f k ∧ tSkF b f k ≤ k + f ∧ (tSkF b f k < k + f → ¬ tBl (b (tSkF b f k)))
  | 0, k => ⟨Nat.le_refl _, Nat.le_refl _, fun h => absurd h (by show ¬ k < k + 0; omega)⟩
  | f + 1, k => by
    rw [tSkF]
    by_cases h : tBl (b k)
    · rw [if_pos h]
      obtain ⟨h1, h2, h4⟩ := tSkF_le (b := b) f (k + 1)
      exact ⟨by omega, by omega, fun hl => h4 (by omega)⟩
    · rw [if_neg h]
      exact ⟨Nat.le_refl _, by omega, fun _ => h⟩
theorem tSk_le {b : tTx} {n k : Nat} (h : k ≤ n) : k ≤ tSk b n k ∧ tSk b n k ≤ n ∧ (tSk b n k < n → ¬ tBl (b (tSk b n k))) := by
  obtain ⟨h1, h2, h4⟩ := tSkF_le (b := b) (n - k) k
  exact ⟨h1, by unfold tSk; omega, fun q => h4 (by unfold tSk at q; omega)⟩
/-- the end of the token at k -/
def tNd (b : tTx) (n k : Nat) : Nat := if n ≤ k then n else if tRu (b k) then tRn b n k else k + 1
/-- where the tokens stand; behind the last one the end again and again -/
def tPs (b : tTx) (n : Nat) : Nat → Nat
  | 0 => tSk b n 0
  | j + 1 => tSk b n (tNd b n (tPs b n j))
theorem tNd_le {b : tTx} {n k : Nat} : tNd b n k ≤ n ∧ (k < n → k < tNd b n k) := by
  unfold tNd
  by_cases h : n ≤ k
  · rw [if_pos h]; exact ⟨Nat.le_refl _, fun q => absurd q (by omega)⟩
  · rw [if_neg h]
    by_cases q : tRu (b k)
    · rw [if_pos q]
      have g := tRn_le (b := b) (n := n) (k := k + 1) (by omega)
      rw [tRn_b (by omega) q]
      exact ⟨g.2.1, fun _ => by omega⟩
    · rw [if_neg q]; exact ⟨by omega, fun _ => by omega⟩
theorem tPs_le {b : tTx} {n : Nat} : ∀ j, tPs b n j ≤ n
  | 0 => (tSk_le (Nat.zero_le n)).2.1
  | j + 1 => (tSk_le tNd_le.1).2.1
/-- digits among the first m from k on; their number; the letters of a name as the class packs them, as the reference does -/
def tDc (b : tTx) (k : Nat) : Nat → Nat
  | 0 => 0
  | m + 1 => tDc b k m + (if tDg (b (k + m)) then 1 else 0)
def tNb (b : tTx) (k : Nat) : Nat → Int
  | 0 => 0
  | m + 1 => 10 * tNb b k m + b (k + m) - 48
def tNm (b : tTx) (k : Nat) : Nat → Int64
  | 0 => 0
  | m + 1 => (tNm b k m <<< ((iI 5).toInt64 &&& 63)) ||| (iI (b (k + m) - 97 + 1)).toInt64
theorem tDc_le {b : tTx} {k : Nat} : ∀ m, tDc b k m ≤ m
  | 0 => Nat.le_refl _
  | m + 1 => by
    have := tDc_le (b := b) (k := k) m
    rw [tDc]
    by_cases h : tDg (b (k + m))
    · rw [if_pos h]; omega
    · rw [if_neg h]; omega
theorem tDc_all {b : tTx} {k : Nat} : ∀ {m}, tDc b k m = m → ∀ j, j < m → tDg (b (k + j))
  | 0, _ => fun j hj => absurd hj (by omega)
  | m + 1, h => fun j hj => by
    have g := tDc_le (b := b) (k := k) m
    rw [tDc] at h
    by_cases q : tDg (b (k + m))
    · rw [if_pos q] at h
      by_cases qj : j = m
      · rw [qj]; exact q
      · exact tDc_all (m := m) (by omega) j (by omega)
    · rw [if_neg q] at h; omega
theorem tDc_none {b : tTx} {k : Nat} : ∀ {m}, tDc b k m = 0 → ∀ j, j < m → ¬ tDg (b (k + j))
  | 0, _ => fun j hj => absurd hj (by omega)
  | m + 1, h => fun j hj => by
    rw [tDc] at h
    by_cases q : tDg (b (k + m))
    · rw [if_pos q] at h; omega
    · rw [if_neg q] at h
      by_cases qj : j = m
      · rw [qj]; exact q
      · exact tDc_none (m := m) (by omega) j (by omega)
theorem tNb_le {b : tTx} {k : Nat} : ∀ {m}, (∀ j, j < m → tDg (b (k + j))) → 0 ≤ tNb b k m ∧ tNb b k m ≤ 10 ^ m - 1
  | 0, _ => by show (0 : Int) ≤ 0 ∧ (0 : Int) ≤ 10 ^ 0 - 1; decide
  | m + 1, h => by
    have g := tNb_le (b := b) (k := k) (m := m) (fun j hj => h j (by omega))
    have q := h m (by omega)
    rw [tNb, Int.pow_succ]
    omega
/-- the words of the language: their lengths and letters; the number of the word that stands at k, m letters long -/
def wTab : List (Nat × Nat) := [(0, 5), (6, 6), (13, 7), (21, 4), (26, 5), (32, 5), (38, 8), (47, 5), (53, 4), (58, 4), (63, 5), (69, 3), (73, 2), (76, 2), (79, 4), (84, 4), (89, 5), (95, 3), (99, 5), (105, 4)]
def wBy : List Int32 := [116, 97, 98, 108, 101, 32, 115, 101, 108, 101, 99, 116, 32, 112, 114, 111, 106, 101, 99, 116, 32, 106, 111, 105, 110, 32, 117, 110, 105, 111, 110, 32, 109, 105, 110, 117, 115, 32, 100, 105, 115, 116, 105, 110, 99, 116, 32, 103, 114, 111, 117, 112, 32, 114, 105, 110, 103, 32, 118, 105, 101, 119, 32, 119, 104, 101, 114, 101, 32, 97, 110, 100, 32, 111, 110, 32, 98, 121, 32, 119, 105, 116, 104, 32, 107, 101, 101, 112, 32, 99, 111, 117, 110, 116, 32, 115, 117, 109, 32, 108, 101, 97, 115, 116, 32, 109, 111, 115, 116, 32]
def wSt (w : Nat) : Nat := (wTab.getD w (110, 0)).1
def wLn (w : Nat) : Nat := (wTab.getD w (110, 0)).2
def wCh (j : Nat) : Int := (wBy.getD j 0).toInt
abbrev tWa (b : tTx) (k m w : Nat) : Prop := wLn w = m ∧ ∀ j, j < m → wCh (wSt w + j) = b (k + j)
def tWf (b : tTx) (k m : Nat) : Nat → Nat → Int
  | 0, _ => -1
  | f + 1, w => if tWa b k m w then (w : Int) else tWf b k m f (w + 1)
def tWn (b : tTx) (k m : Nat) : Int := tWf b k m 20 0
theorem tWf_at {b : tTx} {k m : Nat} : ∀ (f w v : Nat), w ≤ v → v < w + f → tWa b k m v → (∀ u, w ≤ u → u < v → ¬ tWa b k m u) → tWf b k m f w = (v : Int)
  | 0, w, v, h1, h2, _, _ => absurd h2 (by omega)
  | f + 1, w, v, h1, h2, h3, h4 => by
    rw [tWf]
    by_cases q : w = v
    · rw [q, if_pos h3]
    · rw [if_neg (h4 w (Nat.le_refl _) (by omega))]
      exact tWf_at f (w + 1) v (by omega) (by omega) h3 (fun u hu => h4 u (by omega))
theorem tWf_no {b : tTx} {k m : Nat} : ∀ (f w : Nat), (∀ u, w ≤ u → u < w + f → ¬ tWa b k m u) → tWf b k m f w = -1
  | 0, _, _ => rfl
  | f + 1, w, h => by
    rw [tWf, if_neg (h w (Nat.le_refl _) (by omega))]
    exact tWf_no f (w + 1) (fun u hu hl => h u (by omega) (by omega))
theorem tWn_at {b : tTx} {k m v : Nat} (hv : v < 20) (h : tWa b k m v) (hn : ∀ u, u < v → ¬ tWa b k m u) : tWn b k m = (v : Int) := tWf_at 20 0 v (Nat.zero_le _) (by omega) h (fun u _ hu => hn u hu)
theorem tWn_no {b : tTx} {k m : Nat} (hn : ∀ u, u < 20 → ¬ tWa b k m u) : tWn b k m = -1 := tWf_no 20 0 (fun u _ hu => hn u (by omega))
/-- kind (0 the end, 1 bad, 2 a column, 3 a word, 4 a number, else the sign), value and name of the token at k -/
def tKr (b : tTx) (k m : Nat) : Int := if tDc b k m = 0 ∧ m ≤ 8 then 3 else if tDc b k m = m ∧ m ≤ 4 then 4 else if m = 2 ∧ b k = 99 ∧ 48 ≤ b (k + 1) ∧ b (k + 1) ≤ 51 then 2 else 1
def tKd (b : tTx) (n k : Nat) : Int := if n ≤ k then 0 else if tRu (b k) then tKr b k (tRn b n k - k) else if tSg (b k) then b k else 1
def tVr (b : tTx) (k m : Nat) : Int := if tKr b k m = 3 then tWn b k m else if tKr b k m = 4 then tNb b k m else if tKr b k m = 2 then b (k + 1) - 48 else 0
def tVl (b : tTx) (n k : Nat) : Int := if n ≤ k then 0 else if tRu (b k) then tVr b k (tRn b n k - k) else 0
def tNa (b : tTx) (n k : Nat) : Int64 := if n ≤ k then 0 else if tRu (b k) then (if tKr b k (tRn b n k - k) = 3 then tNm b k (tRn b n k - k) else 0) else 0
/-- the class's rows of tokens hold the token at place k as the j-th -/
def tAt (gh : gGh) (AI : gI) (AJ : gJ) (j : Nat) (kd pl vl : Int) (nm : Int64) : Prop := (AI (gh 24 0) j).toInt = kd ∧ (AI (gh 25 0) j).toInt = pl ∧ (AI (gh 26 0) j).toInt = vl ∧ AJ (gh 27 0) j = nm
def tOk (gh : gGh) (AI : gI) (AJ : gJ) (b : tTx) (n j : Nat) : Prop := tAt gh AI AJ j (tKd b n (tPs b n j)) (tPs b n j : Int) (tVl b n (tPs b n j)) (tNa b n (tPs b n j))
