/-! reading a plan, as both sides answer: kind, value and name of the h-th token -/
def pK (b : tTx) (n h : Nat) : Int := tKd b n (tPs b n h)
def pV (b : tTx) (n h : Nat) : Int := tVl b n (tPs b n h)
def pN (b : tTx) (n h : Nat) : Int64 := tNa b n (tPs b n h)
/-- a word of the language (w its number), or another one (-1) -/
def pW (b : tTx) (n h : Nat) (w : Int) : Prop := pK b n h = 3 ∧ pV b n h = w
/-- a column below c: the fault's kind, or 0 -/
def pCf (b : tTx) (n : Nat) (c : Int) (h : Nat) : Int := if pK b n h = 2 then (if c ≤ pV b n h then 2 else 0) else 1
theorem pCf_r {b : tTx} {n h : Nat} {c : Int} : 0 ≤ pCf b n c h ∧ pCf b n c h ≤ 2 := by
  unfold pCf
  by_cases q : pK b n h = 2
  · rw [if_pos q]
    by_cases r : c ≤ pV b n h
    · rw [if_pos r]; decide
    · rw [if_neg r]; decide
  · rw [if_neg q]; decide
theorem pCf_0 {b : tTx} {n h : Nat} {c : Int} (e : pCf b n c h = 0) : pK b n h = 2 ∧ pV b n h < c := by
  unfold pCf at e
  by_cases q : pK b n h = 2
  · rw [if_pos q] at e
    by_cases r : c ≤ pV b n h
    · rw [if_pos r] at e; exact absurd e (by decide)
    · exact ⟨q, by omega⟩
  · rw [if_neg q] at e; exact absurd e (by decide)
theorem pCf_no {b : tTx} {n h : Nat} {c : Int} (q : pK b n h ≠ 2) : pCf b n c h = 1 := by unfold pCf; rw [if_neg q]
theorem pCf_big {b : tTx} {n h : Nat} {c : Int} (q : pK b n h = 2) (r : c ≤ pV b n h) : pCf b n c h = 2 := by unfold pCf; rw [if_pos q, if_pos r]
theorem pCf_ok {b : tTx} {n h : Nat} {c : Int} (q : pK b n h = 2) (r : ¬ c ≤ pV b n h) : pCf b n c h = 0 := by unfold pCf; rw [if_pos q, if_neg r]
/-- the relation that the name at h tells: nt r the token of the r-th name, nr their number -/
def pFdF (b : tTx) (n : Nat) (nt : Nat → Nat) (h : Nat) : Nat → Nat → Int
  | 0, _ => -1
  | f + 1, r => if pN b n (nt r) = pN b n h then (r : Int) else pFdF b n nt h f (r + 1)
def pFd (b : tTx) (n : Nat) (nt : Nat → Nat) (nr h : Nat) : Int := pFdF b n nt h nr 0
/-- names are apart -/
def pUn (b : tTx) (n : Nat) (nt : Nat → Nat) (nr : Nat) : Prop := ∀ r s, r < nr → s < nr → pN b n (nt r) = pN b n (nt s) → r = s
theorem pFdF_at {b : tTx} {n : Nat} {nt : Nat → Nat} {h : Nat} : ∀ (f w v : Nat), w ≤ v → v < w + f → pN b n (nt v) = pN b n h → (∀ u, w ≤ u → u < v → pN b n (nt u) ≠ pN b n h) → pFdF b n nt h f w = (v : Int)
  | 0, w, v, h1, h2, _, _ => absurd h2 (by omega)
  | f + 1, w, v, h1, h2, h3, h4 => by
    rw [pFdF]
    by_cases q : w = v
    · rw [q, if_pos h3]
    · rw [if_neg (h4 w (Nat.le_refl _) (by omega))]
      exact pFdF_at f (w + 1) v (by omega) (by omega) h3 (fun u hu => h4 u (by omega))
theorem pFdF_no {b : tTx} {n : Nat} {nt : Nat → Nat} {h : Nat} : ∀ (f w : Nat), (∀ u, w ≤ u → u < w + f → pN b n (nt u) ≠ pN b n h) → pFdF b n nt h f w = -1
  | 0, _, _ => rfl
  | f + 1, w, hn => by
    rw [pFdF, if_neg (hn w (Nat.le_refl _) (by omega))]
    exact pFdF_no f (w + 1) (fun u hu hl => hn u (by omega) (by omega))
theorem pFd_at {b : tTx} {n : Nat} {nt : Nat → Nat} {nr h v : Nat} (hu : pUn b n nt nr) (hv : v < nr) (e : pN b n (nt v) = pN b n h) : pFd b n nt nr h = (v : Int) :=
  pFdF_at nr 0 v (Nat.zero_le _) (by omega) e (fun u _ hl q => by have := hu u v (by omega) hv (q.trans e.symm); omega)
theorem pFd_no {b : tTx} {n : Nat} {nt : Nat → Nat} {nr h : Nat} (hn : ∀ u, u < nr → pN b n (nt u) ≠ pN b n h) : pFd b n nt nr h = -1 := pFdF_no nr 0 (fun u _ hl => hn u (by omega))
/-- a relation: the fault's kind, or 0 -/
def pRf (b : tTx) (n : Nat) (nt : Nat → Nat) (nr h : Nat) : Int := if pK b n h = 3 ∧ pV b n h = -1 then (if pFd b n nt nr h < 0 then 3 else 0) else 1
/-- the class's tokens are those of the text; tl their number -/
def pTk (gh : gGh) (AI : gI) (AJ : gJ) (b : tTx) (n : Nat) (tl : Int) : Prop := (∀ j : Nat, (j : Int) < tl → tOk gh AI AJ b n j) ∧ tPs b n (tl - 1).toNat = n ∧ ∀ j : Nat, (j : Int) < tl - 1 → tPs b n j < n
theorem tKd_end {b : tTx} {n k : Nat} (h : n ≤ k) : tKd b n k = 0 := by unfold tKd; rw [if_pos h]
theorem tKd_in {b : tTx} {n k : Nat} (h : k < n) : tKd b n k ≠ 0 := by
  unfold tKd
  rw [if_neg (by omega)]
  by_cases q : tRu (b k)
  · rw [if_pos q]
    unfold tKr
    by_cases a : tDc b k (tRn b n k - k) = 0 ∧ tRn b n k - k ≤ 8
    · rw [if_pos a]; decide
    · rw [if_neg a]
      by_cases c : tDc b k (tRn b n k - k) = tRn b n k - k ∧ tRn b n k - k ≤ 4
      · rw [if_pos c]; decide
      · rw [if_neg c]
        by_cases d : tRn b n k - k = 2 ∧ b k = 99 ∧ 48 ≤ b (k + 1) ∧ b (k + 1) ≤ 51
        · rw [if_pos d]; decide
        · rw [if_neg d]; decide
  · rw [if_neg q]
    by_cases r : tSg (b k)
    · rw [if_pos r]; omega
    · rw [if_neg r]; decide
section PTK
variable {gh : gGh} {AI AI' : gI} {AJ : gJ} {b : tTx} {n : Nat} {tl : Int} {h : Nat}
theorem pTk_K (q : pTk gh AI AJ b n tl) (hh : (h : Int) < tl) : (AI (gh 24 0) h).toInt = pK b n h := (q.1 h hh).1
theorem pTk_P (q : pTk gh AI AJ b n tl) (hh : (h : Int) < tl) : (AI (gh 25 0) h).toInt = (tPs b n h : Int) := (q.1 h hh).2.1
theorem pTk_V (q : pTk gh AI AJ b n tl) (hh : (h : Int) < tl) : (AI (gh 26 0) h).toInt = pV b n h := (q.1 h hh).2.2.1
theorem pTk_N (q : pTk gh AI AJ b n tl) (hh : (h : Int) < tl) : AJ (gh 27 0) h = pN b n h := (q.1 h hh).2.2.2
/-- no end: there is one more -/
theorem pTk_s (q : pTk gh AI AJ b n tl) (hh : (h : Int) < tl) (hk : pK b n h ≠ 0) : (h : Int) < tl - 1 := by
  by_cases r : (h : Int) < tl - 1
  · exact r
  · exfalso
    apply hk
    unfold pK
    have e : h = (tl - 1).toNat := by omega
    rw [e, q.2.1]
    exact tKd_end (Nat.le_refl _)
theorem pTk_c (q : pTk gh AI AJ b n tl) (e4 : AI' (gh 24 0) = AI (gh 24 0)) (e5 : AI' (gh 25 0) = AI (gh 25 0)) (e6 : AI' (gh 26 0) = AI (gh 26 0)) : pTk gh AI' AJ b n tl := by
  refine ⟨fun j hj => ?_, q.2⟩
  have w := q.1 j hj
  unfold tOk tAt at w ⊢
  rw [e4, e5, e6]; exact w
end PTK
/-- the class's plan so far: nr lines, their names and columns -/
def pLn (gh : gGh) (AR : gR) (I : gI) (J : gJ) (q : Nat) (b : tTx) (n nr : Nat) (nt : Nat → Nat) (cl : Nat → Int) : Prop :=
  (I q 1).toInt = (nr : Int) ∧ nr ≤ 16 ∧ (∀ r : Nat, r < nr → ∀ y, AR (gh 6 q) r = some y → J y 1 = pN b n (nt r) ∧ (I y 2).toInt = cl r) ∧ pUn b n nt nr
theorem pLn_c {g : gG} {gh : gGh} {R AR : gR} {I I' AI : gI} {J : gJ} {q ln a : Nat} {b : tTx} {n nr : Nat} {nt : Nat → Nat} {cl : Nat → Int} (hv : gInv g gh R AR I AI) (h : pLn gh AR I J q b n nr nt cl) (hq : gO g q 2) (h1 : gO g a 1) (hl : gh 4 ln = q) (h5 : (gh 5 ln : Int) = (I q 1).toInt) (hO : gO g ln 0) (f : ∀ b, b ≠ a → b ≠ ln → I' b = I b) : pLn gh AR I' J q b n nr nt cl := by
  obtain ⟨e1, e2, e3, e4⟩ := h
  have fq : I' q = I q := f q (gO_ne hq h1 (by decide)) (gO_ne hq hO (by decide))
  refine ⟨by rw [fq]; exact e1, e2, fun r hr y hy => ?_, e4⟩
  obtain ⟨y', hy', hyO, hy4, hy5⟩ := (hv.2.2.2.1 q hq).1.2.2.1 r (by omega)
  have ey : y = y' := Option.some.inj (hy.symm.trans hy')
  subst ey
  have ne : y ≠ ln := fun e => by rw [e] at hy5; omega
  rw [f y (gO_ne hyO h1 (by decide)) ne]
  exact e3 r hr y hy
/-- what the class's search says, as the spec's -/
theorem pLn_fd {gh : gGh} {AR : gR} {I : gI} {J : gJ} {q : Nat} {b : tTx} {n nr h : Nat} {nt : Nat → Nat} {cl : Nat → Int} {z : Int} {nm : Int64} (hl : pLn gh AR I J q b n nr nt cl) (hall : ∀ r : Nat, r < nr → ∃ y, AR (gh 6 q) r = some y) (en : nm = pN b n h)
    (hz : (z = -1 ∧ ∀ j : Nat, (j : Int) < (I q 1).toInt → ∀ y, AR (gh 6 q) j = some y → J y 1 ≠ nm) ∨ (0 ≤ z ∧ z < (I q 1).toInt ∧ ∃ y, AR (gh 6 q) z.toNat = some y ∧ J y 1 = nm)) : z = pFd b n nt nr h := by
  obtain ⟨e1, e2, e3, e4⟩ := hl
  rcases hz with ⟨a, c⟩ | ⟨a, c, y, d, f⟩
  · rw [a, pFd_no]
    intro u hu e
    obtain ⟨y, hy⟩ := hall u hu
    exact c u (by omega) y hy (by rw [(e3 u hu y hy).1, e, en])
  · have r := (e3 z.toNat (by omega) y d).1
    rw [pFd_at (v := z.toNat) e4 (by omega) (by rw [← r, f, en])]
    omega
