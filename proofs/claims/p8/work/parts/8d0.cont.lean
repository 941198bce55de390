/-! what a line holds, by tokens alone: items behind each other (nx: the token behind an item, sp: a separator there) -/
def iCnt (nx : Nat → Nat) (sp : Nat → Bool) : Nat → Nat → Nat
  | 0, _ => 0
  | f + 1, t => if sp (nx t) = true then iCnt nx sp f (nx t + 1) + 1 else 1
def iPos (nx : Nat → Nat) (t : Nat) : Nat → Nat
  | 0 => t
  | k + 1 => nx (iPos nx t k) + 1
/-- i items of F at most are read from h on, the next one is at hc -/
def iL (nx : Nat → Nat) (sp : Nat → Bool) (F h : Nat) (i : Int) (hc : Nat) : Prop :=
  0 ≤ i ∧ ((iCnt nx sp F h : Nat) : Int) = i + ((iCnt nx sp (F - i.toNat) hc : Nat) : Int) ∧ hc = iPos nx h i.toNat
section IL
variable {nx : Nat → Nat} {sp : Nat → Bool} {F h hc t : Nat} {i : Int}
theorem iL_0 : iL nx sp F h 0 h := ⟨Int.le_refl 0, by rw [show ((0 : Int).toNat) = 0 from rfl, Nat.sub_zero]; omega, rfl⟩
theorem iL_p (w : iL nx sp F h i hc) : hc = iPos nx h i.toNat := w.2.2
theorem iL_go (w : iL nx sp F h i hc) (hF : i < (F : Int)) (ht : t = nx hc) (hs : sp t = true) : iL nx sp F h (i + 1) (t + 1) := by
  obtain ⟨w0, w1, w2⟩ := w
  subst ht
  refine ⟨by omega, ?_, ?_⟩
  · rw [show F - i.toNat = (F - (i + 1).toNat) + 1 by omega, iCnt, if_pos hs] at w1
    omega
  · rw [show (i + 1).toNat = i.toNat + 1 by omega, iPos, ← w2]
theorem iL_st (w : iL nx sp F h i hc) (hF : i < (F : Int)) (ht : t = nx hc) (hs : sp t ≠ true) : ((iCnt nx sp F h : Nat) : Int) = i + 1 := by
  obtain ⟨w0, w1, w2⟩ := w
  subst ht
  rw [show F - i.toNat = (F - (i + 1).toNat) + 1 by omega, iCnt, if_neg hs] at w1
  omega
end IL
section Items
variable (b : tTx) (n : Nat)
def nxT (t : Nat) : Nat := t + 3
def spA (t : Nat) : Bool := decide (pK b n t = 3 ∧ pV b n t = 11)
def nxE (t : Nat) : Nat := if pK b n t = 4 then t + 1 else if pK b n (t + 1) = 43 ∨ pK b n (t + 1) = 45 then t + 3 else t + 1
def spC (t : Nat) : Bool := decide (pK b n t = 44)
def nxB (t : Nat) : Nat := t + 1
/-- a term: its column or -1, its number -/
def teC (t : Nat) : Int := if pK b n t = 4 then -1 else pV b n t
def teN (t : Nat) : Int := if pK b n t = 4 then pV b n t else if pK b n (t + 1) = 43 then pV b n (t + 2) else if pK b n (t + 1) = 45 then - pV b n (t + 2) else 0
/-- the class's parts: tests, terms, pairs, columns -/
def qTest (P : Nat → Int32) (j t : Nat) : Prop := (P (4 * j)).toInt = pV b n t ∧ (P (4 * j + 1)).toInt = pK b n (t + 1) ∧ (P (4 * j + 2)).toInt = (if pK b n (t + 2) = 4 then -1 else pV b n (t + 2)) ∧ (P (4 * j + 3)).toInt = pV b n (t + 2)
def qTerm (P : Nat → Int32) (j t : Nat) : Prop := (P (2 * j)).toInt = teC b n t ∧ (P (2 * j + 1)).toInt = teN b n t
def qPair (P : Nat → Int32) (j t : Nat) : Prop := (P (2 * j)).toInt = pV b n t ∧ (P (2 * j + 1)).toInt = pV b n (t + 2)
def qBy (P : Nat → Int32) (j t : Nat) : Prop := (P j).toInt = pV b n t
end Items
/-- the first k items from h on, each as q says; w cells an item -/
def qAll (q : (Nat → Int32) → Nat → Nat → Prop) (nx : Nat → Nat) (P : Nat → Int32) (h : Nat) (k : Int) : Prop := ∀ j : Nat, (j : Int) < k → q P j (iPos nx h j)
def qLoc (q : (Nat → Int32) → Nat → Nat → Prop) (w : Nat) : Prop := ∀ (P P' : Nat → Int32) (j t : Nat), (∀ i, i < w * (j + 1) → P' i = P i) → q P j t → q P' j t
theorem qTest_l {b : tTx} {n : Nat} : qLoc (qTest b n) 4 := fun P P' j t f h => by
  unfold qTest at h ⊢
  rw [f (4 * j) (by omega), f (4 * j + 1) (by omega), f (4 * j + 2) (by omega), f (4 * j + 3) (by omega)]; exact h
theorem qTerm_l {b : tTx} {n : Nat} : qLoc (qTerm b n) 2 := fun P P' j t f h => by
  unfold qTerm at h ⊢
  rw [f (2 * j) (by omega), f (2 * j + 1) (by omega)]; exact h
theorem qPair_l {b : tTx} {n : Nat} : qLoc (qPair b n) 2 := fun P P' j t f h => by
  unfold qPair at h ⊢
  rw [f (2 * j) (by omega), f (2 * j + 1) (by omega)]; exact h
theorem qBy_l {b : tTx} {n : Nat} : qLoc (qBy b n) 1 := fun P P' j t f h => by
  unfold qBy at h ⊢
  rw [f j (by omega)]; exact h
theorem qAll_0 {q : (Nat → Int32) → Nat → Nat → Prop} {nx : Nat → Nat} {P : Nat → Int32} {h : Nat} {k : Int} (e : k ≤ 0) : qAll q nx P h k := fun j hj => absurd hj (by omega)
theorem qAll_s {q : (Nat → Int32) → Nat → Nat → Prop} {nx : Nat → Nat} {sp : Nat → Bool} {P P' : Nat → Int32} {F h hc w : Nat} {k : Int} (hq : qLoc q w) (a : qAll q nx P h k) (hl : iL nx sp F h k hc) (f : ∀ i : Nat, (i : Int) < (w : Int) * k → P' i = P i) (e : q P' k.toNat hc) : qAll q nx P' h (k + 1) := fun j hj => by
  have h0 := hl.1
  by_cases c : (j : Int) < k
  · exact hq P P' j _ (fun i hi => f i (by
      have : (w : Int) * ((j : Int) + 1) ≤ (w : Int) * k := Int.mul_le_mul_of_nonneg_left (by omega) (by omega)
      have h2 : (i : Int) < ((w * (j + 1) : Nat) : Int) := by omega
      rw [Int.natCast_mul, Int.natCast_add] at h2
      exact Int.lt_of_lt_of_le h2 this)) (a j c)
  · have : j = k.toNat := by omega
    subst this
    rw [← iL_p hl]; exact e
/-! where the tokens lie -/
section Where
variable {b : tTx} {n nr h : Nat} {nt : Nat → Nat} {cl : Nat → Int} {c d k lim : Int} {L : List Int} {r : pR}
theorem sTk_h (e : r = sTk b n k h) (h0 : r.1 = 0) : r.2.1 = h + 1 := by
  subst e; unfold sTk at h0 ⊢
  by_cases q : pK b n h = k
  · rw [if_pos q]
  · rw [if_neg q] at h0; exact (pr_no h0 (by decide)).elim
theorem sTw_h (e : r = sTw b n k h) (h0 : r.1 = 0) : r.2.1 = h + 1 := by
  subst e; unfold sTw at h0 ⊢
  by_cases q : pK b n h = 3 ∧ pV b n h = k
  · rw [if_pos q]
  · rw [if_neg q] at h0; exact (pr_no h0 (by decide)).elim
theorem sRl_h (e : r = sRl b n nr nt cl h) (h0 : r.1 = 0) : r.2.1 = h + 1 ∧ r.2.2 = cF b n nr nt cl h ∧ 0 ≤ pFd b n nt nr h := by
  subst e; unfold sRl at h0 ⊢
  by_cases q : pRf b n nt nr h = 0
  · rw [if_pos q]; exact ⟨rfl, rfl, (pRf_i q).2⟩
  · rw [if_neg q] at h0; exact absurd h0 q
theorem sTest_h (e : r = sTest b n c k h) (h0 : r.1 = 0) : r.2.1 = nxT h := by
  subst e; unfold sTest at h0 ⊢
  by_cases q : pCf b n c h = 0
  · rw [if_pos q] at h0 ⊢
    by_cases q1 : 8 ≤ k
    · rw [if_pos q1] at h0; exact (pr_no h0 (by decide)).elim
    · rw [if_neg q1] at h0 ⊢
      by_cases q2 : pK b n (h + 1) = 61 ∨ pK b n (h + 1) = 60 ∨ pK b n (h + 1) = 62
      · rw [if_pos q2] at h0 ⊢
        by_cases q3 : pK b n (h + 2) = 4
        · rw [if_pos q3]; rfl
        · rw [if_neg q3] at h0 ⊢
          by_cases q4 : pCf b n c (h + 2) = 0
          · rw [if_pos q4]; rfl
          · rw [if_neg q4] at h0; exact absurd h0 q4
      · rw [if_neg q2] at h0; exact (pr_no h0 (by decide)).elim
  · rw [if_neg q] at h0; exact absurd h0 q
theorem sTerm_h (e : r = sTerm b n c k h) (h0 : r.1 = 0) : r.2.1 = nxE b n h := by
  subst e; unfold sTerm at h0 ⊢; unfold nxE
  by_cases q : pK b n h = 4
  · rw [if_pos q] at h0 ⊢
    rw [if_pos q]
    by_cases q1 : 4 ≤ k
    · rw [if_pos q1] at h0; exact (pr_no h0 (by decide)).elim
    · rw [if_neg q1]
  · rw [if_neg q] at h0 ⊢
    rw [if_neg q]
    by_cases q1 : pCf b n c h = 0
    · rw [if_pos q1] at h0 ⊢
      by_cases q2 : 4 ≤ k
      · rw [if_pos q2] at h0; exact (pr_no h0 (by decide)).elim
      · rw [if_neg q2] at h0 ⊢
        by_cases q3 : pK b n (h + 1) = 43 ∨ pK b n (h + 1) = 45
        · rw [if_pos q3] at h0 ⊢
          rw [if_pos q3]
          by_cases q4 : pK b n (h + 2) = 4
          · rw [if_pos q4]
          · rw [if_neg q4] at h0; exact (pr_no h0 (by decide)).elim
        · rw [if_neg q3]; rw [if_neg q3]
    · rw [if_neg q1] at h0; exact absurd h0 q1
theorem sPair_h (e : r = sPair b n c d k lim h) (h0 : r.1 = 0) : r.2.1 = nxT h ∧ r.2.2 = pV b n (h + 2) := by
  subst e; unfold sPair at h0 ⊢
  by_cases q : pCf b n c h = 0
  · rw [if_pos q] at h0 ⊢
    by_cases q1 : lim ≤ k
    · rw [if_pos q1] at h0; exact (pr_no h0 (by decide)).elim
    · rw [if_neg q1] at h0 ⊢
      by_cases q2 : (sTk b n 61 (h + 1)).1 = 0
      · have e2 := sTk_h rfl q2
        rw [thn_y (f := fun t _ => if pCf b n d t = 0 then (0, t + 1, pV b n t) else (pCf b n d t, t, 0)) rfl q2 rfl, e2] at h0 ⊢
        by_cases q3 : pCf b n d (h + 1 + 1) = 0
        · rw [if_pos q3]; exact ⟨rfl, rfl⟩
        · rw [if_neg q3] at h0; exact absurd h0 q3
      · rw [thn_x rfl q2] at h0; exact absurd h0 q2
  · rw [if_neg q] at h0; exact absurd h0 q
theorem sBy_h (e : r = sBy b n c k L h) (h0 : r.1 = 0) : r.2.1 = nxB h ∧ r.2.2 = pV b n h := by
  subst e; unfold sBy at h0 ⊢
  by_cases q : pCf b n c h = 0
  · rw [if_pos q] at h0 ⊢
    by_cases q1 : pV b n h ∈ L
    · rw [if_pos q1] at h0; exact (pr_no h0 (by decide)).elim
    · rw [if_neg q1] at h0 ⊢
      by_cases q2 : 3 ≤ k
      · rw [if_pos q2] at h0; exact (pr_no h0 (by decide)).elim
      · rw [if_neg q2]; exact ⟨rfl, rfl⟩
  · rw [if_neg q] at h0; exact absurd h0 q
theorem pFd_c {nt' : Nat → Nat} : ∀ (f w : Nat), (∀ u, w ≤ u → u < w + f → nt' u = nt u) → pFdF b n nt' h f w = pFdF b n nt h f w
  | 0, _, _ => rfl
  | f + 1, w, e => by rw [pFdF, pFdF, e w (Nat.le_refl _) (by omega), pFd_c f (w + 1) (fun u h1 h2 => e u (by omega) (by omega))]
theorem pFd_lt : ∀ (f w : Nat), pFdF b n nt h f w < (w : Int) + f
  | 0, w => by rw [pFdF]; omega
  | f + 1, w => by
    rw [pFdF]
    by_cases q : pN b n (nt w) = pN b n h
    · rw [if_pos q]; omega
    · rw [if_neg q]; have := pFd_lt f (w + 1); omega
end Where
/-! what a line of the class holds; h: where its body begins -/
section Line
variable (b : tTx) (n nr : Nat) (nt : Nat → Nat) (cl : Nat → Int) (h : Nat) (f P : Nat → Int32)
def lA : Int := pFd b n nt nr h
def kSel : Prop := (f 3).toInt = pFd b n nt nr h ∧ (f 4).toInt = -1 ∧ (f 8).toInt = ((iCnt nxT (spA b n) 9 (h + 2) : Nat) : Int) ∧ qAll (qTest b n) nxT P (h + 2) (f 8).toInt
def kPrj : Prop := (f 3).toInt = pFd b n nt nr h ∧ (f 4).toInt = -1 ∧ (f 8).toInt = ((iCnt (nxE b n) (spC b n) 5 (h + 1) : Nat) : Int) ∧ qAll (qTerm b n) (nxE b n) P (h + 1) (f 8).toInt
def kJoi : Prop := (f 3).toInt = pFd b n nt nr h ∧ (f 4).toInt = pFd b n nt nr (h + 1) ∧ (f 5).toInt = cF b n nr nt cl h ∧ (f 6).toInt = cF b n nr nt cl (h + 1) ∧ (f 8).toInt = ((iCnt nxT (spC b n) 5 (h + 3) : Nat) : Int) ∧ qAll (qPair b n) nxT P (h + 3) (f 8).toInt
def kTwo : Prop := (f 3).toInt = pFd b n nt nr h ∧ (f 4).toInt = pFd b n nt nr (h + 1)
def kOne : Prop := (f 3).toInt = pFd b n nt nr h ∧ (f 4).toInt = -1
def kFo (t : Nat) : Prop := (f 11).toInt = pV b n t ∧ (f 12).toInt = (if pV b n t = 16 then 0 else pV b n (t + 1))
def kGrp : Prop := (f 3).toInt = pFd b n nt nr h ∧ (f 4).toInt = -1 ∧ (f 8).toInt = ((iCnt nxB (spC b n) 4 (h + 2) : Nat) : Int) ∧ qAll (qBy b n) nxB P (h + 2) (f 8).toInt ∧ kFo b n f (nxB (iPos nxB (h + 2) ((f 8).toInt.toNat - 1)))
def kRng : Prop := (f 3).toInt = pFd b n nt nr h ∧ (f 4).toInt = pFd b n nt nr (h + 2) ∧ (f 5).toInt = cF b n nr nt cl h ∧ (f 6).toInt = cF b n nr nt cl (h + 2) ∧ (f 9).toInt = pV b n (h + 4) ∧ (f 10).toInt = pV b n (h + 6) ∧ (f 8).toInt = ((iCnt (nxE b n) (spC b n) 5 (h + 8) : Nat) : Int) ∧ qAll (qTerm b n) (nxE b n) P (h + 8) (f 8).toInt
def kLn (kd : Int) : Prop :=
  if kd = 1 then kSel b n nr nt h f P else if kd = 2 then kPrj b n nr nt h f P else if kd = 3 then kJoi b n nr nt cl h f P else if kd = 4 ∨ kd = 5 then kTwo b n nr nt h f
  else if kd = 6 then kOne b n nr nt h f else if kd = 7 then kGrp b n nr nt h f P else if kd = 8 then kRng b n nr nt cl h f P else (f 3).toInt = -1 ∧ (f 4).toInt = -1
end Line
/-- hidden from the arithmetic: where all went well -/
def zIf (z : Int) (p : Prop) : Prop := z = 0 → p
theorem zIf_n {z : Int} {p : Prop} (h : z ≠ 0) : zIf z p := fun e => absurd e h
theorem zIf_y {z : Int} {p : Prop} (h : p) : zIf z p := fun _ => h
theorem pV_n {b : tTx} {n h : Nat} (e : pK b n h = 4) : 0 ≤ pV b n h ∧ pV b n h ≤ 9999 := by
  unfold pK at e
  unfold pV
  generalize tPs b n h = k at e
  unfold tKd at e
  unfold tVl
  by_cases a : n ≤ k
  · rw [if_pos a] at e; exact absurd e (by decide)
  · rw [if_neg a] at e ⊢
    by_cases r : tRu (b k)
    · rw [if_pos r] at e ⊢
      unfold tVr
      rw [e, if_neg (by decide), if_pos rfl]
      unfold tKr at e
      by_cases c : tDc b k (tRn b n k - k) = 0 ∧ tRn b n k - k ≤ 8
      · rw [if_pos c] at e; exact absurd e (by decide)
      · rw [if_neg c] at e
        by_cases d : tDc b k (tRn b n k - k) = tRn b n k - k ∧ tRn b n k - k ≤ 4
        · exact tNb_4 (tDc_all d.1) d.2
        · rw [if_neg d] at e
          by_cases f : tRn b n k - k = 2 ∧ b k = 99 ∧ 48 ≤ b (k + 1) ∧ b (k + 1) ≤ 51
          · rw [if_pos f] at e; exact absurd e (by decide)
          · rw [if_neg f] at e; exact absurd e (by decide)
    · rw [if_neg r] at e
      by_cases s : tSg (b k)
      · rw [if_pos s] at e; have s9 := s; unfold tSg at s9; omega
      · rw [if_neg s] at e; exact absurd e (by decide)
