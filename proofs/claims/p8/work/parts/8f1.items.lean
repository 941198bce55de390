/-! items of a list that was read: how many, what holds of each -/
section Items2
variable {nx : Nat → Nat} {sp : Nat → Bool} {F h : Nat} {ok : Nat → Prop}
theorem iPos_s : ∀ (k t : Nat), iPos nx t (k + 1) = iPos nx (nx t + 1) k
  | 0, _ => rfl
  | k + 1, t => by rw [iPos, iPos_s k t, iPos]
theorem iAll_s (h0 : ok h) (hs : sp (nx h) = true) (hr : ∀ j, j < iCnt nx sp F (nx h + 1) → ok (iPos nx (nx h + 1) j)) : ∀ j, j < iCnt nx sp (F + 1) h → ok (iPos nx h j) := fun j hj => by
  rw [iCnt, if_pos hs] at hj
  rcases j with _ | j
  · exact h0
  · rw [iPos_s]; exact hr j (by omega)
theorem iAll_e (h0 : ok h) (hs : sp (nx h) ≠ true) : ∀ j, j < iCnt nx sp (F + 1) h → ok (iPos nx h j) := fun j hj => by
  rw [iCnt, if_neg hs] at hj
  have : j = 0 := by omega
  subst this; exact h0
theorem iEx_s {P : Nat → Prop} (hs : sp (nx h) = true) : (∃ j, j < iCnt nx sp (F + 1) h ∧ P (iPos nx h j)) ↔ P h ∨ ∃ j, j < iCnt nx sp F (nx h + 1) ∧ P (iPos nx (nx h + 1) j) := by
  rw [iCnt, if_pos hs]
  constructor
  · rintro ⟨j, hj, e⟩
    rcases j with _ | j
    · exact Or.inl e
    · rw [iPos_s] at e; exact Or.inr ⟨j, by omega, e⟩
  · rintro (e | ⟨j, hj, e⟩)
    · exact ⟨0, by omega, e⟩
    · exact ⟨j + 1, by omega, by rw [iPos_s]; exact e⟩
theorem iEx_e {P : Nat → Prop} (hs : sp (nx h) ≠ true) : (∃ j, j < iCnt nx sp (F + 1) h ∧ P (iPos nx h j)) ↔ P h := by
  rw [iCnt, if_neg hs]
  constructor
  · rintro ⟨j, hj, e⟩
    have : j = 0 := by omega
    subst this; exact e
  · intro e; exact ⟨0, by omega, e⟩
end Items2
section Lists
variable {b : tTx} {n : Nat} {c d : Int}
theorem spC_y {t : Nat} (h : pK b n t = 44) : spC b n t = true := by unfold spC; exact decide_eq_true h
theorem spC_n {t : Nat} (h : ¬ pK b n t = 44) : spC b n t ≠ true := by unfold spC; exact fun e => h (of_decide_eq_true e)
/-- a term: none or a column below c -/
def okE (b : tTx) (n : Nat) (c : Int) (t : Nat) : Prop := (teC b n t = -1 ∨ 0 ≤ teC b n t) ∧ teC b n t < c ∧ teC b n t ≤ 3
theorem sTerm_okE {k : Int} {h : Nat} (hc : 0 ≤ c) (h0 : (sTerm b n c k h).1 = 0) : okE b n c h ∧ k < 4 := by
  refine ⟨?_, sTerm_k h0⟩
  unfold sTerm at h0; unfold okE teC
  by_cases q : pK b n h = 4
  · rw [if_pos q]; omega
  · rw [if_neg q] at h0 ⊢
    by_cases q1 : pCf b n c h = 0
    · have a := pCf_0 q1
      have a2 := pV_c a.1
      omega
    · rw [if_neg q1] at h0; exact absurd h0 q1
theorem sTerms_all (hc : 0 ≤ c) : ∀ (F : Nat) (k : Int) (h : Nat), 0 ≤ k → (sTerms b n c F k h).1 = 0 → (sTerms b n c F k h).2.2 = k + ((iCnt (nxE b n) (spC b n) F h : Nat) : Int) ∧ (k + ((iCnt (nxE b n) (spC b n) F h : Nat) : Int) ≤ 4 ∧ 1 ≤ iCnt (nxE b n) (spC b n) F h) ∧ ∀ j, j < iCnt (nxE b n) (spC b n) F h → okE b n c (iPos (nxE b n) h j)
  | 0, _, _, _, e => (pr_no e (by decide)).elim
  | F + 1, k, h, hk, e => by
    rw [sTerms] at e ⊢
    by_cases q : (sTerm b n c k h).1 = 0
    · have h4 := sTerm_okE hc q
      have en := sTerm_h rfl q
      rw [thn_y (f := _) rfl q rfl] at e ⊢
      rw [en] at e ⊢
      by_cases w : pK b n (nxE b n h) = 44
      · rw [if_pos w] at e ⊢
        have r := sTerms_all hc F (k + 1) (nxE b n h + 1) (by omega) e
        have ec : iCnt (nxE b n) (spC b n) (F + 1) h = iCnt (nxE b n) (spC b n) F (nxE b n h + 1) + 1 := by rw [iCnt, if_pos (spC_y w)]
        refine ⟨by rw [r.1, ec]; omega, by rw [ec]; omega, iAll_s h4.1 (spC_y w) r.2.2⟩
      · rw [if_neg w] at e ⊢
        have ec : iCnt (nxE b n) (spC b n) (F + 1) h = 1 := by rw [iCnt, if_neg (spC_n w)]
        refine ⟨by rw [ec]; show k + 1 = _; omega, by rw [ec]; omega, iAll_e h4.1 (spC_n w)⟩
    · rw [thn_x rfl q] at e; exact absurd e q
theorem sTests_x : ∀ (F : Nat) (k : Int) (h : Nat), (sTests b n c F k h).1 = 0 → (sTests b n c F k h).2.2 = c
  | 0, _, _, e => (pr_no e (by decide)).elim
  | F + 1, k, h, e => by
    rw [sTests] at e ⊢
    by_cases q : (sTest b n c k h).1 = 0
    · rw [thn_y (f := _) rfl q rfl] at e ⊢
      by_cases w : pK b n (sTest b n c k h).2.1 = 3 ∧ pV b n (sTest b n c k h).2.1 = 11
      · rw [if_pos w] at e ⊢; exact sTests_x F _ _ e
      · rw [if_neg w]
    · rw [thn_x rfl q] at e; exact absurd e q
/-- a test: its sign -/
def okT (b : tTx) (n : Nat) (t : Nat) : Prop := (pK b n (t + 1) = 61 ∨ pK b n (t + 1) = 60 ∨ pK b n (t + 1) = 62) ∧ (pK b n (t + 2) = 4 ∨ (pK b n (t + 2) = 2 ∧ 0 ≤ pV b n (t + 2)))
theorem sTest_okT {k : Int} {h : Nat} (h0 : (sTest b n c k h).1 = 0) : okT b n h := by
  unfold sTest at h0; unfold okT
  by_cases q : pCf b n c h = 0
  · rw [if_pos q] at h0
    by_cases q1 : 8 ≤ k
    · rw [if_pos q1] at h0; exact (pr_no h0 (by decide)).elim
    · rw [if_neg q1] at h0
      by_cases q2 : pK b n (h + 1) = 61 ∨ pK b n (h + 1) = 60 ∨ pK b n (h + 1) = 62
      · rw [if_pos q2] at h0
        refine ⟨q2, ?_⟩
        by_cases q3 : pK b n (h + 2) = 4
        · exact Or.inl q3
        · rw [if_neg q3] at h0
          by_cases q4 : pCf b n c (h + 2) = 0
          · have a := pCf_0 q4; exact Or.inr ⟨a.1, (pV_c a.1).1⟩
          · rw [if_neg q4] at h0; exact absurd h0 q4
      · rw [if_neg q2] at h0; exact (pr_no h0 (by decide)).elim
  · rw [if_neg q] at h0; exact absurd h0 q
theorem spA_y {t : Nat} (h : pK b n t = 3 ∧ pV b n t = 11) : spA b n t = true := by unfold spA; exact decide_eq_true h
theorem spA_n {t : Nat} (h : ¬ (pK b n t = 3 ∧ pV b n t = 11)) : spA b n t ≠ true := by unfold spA; exact fun e => h (of_decide_eq_true e)
theorem sTests_all : ∀ (F : Nat) (k : Int) (h : Nat), (sTests b n c F k h).1 = 0 → ∀ j, j < iCnt nxT (spA b n) F h → okT b n (iPos nxT h j)
  | 0, _, _, e => (pr_no e (by decide)).elim
  | F + 1, k, h, e => by
    rw [sTests] at e
    by_cases q : (sTest b n c k h).1 = 0
    · have h4 := sTest_okT q
      have en := sTest_h rfl q
      rw [thn_y (f := _) rfl q rfl, en] at e
      by_cases w : pK b n (nxT h) = 3 ∧ pV b n (nxT h) = 11
      · rw [if_pos w] at e
        exact iAll_s h4 (spA_y w) (sTests_all F (k + 1) (nxT h + 1) e)
      · exact iAll_e h4 (spA_n w)
    · rw [thn_x rfl q] at e; exact absurd e q
/-- a pair -/
def okP (b : tTx) (n : Nat) (c d : Int) (t : Nat) : Prop := 0 ≤ pV b n t ∧ pV b n t < c ∧ 0 ≤ pV b n (t + 2) ∧ pV b n (t + 2) < d ∧ pV b n t ≤ 3 ∧ pV b n (t + 2) ≤ 3
theorem sPair_okP {k lim : Int} {h : Nat} (h0 : (sPair b n c d k lim h).1 = 0) : okP b n c d h := by
  unfold sPair at h0; unfold okP
  by_cases q : pCf b n c h = 0
  · have a := pCf_0 q
    have a2 := pV_c a.1
    rw [if_pos q] at h0
    by_cases q1 : lim ≤ k
    · rw [if_pos q1] at h0; exact (pr_no h0 (by decide)).elim
    · rw [if_neg q1] at h0
      by_cases q2 : (sTk b n 61 (h + 1)).1 = 0
      · have e2 := sTk_h rfl q2
        rw [thn_y (f := fun t _ => if pCf b n d t = 0 then (0, t + 1, pV b n t) else (pCf b n d t, t, 0)) rfl q2 rfl, e2] at h0
        by_cases q3 : pCf b n d (h + 1 + 1) = 0
        · have g := pCf_0 q3
          have g2 := pV_c g.1
          exact ⟨a2.1, a.2, g2.1, g.2, a2.2, g2.2⟩
        · rw [if_neg q3] at h0; exact absurd h0 q3
      · rw [thn_x rfl q2] at h0; exact absurd h0 q2
  · rw [if_neg q] at h0; exact absurd h0 q
theorem sPairs_all : ∀ (F : Nat) (k : Int) (L : List Int) (h : Nat), (sPairs b n c d F k L h).1 = 0 → (∃ L' : List Int, (sPairs b n c d F k L h).2.2 = c + jC L' d.toNat ∧ ∀ x, x ∈ L' ↔ x ∈ L ∨ ∃ j, j < iCnt nxT (spC b n) F h ∧ pV b n (iPos nxT h j + 2) = x) ∧ ∀ j, j < iCnt nxT (spC b n) F h → okP b n c d (iPos nxT h j)
  | 0, _, _, _, e => (pr_no e (by decide)).elim
  | F + 1, k, L, h, e => by
    rw [sPairs] at e ⊢
    by_cases q : (sPair b n c d k 4 h).1 = 0
    · have h4 := sPair_okP q
      have en := sPair_h rfl q
      rw [thn_y (f := _) rfl q rfl] at e ⊢
      rw [en.1, en.2] at e ⊢
      by_cases w : pK b n (nxT h) = 44
      · rw [if_pos w] at e ⊢
        obtain ⟨⟨L', r1, r2⟩, r3⟩ := sPairs_all F (k + 1) (pV b n (h + 2) :: L) (nxT h + 1) e
        refine ⟨⟨L', r1, fun x => ?_⟩, iAll_s h4 (spC_y w) r3⟩
        rw [r2 x, iEx_s (P := fun t => pV b n (t + 2) = x) (spC_y w), List.mem_cons]
        constructor
        · rintro ((u | u) | u)
          · exact Or.inr (Or.inl u.symm)
          · exact Or.inl u
          · exact Or.inr (Or.inr u)
        · rintro (u | u | u)
          · exact Or.inl (Or.inr u)
          · exact Or.inl (Or.inl u.symm)
          · exact Or.inr u
      · rw [if_neg w] at e ⊢
        refine ⟨⟨pV b n (h + 2) :: L, rfl, fun x => ?_⟩, iAll_e h4 (spC_n w)⟩
        rw [iEx_e (P := fun t => pV b n (t + 2) = x) (spC_n w), List.mem_cons]
        constructor
        · rintro (u | u)
          · exact Or.inr u.symm
          · exact Or.inl u
        · rintro (u | u)
          · exact Or.inr u
          · exact Or.inl u.symm
    · rw [thn_x rfl q] at e; exact absurd e q
theorem sBys_all : ∀ (F : Nat) (k : Int) (L : List Int) (h : Nat), 0 ≤ k → (sBys b n c F k L h).1 = 0 → (sBys b n c F k L h).2.2 = k + ((iCnt nxB (spC b n) F h : Nat) : Int) ∧ (k + ((iCnt nxB (spC b n) F h : Nat) : Int) ≤ 3 ∧ 1 ≤ iCnt nxB (spC b n) F h) ∧ (sBys b n c F k L h).2.1 = nxB (iPos nxB h (iCnt nxB (spC b n) F h - 1))
  | 0, _, _, _, _, e => (pr_no e (by decide)).elim
  | F + 1, k, L, h, hk, e => by
    rw [sBys] at e ⊢
    by_cases q : (sBy b n c k L h).1 = 0
    · have h4 := sBy_k q
      have en := sBy_h rfl q
      rw [thn_y (f := _) rfl q rfl] at e ⊢
      rw [en.1, en.2] at e ⊢
      by_cases w : pK b n (nxB h) = 44
      · rw [if_pos w] at e ⊢
        obtain ⟨r1, r2, r3⟩ := sBys_all F (k + 1) (pV b n h :: L) (nxB h + 1) (by omega) e
        have ec : iCnt nxB (spC b n) (F + 1) h = iCnt nxB (spC b n) F (nxB h + 1) + 1 := by rw [iCnt, if_pos (spC_y w)]
        refine ⟨by rw [r1, ec]; omega, by rw [ec]; omega, ?_⟩
        rw [r3, ec, show iCnt nxB (spC b n) F (nxB h + 1) + 1 - 1 = (iCnt nxB (spC b n) F (nxB h + 1) - 1) + 1 by omega, iPos_s]
      · rw [if_neg w] at e ⊢
        have ec : iCnt nxB (spC b n) (F + 1) h = 1 := by rw [iCnt, if_neg (spC_n w)]
        refine ⟨by rw [ec]; show k + 1 = _; omega, by rw [ec]; omega, by rw [ec]; rfl⟩
    · rw [thn_x rfl q] at e; exact absurd e q
end Lists
