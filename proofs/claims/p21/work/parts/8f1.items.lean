section
/-! items of a list that was read: how many, what holds of each -/
section Items2
variable {nx : Nat → Nat} {sp : Nat → Bool} {F h : Nat} {ok : Nat → Prop}
theorem iPos_s : ∀ (k t : Nat), iPos nx t (k + 1) = iPos nx (nx t + 1) k
  | 0, _ => rfl
  | k + 1, t => by rw [iPos, iPos_s k t, iPos]
theorem iAll_s (h0 : ok h) (hs : sp (nx h) = true) (hr : ∀ j, j < iCnt nx sp F (nx h + 1) → ok (iPos nx (nx h + 1) j)) : ∀ j, j < iCnt nx sp (F + 1) h → ok (iPos nx h j) := fun j hj => by
  rw [iCnt, if_pos hs] at hj
  rcases j with _ | j
  · exact h0
  · rw [iPos_s]; exact hr j (by omega)
theorem iAll_e (h0 : ok h) (hs : sp (nx h) ≠ true) : ∀ j, j < iCnt nx sp (F + 1) h → ok (iPos nx h j) := fun j hj => by
  rw [iCnt, if_neg hs] at hj
  have : j = 0 := by omega
  subst this; exact h0
theorem iEx_s {P : Nat → Prop} (hs : sp (nx h) = true) : (∃ j, j < iCnt nx sp (F + 1) h ∧ P (iPos nx h j)) ↔ P h ∨ ∃ j, j < iCnt nx sp F (nx h + 1) ∧ P (iPos nx (nx h + 1) j) := by
  rw [iCnt, if_pos hs]
  constructor
  · rintro ⟨j, hj, e⟩
    rcases j with _ | j
    · exact Or.inl e
    · rw [iPos_s] at e; exact Or.inr ⟨j, by omega, e⟩
  · rintro (e | ⟨j, hj, e⟩)
    · exact ⟨0, by omega, e⟩
    · exact ⟨j + 1, by omega, by rw [iPos_s]; exact e⟩
theorem iEx_e {P : Nat → Prop} (hs : sp (nx h) ≠ true) : (∃ j, j < iCnt nx sp (F + 1) h ∧ P (iPos nx h j)) ↔ P h := by
  rw [iCnt, if_neg hs]
  constructor
  · rintro ⟨j, hj, e⟩
    have : j = 0 := by omega
    subst this; exact e
  · intro e; exact ⟨0, by omega, e⟩
end Items2
section Lists
variable {b : tTx} {n : Nat} {c d : Int}
theorem spC_y {t : Nat} (h : pK b n t = 44) : spC b n t = true := by unfold spC; exact decide_eq_true h
theorem spC_n {t : Nat} (h : ¬ pK b n t = 44) : spC b n t ≠ true := by unfold spC; exact fun e => h (of_decide_eq_true e)
/-- a term: none or a column below c -/
def okE (b : tTx) (n : Nat) (c : Int) (t : Nat) : Prop := (teC b n t = -1 ∨ 0 ≤ teC b n t) ∧ teC b n t < c ∧ teC b n t ≤ 3
theorem sTerm_okE {k : Int} {h : Nat} (hc : 0 ≤ c) (h0 : (sTerm b n c k h).1 = 0) : okE b n c h ∧ k < 4 := by
  refine ⟨?_, sTerm_k h0⟩
  unfold sTerm at h0; unfold okE teC
  by_cases q : pK b n h = 4
  · rw [if_pos q]; omega
  · rw [if_neg q] at h0 ⊢
    by_cases q1 : pCf b n c h = 0
    · have a := pCf_0 q1
      have a2 := pV_c a.1
      omega
    · rw [if_neg q1] at h0; exact absurd h0 q1
theorem sTerms_all (hc : 0 ≤ c) : ∀ (F : Nat) (k : Int) (h : Nat), 0 ≤ k → (sTerms b n c F k h).1 = 0 → (sTerms b n c F k h).2.2 = k + ((iCnt (nxE b n) (spC b n) F h : Nat) : Int) ∧ (k + ((iCnt (nxE b n) (spC b n) F h : Nat) : Int) ≤ 4 ∧ 1 ≤ iCnt (nxE b n) (spC b n) F h) ∧ ∀ j, j < iCnt (nxE b n) (spC b n) F h → okE b n c (iPos (nxE b n) h j)
  | 0, _, _, _, e => (pr_no e (by decide)).elim
  | F + 1, k, h, hk, e => by
    rw [sTerms] at e ⊢
    by_cases q : (sTerm b n c k h).1 = 0
    · have h4 := sTerm_okE hc q
      have en := sTerm_h rfl q
      rw [thn_y (f := _) rfl q rfl] at e ⊢
      rw [en] at e ⊢
      by_cases w : pK b n (nxE b n h) = 44
      · rw [if_pos w] at e ⊢
        have r := sTerms_all hc F (k + 1) (nxE b n h + 1) (by omega) e
        have ec : iCnt (nxE b n) (spC b n) (F + 1) h = iCnt (nxE b n) (spC b n) F (nxE b n h + 1) + 1 := by rw [iCnt, if_pos (spC_y w)]
        refine ⟨by rw [r.1, ec]; omega, by rw [ec]; omega, iAll_s h4.1 (spC_y w) r.2.2⟩
      · rw [if_neg w] at e ⊢
        have ec : iCnt (nxE b n) (spC b n) (F + 1) h = 1 := by rw [iCnt, if_neg (spC_n w)]
        refine ⟨by rw [ec]; show k + 1 = _; omega, by rw [ec]; omega, iAll_e h4.1 (spC_n w)⟩
    · rw [thn_x rfl q] at e; exact absurd e q
theorem sTests_x : ∀ (F : Nat) (k : Int) (h : Nat), (sTests b n c F k h).1 = 0 → (sTests b n c F k h).2.2 = c
  | 0, _, _, e => (pr_no e (by decide)).elim
  | F + 1, k, h, e => by
    rw [sTests] at e ⊢
    by_cases q : (sTest b n c k h).1 = 0
    · rw [thn_y (f := _) rfl q rfl] at e ⊢
      by_cases w : pK b n (sTest b n c k h).2.1 = 3 ∧ pV b n (sTest b n c k h).2.1 = 11
      · rw [if_pos w] at e ⊢; exact sTests_x F _ _ e
      · rw [if_neg w]
    · rw [thn_x rfl q] at e; exact absurd e q
/-- a test: its sign -/
def okT (b : tTx) (n : Nat) (t : Nat) : Prop := (pK b n (t + 1) = 61 ∨ pK b n (t + 1) = 60 ∨ pK b n (t + 1) = 62) ∧ (pK b n (t + 2) = 4 ∨ (pK b n (t + 2) = 2 ∧ 0 ≤ pV b n (t + 2)))
theorem sTest_okT {k : Int} {h : Nat} (h0 : (sTest b n c k h).1 = 0) : okT b n h := by
  unfold sTest at h0; unfold okT
  by_cases q : pCf b n c h = 0
  · rw [if_pos q] at h0
    by_cases q1 : 8 ≤ k
    · rw [if_pos q1] at h0; exact (pr_no h0 (by decide)).elim
    · rw [if_neg q1] at h0
      by_cases q2 : pK b n (h + 1) = 61 ∨ pK b n (h + 1) = 60 ∨ pK b n (h + 1) = 62
      · rw [if_pos q2] at h0
        refine ⟨q2, ?_⟩
        by_cases q3 : pK b n (h + 2) = 4
        · exact Or.inl q3
        · rw [if_neg q3] at h0
          by_cases q4 : pCf b n c (h + 2) = 0
          · have a := pCf_0 q4; exact Or.inr ⟨a.1, (pV_c a.1).1⟩
          · rw [if_neg q4] at h0; exact absurd h0 q4
      · rw [if_neg q2] at h0; exact (pr_no h0 (by decide)).elim
  · rw [if_neg q] at h0; exact absurd h0 q
theorem spA_y {t : Nat} (h : pK b n t = 3 ∧ pV b n t = 11) : spA b n t = true := by unfold spA; exact decide_eq_true h
theorem spA_n {t : Nat} (h : ¬ (pK b n t = 3 ∧ pV b n t = 11)) : spA b n t ≠ true := by unfold spA; exact fun e => h (of_decide_eq_true e)
theorem sTests_all : ∀ (F : Nat) (k : Int) (h : Nat), (sTests b n c F k h).1 = 0 → ∀ j, j < iCnt nxT (spA b n) F h → okT b n (iPos nxT h j)
  | 0, _, _, e => (pr_no e (by decide)).elim
  | F + 1, k, h, e => by
    rw [sTests] at e
    by_cases q : (sTest b n c k h).1 = 0
    · have h4 := sTest_okT q
      have en := sTest_h rfl q
      rw [thn_y (f := _) rfl q rfl, en] at e
      by_cases w : pK b n (nxT h) = 3 ∧ pV b n (nxT h) = 11
      · rw [if_pos w] at e
        exact iAll_s h4 (spA_y w) (sTests_all F (k + 1) (nxT h + 1) e)
      · exact iAll_e h4 (spA_n w)
    · rw [thn_x rfl q] at e; exact absurd e q
/-- a pair -/
def okP (b : tTx) (n : Nat) (c d : Int) (t : Nat) : Prop := 0 ≤ pV b n t ∧ pV b n t < c ∧ 0 ≤ pV b n (t + 2) ∧ pV b n (t + 2) < d ∧ pV b n t ≤ 3 ∧ pV b n (t + 2) ≤ 3
theorem sPair_okP {k lim : Int} {h : Nat} (h0 : (sPair b n c d k lim h).1 = 0) : okP b n c d h := by
  unfold sPair at h0; unfold okP
  by_cases q : pCf b n c h = 0
  · have a := pCf_0 q
    have a2 := pV_c a.1
    rw [if_pos q] at h0
    by_cases q1 : lim ≤ k
    · rw [if_pos q1] at h0; exact (pr_no h0 (by decide)).elim
    · rw [if_neg q1] at h0
      by_cases q2 : (sTk b n 61 (h + 1)).1 = 0
      · have e2 := sTk_h rfl q2
        rw [thn_y (f := fun t _ => if pCf b n d t = 0 then (0, t + 1, pV b n t) else (pCf b n d t, t, 0)) rfl q2 rfl, e2] at h0
        by_cases q3 : pCf b n d (h + 1 + 1) = 0
        · have g := pCf_0 q3
          have g2 := pV_c g.1
          exact ⟨a2.1, a.2, g2.1, g.2, a2.2, g2.2⟩
        · rw [if_neg q3] at h0; exact absurd h0 q3
      · rw [thn_x rfl q2] at h0; exact absurd h0 q2
  · rw [if_neg q] at h0; exact absurd h0 q
theorem sPairs_all : ∀ (F : Nat) (k : Int) (L : List Int) (h : Nat), (sPairs b n c d F k L h).1 = 0 → (∃ L' : List Int, (sPairs b n c d F k L h).2.2 = c + jC L' d.toNat ∧ ∀ x, x ∈ L' ↔ x ∈ L ∨ ∃ j, j < iCnt nxT (spC b n) F h ∧ pV b n (iPos nxT h j + 2) = x) ∧ ∀ j, j < iCnt nxT (spC b n) F h → okP b n c d (iPos nxT h j)
  | 0, _, _, _, e => (pr_no e (by decide)).elim
  | F + 1, k, L, h, e => by
    rw [sPairs] at e ⊢
    by_cases q : (sPair b n c d k 4 h).1 = 0
    · have h4 := sPair_okP q
      have en := sPair_h rfl q
      rw [thn_y (f := _) rfl q rfl] at e ⊢
      rw [en.1, en.2] at e ⊢
      by_cases w : pK b n (nxT h) = 44
      · rw [if_pos w] at e ⊢
        obtain ⟨⟨L', r1, r2⟩, r3⟩ := sPairs_all F (k + 1) (pV b n (h + 2) :: L) (nxT h + 1) e
        refine ⟨⟨L', r1, fun x => ?_⟩, iAll_s h4 (spC_y w) r3⟩
        rw [r2 x, iEx_s (P := fun t => pV b n (t + 2) = x) (spC_y w), List.mem_cons]
        constructor
        · rintro ((u | u) | u)
          · exact Or.inr (Or.inl u.symm)
          · exact Or.inl u
          · exact Or.inr (Or.inr u)
        · rintro (u | u | u)
          · exact Or.inl (Or.inr u)
          · exact Or.inl (Or.inl u.symm)
          · exact Or.inr u
      · rw [if_neg w] at e ⊢
        refine ⟨⟨pV b n (h + 2) :: L, rfl, fun x => ?_⟩, iAll_e h4 (spC_n w)⟩
        rw [iEx_e (P := fun t => pV b n (t + 2) = x) (spC_n w), List.mem_cons]
        constructor
        · rintro (u | u)
          · exact Or.inr u.symm
          · exact Or.inl u
        · rintro (u | u)
          · exact Or.inr u
          · exact Or.inl u.symm
    · rw [thn_x rfl q] at e; exact absurd e q
theorem sBys_all : ∀ (F : Nat) (k : Int) (L : List Int) (h : Nat), 0 ≤ k → (sBys b n c F k L h).1 = 0 → (sBys b n c F k L h).2.2 = k + ((iCnt nxB (spC b n) F h : Nat) : Int) ∧ (k + ((iCnt nxB (spC b n) F h : Nat) : Int) ≤ 3 ∧ 1 ≤ iCnt nxB (spC b n) F h) ∧ (sBys b n c F k L h).2.1 = nxB (iPos nxB h (iCnt nxB (spC b n) F h - 1))
  | 0, _, _, _, _, e => (pr_no e (by decide)).elim
  | F + 1, k, L, h, hk, e => by
    rw [sBys] at e ⊢
    by_cases q : (sBy b n c k L h).1 = 0
    · have h4 := sBy_k q
      have en := sBy_h rfl q
      rw [thn_y (f := _) rfl q rfl] at e ⊢
      rw [en.1, en.2] at e ⊢
      by_cases w : pK b n (nxB h) = 44
      · rw [if_pos w] at e ⊢
        obtain ⟨r1, r2, r3⟩ := sBys_all F (k + 1) (pV b n h :: L) (nxB h + 1) (by omega) e
        have ec : iCnt nxB (spC b n) (F + 1) h = iCnt nxB (spC b n) F (nxB h + 1) + 1 := by rw [iCnt, if_pos (spC_y w)]
        refine ⟨by rw [r1, ec]; omega, by rw [ec]; omega, ?_⟩
        rw [r3, ec, show iCnt nxB (spC b n) F (nxB h + 1) + 1 - 1 = (iCnt nxB (spC b n) F (nxB h + 1) - 1) + 1 by omega, iPos_s]
      · rw [if_neg w] at e ⊢
        have ec : iCnt nxB (spC b n) (F + 1) h = 1 := by rw [iCnt, if_neg (spC_n w)]
        refine ⟨by rw [ec]; show k + 1 = _; omega, by rw [ec]; omega, by rw [ec]; rfl⟩
    · rw [thn_x rfl q] at e; exact absurd e q
end Lists
end
section
/-! a line that was read, by tokens alone -/
section Cong
variable {b : tTx} {n r : Nat} {nt nt' : Nat → Nat} {cl cl' : Nat → Int}
theorem pFd_cg (e : ∀ u, u < r → nt' u = nt u) (h : Nat) : pFd b n nt' r h = pFd b n nt r h := pFd_c r 0 (fun u _ hu => e u (by omega))
theorem pFd_r (h : Nat) : pFd b n nt r h < (r : Int) := by have := pFd_lt (b := b) (n := n) (h := h) (nt := nt) r 0; unfold pFd; omega
theorem pRf_cg (e : ∀ u, u < r → nt' u = nt u) (h : Nat) : pRf b n nt' r h = pRf b n nt r h := by unfold pRf; rw [pFd_cg e]
theorem cF_cg (e : ∀ u, u < r → nt' u = nt u) (e2 : ∀ u, u < r → cl' u = cl u) {h : Nat} (k : pRf b n nt r h = 0) : cF b n r nt' cl' h = cF b n r nt cl h := by
  unfold cF
  have a := (pRf_i k).2
  have c := pFd_r (b := b) (n := n) (r := r) (nt := nt) h
  rw [pFd_cg e, e2 _ (by omega)]
theorem sRl_cg (e : ∀ u, u < r → nt' u = nt u) (e2 : ∀ u, u < r → cl' u = cl u) : sRl b n r nt' cl' = sRl b n r nt cl := funext fun h => by
  unfold sRl
  rw [pRf_cg e]
  by_cases k : pRf b n nt r h = 0
  · rw [if_pos k, if_pos k, cF_cg e e2 k]
  · rw [if_neg k, if_neg k]
theorem sTwo_cg (e : ∀ u, u < r → nt' u = nt u) (e2 : ∀ u, u < r → cl' u = cl u) (h : Nat) : sTwo b n r nt' cl' h = sTwo b n r nt cl h := by
  unfold sTwo
  rw [sRl_cg e e2]
  refine thn_cg (fun _ => ?_)
  show (if pRf b n nt' r _ = 0 then _ else _) = (if pRf b n nt r _ = 0 then _ else _)
  rw [pRf_cg e]
  by_cases k : pRf b n nt r (sRl b n r nt cl h).2.1 = 0
  · rw [if_pos k, if_pos k, cF_cg e e2 k]
  · rw [if_neg k, if_neg k]
theorem sBody_cg (e : ∀ u, u < r → nt' u = nt u) (e2 : ∀ u, u < r → cl' u = cl u) (kd : Int) (h : Nat) : sBody b n r nt' cl' kd h = sBody b n r nt cl kd h := by
  unfold sBody sSel sPrj sJoi sGrp sRng
  rw [sRl_cg e e2, sTwo_cg e e2]
end Cong
/-- a line that was read: its kind, its body, its end -/
def bTk (b : tTx) (n t : Nat) : Nat := if kdT b n t = 0 then t + 1 else t + 3
def LG (b : tTx) (n : Nat) (nt : Nat → Nat) (cl : Nat → Int) (r : Nat) : Prop :=
  (0 ≤ kdT b n (nt r) ∧ kdT b n (nt r) ≤ 8) ∧ (sBody b n r nt cl (kdT b n (nt r)) (bTk b n (nt r))).1 = 0 ∧ (sBody b n r nt cl (kdT b n (nt r)) (bTk b n (nt r))).2.2 = cl r ∧ cl r ≤ 4
theorem LG_cg {b : tTx} {n r : Nat} {nt nt' : Nat → Nat} {cl cl' : Nat → Int} (e : ∀ u, u ≤ r → nt' u = nt u) (e2 : ∀ u, u ≤ r → cl' u = cl u) (h : LG b n nt cl r) : LG b n nt' cl' r := by
  unfold LG at h ⊢
  rw [e r (Nat.le_refl _), e2 r (Nat.le_refl _), sBody_cg (fun u hu => e u (by omega)) (fun u hu => e2 u (by omega))]
  exact h
/-! a fault's kind is never below 0 -/
section Ge
variable {b : tTx} {n nr h : Nat} {nt : Nat → Nat} {cl : Nat → Int} {tb c d k lim x : Int} {L : List Int}
theorem thn_ge {r : pR} {f : Nat → Int → pR} (h : 0 ≤ r.1) (k : ∀ t v, 0 ≤ (f t v).1) : 0 ≤ (thn r f).1 := by
  by_cases q : r.1 = 0
  · rw [thn_y (f := f) rfl q rfl]; exact k _ _
  · rw [thn_x (f := f) rfl q]; exact h
theorem pRf_ge : 0 ≤ pRf b n nt nr h := by unfold pRf; (repeat' split) <;> (try dsimp only) <;> omega
theorem sTk_ge : 0 ≤ (sTk b n k h).1 := by unfold sTk; (repeat' split) <;> (try dsimp only) <;> omega
theorem sTw_ge : 0 ≤ (sTw b n k h).1 := by unfold sTw; (repeat' split) <;> (try dsimp only) <;> omega
theorem sRl_ge : 0 ≤ (sRl b n nr nt cl h).1 := by unfold sRl; split; (· (try dsimp only); omega); (· exact pRf_ge)
theorem sTest_ge : 0 ≤ (sTest b n c k h).1 := by unfold sTest; (repeat' split) <;> first | exact pCf_r.1 | ((try dsimp only); omega)
theorem sTests_ge : ∀ (F : Nat) (k : Int) (h : Nat), 0 ≤ (sTests b n c F k h).1
  | 0, _, _ => by show (0 : Int) ≤ 4; decide
  | F + 1, k, h => by
    rw [sTests]
    refine thn_ge sTest_ge (fun t v => ?_)
    split
    · exact sTests_ge F _ _
    · (try dsimp only); omega
theorem sTerm_ge : 0 ≤ (sTerm b n c k h).1 := by unfold sTerm; (repeat' split) <;> first | exact pCf_r.1 | ((try dsimp only); omega)
theorem sTerms_ge : ∀ (F : Nat) (k : Int) (h : Nat), 0 ≤ (sTerms b n c F k h).1
  | 0, _, _ => by show (0 : Int) ≤ 4; decide
  | F + 1, k, h => by
    rw [sTerms]
    refine thn_ge sTerm_ge (fun t v => ?_)
    split
    · exact sTerms_ge F _ _
    · (try dsimp only); omega
theorem sPair_ge : 0 ≤ (sPair b n c d k lim h).1 := by
  unfold sPair
  split
  · split
    · (try dsimp only); omega
    · refine thn_ge sTk_ge (fun t v => ?_)
      split
      · (try dsimp only); omega
      · exact pCf_r.1
  · exact pCf_r.1
theorem sPairs_ge : ∀ (F : Nat) (k : Int) (L : List Int) (h : Nat), 0 ≤ (sPairs b n c d F k L h).1
  | 0, _, _, _ => by show (0 : Int) ≤ 4; decide
  | F + 1, k, L, h => by
    rw [sPairs]
    refine thn_ge sPair_ge (fun t v => ?_)
    split
    · exact sPairs_ge F _ _ _
    · (try dsimp only); omega
theorem sBy_ge : 0 ≤ (sBy b n c k L h).1 := by unfold sBy; (repeat' split) <;> first | exact pCf_r.1 | ((try dsimp only); omega)
theorem sBys_ge : ∀ (F : Nat) (k : Int) (L : List Int) (h : Nat), 0 ≤ (sBys b n c F k L h).1
  | 0, _, _, _ => by show (0 : Int) ≤ 4; decide
  | F + 1, k, L, h => by
    rw [sBys]
    refine thn_ge sBy_ge (fun t v => ?_)
    split
    · exact sBys_ge F _ _ _
    · (try dsimp only); omega
theorem sFo_ge : 0 ≤ (sFo b n c x h).1 := by unfold sFo; (repeat' split) <;> first | exact pCf_r.1 | ((try dsimp only); omega)
theorem sTc_ge : 0 ≤ (sTc b n h).1 := by unfold sTc; (repeat' split) <;> (try dsimp only) <;> omega
theorem sClo_ge : 0 ≤ (sClo b n x h).1 := by unfold sClo; (repeat' split) <;> (try dsimp only) <;> omega
theorem sNam_ge : 0 ≤ (sNam b n nr nt h).1 := by unfold sNam; (repeat' split) <;> (try dsimp only) <;> omega
theorem sVk_ge : 0 ≤ (sVk b n h).1 := by
  unfold sVk
  refine thn_ge sTk_ge (fun t v => ?_)
  split <;> ((try dsimp only); omega)
theorem sTwo_ge : 0 ≤ (sTwo b n nr nt cl h).1 := by
  unfold sTwo
  refine thn_ge sRl_ge (fun t v => ?_)
  split
  · split <;> ((try dsimp only); omega)
  · exact pRf_ge
theorem sBody_ge : 0 ≤ (sBody b n nr nt cl k h).1 := by
  unfold sBody
  split
  · exact thn_ge sRl_ge (fun _ _ => thn_ge sTw_ge (fun _ _ => sTests_ge _ _ _))
  · split
    · exact thn_ge sRl_ge (fun _ _ => sTerms_ge _ _ _)
    · split
      · exact thn_ge sRl_ge (fun _ _ => thn_ge sRl_ge (fun _ _ => thn_ge sTw_ge (fun _ _ => sPairs_ge _ _ _ _)))
      · split
        · exact sTwo_ge
        · split
          · exact sRl_ge
          · split
            · exact thn_ge sRl_ge (fun _ _ => thn_ge sTw_ge (fun _ _ => thn_ge (sBys_ge _ _ _ _) (fun _ _ => sFo_ge)))
            · split
              · exact thn_ge sRl_ge (fun _ _ => thn_ge sTw_ge (fun _ _ => thn_ge sRl_ge (fun _ _ => thn_ge sTw_ge (fun _ _ => thn_ge sPair_ge (fun _ _ => thn_ge sTw_ge (fun _ _ => thn_ge (sTerms_ge _ _ _) (fun _ _ => by show (0 : Int) ≤ 0; decide)))))))
              · exact sTc_ge
theorem sHd_ge : 0 ≤ (sHd b n nr nt tb h).1 := by
  unfold sHd
  split
  · split
    · (try dsimp only); omega
    · split
      · (try dsimp only); omega
      · exact sNam_ge
  · split
    · split
      · (try dsimp only); omega
      · exact thn_ge sNam_ge (fun _ _ => sVk_ge)
    · (try dsimp only); omega
theorem sLine_ge : 0 ≤ (sLine b n nr nt cl tb h).1 := thn_ge sHd_ge (fun _ _ => thn_ge sBody_ge (fun _ _ => sClo_ge))
end Ge
section Line
variable {b : tTx} {n nr h : Nat} {nt : Nat → Nat} {cl : Nat → Int} {tb : Int}
theorem sNam_h (h0 : (sNam b n nr nt h).1 = 0) : (sNam b n nr nt h).2.1 = h + 1 := by
  unfold sNam at h0 ⊢
  by_cases k : pK b n h = 3 ∧ pV b n h = -1
  · rw [if_pos k] at h0 ⊢
    by_cases q : pFd b n nt nr h = -1
    · rw [if_pos q]
    · rw [if_neg q] at h0; exact (pr_no h0 (by decide)).elim
  · rw [if_neg k] at h0; exact (pr_no h0 (by decide)).elim
theorem sVk_h (h0 : (sVk b n h).1 = 0) : (sVk b n h).2.1 = h + 2 ∧ (sVk b n h).2.2 = pV b n (h + 1) ∧ 1 ≤ pV b n (h + 1) ∧ pV b n (h + 1) ≤ 8 := by
  unfold sVk at h0 ⊢
  by_cases k : (sTk b n 61 h).1 = 0
  · have e := sTk_h rfl k
    rw [thn_y (f := _) rfl k rfl] at h0 ⊢
    rw [e] at h0 ⊢
    by_cases q : pK b n (h + 1) = 3 ∧ 1 ≤ pV b n (h + 1) ∧ pV b n (h + 1) ≤ 8
    · rw [if_pos q]; exact ⟨rfl, rfl, q.2⟩
    · rw [if_neg q] at h0; exact (pr_no h0 (by decide)).elim
  · rw [thn_x rfl k] at h0; exact absurd h0 k
/-- the head of a line: kind, where its body begins; tables ahead of views -/
theorem sHd_h (h0 : (sHd b n nr nt tb h).1 = 0) : (sHd b n nr nt tb h).2.2 = kdT b n (h + 1) ∧ (sHd b n nr nt tb h).2.1 = bTk b n (h + 1) ∧ (0 ≤ kdT b n (h + 1) ∧ kdT b n (h + 1) ≤ 8) ∧ ((pK b n h = 3 ∧ pV b n h = 0) ↔ kdT b n (h + 1) = 0) ∧ (kdT b n (h + 1) = 0 → ¬ tb < (nr : Int)) := by
  unfold sHd at h0 ⊢
  by_cases k : pK b n h = 3 ∧ pV b n h = 0
  · have ek : kdT b n (h + 1) = 0 := kdT_t k.2
    have eb : bTk b n (h + 1) = h + 1 + 1 := if_pos ek
    rw [if_pos k] at h0 ⊢
    by_cases q : 16 ≤ nr
    · rw [if_pos q] at h0; exact (pr_no h0 (by decide)).elim
    · rw [if_neg q] at h0 ⊢
      by_cases m : tb < (nr : Int)
      · rw [if_pos m] at h0; exact (pr_no h0 (by decide)).elim
      · rw [if_neg m] at h0 ⊢
        rw [sNam_x h0, sNam_h h0, ek, eb]
        exact ⟨rfl, rfl, by decide, ⟨fun _ => rfl, fun _ => k⟩, fun _ => m⟩
  · rw [if_neg k] at h0 ⊢
    by_cases k2 : pK b n h = 3 ∧ pV b n h = 9
    · have ek : kdT b n (h + 1) = pV b n (h + 3) := kdT_v (by omega)
      rw [if_pos k2] at h0 ⊢
      by_cases q : 16 ≤ nr
      · rw [if_pos q] at h0; exact (pr_no h0 (by decide)).elim
      · rw [if_neg q] at h0 ⊢
        by_cases m : (sNam b n nr nt (h + 1)).1 = 0
        · have e1 := sNam_h m
          rw [thn_y (f := fun t _ => sVk b n t) rfl m rfl, e1] at h0 ⊢
          obtain ⟨v1, v2, v3, v4⟩ := sVk_h h0
          have eb : bTk b n (h + 1) = h + 1 + 3 := if_neg (by rw [ek]; show ¬ pV b n (h + 3) = 0; have : pV b n (h + 1 + 1 + 1) = pV b n (h + 3) := rfl; omega)
          rw [v1, v2, ek, eb]
          exact ⟨rfl, rfl, ⟨by show 0 ≤ pV b n (h + 1 + 1 + 1); omega, v4⟩, ⟨fun e => absurd e k, fun e => absurd e (by show ¬ pV b n (h + 1 + 1 + 1) = 0; omega)⟩, fun e => absurd e (by show ¬ pV b n (h + 1 + 1 + 1) = 0; omega)⟩
        · rw [thn_x rfl m] at h0; exact absurd h0 m
    · rw [if_neg k2] at h0; exact (pr_no h0 (by decide)).elim
theorem sClo_h {x : Int} (h0 : (sClo b n x h).1 = 0) : (sClo b n x h).2.2 = x ∧ x ≤ 4 ∧ (sClo b n x h).2.1 = h + 1 := by
  unfold sClo at h0 ⊢
  by_cases k : pK b n h = 59
  · rw [if_pos k] at h0 ⊢
    by_cases q : 4 < x
    · rw [if_pos q] at h0; exact (pr_no h0 (by decide)).elim
    · rw [if_neg q]; exact ⟨rfl, by omega, rfl⟩
  · rw [if_neg k] at h0; exact (pr_no h0 (by decide)).elim
theorem sLine_LG (h0 : (sLine b n nr nt cl tb h).1 = 0) : LG b n (sUp nt nr (h + 1)) (sUp cl nr (sLine b n nr nt cl tb h).2.2) nr ∧ ((pK b n h = 3 ∧ pV b n h = 0) ↔ kdT b n (h + 1) = 0) ∧ (kdT b n (h + 1) = 0 → ¬ tb < (nr : Int)) := by
  have ex : sLine b n nr nt cl tb h = thn (sHd b n nr nt tb h) fun t kd => thn (sBody b n nr nt cl kd t) fun t x => sClo b n x t := rfl
  by_cases k : (sHd b n nr nt tb h).1 = 0
  · obtain ⟨a1, a2, a3, a4, a5⟩ := sHd_h k
    refine ⟨?_, a4, a5⟩
    rw [thn_y (f := fun t kd => thn (sBody b n nr nt cl kd t) fun t x => sClo b n x t) rfl k rfl, a1, a2] at ex
    by_cases q : (sBody b n nr nt cl (kdT b n (h + 1)) (bTk b n (h + 1))).1 = 0
    · rw [thn_y (f := fun t x => sClo b n x t) rfl q rfl] at ex
      rw [ex] at h0 ⊢
      obtain ⟨c1, c2, _⟩ := sClo_h h0
      unfold LG
      rw [sUp_s, sUp_s, sBody_cg (fun u hu => sUp_k (by omega)) (fun u hu => sUp_k (by omega)), c1]
      exact ⟨a3, q, rfl, c2⟩
    · rw [thn_x (f := fun t x => sClo b n x t) rfl q] at ex
      rw [ex] at h0; exact absurd h0 q
  · rw [thn_x rfl k] at ex
    rw [ex] at h0; exact absurd h0 k
/-- tables ahead of views; of lines so far -/
def tbO (b : tTx) (n : Nat) (nt : Nat → Nat) (tb : Int) (nr : Nat) : Prop := 0 ≤ tb ∧ tb ≤ (nr : Int) ∧ ∀ r, r < nr → (kdT b n (nt r) = 0 ↔ (r : Int) < tb)
theorem sPar_LG : ∀ (F nr : Nat) (nt : Nat → Nat) (cl : Nat → Int) (tb : Int) (h : Nat), (∀ r, r < nr → LG b n nt cl r) → tbO b n nt tb nr → (sPar b n F nr nt cl tb h).1 = 0 →
    (sPar b n F nr nt cl tb h).2 = (sParF b n F nr nt cl tb h).1 ∧ (∀ r, r < (sParF b n F nr nt cl tb h).1 → LG b n (sParF b n F nr nt cl tb h).2.1 (sParF b n F nr nt cl tb h).2.2.1 r) ∧ tbO b n (sParF b n F nr nt cl tb h).2.1 (sParF b n F nr nt cl tb h).2.2.2 (sParF b n F nr nt cl tb h).1
  | 0, _, _, _, _, _, hl, ht, _ => ⟨rfl, hl, ht⟩
  | F + 1, nr, nt, cl, tb, h, hl, ht, e => by
    rw [sPar] at e ⊢
    rw [sParF]
    by_cases k : pK b n h = 0
    · rw [if_pos k, if_pos k]; exact ⟨rfl, hl, ht⟩
    · rw [if_neg k] at e ⊢
      rw [if_neg k]
      by_cases q : (sLine b n nr nt cl tb h).1 = 0
      · rw [if_pos q] at e ⊢
        rw [if_pos q]
        obtain ⟨g1, g2, g3⟩ := sLine_LG q
        refine sPar_LG F _ _ _ _ _ (fun r hr => ?_) ?_ e
        · by_cases m : r = nr
          · subst m; exact g1
          · exact LG_cg (fun u hu => sUp_k (by omega)) (fun u hu => sUp_k (by omega)) (hl r (by omega))
        · obtain ⟨t0, t1, t2⟩ := ht
          by_cases w : pK b n h = 3 ∧ pV b n h = 0
          · rw [if_pos w]
            have := g3 (g2.mp w)
            refine ⟨by omega, by omega, fun r hr => ?_⟩
            by_cases m : r = nr
            · subst m; rw [sUp_s]; exact ⟨fun _ => by omega, fun _ => g2.mp w⟩
            · rw [sUp_k m]; have := t2 r (by omega); omega
          · rw [if_neg w]
            refine ⟨t0, by omega, fun r hr => ?_⟩
            by_cases m : r = nr
            · subst m; rw [sUp_s]; exact ⟨fun z => absurd (g2.mpr z) w, fun z => by omega⟩
            · rw [sUp_k m]; exact t2 r (by omega)
      · rw [if_neg q] at e
        have q0 := sLine_ge (b := b) (n := n) (nr := nr) (nt := nt) (cl := cl) (tb := tb) (h := h)
        exact absurd e (by show ¬ 8 * (tPs b n (sLine b n nr nt cl tb h).2.1 : Int) + (sLine b n nr nt cl tb h).1 = 0; omega)
end Line
end
section
/-! what a line that was read holds: by kinds -/
section Good
variable {b : tTx} {n nr h : Nat} {nt : Nat → Nat} {cl : Nat → Int} {r : pR} {f : Nat → Int → pR}
theorem thn_i (e : (thn r f).1 = 0) : r.1 = 0 ∧ thn r f = f r.2.1 r.2.2 := by
  by_cases q : r.1 = 0
  · exact ⟨q, thn_y (f := f) rfl q rfl⟩
  · rw [thn_x (f := f) rfl q] at e; exact absurd e q
theorem gSel (e : (sSel b n nr nt cl h).1 = 0) : 0 ≤ pFd b n nt nr h ∧ (sSel b n nr nt cl h).2.2 = cF b n nr nt cl h ∧ ∀ j, j < iCnt nxT (spA b n) 9 (h + 2) → okT b n (iPos nxT (h + 2) j) := by
  unfold sSel at e ⊢
  obtain ⟨a1, a2⟩ := thn_i e
  rw [a2] at e ⊢
  obtain ⟨b1, b2⟩ := thn_i e
  rw [b2] at e ⊢
  have h1 := sRl_h rfl a1
  have h2 := sTw_h rfl b1
  rw [h1.1] at h2
  have hx := sTests_x _ _ _ e
  have ha := sTests_all _ _ _ e
  rw [h1.1, h2] at ha
  exact ⟨h1.2.2, by rw [hx, h1.2.1], ha⟩
theorem gPrj (hc : ∀ u, u < nr → 1 ≤ cl u ∧ cl u ≤ 4) (e : (sPrj b n nr nt cl h).1 = 0) : 0 ≤ pFd b n nt nr h ∧ (sPrj b n nr nt cl h).2.2 = ((iCnt (nxE b n) (spC b n) 5 (h + 1) : Nat) : Int) ∧ (1 ≤ iCnt (nxE b n) (spC b n) 5 (h + 1) ∧ iCnt (nxE b n) (spC b n) 5 (h + 1) ≤ 4) ∧ ∀ j, j < iCnt (nxE b n) (spC b n) 5 (h + 1) → okE b n (cF b n nr nt cl h) (iPos (nxE b n) (h + 1) j) := by
  unfold sPrj at e ⊢
  obtain ⟨a1, a2⟩ := thn_i e
  rw [a2] at e ⊢
  have h1 := sRl_h rfl a1
  have q := hc (pFd b n nt nr h).toNat (by have := pFd_r (b := b) (n := n) (r := nr) (nt := nt) h; have := h1.2.2; omega)
  rw [h1.1, h1.2.1] at e ⊢
  obtain ⟨x1, x2, x3⟩ := sTerms_all (by unfold cF; omega) _ _ _ (by decide) e
  exact ⟨h1.2.2, by rw [x1]; omega, by omega, x3⟩
theorem gJoi (e : (sJoi b n nr nt cl h).1 = 0) : 0 ≤ pFd b n nt nr h ∧ 0 ≤ pFd b n nt nr (h + 1) ∧ (∃ L' : List Int, (sJoi b n nr nt cl h).2.2 = cF b n nr nt cl h + jC L' (cF b n nr nt cl (h + 1)).toNat ∧ ∀ x, x ∈ L' ↔ ∃ j, j < iCnt nxT (spC b n) 5 (h + 3) ∧ pV b n (iPos nxT (h + 3) j + 2) = x) ∧ ∀ j, j < iCnt nxT (spC b n) 5 (h + 3) → okP b n (cF b n nr nt cl h) (cF b n nr nt cl (h + 1)) (iPos nxT (h + 3) j) := by
  unfold sJoi at e ⊢
  obtain ⟨a1, a2⟩ := thn_i e
  rw [a2] at e ⊢
  obtain ⟨b1, b2⟩ := thn_i e
  rw [b2] at e ⊢
  obtain ⟨c1, c2⟩ := thn_i e
  rw [c2] at e ⊢
  have h1 := sRl_h rfl a1
  have h2 := sRl_h rfl b1
  have h3 := sTw_h rfl c1
  rw [h1.1] at h2
  rw [h1.1, h2.1] at h3
  rw [h1.1] at e ⊢
  rw [h2.2.1, h1.2.1, h2.1, h3] at e
  rw [h2.2.1, h1.2.1, h2.1, h3]
  obtain ⟨⟨L', x1, x2⟩, x3⟩ := sPairs_all _ _ _ _ e
  refine ⟨h1.2.2, h2.2.2, ⟨L', x1, fun x => ?_⟩, x3⟩
  rw [x2 x]
  exact ⟨fun q => q.resolve_left List.not_mem_nil, Or.inr⟩
theorem gTwo (e : (sTwo b n nr nt cl h).1 = 0) : 0 ≤ pFd b n nt nr h ∧ 0 ≤ pFd b n nt nr (h + 1) ∧ (sTwo b n nr nt cl h).2.2 = cF b n nr nt cl h ∧ cF b n nr nt cl (h + 1) = cF b n nr nt cl h := by
  unfold sTwo at e ⊢
  obtain ⟨a1, a2⟩ := thn_i e
  rw [a2] at e ⊢
  have h1 := sRl_h rfl a1
  rw [h1.1, h1.2.1] at e ⊢
  by_cases k : pRf b n nt nr (h + 1) = 0
  · rw [if_pos k] at e ⊢
    by_cases q : cF b n nr nt cl (h + 1) = cF b n nr nt cl h
    · rw [if_pos q]; exact ⟨h1.2.2, (pRf_i k).2, rfl, q⟩
    · rw [if_neg q] at e; exact (pr_no e (by decide)).elim
  · rw [if_neg k] at e; exact absurd e k
theorem gFo {c x : Int} (e : (sFo b n c x h).1 = 0) : (16 ≤ pV b n h ∧ pV b n h ≤ 19) ∧ (pV b n h ≠ 16 → 0 ≤ pV b n (h + 1) ∧ pV b n (h + 1) ≤ 3) ∧ (sFo b n c x h).2.2 = x := by
  refine ⟨?_, ?_, sFo_x e⟩
  · unfold sFo at e
    by_cases a : pK b n h = 3 ∧ 16 ≤ pV b n h ∧ pV b n h ≤ 19
    · exact a.2
    · rw [if_neg a] at e; exact (pr_no e (by decide)).elim
  · intro z
    unfold sFo at e
    by_cases a : pK b n h = 3 ∧ 16 ≤ pV b n h ∧ pV b n h ≤ 19
    · rw [if_pos a, if_neg z] at e
      by_cases w : pCf b n c (h + 1) = 0
      · exact pV_c (pCf_0 w).1
      · rw [if_neg w] at e; exact absurd e w
    · rw [if_neg a] at e; exact (pr_no e (by decide)).elim
theorem gGrp (e : (sGrp b n nr nt cl h).1 = 0) : 0 ≤ pFd b n nt nr h ∧ (sGrp b n nr nt cl h).2.2 = ((iCnt nxB (spC b n) 4 (h + 2) : Nat) : Int) + 1 ∧ (1 ≤ iCnt nxB (spC b n) 4 (h + 2) ∧ iCnt nxB (spC b n) 4 (h + 2) ≤ 3) ∧
    (16 ≤ pV b n (nxB (iPos nxB (h + 2) (iCnt nxB (spC b n) 4 (h + 2) - 1))) ∧ pV b n (nxB (iPos nxB (h + 2) (iCnt nxB (spC b n) 4 (h + 2) - 1))) ≤ 19) ∧
    (pV b n (nxB (iPos nxB (h + 2) (iCnt nxB (spC b n) 4 (h + 2) - 1))) ≠ 16 → 0 ≤ pV b n (nxB (iPos nxB (h + 2) (iCnt nxB (spC b n) 4 (h + 2) - 1)) + 1) ∧ pV b n (nxB (iPos nxB (h + 2) (iCnt nxB (spC b n) 4 (h + 2) - 1)) + 1) ≤ 3) := by
  unfold sGrp at e ⊢
  obtain ⟨a1, a2⟩ := thn_i e
  rw [a2] at e ⊢
  obtain ⟨b1, b2⟩ := thn_i e
  rw [b2] at e ⊢
  obtain ⟨c1, c2⟩ := thn_i e
  rw [c2] at e ⊢
  have h1 := sRl_h rfl a1
  have h2 := sTw_h rfl b1
  rw [h1.1] at h2
  have h2 : (sTw b n 13 (h + 1)).2.1 = h + 2 := h2
  rw [h1.1, h2] at c1
  obtain ⟨x1, x2, x3⟩ := sBys_all _ _ _ _ (by decide) c1
  rw [h1.1, h2] at e ⊢
  rw [x1, x3] at e ⊢
  obtain ⟨y1, y2, y3⟩ := gFo e
  exact ⟨h1.2.2, by rw [y3, Int.zero_add], by omega, y1, y2⟩
theorem gRng (hc : ∀ u, u < nr → 1 ≤ cl u ∧ cl u ≤ 4) (e : (sRng b n nr nt cl h).1 = 0) : 0 ≤ pFd b n nt nr h ∧ 0 ≤ pFd b n nt nr (h + 2) ∧ (sRng b n nr nt cl h).2.2 = rX (cF b n nr nt cl h) (cF b n nr nt cl (h + 2)) ((iCnt (nxE b n) (spC b n) 5 (h + 8) : Nat) : Int) ∧ okP b n (cF b n nr nt cl h) (cF b n nr nt cl (h + 2)) (h + 4) ∧ ∀ j, j < iCnt (nxE b n) (spC b n) 5 (h + 8) → okE b n (cF b n nr nt cl h + cF b n nr nt cl (h + 2)) (iPos (nxE b n) (h + 8) j) := by
  unfold sRng at e ⊢
  obtain ⟨a1, a2⟩ := thn_i e
  rw [a2] at e ⊢
  obtain ⟨b1, b2⟩ := thn_i e
  rw [b2] at e ⊢
  obtain ⟨c1, c2⟩ := thn_i e
  rw [c2] at e ⊢
  obtain ⟨d1, d2⟩ := thn_i e
  rw [d2] at e ⊢
  obtain ⟨f1, f2⟩ := thn_i e
  rw [f2] at e ⊢
  obtain ⟨g1, g2⟩ := thn_i e
  rw [g2] at e ⊢
  obtain ⟨k1, k2⟩ := thn_i e
  rw [k2]
  have h1 := sRl_h rfl a1
  have h2 := sTw_h rfl b1
  rw [h1.1] at h2
  have h2 : (sTw b n 14 (h + 1)).2.1 = h + 2 := h2
  have h3 := sRl_h rfl c1
  rw [h1.1, h2] at h3
  have h4 := sTw_h rfl d1
  rw [h1.1, h2, h3.1] at h4
  have h3 : (sRl b n nr nt cl (h + 2)).2.1 = h + 3 ∧ (sRl b n nr nt cl (h + 2)).2.2 = cF b n nr nt cl (h + 2) ∧ 0 ≤ pFd b n nt nr (h + 2) := h3
  have h4 : (sTw b n 12 (h + 3)).2.1 = h + 4 := h4
  rw [h1.1, h2, h3.1, h4, h3.2.1, h1.2.1] at f1
  have h5 := sPair_okP f1
  have h6 := sPair_h rfl f1
  have h6 : (sPair b n (cF b n nr nt cl h) (cF b n nr nt cl (h + 2)) 0 1 (h + 4)).2.1 = h + 7 ∧ _ := h6
  have h7 := sTw_h rfl g1
  rw [h1.1, h2, h3.1, h4, h3.2.1, h1.2.1, h6.1] at h7
  have h7 : (sTw b n 15 (h + 7)).2.1 = h + 8 := h7
  rw [h1.1, h2, h3.1, h4, h3.2.1, h1.2.1, h6.1, h7] at k1
  rw [h1.1, h2, h3.1, h4, h3.2.1, h1.2.1, h6.1, h7]
  have q1 := hc (pFd b n nt nr h).toNat (by have := pFd_r (b := b) (n := n) (r := nr) (nt := nt) h; have := h1.2.2; omega)
  have q2 := hc (pFd b n nt nr (h + 2)).toNat (by have := pFd_r (b := b) (n := n) (r := nr) (nt := nt) (h + 2); have := h3.2.2; omega)
  obtain ⟨x1, x2, x3⟩ := sTerms_all (by unfold cF; omega) _ _ _ (by decide) k1
  refine ⟨h1.2.2, h3.2.2, ?_, h5, x3⟩
  show rX _ _ _ = _
  rw [x1, Int.zero_add]
end Good
end
section
/-! one line as told, by tokens -/
section Lct
variable (b : tTx) (n : Nat) (nt : Nat → Nat) (cl : Nat → Int) (r : Nat)
def lcF : Int := if kdT b n (nt r) = 0 then -1 else pFd b n nt r (nt r + 3)
def lcS : Int := if kdT b n (nt r) = 3 ∨ kdT b n (nt r) = 4 ∨ kdT b n (nt r) = 5 then pFd b n nt r (nt r + 3 + 1) else if kdT b n (nt r) = 8 then pFd b n nt r (nt r + 3 + 2) else -1
def lcN : Nat := if kdT b n (nt r) = 1 then iCnt nxT (spA b n) 9 (nt r + 3 + 2) else if kdT b n (nt r) = 2 then iCnt (nxE b n) (spC b n) 5 (nt r + 3 + 1) else if kdT b n (nt r) = 3 then iCnt nxT (spC b n) 5 (nt r + 3 + 3)
  else if kdT b n (nt r) = 7 then iCnt nxB (spC b n) 4 (nt r + 3 + 2) else if kdT b n (nt r) = 8 then iCnt (nxE b n) (spC b n) 5 (nt r + 3 + 8) else 0
def lcO : Nat := nxB (iPos nxB (nt r + 3 + 2) (lcN b n nt r - 1))
def lcP (k w : Nat) : Int :=
  if kdT b n (nt r) = 1 then (if w = 0 then pV b n (iPos nxT (nt r + 3 + 2) k) else if w = 1 then pK b n (iPos nxT (nt r + 3 + 2) k + 1) else if w = 2 then (if pK b n (iPos nxT (nt r + 3 + 2) k + 2) = 4 then -1 else pV b n (iPos nxT (nt r + 3 + 2) k + 2)) else pV b n (iPos nxT (nt r + 3 + 2) k + 2))
  else if kdT b n (nt r) = 2 then (if w = 0 then teC b n (iPos (nxE b n) (nt r + 3 + 1) k) else teN b n (iPos (nxE b n) (nt r + 3 + 1) k))
  else if kdT b n (nt r) = 3 then (if w = 0 then pV b n (iPos nxT (nt r + 3 + 3) k) else pV b n (iPos nxT (nt r + 3 + 3) k + 2))
  else if kdT b n (nt r) = 7 then pV b n (iPos nxB (nt r + 3 + 2) k)
  else (if w = 0 then teC b n (iPos (nxE b n) (nt r + 3 + 8) k) else teN b n (iPos (nxE b n) (nt r + 3 + 8) k))
def lcA : Nat → Int
  | 0 => kdT b n (nt r)
  | 1 => cl r
  | 2 => lcF b n nt r
  | 3 => lcS b n nt r
  | 4 => ((lcN b n nt r : Nat) : Int)
  | 5 => cl (lcF b n nt r).toNat
  | 6 => cl (lcS b n nt r).toNat
  | 7 => pV b n (nt r + 3 + 4)
  | 8 => pV b n (nt r + 3 + 6)
  | 9 => pV b n (lcO b n nt r) - 16
  | 10 => if pV b n (lcO b n nt r) = 16 then 0 else pV b n (lcO b n nt r + 1)
  | _ => 0
def lcT : LC := (lcA b n nt cl r, lcP b n nt r)
end Lct
section LctC
variable {b : tTx} {n : Nat} {nt : Nat → Nat} {cl : Nat → Int} {r : Nat} {f P : Nat → Int32}
theorem lcF_v (h : kdT b n (nt r) ≠ 0) : lcF b n nt r = pFd b n nt r (nt r + 3) := if_neg h
theorem lcS_1 (h : kdT b n (nt r) = 3 ∨ kdT b n (nt r) = 4 ∨ kdT b n (nt r) = 5) : lcS b n nt r = pFd b n nt r (nt r + 3 + 1) := if_pos h
theorem lcS_2 (h : kdT b n (nt r) = 8) : lcS b n nt r = pFd b n nt r (nt r + 3 + 2) := by unfold lcS; rw [if_neg (by omega), if_pos h]
theorem lcS_0 (h : ¬ (kdT b n (nt r) = 3 ∨ kdT b n (nt r) = 4 ∨ kdT b n (nt r) = 5)) (k : kdT b n (nt r) ≠ 8) : lcS b n nt r = -1 := by unfold lcS; rw [if_neg h, if_neg k]
theorem lcN_1 (h : kdT b n (nt r) = 1) : lcN b n nt r = iCnt nxT (spA b n) 9 (nt r + 3 + 2) := if_pos h
theorem lcN_2 (h : kdT b n (nt r) = 2) : lcN b n nt r = iCnt (nxE b n) (spC b n) 5 (nt r + 3 + 1) := by unfold lcN; rw [if_neg (by omega), if_pos h]
theorem lcN_3 (h : kdT b n (nt r) = 3) : lcN b n nt r = iCnt nxT (spC b n) 5 (nt r + 3 + 3) := by unfold lcN; rw [if_neg (by omega), if_neg (by omega), if_pos h]
theorem lcN_7 (h : kdT b n (nt r) = 7) : lcN b n nt r = iCnt nxB (spC b n) 4 (nt r + 3 + 2) := by unfold lcN; rw [if_neg (by omega), if_neg (by omega), if_neg (by omega), if_pos h]
theorem lcN_8 (h : kdT b n (nt r) = 8) : lcN b n nt r = iCnt (nxE b n) (spC b n) 5 (nt r + 3 + 8) := by unfold lcN; rw [if_neg (by omega), if_neg (by omega), if_neg (by omega), if_neg (by omega), if_pos h]
theorem lcP_1 (h : kdT b n (nt r) = 1) {k w : Nat} : lcP b n nt r k w = (if w = 0 then pV b n (iPos nxT (nt r + 3 + 2) k) else if w = 1 then pK b n (iPos nxT (nt r + 3 + 2) k + 1) else if w = 2 then (if pK b n (iPos nxT (nt r + 3 + 2) k + 2) = 4 then -1 else pV b n (iPos nxT (nt r + 3 + 2) k + 2)) else pV b n (iPos nxT (nt r + 3 + 2) k + 2)) := if_pos h
theorem lcP_2 (h : kdT b n (nt r) = 2) {k w : Nat} : lcP b n nt r k w = (if w = 0 then teC b n (iPos (nxE b n) (nt r + 3 + 1) k) else teN b n (iPos (nxE b n) (nt r + 3 + 1) k)) := by unfold lcP; rw [if_neg (by omega), if_pos h]
theorem lcP_3 (h : kdT b n (nt r) = 3) {k w : Nat} : lcP b n nt r k w = (if w = 0 then pV b n (iPos nxT (nt r + 3 + 3) k) else pV b n (iPos nxT (nt r + 3 + 3) k + 2)) := by unfold lcP; rw [if_neg (by omega), if_neg (by omega), if_pos h]
theorem lcP_7 (h : kdT b n (nt r) = 7) {k w : Nat} : lcP b n nt r k w = pV b n (iPos nxB (nt r + 3 + 2) k) := by unfold lcP; rw [if_neg (by omega), if_neg (by omega), if_neg (by omega), if_pos h]
theorem lcP_8 (h : kdT b n (nt r) = 8) {k w : Nat} : lcP b n nt r k w = (if w = 0 then teC b n (iPos (nxE b n) (nt r + 3 + 8) k) else teN b n (iPos (nxE b n) (nt r + 3 + 8) k)) := by unfold lcP; rw [if_neg (by omega), if_neg (by omega), if_neg (by omega), if_neg (by omega)]
theorem kd_cs (h : 0 ≤ kdT b n (nt r) ∧ kdT b n (nt r) ≤ 8) : kdT b n (nt r) = 0 ∨ kdT b n (nt r) = 1 ∨ kdT b n (nt r) = 2 ∨ kdT b n (nt r) = 3 ∨ (kdT b n (nt r) = 4 ∨ kdT b n (nt r) = 5) ∨ kdT b n (nt r) = 6 ∨ kdT b n (nt r) = 7 ∨ kdT b n (nt r) = 8 := by omega
/-- a line of the class that was read holds it -/
theorem lnC_k (hk : (f 0).toInt = kdT b n (nt r)) (hc : (f 2).toInt = cl r) (h9 : 0 ≤ kdT b n (nt r) ∧ kdT b n (nt r) ≤ 8) (h : kLn b n r nt cl (nt r + 3) f P (kdT b n (nt r))) : lnC f P (lcT b n nt cl r) := by
  have NO : ∀ {k : Int} {p : Prop}, kdT b n (nt r) ≠ k → (lcT b n nt cl r).1 0 = k → p := fun a c => absurd c a
  unfold lnC
  show ((f 0).toInt = kdT b n (nt r) ∧ (f 2).toInt = cl r ∧ (f 3).toInt = lcF b n nt r ∧ (f 4).toInt = lcS b n nt r) ∧ _
  unfold kLn at h
  rcases kd_cs h9 with e | e | e | e | e | e | e | e
  · repeat rw [if_neg (by omega)] at h
    refine ⟨⟨hk, hc, by rw [h.1]; unfold lcF; rw [if_pos e], by rw [h.2, lcS_0 (by omega) (by omega)]⟩, fun q => ?_, fun q => ?_, NO (by omega), fun q => ?_, NO (by omega), NO (by omega)⟩ <;> (have q : _ ∨ _ := q; exfalso; have e9 : (lcT b n nt cl r).1 0 = kdT b n (nt r) := rfl; omega)
  · rw [if_pos e] at h
    obtain ⟨a1, a2, a3, a4⟩ := h
    refine ⟨⟨hk, hc, by rw [a1, lcF_v (by omega)], by rw [a2, lcS_0 (by omega) (by omega)]⟩, fun _ => ?_, fun q => ?_, fun _ k hk9 => ?_, fun q => ?_, NO (by omega), NO (by omega)⟩
    · show _ = ((lcN b n nt r : Nat) : Int); rw [a3, lcN_1 e]
    · exfalso; have e9 : (lcT b n nt cl r).1 0 = kdT b n (nt r) := rfl; omega
    · have q := a4 k (by have hk9 : (k : Int) < ((lcN b n nt r : Nat) : Int) := hk9; rw [lcN_1 e] at hk9; rw [a3]; exact hk9)
      show _ = lcP b n nt r k 0 ∧ _ = lcP b n nt r k 1 ∧ _ = lcP b n nt r k 2 ∧ _ = lcP b n nt r k 3
      rw [lcP_1 e, lcP_1 e, lcP_1 e, lcP_1 e]; exact q
    · exfalso; have e9 : (lcT b n nt cl r).1 0 = kdT b n (nt r) := rfl; omega
  · rw [if_neg (by omega), if_pos e] at h
    obtain ⟨a1, a2, a3, a4⟩ := h
    refine ⟨⟨hk, hc, by rw [a1, lcF_v (by omega)], by rw [a2, lcS_0 (by omega) (by omega)]⟩, fun _ => ?_, fun q => ?_, NO (by omega), fun _ k hk9 => ?_, NO (by omega), NO (by omega)⟩
    · show _ = ((lcN b n nt r : Nat) : Int); rw [a3, lcN_2 e]
    · exfalso; have e9 : (lcT b n nt cl r).1 0 = kdT b n (nt r) := rfl; omega
    · have q := a4 k (by have hk9 : (k : Int) < ((lcN b n nt r : Nat) : Int) := hk9; rw [lcN_2 e] at hk9; rw [a3]; exact hk9)
      show _ = lcP b n nt r k 0 ∧ _ = lcP b n nt r k 1
      rw [lcP_2 e, lcP_2 e]; exact q
  · rw [if_neg (by omega), if_neg (by omega), if_pos e] at h
    obtain ⟨a1, a2, a5, a6, a3, a4⟩ := h
    refine ⟨⟨hk, hc, by rw [a1, lcF_v (by omega)], by rw [a2, lcS_1 (by omega)]⟩, fun _ => ?_, fun _ => ?_, NO (by omega), fun _ k hk9 => ?_, NO (by omega), NO (by omega)⟩
    · show _ = ((lcN b n nt r : Nat) : Int); rw [a3, lcN_3 e]
    · show _ = cl (lcF b n nt r).toNat ∧ _ = cl (lcS b n nt r).toNat
      rw [lcF_v (by omega), lcS_1 (by omega)]; exact ⟨a5, a6⟩
    · have q := a4 k (by have hk9 : (k : Int) < ((lcN b n nt r : Nat) : Int) := hk9; rw [lcN_3 e] at hk9; rw [a3]; exact hk9)
      show _ = lcP b n nt r k 0 ∧ _ = lcP b n nt r k 1
      rw [lcP_3 e, lcP_3 e]; exact q
  · rw [if_neg (by omega), if_neg (by omega), if_neg (by omega), if_pos e] at h
    refine ⟨⟨hk, hc, by rw [h.1, lcF_v (by omega)], by rw [h.2, lcS_1 (by omega)]⟩, fun q => ?_, fun q => ?_, NO (by omega), fun q => ?_, NO (by omega), NO (by omega)⟩ <;> (exfalso; have e9 : (lcT b n nt cl r).1 0 = kdT b n (nt r) := rfl; omega)
  · rw [if_neg (by omega), if_neg (by omega), if_neg (by omega), if_neg (by omega), if_pos e] at h
    refine ⟨⟨hk, hc, by rw [h.1, lcF_v (by omega)], by rw [h.2, lcS_0 (by omega) (by omega)]⟩, fun q => ?_, fun q => ?_, NO (by omega), fun q => ?_, NO (by omega), NO (by omega)⟩ <;> (exfalso; have e9 : (lcT b n nt cl r).1 0 = kdT b n (nt r) := rfl; omega)
  · rw [if_neg (by omega), if_neg (by omega), if_neg (by omega), if_neg (by omega), if_neg (by omega), if_pos e] at h
    obtain ⟨a1, a2, a3, a4, a5, a6⟩ := h
    rw [a3, ← lcN_7 e, show (((lcN b n nt r : Nat) : Int)).toNat = lcN b n nt r from rfl] at a5 a6
    refine ⟨⟨hk, hc, by rw [a1, lcF_v (by omega)], by rw [a2, lcS_0 (by omega) (by omega)]⟩, fun _ => ?_, fun q => ?_, NO (by omega), fun q => ?_, fun _ => ⟨fun k hk9 => ?_, ?_, a6⟩, NO (by omega)⟩
    · show _ = ((lcN b n nt r : Nat) : Int); rw [a3, lcN_7 e]
    · exfalso; have e9 : (lcT b n nt cl r).1 0 = kdT b n (nt r) := rfl; omega
    · exfalso; have e9 : (lcT b n nt cl r).1 0 = kdT b n (nt r) := rfl; omega
    · have q := a4 k (by have hk9 : (k : Int) < ((lcN b n nt r : Nat) : Int) := hk9; rw [lcN_7 e] at hk9; rw [a3]; exact hk9)
      show _ = lcP b n nt r k 0
      rw [lcP_7 e]; exact q
    · show _ = 16 + (pV b n (lcO b n nt r) - 16)
      have a5 : (f 11).toInt = pV b n (lcO b n nt r) := a5
      rw [a5]; omega
  · rw [if_neg (by omega), if_neg (by omega), if_neg (by omega), if_neg (by omega), if_neg (by omega), if_neg (by omega), if_pos e] at h
    obtain ⟨a1, a2, a5, a6, a7, a8, a3, a4⟩ := h
    refine ⟨⟨hk, hc, by rw [a1, lcF_v (by omega)], by rw [a2, lcS_2 e]⟩, fun _ => ?_, fun _ => ?_, NO (by omega), fun _ k hk9 => ?_, NO (by omega), fun _ => ⟨a7, a8⟩⟩
    · show _ = ((lcN b n nt r : Nat) : Int); rw [a3, lcN_8 e]
    · show _ = cl (lcF b n nt r).toNat ∧ _ = cl (lcS b n nt r).toNat
      rw [lcF_v (by omega), lcS_2 e]; exact ⟨a5, a6⟩
    · have q := a4 k (by have hk9 : (k : Int) < ((lcN b n nt r : Nat) : Int) := hk9; rw [lcN_8 e] at hk9; rw [a3]; exact hk9)
      show _ = lcP b n nt r k 0 ∧ _ = lcP b n nt r k 1
      rw [lcP_8 e, lcP_8 e]; exact q
/-- nt and cl of earlier lines alone -/
theorem kLn_cg {nt' : Nat → Nat} {cl' : Nat → Int} {h : Nat} {kd : Int} (hf : kd = 3 → cF b n r nt' cl' h = cF b n r nt cl h ∧ cF b n r nt' cl' (h + 1) = cF b n r nt cl (h + 1)) (hg : kd = 8 → cF b n r nt' cl' h = cF b n r nt cl h ∧ cF b n r nt' cl' (h + 2) = cF b n r nt cl (h + 2)) (e : ∀ u, u < r → nt' u = nt u) (w : kLn b n r nt cl h f P kd) : kLn b n r nt' cl' h f P kd := by
  unfold kLn at w ⊢
  unfold kSel kPrj kJoi kTwo kOne kGrp kRng at w ⊢
  have e1 : ∀ t, pFd b n nt' r t = pFd b n nt r t := fun t => pFd_cg e t
  simp only [e1]
  by_cases k1 : kd = 1
  · rw [if_pos k1] at w ⊢; exact w
  rw [if_neg k1] at w ⊢
  by_cases k2 : kd = 2
  · rw [if_pos k2] at w ⊢; exact w
  rw [if_neg k2] at w ⊢
  by_cases k3 : kd = 3
  · rw [if_pos k3] at w ⊢
    rw [(hf k3).1, (hf k3).2]; exact w
  rw [if_neg k3] at w ⊢
  by_cases k4 : kd = 4 ∨ kd = 5
  · rw [if_pos k4] at w ⊢; exact w
  rw [if_neg k4] at w ⊢
  by_cases k6 : kd = 6
  · rw [if_pos k6] at w ⊢; exact w
  rw [if_neg k6] at w ⊢
  by_cases k7 : kd = 7
  · rw [if_pos k7] at w ⊢; exact w
  rw [if_neg k7] at w ⊢
  by_cases k8 : kd = 8
  · rw [if_pos k8] at w ⊢
    rw [(hg k8).1, (hg k8).2]; exact w
  rw [if_neg k8] at w ⊢; exact w
end LctC
end
section
/-! a line that was read is a good line -/
section LcG
variable {b : tTx} {n : Nat} {nt nt' : Nat → Nat} {cl cl' : Nat → Int} {r : Nat} {f P : Nat → Int32}
theorem LG_b {kd : Int} (h : LG b n nt cl r) (e : kdT b n (nt r) = kd) (hk : kd ≠ 0) : (sBody b n r nt cl kd (nt r + 3)).1 = 0 ∧ (sBody b n r nt cl kd (nt r + 3)).2.2 = cl r := by
  have q := h.2
  rw [show bTk b n (nt r) = nt r + 3 from if_neg (by omega), e] at q
  exact ⟨q.1, q.2.1⟩
theorem LG_1 (h : LG b n nt cl r) (e : kdT b n (nt r) = 1) : (sSel b n r nt cl (nt r + 3)).1 = 0 ∧ (sSel b n r nt cl (nt r + 3)).2.2 = cl r := LG_b h e (by decide)
theorem LG_2 (h : LG b n nt cl r) (e : kdT b n (nt r) = 2) : (sPrj b n r nt cl (nt r + 3)).1 = 0 ∧ (sPrj b n r nt cl (nt r + 3)).2.2 = cl r := LG_b h e (by decide)
theorem LG_3 (h : LG b n nt cl r) (e : kdT b n (nt r) = 3) : (sJoi b n r nt cl (nt r + 3)).1 = 0 ∧ (sJoi b n r nt cl (nt r + 3)).2.2 = cl r := LG_b h e (by decide)
theorem LG_4 (h : LG b n nt cl r) (e : kdT b n (nt r) = 4 ∨ kdT b n (nt r) = 5) : (sTwo b n r nt cl (nt r + 3)).1 = 0 ∧ (sTwo b n r nt cl (nt r + 3)).2.2 = cl r := by
  rcases e with e | e
  · exact LG_b h e (by decide)
  · exact LG_b h e (by decide)
theorem LG_6 (h : LG b n nt cl r) (e : kdT b n (nt r) = 6) : (sRl b n r nt cl (nt r + 3)).1 = 0 ∧ (sRl b n r nt cl (nt r + 3)).2.2 = cl r := LG_b h e (by decide)
theorem LG_7 (h : LG b n nt cl r) (e : kdT b n (nt r) = 7) : (sGrp b n r nt cl (nt r + 3)).1 = 0 ∧ (sGrp b n r nt cl (nt r + 3)).2.2 = cl r := LG_b h e (by decide)
theorem LG_8 (h : LG b n nt cl r) (e : kdT b n (nt r) = 8) : (sRng b n r nt cl (nt r + 3)).1 = 0 ∧ (sRng b n r nt cl (nt r + 3)).2.2 = cl r := LG_b h e (by decide)
theorem kLn_G (hc : ∀ u, u < r → 1 ≤ cl u ∧ cl u ≤ 4) (h : LG b n nt cl r) (e : ∀ u, u < r → nt' u = nt u) (e2 : ∀ u, u < r → cl' u = cl u) (w : kLn b n r nt cl (nt r + 3) f P (kdT b n (nt r))) : kLn b n r nt' cl' (nt r + 3) f P (kdT b n (nt r)) := by
  have q : ∀ t, 0 ≤ pFd b n nt r t → cF b n r nt' cl' t = cF b n r nt cl t := fun t a => by
    have c := pFd_r (b := b) (n := n) (r := r) (nt := nt) t
    unfold cF
    rw [pFd_cg e, e2 _ (by omega)]
  refine kLn_cg (fun k => ?_) (fun k => ?_) e w
  · have g := gJoi (LG_3 h k).1
    exact ⟨q _ g.1, q _ g.2.1⟩
  · have g := gRng hc (LG_8 h k).1
    exact ⟨q _ g.1, q _ g.2.1⟩
theorem tld_T (e : kdT b n (nt r) = 3) (d : Nat) : tld (lcT b n nt cl r) d ↔ ∃ j, j < iCnt nxT (spC b n) 5 (nt r + 3 + 3) ∧ pV b n (iPos nxT (nt r + 3 + 3) j + 2) = (d : Int) := by
  unfold tld
  show (∃ k : Nat, (k : Int) < ((lcN b n nt r : Nat) : Int) ∧ lcP b n nt r k 1 = (d : Int)) ↔ _
  rw [lcN_3 e]
  constructor
  · rintro ⟨k, hk, hq⟩
    rw [lcP_3 e] at hq
    exact ⟨k, by omega, hq⟩
  · rintro ⟨k, hk, hq⟩
    exact ⟨k, by omega, by rw [lcP_3 e]; exact hq⟩
theorem jC_T {c : LC} {L : List Int} (h : ∀ d : Nat, tld c d ↔ (d : Int) ∈ L) : ∀ m : Nat, jC L m = ((jc c m : Nat) : Int)
  | 0 => rfl
  | m + 1 => by
    rw [jC, jC_T h m]
    by_cases q : tld c m
    · rw [if_pos ((h m).mp q), jc_k q]; omega
    · rw [if_neg (fun z => q ((h m).mpr z)), jc_s q]; omega
theorem lc_good (hc : ∀ u, u < r → 1 ≤ cl u ∧ cl u ≤ 4) (h1 : 1 ≤ cl r) (h : LG b n nt cl r) (hk : kdT b n (nt r) ≠ 0) : cOK (lcT b n nt cl r) r cl ∧ cZ (lcT b n nt cl r) r cl := by
  have NO : ∀ {k : Int} {p : Prop}, kdT b n (nt r) ≠ k → (lcT b n nt cl r).1 0 = k → p := fun a c => absurd c a
  have e9 : (lcT b n nt cl r).1 0 = kdT b n (nt r) := rfl
  have eF : (lcT b n nt cl r).1 2 = pFd b n nt r (nt r + 3) := lcF_v hk
  have lF := pFd_r (b := b) (n := n) (r := r) (nt := nt) (nt r + 3)
  have lS1 := pFd_r (b := b) (n := n) (r := r) (nt := nt) (nt r + 3 + 1)
  have lS2 := pFd_r (b := b) (n := n) (r := r) (nt := nt) (nt r + 3 + 2)
  have h4 := h.2.2.2
  have e4 : (lcT b n nt cl r).1 4 = ((lcN b n nt r : Nat) : Int) := rfl
  have e5 : (lcT b n nt cl r).1 5 = cl ((lcT b n nt cl r).1 2).toNat := rfl
  have e6 : (lcT b n nt cl r).1 6 = cl ((lcT b n nt cl r).1 3).toNat := rfl
  have eS : (lcT b n nt cl r).1 3 = lcS b n nt r := rfl
  have NN : ∀ {k : Int}, ((lcT b n nt cl r).1 0 = k) = (kdT b n (nt r) = k) := rfl
  rcases kd_cs h.1 with e | e | e | e | e | e | e | e
  · exact absurd e hk
  · have g := gSel (LG_1 h e).1
    have x := (LG_1 h e).2
    have s := lcS_0 (b := b) (n := n) (nt := nt) (r := r) (by omega) (by omega)
    rw [g.2.1] at x
    refine ⟨⟨⟨by omega, by omega, by omega, by omega, by omega, by omega⟩, fun q => by omega, NO (by omega), NO (by omega), NO (by omega), NO (by omega)⟩, fun _ => by rw [eF]; exact x.symm, fun q => by omega, NO (by omega), NO (by omega), NO (by omega), NO (by omega)⟩
  · have g := gPrj hc (LG_2 h e).1
    have x := (LG_2 h e).2
    have s := lcS_0 (b := b) (n := n) (nt := nt) (r := r) (by omega) (by omega)
    rw [g.2.1, ← lcN_2 e] at x
    refine ⟨⟨⟨by omega, by omega, by omega, by omega, by omega, by omega⟩, fun q => by omega, fun _ => ⟨by omega, fun k k9 => ?_⟩, NO (by omega), NO (by omega), NO (by omega)⟩, fun q => by omega, fun q => by omega, fun _ => x.symm, NO (by omega), NO (by omega), NO (by omega)⟩
    have q := g.2.2.2 k (by rw [← lcN_2 e]; omega)
    show lcP b n nt r k 0 < 4
    rw [lcP_2 e, if_pos rfl]
    unfold okE at q; omega
  · have g := gJoi (LG_3 h e).1
    have x := (LG_3 h e).2
    have s := lcS_1 (b := b) (n := n) (nt := nt) (r := r) (by omega)
    obtain ⟨g1, g2, ⟨L', g3, g4⟩, g5⟩ := g
    have ht : ∀ d : Nat, tld (lcT b n nt cl r) d ↔ (d : Int) ∈ L' := fun d => by rw [tld_T e, g4]
    have a5 := hc (pFd b n nt r (nt r + 3)).toNat (by omega)
    have a6 := hc (pFd b n nt r (nt r + 3 + 1)).toNat (by omega)
    have k5 : (lcT b n nt cl r).1 5 = cF b n r nt cl (nt r + 3) := by rw [e5, eF]; rfl
    have k6 : (lcT b n nt cl r).1 6 = cF b n r nt cl (nt r + 3 + 1) := by rw [e6, eS, s]; rfl
    rw [g3, jC_T ht, ← k5, ← k6] at x
    unfold cF at k5 k6
    have jo : jOK (lcT b n nt cl r) := ⟨by omega, by omega, by omega, by omega, by omega, fun k k9 => by
      have q := g5 k (by rw [← lcN_3 e]; omega)
      unfold okP cF at q
      show 0 ≤ lcP b n nt r k 0 ∧ lcP b n nt r k 0 < _ ∧ 0 ≤ lcP b n nt r k 1 ∧ lcP b n nt r k 1 < _
      rw [lcP_3 e, lcP_3 e, if_pos rfl, if_neg (by decide), k5, k6]; omega⟩
    refine ⟨⟨⟨by omega, by omega, by omega, by omega, by omega, by omega⟩, fun q => by omega, NO (by omega), fun _ => ⟨jo, rfl, rfl⟩, NO (by omega), NO (by omega)⟩, fun q => by omega, fun q => by omega, NO (by omega), fun _ => x.symm, NO (by omega), NO (by omega)⟩
  · have g := gTwo (LG_4 h e).1
    have x := (LG_4 h e).2
    have s := lcS_1 (b := b) (n := n) (nt := nt) (r := r) (by omega)
    obtain ⟨g1, g2, g3, g4⟩ := g
    rw [g3] at x
    refine ⟨⟨⟨by omega, by omega, by omega, by omega, by omega, by omega⟩, fun q => by omega, NO (by omega), NO (by omega), NO (by omega), NO (by omega)⟩, fun q => by omega, fun _ => ⟨by rw [eF]; exact x.symm, by rw [eS, s, eF]; exact g4⟩, NO (by omega), NO (by omega), NO (by omega), NO (by omega)⟩
  · have x := (LG_6 h e).2
    have g := sRl_h rfl (LG_6 h e).1
    have s := lcS_0 (b := b) (n := n) (nt := nt) (r := r) (by omega) (by omega)
    rw [g.2.1] at x
    have g2 := g.2.2
    refine ⟨⟨⟨by omega, by omega, by omega, by omega, by omega, by omega⟩, fun q => by omega, NO (by omega), NO (by omega), NO (by omega), NO (by omega)⟩, fun _ => by rw [eF]; exact x.symm, fun q => by omega, NO (by omega), NO (by omega), NO (by omega), NO (by omega)⟩
  · have g := gGrp (LG_7 h e).1
    have x := (LG_7 h e).2
    have s := lcS_0 (b := b) (n := n) (nt := nt) (r := r) (by omega) (by omega)
    rw [g.2.1] at x
    obtain ⟨g1, g2, g3, g4, g5⟩ := g
    rw [← lcN_7 e] at g4 g5 x g3
    have u9 : (lcT b n nt cl r).1 9 = pV b n (lcO b n nt r) - 16 := rfl
    have u10 : (lcT b n nt cl r).1 10 = if pV b n (lcO b n nt r) = 16 then 0 else pV b n (lcO b n nt r + 1) := rfl
    have g4 : 16 ≤ pV b n (lcO b n nt r) ∧ pV b n (lcO b n nt r) ≤ 19 := g4
    have g5 : pV b n (lcO b n nt r) ≠ 16 → 0 ≤ pV b n (lcO b n nt r + 1) ∧ pV b n (lcO b n nt r + 1) ≤ 3 := g5
    have w10 : 0 ≤ (lcT b n nt cl r).1 10 ∧ (lcT b n nt cl r).1 10 ≤ 3 := by
      rw [u10]
      by_cases z : pV b n (lcO b n nt r) = 16
      · rw [if_pos z]; decide
      · rw [if_neg z]; exact g5 z
    refine ⟨⟨⟨by omega, by omega, by omega, by omega, by omega, by omega⟩, fun q => by omega, NO (by omega), NO (by omega), fun _ => ⟨⟨by omega, by omega⟩, ⟨by omega, by omega⟩, w10.1, w10.2⟩, NO (by omega)⟩, fun q => by omega, fun q => by omega, NO (by omega), NO (by omega), fun _ => by omega, NO (by omega)⟩
  · have g := gRng hc (LG_8 h e).1
    have x := (LG_8 h e).2
    have s := lcS_2 (b := b) (n := n) (nt := nt) (r := r) e
    obtain ⟨g1, g2, g3, g4, g5⟩ := g
    have a5 := hc (pFd b n nt r (nt r + 3)).toNat (by omega)
    have a6 := hc (pFd b n nt r (nt r + 3 + 2)).toNat (by omega)
    have k5 : (lcT b n nt cl r).1 5 = cF b n r nt cl (nt r + 3) := by rw [e5, eF]; rfl
    have k6 : (lcT b n nt cl r).1 6 = cF b n r nt cl (nt r + 3 + 2) := by rw [e6, eS, s]; rfl
    rw [g3] at x
    rw [← lcN_8 e, ← e4, ← k5, ← k6] at x
    rw [← k5, ← k6] at g4 g5
    have rx : ¬ ((lcT b n nt cl r).1 5 + (lcT b n nt cl r).1 6 ≤ 4 ∧ (lcT b n nt cl r).1 4 = (lcT b n nt cl r).1 5) → False := fun z => by
      have := rX_y z; omega
    have rx := Classical.not_not.mp rx
    rw [rX_e rx] at x
    unfold cF at k5 k6
    unfold okP at g4
    have ro : rOK (lcT b n nt cl r) := ⟨by omega, by omega, rx.1, rx.2, g4.1, g4.2.1, by have q := g4.2.2.1; exact q, g4.2.2.2.1, fun k k9 => by
      have q := g5 k (by rw [← lcN_8 e]; omega)
      unfold okE at q
      show -1 ≤ lcP b n nt r k 0 ∧ lcP b n nt r k 0 < _
      rw [lcP_8 e, if_pos rfl]; omega⟩
    refine ⟨⟨⟨by omega, by omega, by omega, by omega, by omega, by omega⟩, fun q => by omega, NO (by omega), NO (by omega), NO (by omega), fun _ => ⟨ro, rfl, rfl⟩⟩, fun q => by omega, fun q => by omega, NO (by omega), NO (by omega), NO (by omega), fun _ => x.symm⟩
end LcG
end
section
/-! what the reference's row of a line holds, by tokens -/
section Row
variable (b : tTx) (n nr : Nat) (nt : Nat → Nat) (cl : Nat → Int) (h : Nat) (T : Nat → Int32) (M : Int)
def rTest (T : Nat → Int32) (j t : Nat) : Prop := mP T M (j : Int) 0 = pV b n t ∧ mP T M (j : Int) 1 = (if pK b n (t + 1) = 61 then 0 else if pK b n (t + 1) = 60 then 1 else 2) ∧ mP T M (j : Int) 2 = (if pK b n (t + 2) = 4 then 0 else 1) ∧ mP T M (j : Int) 3 = pV b n (t + 2)
def rTerm (fm : Int) (T : Nat → Int32) (j t : Nat) : Prop := mP T M (fm + (j : Int)) 0 = teC b n t ∧ mP T M (fm + (j : Int)) 1 = teN b n t
def rPair (T : Nat → Int32) (j t : Nat) : Prop := mP T M (j : Int) 0 = pV b n t ∧ mP T M (j : Int) 1 = pV b n (t + 2)
def rBy (T : Nat → Int32) (j t : Nat) : Prop := mP T M (j : Int) 0 = pV b n t
/-- the columns that the pairs tell -/
def rGn (x : Int) (F h : Nat) : Prop := ∀ d : Nat, d < 4 → (mBit x (d : Int) = 1 ↔ ∃ j, j < iCnt nxT (spC b n) F h ∧ pV b n (iPos nxT h j + 2) = (d : Int))
def rFS (a c : Int) : Prop := tI T (40 * M + 2) = a ∧ tI T (40 * M + 3) = c
def mSel : Prop := rFS T M (pFd b n nt nr h) (-1) ∧ tI T (40 * M + 4) = ((iCnt nxT (spA b n) 9 (h + 2) : Nat) : Int) ∧ qAll (rTest b n M) nxT T (h + 2) ((iCnt nxT (spA b n) 9 (h + 2) : Nat) : Int)
def mPrj : Prop := rFS T M (pFd b n nt nr h) (-1) ∧ tI T (40 * M + 4) = ((iCnt (nxE b n) (spC b n) 5 (h + 1) : Nat) : Int) ∧ qAll (rTerm b n M 0) (nxE b n) T (h + 1) ((iCnt (nxE b n) (spC b n) 5 (h + 1) : Nat) : Int)
def mJoi : Prop := rFS T M (pFd b n nt nr h) (pFd b n nt nr (h + 1)) ∧ tI T (40 * M + 4) = ((iCnt nxT (spC b n) 5 (h + 3) : Nat) : Int) ∧ qAll (rPair b n M) nxT T (h + 3) ((iCnt nxT (spC b n) 5 (h + 3) : Nat) : Int) ∧ rGn b n (tI T (40 * M + 5)) 5 (h + 3)
def mTwo : Prop := rFS T M (pFd b n nt nr h) (pFd b n nt nr (h + 1))
def mDis : Prop := rFS T M (pFd b n nt nr h) (-1)
def mGrp : Prop := rFS T M (pFd b n nt nr h) (-1) ∧ tI T (40 * M + 4) = ((iCnt nxB (spC b n) 4 (h + 2) : Nat) : Int) ∧ qAll (rBy b n M) nxB T (h + 2) ((iCnt nxB (spC b n) 4 (h + 2) : Nat) : Int) ∧
  mP T M ((iCnt nxB (spC b n) 4 (h + 2) : Nat) : Int) 1 = pV b n (nxB (iPos nxB (h + 2) (iCnt nxB (spC b n) 4 (h + 2) - 1))) - 16 ∧ mP T M ((iCnt nxB (spC b n) 4 (h + 2) : Nat) : Int) 0 = (if pV b n (nxB (iPos nxB (h + 2) (iCnt nxB (spC b n) 4 (h + 2) - 1))) = 16 then 0 else pV b n (nxB (iPos nxB (h + 2) (iCnt nxB (spC b n) 4 (h + 2) - 1)) + 1))
def mRng : Prop := rFS T M (pFd b n nt nr h) (pFd b n nt nr (h + 2)) ∧ tI T (40 * M + 4) = ((iCnt (nxE b n) (spC b n) 5 (h + 8) : Nat) : Int) ∧ qAll (rTerm b n M 1) (nxE b n) T (h + 8) ((iCnt (nxE b n) (spC b n) 5 (h + 8) : Nat) : Int) ∧ mP T M 0 0 = pV b n (h + 4) ∧ mP T M 0 1 = pV b n (h + 6)
def mLn (kd : Int) : Prop :=
  if kd = 1 then mSel b n nr nt h T M else if kd = 2 then mPrj b n nr nt h T M else if kd = 3 then mJoi b n nr nt h T M else if kd = 4 ∨ kd = 5 then mTwo b n nr nt h T M
  else if kd = 6 then mDis b n nr nt h T M else if kd = 7 then mGrp b n nr nt h T M else if kd = 8 then mRng b n nr nt h T M else rFS T M (-1) (-1)
end Row
section RowC
variable {b : tTx} {n nr : Nat} {nt nt' : Nat → Nat} {cl : Nat → Int} {h r F hc : Nat} {T T' : Nat → Int32} {M k fm : Int} {nx : Nat → Nat} {sp : Nat → Bool} {q : (Nat → Int32) → Nat → Nat → Prop}
/-- q speaks of the part that is the j-th from fm on -/
def rLoc (q : (Nat → Int32) → Nat → Nat → Prop) (M fm : Int) : Prop := ∀ (T T' : Nat → Int32) (j t : Nat), (∀ w : Int, 0 ≤ w → w ≤ 3 → mP T' M (fm + (j : Int)) w = mP T M (fm + (j : Int)) w) → q T j t → q T' j t
theorem rTest_l : rLoc (rTest b n M) M 0 := fun T T' j t e w => by
  unfold rTest at w ⊢
  have e0 := e 0 (by decide) (by decide); have e1 := e 1 (by decide) (by decide); have e2 := e 2 (by decide) (by decide); have e3 := e 3 (by decide) (by decide)
  rw [Int.zero_add] at e0 e1 e2 e3
  rw [e0, e1, e2, e3]; exact w
theorem rTerm_l : rLoc (rTerm b n M fm) M fm := fun T T' j t e w => by
  unfold rTerm at w ⊢
  rw [e 0 (by decide) (by decide), e 1 (by decide) (by decide)]; exact w
theorem rPair_l : rLoc (rPair b n M) M 0 := fun T T' j t e w => by
  unfold rPair at w ⊢
  have e0 := e 0 (by decide) (by decide); have e1 := e 1 (by decide) (by decide)
  rw [Int.zero_add] at e0 e1
  rw [e0, e1]; exact w
theorem rBy_l : rLoc (rBy b n M) M 0 := fun T T' j t e w => by
  unfold rBy at w ⊢
  have e0 := e 0 (by decide) (by decide)
  rw [Int.zero_add] at e0
  rw [e0]; exact w
theorem rAll_c (hq : rLoc q M fm) (a : qAll q nx T h k) (e : ∀ j : Nat, (j : Int) < k → ∀ w : Int, 0 ≤ w → w ≤ 3 → mP T' M (fm + (j : Int)) w = mP T M (fm + (j : Int)) w) : qAll q nx T' h k := fun j hj => hq T T' j _ (e j hj) (a j hj)
theorem rAll_s {a1 b1 c1 d1 p : Int} (hq : rLoc q M fm) (a : qAll q nx T h k) (hl : iL nx sp F h k hc) (hM : 0 ≤ M) (hf : 0 ≤ fm) (hs : sP T T' M p a1 b1 c1 d1) (hp : p = fm + k) (e : q T' k.toNat hc) : qAll q nx T' h (k + 1) := fun j hj => by
  have h0 := hl.1
  by_cases c : (j : Int) < k
  · refine hq T T' j _ (fun w w0 w3 => hs.1 _ (by omega) (by omega)) (a j c)
  · have : j = k.toNat := by omega
    subst this
    rw [← iL_p hl]; exact e
/-- the header is written, the bits of a join -/
theorem rAll_h {kd cl0 one oth ps : Int} (hq : rLoc q M fm) (hM : 0 ≤ M) (hf : 0 ≤ fm) (hp : hP T T' M kd cl0 one oth ps) (a : qAll q nx T h k) : qAll q nx T' h k := rAll_c hq a (fun j hj w w0 w3 => hp.1 _ (by omega) (by omega))
theorem rAll_5 {v : Int} (hq : rLoc q M fm) (hM : 0 ≤ M) (hf : 0 ≤ fm) (hp : s1 T T' (40 * M + 5) v) (a : qAll q nx T h k) : qAll q nx T' h k := rAll_c hq a (fun j hj w w0 w3 => hp.1 _ (by omega) (by omega))
theorem rAll_p {a1 b1 c1 d1 p : Int} (hq : rLoc q M fm) (hM : 0 ≤ M) (hf : 0 ≤ fm) (hs : sP T T' M p a1 b1 c1 d1) (hp : p < fm ∨ fm + k ≤ p) (a : qAll q nx T h k) : qAll q nx T' h k := rAll_c hq a (fun j hj w w0 w3 => hs.1 _ (by omega) (by omega))
/-- one row's cells alone -/
theorem mLn_c {kd : Int} (hM : 0 ≤ M) (e : ∀ z : Int, 40 * M ≤ z → z < 40 * M + 40 → tI T' z = tI T z) (c9 : kd = 1 → iCnt nxT (spA b n) 9 (h + 2) ≤ 8) (c5 : kd = 2 → iCnt (nxE b n) (spC b n) 5 (h + 1) ≤ 4) (c3 : kd = 3 → iCnt nxT (spC b n) 5 (h + 3) ≤ 5) (c4 : kd = 7 → iCnt nxB (spC b n) 4 (h + 2) ≤ 3) (c8 : kd = 8 → iCnt (nxE b n) (spC b n) 5 (h + 8) ≤ 4) (w : mLn b n nr nt h T M kd) : mLn b n nr nt h T' M kd := by
  have ep : ∀ k w : Int, 0 ≤ k → k ≤ 7 → 0 ≤ w → w ≤ 3 → mP T' M k w = mP T M k w := fun k w _ _ _ _ => e _ (by omega) (by omega)
  unfold mLn at w ⊢
  by_cases k1 : kd = 1
  · rw [if_pos k1] at w ⊢
    unfold mSel rFS at w ⊢
    have := c9 k1
    rw [e _ (by omega) (by omega), e _ (by omega) (by omega), e _ (by omega) (by omega)]
    exact ⟨w.1, w.2.1, rAll_c rTest_l w.2.2 (fun j hj x x0 x3 => ep _ _ (by omega) (by omega) x0 x3)⟩
  rw [if_neg k1] at w ⊢
  by_cases k2 : kd = 2
  · rw [if_pos k2] at w ⊢
    unfold mPrj rFS at w ⊢
    have := c5 k2
    rw [e _ (by omega) (by omega), e _ (by omega) (by omega), e _ (by omega) (by omega)]
    exact ⟨w.1, w.2.1, rAll_c rTerm_l w.2.2 (fun j hj x x0 x3 => ep _ _ (by omega) (by omega) x0 x3)⟩
  rw [if_neg k2] at w ⊢
  by_cases k3 : kd = 3
  · rw [if_pos k3] at w ⊢
    unfold mJoi rFS at w ⊢
    have := c3 k3
    rw [e _ (by omega) (by omega), e _ (by omega) (by omega), e _ (by omega) (by omega), e (40 * M + 5) (by omega) (by omega)]
    exact ⟨w.1, w.2.1, rAll_c rPair_l w.2.2.1 (fun j hj x x0 x3 => ep _ _ (by omega) (by omega) x0 x3), w.2.2.2⟩
  rw [if_neg k3] at w ⊢
  by_cases k4 : kd = 4 ∨ kd = 5
  · rw [if_pos k4] at w ⊢
    unfold mTwo rFS at w ⊢
    rw [e _ (by omega) (by omega), e _ (by omega) (by omega)]; exact w
  rw [if_neg k4] at w ⊢
  by_cases k6 : kd = 6
  · rw [if_pos k6] at w ⊢
    unfold mDis rFS at w ⊢
    rw [e _ (by omega) (by omega), e _ (by omega) (by omega)]; exact w
  rw [if_neg k6] at w ⊢
  by_cases k7 : kd = 7
  · rw [if_pos k7] at w ⊢
    unfold mGrp rFS at w ⊢
    have := c4 k7
    rw [e _ (by omega) (by omega), e _ (by omega) (by omega), e _ (by omega) (by omega), ep _ 0 (by omega) (by omega) (by decide) (by decide), ep _ 1 (by omega) (by omega) (by decide) (by decide)]
    exact ⟨w.1, w.2.1, rAll_c rBy_l w.2.2.1 (fun j hj x x0 x3 => ep _ _ (by omega) (by omega) x0 x3), w.2.2.2⟩
  rw [if_neg k7] at w ⊢
  by_cases k8 : kd = 8
  · rw [if_pos k8] at w ⊢
    unfold mRng rFS at w ⊢
    have := c8 k8
    rw [e _ (by omega) (by omega), e _ (by omega) (by omega), e _ (by omega) (by omega), ep 0 0 (by omega) (by omega) (by decide) (by decide), ep 0 1 (by omega) (by omega) (by decide) (by decide)]
    exact ⟨w.1, w.2.1, rAll_c rTerm_l w.2.2.1 (fun j hj x x0 x3 => ep _ _ (by omega) (by omega) x0 x3), w.2.2.2⟩
  rw [if_neg k8] at w ⊢
  unfold rFS at w ⊢
  rw [e _ (by omega) (by omega), e _ (by omega) (by omega)]; exact w
theorem mLn_cg {kd : Int} (e : ∀ u, u < nr → nt' u = nt u) (w : mLn b n nr nt h T M kd) : mLn b n nr nt' h T M kd := by
  unfold mLn at w ⊢
  unfold mSel mPrj mJoi mTwo mDis mGrp mRng at w ⊢
  have e1 : ∀ t, pFd b n nt' nr t = pFd b n nt nr t := fun t => pFd_cg e t
  simp only [e1]
  exact w
theorem sTests_n : ∀ (F : Nat) (k c : Int) (h : Nat), 0 ≤ k → (sTests b n c F k h).1 = 0 → k + ((iCnt nxT (spA b n) F h : Nat) : Int) ≤ 8 ∧ 1 ≤ iCnt nxT (spA b n) F h
  | 0, _, _, _, _, e => (pr_no e (by decide)).elim
  | F + 1, k, c, h, hk, e => by
    rw [sTests] at e
    by_cases q : (sTest b n c k h).1 = 0
    · have en := sTest_h rfl q
      have h8 : k < 8 := by
        unfold sTest at q
        by_cases q0 : pCf b n c h = 0
        · rw [if_pos q0] at q
          by_cases q1 : 8 ≤ k
          · rw [if_pos q1] at q; exact (pr_no q (by decide)).elim
          · omega
        · rw [if_neg q0] at q; exact absurd q q0
      rw [thn_y (f := _) rfl q rfl, en] at e
      by_cases w : pK b n (nxT h) = 3 ∧ pV b n (nxT h) = 11
      · rw [if_pos w] at e
        have r := sTests_n F (k + 1) c (nxT h + 1) (by omega) e
        rw [show iCnt nxT (spA b n) (F + 1) h = iCnt nxT (spA b n) F (nxT h + 1) + 1 by rw [iCnt, if_pos (spA_y w)]]; omega
      · rw [show iCnt nxT (spA b n) (F + 1) h = 1 by rw [iCnt, if_neg (spA_n w)]]; omega
    · rw [thn_x rfl q] at e; exact absurd e q
theorem iCnt_le : ∀ (F h : Nat), iCnt nx sp F h ≤ F
  | 0, _ => Nat.le_refl _
  | F + 1, h => by
    rw [iCnt]
    by_cases q : sp (nx h) = true
    · rw [if_pos q]; have := iCnt_le F (nx h + 1); omega
    · rw [if_neg q]; omega
/-- counts of a line that was read -/
theorem LG_n (hc : ∀ u, u < r → 1 ≤ cl u ∧ cl u ≤ 4) (g : LG b n nt cl r) : (kdT b n (nt r) = 1 → iCnt nxT (spA b n) 9 (nt r + 3 + 2) ≤ 8) ∧ (kdT b n (nt r) = 2 → iCnt (nxE b n) (spC b n) 5 (nt r + 3 + 1) ≤ 4) ∧ (kdT b n (nt r) = 3 → iCnt nxT (spC b n) 5 (nt r + 3 + 3) ≤ 5) ∧ (kdT b n (nt r) = 7 → iCnt nxB (spC b n) 4 (nt r + 3 + 2) ≤ 3) ∧ (kdT b n (nt r) = 8 → iCnt (nxE b n) (spC b n) 5 (nt r + 3 + 8) ≤ 4) := by
  refine ⟨fun e => ?_, fun e => (gPrj hc (LG_2 g e).1).2.2.1.2, fun _ => iCnt_le _ _, fun e => (gGrp (LG_7 g e).1).2.2.1.2, fun e => ?_⟩
  · have q := (LG_1 g e).1
    unfold sSel at q
    obtain ⟨a1, a2⟩ := thn_i q
    rw [a2] at q
    obtain ⟨b1, b2⟩ := thn_i q
    rw [b2] at q
    have h1 := sRl_h rfl a1
    have h2 := sTw_h rfl b1
    rw [h1.1] at h2
    rw [h1.1, h2] at q
    have := (sTests_n _ _ _ _ (by decide) q).1
    have e0 : nt r + 3 + 1 + 1 = nt r + 3 + 2 := rfl
    rw [e0] at this; omega
  · have q := (LG_8 g e)
    have g8 := gRng hc q.1
    rw [g8.2.2.1] at q
    have g4 := g.2.2.2
    apply Classical.byContradiction; intro z
    have := rX_y (c := cF b n r nt cl (nt r + 3)) (d := cF b n r nt cl (nt r + 3 + 2)) (k := ((iCnt (nxE b n) (spC b n) 5 (nt r + 3 + 8) : Nat) : Int)) (fun w => by
      have a5 := hc (pFd b n nt r (nt r + 3)).toNat (by have := pFd_r (b := b) (n := n) (r := r) (nt := nt) (nt r + 3); have := g8.1; omega)
      have w2 := w.2; unfold cF at w2; omega)
    omega
/-- the reference's row of a line that was read -/
theorem lnM_k (hc : ∀ u, u < r → 1 ≤ cl u ∧ cl u ≤ 4) (h1 : 1 ≤ cl r) (hx : ∀ u, u < r → tI T (40 * (u : Int) + 1) = cl u) (hk : tI T (40 * (r : Int)) = kdT b n (nt r)) (h2 : tI T (40 * (r : Int) + 1) = cl r) (g : LG b n nt cl r) (h : mLn b n r nt (nt r + 3) T (r : Int) (kdT b n (nt r))) (hk0 : kdT b n (nt r) ≠ 0) : lnM T (r : Int) (lcT b n nt cl r) := by
  have NO : ∀ {k : Int} {p : Prop}, kdT b n (nt r) ≠ k → (lcT b n nt cl r).1 0 = k → p := fun a c => absurd c a
  have gd := lc_good hc h1 g hk0
  have e4 : (lcT b n nt cl r).1 4 = ((lcN b n nt r : Nat) : Int) := rfl
  have e9 : (lcT b n nt cl r).1 0 = kdT b n (nt r) := rfl
  have eF : (lcT b n nt cl r).1 2 = lcF b n nt r := rfl
  have eS : (lcT b n nt cl r).1 3 = lcS b n nt r := rfl
  have c5 : ∀ a : Int, 0 ≤ a → a < (r : Int) → tI T (40 * a + 1) = cl a.toNat := fun a a0 a1 => by
    have := hx a.toNat (by omega)
    rw [Int.toNat_of_nonneg a0] at this; exact this
  unfold lnM
  unfold mLn at h
  rcases kd_cs g.1 with e | e | e | e | e | e | e | e
  · exact absurd e hk0
  · rw [if_pos e] at h
    obtain ⟨⟨a1, a2⟩, a3, a4⟩ := h
    refine ⟨⟨hk, h2, by rw [a1, eF, lcF_v hk0], by rw [a2, eS, lcS_0 (by omega) (by omega)]⟩, fun _ => ⟨by rw [a3, e4, lcN_1 e], fun k k9 => ?_⟩, NO (by omega), NO (by omega), NO (by omega), NO (by omega)⟩
    rw [e4, lcN_1 e] at k9
    have q := a4 k k9
    have o := (gSel (LG_1 g e).1).2.2 k (by omega)
    unfold rTest at q
    unfold okT at o
    show _ = lcP b n nt r k 0 ∧ ((_ ∧ lcP b n nt r k 1 = 61) ∨ (_ ∧ lcP b n nt r k 1 = 60) ∨ (_ ∧ _ ∧ lcP b n nt r k 1 ≠ 61 ∧ lcP b n nt r k 1 ≠ 60)) ∧ ((_ ∧ lcP b n nt r k 2 ≠ -1 ∧ _ = lcP b n nt r k 2) ∨ (_ ∧ lcP b n nt r k 2 = -1 ∧ _ = lcP b n nt r k 3))
    rw [show lcP b n nt r k 0 = pV b n (iPos nxT (nt r + 3 + 2) k) from lcP_1 e, show lcP b n nt r k 1 = pK b n (iPos nxT (nt r + 3 + 2) k + 1) from lcP_1 e, show lcP b n nt r k 2 = (if pK b n (iPos nxT (nt r + 3 + 2) k + 2) = 4 then -1 else pV b n (iPos nxT (nt r + 3 + 2) k + 2)) from lcP_1 e, show lcP b n nt r k 3 = pV b n (iPos nxT (nt r + 3 + 2) k + 2) from lcP_1 e]
    obtain ⟨q0, q1, q2, q3⟩ := q
    refine ⟨q0, ?_, ?_⟩
    · rcases o.1 with w | w | w
      · rw [if_pos w] at q1; exact Or.inl ⟨q1, w⟩
      · rw [if_neg (by omega), if_pos w] at q1; exact Or.inr (Or.inl ⟨q1, w⟩)
      · rw [if_neg (by omega), if_neg (by omega)] at q1; exact Or.inr (Or.inr ⟨by omega, by omega, by omega, by omega⟩)
    · by_cases w : pK b n (iPos nxT (nt r + 3 + 2) k + 2) = 4
      · rw [if_pos w] at q2 ⊢; exact Or.inr ⟨by omega, rfl, q3⟩
      · rw [if_neg w] at q2 ⊢; exact Or.inl ⟨q2, by have := o.2.resolve_left w; omega, q3⟩
  · rw [if_neg (by omega), if_pos e] at h
    obtain ⟨⟨a1, a2⟩, a3, a4⟩ := h
    refine ⟨⟨hk, h2, by rw [a1, eF, lcF_v hk0], by rw [a2, eS, lcS_0 (by omega) (by omega)]⟩, NO (by omega), fun _ => ⟨fun k k9 => ?_, by rw [a3, e4, lcN_2 e]⟩, NO (by omega), NO (by omega), NO (by omega)⟩
    rw [e4, lcN_2 e] at k9
    have q := a4 k k9
    have o := (gPrj hc (LG_2 g e).1).2.2.2 k (by omega)
    unfold rTerm at q
    unfold okE at o
    show _ = lcP b n nt r k 0 ∧ _ = lcP b n nt r k 1 ∧ (0 ≤ lcP b n nt r k 0 ∨ lcP b n nt r k 0 = -1)
    rw [lcP_2 e, lcP_2 e, if_pos rfl, if_neg (by decide)]
    exact ⟨q.1, q.2, o.1.symm⟩
  · rw [if_neg (by omega), if_neg (by omega), if_pos e] at h
    obtain ⟨⟨a1, a2⟩, a3, a4, a5⟩ := h
    have gj := gJoi (LG_3 g e).1
    have lF := pFd_r (b := b) (n := n) (r := r) (nt := nt) (nt r + 3)
    have lS := pFd_r (b := b) (n := n) (r := r) (nt := nt) (nt r + 3 + 1)
    have e5 : (lcT b n nt cl r).1 5 = cl (lcF b n nt r).toNat := rfl
    have e6 : (lcT b n nt cl r).1 6 = cl (lcS b n nt r).toNat := rfl
    have d6 : (lcT b n nt cl r).1 6 ≤ 4 := by rw [e6, lcS_1 (by omega)]; have := hc (pFd b n nt r (nt r + 3 + 1)).toNat (by have := gj.2.1; omega); omega
    refine ⟨⟨hk, h2, by rw [a1, eF, lcF_v hk0], by rw [a2, eS, lcS_1 (by omega)]⟩, NO (by omega), NO (by omega), fun _ => ⟨by rw [a3, e4, lcN_3 e], by rw [a1, c5 _ gj.1 lF, e5, lcF_v hk0], by rw [a2, c5 _ gj.2.1 lS, e6, lcS_1 (by omega)], fun k k9 => ?_, fun d hd => ?_⟩, NO (by omega), NO (by omega)⟩
    · rw [e4, lcN_3 e] at k9
      have q := a4 k k9
      unfold rPair at q
      show _ = lcP b n nt r k 0 ∧ _ = lcP b n nt r k 1
      rw [lcP_3 e, lcP_3 e, if_pos rfl, if_neg (by decide)]; exact q
    · rw [tld_T e]; exact a5 d (by omega)
  · rw [if_neg (by omega), if_neg (by omega), if_neg (by omega), if_pos e] at h
    exact ⟨⟨hk, h2, by rw [h.1, eF, lcF_v hk0], by rw [h.2, eS, lcS_1 (by omega)]⟩, NO (by omega), NO (by omega), NO (by omega), NO (by omega), NO (by omega)⟩
  · rw [if_neg (by omega), if_neg (by omega), if_neg (by omega), if_neg (by omega), if_pos e] at h
    exact ⟨⟨hk, h2, by rw [h.1, eF, lcF_v hk0], by rw [h.2, eS, lcS_0 (by omega) (by omega)]⟩, NO (by omega), NO (by omega), NO (by omega), NO (by omega), NO (by omega)⟩
  · rw [if_neg (by omega), if_neg (by omega), if_neg (by omega), if_neg (by omega), if_neg (by omega), if_pos e] at h
    obtain ⟨⟨a1, a2⟩, a3, a4, a5, a6⟩ := h
    have k7 := gd.1.2.2.2.2.1 e
    refine ⟨⟨hk, h2, by rw [a1, eF, lcF_v hk0], by rw [a2, eS, lcS_0 (by omega) (by omega)]⟩, NO (by omega), NO (by omega), NO (by omega), fun _ => ⟨⟨by rw [a3, e4, lcN_7 e], by omega, fun k k9 => ?_⟩, ⟨?_, ?_⟩, k7.2.1.1, k7.2.1.2, k7.2.2.1, k7.2.2.2, k7.1.1, k7.1.2⟩, NO (by omega)⟩
    · rw [e4, lcN_7 e] at k9
      have q := a4 k k9
      unfold rBy at q
      show _ = lcP b n nt r k 0
      rw [lcP_7 e]; exact q
    · rw [e4, lcN_7 e, a5]
      show _ = pV b n (lcO b n nt r) - 16
      unfold lcO; rw [lcN_7 e]
    · rw [e4, lcN_7 e, a6]
      show _ = if pV b n (lcO b n nt r) = 16 then 0 else pV b n (lcO b n nt r + 1)
      unfold lcO; rw [lcN_7 e]
  · rw [if_neg (by omega), if_neg (by omega), if_neg (by omega), if_neg (by omega), if_neg (by omega), if_neg (by omega), if_pos e] at h
    obtain ⟨⟨a1, a2⟩, a3, a4, a5, a6⟩ := h
    have gj := gRng hc (LG_8 g e).1
    have lF := pFd_r (b := b) (n := n) (r := r) (nt := nt) (nt r + 3)
    have lS := pFd_r (b := b) (n := n) (r := r) (nt := nt) (nt r + 3 + 2)
    have e5 : (lcT b n nt cl r).1 5 = cl (lcF b n nt r).toNat := rfl
    have e6 : (lcT b n nt cl r).1 6 = cl (lcS b n nt r).toNat := rfl
    refine ⟨⟨hk, h2, by rw [a1, eF, lcF_v hk0], by rw [a2, eS, lcS_2 e]⟩, NO (by omega), NO (by omega), NO (by omega), NO (by omega), fun _ => ⟨fun k k9 => ?_, by rw [a3, e4, lcN_8 e], by rw [a1, c5 _ gj.1 lF, e5, lcF_v hk0], by rw [a2, c5 _ gj.2.1 lS, e6, lcS_2 e], a5, a6⟩⟩
    rw [e4, lcN_8 e] at k9
    have q := a4 k k9
    have o := gj.2.2.2.2 k (by omega)
    unfold rTerm at q
    unfold okE at o
    show _ = lcP b n nt r k 0 ∧ _ = lcP b n nt r k 1 ∧ (0 ≤ lcP b n nt r k 0 ∨ lcP b n nt r k 0 = -1)
    rw [lcP_8 e, lcP_8 e, if_pos rfl, if_neg (by decide)]
    exact ⟨q.1, q.2, o.1.symm⟩
end RowC
end
section
/-! helpers of the reference's reading with what it leaves in the row -/
def frM (M : Int) (T T' : Nat → Int32) : Prop := ∀ z : Int, 0 ≤ z → z < 40 * M → tI T' z = tI T z
def pSv (z K : Int) : Prop := (z = 0 ∧ K = 61) ∨ (z = 1 ∧ K = 60) ∨ (z = 2 ∧ K = 62) ∨ z = -1
section FrM
variable {b : tTx} {n h F hc : Nat} {M k v z : Int} {T T' T'' : Nat → Int32} {L : List Int}
theorem frM_r : frM M T T := fun _ _ _ => rfl
theorem frM_t (h : frM M T T') (k : frM M T' T'') : frM M T T'' := fun z a c => (k z a c).trans (h z a c)
theorem frM_p {p a b c d : Int} (h : frM M T T') (hp : 0 ≤ p) (s : sP T' T'' M p a b c d) : frM M T T'' := fun z a c => (s.1 z a (by omega)).trans (h z a c)
theorem frM_h {kd cl one oth ps : Int} (h : frM M T T') (s : hP T' T'' M kd cl one oth ps) : frM M T T'' := fun z a c => (s.1 z a (by omega)).trans (h z a c)
theorem frM_5 {v : Int} (h : frM M T T') (s : s1 T' T'' (40 * M + 5) v) : frM M T T'' := fun z a c => (s.1 z a (by omega)).trans (h z a c)
theorem frM_f {fm : Int} (hf : 0 ≤ fm) (h : frM M T T') (s : trF T' T'' M fm) : frM M T T'' := fun z a c => (s z a (by omega)).trans (h z a c)
theorem hP_m {kd cl one oth ps w : Int} (hM : 0 ≤ M) (hk : 0 ≤ k) (hw : 0 ≤ w) (s : hP T T' M kd cl one oth ps) : mP T' M k w = mP T M k w := s.1 _ (by omega) (by omega)
theorem trF_m {w : Int} (hM : 0 ≤ M) (hw : 0 ≤ w ∧ w ≤ 3) (s : trF T T' M 1) : mP T' M 0 w = mP T M 0 w := s _ (by omega) (by omega)
theorem rTest_mk {c s ic v : Int} (hk : 0 ≤ k) (p : sP T T' M k c s ic v) (hc0 : c = pV b n hc) (hs : pSv s (pK b n (hc + 1))) (h0 : 0 ≤ s) (hi : (ic = 1 ∧ pK b n (hc + 2) ≠ 4) ∨ (ic = 0 ∧ pK b n (hc + 2) = 4)) (hv : v = pV b n (hc + 2)) : rTest b n M T' k.toNat hc := by
  unfold rTest
  rw [Int.toNat_of_nonneg hk, p.2.1, p.2.2.1, p.2.2.2.1, p.2.2.2.2]
  refine ⟨hc0, ?_, ?_, hv⟩
  · rcases hs with q | q | q | q
    · rw [if_pos q.2]; exact q.1
    · rw [if_neg (by omega), if_pos q.2]; exact q.1
    · rw [if_neg (by omega), if_neg (by omega)]; exact q.1
    · omega
  · rcases hi with q | q
    · rw [if_neg q.2]; exact q.1
    · rw [if_pos q.2]; exact q.1
theorem rTerm_mk {fm c y u w p : Int} (hk : 0 ≤ k) (s : sP T T' M p c y u w) (hp : p = fm + k) (h0 : c = teC b n hc) (h1 : y = teN b n hc) : rTerm b n M fm T' k.toNat hc := by
  unfold rTerm
  subst hp
  rw [Int.toNat_of_nonneg hk, s.2.1, s.2.2.1]; exact ⟨h0, h1⟩
theorem te_n (h : pK b n hc = 4) : teC b n hc = -1 ∧ teN b n hc = pV b n hc := ⟨if_pos h, if_pos h⟩
theorem te_c (h : pK b n hc ≠ 4) (k : ¬ (pK b n (hc + 1) = 43 ∨ pK b n (hc + 1) = 45)) : teC b n hc = pV b n hc ∧ teN b n hc = 0 := ⟨if_neg h, by unfold teN; rw [if_neg h, if_neg (by omega), if_neg (by omega)]⟩
theorem te_p (h : pK b n hc ≠ 4) (k : pK b n (hc + 1) = 43) : teC b n hc = pV b n hc ∧ teN b n hc = pV b n (hc + 2) := ⟨if_neg h, by unfold teN; rw [if_neg h, if_pos k]⟩
theorem te_m (h : pK b n hc ≠ 4) (k : pK b n (hc + 1) = 45) : teC b n hc = pV b n hc ∧ teN b n hc = - pV b n (hc + 2) := ⟨if_neg h, by unfold teN; rw [if_neg h, if_neg (by omega), if_pos k]⟩
theorem rPair_mk {c y u w : Int} (hk : 0 ≤ k) (s : sP T T' M k c y u w) (h0 : c = pV b n hc) (h1 : y = pV b n (hc + 2)) : rPair b n M T' k.toNat hc := by
  unfold rPair
  rw [Int.toNat_of_nonneg hk, s.2.1, s.2.2.1]; exact ⟨h0, h1⟩
theorem rBy_mk {c y u w : Int} (hk : 0 ≤ k) (s : sP T T' M k c y u w) (h0 : c = pV b n hc) : rBy b n M T' k.toNat hc := by
  unfold rBy
  rw [Int.toNat_of_nonneg hk, s.2.1]; exact h0
/-- the second columns that are told so far -/
def pLm (b : tTx) (n : Nat) (h : Nat) (k : Int) (L : List Int) : Prop := ∀ x : Int, x ∈ L ↔ ∃ j : Nat, (j : Int) < k ∧ pV b n (iPos nxT h j + 2) = x
theorem pLm_0 : pLm b n h 0 [] := fun x => ⟨fun e => absurd e List.not_mem_nil, fun ⟨j, hj, _⟩ => absurd hj (by omega)⟩
theorem pLm_s {sp : Nat → Bool} (hl : iL nxT sp F h k hc) (a : pLm b n h k L) : pLm b n h (k + 1) (pV b n (hc + 2) :: L) := fun x => by
  have h0 := hl.1
  have hp := iL_p hl
  rw [List.mem_cons, a x]
  constructor
  · rintro (e | ⟨j, hj, e⟩)
    · exact ⟨k.toNat, by omega, by rw [← hp]; exact e.symm⟩
    · exact ⟨j, by omega, e⟩
  · rintro ⟨j, hj, e⟩
    by_cases c : (j : Int) < k
    · exact Or.inr ⟨j, c, e⟩
    · have : j = k.toNat := by omega
      subst this
      rw [← hp] at e; exact Or.inl e.symm
theorem rGn_mk {x : Int} (g : mGn x L) (a : pLm b n h k L) (e : ((iCnt nxT (spC b n) F h : Nat) : Int) = k) : rGn b n x F h := fun d hd => by
  rw [g (d : Int) (by omega) (by omega), a (d : Int)]
  exact ⟨fun ⟨j, hj, q⟩ => ⟨j, by omega, q⟩, fun ⟨j, hj, q⟩ => ⟨j, by omega, q⟩⟩
theorem mGrp_f {c0 y u w : Int} (s : sP T T' M k c0 y u w) (hf : pFo y (pK b n hc) (pV b n hc)) (h0 : 0 ≤ y) (hc0 : (y = 0 ∧ c0 = 0) ∨ (0 < y ∧ c0 = pV b n (hc + 1))) : mP T' M k 1 = pV b n hc - 16 ∧ mP T' M k 0 = (if pV b n hc = 16 then 0 else pV b n (hc + 1)) := by
  have q := pFo_y hf h0
  rw [s.2.1, s.2.2.1]
  refine ⟨by omega, ?_⟩
  rcases hc0 with e | e
  · rw [if_pos (by omega)]; exact e.2
  · rw [if_neg (by omega)]; exact e.2
end FrM
end
section
/-! what the lines told so far hold in the reference's rows; what a plan leaves of the reference -/
def rowsR (b : tTx) (n nr : Nat) (nt : Nat → Nat) (cl : Nat → Int) (T : Nat → Int32) : Prop := ∀ r : Nat, r < nr → LG b n nt cl r ∧ mLn b n r nt (nt r + 3) T (r : Int) (kdT b n (nt r))
def plR (b : tTx) (n : Nat) (T : Nat → Int32) : Prop := rowsR b n (sPlF b n).1 (sPlF b n).2.1 (sPlF b n).2.2.1 T
def plN (gh : gGh) (I AI I' AI' : gI) (mo : Nat) (b : tTx) (n : Nat) (z : Int) : Prop :=
  (z < 0 ∧ AI' (gh 57 0) = AI (gh 57 0) ∧ AI' (gh 79 0) = AI (gh 79 0) ∧ I' mo 8 = I mo 8 ∧ I' mo 9 = I mo 9 ∧ I' mo 10 = I mo 10) ∨
  (0 ≤ z ∧ (∀ j : Nat, j < 176 → AI' (gh 57 0) j = 0) ∧ (∀ j : Nat, j < 16 → AI' (gh 79 0) j = 0) ∧ (I' mo 8).toInt = 0 ∧ (I' mo 9).toInt = 0 ∧ (I' mo 10).toInt = 0 ∧ plR b n (AI' (gh 50 0)))
def plK (gh : gGh) (AI AI' : gI) : Prop := ∀ b, b ≠ gh 50 0 → b ≠ gh 53 0 → b ≠ gh 57 0 → b ≠ gh 79 0 → AI' b = AI b
section RowsS
variable {b : tTx} {n nr h0 : Nat} {nt : Nat → Nat} {cl : Nat → Int} {T T' : Nat → Int32} {x kd : Int}
theorem mE_4b {gh : gGh} {AI : gI} {AJ : gJ} (w : mE gh AI AJ b n nr nt cl) : ∀ r, r < nr → 1 ≤ cl r ∧ cl r ≤ 4 := fun r hr => (w.2.1 r hr).2.2.2
theorem mFr9 {g : gG} {gh : gGh} {R : gR} {I AI AI1 AI' : gI} {m : Nat} {p q : Nat × Nat} (hv : mInv g gh R I AI) (hm : gO g m 7) (hp : p ∈ mTab) (hq : q ∈ mTab) (hne : p.1 ≠ q.1) (e : ∀ b, b ≠ gh (50 + q.1) 0 → AI' b = AI1 b) : AI' (gh (50 + p.1) 0) = AI1 (gh (50 + p.1) 0) :=
  e _ (fun z => hne (by have h := ((hv.1 m hm).2.1 p hp).2.2.2; have h' := ((hv.1 m hm).2.1 q hq).2.2.2; rw [z, h'] at h; exact h.symm))
theorem rows_0 : rowsR b n 0 nt cl T := fun r hr => absurd hr (Nat.not_lt_zero r)
theorem rows_f (hcl : ∀ u, u < nr → 1 ≤ cl u ∧ cl u ≤ 4) (hr : rowsR b n nr nt cl T) (e : ∀ z : Int, 0 ≤ z → z < 40 * (nr : Int) → tI T' z = tI T z) : rowsR b n nr nt cl T' := fun r hr9 => by
  have q := hr r hr9
  have g := LG_n (fun u hu => hcl u (by omega)) q.1
  exact ⟨q.1, mLn_c (by omega) (fun z a c => e z (by omega) (by omega)) g.1 g.2.1 g.2.2.1 g.2.2.2.1 g.2.2.2.2 q.2⟩
theorem rows_s (hr : rowsR b n nr nt cl T) (hcl : ∀ u, u < nr → 1 ≤ cl u ∧ cl u ≤ 4) (hg : LG b n (sUp nt nr h0) (sUp cl nr x) nr) (fr : frM (nr : Int) T T') (hn : mLn b n nr nt (h0 + 3) T' (nr : Int) (kdT b n h0)) : rowsR b n (nr + 1) (sUp nt nr h0) (sUp cl nr x) T' := fun r hr9 => by
  by_cases q : r = nr
  · subst q
    refine ⟨hg, ?_⟩
    rw [sUp_s]
    exact mLn_cg (fun u hu => sUp_k (by omega)) hn
  · have w := rows_f hcl hr fr r (by omega)
    refine ⟨LG_cg (fun u hu => sUp_k (by omega)) (fun u hu => sUp_k (by omega)) w.1, ?_⟩
    rw [sUp_k q]
    exact mLn_cg (fun u hu => sUp_k (by omega)) w.2
theorem mLn_0 (e : kd = 0) {h : Nat} {M : Int} (k : rFS T M (-1) (-1)) : mLn b n nr nt h T M kd := by
  unfold mLn
  subst e
  rw [if_neg (by decide), if_neg (by decide), if_neg (by decide), if_neg (by decide), if_neg (by decide), if_neg (by decide), if_neg (by decide)]; exact k
theorem z_at {A A' : gI} {o : Nat} {i : Int} (h0 : 0 ≤ i) (e : A' = gup2 A o i.toNat (iI 0)) (h : ∀ j : Nat, (j : Int) < i → A o j = 0) : ∀ j : Nat, (j : Int) < i + 1 → A' o j = 0 := fun j hj => by
  rw [e]
  by_cases q : j = i.toNat
  · rw [q, gup2_s]; rfl
  · rw [gup2_k _ _ q]; exact h j (by omega)
theorem plK_t {gh : gGh} {AI AI' AI'' : gI} (h : plK gh AI AI') (k : ∀ b, b ≠ gh 50 0 → b ≠ gh 53 0 → b ≠ gh 57 0 → b ≠ gh 79 0 → AI'' b = AI' b) : plK gh AI AI'' := fun b a c d e => (k b a c d e).trans (h b a c d e)
end RowsS
end
