/-! what the reference's row of a line holds, by tokens -/
section Row
variable (b : tTx) (n nr : Nat) (nt : Nat → Nat) (cl : Nat → Int) (h : Nat) (T : Nat → Int32) (M : Int)
def rTest (T : Nat → Int32) (j t : Nat) : Prop := mP T M (j : Int) 0 = pV b n t ∧ mP T M (j : Int) 1 = (if pK b n (t + 1) = 61 then 0 else if pK b n (t + 1) = 60 then 1 else 2) ∧ mP T M (j : Int) 2 = (if pK b n (t + 2) = 4 then 0 else 1) ∧ mP T M (j : Int) 3 = pV b n (t + 2)
def rTerm (fm : Int) (T : Nat → Int32) (j t : Nat) : Prop := mP T M (fm + (j : Int)) 0 = teC b n t ∧ mP T M (fm + (j : Int)) 1 = teN b n t
def rPair (T : Nat → Int32) (j t : Nat) : Prop := mP T M (j : Int) 0 = pV b n t ∧ mP T M (j : Int) 1 = pV b n (t + 2)
def rBy (T : Nat → Int32) (j t : Nat) : Prop := mP T M (j : Int) 0 = pV b n t
/-- the columns that the pairs tell -/
def rGn (x : Int) (F h : Nat) : Prop := ∀ d : Nat, d < 4 → (mBit x (d : Int) = 1 ↔ ∃ j, j < iCnt nxT (spC b n) F h ∧ pV b n (iPos nxT h j + 2) = (d : Int))
def rFS (a c : Int) : Prop := tI T (40 * M + 2) = a ∧ tI T (40 * M + 3) = c
def mSel : Prop := rFS T M (pFd b n nt nr h) (-1) ∧ tI T (40 * M + 4) = ((iCnt nxT (spA b n) 9 (h + 2) : Nat) : Int) ∧ qAll (rTest b n M) nxT T (h + 2) ((iCnt nxT (spA b n) 9 (h + 2) : Nat) : Int)
def mPrj : Prop := rFS T M (pFd b n nt nr h) (-1) ∧ tI T (40 * M + 4) = ((iCnt (nxE b n) (spC b n) 5 (h + 1) : Nat) : Int) ∧ qAll (rTerm b n M 0) (nxE b n) T (h + 1) ((iCnt (nxE b n) (spC b n) 5 (h + 1) : Nat) : Int)
def mJoi : Prop := rFS T M (pFd b n nt nr h) (pFd b n nt nr (h + 1)) ∧ tI T (40 * M + 4) = ((iCnt nxT (spC b n) 5 (h + 3) : Nat) : Int) ∧ qAll (rPair b n M) nxT T (h + 3) ((iCnt nxT (spC b n) 5 (h + 3) : Nat) : Int) ∧ rGn b n (tI T (40 * M + 5)) 5 (h + 3)
def mTwo : Prop := rFS T M (pFd b n nt nr h) (pFd b n nt nr (h + 1))
def mDis : Prop := rFS T M (pFd b n nt nr h) (-1)
def mGrp : Prop := rFS T M (pFd b n nt nr h) (-1) ∧ tI T (40 * M + 4) = ((iCnt nxB (spC b n) 4 (h + 2) : Nat) : Int) ∧ qAll (rBy b n M) nxB T (h + 2) ((iCnt nxB (spC b n) 4 (h + 2) : Nat) : Int) ∧
  mP T M ((iCnt nxB (spC b n) 4 (h + 2) : Nat) : Int) 1 = pV b n (nxB (iPos nxB (h + 2) (iCnt nxB (spC b n) 4 (h + 2) - 1))) - 16 ∧ mP T M ((iCnt nxB (spC b n) 4 (h + 2) : Nat) : Int) 0 = (if pV b n (nxB (iPos nxB (h + 2) (iCnt nxB (spC b n) 4 (h + 2) - 1))) = 16 then 0 else pV b n (nxB (iPos nxB (h + 2) (iCnt nxB (spC b n) 4 (h + 2) - 1)) + 1))
def mRng : Prop := rFS T M (pFd b n nt nr h) (pFd b n nt nr (h + 2)) ∧ tI T (40 * M + 4) = ((iCnt (nxE b n) (spC b n) 5 (h + 8) : Nat) : Int) ∧ qAll (rTerm b n M 1) (nxE b n) T (h + 8) ((iCnt (nxE b n) (spC b n) 5 (h + 8) : Nat) : Int) ∧ mP T M 0 0 = pV b n (h + 4) ∧ mP T M 0 1 = pV b n (h + 6)
def mLn (kd : Int) : Prop :=
  if kd = 1 then mSel b n nr nt h T M else if kd = 2 then mPrj b n nr nt h T M else if kd = 3 then mJoi b n nr nt h T M else if kd = 4 ∨ kd = 5 then mTwo b n nr nt h T M
  else if kd = 6 then mDis b n nr nt h T M else if kd = 7 then mGrp b n nr nt h T M else if kd = 8 then mRng b n nr nt h T M else rFS T M (-1) (-1)
end Row
section RowC
variable {b : tTx} {n nr : Nat} {nt nt' : Nat → Nat} {cl : Nat → Int} {h r F hc : Nat} {T T' : Nat → Int32} {M k fm : Int} {nx : Nat → Nat} {sp : Nat → Bool} {q : (Nat → Int32) → Nat → Nat → Prop}
/-- q speaks of the part that is the j-th from fm on -/
def rLoc (q : (Nat → Int32) → Nat → Nat → Prop) (M fm : Int) : Prop := ∀ (T T' : Nat → Int32) (j t : Nat), (∀ w : Int, 0 ≤ w → w ≤ 3 → mP T' M (fm + (j : Int)) w = mP T M (fm + (j : Int)) w) → q T j t → q T' j t
theorem rTest_l : rLoc (rTest b n M) M 0 := fun T T' j t e w => by
  unfold rTest at w ⊢
  have e0 := e 0 (by decide) (by decide); have e1 := e 1 (by decide) (by decide); have e2 := e 2 (by decide) (by decide); have e3 := e 3 (by decide) (by decide)
  rw [Int.zero_add] at e0 e1 e2 e3
  rw [e0, e1, e2, e3]; exact w
theorem rTerm_l : rLoc (rTerm b n M fm) M fm := fun T T' j t e w => by
  unfold rTerm at w ⊢
  rw [e 0 (by decide) (by decide), e 1 (by decide) (by decide)]; exact w
theorem rPair_l : rLoc (rPair b n M) M 0 := fun T T' j t e w => by
  unfold rPair at w ⊢
  have e0 := e 0 (by decide) (by decide); have e1 := e 1 (by decide) (by decide)
  rw [Int.zero_add] at e0 e1
  rw [e0, e1]; exact w
theorem rBy_l : rLoc (rBy b n M) M 0 := fun T T' j t e w => by
  unfold rBy at w ⊢
  have e0 := e 0 (by decide) (by decide)
  rw [Int.zero_add] at e0
  rw [e0]; exact w
theorem rAll_c (hq : rLoc q M fm) (a : qAll q nx T h k) (e : ∀ j : Nat, (j : Int) < k → ∀ w : Int, 0 ≤ w → w ≤ 3 → mP T' M (fm + (j : Int)) w = mP T M (fm + (j : Int)) w) : qAll q nx T' h k := fun j hj => hq T T' j _ (e j hj) (a j hj)
theorem rAll_s {a1 b1 c1 d1 p : Int} (hq : rLoc q M fm) (a : qAll q nx T h k) (hl : iL nx sp F h k hc) (hM : 0 ≤ M) (hf : 0 ≤ fm) (hs : sP T T' M p a1 b1 c1 d1) (hp : p = fm + k) (e : q T' k.toNat hc) : qAll q nx T' h (k + 1) := fun j hj => by
  have h0 := hl.1
  by_cases c : (j : Int) < k
  · refine hq T T' j _ (fun w w0 w3 => hs.1 _ (by omega) (by omega)) (a j c)
  · have : j = k.toNat := by omega
    subst this
    rw [← iL_p hl]; exact e
/-- the header is written, the bits of a join -/
theorem rAll_h {kd cl0 one oth ps : Int} (hq : rLoc q M fm) (hM : 0 ≤ M) (hf : 0 ≤ fm) (hp : hP T T' M kd cl0 one oth ps) (a : qAll q nx T h k) : qAll q nx T' h k := rAll_c hq a (fun j hj w w0 w3 => hp.1 _ (by omega) (by omega))
theorem rAll_5 {v : Int} (hq : rLoc q M fm) (hM : 0 ≤ M) (hf : 0 ≤ fm) (hp : s1 T T' (40 * M + 5) v) (a : qAll q nx T h k) : qAll q nx T' h k := rAll_c hq a (fun j hj w w0 w3 => hp.1 _ (by omega) (by omega))
theorem rAll_p {a1 b1 c1 d1 p : Int} (hq : rLoc q M fm) (hM : 0 ≤ M) (hf : 0 ≤ fm) (hs : sP T T' M p a1 b1 c1 d1) (hp : p < fm ∨ fm + k ≤ p) (a : qAll q nx T h k) : qAll q nx T' h k := rAll_c hq a (fun j hj w w0 w3 => hs.1 _ (by omega) (by omega))
/-- one row's cells alone -/
theorem mLn_c {kd : Int} (hM : 0 ≤ M) (e : ∀ z : Int, 40 * M ≤ z → z < 40 * M + 40 → tI T' z = tI T z) (c9 : kd = 1 → iCnt nxT (spA b n) 9 (h + 2) ≤ 8) (c5 : kd = 2 → iCnt (nxE b n) (spC b n) 5 (h + 1) ≤ 4) (c3 : kd = 3 → iCnt nxT (spC b n) 5 (h + 3) ≤ 5) (c4 : kd = 7 → iCnt nxB (spC b n) 4 (h + 2) ≤ 3) (c8 : kd = 8 → iCnt (nxE b n) (spC b n) 5 (h + 8) ≤ 4) (w : mLn b n nr nt h T M kd) : mLn b n nr nt h T' M kd := by
  have ep : ∀ k w : Int, 0 ≤ k → k ≤ 7 → 0 ≤ w → w ≤ 3 → mP T' M k w = mP T M k w := fun k w _ _ _ _ => e _ (by omega) (by omega)
  unfold mLn at w ⊢
  by_cases k1 : kd = 1
  · rw [if_pos k1] at w ⊢
    unfold mSel rFS at w ⊢
    have := c9 k1
    rw [e _ (by omega) (by omega), e _ (by omega) (by omega), e _ (by omega) (by omega)]
    exact ⟨w.1, w.2.1, rAll_c rTest_l w.2.2 (fun j hj x x0 x3 => ep _ _ (by omega) (by omega) x0 x3)⟩
  rw [if_neg k1] at w ⊢
  by_cases k2 : kd = 2
  · rw [if_pos k2] at w ⊢
    unfold mPrj rFS at w ⊢
    have := c5 k2
    rw [e _ (by omega) (by omega), e _ (by omega) (by omega), e _ (by omega) (by omega)]
    exact ⟨w.1, w.2.1, rAll_c rTerm_l w.2.2 (fun j hj x x0 x3 => ep _ _ (by omega) (by omega) x0 x3)⟩
  rw [if_neg k2] at w ⊢
  by_cases k3 : kd = 3
  · rw [if_pos k3] at w ⊢
    unfold mJoi rFS at w ⊢
    have := c3 k3
    rw [e _ (by omega) (by omega), e _ (by omega) (by omega), e _ (by omega) (by omega), e (40 * M + 5) (by omega) (by omega)]
    exact ⟨w.1, w.2.1, rAll_c rPair_l w.2.2.1 (fun j hj x x0 x3 => ep _ _ (by omega) (by omega) x0 x3), w.2.2.2⟩
  rw [if_neg k3] at w ⊢
  by_cases k4 : kd = 4 ∨ kd = 5
  · rw [if_pos k4] at w ⊢
    unfold mTwo rFS at w ⊢
    rw [e _ (by omega) (by omega), e _ (by omega) (by omega)]; exact w
  rw [if_neg k4] at w ⊢
  by_cases k6 : kd = 6
  · rw [if_pos k6] at w ⊢
    unfold mDis rFS at w ⊢
    rw [e _ (by omega) (by omega), e _ (by omega) (by omega)]; exact w
  rw [if_neg k6] at w ⊢
  by_cases k7 : kd = 7
  · rw [if_pos k7] at w ⊢
    unfold mGrp rFS at w ⊢
    have := c4 k7
    rw [e _ (by omega) (by omega), e _ (by omega) (by omega), e _ (by omega) (by omega), ep _ 0 (by omega) (by omega) (by decide) (by decide), ep _ 1 (by omega) (by omega) (by decide) (by decide)]
    exact ⟨w.1, w.2.1, rAll_c rBy_l w.2.2.1 (fun j hj x x0 x3 => ep _ _ (by omega) (by omega) x0 x3), w.2.2.2⟩
  rw [if_neg k7] at w ⊢
  by_cases k8 : kd = 8
  · rw [if_pos k8] at w ⊢
    unfold mRng rFS at w ⊢
    have := c8 k8
    rw [e _ (by omega) (by omega), e _ (by omega) (by omega), e _ (by omega) (by omega), ep 0 0 (by omega) (by omega) (by decide) (by decide), ep 0 1 (by omega) (by omega) (by decide) (by decide)]
    exact ⟨w.1, w.2.1, rAll_c rTerm_l w.2.2.1 (fun j hj x x0 x3 => ep _ _ (by omega) (by omega) x0 x3), w.2.2.2⟩
  rw [if_neg k8] at w ⊢
  unfold rFS at w ⊢
  rw [e _ (by omega) (by omega), e _ (by omega) (by omega)]; exact w
theorem mLn_cg {kd : Int} (e : ∀ u, u < nr → nt' u = nt u) (w : mLn b n nr nt h T M kd) : mLn b n nr nt' h T M kd := by
  unfold mLn at w ⊢
  unfold mSel mPrj mJoi mTwo mDis mGrp mRng at w ⊢
  have e1 : ∀ t, pFd b n nt' nr t = pFd b n nt nr t := fun t => pFd_cg e t
  simp only [e1]
  exact w
theorem sTests_n : ∀ (F : Nat) (k c : Int) (h : Nat), 0 ≤ k → (sTests b n c F k h).1 = 0 → k + ((iCnt nxT (spA b n) F h : Nat) : Int) ≤ 8 ∧ 1 ≤ iCnt nxT (spA b n) F h
  | 0, _, _, _, _, e => (pr_no e (by decide)).elim
  | F + 1, k, c, h, hk, e => by
    rw [sTests] at e
    by_cases q : (sTest b n c k h).1 = 0
    · have en := sTest_h rfl q
      have h8 : k < 8 := by
        unfold sTest at q
        by_cases q0 : pCf b n c h = 0
        · rw [if_pos q0] at q
          by_cases q1 : 8 ≤ k
          · rw [if_pos q1] at q; exact (pr_no q (by decide)).elim
          · omega
        · rw [if_neg q0] at q; exact absurd q q0
      rw [thn_y (f := _) rfl q rfl, en] at e
      by_cases w : pK b n (nxT h) = 3 ∧ pV b n (nxT h) = 11
      · rw [if_pos w] at e
        have r := sTests_n F (k + 1) c (nxT h + 1) (by omega) e
        rw [show iCnt nxT (spA b n) (F + 1) h = iCnt nxT (spA b n) F (nxT h + 1) + 1 by rw [iCnt, if_pos (spA_y w)]]; omega
      · rw [show iCnt nxT (spA b n) (F + 1) h = 1 by rw [iCnt, if_neg (spA_n w)]]; omega
    · rw [thn_x rfl q] at e; exact absurd e q
theorem iCnt_le : ∀ (F h : Nat), iCnt nx sp F h ≤ F
  | 0, _ => Nat.le_refl _
  | F + 1, h => by
    rw [iCnt]
    by_cases q : sp (nx h) = true
    · rw [if_pos q]; have := iCnt_le F (nx h + 1); omega
    · rw [if_neg q]; omega
/-- counts of a line that was read -/
theorem LG_n (hc : ∀ u, u < r → 1 ≤ cl u ∧ cl u ≤ 4) (g : LG b n nt cl r) : (kdT b n (nt r) = 1 → iCnt nxT (spA b n) 9 (nt r + 3 + 2) ≤ 8) ∧ (kdT b n (nt r) = 2 → iCnt (nxE b n) (spC b n) 5 (nt r + 3 + 1) ≤ 4) ∧ (kdT b n (nt r) = 3 → iCnt nxT (spC b n) 5 (nt r + 3 + 3) ≤ 5) ∧ (kdT b n (nt r) = 7 → iCnt nxB (spC b n) 4 (nt r + 3 + 2) ≤ 3) ∧ (kdT b n (nt r) = 8 → iCnt (nxE b n) (spC b n) 5 (nt r + 3 + 8) ≤ 4) := by
  refine ⟨fun e => ?_, fun e => (gPrj hc (LG_2 g e).1).2.2.1.2, fun _ => iCnt_le _ _, fun e => (gGrp (LG_7 g e).1).2.2.1.2, fun e => ?_⟩
  · have q := (LG_1 g e).1
    unfold sSel at q
    obtain ⟨a1, a2⟩ := thn_i q
    rw [a2] at q
    obtain ⟨b1, b2⟩ := thn_i q
    rw [b2] at q
    have h1 := sRl_h rfl a1
    have h2 := sTw_h rfl b1
    rw [h1.1] at h2
    rw [h1.1, h2] at q
    have := (sTests_n _ _ _ _ (by decide) q).1
    have e0 : nt r + 3 + 1 + 1 = nt r + 3 + 2 := rfl
    rw [e0] at this; omega
  · have q := (LG_8 g e)
    have g8 := gRng hc q.1
    rw [g8.2.2.1] at q
    have g4 := g.2.2.2
    apply Classical.byContradiction; intro z
    have := rX_y (c := cF b n r nt cl (nt r + 3)) (d := cF b n r nt cl (nt r + 3 + 2)) (k := ((iCnt (nxE b n) (spC b n) 5 (nt r + 3 + 8) : Nat) : Int)) (fun w => by
      have a5 := hc (pFd b n nt r (nt r + 3)).toNat (by have := pFd_r (b := b) (n := n) (r := r) (nt := nt) (nt r + 3); have := g8.1; omega)
      have w2 := w.2; unfold cF at w2; omega)
    omega
/-- the reference's row of a line that was read -/
theorem lnM_k (hc : ∀ u, u < r → 1 ≤ cl u ∧ cl u ≤ 4) (h1 : 1 ≤ cl r) (hx : ∀ u, u < r → tI T (40 * (u : Int) + 1) = cl u) (hk : tI T (40 * (r : Int)) = kdT b n (nt r)) (h2 : tI T (40 * (r : Int) + 1) = cl r) (g : LG b n nt cl r) (h : mLn b n r nt (nt r + 3) T (r : Int) (kdT b n (nt r))) (hk0 : kdT b n (nt r) ≠ 0) : lnM T (r : Int) (lcT b n nt cl r) := by
  have NO : ∀ {k : Int} {p : Prop}, kdT b n (nt r) ≠ k → (lcT b n nt cl r).1 0 = k → p := fun a c => absurd c a
  have gd := lc_good hc h1 g hk0
  have e4 : (lcT b n nt cl r).1 4 = ((lcN b n nt r : Nat) : Int) := rfl
  have e9 : (lcT b n nt cl r).1 0 = kdT b n (nt r) := rfl
  have eF : (lcT b n nt cl r).1 2 = lcF b n nt r := rfl
  have eS : (lcT b n nt cl r).1 3 = lcS b n nt r := rfl
  have c5 : ∀ a : Int, 0 ≤ a → a < (r : Int) → tI T (40 * a + 1) = cl a.toNat := fun a a0 a1 => by
    have := hx a.toNat (by omega)
    rw [Int.toNat_of_nonneg a0] at this; exact this
  unfold lnM
  unfold mLn at h
  rcases kd_cs g.1 with e | e | e | e | e | e | e | e
  · exact absurd e hk0
  · rw [if_pos e] at h
    obtain ⟨⟨a1, a2⟩, a3, a4⟩ := h
    refine ⟨⟨hk, h2, by rw [a1, eF, lcF_v hk0], by rw [a2, eS, lcS_0 (by omega) (by omega)]⟩, fun _ => ⟨by rw [a3, e4, lcN_1 e], fun k k9 => ?_⟩, NO (by omega), NO (by omega), NO (by omega), NO (by omega)⟩
    rw [e4, lcN_1 e] at k9
    have q := a4 k k9
    have o := (gSel (LG_1 g e).1).2.2 k (by omega)
    unfold rTest at q
    unfold okT at o
    show _ = lcP b n nt r k 0 ∧ ((_ ∧ lcP b n nt r k 1 = 61) ∨ (_ ∧ lcP b n nt r k 1 = 60) ∨ (_ ∧ _ ∧ lcP b n nt r k 1 ≠ 61 ∧ lcP b n nt r k 1 ≠ 60)) ∧ ((_ ∧ lcP b n nt r k 2 ≠ -1 ∧ _ = lcP b n nt r k 2) ∨ (_ ∧ lcP b n nt r k 2 = -1 ∧ _ = lcP b n nt r k 3))
    rw [show lcP b n nt r k 0 = pV b n (iPos nxT (nt r + 3 + 2) k) from lcP_1 e, show lcP b n nt r k 1 = pK b n (iPos nxT (nt r + 3 + 2) k + 1) from lcP_1 e, show lcP b n nt r k 2 = (if pK b n (iPos nxT (nt r + 3 + 2) k + 2) = 4 then -1 else pV b n (iPos nxT (nt r + 3 + 2) k + 2)) from lcP_1 e, show lcP b n nt r k 3 = pV b n (iPos nxT (nt r + 3 + 2) k + 2) from lcP_1 e]
    obtain ⟨q0, q1, q2, q3⟩ := q
    refine ⟨q0, ?_, ?_⟩
    · rcases o.1 with w | w | w
      · rw [if_pos w] at q1; exact Or.inl ⟨q1, w⟩
      · rw [if_neg (by omega), if_pos w] at q1; exact Or.inr (Or.inl ⟨q1, w⟩)
      · rw [if_neg (by omega), if_neg (by omega)] at q1; exact Or.inr (Or.inr ⟨by omega, by omega, by omega, by omega⟩)
    · by_cases w : pK b n (iPos nxT (nt r + 3 + 2) k + 2) = 4
      · rw [if_pos w] at q2 ⊢; exact Or.inr ⟨by omega, rfl, q3⟩
      · rw [if_neg w] at q2 ⊢; exact Or.inl ⟨q2, by have := o.2.resolve_left w; omega, q3⟩
  · rw [if_neg (by omega), if_pos e] at h
    obtain ⟨⟨a1, a2⟩, a3, a4⟩ := h
    refine ⟨⟨hk, h2, by rw [a1, eF, lcF_v hk0], by rw [a2, eS, lcS_0 (by omega) (by omega)]⟩, NO (by omega), fun _ => ⟨fun k k9 => ?_, by rw [a3, e4, lcN_2 e]⟩, NO (by omega), NO (by omega), NO (by omega)⟩
    rw [e4, lcN_2 e] at k9
    have q := a4 k k9
    have o := (gPrj hc (LG_2 g e).1).2.2.2 k (by omega)
    unfold rTerm at q
    unfold okE at o
    show _ = lcP b n nt r k 0 ∧ _ = lcP b n nt r k 1 ∧ (0 ≤ lcP b n nt r k 0 ∨ lcP b n nt r k 0 = -1)
    rw [lcP_2 e, lcP_2 e, if_pos rfl, if_neg (by decide)]
    exact ⟨q.1, q.2, o.1.symm⟩
  · rw [if_neg (by omega), if_neg (by omega), if_pos e] at h
    obtain ⟨⟨a1, a2⟩, a3, a4, a5⟩ := h
    have gj := gJoi (LG_3 g e).1
    have lF := pFd_r (b := b) (n := n) (r := r) (nt := nt) (nt r + 3)
    have lS := pFd_r (b := b) (n := n) (r := r) (nt := nt) (nt r + 3 + 1)
    have e5 : (lcT b n nt cl r).1 5 = cl (lcF b n nt r).toNat := rfl
    have e6 : (lcT b n nt cl r).1 6 = cl (lcS b n nt r).toNat := rfl
    have d6 : (lcT b n nt cl r).1 6 ≤ 4 := by rw [e6, lcS_1 (by omega)]; have := hc (pFd b n nt r (nt r + 3 + 1)).toNat (by have := gj.2.1; omega); omega
    refine ⟨⟨hk, h2, by rw [a1, eF, lcF_v hk0], by rw [a2, eS, lcS_1 (by omega)]⟩, NO (by omega), NO (by omega), fun _ => ⟨by rw [a3, e4, lcN_3 e], by rw [a1, c5 _ gj.1 lF, e5, lcF_v hk0], by rw [a2, c5 _ gj.2.1 lS, e6, lcS_1 (by omega)], fun k k9 => ?_, fun d hd => ?_⟩, NO (by omega), NO (by omega)⟩
    · rw [e4, lcN_3 e] at k9
      have q := a4 k k9
      unfold rPair at q
      show _ = lcP b n nt r k 0 ∧ _ = lcP b n nt r k 1
      rw [lcP_3 e, lcP_3 e, if_pos rfl, if_neg (by decide)]; exact q
    · rw [tld_T e]; exact a5 d (by omega)
  · rw [if_neg (by omega), if_neg (by omega), if_neg (by omega), if_pos e] at h
    exact ⟨⟨hk, h2, by rw [h.1, eF, lcF_v hk0], by rw [h.2, eS, lcS_1 (by omega)]⟩, NO (by omega), NO (by omega), NO (by omega), NO (by omega), NO (by omega)⟩
  · rw [if_neg (by omega), if_neg (by omega), if_neg (by omega), if_neg (by omega), if_pos e] at h
    exact ⟨⟨hk, h2, by rw [h.1, eF, lcF_v hk0], by rw [h.2, eS, lcS_0 (by omega) (by omega)]⟩, NO (by omega), NO (by omega), NO (by omega), NO (by omega), NO (by omega)⟩
  · rw [if_neg (by omega), if_neg (by omega), if_neg (by omega), if_neg (by omega), if_neg (by omega), if_pos e] at h
    obtain ⟨⟨a1, a2⟩, a3, a4, a5, a6⟩ := h
    have k7 := gd.1.2.2.2.2.1 e
    refine ⟨⟨hk, h2, by rw [a1, eF, lcF_v hk0], by rw [a2, eS, lcS_0 (by omega) (by omega)]⟩, NO (by omega), NO (by omega), NO (by omega), fun _ => ⟨⟨by rw [a3, e4, lcN_7 e], by omega, fun k k9 => ?_⟩, ⟨?_, ?_⟩, k7.2.1.1, k7.2.1.2, k7.2.2.1, k7.2.2.2, k7.1.1, k7.1.2⟩, NO (by omega)⟩
    · rw [e4, lcN_7 e] at k9
      have q := a4 k k9
      unfold rBy at q
      show _ = lcP b n nt r k 0
      rw [lcP_7 e]; exact q
    · rw [e4, lcN_7 e, a5]
      show _ = pV b n (lcO b n nt r) - 16
      unfold lcO; rw [lcN_7 e]
    · rw [e4, lcN_7 e, a6]
      show _ = if pV b n (lcO b n nt r) = 16 then 0 else pV b n (lcO b n nt r + 1)
      unfold lcO; rw [lcN_7 e]
  · rw [if_neg (by omega), if_neg (by omega), if_neg (by omega), if_neg (by omega), if_neg (by omega), if_neg (by omega), if_pos e] at h
    obtain ⟨⟨a1, a2⟩, a3, a4, a5, a6⟩ := h
    have gj := gRng hc (LG_8 g e).1
    have lF := pFd_r (b := b) (n := n) (r := r) (nt := nt) (nt r + 3)
    have lS := pFd_r (b := b) (n := n) (r := r) (nt := nt) (nt r + 3 + 2)
    have e5 : (lcT b n nt cl r).1 5 = cl (lcF b n nt r).toNat := rfl
    have e6 : (lcT b n nt cl r).1 6 = cl (lcS b n nt r).toNat := rfl
    refine ⟨⟨hk, h2, by rw [a1, eF, lcF_v hk0], by rw [a2, eS, lcS_2 e]⟩, NO (by omega), NO (by omega), NO (by omega), NO (by omega), fun _ => ⟨fun k k9 => ?_, by rw [a3, e4, lcN_8 e], by rw [a1, c5 _ gj.1 lF, e5, lcF_v hk0], by rw [a2, c5 _ gj.2.1 lS, e6, lcS_2 e], a5, a6⟩⟩
    rw [e4, lcN_8 e] at k9
    have q := a4 k k9
    have o := gj.2.2.2.2 k (by omega)
    unfold rTerm at q
    unfold okE at o
    show _ = lcP b n nt r k 0 ∧ _ = lcP b n nt r k 1 ∧ (0 ≤ lcP b n nt r k 0 ∨ lcP b n nt r k 0 = -1)
    rw [lcP_8 e, lcP_8 e, if_pos rfl, if_neg (by decide)]
    exact ⟨q.1, q.2, o.1.symm⟩
end RowC
