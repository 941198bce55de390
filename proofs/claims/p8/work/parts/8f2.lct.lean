/-! a line that was read, by tokens alone -/
section Cong
variable {b : tTx} {n r : Nat} {nt nt' : Nat → Nat} {cl cl' : Nat → Int}
theorem pFd_cg (e : ∀ u, u < r → nt' u = nt u) (h : Nat) : pFd b n nt' r h = pFd b n nt r h := pFd_c r 0 (fun u _ hu => e u (by omega))
theorem pFd_r (h : Nat) : pFd b n nt r h < (r : Int) := by have := pFd_lt (b := b) (n := n) (h := h) (nt := nt) r 0; unfold pFd; omega
theorem pRf_cg (e : ∀ u, u < r → nt' u = nt u) (h : Nat) : pRf b n nt' r h = pRf b n nt r h := by unfold pRf; rw [pFd_cg e]
theorem cF_cg (e : ∀ u, u < r → nt' u = nt u) (e2 : ∀ u, u < r → cl' u = cl u) {h : Nat} (k : pRf b n nt r h = 0) : cF b n r nt' cl' h = cF b n r nt cl h := by
  unfold cF
  have a := (pRf_i k).2
  have c := pFd_r (b := b) (n := n) (r := r) (nt := nt) h
  rw [pFd_cg e, e2 _ (by omega)]
theorem sRl_cg (e : ∀ u, u < r → nt' u = nt u) (e2 : ∀ u, u < r → cl' u = cl u) : sRl b n r nt' cl' = sRl b n r nt cl := funext fun h => by
  unfold sRl
  rw [pRf_cg e]
  by_cases k : pRf b n nt r h = 0
  · rw [if_pos k, if_pos k, cF_cg e e2 k]
  · rw [if_neg k, if_neg k]
theorem sTwo_cg (e : ∀ u, u < r → nt' u = nt u) (e2 : ∀ u, u < r → cl' u = cl u) (h : Nat) : sTwo b n r nt' cl' h = sTwo b n r nt cl h := by
  unfold sTwo
  rw [sRl_cg e e2]
  refine thn_cg (fun _ => ?_)
  show (if pRf b n nt' r _ = 0 then _ else _) = (if pRf b n nt r _ = 0 then _ else _)
  rw [pRf_cg e]
  by_cases k : pRf b n nt r (sRl b n r nt cl h).2.1 = 0
  · rw [if_pos k, if_pos k, cF_cg e e2 k]
  · rw [if_neg k, if_neg k]
theorem sBody_cg (e : ∀ u, u < r → nt' u = nt u) (e2 : ∀ u, u < r → cl' u = cl u) (kd : Int) (h : Nat) : sBody b n r nt' cl' kd h = sBody b n r nt cl kd h := by
  unfold sBody sSel sPrj sJoi sGrp sRng
  rw [sRl_cg e e2, sTwo_cg e e2]
end Cong
/-- a line that was read: its kind, its body, its end -/
def bTk (b : tTx) (n t : Nat) : Nat := if kdT b n t = 0 then t + 1 else t + 3
def LG (b : tTx) (n : Nat) (nt : Nat → Nat) (cl : Nat → Int) (r : Nat) : Prop :=
  (0 ≤ kdT b n (nt r) ∧ kdT b n (nt r) ≤ 8) ∧ (sBody b n r nt cl (kdT b n (nt r)) (bTk b n (nt r))).1 = 0 ∧ (sBody b n r nt cl (kdT b n (nt r)) (bTk b n (nt r))).2.2 = cl r ∧ cl r ≤ 4
theorem LG_cg {b : tTx} {n r : Nat} {nt nt' : Nat → Nat} {cl cl' : Nat → Int} (e : ∀ u, u ≤ r → nt' u = nt u) (e2 : ∀ u, u ≤ r → cl' u = cl u) (h : LG b n nt cl r) : LG b n nt' cl' r := by
  unfold LG at h ⊢
  rw [e r (Nat.le_refl _), e2 r (Nat.le_refl _), sBody_cg (fun u hu => e u (by omega)) (fun u hu => e2 u (by omega))]
  exact h
/-! a fault's kind is never below 0 -/
section Ge
variable {b : tTx} {n nr h : Nat} {nt : Nat → Nat} {cl : Nat → Int} {tb c d k lim x : Int} {L : List Int}
theorem thn_ge {r : pR} {f : Nat → Int → pR} (h : 0 ≤ r.1) (k : ∀ t v, 0 ≤ (f t v).1) : 0 ≤ (thn r f).1 := by
  by_cases q : r.1 = 0
  · rw [thn_y (f := f) rfl q rfl]; exact k _ _
  · rw [thn_x (f := f) rfl q]; exact h
theorem pRf_ge : 0 ≤ pRf b n nt nr h := by unfold pRf; (repeat' split) <;> (try dsimp only) <;> omega
theorem sTk_ge : 0 ≤ (sTk b n k h).1 := by unfold sTk; (repeat' split) <;> (try dsimp only) <;> omega
theorem sTw_ge : 0 ≤ (sTw b n k h).1 := by unfold sTw; (repeat' split) <;> (try dsimp only) <;> omega
theorem sRl_ge : 0 ≤ (sRl b n nr nt cl h).1 := by unfold sRl; split; (· (try dsimp only); omega); (· exact pRf_ge)
theorem sTest_ge : 0 ≤ (sTest b n c k h).1 := by unfold sTest; (repeat' split) <;> first | exact pCf_r.1 | ((try dsimp only); omega)
theorem sTests_ge : ∀ (F : Nat) (k : Int) (h : Nat), 0 ≤ (sTests b n c F k h).1
  | 0, _, _ => by show (0 : Int) ≤ 4; decide
  | F + 1, k, h => by
    rw [sTests]
    refine thn_ge sTest_ge (fun t v => ?_)
    split
    · exact sTests_ge F _ _
    · (try dsimp only); omega
theorem sTerm_ge : 0 ≤ (sTerm b n c k h).1 := by unfold sTerm; (repeat' split) <;> first | exact pCf_r.1 | ((try dsimp only); omega)
theorem sTerms_ge : ∀ (F : Nat) (k : Int) (h : Nat), 0 ≤ (sTerms b n c F k h).1
  | 0, _, _ => by show (0 : Int) ≤ 4; decide
  | F + 1, k, h => by
    rw [sTerms]
    refine thn_ge sTerm_ge (fun t v => ?_)
    split
    · exact sTerms_ge F _ _
    · (try dsimp only); omega
theorem sPair_ge : 0 ≤ (sPair b n c d k lim h).1 := by
  unfold sPair
  split
  · split
    · (try dsimp only); omega
    · refine thn_ge sTk_ge (fun t v => ?_)
      split
      · (try dsimp only); omega
      · exact pCf_r.1
  · exact pCf_r.1
theorem sPairs_ge : ∀ (F : Nat) (k : Int) (L : List Int) (h : Nat), 0 ≤ (sPairs b n c d F k L h).1
  | 0, _, _, _ => by show (0 : Int) ≤ 4; decide
  | F + 1, k, L, h => by
    rw [sPairs]
    refine thn_ge sPair_ge (fun t v => ?_)
    split
    · exact sPairs_ge F _ _ _
    · (try dsimp only); omega
theorem sBy_ge : 0 ≤ (sBy b n c k L h).1 := by unfold sBy; (repeat' split) <;> first | exact pCf_r.1 | ((try dsimp only); omega)
theorem sBys_ge : ∀ (F : Nat) (k : Int) (L : List Int) (h : Nat), 0 ≤ (sBys b n c F k L h).1
  | 0, _, _, _ => by show (0 : Int) ≤ 4; decide
  | F + 1, k, L, h => by
    rw [sBys]
    refine thn_ge sBy_ge (fun t v => ?_)
    split
    · exact sBys_ge F _ _ _
    · (try dsimp only); omega
theorem sFo_ge : 0 ≤ (sFo b n c x h).1 := by unfold sFo; (repeat' split) <;> first | exact pCf_r.1 | ((try dsimp only); omega)
theorem sTc_ge : 0 ≤ (sTc b n h).1 := by unfold sTc; (repeat' split) <;> (try dsimp only) <;> omega
theorem sClo_ge : 0 ≤ (sClo b n x h).1 := by unfold sClo; (repeat' split) <;> (try dsimp only) <;> omega
theorem sNam_ge : 0 ≤ (sNam b n nr nt h).1 := by unfold sNam; (repeat' split) <;> (try dsimp only) <;> omega
theorem sVk_ge : 0 ≤ (sVk b n h).1 := by
  unfold sVk
  refine thn_ge sTk_ge (fun t v => ?_)
  split <;> ((try dsimp only); omega)
theorem sTwo_ge : 0 ≤ (sTwo b n nr nt cl h).1 := by
  unfold sTwo
  refine thn_ge sRl_ge (fun t v => ?_)
  split
  · split <;> ((try dsimp only); omega)
  · exact pRf_ge
theorem sBody_ge : 0 ≤ (sBody b n nr nt cl k h).1 := by
  unfold sBody
  split
  · exact thn_ge sRl_ge (fun _ _ => thn_ge sTw_ge (fun _ _ => sTests_ge _ _ _))
  · split
    · exact thn_ge sRl_ge (fun _ _ => sTerms_ge _ _ _)
    · split
      · exact thn_ge sRl_ge (fun _ _ => thn_ge sRl_ge (fun _ _ => thn_ge sTw_ge (fun _ _ => sPairs_ge _ _ _ _)))
      · split
        · exact sTwo_ge
        · split
          · exact sRl_ge
          · split
            · exact thn_ge sRl_ge (fun _ _ => thn_ge sTw_ge (fun _ _ => thn_ge (sBys_ge _ _ _ _) (fun _ _ => sFo_ge)))
            · split
              · exact thn_ge sRl_ge (fun _ _ => thn_ge sTw_ge (fun _ _ => thn_ge sRl_ge (fun _ _ => thn_ge sTw_ge (fun _ _ => thn_ge sPair_ge (fun _ _ => thn_ge sTw_ge (fun _ _ => thn_ge (sTerms_ge _ _ _) (fun _ _ => by show (0 : Int) ≤ 0; decide)))))))
              · exact sTc_ge
theorem sHd_ge : 0 ≤ (sHd b n nr nt tb h).1 := by
  unfold sHd
  split
  · split
    · (try dsimp only); omega
    · split
      · (try dsimp only); omega
      · exact sNam_ge
  · split
    · split
      · (try dsimp only); omega
      · exact thn_ge sNam_ge (fun _ _ => sVk_ge)
    · (try dsimp only); omega
theorem sLine_ge : 0 ≤ (sLine b n nr nt cl tb h).1 := thn_ge sHd_ge (fun _ _ => thn_ge sBody_ge (fun _ _ => sClo_ge))
end Ge
section Line
variable {b : tTx} {n nr h : Nat} {nt : Nat → Nat} {cl : Nat → Int} {tb : Int}
theorem sNam_h (h0 : (sNam b n nr nt h).1 = 0) : (sNam b n nr nt h).2.1 = h + 1 := by
  unfold sNam at h0 ⊢
  by_cases k : pK b n h = 3 ∧ pV b n h = -1
  · rw [if_pos k] at h0 ⊢
    by_cases q : pFd b n nt nr h = -1
    · rw [if_pos q]
    · rw [if_neg q] at h0; exact (pr_no h0 (by decide)).elim
  · rw [if_neg k] at h0; exact (pr_no h0 (by decide)).elim
theorem sVk_h (h0 : (sVk b n h).1 = 0) : (sVk b n h).2.1 = h + 2 ∧ (sVk b n h).2.2 = pV b n (h + 1) ∧ 1 ≤ pV b n (h + 1) ∧ pV b n (h + 1) ≤ 8 := by
  unfold sVk at h0 ⊢
  by_cases k : (sTk b n 61 h).1 = 0
  · have e := sTk_h rfl k
    rw [thn_y (f := _) rfl k rfl] at h0 ⊢
    rw [e] at h0 ⊢
    by_cases q : pK b n (h + 1) = 3 ∧ 1 ≤ pV b n (h + 1) ∧ pV b n (h + 1) ≤ 8
    · rw [if_pos q]; exact ⟨rfl, rfl, q.2⟩
    · rw [if_neg q] at h0; exact (pr_no h0 (by decide)).elim
  · rw [thn_x rfl k] at h0; exact absurd h0 k
/-- the head of a line: kind, where its body begins; tables ahead of views -/
theorem sHd_h (h0 : (sHd b n nr nt tb h).1 = 0) : (sHd b n nr nt tb h).2.2 = kdT b n (h + 1) ∧ (sHd b n nr nt tb h).2.1 = bTk b n (h + 1) ∧ (0 ≤ kdT b n (h + 1) ∧ kdT b n (h + 1) ≤ 8) ∧ ((pK b n h = 3 ∧ pV b n h = 0) ↔ kdT b n (h + 1) = 0) ∧ (kdT b n (h + 1) = 0 → ¬ tb < (nr : Int)) := by
  unfold sHd at h0 ⊢
  by_cases k : pK b n h = 3 ∧ pV b n h = 0
  · have ek : kdT b n (h + 1) = 0 := kdT_t k.2
    have eb : bTk b n (h + 1) = h + 1 + 1 := if_pos ek
    rw [if_pos k] at h0 ⊢
    by_cases q : 16 ≤ nr
    · rw [if_pos q] at h0; exact (pr_no h0 (by decide)).elim
    · rw [if_neg q] at h0 ⊢
      by_cases m : tb < (nr : Int)
      · rw [if_pos m] at h0; exact (pr_no h0 (by decide)).elim
      · rw [if_neg m] at h0 ⊢
        rw [sNam_x h0, sNam_h h0, ek, eb]
        exact ⟨rfl, rfl, by decide, ⟨fun _ => rfl, fun _ => k⟩, fun _ => m⟩
  · rw [if_neg k] at h0 ⊢
    by_cases k2 : pK b n h = 3 ∧ pV b n h = 9
    · have ek : kdT b n (h + 1) = pV b n (h + 3) := kdT_v (by omega)
      rw [if_pos k2] at h0 ⊢
      by_cases q : 16 ≤ nr
      · rw [if_pos q] at h0; exact (pr_no h0 (by decide)).elim
      · rw [if_neg q] at h0 ⊢
        by_cases m : (sNam b n nr nt (h + 1)).1 = 0
        · have e1 := sNam_h m
          rw [thn_y (f := fun t _ => sVk b n t) rfl m rfl, e1] at h0 ⊢
          obtain ⟨v1, v2, v3, v4⟩ := sVk_h h0
          have eb : bTk b n (h + 1) = h + 1 + 3 := if_neg (by rw [ek]; show ¬ pV b n (h + 3) = 0; have : pV b n (h + 1 + 1 + 1) = pV b n (h + 3) := rfl; omega)
          rw [v1, v2, ek, eb]
          exact ⟨rfl, rfl, ⟨by show 0 ≤ pV b n (h + 1 + 1 + 1); omega, v4⟩, ⟨fun e => absurd e k, fun e => absurd e (by show ¬ pV b n (h + 1 + 1 + 1) = 0; omega)⟩, fun e => absurd e (by show ¬ pV b n (h + 1 + 1 + 1) = 0; omega)⟩
        · rw [thn_x rfl m] at h0; exact absurd h0 m
    · rw [if_neg k2] at h0; exact (pr_no h0 (by decide)).elim
theorem sClo_h {x : Int} (h0 : (sClo b n x h).1 = 0) : (sClo b n x h).2.2 = x ∧ x ≤ 4 ∧ (sClo b n x h).2.1 = h + 1 := by
  unfold sClo at h0 ⊢
  by_cases k : pK b n h = 59
  · rw [if_pos k] at h0 ⊢
    by_cases q : 4 < x
    · rw [if_pos q] at h0; exact (pr_no h0 (by decide)).elim
    · rw [if_neg q]; exact ⟨rfl, by omega, rfl⟩
  · rw [if_neg k] at h0; exact (pr_no h0 (by decide)).elim
theorem sLine_LG (h0 : (sLine b n nr nt cl tb h).1 = 0) : LG b n (sUp nt nr (h + 1)) (sUp cl nr (sLine b n nr nt cl tb h).2.2) nr ∧ ((pK b n h = 3 ∧ pV b n h = 0) ↔ kdT b n (h + 1) = 0) ∧ (kdT b n (h + 1) = 0 → ¬ tb < (nr : Int)) := by
  have ex : sLine b n nr nt cl tb h = thn (sHd b n nr nt tb h) fun t kd => thn (sBody b n nr nt cl kd t) fun t x => sClo b n x t := rfl
  by_cases k : (sHd b n nr nt tb h).1 = 0
  · obtain ⟨a1, a2, a3, a4, a5⟩ := sHd_h k
    refine ⟨?_, a4, a5⟩
    rw [thn_y (f := fun t kd => thn (sBody b n nr nt cl kd t) fun t x => sClo b n x t) rfl k rfl, a1, a2] at ex
    by_cases q : (sBody b n nr nt cl (kdT b n (h + 1)) (bTk b n (h + 1))).1 = 0
    · rw [thn_y (f := fun t x => sClo b n x t) rfl q rfl] at ex
      rw [ex] at h0 ⊢
      obtain ⟨c1, c2, _⟩ := sClo_h h0
      unfold LG
      rw [sUp_s, sUp_s, sBody_cg (fun u hu => sUp_k (by omega)) (fun u hu => sUp_k (by omega)), c1]
      exact ⟨a3, q, rfl, c2⟩
    · rw [thn_x (f := fun t x => sClo b n x t) rfl q] at ex
      rw [ex] at h0; exact absurd h0 q
  · rw [thn_x rfl k] at ex
    rw [ex] at h0; exact absurd h0 k
/-- tables ahead of views; of lines so far -/
def tbO (b : tTx) (n : Nat) (nt : Nat → Nat) (tb : Int) (nr : Nat) : Prop := 0 ≤ tb ∧ tb ≤ (nr : Int) ∧ ∀ r, r < nr → (kdT b n (nt r) = 0 ↔ (r : Int) < tb)
theorem sPar_LG : ∀ (F nr : Nat) (nt : Nat → Nat) (cl : Nat → Int) (tb : Int) (h : Nat), (∀ r, r < nr → LG b n nt cl r) → tbO b n nt tb nr → (sPar b n F nr nt cl tb h).1 = 0 →
    (sPar b n F nr nt cl tb h).2 = (sParF b n F nr nt cl tb h).1 ∧ (∀ r, r < (sParF b n F nr nt cl tb h).1 → LG b n (sParF b n F nr nt cl tb h).2.1 (sParF b n F nr nt cl tb h).2.2.1 r) ∧ tbO b n (sParF b n F nr nt cl tb h).2.1 (sParF b n F nr nt cl tb h).2.2.2 (sParF b n F nr nt cl tb h).1
  | 0, _, _, _, _, _, hl, ht, _ => ⟨rfl, hl, ht⟩
  | F + 1, nr, nt, cl, tb, h, hl, ht, e => by
    rw [sPar] at e ⊢
    rw [sParF]
    by_cases k : pK b n h = 0
    · rw [if_pos k, if_pos k]; exact ⟨rfl, hl, ht⟩
    · rw [if_neg k] at e ⊢
      rw [if_neg k]
      by_cases q : (sLine b n nr nt cl tb h).1 = 0
      · rw [if_pos q] at e ⊢
        rw [if_pos q]
        obtain ⟨g1, g2, g3⟩ := sLine_LG q
        refine sPar_LG F _ _ _ _ _ (fun r hr => ?_) ?_ e
        · by_cases m : r = nr
          · subst m; exact g1
          · exact LG_cg (fun u hu => sUp_k (by omega)) (fun u hu => sUp_k (by omega)) (hl r (by omega))
        · obtain ⟨t0, t1, t2⟩ := ht
          by_cases w : pK b n h = 3 ∧ pV b n h = 0
          · rw [if_pos w]
            have := g3 (g2.mp w)
            refine ⟨by omega, by omega, fun r hr => ?_⟩
            by_cases m : r = nr
            · subst m; rw [sUp_s]; exact ⟨fun _ => by omega, fun _ => g2.mp w⟩
            · rw [sUp_k m]; have := t2 r (by omega); omega
          · rw [if_neg w]
            refine ⟨t0, by omega, fun r hr => ?_⟩
            by_cases m : r = nr
            · subst m; rw [sUp_s]; exact ⟨fun z => absurd (g2.mpr z) w, fun z => by omega⟩
            · rw [sUp_k m]; exact t2 r (by omega)
      · rw [if_neg q] at e
        have q0 := sLine_ge (b := b) (n := n) (nr := nr) (nt := nt) (cl := cl) (tb := tb) (h := h)
        exact absurd e (by show ¬ 8 * (tPs b n (sLine b n nr nt cl tb h).2.1 : Int) + (sLine b n nr nt cl tb h).1 = 0; omega)
end Line
