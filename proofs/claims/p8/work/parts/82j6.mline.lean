/-! a line, as the reference reads it, is a line as the class reads it -/
def sTx (b : tTx) (n : Nat) (x : Int) (t : Nat) : pR := if pK b n t = 59 then (0, t + 1, x) else (1, t, 0)
section ML
variable {b : tTx} {n nr : Nat} {nt : Nat → Nat} {cl : Nat → Int} {kd tb bh : Int} {t : Nat}
theorem sClo_e {x : Int} : thn (sEnd b n x t) (fun t x => sTx b n x t) = sClo b n x t := by
  unfold sEnd sClo
  by_cases q : pK b n t = 59 ∧ 4 < x
  · rw [if_pos q, if_pos q.1, if_pos q.2]; exact thn_x (r := (5, t, 0)) rfl (by show (5 : Int) ≠ 0; decide)
  · rw [if_neg q]
    show sTx b n x t = _
    unfold sTx
    by_cases k : pK b n t = 59
    · rw [if_pos k, if_pos k, if_neg (fun h => q ⟨k, h⟩)]
    · rw [if_neg k, if_neg k]
theorem sClo_4 {x : Int} (h : x ≤ 4) : sTx b n x t = sClo b n x t := by
  unfold sTx sClo
  rw [if_neg (show ¬ 4 < x by omega)]
theorem thn_cg {r : pR} {f k : Nat → Int → pR} (h : r.1 = 0 → f r.2.1 r.2.2 = k r.2.1 r.2.2) : thn r f = thn r k := by
  by_cases q : r.1 = 0
  · exact (thn_y rfl q (h q)).trans (thn_y (f := k) rfl q rfl).symm
  · rw [thn_x (f := f) rfl q, thn_x (f := k) rfl q]
theorem cF_4 (hc : ∀ r, r < nr → cl r ≤ 4) (e : pRf b n nt nr t = 0) : cF b n nr nt cl t ≤ 4 := by
  have w := pRf_i e
  unfold cF
  refine hc _ ?_
  have k : ∀ f w, pFdF b n nt t f w < (w : Int) + (f : Int) ∨ pFdF b n nt t f w = -1 := by
    intro f
    induction f with
    | zero => intro w; exact Or.inr rfl
    | succ f ih =>
      intro w
      rw [pFdF]
      by_cases q : pN b n (nt w) = pN b n t
      · rw [if_pos q]; omega
      · rw [if_neg q]
        have := ih (w + 1)
        omega
  have kk := k nr 0
  have w2 := w.2
  unfold pFd at w2 ⊢
  omega
theorem sRl_4 (hc : ∀ r, r < nr → cl r ≤ 4) (e : (sRl b n nr nt cl t).1 = 0) : (sRl b n nr nt cl t).2.2 ≤ 4 := by
  rcases sRl_c (r := sRl b n nr nt cl t) rfl with ⟨h, p⟩ | ⟨h, p⟩
  · rw [h]; exact cF_4 hc p.1
  · rw [h] at e; exact absurd e p.1
theorem sTests_4 {c : Int} (hc : c ≤ 4) : ∀ f k t, (sTests b n c f k t).1 = 0 → (sTests b n c f k t).2.2 ≤ 4
  | 0, _, _, e => (pr_no e (by decide)).elim
  | f + 1, k, t, e => by
    rw [sTests] at e ⊢
    by_cases q : (sTest b n c k t).1 = 0
    · rw [thn_y (f := _) rfl q rfl] at e ⊢
      by_cases w : pK b n (sTest b n c k t).2.1 = 3 ∧ pV b n (sTest b n c k t).2.1 = 11
      · rw [if_pos w] at e ⊢; exact sTests_4 hc f _ _ e
      · rw [if_neg w] at e ⊢; exact hc
    · rw [thn_x rfl q] at e; exact absurd e q
theorem sTerm_k {c k : Int} (e : (sTerm b n c k t).1 = 0) : k < 4 := by
  unfold sTerm at e
  by_cases a : pK b n t = 4
  · rw [if_pos a] at e
    by_cases q : 4 ≤ k
    · rw [if_pos q] at e; exact (pr_no e (by decide)).elim
    · omega
  · rw [if_neg a] at e
    by_cases d : pCf b n c t = 0
    · rw [if_pos d] at e
      by_cases q : 4 ≤ k
      · rw [if_pos q] at e; exact (pr_no e (by decide)).elim
      · omega
    · rw [if_neg d] at e; exact absurd e d
theorem sTerms_4 {c : Int} : ∀ f k t, (sTerms b n c f k t).1 = 0 → (sTerms b n c f k t).2.2 ≤ 4
  | 0, _, _, e => (pr_no e (by decide)).elim
  | f + 1, k, t, e => by
    rw [sTerms] at e ⊢
    by_cases q : (sTerm b n c k t).1 = 0
    · have h4 := sTerm_k q
      rw [thn_y (f := _) rfl q rfl] at e ⊢
      by_cases w : pK b n (sTerm b n c k t).2.1 = 44
      · rw [if_pos w] at e ⊢; exact sTerms_4 f _ _ e
      · rw [if_neg w] at e ⊢; show k + 1 ≤ 4; omega
    · rw [thn_x rfl q] at e; exact absurd e q
theorem sBy_k {c k : Int} {L : List Int} (e : (sBy b n c k L t).1 = 0) : k < 3 := by
  unfold sBy at e
  by_cases d : pCf b n c t = 0
  · rw [if_pos d] at e
    by_cases m : pV b n t ∈ L
    · rw [if_pos m] at e; exact (pr_no e (by decide)).elim
    · rw [if_neg m] at e
      by_cases q : 3 ≤ k
      · rw [if_pos q] at e; exact (pr_no e (by decide)).elim
      · omega
  · rw [if_neg d] at e; exact absurd e d
theorem sBys_3 {c : Int} : ∀ f k L t, (sBys b n c f k L t).1 = 0 → (sBys b n c f k L t).2.2 ≤ 3
  | 0, _, _, _, e => (pr_no e (by decide)).elim
  | f + 1, k, L, t, e => by
    rw [sBys] at e ⊢
    by_cases q : (sBy b n c k L t).1 = 0
    · have h4 := sBy_k q
      rw [thn_y (f := _) rfl q rfl] at e ⊢
      by_cases w : pK b n (sBy b n c k L t).2.1 = 44
      · rw [if_pos w] at e ⊢; exact sBys_3 f _ _ _ e
      · rw [if_neg w] at e ⊢; show k + 1 ≤ 3; omega
    · rw [thn_x rfl q] at e; exact absurd e q
theorem thn_le {r : pR} {f : Nat → Int → pR} {m : Int} (h : r.1 = 0 → (f r.2.1 r.2.2).1 = 0 → (f r.2.1 r.2.2).2.2 ≤ m) (e : (thn r f).1 = 0) : (thn r f).2.2 ≤ m := by
  by_cases q : r.1 = 0
  · rw [thn_y (f := f) rfl q rfl] at e ⊢; exact h q e
  · rw [thn_x (f := f) rfl q] at e; exact absurd e q
theorem sFo_x {c x : Int} (e : (sFo b n c x t).1 = 0) : (sFo b n c x t).2.2 = x := by
  unfold sFo at e ⊢
  by_cases a : pK b n t = 3 ∧ 16 ≤ pV b n t ∧ pV b n t ≤ 19
  · rw [if_pos a] at e ⊢
    by_cases d : pV b n t = 16
    · rw [if_pos d]
    · rw [if_neg d] at e ⊢
      by_cases w : pCf b n c (t + 1) = 0
      · rw [if_pos w]
      · rw [if_neg w] at e; exact absurd e w
  · rw [if_neg a] at e; exact (pr_no e (by decide)).elim
theorem sTc_4 (e : (sTc b n t).1 = 0) : (sTc b n t).2.2 ≤ 4 := by
  unfold sTc at e ⊢
  by_cases a : pK b n t = 4
  · rw [if_pos a] at e ⊢
    by_cases d : 1 ≤ pV b n t ∧ pV b n t ≤ 4
    · rw [if_pos d]; exact d.2
    · rw [if_neg d] at e; exact (pr_no e (by decide)).elim
  · rw [if_neg a] at e; exact (pr_no e (by decide)).elim
theorem sBody_4 (hc : ∀ r, r < nr → cl r ≤ 4) (h3 : kd ≠ 3) (h8 : kd ≠ 8) (e : (sBody b n nr nt cl kd t).1 = 0) : (sBody b n nr nt cl kd t).2.2 ≤ 4 := by
  unfold sBody at e ⊢
  by_cases k1 : kd = 1
  · rw [if_pos k1] at e ⊢
    unfold sSel at e ⊢
    exact thn_le (fun q => thn_le (fun _ => sTests_4 (sRl_4 hc q) _ _ _)) e
  rw [if_neg k1] at e ⊢
  by_cases k2 : kd = 2
  · rw [if_pos k2] at e ⊢
    unfold sPrj at e ⊢
    exact thn_le (fun _ => sTerms_4 _ _ _) e
  rw [if_neg k2, if_neg h3] at e ⊢
  by_cases k4 : kd = 4 ∨ kd = 5
  · rw [if_pos k4] at e ⊢
    unfold sTwo at e ⊢
    refine thn_le (fun q w => ?_) e
    by_cases a : pRf b n nt nr (sRl b n nr nt cl t).2.1 = 0
    · rw [if_pos a] at w ⊢
      by_cases d : cF b n nr nt cl (sRl b n nr nt cl t).2.1 = (sRl b n nr nt cl t).2.2
      · rw [if_pos d]; exact sRl_4 hc q
      · rw [if_neg d] at w; exact (pr_no w (by decide)).elim
    · rw [if_neg a] at w; exact absurd w a
  rw [if_neg k4] at e ⊢
  by_cases k6 : kd = 6
  · rw [if_pos k6] at e ⊢; exact sRl_4 hc e
  rw [if_neg k6] at e ⊢
  by_cases k7 : kd = 7
  · rw [if_pos k7] at e ⊢
    unfold sGrp at e ⊢
    refine thn_le (fun _ => thn_le (fun _ => thn_le (fun q w => ?_))) e
    have := sBys_3 _ _ _ _ q
    rw [sFo_x w]; omega
  rw [if_neg k7, if_neg h8] at e ⊢
  exact sTc_4 e
/-- a body and the end of its line -/
theorem sBody_M (hc : ∀ r, r < nr → cl r ≤ 4) : thn (sBodyM b n nr nt cl kd t) (fun t x => sTx b n x t) = thn (sBody b n nr nt cl kd t) (fun t x => sClo b n x t) := by
  by_cases k3 : kd = 3
  · subst k3
    show thn (sJoiM b n nr nt cl t) _ = thn (sJoi b n nr nt cl t) _
    unfold sJoiM
    rw [thn_a]
    exact thn_cg (fun _ => sClo_e)
  · by_cases k8 : kd = 8
    · subst k8
      show thn (sRngM b n nr nt cl t) _ = thn (sRng b n nr nt cl t) _
      unfold sRngM
      rw [thn_a]
      exact thn_cg (fun _ => sClo_e)
    · have e : sBodyM b n nr nt cl kd t = sBody b n nr nt cl kd t := by unfold sBodyM; rw [if_neg k3, if_neg k8]
      rw [e]
      exact thn_cg (fun q => sClo_4 (sBody_4 hc k3 k8 q))
theorem sLn_t (hk : pK b n t = 3 ∧ pV b n t = 0) (hb : bh = 0 ↔ ¬ tb < (nr : Int)) : sLine b n nr nt cl tb t = thn (sTbM b n nr nt bh t) (fun t x => sTx b n x t) := by
  unfold sLine sHd sTbM
  rw [if_pos hk]
  by_cases q : 16 ≤ nr
  · rw [if_pos q, if_pos q, thn_x (r := (4, t, 0)) rfl (by show (4 : Int) ≠ 0; decide), thn_x (r := (4, t, 0)) rfl (by show (4 : Int) ≠ 0; decide)]
  · rw [if_neg q, if_neg q]
    by_cases w : tb < (nr : Int)
    · rw [if_pos w, if_neg (fun h => hb.mp h w), thn_x (r := (6, t, 0)) rfl (by show (6 : Int) ≠ 0; decide), thn_x (r := (6, t, 0)) rfl (by show (6 : Int) ≠ 0; decide)]
    · rw [if_neg w, if_pos (hb.mpr w), thn_a]
      refine thn_cg (fun z => ?_)
      rw [sNam_x z]
      show thn (sTc b n _) _ = _
      exact thn_cg (fun y => (sClo_4 (sTc_4 y)).symm)
theorem sLn_v (hc : ∀ r, r < nr → cl r ≤ 4) (hk : pK b n t = 3 ∧ pV b n t = 9) : sLine b n nr nt cl tb t = thn (sVwM b n nr nt cl t) (fun t x => sTx b n x t) := by
  unfold sLine sHd sVwM
  rw [if_neg (show ¬ (pK b n t = 3 ∧ pV b n t = 0) by omega), if_pos hk]
  by_cases q : 16 ≤ nr
  · rw [if_pos q, if_pos q, thn_x (r := (4, t, 0)) rfl (by show (4 : Int) ≠ 0; decide), thn_x (r := (4, t, 0)) rfl (by show (4 : Int) ≠ 0; decide)]
  · rw [if_neg q, if_neg q, thn_a, thn_a]
    refine thn_cg (fun _ => ?_)
    rw [thn_a]
    exact thn_cg (fun _ => (sBody_M hc).symm)
theorem sLn_n (h0 : ¬ (pK b n t = 3 ∧ pV b n t = 0)) (h9 : ¬ (pK b n t = 3 ∧ pV b n t = 9)) : sLine b n nr nt cl tb t = (1, t, 0) := by
  unfold sLine sHd
  rw [if_neg h0, if_neg h9]
  exact thn_x (r := (1, t, 0)) rfl (by show (1 : Int) ≠ 0; decide)
end ML
section MK
variable {g : gG} {gh : gGh} {R : gR} {I I' : gI} {J J' : gJ} {AI : gI} {AJ : gJ} {mo : Nat} {b : tTx} {n nr : Nat} {nt : Nat → Nat} {cl : Nat → Int} {f : Int} {h h0 : Nat} {x : Int}
/-- at the start -/
theorem mQ_i (e4 : (I' mo 24).toInt = 0) (q : tMk b n (tSk b n 0) (I' mo) (J' mo 22)) : mQ gh I' J' AI AJ mo b n 0 nt cl 0 0 :=
  Or.inl ⟨rfl, e4, q, by omega, fun r hr => absurd hr (by omega), fun r s hr => absurd hr (by omega), fun r hr => absurd hr (by omega)⟩
/-- one line more -/
theorem mQ_keep (w : mQ gh I J AI AJ mo b n nr nt cl 0 h) (h15 : nr ≤ 15) (f' : ∀ j, j ≠ 5 → I' mo j = I mo j) (hK : pK b n h0 = 3) (hN : AJ (gh 54 0) nr = pMw b n h0) (hX : tI (AI (gh 53 0)) (40 * (nr : Int) + 1) = x) (hx : 1 ≤ x ∧ x ≤ 4) (hno : pFd b n nt nr h0 = -1) (hKd : tI (AI (gh 53 0)) (40 * (nr : Int)) = kdT b n h0) : mQ gh I' J AI AJ mo b n (nr + 1) (sUp nt nr h0) (sUp cl nr x) 0 h := by
  obtain ⟨l1, l2, l3, l4⟩ := mQ_e w rfl
  have t := mQ_t w rfl
  have nN : ∀ r, r < nr → pN b n (nt r) ≠ pN b n h0 := fun r hr e => by
    have := pFd_at l3 hr e
    omega
  refine Or.inl ⟨rfl, by rw [f' 24 (by decide)]; exact mQ_0 w rfl, ?_, by omega, fun r hr => ?_, fun r s hr hs e => ?_, fun r hr => ?_⟩
  · unfold tMk at t ⊢
    rw [f' 19 (by decide), f' 20 (by decide), f' 21 (by decide), f' 23 (by decide)]
    exact t
  · by_cases k : r = nr
    · subst k
      rw [sUp_s, sUp_s]; exact ⟨hK, hN, hX, hx.1, hx.2⟩
    · rw [sUp_k k, sUp_k k]; exact l2 r (by omega)
  · by_cases k : r = nr
    · by_cases m : s = nr
      · omega
      · rw [k, sUp_s, sUp_k m] at e
        exact absurd e.symm (nN s (by omega))
    · by_cases m : s = nr
      · rw [m, sUp_s, sUp_k k] at e
        exact absurd e (nN r (by omega))
      · rw [sUp_k k, sUp_k m] at e
        exact l3 r s (by omega) (by omega) e
  · by_cases k : r = nr
    · subst k; rw [sUp_s]; exact hKd
    · rw [sUp_k k]; exact l4 r (by omega)
theorem kdT_t {b : tTx} {n h : Nat} (k : pV b n h = 0) : kdT b n (h + 1) = 0 := if_pos k
theorem kdT_v {b : tTx} {n h : Nat} (k : pV b n h ≠ 0) : kdT b n (h + 1) = pV b n (h + 3) := if_neg k
theorem mE_4 (w : mE gh AI AJ b n nr nt cl) : ∀ r, r < nr → cl r ≤ 4 := fun r hr => (w.2.1 r hr).2.2.2.2
end MK
/-- whether a view has been told -/
def pBt (bh tb : Int) (nr : Nat) : Prop := (bh = 0 ∧ tb = (nr : Int)) ∨ (bh = 1 ∧ tb < (nr : Int))
theorem pBt_i {bh tb : Int} {nr : Nat} (h : pBt bh tb nr) : bh = 0 ↔ ¬ tb < (nr : Int) := by unfold pBt at h; omega
theorem pBt_t {bh tb : Int} {nr : Nat} (h : pBt bh tb nr) (e : bh = 0) : pBt bh (tb + 1) (nr + 1) := by unfold pBt at h ⊢; omega
theorem pBt_v {bh tb : Int} {nr : Nat} (h : pBt bh tb nr) : pBt 1 tb (nr + 1) := by unfold pBt at h ⊢; omega
/-- a line that is read has a new name -/
theorem sLn_nm {b : tTx} {n nr : Nat} {nt : Nat → Nat} {cl : Nat → Int} {tb : Int} {t : Nat} {r : pR} (e : r = sLine b n nr nt cl tb t) (_ : pK b n t ≠ 0) (h0 : r.1 = 0) : pK b n (t + 1) = 3 ∧ pFd b n nt nr (t + 1) = -1 := by
  subst e
  unfold sLine at h0
  by_cases q : (sHd b n nr nt tb t).1 = 0
  · have w := sHd_0 (r := sHd b n nr nt tb t) rfl q
    refine ⟨?_, w.1⟩
    have nm : (sNam b n nr nt (t + 1)).1 = 0 := by
      unfold sHd at q
      by_cases k : pK b n t = 3 ∧ pV b n t = 0
      · rw [if_pos k] at q
        by_cases a : 16 ≤ nr
        · rw [if_pos a] at q; exact (pr_no q (by decide)).elim
        · rw [if_neg a] at q
          by_cases m : tb < (nr : Int)
          · rw [if_pos m] at q; exact (pr_no q (by decide)).elim
          · rw [if_neg m] at q; exact q
      · rw [if_neg k] at q
        by_cases k2 : pK b n t = 3 ∧ pV b n t = 9
        · rw [if_pos k2] at q
          by_cases a : 16 ≤ nr
          · rw [if_pos a] at q; exact (pr_no q (by decide)).elim
          · rw [if_neg a] at q
            by_cases m : (sNam b n nr nt (t + 1)).1 = 0
            · exact m
            · rw [thn_x rfl m] at q; exact absurd q m
        · rw [if_neg k2] at q; exact (pr_no q (by decide)).elim
    rcases sNam_c (r := sNam b n nr nt (t + 1)) rfl with ⟨_, p⟩ | ⟨kd, e, p⟩
    · exact p.1
    · rw [e] at nm; exact absurd nm (by show kd ≠ 0; omega)
  · rw [thn_x rfl q] at h0; exact absurd h0 q
