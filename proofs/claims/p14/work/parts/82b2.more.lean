section
theorem thn_t {k v : Int} {h : Nat} {s y : pR} {f : Nat → Int → pR} (e : s = (k, h, v)) (hk : k = 0) (K : f h v = y) : thn s f = y := by rw [e]; subst hk; exact K
end
section
section SBM
variable {b : tTx} {n nr : Nat} {nt : Nat → Nat} {cl : Nat → Int} {kd : Int} {t : Nat}
theorem sBM_1 (e : kd = 1) : sBodyM b n nr nt cl kd t = sSel b n nr nt cl t := by subst e; rfl
theorem sBM_2 (e : kd = 2) : sBodyM b n nr nt cl kd t = sPrj b n nr nt cl t := by subst e; rfl
theorem sBM_3 (e : kd = 3) : sBodyM b n nr nt cl kd t = sJoiM b n nr nt cl t := by subst e; rfl
theorem sBM_4 (e : kd = 4) : sBodyM b n nr nt cl kd t = sTwo b n nr nt cl t := by subst e; rfl
theorem sBM_5 (e : kd = 5) : sBodyM b n nr nt cl kd t = sTwo b n nr nt cl t := by subst e; rfl
theorem sBM_6 (e : kd = 6) : sBodyM b n nr nt cl kd t = sRl b n nr nt cl t := by subst e; rfl
theorem sBM_7 (e : kd = 7) : sBodyM b n nr nt cl kd t = sGrp b n nr nt cl t := by subst e; rfl
theorem sBM_8 (e : kd = 8) : sBodyM b n nr nt cl kd t = sRngM b n nr nt cl t := by subst e; rfl
end SBM
end
section
def pFo (z K V : Int) : Prop := (z = -1 ∧ ¬ (K = 3 ∧ 16 ≤ V ∧ V ≤ 19)) ∨ (0 ≤ z ∧ K = 3 ∧ V = 16 + z ∧ z ≤ 3)
theorem pFo_y {z K V : Int} (h : pFo z K V) (k : 0 ≤ z) : K = 3 ∧ V = 16 + z ∧ z ≤ 3 := by rcases h with h | h; (· exact absurd h.1 (by omega)); (· exact h.2)
theorem pFo_n {z K V : Int} (h : pFo z K V) (k : z < 0) : ¬ (K = 3 ∧ 16 ≤ V ∧ V ≤ 19) := by rcases h with h | h; (· exact h.2); (· exact absurd h.1 (by omega))
section Fo
variable {b : tTx} {n : Nat} {c x : Int} {h : Nat}
theorem sFo_0 (a : pK b n h = 3) (v : pV b n h = 16) : sFo b n c x h = (0, h + 1, x) := by unfold sFo; rw [if_pos ⟨a, by omega, by omega⟩, if_pos v]
theorem sFo_c (a : pK b n h = 3) (v : 17 ≤ pV b n h ∧ pV b n h ≤ 19) (w : pCf b n c (h + 1) = 0) : sFo b n c x h = (0, h + 2, x) := by unfold sFo; rw [if_pos ⟨a, by omega, by omega⟩, if_neg (by omega), if_pos w]
theorem sFo_v (a : pK b n h = 3) (v : 17 ≤ pV b n h ∧ pV b n h ≤ 19) (w : pCf b n c (h + 1) ≠ 0) : sFo b n c x h = (pCf b n c (h + 1), h + 1, 0) := by unfold sFo; rw [if_pos ⟨a, by omega, by omega⟩, if_neg (by omega), if_neg w]
theorem sFo_n (a : ¬ (pK b n h = 3 ∧ 16 ≤ pV b n h ∧ pV b n h ≤ 19)) : sFo b n c x h = (1, h, 0) := by unfold sFo; rw [if_neg a]
end Fo
end
section
/-! a line, as the reference reads it, is a line as the class reads it -/
def sTx (b : tTx) (n : Nat) (x : Int) (t : Nat) : pR := if pK b n t = 59 then (0, t + 1, x) else (1, t, 0)
section ML
variable {b : tTx} {n nr : Nat} {nt : Nat → Nat} {cl : Nat → Int} {kd tb bh : Int} {t : Nat}
theorem sClo_e {x : Int} : thn (sEnd b n x t) (fun t x => sTx b n x t) = sClo b n x t := by
  unfold sEnd sClo
  by_cases q : pK b n t = 59 ∧ 4 < x
  · rw [if_pos q, if_pos q.1, if_pos q.2]; exact thn_x (r := (5, t, 0)) rfl (by show (5 : Int) ≠ 0; decide)
  · rw [if_neg q]
    show sTx b n x t = _
    unfold sTx
    by_cases k : pK b n t = 59
    · rw [if_pos k, if_pos k, if_neg (fun h => q ⟨k, h⟩)]
    · rw [if_neg k, if_neg k]
theorem sClo_4 {x : Int} (h : x ≤ 4) : sTx b n x t = sClo b n x t := by
  unfold sTx sClo
  rw [if_neg (show ¬ 4 < x by omega)]
theorem thn_cg {r : pR} {f k : Nat → Int → pR} (h : r.1 = 0 → f r.2.1 r.2.2 = k r.2.1 r.2.2) : thn r f = thn r k := by
  by_cases q : r.1 = 0
  · exact (thn_y rfl q (h q)).trans (thn_y (f := k) rfl q rfl).symm
  · rw [thn_x (f := f) rfl q, thn_x (f := k) rfl q]
theorem cF_4 (hc : ∀ r, r < nr → cl r ≤ 4) (e : pRf b n nt nr t = 0) : cF b n nr nt cl t ≤ 4 := by
  have w := pRf_i e
  unfold cF
  refine hc _ ?_
  have k : ∀ f w, pFdF b n nt t f w < (w : Int) + (f : Int) ∨ pFdF b n nt t f w = -1 := by
    intro f
    induction f with
    | zero => intro w; exact Or.inr rfl
    | succ f ih =>
      intro w
      rw [pFdF]
      by_cases q : pN b n (nt w) = pN b n t
      · rw [if_pos q]; omega
      · rw [if_neg q]
        have := ih (w + 1)
        omega
  have kk := k nr 0
  have w2 := w.2
  unfold pFd at w2 ⊢
  omega
theorem sRl_4 (hc : ∀ r, r < nr → cl r ≤ 4) (e : (sRl b n nr nt cl t).1 = 0) : (sRl b n nr nt cl t).2.2 ≤ 4 := by
  rcases sRl_c (r := sRl b n nr nt cl t) rfl with ⟨h, p⟩ | ⟨h, p⟩
  · rw [h]; exact cF_4 hc p.1
  · rw [h] at e; exact absurd e p.1
theorem sTests_4 {c : Int} (hc : c ≤ 4) : ∀ f k t, (sTests b n c f k t).1 = 0 → (sTests b n c f k t).2.2 ≤ 4
  | 0, _, _, e => (pr_no e (by decide)).elim
  | f + 1, k, t, e => by
    rw [sTests] at e ⊢
    by_cases q : (sTest b n c k t).1 = 0
    · rw [thn_y (f := _) rfl q rfl] at e ⊢
      by_cases w : pK b n (sTest b n c k t).2.1 = 3 ∧ pV b n (sTest b n c k t).2.1 = 11
      · rw [if_pos w] at e ⊢; exact sTests_4 hc f _ _ e
      · rw [if_neg w] at e ⊢; exact hc
    · rw [thn_x rfl q] at e; exact absurd e q
theorem sTerm_k {c k : Int} (e : (sTerm b n c k t).1 = 0) : k < 4 := by
  unfold sTerm at e
  by_cases a : pK b n t = 4
  · rw [if_pos a] at e
    by_cases q : 4 ≤ k
    · rw [if_pos q] at e; exact (pr_no e (by decide)).elim
    · omega
  · rw [if_neg a] at e
    by_cases d : pCf b n c t = 0
    · rw [if_pos d] at e
      by_cases q : 4 ≤ k
      · rw [if_pos q] at e; exact (pr_no e (by decide)).elim
      · omega
    · rw [if_neg d] at e; exact absurd e d
theorem sTerms_4 {c : Int} : ∀ f k t, (sTerms b n c f k t).1 = 0 → (sTerms b n c f k t).2.2 ≤ 4
  | 0, _, _, e => (pr_no e (by decide)).elim
  | f + 1, k, t, e => by
    rw [sTerms] at e ⊢
    by_cases q : (sTerm b n c k t).1 = 0
    · have h4 := sTerm_k q
      rw [thn_y (f := _) rfl q rfl] at e ⊢
      by_cases w : pK b n (sTerm b n c k t).2.1 = 44
      · rw [if_pos w] at e ⊢; exact sTerms_4 f _ _ e
      · rw [if_neg w] at e ⊢; show k + 1 ≤ 4; omega
    · rw [thn_x rfl q] at e; exact absurd e q
theorem sBy_k {c k : Int} {L : List Int} (e : (sBy b n c k L t).1 = 0) : k < 3 := by
  unfold sBy at e
  by_cases d : pCf b n c t = 0
  · rw [if_pos d] at e
    by_cases m : pV b n t ∈ L
    · rw [if_pos m] at e; exact (pr_no e (by decide)).elim
    · rw [if_neg m] at e
      by_cases q : 3 ≤ k
      · rw [if_pos q] at e; exact (pr_no e (by decide)).elim
      · omega
  · rw [if_neg d] at e; exact absurd e d
theorem sBys_3 {c : Int} : ∀ f k L t, (sBys b n c f k L t).1 = 0 → (sBys b n c f k L t).2.2 ≤ 3
  | 0, _, _, _, e => (pr_no e (by decide)).elim
  | f + 1, k, L, t, e => by
    rw [sBys] at e ⊢
    by_cases q : (sBy b n c k L t).1 = 0
    · have h4 := sBy_k q
      rw [thn_y (f := _) rfl q rfl] at e ⊢
      by_cases w : pK b n (sBy b n c k L t).2.1 = 44
      · rw [if_pos w] at e ⊢; exact sBys_3 f _ _ _ e
      · rw [if_neg w] at e ⊢; show k + 1 ≤ 3; omega
    · rw [thn_x rfl q] at e; exact absurd e q
theorem thn_le {r : pR} {f : Nat → Int → pR} {m : Int} (h : r.1 = 0 → (f r.2.1 r.2.2).1 = 0 → (f r.2.1 r.2.2).2.2 ≤ m) (e : (thn r f).1 = 0) : (thn r f).2.2 ≤ m := by
  by_cases q : r.1 = 0
  · rw [thn_y (f := f) rfl q rfl] at e ⊢; exact h q e
  · rw [thn_x (f := f) rfl q] at e; exact absurd e q
theorem sFo_x {c x : Int} (e : (sFo b n c x t).1 = 0) : (sFo b n c x t).2.2 = x := by
  unfold sFo at e ⊢
  by_cases a : pK b n t = 3 ∧ 16 ≤ pV b n t ∧ pV b n t ≤ 19
  · rw [if_pos a] at e ⊢
    by_cases d : pV b n t = 16
    · rw [if_pos d]
    · rw [if_neg d] at e ⊢
      by_cases w : pCf b n c (t + 1) = 0
      · rw [if_pos w]
      · rw [if_neg w] at e; exact absurd e w
  · rw [if_neg a] at e; exact (pr_no e (by decide)).elim
theorem sTc_4 (e : (sTc b n t).1 = 0) : (sTc b n t).2.2 ≤ 4 := by
  unfold sTc at e ⊢
  by_cases a : pK b n t = 4
  · rw [if_pos a] at e ⊢
    by_cases d : 1 ≤ pV b n t ∧ pV b n t ≤ 4
    · rw [if_pos d]; exact d.2
    · rw [if_neg d] at e; exact (pr_no e (by decide)).elim
  · rw [if_neg a] at e; exact (pr_no e (by decide)).elim
theorem sBody_4 (hc : ∀ r, r < nr → cl r ≤ 4) (h3 : kd ≠ 3) (h8 : kd ≠ 8) (e : (sBody b n nr nt cl kd t).1 = 0) : (sBody b n nr nt cl kd t).2.2 ≤ 4 := by
  unfold sBody at e ⊢
  by_cases k1 : kd = 1
  · rw [if_pos k1] at e ⊢
    unfold sSel at e ⊢
    exact thn_le (fun q => thn_le (fun _ => sTests_4 (sRl_4 hc q) _ _ _)) e
  rw [if_neg k1] at e ⊢
  by_cases k2 : kd = 2
  · rw [if_pos k2] at e ⊢
    unfold sPrj at e ⊢
    exact thn_le (fun _ => sTerms_4 _ _ _) e
  rw [if_neg k2, if_neg h3] at e ⊢
  by_cases k4 : kd = 4 ∨ kd = 5
  · rw [if_pos k4] at e ⊢
    unfold sTwo at e ⊢
    refine thn_le (fun q w => ?_) e
    by_cases a : pRf b n nt nr (sRl b n nr nt cl t).2.1 = 0
    · rw [if_pos a] at w ⊢
      by_cases d : cF b n nr nt cl (sRl b n nr nt cl t).2.1 = (sRl b n nr nt cl t).2.2
      · rw [if_pos d]; exact sRl_4 hc q
      · rw [if_neg d] at w; exact (pr_no w (by decide)).elim
    · rw [if_neg a] at w; exact absurd w a
  rw [if_neg k4] at e ⊢
  by_cases k6 : kd = 6
  · rw [if_pos k6] at e ⊢; exact sRl_4 hc e
  rw [if_neg k6] at e ⊢
  by_cases k7 : kd = 7
  · rw [if_pos k7] at e ⊢
    unfold sGrp at e ⊢
    refine thn_le (fun _ => thn_le (fun _ => thn_le (fun q w => ?_))) e
    have := sBys_3 _ _ _ _ q
    rw [sFo_x w]; omega
  rw [if_neg k7, if_neg h8] at e ⊢
  exact sTc_4 e
/-- a body and the end of its line -/
theorem sBody_M (hc : ∀ r, r < nr → cl r ≤ 4) : thn (sBodyM b n nr nt cl kd t) (fun t x => sTx b n x t) = thn (sBody b n nr nt cl kd t) (fun t x => sClo b n x t) := by
  by_cases k3 : kd = 3
  · subst k3
    show thn (sJoiM b n nr nt cl t) _ = thn (sJoi b n nr nt cl t) _
    unfold sJoiM
    rw [thn_a]
    exact thn_cg (fun _ => sClo_e)
  · by_cases k8 : kd = 8
    · subst k8
      show thn (sRngM b n nr nt cl t) _ = thn (sRng b n nr nt cl t) _
      unfold sRngM
      rw [thn_a]
      exact thn_cg (fun _ => sClo_e)
    · have e : sBodyM b n nr nt cl kd t = sBody b n nr nt cl kd t := by unfold sBodyM; rw [if_neg k3, if_neg k8]
      rw [e]
      exact thn_cg (fun q => sClo_4 (sBody_4 hc k3 k8 q))
theorem sLn_t (hk : pK b n t = 3 ∧ pV b n t = 0) (hb : bh = 0 ↔ ¬ tb < (nr : Int)) : sLine b n nr nt cl tb t = thn (sTbM b n nr nt bh t) (fun t x => sTx b n x t) := by
  unfold sLine sHd sTbM
  rw [if_pos hk]
  by_cases q : 16 ≤ nr
  · rw [if_pos q, if_pos q, thn_x (r := (4, t, 0)) rfl (by show (4 : Int) ≠ 0; decide), thn_x (r := (4, t, 0)) rfl (by show (4 : Int) ≠ 0; decide)]
  · rw [if_neg q, if_neg q]
    by_cases w : tb < (nr : Int)
    · rw [if_pos w, if_neg (fun h => hb.mp h w), thn_x (r := (6, t, 0)) rfl (by show (6 : Int) ≠ 0; decide), thn_x (r := (6, t, 0)) rfl (by show (6 : Int) ≠ 0; decide)]
    · rw [if_neg w, if_pos (hb.mpr w), thn_a]
      refine thn_cg (fun z => ?_)
      rw [sNam_x z]
      show thn (sTc b n _) _ = _
      exact thn_cg (fun y => (sClo_4 (sTc_4 y)).symm)
theorem sLn_v (hc : ∀ r, r < nr → cl r ≤ 4) (hk : pK b n t = 3 ∧ pV b n t = 9) : sLine b n nr nt cl tb t = thn (sVwM b n nr nt cl t) (fun t x => sTx b n x t) := by
  unfold sLine sHd sVwM
  rw [if_neg (show ¬ (pK b n t = 3 ∧ pV b n t = 0) by omega), if_pos hk]
  by_cases q : 16 ≤ nr
  · rw [if_pos q, if_pos q, thn_x (r := (4, t, 0)) rfl (by show (4 : Int) ≠ 0; decide), thn_x (r := (4, t, 0)) rfl (by show (4 : Int) ≠ 0; decide)]
  · rw [if_neg q, if_neg q, thn_a, thn_a]
    refine thn_cg (fun _ => ?_)
    rw [thn_a]
    exact thn_cg (fun _ => (sBody_M hc).symm)
theorem sLn_n (h0 : ¬ (pK b n t = 3 ∧ pV b n t = 0)) (h9 : ¬ (pK b n t = 3 ∧ pV b n t = 9)) : sLine b n nr nt cl tb t = (1, t, 0) := by
  unfold sLine sHd
  rw [if_neg h0, if_neg h9]
  exact thn_x (r := (1, t, 0)) rfl (by show (1 : Int) ≠ 0; decide)
end ML
section MK
variable {g : gG} {gh : gGh} {R : gR} {I I' : gI} {J J' : gJ} {AI : gI} {AJ : gJ} {mo : Nat} {b : tTx} {n nr : Nat} {nt : Nat → Nat} {cl : Nat → Int} {f : Int} {h h0 : Nat} {x : Int}
/-- at the start -/
theorem mQ_i (e4 : (I' mo 24).toInt = 0) (q : tMk b n (tSk b n 0) (I' mo) (J' mo 22)) : mQ gh I' J' AI AJ mo b n 0 nt cl 0 0 :=
  Or.inl ⟨rfl, e4, q, by omega, fun r hr => absurd hr (by omega), fun r s hr => absurd hr (by omega), fun r hr => absurd hr (by omega)⟩
/-- one line more -/
theorem mQ_keep (w : mQ gh I J AI AJ mo b n nr nt cl 0 h) (h15 : nr ≤ 15) (f' : ∀ j, j ≠ 5 → I' mo j = I mo j) (hK : pK b n h0 = 3) (hN : AJ (gh 54 0) nr = pMw b n h0) (hX : tI (AI (gh 53 0)) (40 * (nr : Int) + 1) = x) (hx : 1 ≤ x ∧ x ≤ 4) (hno : pFd b n nt nr h0 = -1) (hKd : tI (AI (gh 53 0)) (40 * (nr : Int)) = kdT b n h0) : mQ gh I' J AI AJ mo b n (nr + 1) (sUp nt nr h0) (sUp cl nr x) 0 h := by
  obtain ⟨l1, l2, l3, l4⟩ := mQ_e w rfl
  have t := mQ_t w rfl
  have nN : ∀ r, r < nr → pN b n (nt r) ≠ pN b n h0 := fun r hr e => by
    have := pFd_at l3 hr e
    omega
  refine Or.inl ⟨rfl, by rw [f' 24 (by decide)]; exact mQ_0 w rfl, ?_, by omega, fun r hr => ?_, fun r s hr hs e => ?_, fun r hr => ?_⟩
  · unfold tMk at t ⊢
    rw [f' 19 (by decide), f' 20 (by decide), f' 21 (by decide), f' 23 (by decide)]
    exact t
  · by_cases k : r = nr
    · subst k
      rw [sUp_s, sUp_s]; exact ⟨hK, hN, hX, hx.1, hx.2⟩
    · rw [sUp_k k, sUp_k k]; exact l2 r (by omega)
  · by_cases k : r = nr
    · by_cases m : s = nr
      · omega
      · rw [k, sUp_s, sUp_k m] at e
        exact absurd e.symm (nN s (by omega))
    · by_cases m : s = nr
      · rw [m, sUp_s, sUp_k k] at e
        exact absurd e (nN r (by omega))
      · rw [sUp_k k, sUp_k m] at e
        exact l3 r s (by omega) (by omega) e
  · by_cases k : r = nr
    · subst k; rw [sUp_s]; exact hKd
    · rw [sUp_k k]; exact l4 r (by omega)
theorem kdT_t {b : tTx} {n h : Nat} (k : pV b n h = 0) : kdT b n (h + 1) = 0 := if_pos k
theorem kdT_v {b : tTx} {n h : Nat} (k : pV b n h ≠ 0) : kdT b n (h + 1) = pV b n (h + 3) := if_neg k
theorem mE_4 (w : mE gh AI AJ b n nr nt cl) : ∀ r, r < nr → cl r ≤ 4 := fun r hr => (w.2.1 r hr).2.2.2.2
end MK
/-- whether a view has been told -/
def pBt (bh tb : Int) (nr : Nat) : Prop := (bh = 0 ∧ tb = (nr : Int)) ∨ (bh = 1 ∧ tb < (nr : Int))
theorem pBt_i {bh tb : Int} {nr : Nat} (h : pBt bh tb nr) : bh = 0 ↔ ¬ tb < (nr : Int) := by unfold pBt at h; omega
theorem pBt_t {bh tb : Int} {nr : Nat} (h : pBt bh tb nr) (e : bh = 0) : pBt bh (tb + 1) (nr + 1) := by unfold pBt at h ⊢; omega
theorem pBt_v {bh tb : Int} {nr : Nat} (h : pBt bh tb nr) : pBt 1 tb (nr + 1) := by unfold pBt at h ⊢; omega
/-- a line that is read has a new name -/
theorem sLn_nm {b : tTx} {n nr : Nat} {nt : Nat → Nat} {cl : Nat → Int} {tb : Int} {t : Nat} {r : pR} (e : r = sLine b n nr nt cl tb t) (_ : pK b n t ≠ 0) (h0 : r.1 = 0) : pK b n (t + 1) = 3 ∧ pFd b n nt nr (t + 1) = -1 := by
  subst e
  unfold sLine at h0
  by_cases q : (sHd b n nr nt tb t).1 = 0
  · have w := sHd_0 (r := sHd b n nr nt tb t) rfl q
    refine ⟨?_, w.1⟩
    have nm : (sNam b n nr nt (t + 1)).1 = 0 := by
      unfold sHd at q
      by_cases k : pK b n t = 3 ∧ pV b n t = 0
      · rw [if_pos k] at q
        by_cases a : 16 ≤ nr
        · rw [if_pos a] at q; exact (pr_no q (by decide)).elim
        · rw [if_neg a] at q
          by_cases m : tb < (nr : Int)
          · rw [if_pos m] at q; exact (pr_no q (by decide)).elim
          · rw [if_neg m] at q; exact q
      · rw [if_neg k] at q
        by_cases k2 : pK b n t = 3 ∧ pV b n t = 9
        · rw [if_pos k2] at q
          by_cases a : 16 ≤ nr
          · rw [if_pos a] at q; exact (pr_no q (by decide)).elim
          · rw [if_neg a] at q
            by_cases m : (sNam b n nr nt (t + 1)).1 = 0
            · exact m
            · rw [thn_x rfl m] at q; exact absurd q m
        · rw [if_neg k2] at q; exact (pr_no q (by decide)).elim
    rcases sNam_c (r := sNam b n nr nt (t + 1)) rfl with ⟨_, p⟩ | ⟨kd, e, p⟩
    · exact p.1
    · rw [e] at nm; exact absurd nm (by show kd ≠ 0; omega)
  · rw [thn_x rfl q] at h0; exact absurd h0 q
end
section
def pKd (z K V : Int) : Prop := (z = -1 ∧ ¬ (K = 3 ∧ 1 ≤ V ∧ V ≤ 8)) ∨ (1 ≤ z ∧ z ≤ 8 ∧ K = 3 ∧ V = z)
theorem pKd_y {z K V : Int} (h : pKd z K V) (k : 0 ≤ z) : 1 ≤ z ∧ z ≤ 8 ∧ K = 3 ∧ V = z := by rcases h with h | h; (· exact absurd h.1 (by omega)); (· exact h)
theorem pKd_n {z K V : Int} (h : pKd z K V) (k : z < 0) : ¬ (K = 3 ∧ 1 ≤ V ∧ V ≤ 8) := by rcases h with h | h; (· exact h.2); (· exact absurd h.1 (by omega))
theorem pKd_m {K V : Int} (a : Hid (¬ (K = 3 ∧ V = ((1 : Nat) : Int)))) (b : Hid (¬ (K = 3 ∧ V = ((2 : Nat) : Int)))) (c : Hid (¬ (K = 3 ∧ V = ((3 : Nat) : Int)))) (d : Hid (¬ (K = 3 ∧ V = ((4 : Nat) : Int)))) (e : Hid (¬ (K = 3 ∧ V = ((5 : Nat) : Int)))) (f : Hid (¬ (K = 3 ∧ V = ((6 : Nat) : Int)))) (g : Hid (¬ (K = 3 ∧ V = ((7 : Nat) : Int)))) (h : Hid (¬ (K = 3 ∧ V = ((8 : Nat) : Int)))) : ¬ (K = 3 ∧ 1 ≤ V ∧ V ≤ 8) := fun ⟨k, l, m⟩ => by
  unfold Hid at *
  have : V = 1 ∨ V = 2 ∨ V = 3 ∨ V = 4 ∨ V = 5 ∨ V = 6 ∨ V = 7 ∨ V = 8 := by omega
  rcases this with q | q | q | q | q | q | q | q
  · exact a ⟨k, q⟩
  · exact b ⟨k, q⟩
  · exact c ⟨k, q⟩
  · exact d ⟨k, q⟩
  · exact e ⟨k, q⟩
  · exact f ⟨k, q⟩
  · exact g ⟨k, q⟩
  · exact h ⟨k, q⟩
end
section
/-! rows in order: their keys, compared one by one -/
def kcF (u v : Nat → Int) : Nat → Nat → Int
  | 0, _ => 0
  | m + 1, s => if u s = v s then kcF u v m (s + 1) else if u s < v s then -1 else 1
def kc (m : Nat) (u v : Nat → Int) : Int := kcF u v m 0
/-- the numbers of a list from a place on -/
def rk (f : Nat → Int32) (i : Int) : Nat → Int := fun t => (f (i.toNat + t)).toInt
section KC
variable {u v w u' v' : Nat → Int} {m s : Nat}
theorem kcF_e (h : u s = v s) : kcF u v (m + 1) s = kcF u v m (s + 1) := by rw [kcF, if_pos h]
theorem kcF_l (h : u s < v s) : kcF u v (m + 1) s = -1 := by rw [kcF, if_neg (by omega), if_pos h]
theorem kcF_g (h : v s < u s) : kcF u v (m + 1) s = 1 := by rw [kcF, if_neg (by omega), if_neg (by omega)]
theorem kcF_r : ∀ (m s : Nat), kcF u v m s = -1 ∨ kcF u v m s = 0 ∨ kcF u v m s = 1
  | 0, _ => Or.inr (Or.inl rfl)
  | m + 1, s => by
    by_cases h : u s = v s
    · rw [kcF_e h]; exact kcF_r m (s + 1)
    · by_cases k : u s < v s
      · exact Or.inl (kcF_l k)
      · exact Or.inr (Or.inr (kcF_g (by omega)))
theorem kc_r : kc m u v = -1 ∨ kc m u v = 0 ∨ kc m u v = 1 := kcF_r m 0
theorem kcF_c : ∀ (m s : Nat), (∀ t, s ≤ t → t < s + m → u t = u' t) → (∀ t, s ≤ t → t < s + m → v t = v' t) → kcF u v m s = kcF u' v' m s
  | 0, _, _, _ => rfl
  | m + 1, s, h, k => by
    have e1 := h s (Nat.le_refl _) (by omega)
    have e2 := k s (Nat.le_refl _) (by omega)
    have ih := kcF_c m (s + 1) (fun t a b => h t (by omega) (by omega)) (fun t a b => k t (by omega) (by omega))
    rw [kcF, kcF, e1, e2, ih]
theorem kc_c (h : ∀ t, t < m → u t = u' t) (k : ∀ t, t < m → v t = v' t) : kc m u v = kc m u' v' := kcF_c m 0 (fun t _ b => h t (by omega)) (fun t _ b => k t (by omega))
theorem kcF_s : ∀ (m s : Nat), kcF v u m s = - kcF u v m s
  | 0, _ => rfl
  | m + 1, s => by
    by_cases h : u s = v s
    · rw [kcF_e h, kcF_e h.symm]; exact kcF_s m (s + 1)
    · by_cases k : u s < v s
      · rw [kcF_l k, kcF_g k]; rfl
      · rw [kcF_g (u := u) (v := v) (by omega), kcF_l (u := v) (v := u) (by omega)]
theorem kc_s : kc m v u = - kc m u v := kcF_s m 0
theorem kcF_0 : ∀ (m s : Nat), kcF u v m s = 0 ↔ ∀ t, s ≤ t → t < s + m → u t = v t
  | 0, s => ⟨fun _ t h k => absurd k (by omega), fun _ => rfl⟩
  | m + 1, s => by
    have ih := kcF_0 m (s + 1)
    by_cases h : u s = v s
    · rw [kcF_e h, ih]
      refine ⟨fun q t a b => ?_, fun q t a b => q t (by omega) (by omega)⟩
      by_cases e : t = s
      · rw [e]; exact h
      · exact q t (by omega) (by omega)
    · refine ⟨fun q => ?_, fun q => absurd (q s (Nat.le_refl _) (by omega)) h⟩
      by_cases k : u s < v s
      · rw [kcF_l k] at q; exact absurd q (by decide)
      · rw [kcF_g (by omega)] at q; exact absurd q (by decide)
theorem kc_0 : kc m u v = 0 ↔ ∀ t, t < m → u t = v t := by
  unfold kc
  rw [kcF_0]
  exact ⟨fun q t h => q t (Nat.zero_le _) (by omega), fun q t _ h => q t (by omega)⟩
theorem kcF_t : ∀ (m s : Nat), kcF u v m s ≤ 0 → kcF v w m s ≤ 0 → (kcF u v m s < 0 ∨ kcF v w m s < 0 → kcF u w m s = -1) ∧ (kcF u v m s = 0 → kcF v w m s = 0 → kcF u w m s = 0)
  | 0, _, _, _ => ⟨fun h => by rcases h with h | h <;> exact absurd h (Int.lt_irrefl 0), fun _ _ => rfl⟩
  | m + 1, s, a, b => by
    by_cases h : u s = v s
    · by_cases k : v s = w s
      · rw [kcF_e h] at a ⊢
        rw [kcF_e k] at b ⊢
        rw [kcF_e (h.trans k)]
        exact kcF_t m (s + 1) a b
      · by_cases k2 : v s < w s
        · rw [kcF_l k2, kcF_l (u := u) (v := w) (by omega)]
          exact ⟨fun _ => rfl, fun _ h => absurd h (by decide)⟩
        · rw [kcF_g (u := v) (v := w) (by omega)] at b; exact absurd b (by decide)
    · by_cases h2 : u s < v s
      · by_cases k : v s = w s
        · rw [kcF_l h2, kcF_l (u := u) (v := w) (by omega)]
          exact ⟨fun _ => rfl, fun h => absurd h (by decide)⟩
        · by_cases k2 : v s < w s
          · rw [kcF_l h2, kcF_l (u := u) (v := w) (by omega)]
            exact ⟨fun _ => rfl, fun h => absurd h (by decide)⟩
          · rw [kcF_g (u := v) (v := w) (by omega)] at b; exact absurd b (by decide)
      · rw [kcF_g (u := u) (v := v) (by omega)] at a; exact absurd a (by decide)
theorem kc_t (a : kc m u v ≤ 0) (b : kc m v w ≤ 0) (c : kc m u v < 0 ∨ kc m v w < 0) : kc m u w = -1 := (kcF_t m 0 a b).1 c
end KC
/-- the rows of a list of six ints each: their keys -/
def ry6 (f : Nat → Int32) (i : Nat) : Nat → Int := rk f (6 * (i : Int))
theorem ry6_e {f : Nat → Int32} {i t : Nat} : ry6 f i t = (f (6 * i + t)).toInt := by
  unfold ry6 rk
  rw [show (6 * (i : Int)).toNat = 6 * i by omega]
/-- what a search answers: the row, or -1 less the place -/
def fdK (K : Nat) (f : Nat → Int32) (n : Int) (u : Nat → Int) (z : Int) : Prop :=
  (0 ≤ z ∧ z < n ∧ kc K (ry6 f z.toNat) u = 0) ∨ (z < 0 ∧ -1 - n ≤ z ∧ (0 < -1 - z → kc K (ry6 f (-1 - z - 1).toNat) u = -1) ∧ (-1 - z < n → kc K (ry6 f (-1 - z).toNat) u = 1))
/-- rows in order -/
def srt (K : Nat) (f : Nat → Int32) (n : Int) : Prop := ∀ i j : Nat, i < j → (j : Int) < n → kc K (ry6 f i) (ry6 f j) = -1
/-- a row comes in at r: its key, n behind it -/
def insP (K : Nat) (f f' : Nat → Int32) (u : Nat → Int) (r len n : Int) : Prop :=
  (∀ j : Nat, (j : Int) < 6 * r → f' j = f j) ∧ (∀ t : Nat, t < K → (f' ((6 * r).toNat + t)).toInt = u t) ∧ f' ((6 * r).toNat + K) = iI n ∧ (K = 4 → f' ((6 * r).toNat + 5) = 0) ∧ (∀ j : Nat, 6 * r ≤ (j : Int) → (j : Int) < 6 * len → f' (j + 6) = f j)
/-- a row goes out -/
def remP (f f' : Nat → Int32) (r len : Int) : Prop := (∀ j : Nat, (j : Int) < 6 * r → f' j = f j) ∧ (∀ j : Nat, 6 * r ≤ (j : Int) → (j : Int) < 6 * (len - 1) → f' j = f (j + 6))
/-- a row's amount alone becomes another -/
def setP (K : Nat) (f f' : Nat → Int32) (r v : Int) : Prop := (∀ j : Nat, j ≠ (6 * r).toNat + K → f' j = f j) ∧ f' ((6 * r).toNat + K) = iI v
/-- the amount of a key is more by n -/
def addP (K : Nat) (lim : Int) (f f' : Nat → Int32) (len len' : Int) (u : Nat → Int) (n z : Int) : Prop :=
  (∃ p : Int, fdK K f len u (-1 - p) ∧ 0 ≤ p ∧ ((n = 0 ∧ z = 1 ∧ len' = len ∧ f' = f) ∨ (n ≠ 0 ∧ lim ≤ len ∧ z = 0 ∧ len' = len ∧ f' = f) ∨ (n ≠ 0 ∧ len < lim ∧ z = 1 ∧ len' = len + 1 ∧ insP K f f' u p len n))) ∨
  (∃ r : Int, fdK K f len u r ∧ 0 ≤ r ∧ z = 1 ∧ ((iI ((f ((6 * r).toNat + K)).toInt + n) = 0 ∧ len' = len - 1 ∧ remP f f' r len) ∨ (iI ((f ((6 * r).toNat + K)).toInt + n) ≠ 0 ∧ len' = len ∧ setP K f f' r ((f ((6 * r).toNat + K)).toInt + n))))
theorem ins_p {K : Nat} {f f1 f2 f3 f4 ky : Nat → Int32} {r len n : Int} (hK : K = 4 ∨ K = 5) (h0 : 0 ≤ r) (h1 : r ≤ len) (e1 : f1 = va_cpy f f (r * 6).toNat (r * 6 + 6).toNat ((len - r) * 6).toNat) (e2 : f2 = va_cpy ky f1 (0 : Int).toNat (r * 6).toNat (K : Int).toNat) (e3 : ∀ j : Nat, j ≠ (r * 6 + 5).toNat → f3 j = f2 j) (e3' : f3 (r * 6 + 5).toNat = 0) (e4 : ∀ j : Nat, j ≠ (r * 6 + (K : Int)).toNat → f4 j = f3 j) (e4' : f4 (r * 6 + (K : Int)).toNat = iI n) : insP K f f4 (rk ky 0) r len n := by
  refine ⟨fun j hj => ?_, fun t ht => ?_, ?_, fun hk => ?_, fun j hj hl => ?_⟩
  · rw [e4 j (by omega), e3 j (by omega), e2]
    unfold va_cpy
    rw [if_neg (by omega), e1]
    unfold va_cpy
    rw [if_neg (by omega)]
  · have a : f3 ((6 * r).toNat + t) = f2 ((6 * r).toNat + t) := e3 _ (by omega)
    rw [e4 _ (by omega), a, e2]
    unfold va_cpy rk
    rw [if_pos ⟨by omega, by omega⟩, show (0 : Int).toNat + ((6 * r).toNat + t - (r * 6).toNat) = (0 : Int).toNat + t by omega]
  · rw [show (6 * r).toNat + K = (r * 6 + (K : Int)).toNat by omega]; exact e4'
  · rw [e4 _ (by omega), show (6 * r).toNat + 5 = (r * 6 + 5).toNat by omega]; exact e3'
  · rw [e4 _ (by omega), e3 _ (by omega), e2]
    unfold va_cpy
    rw [if_neg (by omega), e1]
    unfold va_cpy
    rw [if_pos ⟨by omega, by omega⟩, show (r * 6).toNat + (j + 6 - (r * 6 + 6).toNat) = j by omega]
theorem rem_p {f f' : Nat → Int32} {r len : Int} (h0 : 0 ≤ r) (h1 : r < len) (e : f' = va_cpy f f (r * 6 + 6).toNat (r * 6).toNat ((len - 1 - r) * 6).toNat) : remP f f' r len := by
  refine ⟨fun j hj => ?_, fun j hj hl => ?_⟩
  · rw [e]; unfold va_cpy; rw [if_neg (by omega)]
  · rw [e]; unfold va_cpy
    rw [if_pos ⟨by omega, by omega⟩, show (r * 6 + 6).toNat + (j - (r * 6).toNat) = j + 6 by omega]
/-! the place is the same wherever it is looked for -/
theorem srt_lo {K : Nat} {f : Nat → Int32} {n : Int} {u : Nat → Int} {p : Nat} (hs : srt K f n) (h : 0 < p → kc K (ry6 f (p - 1)) u = -1) (hp : (p : Int) ≤ n) : ∀ i : Nat, i < p → kc K (ry6 f i) u = -1 := fun i hi => by
  have h := h (by omega)
  by_cases q : i = p - 1
  · rw [q]; exact h
  · exact kc_t (v := ry6 f (p - 1)) (by rw [hs i (p - 1) (by omega) (by omega)]; decide) (by rw [h]; decide) (Or.inr (by rw [h]; decide))
theorem srt_hi {K : Nat} {f : Nat → Int32} {n : Int} {u : Nat → Int} {p : Nat} (hs : srt K f n) (h : (p : Int) < n → kc K (ry6 f p) u = 1) : ∀ i : Nat, p ≤ i → (i : Int) < n → kc K (ry6 f i) u = 1 := fun i hi hl => by
  have h := h (by omega)
  by_cases q : i = p
  · rw [q]; exact h
  · have a : kc K u (ry6 f p) = -1 := by rw [kc_s (u := ry6 f p) (v := u), h]
    have b := hs p i (by omega) hl
    have c := kc_t (u := u) (v := ry6 f p) (w := ry6 f i) (by rw [a]; decide) (by rw [b]; decide) (Or.inl (by rw [a]; decide))
    rw [kc_s (u := u) (v := ry6 f i), c]; rfl
/-- order behind the coming in of a row -/
theorem srt_ins {K : Nat} {f f' : Nat → Int32} {u : Nat → Int} {len n : Int} {p : Nat} (hK : K ≤ 5) (hs : srt K f len) (hp : (p : Int) ≤ len) (hi : insP K f f' u (p : Int) len n) (lo : ∀ i : Nat, i < p → kc K (ry6 f i) u = -1) (hh : ∀ i : Nat, p ≤ i → (i : Int) < len → kc K (ry6 f i) u = 1) : srt K f' (len + 1) := by
  obtain ⟨i1, i2, -, -, i5⟩ := hi
  have a1 : ∀ i, i < p → ∀ t, t < K → ry6 f' i t = ry6 f i t := fun i hi t ht => by rw [ry6_e, ry6_e, i1 _ (by omega)]
  have a2 : ∀ t, t < K → ry6 f' p t = u t := fun t ht => by
    rw [ry6_e, ← i2 t ht, show (6 * (p : Int)).toNat + t = 6 * p + t by omega]
  have a3 : ∀ i, p ≤ i → (i : Int) < len → ∀ t, t < K → ry6 f' (i + 1) t = ry6 f i t := fun i hi hl t ht => by
    rw [ry6_e, ry6_e, ← i5 (6 * i + t) (by omega) (by omega), show 6 * (i + 1) + t = 6 * i + t + 6 by omega]
  intro i j hij hj
  by_cases c1 : j < p
  · rw [kc_c (a1 i (by omega)) (a1 j c1)]; exact hs i j hij (by omega)
  · by_cases c2 : j = p
    · subst c2
      rw [kc_c (a1 i hij) a2]; exact lo i hij
    · obtain ⟨j', rfl⟩ : ∃ j', j = j' + 1 := ⟨j - 1, by omega⟩
      by_cases c3 : i < p
      · rw [kc_c (a1 i c3) (a3 j' (by omega) (by omega))]; exact hs i j' (by omega) (by omega)
      · by_cases c4 : i = p
        · subst c4
          rw [kc_c a2 (a3 j' (by omega) (by omega)), kc_s (u := ry6 f j') (v := u), hh j' (by omega) (by omega)]
        · obtain ⟨i', rfl⟩ : ∃ i', i = i' + 1 := ⟨i - 1, by omega⟩
          rw [kc_c (a3 i' (by omega) (by omega)) (a3 j' (by omega) (by omega))]; exact hs i' j' (by omega) (by omega)
theorem srt_rem {K : Nat} {f f' : Nat → Int32} {len : Int} {p : Nat} (hK : K ≤ 5) (hs : srt K f len) (hr : remP f f' (p : Int) len) : srt K f' (len - 1) := by
  obtain ⟨r1, r2⟩ := hr
  have a1 : ∀ i, i < p → ∀ t, t < K → ry6 f' i t = ry6 f i t := fun i hi t ht => by rw [ry6_e, ry6_e, r1 _ (by omega)]
  have a2 : ∀ i, p ≤ i → (i : Int) < len - 1 → ∀ t, t < K → ry6 f' i t = ry6 f (i + 1) t := fun i hi hl t ht => by
    rw [ry6_e, ry6_e, r2 _ (by omega) (by omega), show 6 * (i + 1) + t = 6 * i + t + 6 by omega]
  intro i j hij hj
  by_cases c1 : j < p
  · rw [kc_c (a1 i (by omega)) (a1 j c1)]; exact hs i j hij (by omega)
  · by_cases c2 : i < p
    · rw [kc_c (a1 i c2) (a2 j (by omega) (by omega))]; exact hs i (j + 1) (by omega) (by omega)
    · rw [kc_c (a2 i (by omega) (by omega)) (a2 j (by omega) (by omega))]; exact hs (i + 1) (j + 1) (by omega) (by omega)
theorem srt_set {K : Nat} {f f' : Nat → Int32} {len v : Int} {p : Nat} (hK : K ≤ 5) (hs : srt K f len) (h : setP K f f' (p : Int) v) : srt K f' len := by
  have a : ∀ i t, t < K → ry6 f' i t = ry6 f i t := fun i t ht => by rw [ry6_e, ry6_e, h.1 _ (by omega)]
  intro i j hij hj
  rw [kc_c (a i) (a j)]
  exact hs i j hij hj
theorem kcF_n {u v : Nat → Int} {K : Nat} {k : Int} (h0 : 0 ≤ k) (hk : k < (K : Int)) (e : u k.toNat = v k.toNat) : kcF u v (K - k.toNat) k.toNat = kcF u v (K - (k + 1).toNat) (k + 1).toNat := by
  rw [show K - k.toNat = (K - (k + 1).toNat) + 1 by omega, kcF_e e, show (k + 1).toNat = k.toNat + 1 by omega]
theorem kcF_ln {u v : Nat → Int} {K : Nat} {k : Int} (h0 : 0 ≤ k) (hk : k < (K : Int)) (e : u k.toNat < v k.toNat) : kcF u v (K - k.toNat) k.toNat = -1 := by
  rw [show K - k.toNat = (K - (k + 1).toNat) + 1 by omega, kcF_l e]
theorem kcF_gn {u v : Nat → Int} {K : Nat} {k : Int} (h0 : 0 ≤ k) (hk : k < (K : Int)) (e : v k.toNat < u k.toNat) : kcF u v (K - k.toNat) k.toNat = 1 := by
  rw [show K - k.toNat = (K - (k + 1).toNat) + 1 by omega, kcF_g e]
theorem rk_at {f : Nat → Int32} {i k : Int} (h0 : 0 ≤ i) (h1 : 0 ≤ k) : rk f i k.toNat = (f (i + k).toNat).toInt := by
  unfold rk; rw [show i.toNat + k.toNat = (i + k).toNat by omega]
theorem ry6_m {f : Nat → Int32} {m : Int} (h : 0 ≤ m) : rk f (m * 6) = ry6 f m.toNat := by
  unfold ry6; rw [show m * 6 = 6 * ((m.toNat : Nat) : Int) by omega]
theorem fdK_n {K : Nat} {f : Nat → Int32} {n lo : Int} {u : Nat → Int} (h0 : 0 ≤ lo) (h1 : lo ≤ n) (a : 0 < lo → kc K (ry6 f (lo - 1).toNat) u = -1) (b : lo < n → kc K (ry6 f lo.toNat) u = 1) : fdK K f n u (-1 - lo) := by
  refine Or.inr ⟨by omega, by omega, fun h => ?_, fun h => ?_⟩
  · rw [show (-1 - (-1 - lo) - 1).toNat = (lo - 1).toNat by omega]; exact a (by omega)
  · rw [show (-1 - (-1 - lo)).toNat = lo.toNat by omega]; exact b (by omega)
section AddP
variable {K : Nat} {lim len len' n v : Int} {f f' : Nat → Int32} {u : Nat → Int}
theorem add_no (qf : fdK K f len u v) (hv : v < 0) (hn : n = 0) : addP K lim f f len len u n 1 :=
  Or.inl ⟨-1 - v, by rw [show -1 - (-1 - v) = v by omega]; exact qf, by omega, Or.inl ⟨hn, rfl, rfl, rfl⟩⟩
theorem add_f (qf : fdK K f len u v) (hv : v < 0) (hn : n ≠ 0) (hl : lim ≤ len) : addP K lim f f len len u n 0 :=
  Or.inl ⟨-1 - v, by rw [show -1 - (-1 - v) = v by omega]; exact qf, by omega, Or.inr (Or.inl ⟨hn, hl, rfl, rfl, rfl⟩)⟩
theorem add_i (qf : fdK K f len u v) (hv : v < 0) (hn : n ≠ 0) (hl : len < lim) (e : len' = len + 1) (qi : insP K f f' u (-1 - v) len n) : addP K lim f f' len len' u n 1 :=
  Or.inl ⟨-1 - v, by rw [show -1 - (-1 - v) = v by omega]; exact qf, by omega, Or.inr (Or.inr ⟨hn, hl, rfl, e, qi⟩)⟩
theorem add_r (qf : fdK K f len u v) (hv : 0 ≤ v) (e0 : iI ((f ((6 * v).toNat + K)).toInt + n) = 0) (e : len' = len - 1) (q : remP f f' v len) : addP K lim f f' len len' u n 1 :=
  Or.inr ⟨v, qf, hv, rfl, Or.inl ⟨e0, e, q⟩⟩
theorem add_s (qf : fdK K f len u v) (hv : 0 ≤ v) (e0 : iI ((f ((6 * v).toNat + K)).toInt + n) ≠ 0) (q : setP K f f' v ((f ((6 * v).toNat + K)).toInt + n)) : addP K lim f f' len len u n 1 :=
  Or.inr ⟨v, qf, hv, rfl, Or.inr ⟨e0, rfl, q⟩⟩
end AddP
theorem set_p {K c ix : Nat} {F F' : gI} {r w v : Int} (e : F' = gup2 F c ix (iI w)) (hix : ix = (6 * r).toNat + K) (hw : iI w = iI v) : setP K (F c) (F' c) r v :=
  ⟨fun j hj => by rw [e, gup2_k _ _ (by omega)], by rw [e, ← hix, gup2_s, hw]⟩
/-- the key of a change -/
def cky (tb a b c d cl : Int) : Nat → Int
  | 0 => tb
  | 1 => a
  | 2 => if 1 < cl then b else 0
  | 3 => if 2 < cl then c else 0
  | 4 => if 3 < cl then d else 0
  | _ => 0
theorem cky_of {f : Nat → Int32} {tb a b c d cl : Int} (h0 : (f 0).toInt = tb) (h1 : (f 1).toInt = a) (h2 : (f 2).toInt = if 1 < cl then b else 0) (h3 : (f 3).toInt = if 2 < cl then c else 0) (h4 : (f 4).toInt = if 3 < cl then d else 0) : ∀ t, t < 5 → rk f 0 t = cky tb a b c d cl t := fun t ht => by
  unfold rk
  rw [show (0 : Int).toNat + t = t by omega]
  match t, ht with
  | 0, _ => exact h0
  | 1, _ => exact h1
  | 2, _ => exact h2
  | 3, _ => exact h3
  | 4, _ => exact h4
  | t + 5, h => exact absurd h (by omega)
section AddC
variable {K : Nat} {lim len len' n z r : Int} {f f' : Nat → Int32} {u u' : Nat → Int}
theorem fdK_c (h : ∀ t, t < K → u t = u' t) (q : fdK K f len u z) : fdK K f len u' z := by
  have e : ∀ i : Nat, kc K (ry6 f i) u = kc K (ry6 f i) u' := fun i => kc_c (fun _ _ => rfl) h
  rcases q with ⟨a, b, c⟩ | ⟨a, b, c, d⟩
  · exact Or.inl ⟨a, b, (e _).symm.trans c⟩
  · exact Or.inr ⟨a, b, fun w => (e _).symm.trans (c w), fun w => (e _).symm.trans (d w)⟩
theorem insP_c (h : ∀ t, t < K → u t = u' t) (q : insP K f f' u r len n) : insP K f f' u' r len n := ⟨q.1, fun t ht => (q.2.1 t ht).trans (h t ht), q.2.2⟩
theorem addP_c (h : ∀ t, t < K → u t = u' t) (q : addP K lim f f' len len' u n z) : addP K lim f f' len len' u' n z := by
  rcases q with ⟨p, a, b, c⟩ | ⟨p, a, b, c⟩
  · refine Or.inl ⟨p, fdK_c h a, b, ?_⟩
    rcases c with c | c | ⟨c1, c2, c3, c4, c5⟩
    · exact Or.inl c
    · exact Or.inr (Or.inl c)
    · exact Or.inr (Or.inr ⟨c1, c2, c3, c4, insP_c h c5⟩)
  · exact Or.inr ⟨p, fdK_c h a, b, c⟩
end AddC
/-- what a change of the batch answers and does: tbs tables, u its key -/
def chP (tbs tb n z len len' : Int) (f f' : Nat → Int32) (u : Nat → Int) : Prop :=
  ((tb < 0 ∨ tbs ≤ tb ∨ n < -9 ∨ 9 < n ∨ n = 0) ∧ z = -1 ∧ len' = len ∧ f' = f) ∨ ((0 ≤ tb ∧ tb < tbs ∧ -9 ≤ n ∧ n ≤ 9 ∧ n ≠ 0) ∧ ∃ zz : Int, addP 5 40 f f' len len' u n zz ∧ ((zz = 0 ∧ z = -1) ∨ (zz = 1 ∧ z = len')))
/-! the reference's changes: tables, values, counts in three lists -/
def rmk (T V : Nat → Int32) (i : Nat) : Nat → Int
  | 0 => (T i).toInt
  | t + 1 => (V (4 * i + t)).toInt
theorem kcF_sh {u v u' v' : Nat → Int} : ∀ (m s s' : Nat), (∀ t, t < m → u (s + t) = u' (s' + t)) → (∀ t, t < m → v (s + t) = v' (s' + t)) → kcF u v m s = kcF u' v' m s'
  | 0, _, _, _, _ => rfl
  | m + 1, s, s', h, k => by
    have e1 : u s = u' s' := h 0 (by omega)
    have e2 : v s = v' s' := k 0 (by omega)
    have ih := kcF_sh (u := u) (v := v) (u' := u') (v' := v') m (s + 1) (s' + 1) (fun t ht => by rw [show s + 1 + t = s + (t + 1) by omega, show s' + 1 + t = s' + (t + 1) by omega]; exact h (t + 1) (by omega)) (fun t ht => by rw [show s + 1 + t = s + (t + 1) by omega, show s' + 1 + t = s' + (t + 1) by omega]; exact k (t + 1) (by omega))
    rw [kcF, kcF, e1, e2, ih]
section Rmk
variable {T V tu : Nat → Int32} {u : Nat → Int} {k : Int}
theorem kc5_l (h : (T k.toNat).toInt < u 0) : kc 5 (rmk T V k.toNat) u = -1 := kcF_l (m := 4) (s := 0) h
theorem kc5_g (h : u 0 < (T k.toNat).toInt) : kc 5 (rmk T V k.toNat) u = 1 := kcF_g (m := 4) (s := 0) h
theorem kc5_e (h0 : 0 ≤ k) (h : (T k.toNat).toInt = u 0) (hu : ∀ t, t < 4 → (tu t).toInt = u (t + 1)) : kc 5 (rmk T V k.toNat) u = kc 4 (rk V (4 * k)) (rk tu 0) := by
  unfold kc
  rw [kcF_e (u := rmk T V k.toNat) (v := u) (m := 4) (s := 0) h]
  refine kcF_sh 4 (0 + 1) 0 (fun t ht => ?_) (fun t ht => ?_)
  · rw [show 0 + 1 + t = t + 1 by omega]
    show (V (4 * k.toNat + t)).toInt = (V ((4 * k).toNat + (0 + t))).toInt
    rw [show (4 * k).toNat + (0 + t) = 4 * k.toNat + t by omega]
  · rw [show 0 + 1 + t = t + 1 by omega, ← hu t ht]
    show (tu t).toInt = (tu ((0 : Int).toNat + (0 + t))).toInt
    rw [show (0 : Int).toNat + (0 + t) = t by omega]
end Rmk
/-- a row is as another one was -/
def rEq (T V C T' V' C' : Nat → Int32) (i i' : Nat) : Prop := T' i' = T i ∧ C' i' = C i ∧ ∀ t, t < 4 → V' (4 * i' + t) = V (4 * i + t)
def mvP (T V C T' V' C' : Nat → Int32) (fm to : Int) : Prop := (∀ j : Nat, j ≠ to.toNat → T' j = T j ∧ C' j = C j) ∧ T' to.toNat = T fm.toNat ∧ C' to.toNat = C fm.toNat ∧ (∀ j : Nat, (j : Int) < 4 * to ∨ 4 * to + 4 ≤ (j : Int) → V' j = V j) ∧ ∀ t : Nat, t < 4 → V' ((4 * to).toNat + t) = V ((4 * fm).toNat + t)
def shU (T V C T' V' C' : Nat → Int32) (len i : Int) : Prop := (∀ j : Nat, (j : Int) < i → rEq T V C T' V' C' j j) ∧ (∀ j : Nat, i ≤ (j : Int) → (j : Int) < len → rEq T V C T' V' C' j (j + 1))
def shD (T V C T' V' C' : Nat → Int32) (k i : Int) : Prop := (∀ j : Nat, (j : Int) < k → rEq T V C T' V' C' j j) ∧ (∀ j : Nat, k ≤ (j : Int) → (j : Int) < i → rEq T V C T' V' C' (j + 1) j) ∧ (∀ j : Nat, i ≤ (j : Int) → rEq T V C T' V' C' j j)
def insM (T V C T' V' C' : Nat → Int32) (p : Nat) (len n : Int) (u : Nat → Int) : Prop := (∀ i : Nat, i < p → rEq T V C T' V' C' i i) ∧ (T' p).toInt = u 0 ∧ (∀ t, t < 4 → (V' (4 * p + t)).toInt = u (t + 1)) ∧ C' p = iI n ∧ (∀ i : Nat, p ≤ i → (i : Int) < len → rEq T V C T' V' C' i (i + 1))
def remM (T V C T' V' C' : Nat → Int32) (p : Nat) (len : Int) : Prop := (∀ i : Nat, i < p → rEq T V C T' V' C' i i) ∧ (∀ i : Nat, p ≤ i → (i : Int) < len - 1 → rEq T V C T' V' C' (i + 1) i)
section REq
variable {T V C T1 V1 C1 T2 V2 C2 : Nat → Int32} {i j q : Nat} {fm to len k n : Int} {u : Nat → Int}
theorem rEq_r : rEq T V C T V C i i := ⟨rfl, rfl, fun _ _ => rfl⟩
theorem rEq_t (a : rEq T V C T1 V1 C1 i j) (b : rEq T1 V1 C1 T2 V2 C2 j q) : rEq T V C T2 V2 C2 i q := ⟨b.1.trans a.1, b.2.1.trans a.2.1, fun t ht => (b.2.2 t ht).trans (a.2.2 t ht)⟩
theorem mv_o (h : mvP T V C T1 V1 C1 fm to) (h0 : 0 ≤ to) (hj : j ≠ to.toNat) : rEq T V C T1 V1 C1 j j := ⟨(h.1 j hj).1, (h.1 j hj).2, fun t ht => h.2.2.2.1 _ (by omega)⟩
theorem mv_t (h : mvP T V C T1 V1 C1 fm to) (h0 : 0 ≤ to) (h1 : 0 ≤ fm) (ei : i = fm.toNat) (ej : j = to.toNat) : rEq T V C T1 V1 C1 i j := by
  subst ei ej
  refine ⟨h.2.1, h.2.2.1, fun t ht => ?_⟩
  rw [show 4 * to.toNat + t = (4 * to).toNat + t by omega, show 4 * fm.toNat + t = (4 * fm).toNat + t by omega]
  exact h.2.2.2.2 t ht
theorem shU_0 : shU T V C T V C len len := ⟨fun j _ => rEq_r, fun j a b => absurd b (by omega)⟩
theorem shU_s {x : Int} (h : shU T V C T1 V1 C1 len x) (m : mvP T1 V1 C1 T2 V2 C2 (x - 1) x) (h0 : 0 < x) (hx : x ≤ len) : shU T V C T2 V2 C2 len (x - 1) := by
  refine ⟨fun j hj => rEq_t (h.1 j (by omega)) (mv_o m (by omega) (by omega)), fun j hj hl => ?_⟩
  by_cases e : (j : Int) = x - 1
  · exact rEq_t (h.1 j (by omega)) (mv_t m (by omega) (by omega) (by omega) (by omega))
  · exact rEq_t (h.2 j (by omega) hl) (mv_o m (by omega) (by omega))
theorem shD_0 : shD T V C T V C k k := ⟨fun j _ => rEq_r, fun j a b => absurd b (by omega), fun j _ => rEq_r⟩
theorem shD_s {x : Int} (h : shD T V C T1 V1 C1 k x) (m : mvP T1 V1 C1 T2 V2 C2 (x + 1) x) (h0 : 0 ≤ k) (hx : k ≤ x) : shD T V C T2 V2 C2 k (x + 1) := by
  refine ⟨fun j hj => rEq_t (h.1 j hj) (mv_o m (by omega) (by omega)), fun j hj hl => ?_, fun j hj => rEq_t (h.2.2 j (by omega)) (mv_o m (by omega) (by omega))⟩
  by_cases e : (j : Int) = x
  · exact rEq_t (h.2.2 (j + 1) (by omega)) (mv_t m (by omega) (by omega) (by omega) (by omega))
  · exact rEq_t (h.2.1 j hj (by omega)) (mv_o m (by omega) (by omega))
theorem ins_m {tb : Int} (h : shU T V C T1 V1 C1 len k) (h0 : 0 ≤ k) (eT : ∀ j : Nat, j ≠ k.toNat → T2 j = T1 j) (eT' : T2 k.toNat = iI tb) (ztb : zr tb) (eV : ∀ j : Nat, (j : Int) < 4 * k ∨ 4 * k + 4 ≤ (j : Int) → V2 j = V1 j) (eV' : ∀ t : Nat, t < 4 → (V2 ((4 * k).toNat + t)).toInt = u (t + 1)) (eC : ∀ j : Nat, j ≠ k.toNat → C2 j = C1 j) (eC' : C2 k.toNat = iI n) (hu : u 0 = tb) : insM T V C T2 V2 C2 k.toNat len n u := by
  have o : ∀ j : Nat, j ≠ k.toNat → rEq T1 V1 C1 T2 V2 C2 j j := fun j hj => ⟨eT j hj, eC j hj, fun t ht => eV _ (by omega)⟩
  refine ⟨fun i hi => rEq_t (h.1 i (by omega)) (o i (by omega)), ?_, fun t ht => ?_, eC', fun i hi hl => rEq_t (h.2 i (by omega) hl) (o (i + 1) (by omega))⟩
  · rw [eT', iI_val ztb, hu]
  · rw [show 4 * k.toNat + t = (4 * k).toNat + t by omega]; exact eV' t ht
theorem rem_m (h : shD T V C1 T2 V2 C2 k (len - 1)) (h0 : 0 ≤ k) (eC : ∀ j : Nat, j ≠ k.toNat → C1 j = C j) : remM T V C T2 V2 C2 k.toNat len := by
  refine ⟨fun i hi => ?_, fun i hi hl => ?_⟩
  · have q := h.1 i (by omega)
    exact ⟨q.1, q.2.1.trans (eC i (by omega)), q.2.2⟩
  · have q := h.2.1 i (by omega) hl
    exact ⟨q.1, q.2.1.trans (eC (i + 1) (by omega)), q.2.2⟩
end REq
/-- what the reference's change does, once it is one: p its place -/
def chM (len len' z n : Int) (T V C T' V' C' : Nat → Int32) (u : Nat → Int) : Prop := ∃ p : Nat, (p : Int) ≤ len ∧ (∀ i : Nat, i < p → kc 5 (rmk T V i) u = -1) ∧
  (((p : Int) < len ∧ kc 5 (rmk T V p) u = 0 ∧ iI ((C p).toInt + n) ≠ 0 ∧ len' = len ∧ z = len ∧ T' = T ∧ V' = V ∧ (∀ j : Nat, j ≠ p → C' j = C j) ∧ C' p = iI ((C p).toInt + n)) ∨
   ((p : Int) < len ∧ kc 5 (rmk T V p) u = 0 ∧ iI ((C p).toInt + n) = 0 ∧ len' = len - 1 ∧ z = len - 1 ∧ remM T V C T' V' C' p len) ∨
   (((p : Int) < len → kc 5 (rmk T V p) u = 1) ∧ len = 40 ∧ z = -1 ∧ len' = len ∧ T' = T ∧ V' = V ∧ C' = C) ∨
   (((p : Int) < len → kc 5 (rmk T V p) u = 1) ∧ len ≠ 40 ∧ len' = len + 1 ∧ z = len + 1 ∧ insM T V C T' V' C' p len n u))
def chR (many kd tb n z len len' : Int) (T V C T' V' C' : Nat → Int32) (u : Nat → Int) : Prop :=
  ((tb < 0 ∨ many ≤ tb ∨ kd ≠ 0 ∨ n < -9 ∨ 9 < n ∨ n = 0) ∧ z = -1 ∧ len' = len ∧ T' = T ∧ V' = V ∧ C' = C) ∨ ((0 ≤ tb ∧ tb < many ∧ kd = 0 ∧ -9 ≤ n ∧ n ≤ 9 ∧ n ≠ 0) ∧ chM len len' z n T V C T' V' C' u)
theorem tku {f : Nat → Int32} {tb a b c d cl : Int} (h0 : (f 0).toInt = a) (h1 : (f 1).toInt = if 1 < cl then b else 0) (h2 : (f 2).toInt = if 2 < cl then c else 0) (h3 : (f 3).toInt = if 3 < cl then d else 0) : ∀ t, t < 4 → (f t).toInt = cky tb a b c d cl (t + 1) := fun t ht => by
  match t, ht with
  | 0, _ => exact h0
  | 1, _ => exact h1
  | 2, _ => exact h2
  | 3, _ => exact h3
  | t + 4, h => exact absurd h (by omega)
theorem ix_st {P : Nat → Prop} {k : Int} (h : ∀ i : Nat, (i : Int) < k → P i) (h0 : 0 ≤ k) (hk : P k.toNat) : ∀ i : Nat, (i : Int) < k + 1 → P i := fun i hi => by
  by_cases e : (i : Int) = k
  · rw [show i = k.toNat by omega]; exact hk
  · exact h i (by omega)
theorem mNe {g : gG} {gh : gGh} {R : gR} {I AI : gI} {m : Nat} (hv : mInv g gh R I AI) (hm : gO g m 7) {p q : Nat × Nat} (hp : p ∈ mTab) (hq : q ∈ mTab) (hne : p.1 ≠ q.1) : gh (50 + p.1) 0 ≠ gh (50 + q.1) 0 := fun z => hne (by have h := ((hv.1 m hm).2.1 p hp).2.2.2; have h' := ((hv.1 m hm).2.1 q hq).2.2.2; rw [z, h'] at h; exact h.symm)
end
