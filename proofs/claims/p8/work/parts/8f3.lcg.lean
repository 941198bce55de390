/-! what a line that was read holds: by kinds -/
section Good
variable {b : tTx} {n nr h : Nat} {nt : Nat → Nat} {cl : Nat → Int} {r : pR} {f : Nat → Int → pR}
theorem thn_i (e : (thn r f).1 = 0) : r.1 = 0 ∧ thn r f = f r.2.1 r.2.2 := by
  by_cases q : r.1 = 0
  · exact ⟨q, thn_y (f := f) rfl q rfl⟩
  · rw [thn_x (f := f) rfl q] at e; exact absurd e q
theorem gSel (e : (sSel b n nr nt cl h).1 = 0) : 0 ≤ pFd b n nt nr h ∧ (sSel b n nr nt cl h).2.2 = cF b n nr nt cl h ∧ ∀ j, j < iCnt nxT (spA b n) 9 (h + 2) → okT b n (iPos nxT (h + 2) j) := by
  unfold sSel at e ⊢
  obtain ⟨a1, a2⟩ := thn_i e
  rw [a2] at e ⊢
  obtain ⟨b1, b2⟩ := thn_i e
  rw [b2] at e ⊢
  have h1 := sRl_h rfl a1
  have h2 := sTw_h rfl b1
  rw [h1.1] at h2
  have hx := sTests_x _ _ _ e
  have ha := sTests_all _ _ _ e
  rw [h1.1, h2] at ha
  exact ⟨h1.2.2, by rw [hx, h1.2.1], ha⟩
theorem gPrj (hc : ∀ u, u < nr → 1 ≤ cl u ∧ cl u ≤ 4) (e : (sPrj b n nr nt cl h).1 = 0) : 0 ≤ pFd b n nt nr h ∧ (sPrj b n nr nt cl h).2.2 = ((iCnt (nxE b n) (spC b n) 5 (h + 1) : Nat) : Int) ∧ (1 ≤ iCnt (nxE b n) (spC b n) 5 (h + 1) ∧ iCnt (nxE b n) (spC b n) 5 (h + 1) ≤ 4) ∧ ∀ j, j < iCnt (nxE b n) (spC b n) 5 (h + 1) → okE b n (cF b n nr nt cl h) (iPos (nxE b n) (h + 1) j) := by
  unfold sPrj at e ⊢
  obtain ⟨a1, a2⟩ := thn_i e
  rw [a2] at e ⊢
  have h1 := sRl_h rfl a1
  have q := hc (pFd b n nt nr h).toNat (by have := pFd_r (b := b) (n := n) (r := nr) (nt := nt) h; have := h1.2.2; omega)
  rw [h1.1, h1.2.1] at e ⊢
  obtain ⟨x1, x2, x3⟩ := sTerms_all (by unfold cF; omega) _ _ _ (by decide) e
  exact ⟨h1.2.2, by rw [x1]; omega, by omega, x3⟩
theorem gJoi (e : (sJoi b n nr nt cl h).1 = 0) : 0 ≤ pFd b n nt nr h ∧ 0 ≤ pFd b n nt nr (h + 1) ∧ (∃ L' : List Int, (sJoi b n nr nt cl h).2.2 = cF b n nr nt cl h + jC L' (cF b n nr nt cl (h + 1)).toNat ∧ ∀ x, x ∈ L' ↔ ∃ j, j < iCnt nxT (spC b n) 5 (h + 3) ∧ pV b n (iPos nxT (h + 3) j + 2) = x) ∧ ∀ j, j < iCnt nxT (spC b n) 5 (h + 3) → okP b n (cF b n nr nt cl h) (cF b n nr nt cl (h + 1)) (iPos nxT (h + 3) j) := by
  unfold sJoi at e ⊢
  obtain ⟨a1, a2⟩ := thn_i e
  rw [a2] at e ⊢
  obtain ⟨b1, b2⟩ := thn_i e
  rw [b2] at e ⊢
  obtain ⟨c1, c2⟩ := thn_i e
  rw [c2] at e ⊢
  have h1 := sRl_h rfl a1
  have h2 := sRl_h rfl b1
  have h3 := sTw_h rfl c1
  rw [h1.1] at h2
  rw [h1.1, h2.1] at h3
  rw [h1.1] at e ⊢
  rw [h2.2.1, h1.2.1, h2.1, h3] at e
  rw [h2.2.1, h1.2.1, h2.1, h3]
  obtain ⟨⟨L', x1, x2⟩, x3⟩ := sPairs_all _ _ _ _ e
  refine ⟨h1.2.2, h2.2.2, ⟨L', x1, fun x => ?_⟩, x3⟩
  rw [x2 x]
  exact ⟨fun q => q.resolve_left List.not_mem_nil, Or.inr⟩
theorem gTwo (e : (sTwo b n nr nt cl h).1 = 0) : 0 ≤ pFd b n nt nr h ∧ 0 ≤ pFd b n nt nr (h + 1) ∧ (sTwo b n nr nt cl h).2.2 = cF b n nr nt cl h ∧ cF b n nr nt cl (h + 1) = cF b n nr nt cl h := by
  unfold sTwo at e ⊢
  obtain ⟨a1, a2⟩ := thn_i e
  rw [a2] at e ⊢
  have h1 := sRl_h rfl a1
  rw [h1.1, h1.2.1] at e ⊢
  by_cases k : pRf b n nt nr (h + 1) = 0
  · rw [if_pos k] at e ⊢
    by_cases q : cF b n nr nt cl (h + 1) = cF b n nr nt cl h
    · rw [if_pos q]; exact ⟨h1.2.2, (pRf_i k).2, rfl, q⟩
    · rw [if_neg q] at e; exact (pr_no e (by decide)).elim
  · rw [if_neg k] at e; exact absurd e k
theorem gFo {c x : Int} (e : (sFo b n c x h).1 = 0) : (16 ≤ pV b n h ∧ pV b n h ≤ 19) ∧ (pV b n h ≠ 16 → 0 ≤ pV b n (h + 1) ∧ pV b n (h + 1) ≤ 3) ∧ (sFo b n c x h).2.2 = x := by
  refine ⟨?_, ?_, sFo_x e⟩
  · unfold sFo at e
    by_cases a : pK b n h = 3 ∧ 16 ≤ pV b n h ∧ pV b n h ≤ 19
    · exact a.2
    · rw [if_neg a] at e; exact (pr_no e (by decide)).elim
  · intro z
    unfold sFo at e
    by_cases a : pK b n h = 3 ∧ 16 ≤ pV b n h ∧ pV b n h ≤ 19
    · rw [if_pos a, if_neg z] at e
      by_cases w : pCf b n c (h + 1) = 0
      · exact pV_c (pCf_0 w).1
      · rw [if_neg w] at e; exact absurd e w
    · rw [if_neg a] at e; exact (pr_no e (by decide)).elim
theorem gGrp (e : (sGrp b n nr nt cl h).1 = 0) : 0 ≤ pFd b n nt nr h ∧ (sGrp b n nr nt cl h).2.2 = ((iCnt nxB (spC b n) 4 (h + 2) : Nat) : Int) + 1 ∧ (1 ≤ iCnt nxB (spC b n) 4 (h + 2) ∧ iCnt nxB (spC b n) 4 (h + 2) ≤ 3) ∧
    (16 ≤ pV b n (nxB (iPos nxB (h + 2) (iCnt nxB (spC b n) 4 (h + 2) - 1))) ∧ pV b n (nxB (iPos nxB (h + 2) (iCnt nxB (spC b n) 4 (h + 2) - 1))) ≤ 19) ∧
    (pV b n (nxB (iPos nxB (h + 2) (iCnt nxB (spC b n) 4 (h + 2) - 1))) ≠ 16 → 0 ≤ pV b n (nxB (iPos nxB (h + 2) (iCnt nxB (spC b n) 4 (h + 2) - 1)) + 1) ∧ pV b n (nxB (iPos nxB (h + 2) (iCnt nxB (spC b n) 4 (h + 2) - 1)) + 1) ≤ 3) := by
  unfold sGrp at e ⊢
  obtain ⟨a1, a2⟩ := thn_i e
  rw [a2] at e ⊢
  obtain ⟨b1, b2⟩ := thn_i e
  rw [b2] at e ⊢
  obtain ⟨c1, c2⟩ := thn_i e
  rw [c2] at e ⊢
  have h1 := sRl_h rfl a1
  have h2 := sTw_h rfl b1
  rw [h1.1] at h2
  have h2 : (sTw b n 13 (h + 1)).2.1 = h + 2 := h2
  rw [h1.1, h2] at c1
  obtain ⟨x1, x2, x3⟩ := sBys_all _ _ _ _ (by decide) c1
  rw [h1.1, h2] at e ⊢
  rw [x1, x3] at e ⊢
  obtain ⟨y1, y2, y3⟩ := gFo e
  exact ⟨h1.2.2, by rw [y3, Int.zero_add], by omega, y1, y2⟩
theorem gRng (hc : ∀ u, u < nr → 1 ≤ cl u ∧ cl u ≤ 4) (e : (sRng b n nr nt cl h).1 = 0) : 0 ≤ pFd b n nt nr h ∧ 0 ≤ pFd b n nt nr (h + 2) ∧ (sRng b n nr nt cl h).2.2 = rX (cF b n nr nt cl h) (cF b n nr nt cl (h + 2)) ((iCnt (nxE b n) (spC b n) 5 (h + 8) : Nat) : Int) ∧ okP b n (cF b n nr nt cl h) (cF b n nr nt cl (h + 2)) (h + 4) ∧ ∀ j, j < iCnt (nxE b n) (spC b n) 5 (h + 8) → okE b n (cF b n nr nt cl h + cF b n nr nt cl (h + 2)) (iPos (nxE b n) (h + 8) j) := by
  unfold sRng at e ⊢
  obtain ⟨a1, a2⟩ := thn_i e
  rw [a2] at e ⊢
  obtain ⟨b1, b2⟩ := thn_i e
  rw [b2] at e ⊢
  obtain ⟨c1, c2⟩ := thn_i e
  rw [c2] at e ⊢
  obtain ⟨d1, d2⟩ := thn_i e
  rw [d2] at e ⊢
  obtain ⟨f1, f2⟩ := thn_i e
  rw [f2] at e ⊢
  obtain ⟨g1, g2⟩ := thn_i e
  rw [g2] at e ⊢
  obtain ⟨k1, k2⟩ := thn_i e
  rw [k2]
  have h1 := sRl_h rfl a1
  have h2 := sTw_h rfl b1
  rw [h1.1] at h2
  have h2 : (sTw b n 14 (h + 1)).2.1 = h + 2 := h2
  have h3 := sRl_h rfl c1
  rw [h1.1, h2] at h3
  have h4 := sTw_h rfl d1
  rw [h1.1, h2, h3.1] at h4
  have h3 : (sRl b n nr nt cl (h + 2)).2.1 = h + 3 ∧ (sRl b n nr nt cl (h + 2)).2.2 = cF b n nr nt cl (h + 2) ∧ 0 ≤ pFd b n nt nr (h + 2) := h3
  have h4 : (sTw b n 12 (h + 3)).2.1 = h + 4 := h4
  rw [h1.1, h2, h3.1, h4, h3.2.1, h1.2.1] at f1
  have h5 := sPair_okP f1
  have h6 := sPair_h rfl f1
  have h6 : (sPair b n (cF b n nr nt cl h) (cF b n nr nt cl (h + 2)) 0 1 (h + 4)).2.1 = h + 7 ∧ _ := h6
  have h7 := sTw_h rfl g1
  rw [h1.1, h2, h3.1, h4, h3.2.1, h1.2.1, h6.1] at h7
  have h7 : (sTw b n 15 (h + 7)).2.1 = h + 8 := h7
  rw [h1.1, h2, h3.1, h4, h3.2.1, h1.2.1, h6.1, h7] at k1
  rw [h1.1, h2, h3.1, h4, h3.2.1, h1.2.1, h6.1, h7]
  have q1 := hc (pFd b n nt nr h).toNat (by have := pFd_r (b := b) (n := n) (r := nr) (nt := nt) h; have := h1.2.2; omega)
  have q2 := hc (pFd b n nt nr (h + 2)).toNat (by have := pFd_r (b := b) (n := n) (r := nr) (nt := nt) (h + 2); have := h3.2.2; omega)
  obtain ⟨x1, x2, x3⟩ := sTerms_all (by unfold cF; omega) _ _ _ (by decide) k1
  refine ⟨h1.2.2, h3.2.2, ?_, h5, x3⟩
  show rX _ _ _ = _
  rw [x1, Int.zero_add]
end Good
