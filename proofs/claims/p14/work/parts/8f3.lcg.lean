section
/-! what a line that was read holds: by kinds -/
section Good
variable {b : tTx} {n nr h : Nat} {nt : Nat → Nat} {cl : Nat → Int} {r : pR} {f : Nat → Int → pR}
theorem thn_i (e : (thn r f).1 = 0) : r.1 = 0 ∧ thn r f = f r.2.1 r.2.2 := by
  by_cases q : r.1 = 0
  · exact ⟨q, thn_y (f := f) rfl q rfl⟩
  · rw [thn_x (f := f) rfl q] at e; exact absurd e q
theorem gSel (e : (sSel b n nr nt cl h).1 = 0) : 0 ≤ pFd b n nt nr h ∧ (sSel b n nr nt cl h).2.2 = cF b n nr nt cl h ∧ ∀ j, j < iCnt nxT (spA b n) 9 (h + 2) → okT b n (iPos nxT (h + 2) j) := by
  unfold sSel at e ⊢
  obtain ⟨a1, a2⟩ := thn_i e
  rw [a2] at e ⊢
  obtain ⟨b1, b2⟩ := thn_i e
  rw [b2] at e ⊢
  have h1 := sRl_h rfl a1
  have h2 := sTw_h rfl b1
  rw [h1.1] at h2
  have hx := sTests_x _ _ _ e
  have ha := sTests_all _ _ _ e
  rw [h1.1, h2] at ha
  exact ⟨h1.2.2, by rw [hx, h1.2.1], ha⟩
theorem gPrj (hc : ∀ u, u < nr → 1 ≤ cl u ∧ cl u ≤ 4) (e : (sPrj b n nr nt cl h).1 = 0) : 0 ≤ pFd b n nt nr h ∧ (sPrj b n nr nt cl h).2.2 = ((iCnt (nxE b n) (spC b n) 5 (h + 1) : Nat) : Int) ∧ (1 ≤ iCnt (nxE b n) (spC b n) 5 (h + 1) ∧ iCnt (nxE b n) (spC b n) 5 (h + 1) ≤ 4) ∧ ∀ j, j < iCnt (nxE b n) (spC b n) 5 (h + 1) → okE b n (cF b n nr nt cl h) (iPos (nxE b n) (h + 1) j) := by
  unfold sPrj at e ⊢
  obtain ⟨a1, a2⟩ := thn_i e
  rw [a2] at e ⊢
  have h1 := sRl_h rfl a1
  have q := hc (pFd b n nt nr h).toNat (by have := pFd_r (b := b) (n := n) (r := nr) (nt := nt) h; have := h1.2.2; omega)
  rw [h1.1, h1.2.1] at e ⊢
  obtain ⟨x1, x2, x3⟩ := sTerms_all (by unfold cF; omega) _ _ _ (by decide) e
  exact ⟨h1.2.2, by rw [x1]; omega, by omega, x3⟩
theorem gJoi (e : (sJoi b n nr nt cl h).1 = 0) : 0 ≤ pFd b n nt nr h ∧ 0 ≤ pFd b n nt nr (h + 1) ∧ (∃ L' : List Int, (sJoi b n nr nt cl h).2.2 = cF b n nr nt cl h + jC L' (cF b n nr nt cl (h + 1)).toNat ∧ ∀ x, x ∈ L' ↔ ∃ j, j < iCnt nxT (spC b n) 5 (h + 3) ∧ pV b n (iPos nxT (h + 3) j + 2) = x) ∧ ∀ j, j < iCnt nxT (spC b n) 5 (h + 3) → okP b n (cF b n nr nt cl h) (cF b n nr nt cl (h + 1)) (iPos nxT (h + 3) j) := by
  unfold sJoi at e ⊢
  obtain ⟨a1, a2⟩ := thn_i e
  rw [a2] at e ⊢
  obtain ⟨b1, b2⟩ := thn_i e
  rw [b2] at e ⊢
  obtain ⟨c1, c2⟩ := thn_i e
  rw [c2] at e ⊢
  have h1 := sRl_h rfl a1
  have h2 := sRl_h rfl b1
  have h3 := sTw_h rfl c1
  rw [h1.1] at h2
  rw [h1.1, h2.1] at h3
  rw [h1.1] at e ⊢
  rw [h2.2.1, h1.2.1, h2.1, h3] at e
  rw [h2.2.1, h1.2.1, h2.1, h3]
  obtain ⟨⟨L', x1, x2⟩, x3⟩ := sPairs_all _ _ _ _ e
  refine ⟨h1.2.2, h2.2.2, ⟨L', x1, fun x => ?_⟩, x3⟩
  rw [x2 x]
  exact ⟨fun q => q.resolve_left List.not_mem_nil, Or.inr⟩
theorem gTwo (e : (sTwo b n nr nt cl h).1 = 0) : 0 ≤ pFd b n nt nr h ∧ 0 ≤ pFd b n nt nr (h + 1) ∧ (sTwo b n nr nt cl h).2.2 = cF b n nr nt cl h ∧ cF b n nr nt cl (h + 1) = cF b n nr nt cl h := by
  unfold sTwo at e ⊢
  obtain ⟨a1, a2⟩ := thn_i e
  rw [a2] at e ⊢
  have h1 := sRl_h rfl a1
  rw [h1.1, h1.2.1] at e ⊢
  by_cases k : pRf b n nt nr (h + 1) = 0
  · rw [if_pos k] at e ⊢
    by_cases q : cF b n nr nt cl (h + 1) = cF b n nr nt cl h
    · rw [if_pos q]; exact ⟨h1.2.2, (pRf_i k).2, rfl, q⟩
    · rw [if_neg q] at e; exact (pr_no e (by decide)).elim
  · rw [if_neg k] at e; exact absurd e k
theorem gFo {c x : Int} (e : (sFo b n c x h).1 = 0) : (16 ≤ pV b n h ∧ pV b n h ≤ 19) ∧ (pV b n h ≠ 16 → 0 ≤ pV b n (h + 1) ∧ pV b n (h + 1) ≤ 3) ∧ (sFo b n c x h).2.2 = x := by
  refine ⟨?_, ?_, sFo_x e⟩
  · unfold sFo at e
    by_cases a : pK b n h = 3 ∧ 16 ≤ pV b n h ∧ pV b n h ≤ 19
    · exact a.2
    · rw [if_neg a] at e; exact (pr_no e (by decide)).elim
  · intro z
    unfold sFo at e
    by_cases a : pK b n h = 3 ∧ 16 ≤ pV b n h ∧ pV b n h ≤ 19
    · rw [if_pos a, if_neg z] at e
      by_cases w : pCf b n c (h + 1) = 0
      · exact pV_c (pCf_0 w).1
      · rw [if_neg w] at e; exact absurd e w
    · rw [if_neg a] at e; exact (pr_no e (by decide)).elim
theorem gGrp (e : (sGrp b n nr nt cl h).1 = 0) : 0 ≤ pFd b n nt nr h ∧ (sGrp b n nr nt cl h).2.2 = ((iCnt nxB (spC b n) 4 (h + 2) : Nat) : Int) + 1 ∧ (1 ≤ iCnt nxB (spC b n) 4 (h + 2) ∧ iCnt nxB (spC b n) 4 (h + 2) ≤ 3) ∧
    (16 ≤ pV b n (nxB (iPos nxB (h + 2) (iCnt nxB (spC b n) 4 (h + 2) - 1))) ∧ pV b n (nxB (iPos nxB (h + 2) (iCnt nxB (spC b n) 4 (h + 2) - 1))) ≤ 19) ∧
    (pV b n (nxB (iPos nxB (h + 2) (iCnt nxB (spC b n) 4 (h + 2) - 1))) ≠ 16 → 0 ≤ pV b n (nxB (iPos nxB (h + 2) (iCnt nxB (spC b n) 4 (h + 2) - 1)) + 1) ∧ pV b n (nxB (iPos nxB (h + 2) (iCnt nxB (spC b n) 4 (h + 2) - 1)) + 1) ≤ 3) := by
  unfold sGrp at e ⊢
  obtain ⟨a1, a2⟩ := thn_i e
  rw [a2] at e ⊢
  obtain ⟨b1, b2⟩ := thn_i e
  rw [b2] at e ⊢
  obtain ⟨c1, c2⟩ := thn_i e
  rw [c2] at e ⊢
  have h1 := sRl_h rfl a1
  have h2 := sTw_h rfl b1
  rw [h1.1] at h2
  have h2 : (sTw b n 13 (h + 1)).2.1 = h + 2 := h2
  rw [h1.1, h2] at c1
  obtain ⟨x1, x2, x3⟩ := sBys_all _ _ _ _ (by decide) c1
  rw [h1.1, h2] at e ⊢
  rw [x1, x3] at e ⊢
  obtain ⟨y1, y2, y3⟩ := gFo e
  exact ⟨h1.2.2, by rw [y3, Int.zero_add], by omega, y1, y2⟩
theorem gRng (hc : ∀ u, u < nr → 1 ≤ cl u ∧ cl u ≤ 4) (e : (sRng b n nr nt cl h).1 = 0) : 0 ≤ pFd b n nt nr h ∧ 0 ≤ pFd b n nt nr (h + 2) ∧ (sRng b n nr nt cl h).2.2 = rX (cF b n nr nt cl h) (cF b n nr nt cl (h + 2)) ((iCnt (nxE b n) (spC b n) 5 (h + 8) : Nat) : Int) ∧ okP b n (cF b n nr nt cl h) (cF b n nr nt cl (h + 2)) (h + 4) ∧ ∀ j, j < iCnt (nxE b n) (spC b n) 5 (h + 8) → okE b n (cF b n nr nt cl h + cF b n nr nt cl (h + 2)) (iPos (nxE b n) (h + 8) j) := by
  unfold sRng at e ⊢
  obtain ⟨a1, a2⟩ := thn_i e
  rw [a2] at e ⊢
  obtain ⟨b1, b2⟩ := thn_i e
  rw [b2] at e ⊢
  obtain ⟨c1, c2⟩ := thn_i e
  rw [c2] at e ⊢
  obtain ⟨d1, d2⟩ := thn_i e
  rw [d2] at e ⊢
  obtain ⟨f1, f2⟩ := thn_i e
  rw [f2] at e ⊢
  obtain ⟨g1, g2⟩ := thn_i e
  rw [g2] at e ⊢
  obtain ⟨k1, k2⟩ := thn_i e
  rw [k2]
  have h1 := sRl_h rfl a1
  have h2 := sTw_h rfl b1
  rw [h1.1] at h2
  have h2 : (sTw b n 14 (h + 1)).2.1 = h + 2 := h2
  have h3 := sRl_h rfl c1
  rw [h1.1, h2] at h3
  have h4 := sTw_h rfl d1
  rw [h1.1, h2, h3.1] at h4
  have h3 : (sRl b n nr nt cl (h + 2)).2.1 = h + 3 ∧ (sRl b n nr nt cl (h + 2)).2.2 = cF b n nr nt cl (h + 2) ∧ 0 ≤ pFd b n nt nr (h + 2) := h3
  have h4 : (sTw b n 12 (h + 3)).2.1 = h + 4 := h4
  rw [h1.1, h2, h3.1, h4, h3.2.1, h1.2.1] at f1
  have h5 := sPair_okP f1
  have h6 := sPair_h rfl f1
  have h6 : (sPair b n (cF b n nr nt cl h) (cF b n nr nt cl (h + 2)) 0 1 (h + 4)).2.1 = h + 7 ∧ _ := h6
  have h7 := sTw_h rfl g1
  rw [h1.1, h2, h3.1, h4, h3.2.1, h1.2.1, h6.1] at h7
  have h7 : (sTw b n 15 (h + 7)).2.1 = h + 8 := h7
  rw [h1.1, h2, h3.1, h4, h3.2.1, h1.2.1, h6.1, h7] at k1
  rw [h1.1, h2, h3.1, h4, h3.2.1, h1.2.1, h6.1, h7]
  have q1 := hc (pFd b n nt nr h).toNat (by have := pFd_r (b := b) (n := n) (r := nr) (nt := nt) h; have := h1.2.2; omega)
  have q2 := hc (pFd b n nt nr (h + 2)).toNat (by have := pFd_r (b := b) (n := n) (r := nr) (nt := nt) (h + 2); have := h3.2.2; omega)
  obtain ⟨x1, x2, x3⟩ := sTerms_all (by unfold cF; omega) _ _ _ (by decide) k1
  refine ⟨h1.2.2, h3.2.2, ?_, h5, x3⟩
  show rX _ _ _ = _
  rw [x1, Int.zero_add]
end Good
end
section
/-! one line as told, by tokens -/
section Lct
variable (b : tTx) (n : Nat) (nt : Nat → Nat) (cl : Nat → Int) (r : Nat)
def lcF : Int := if kdT b n (nt r) = 0 then -1 else pFd b n nt r (nt r + 3)
def lcS : Int := if kdT b n (nt r) = 3 ∨ kdT b n (nt r) = 4 ∨ kdT b n (nt r) = 5 then pFd b n nt r (nt r + 3 + 1) else if kdT b n (nt r) = 8 then pFd b n nt r (nt r + 3 + 2) else -1
def lcN : Nat := if kdT b n (nt r) = 1 then iCnt nxT (spA b n) 9 (nt r + 3 + 2) else if kdT b n (nt r) = 2 then iCnt (nxE b n) (spC b n) 5 (nt r + 3 + 1) else if kdT b n (nt r) = 3 then iCnt nxT (spC b n) 5 (nt r + 3 + 3)
  else if kdT b n (nt r) = 7 then iCnt nxB (spC b n) 4 (nt r + 3 + 2) else if kdT b n (nt r) = 8 then iCnt (nxE b n) (spC b n) 5 (nt r + 3 + 8) else 0
def lcO : Nat := nxB (iPos nxB (nt r + 3 + 2) (lcN b n nt r - 1))
def lcP (k w : Nat) : Int :=
  if kdT b n (nt r) = 1 then (if w = 0 then pV b n (iPos nxT (nt r + 3 + 2) k) else if w = 1 then pK b n (iPos nxT (nt r + 3 + 2) k + 1) else if w = 2 then (if pK b n (iPos nxT (nt r + 3 + 2) k + 2) = 4 then -1 else pV b n (iPos nxT (nt r + 3 + 2) k + 2)) else pV b n (iPos nxT (nt r + 3 + 2) k + 2))
  else if kdT b n (nt r) = 2 then (if w = 0 then teC b n (iPos (nxE b n) (nt r + 3 + 1) k) else teN b n (iPos (nxE b n) (nt r + 3 + 1) k))
  else if kdT b n (nt r) = 3 then (if w = 0 then pV b n (iPos nxT (nt r + 3 + 3) k) else pV b n (iPos nxT (nt r + 3 + 3) k + 2))
  else if kdT b n (nt r) = 7 then pV b n (iPos nxB (nt r + 3 + 2) k)
  else (if w = 0 then teC b n (iPos (nxE b n) (nt r + 3 + 8) k) else teN b n (iPos (nxE b n) (nt r + 3 + 8) k))
def lcA : Nat → Int
  | 0 => kdT b n (nt r)
  | 1 => cl r
  | 2 => lcF b n nt r
  | 3 => lcS b n nt r
  | 4 => ((lcN b n nt r : Nat) : Int)
  | 5 => cl (lcF b n nt r).toNat
  | 6 => cl (lcS b n nt r).toNat
  | 7 => pV b n (nt r + 3 + 4)
  | 8 => pV b n (nt r + 3 + 6)
  | 9 => pV b n (lcO b n nt r) - 16
  | 10 => if pV b n (lcO b n nt r) = 16 then 0 else pV b n (lcO b n nt r + 1)
  | _ => 0
def lcT : LC := (lcA b n nt cl r, lcP b n nt r)
end Lct
section LctC
variable {b : tTx} {n : Nat} {nt : Nat → Nat} {cl : Nat → Int} {r : Nat} {f P : Nat → Int32}
theorem lcF_v (h : kdT b n (nt r) ≠ 0) : lcF b n nt r = pFd b n nt r (nt r + 3) := if_neg h
theorem lcS_1 (h : kdT b n (nt r) = 3 ∨ kdT b n (nt r) = 4 ∨ kdT b n (nt r) = 5) : lcS b n nt r = pFd b n nt r (nt r + 3 + 1) := if_pos h
theorem lcS_2 (h : kdT b n (nt r) = 8) : lcS b n nt r = pFd b n nt r (nt r + 3 + 2) := by unfold lcS; rw [if_neg (by omega), if_pos h]
theorem lcS_0 (h : ¬ (kdT b n (nt r) = 3 ∨ kdT b n (nt r) = 4 ∨ kdT b n (nt r) = 5)) (k : kdT b n (nt r) ≠ 8) : lcS b n nt r = -1 := by unfold lcS; rw [if_neg h, if_neg k]
theorem lcN_1 (h : kdT b n (nt r) = 1) : lcN b n nt r = iCnt nxT (spA b n) 9 (nt r + 3 + 2) := if_pos h
theorem lcN_2 (h : kdT b n (nt r) = 2) : lcN b n nt r = iCnt (nxE b n) (spC b n) 5 (nt r + 3 + 1) := by unfold lcN; rw [if_neg (by omega), if_pos h]
theorem lcN_3 (h : kdT b n (nt r) = 3) : lcN b n nt r = iCnt nxT (spC b n) 5 (nt r + 3 + 3) := by unfold lcN; rw [if_neg (by omega), if_neg (by omega), if_pos h]
theorem lcN_7 (h : kdT b n (nt r) = 7) : lcN b n nt r = iCnt nxB (spC b n) 4 (nt r + 3 + 2) := by unfold lcN; rw [if_neg (by omega), if_neg (by omega), if_neg (by omega), if_pos h]
theorem lcN_8 (h : kdT b n (nt r) = 8) : lcN b n nt r = iCnt (nxE b n) (spC b n) 5 (nt r + 3 + 8) := by unfold lcN; rw [if_neg (by omega), if_neg (by omega), if_neg (by omega), if_neg (by omega), if_pos h]
theorem lcP_1 (h : kdT b n (nt r) = 1) {k w : Nat} : lcP b n nt r k w = (if w = 0 then pV b n (iPos nxT (nt r + 3 + 2) k) else if w = 1 then pK b n (iPos nxT (nt r + 3 + 2) k + 1) else if w = 2 then (if pK b n (iPos nxT (nt r + 3 + 2) k + 2) = 4 then -1 else pV b n (iPos nxT (nt r + 3 + 2) k + 2)) else pV b n (iPos nxT (nt r + 3 + 2) k + 2)) := if_pos h
theorem lcP_2 (h : kdT b n (nt r) = 2) {k w : Nat} : lcP b n nt r k w = (if w = 0 then teC b n (iPos (nxE b n) (nt r + 3 + 1) k) else teN b n (iPos (nxE b n) (nt r + 3 + 1) k)) := by unfold lcP; rw [if_neg (by omega), if_pos h]
theorem lcP_3 (h : kdT b n (nt r) = 3) {k w : Nat} : lcP b n nt r k w = (if w = 0 then pV b n (iPos nxT (nt r + 3 + 3) k) else pV b n (iPos nxT (nt r + 3 + 3) k + 2)) := by unfold lcP; rw [if_neg (by omega), if_neg (by omega), if_pos h]
theorem lcP_7 (h : kdT b n (nt r) = 7) {k w : Nat} : lcP b n nt r k w = pV b n (iPos nxB (nt r + 3 + 2) k) := by unfold lcP; rw [if_neg (by omega), if_neg (by omega), if_neg (by omega), if_pos h]
theorem lcP_8 (h : kdT b n (nt r) = 8) {k w : Nat} : lcP b n nt r k w = (if w = 0 then teC b n (iPos (nxE b n) (nt r + 3 + 8) k) else teN b n (iPos (nxE b n) (nt r + 3 + 8) k)) := by unfold lcP; rw [if_neg (by omega), if_neg (by omega), if_neg (by omega), if_neg (by omega)]
theorem kd_cs (h : 0 ≤ kdT b n (nt r) ∧ kdT b n (nt r) ≤ 8) : kdT b n (nt r) = 0 ∨ kdT b n (nt r) = 1 ∨ kdT b n (nt r) = 2 ∨ kdT b n (nt r) = 3 ∨ (kdT b n (nt r) = 4 ∨ kdT b n (nt r) = 5) ∨ kdT b n (nt r) = 6 ∨ kdT b n (nt r) = 7 ∨ kdT b n (nt r) = 8 := by omega
/-- a line of the class that was read holds it -/
theorem lnC_k (hk : (f 0).toInt = kdT b n (nt r)) (hc : (f 2).toInt = cl r) (h9 : 0 ≤ kdT b n (nt r) ∧ kdT b n (nt r) ≤ 8) (h : kLn b n r nt cl (nt r + 3) f P (kdT b n (nt r))) : lnC f P (lcT b n nt cl r) := by
  have NO : ∀ {k : Int} {p : Prop}, kdT b n (nt r) ≠ k → (lcT b n nt cl r).1 0 = k → p := fun a c => absurd c a
  unfold lnC
  show ((f 0).toInt = kdT b n (nt r) ∧ (f 2).toInt = cl r ∧ (f 3).toInt = lcF b n nt r ∧ (f 4).toInt = lcS b n nt r) ∧ _
  unfold kLn at h
  rcases kd_cs h9 with e | e | e | e | e | e | e | e
  · repeat rw [if_neg (by omega)] at h
    refine ⟨⟨hk, hc, by rw [h.1]; unfold lcF; rw [if_pos e], by rw [h.2, lcS_0 (by omega) (by omega)]⟩, fun q => ?_, fun q => ?_, NO (by omega), fun q => ?_, NO (by omega), NO (by omega)⟩ <;> (have q : _ ∨ _ := q; exfalso; have e9 : (lcT b n nt cl r).1 0 = kdT b n (nt r) := rfl; omega)
  · rw [if_pos e] at h
    obtain ⟨a1, a2, a3, a4⟩ := h
    refine ⟨⟨hk, hc, by rw [a1, lcF_v (by omega)], by rw [a2, lcS_0 (by omega) (by omega)]⟩, fun _ => ?_, fun q => ?_, fun _ k hk9 => ?_, fun q => ?_, NO (by omega), NO (by omega)⟩
    · show _ = ((lcN b n nt r : Nat) : Int); rw [a3, lcN_1 e]
    · exfalso; have e9 : (lcT b n nt cl r).1 0 = kdT b n (nt r) := rfl; omega
    · have q := a4 k (by have hk9 : (k : Int) < ((lcN b n nt r : Nat) : Int) := hk9; rw [lcN_1 e] at hk9; rw [a3]; exact hk9)
      show _ = lcP b n nt r k 0 ∧ _ = lcP b n nt r k 1 ∧ _ = lcP b n nt r k 2 ∧ _ = lcP b n nt r k 3
      rw [lcP_1 e, lcP_1 e, lcP_1 e, lcP_1 e]; exact q
    · exfalso; have e9 : (lcT b n nt cl r).1 0 = kdT b n (nt r) := rfl; omega
  · rw [if_neg (by omega), if_pos e] at h
    obtain ⟨a1, a2, a3, a4⟩ := h
    refine ⟨⟨hk, hc, by rw [a1, lcF_v (by omega)], by rw [a2, lcS_0 (by omega) (by omega)]⟩, fun _ => ?_, fun q => ?_, NO (by omega), fun _ k hk9 => ?_, NO (by omega), NO (by omega)⟩
    · show _ = ((lcN b n nt r : Nat) : Int); rw [a3, lcN_2 e]
    · exfalso; have e9 : (lcT b n nt cl r).1 0 = kdT b n (nt r) := rfl; omega
    · have q := a4 k (by have hk9 : (k : Int) < ((lcN b n nt r : Nat) : Int) := hk9; rw [lcN_2 e] at hk9; rw [a3]; exact hk9)
      show _ = lcP b n nt r k 0 ∧ _ = lcP b n nt r k 1
      rw [lcP_2 e, lcP_2 e]; exact q
  · rw [if_neg (by omega), if_neg (by omega), if_pos e] at h
    obtain ⟨a1, a2, a5, a6, a3, a4⟩ := h
    refine ⟨⟨hk, hc, by rw [a1, lcF_v (by omega)], by rw [a2, lcS_1 (by omega)]⟩, fun _ => ?_, fun _ => ?_, NO (by omega), fun _ k hk9 => ?_, NO (by omega), NO (by omega)⟩
    · show _ = ((lcN b n nt r : Nat) : Int); rw [a3, lcN_3 e]
    · show _ = cl (lcF b n nt r).toNat ∧ _ = cl (lcS b n nt r).toNat
      rw [lcF_v (by omega), lcS_1 (by omega)]; exact ⟨a5, a6⟩
    · have q := a4 k (by have hk9 : (k : Int) < ((lcN b n nt r : Nat) : Int) := hk9; rw [lcN_3 e] at hk9; rw [a3]; exact hk9)
      show _ = lcP b n nt r k 0 ∧ _ = lcP b n nt r k 1
      rw [lcP_3 e, lcP_3 e]; exact q
  · rw [if_neg (by omega), if_neg (by omega), if_neg (by omega), if_pos e] at h
    refine ⟨⟨hk, hc, by rw [h.1, lcF_v (by omega)], by rw [h.2, lcS_1 (by omega)]⟩, fun q => ?_, fun q => ?_, NO (by omega), fun q => ?_, NO (by omega), NO (by omega)⟩ <;> (exfalso; have e9 : (lcT b n nt cl r).1 0 = kdT b n (nt r) := rfl; omega)
  · rw [if_neg (by omega), if_neg (by omega), if_neg (by omega), if_neg (by omega), if_pos e] at h
    refine ⟨⟨hk, hc, by rw [h.1, lcF_v (by omega)], by rw [h.2, lcS_0 (by omega) (by omega)]⟩, fun q => ?_, fun q => ?_, NO (by omega), fun q => ?_, NO (by omega), NO (by omega)⟩ <;> (exfalso; have e9 : (lcT b n nt cl r).1 0 = kdT b n (nt r) := rfl; omega)
  · rw [if_neg (by omega), if_neg (by omega), if_neg (by omega), if_neg (by omega), if_neg (by omega), if_pos e] at h
    obtain ⟨a1, a2, a3, a4, a5, a6⟩ := h
    rw [a3, ← lcN_7 e, show (((lcN b n nt r : Nat) : Int)).toNat = lcN b n nt r from rfl] at a5 a6
    refine ⟨⟨hk, hc, by rw [a1, lcF_v (by omega)], by rw [a2, lcS_0 (by omega) (by omega)]⟩, fun _ => ?_, fun q => ?_, NO (by omega), fun q => ?_, fun _ => ⟨fun k hk9 => ?_, ?_, a6⟩, NO (by omega)⟩
    · show _ = ((lcN b n nt r : Nat) : Int); rw [a3, lcN_7 e]
    · exfalso; have e9 : (lcT b n nt cl r).1 0 = kdT b n (nt r) := rfl; omega
    · exfalso; have e9 : (lcT b n nt cl r).1 0 = kdT b n (nt r) := rfl; omega
    · have q := a4 k (by have hk9 : (k : Int) < ((lcN b n nt r : Nat) : Int) := hk9; rw [lcN_7 e] at hk9; rw [a3]; exact hk9)
      show _ = lcP b n nt r k 0
      rw [lcP_7 e]; exact q
    · show _ = 16 + (pV b n (lcO b n nt r) - 16)
      have a5 : (f 11).toInt = pV b n (lcO b n nt r) := a5
      rw [a5]; omega
  · rw [if_neg (by omega), if_neg (by omega), if_neg (by omega), if_neg (by omega), if_neg (by omega), if_neg (by omega), if_pos e] at h
    obtain ⟨a1, a2, a5, a6, a7, a8, a3, a4⟩ := h
    refine ⟨⟨hk, hc, by rw [a1, lcF_v (by omega)], by rw [a2, lcS_2 e]⟩, fun _ => ?_, fun _ => ?_, NO (by omega), fun _ k hk9 => ?_, NO (by omega), fun _ => ⟨a7, a8⟩⟩
    · show _ = ((lcN b n nt r : Nat) : Int); rw [a3, lcN_8 e]
    · show _ = cl (lcF b n nt r).toNat ∧ _ = cl (lcS b n nt r).toNat
      rw [lcF_v (by omega), lcS_2 e]; exact ⟨a5, a6⟩
    · have q := a4 k (by have hk9 : (k : Int) < ((lcN b n nt r : Nat) : Int) := hk9; rw [lcN_8 e] at hk9; rw [a3]; exact hk9)
      show _ = lcP b n nt r k 0 ∧ _ = lcP b n nt r k 1
      rw [lcP_8 e, lcP_8 e]; exact q
/-- nt and cl of earlier lines alone -/
theorem kLn_cg {nt' : Nat → Nat} {cl' : Nat → Int} {h : Nat} {kd : Int} (hf : kd = 3 → cF b n r nt' cl' h = cF b n r nt cl h ∧ cF b n r nt' cl' (h + 1) = cF b n r nt cl (h + 1)) (hg : kd = 8 → cF b n r nt' cl' h = cF b n r nt cl h ∧ cF b n r nt' cl' (h + 2) = cF b n r nt cl (h + 2)) (e : ∀ u, u < r → nt' u = nt u) (w : kLn b n r nt cl h f P kd) : kLn b n r nt' cl' h f P kd := by
  unfold kLn at w ⊢
  unfold kSel kPrj kJoi kTwo kOne kGrp kRng at w ⊢
  have e1 : ∀ t, pFd b n nt' r t = pFd b n nt r t := fun t => pFd_cg e t
  simp only [e1]
  by_cases k1 : kd = 1
  · rw [if_pos k1] at w ⊢; exact w
  rw [if_neg k1] at w ⊢
  by_cases k2 : kd = 2
  · rw [if_pos k2] at w ⊢; exact w
  rw [if_neg k2] at w ⊢
  by_cases k3 : kd = 3
  · rw [if_pos k3] at w ⊢
    rw [(hf k3).1, (hf k3).2]; exact w
  rw [if_neg k3] at w ⊢
  by_cases k4 : kd = 4 ∨ kd = 5
  · rw [if_pos k4] at w ⊢; exact w
  rw [if_neg k4] at w ⊢
  by_cases k6 : kd = 6
  · rw [if_pos k6] at w ⊢; exact w
  rw [if_neg k6] at w ⊢
  by_cases k7 : kd = 7
  · rw [if_pos k7] at w ⊢; exact w
  rw [if_neg k7] at w ⊢
  by_cases k8 : kd = 8
  · rw [if_pos k8] at w ⊢
    rw [(hg k8).1, (hg k8).2]; exact w
  rw [if_neg k8] at w ⊢; exact w
end LctC
end
section
/-! a line that was read is a good line -/
section LcG
variable {b : tTx} {n : Nat} {nt nt' : Nat → Nat} {cl cl' : Nat → Int} {r : Nat} {f P : Nat → Int32}
theorem LG_b {kd : Int} (h : LG b n nt cl r) (e : kdT b n (nt r) = kd) (hk : kd ≠ 0) : (sBody b n r nt cl kd (nt r + 3)).1 = 0 ∧ (sBody b n r nt cl kd (nt r + 3)).2.2 = cl r := by
  have q := h.2
  rw [show bTk b n (nt r) = nt r + 3 from if_neg (by omega), e] at q
  exact ⟨q.1, q.2.1⟩
theorem LG_1 (h : LG b n nt cl r) (e : kdT b n (nt r) = 1) : (sSel b n r nt cl (nt r + 3)).1 = 0 ∧ (sSel b n r nt cl (nt r + 3)).2.2 = cl r := LG_b h e (by decide)
theorem LG_2 (h : LG b n nt cl r) (e : kdT b n (nt r) = 2) : (sPrj b n r nt cl (nt r + 3)).1 = 0 ∧ (sPrj b n r nt cl (nt r + 3)).2.2 = cl r := LG_b h e (by decide)
theorem LG_3 (h : LG b n nt cl r) (e : kdT b n (nt r) = 3) : (sJoi b n r nt cl (nt r + 3)).1 = 0 ∧ (sJoi b n r nt cl (nt r + 3)).2.2 = cl r := LG_b h e (by decide)
theorem LG_4 (h : LG b n nt cl r) (e : kdT b n (nt r) = 4 ∨ kdT b n (nt r) = 5) : (sTwo b n r nt cl (nt r + 3)).1 = 0 ∧ (sTwo b n r nt cl (nt r + 3)).2.2 = cl r := by
  rcases e with e | e
  · exact LG_b h e (by decide)
  · exact LG_b h e (by decide)
theorem LG_6 (h : LG b n nt cl r) (e : kdT b n (nt r) = 6) : (sRl b n r nt cl (nt r + 3)).1 = 0 ∧ (sRl b n r nt cl (nt r + 3)).2.2 = cl r := LG_b h e (by decide)
theorem LG_7 (h : LG b n nt cl r) (e : kdT b n (nt r) = 7) : (sGrp b n r nt cl (nt r + 3)).1 = 0 ∧ (sGrp b n r nt cl (nt r + 3)).2.2 = cl r := LG_b h e (by decide)
theorem LG_8 (h : LG b n nt cl r) (e : kdT b n (nt r) = 8) : (sRng b n r nt cl (nt r + 3)).1 = 0 ∧ (sRng b n r nt cl (nt r + 3)).2.2 = cl r := LG_b h e (by decide)
theorem kLn_G (hc : ∀ u, u < r → 1 ≤ cl u ∧ cl u ≤ 4) (h : LG b n nt cl r) (e : ∀ u, u < r → nt' u = nt u) (e2 : ∀ u, u < r → cl' u = cl u) (w : kLn b n r nt cl (nt r + 3) f P (kdT b n (nt r))) : kLn b n r nt' cl' (nt r + 3) f P (kdT b n (nt r)) := by
  have q : ∀ t, 0 ≤ pFd b n nt r t → cF b n r nt' cl' t = cF b n r nt cl t := fun t a => by
    have c := pFd_r (b := b) (n := n) (r := r) (nt := nt) t
    unfold cF
    rw [pFd_cg e, e2 _ (by omega)]
  refine kLn_cg (fun k => ?_) (fun k => ?_) e w
  · have g := gJoi (LG_3 h k).1
    exact ⟨q _ g.1, q _ g.2.1⟩
  · have g := gRng hc (LG_8 h k).1
    exact ⟨q _ g.1, q _ g.2.1⟩
theorem tld_T (e : kdT b n (nt r) = 3) (d : Nat) : tld (lcT b n nt cl r) d ↔ ∃ j, j < iCnt nxT (spC b n) 5 (nt r + 3 + 3) ∧ pV b n (iPos nxT (nt r + 3 + 3) j + 2) = (d : Int) := by
  unfold tld
  show (∃ k : Nat, (k : Int) < ((lcN b n nt r : Nat) : Int) ∧ lcP b n nt r k 1 = (d : Int)) ↔ _
  rw [lcN_3 e]
  constructor
  · rintro ⟨k, hk, hq⟩
    rw [lcP_3 e] at hq
    exact ⟨k, by omega, hq⟩
  · rintro ⟨k, hk, hq⟩
    exact ⟨k, by omega, by rw [lcP_3 e]; exact hq⟩
theorem jC_T {c : LC} {L : List Int} (h : ∀ d : Nat, tld c d ↔ (d : Int) ∈ L) : ∀ m : Nat, jC L m = ((jc c m : Nat) : Int)
  | 0 => rfl
  | m + 1 => by
    rw [jC, jC_T h m]
    by_cases q : tld c m
    · rw [if_pos ((h m).mp q), jc_k q]; omega
    · rw [if_neg (fun z => q ((h m).mpr z)), jc_s q]; omega
theorem lc_good (hc : ∀ u, u < r → 1 ≤ cl u ∧ cl u ≤ 4) (h1 : 1 ≤ cl r) (h : LG b n nt cl r) (hk : kdT b n (nt r) ≠ 0) : cOK (lcT b n nt cl r) r cl ∧ cZ (lcT b n nt cl r) r cl := by
  have NO : ∀ {k : Int} {p : Prop}, kdT b n (nt r) ≠ k → (lcT b n nt cl r).1 0 = k → p := fun a c => absurd c a
  have e9 : (lcT b n nt cl r).1 0 = kdT b n (nt r) := rfl
  have eF : (lcT b n nt cl r).1 2 = pFd b n nt r (nt r + 3) := lcF_v hk
  have lF := pFd_r (b := b) (n := n) (r := r) (nt := nt) (nt r + 3)
  have lS1 := pFd_r (b := b) (n := n) (r := r) (nt := nt) (nt r + 3 + 1)
  have lS2 := pFd_r (b := b) (n := n) (r := r) (nt := nt) (nt r + 3 + 2)
  have h4 := h.2.2.2
  have e4 : (lcT b n nt cl r).1 4 = ((lcN b n nt r : Nat) : Int) := rfl
  have e5 : (lcT b n nt cl r).1 5 = cl ((lcT b n nt cl r).1 2).toNat := rfl
  have e6 : (lcT b n nt cl r).1 6 = cl ((lcT b n nt cl r).1 3).toNat := rfl
  have eS : (lcT b n nt cl r).1 3 = lcS b n nt r := rfl
  have NN : ∀ {k : Int}, ((lcT b n nt cl r).1 0 = k) = (kdT b n (nt r) = k) := rfl
  rcases kd_cs h.1 with e | e | e | e | e | e | e | e
  · exact absurd e hk
  · have g := gSel (LG_1 h e).1
    have x := (LG_1 h e).2
    have s := lcS_0 (b := b) (n := n) (nt := nt) (r := r) (by omega) (by omega)
    rw [g.2.1] at x
    refine ⟨⟨⟨by omega, by omega, by omega, by omega, by omega, by omega⟩, fun q => by omega, NO (by omega), NO (by omega), NO (by omega), NO (by omega)⟩, fun _ => by rw [eF]; exact x.symm, fun q => by omega, NO (by omega), NO (by omega), NO (by omega), NO (by omega)⟩
  · have g := gPrj hc (LG_2 h e).1
    have x := (LG_2 h e).2
    have s := lcS_0 (b := b) (n := n) (nt := nt) (r := r) (by omega) (by omega)
    rw [g.2.1, ← lcN_2 e] at x
    refine ⟨⟨⟨by omega, by omega, by omega, by omega, by omega, by omega⟩, fun q => by omega, fun _ => ⟨by omega, fun k k9 => ?_⟩, NO (by omega), NO (by omega), NO (by omega)⟩, fun q => by omega, fun q => by omega, fun _ => x.symm, NO (by omega), NO (by omega), NO (by omega)⟩
    have q := g.2.2.2 k (by rw [← lcN_2 e]; omega)
    show lcP b n nt r k 0 < 4
    rw [lcP_2 e, if_pos rfl]
    unfold okE at q; omega
  · have g := gJoi (LG_3 h e).1
    have x := (LG_3 h e).2
    have s := lcS_1 (b := b) (n := n) (nt := nt) (r := r) (by omega)
    obtain ⟨g1, g2, ⟨L', g3, g4⟩, g5⟩ := g
    have ht : ∀ d : Nat, tld (lcT b n nt cl r) d ↔ (d : Int) ∈ L' := fun d => by rw [tld_T e, g4]
    have a5 := hc (pFd b n nt r (nt r + 3)).toNat (by omega)
    have a6 := hc (pFd b n nt r (nt r + 3 + 1)).toNat (by omega)
    have k5 : (lcT b n nt cl r).1 5 = cF b n r nt cl (nt r + 3) := by rw [e5, eF]; rfl
    have k6 : (lcT b n nt cl r).1 6 = cF b n r nt cl (nt r + 3 + 1) := by rw [e6, eS, s]; rfl
    rw [g3, jC_T ht, ← k5, ← k6] at x
    unfold cF at k5 k6
    have jo : jOK (lcT b n nt cl r) := ⟨by omega, by omega, by omega, by omega, by omega, fun k k9 => by
      have q := g5 k (by rw [← lcN_3 e]; omega)
      unfold okP cF at q
      show 0 ≤ lcP b n nt r k 0 ∧ lcP b n nt r k 0 < _ ∧ 0 ≤ lcP b n nt r k 1 ∧ lcP b n nt r k 1 < _
      rw [lcP_3 e, lcP_3 e, if_pos rfl, if_neg (by decide), k5, k6]; omega⟩
    refine ⟨⟨⟨by omega, by omega, by omega, by omega, by omega, by omega⟩, fun q => by omega, NO (by omega), fun _ => ⟨jo, rfl, rfl⟩, NO (by omega), NO (by omega)⟩, fun q => by omega, fun q => by omega, NO (by omega), fun _ => x.symm, NO (by omega), NO (by omega)⟩
  · have g := gTwo (LG_4 h e).1
    have x := (LG_4 h e).2
    have s := lcS_1 (b := b) (n := n) (nt := nt) (r := r) (by omega)
    obtain ⟨g1, g2, g3, g4⟩ := g
    rw [g3] at x
    refine ⟨⟨⟨by omega, by omega, by omega, by omega, by omega, by omega⟩, fun q => by omega, NO (by omega), NO (by omega), NO (by omega), NO (by omega)⟩, fun q => by omega, fun _ => ⟨by rw [eF]; exact x.symm, by rw [eS, s, eF]; exact g4⟩, NO (by omega), NO (by omega), NO (by omega), NO (by omega)⟩
  · have x := (LG_6 h e).2
    have g := sRl_h rfl (LG_6 h e).1
    have s := lcS_0 (b := b) (n := n) (nt := nt) (r := r) (by omega) (by omega)
    rw [g.2.1] at x
    have g2 := g.2.2
    refine ⟨⟨⟨by omega, by omega, by omega, by omega, by omega, by omega⟩, fun q => by omega, NO (by omega), NO (by omega), NO (by omega), NO (by omega)⟩, fun _ => by rw [eF]; exact x.symm, fun q => by omega, NO (by omega), NO (by omega), NO (by omega), NO (by omega)⟩
  · have g := gGrp (LG_7 h e).1
    have x := (LG_7 h e).2
    have s := lcS_0 (b := b) (n := n) (nt := nt) (r := r) (by omega) (by omega)
    rw [g.2.1] at x
    obtain ⟨g1, g2, g3, g4, g5⟩ := g
    rw [← lcN_7 e] at g4 g5 x g3
    have u9 : (lcT b n nt cl r).1 9 = pV b n (lcO b n nt r) - 16 := rfl
    have u10 : (lcT b n nt cl r).1 10 = if pV b n (lcO b n nt r) = 16 then 0 else pV b n (lcO b n nt r + 1) := rfl
    have g4 : 16 ≤ pV b n (lcO b n nt r) ∧ pV b n (lcO b n nt r) ≤ 19 := g4
    have g5 : pV b n (lcO b n nt r) ≠ 16 → 0 ≤ pV b n (lcO b n nt r + 1) ∧ pV b n (lcO b n nt r + 1) ≤ 3 := g5
    have w10 : 0 ≤ (lcT b n nt cl r).1 10 ∧ (lcT b n nt cl r).1 10 ≤ 3 := by
      rw [u10]
      by_cases z : pV b n (lcO b n nt r) = 16
      · rw [if_pos z]; decide
      · rw [if_neg z]; exact g5 z
    refine ⟨⟨⟨by omega, by omega, by omega, by omega, by omega, by omega⟩, fun q => by omega, NO (by omega), NO (by omega), fun _ => ⟨⟨by omega, by omega⟩, ⟨by omega, by omega⟩, w10.1, w10.2⟩, NO (by omega)⟩, fun q => by omega, fun q => by omega, NO (by omega), NO (by omega), fun _ => by omega, NO (by omega)⟩
  · have g := gRng hc (LG_8 h e).1
    have x := (LG_8 h e).2
    have s := lcS_2 (b := b) (n := n) (nt := nt) (r := r) e
    obtain ⟨g1, g2, g3, g4, g5⟩ := g
    have a5 := hc (pFd b n nt r (nt r + 3)).toNat (by omega)
    have a6 := hc (pFd b n nt r (nt r + 3 + 2)).toNat (by omega)
    have k5 : (lcT b n nt cl r).1 5 = cF b n r nt cl (nt r + 3) := by rw [e5, eF]; rfl
    have k6 : (lcT b n nt cl r).1 6 = cF b n r nt cl (nt r + 3 + 2) := by rw [e6, eS, s]; rfl
    rw [g3] at x
    rw [← lcN_8 e, ← e4, ← k5, ← k6] at x
    rw [← k5, ← k6] at g4 g5
    have rx : ¬ ((lcT b n nt cl r).1 5 + (lcT b n nt cl r).1 6 ≤ 4 ∧ (lcT b n nt cl r).1 4 = (lcT b n nt cl r).1 5) → False := fun z => by
      have := rX_y z; omega
    have rx := Classical.not_not.mp rx
    rw [rX_e rx] at x
    unfold cF at k5 k6
    unfold okP at g4
    have ro : rOK (lcT b n nt cl r) := ⟨by omega, by omega, rx.1, rx.2, g4.1, g4.2.1, by have q := g4.2.2.1; exact q, g4.2.2.2.1, fun k k9 => by
      have q := g5 k (by rw [← lcN_8 e]; omega)
      unfold okE at q
      show -1 ≤ lcP b n nt r k 0 ∧ lcP b n nt r k 0 < _
      rw [lcP_8 e, if_pos rfl]; omega⟩
    refine ⟨⟨⟨by omega, by omega, by omega, by omega, by omega, by omega⟩, fun q => by omega, NO (by omega), NO (by omega), NO (by omega), fun _ => ⟨ro, rfl, rfl⟩⟩, fun q => by omega, fun q => by omega, NO (by omega), NO (by omega), NO (by omega), fun _ => x.symm⟩
end LcG
end
section
/-! what the reference's row of a line holds, by tokens -/
section Row
variable (b : tTx) (n nr : Nat) (nt : Nat → Nat) (cl : Nat → Int) (h : Nat) (T : Nat → Int32) (M : Int)
def rTest (T : Nat → Int32) (j t : Nat) : Prop := mP T M (j : Int) 0 = pV b n t ∧ mP T M (j : Int) 1 = (if pK b n (t + 1) = 61 then 0 else if pK b n (t + 1) = 60 then 1 else 2) ∧ mP T M (j : Int) 2 = (if pK b n (t + 2) = 4 then 0 else 1) ∧ mP T M (j : Int) 3 = pV b n (t + 2)
def rTerm (fm : Int) (T : Nat → Int32) (j t : Nat) : Prop := mP T M (fm + (j : Int)) 0 = teC b n t ∧ mP T M (fm + (j : Int)) 1 = teN b n t
def rPair (T : Nat → Int32) (j t : Nat) : Prop := mP T M (j : Int) 0 = pV b n t ∧ mP T M (j : Int) 1 = pV b n (t + 2)
def rBy (T : Nat → Int32) (j t : Nat) : Prop := mP T M (j : Int) 0 = pV b n t
/-- the columns that the pairs tell -/
def rGn (x : Int) (F h : Nat) : Prop := ∀ d : Nat, d < 4 → (mBit x (d : Int) = 1 ↔ ∃ j, j < iCnt nxT (spC b n) F h ∧ pV b n (iPos nxT h j + 2) = (d : Int))
def rFS (a c : Int) : Prop := tI T (40 * M + 2) = a ∧ tI T (40 * M + 3) = c
def mSel : Prop := rFS T M (pFd b n nt nr h) (-1) ∧ tI T (40 * M + 4) = ((iCnt nxT (spA b n) 9 (h + 2) : Nat) : Int) ∧ qAll (rTest b n M) nxT T (h + 2) ((iCnt nxT (spA b n) 9 (h + 2) : Nat) : Int)
def mPrj : Prop := rFS T M (pFd b n nt nr h) (-1) ∧ tI T (40 * M + 4) = ((iCnt (nxE b n) (spC b n) 5 (h + 1) : Nat) : Int) ∧ qAll (rTerm b n M 0) (nxE b n) T (h + 1) ((iCnt (nxE b n) (spC b n) 5 (h + 1) : Nat) : Int)
def mJoi : Prop := rFS T M (pFd b n nt nr h) (pFd b n nt nr (h + 1)) ∧ tI T (40 * M + 4) = ((iCnt nxT (spC b n) 5 (h + 3) : Nat) : Int) ∧ qAll (rPair b n M) nxT T (h + 3) ((iCnt nxT (spC b n) 5 (h + 3) : Nat) : Int) ∧ rGn b n (tI T (40 * M + 5)) 5 (h + 3)
def mTwo : Prop := rFS T M (pFd b n nt nr h) (pFd b n nt nr (h + 1))
def mDis : Prop := rFS T M (pFd b n nt nr h) (-1)
def mGrp : Prop := rFS T M (pFd b n nt nr h) (-1) ∧ tI T (40 * M + 4) = ((iCnt nxB (spC b n) 4 (h + 2) : Nat) : Int) ∧ qAll (rBy b n M) nxB T (h + 2) ((iCnt nxB (spC b n) 4 (h + 2) : Nat) : Int) ∧
  mP T M ((iCnt nxB (spC b n) 4 (h + 2) : Nat) : Int) 1 = pV b n (nxB (iPos nxB (h + 2) (iCnt nxB (spC b n) 4 (h + 2) - 1))) - 16 ∧ mP T M ((iCnt nxB (spC b n) 4 (h + 2) : Nat) : Int) 0 = (if pV b n (nxB (iPos nxB (h + 2) (iCnt nxB (spC b n) 4 (h + 2) - 1))) = 16 then 0 else pV b n (nxB (iPos nxB (h + 2) (iCnt nxB (spC b n) 4 (h + 2) - 1)) + 1))
def mRng : Prop := rFS T M (pFd b n nt nr h) (pFd b n nt nr (h + 2)) ∧ tI T (40 * M + 4) = ((iCnt (nxE b n) (spC b n) 5 (h + 8) : Nat) : Int) ∧ qAll (rTerm b n M 1) (nxE b n) T (h + 8) ((iCnt (nxE b n) (spC b n) 5 (h + 8) : Nat) : Int) ∧ mP T M 0 0 = pV b n (h + 4) ∧ mP T M 0 1 = pV b n (h + 6)
def mLn (kd : Int) : Prop :=
  if kd = 1 then mSel b n nr nt h T M else if kd = 2 then mPrj b n nr nt h T M else if kd = 3 then mJoi b n nr nt h T M else if kd = 4 ∨ kd = 5 then mTwo b n nr nt h T M
  else if kd = 6 then mDis b n nr nt h T M else if kd = 7 then mGrp b n nr nt h T M else if kd = 8 then mRng b n nr nt h T M else rFS T M (-1) (-1)
end Row
section RowC
variable {b : tTx} {n nr : Nat} {nt nt' : Nat → Nat} {cl : Nat → Int} {h r F hc : Nat} {T T' : Nat → Int32} {M k fm : Int} {nx : Nat → Nat} {sp : Nat → Bool} {q : (Nat → Int32) → Nat → Nat → Prop}
/-- q speaks of the part that is the j-th from fm on -/
def rLoc (q : (Nat → Int32) → Nat → Nat → Prop) (M fm : Int) : Prop := ∀ (T T' : Nat → Int32) (j t : Nat), (∀ w : Int, 0 ≤ w → w ≤ 3 → mP T' M (fm + (j : Int)) w = mP T M (fm + (j : Int)) w) → q T j t → q T' j t
theorem rTest_l : rLoc (rTest b n M) M 0 := fun T T' j t e w => by
  unfold rTest at w ⊢
  have e0 := e 0 (by decide) (by decide); have e1 := e 1 (by decide) (by decide); have e2 := e 2 (by decide) (by decide); have e3 := e 3 (by decide) (by decide)
  rw [Int.zero_add] at e0 e1 e2 e3
  rw [e0, e1, e2, e3]; exact w
theorem rTerm_l : rLoc (rTerm b n M fm) M fm := fun T T' j t e w => by
  unfold rTerm at w ⊢
  rw [e 0 (by decide) (by decide), e 1 (by decide) (by decide)]; exact w
theorem rPair_l : rLoc (rPair b n M) M 0 := fun T T' j t e w => by
  unfold rPair at w ⊢
  have e0 := e 0 (by decide) (by decide); have e1 := e 1 (by decide) (by decide)
  rw [Int.zero_add] at e0 e1
  rw [e0, e1]; exact w
theorem rBy_l : rLoc (rBy b n M) M 0 := fun T T' j t e w => by
  unfold rBy at w ⊢
  have e0 := e 0 (by decide) (by decide)
  rw [Int.zero_add] at e0
  rw [e0]; exact w
theorem rAll_c (hq : rLoc q M fm) (a : qAll q nx T h k) (e : ∀ j : Nat, (j : Int) < k → ∀ w : Int, 0 ≤ w → w ≤ 3 → mP T' M (fm + (j : Int)) w = mP T M (fm + (j : Int)) w) : qAll q nx T' h k := fun j hj => hq T T' j _ (e j hj) (a j hj)
theorem rAll_s {a1 b1 c1 d1 p : Int} (hq : rLoc q M fm) (a : qAll q nx T h k) (hl : iL nx sp F h k hc) (hM : 0 ≤ M) (hf : 0 ≤ fm) (hs : sP T T' M p a1 b1 c1 d1) (hp : p = fm + k) (e : q T' k.toNat hc) : qAll q nx T' h (k + 1) := fun j hj => by
  have h0 := hl.1
  by_cases c : (j : Int) < k
  · refine hq T T' j _ (fun w w0 w3 => hs.1 _ (by omega) (by omega)) (a j c)
  · have : j = k.toNat := by omega
    subst this
    rw [← iL_p hl]; exact e
/-- the header is written, the bits of a join -/
theorem rAll_h {kd cl0 one oth ps : Int} (hq : rLoc q M fm) (hM : 0 ≤ M) (hf : 0 ≤ fm) (hp : hP T T' M kd cl0 one oth ps) (a : qAll q nx T h k) : qAll q nx T' h k := rAll_c hq a (fun j hj w w0 w3 => hp.1 _ (by omega) (by omega))
theorem rAll_5 {v : Int} (hq : rLoc q M fm) (hM : 0 ≤ M) (hf : 0 ≤ fm) (hp : s1 T T' (40 * M + 5) v) (a : qAll q nx T h k) : qAll q nx T' h k := rAll_c hq a (fun j hj w w0 w3 => hp.1 _ (by omega) (by omega))
theorem rAll_p {a1 b1 c1 d1 p : Int} (hq : rLoc q M fm) (hM : 0 ≤ M) (hf : 0 ≤ fm) (hs : sP T T' M p a1 b1 c1 d1) (hp : p < fm ∨ fm + k ≤ p) (a : qAll q nx T h k) : qAll q nx T' h k := rAll_c hq a (fun j hj w w0 w3 => hs.1 _ (by omega) (by omega))
/-- one row's cells alone -/
theorem mLn_c {kd : Int} (hM : 0 ≤ M) (e : ∀ z : Int, 40 * M ≤ z → z < 40 * M + 40 → tI T' z = tI T z) (c9 : kd = 1 → iCnt nxT (spA b n) 9 (h + 2) ≤ 8) (c5 : kd = 2 → iCnt (nxE b n) (spC b n) 5 (h + 1) ≤ 4) (c3 : kd = 3 → iCnt nxT (spC b n) 5 (h + 3) ≤ 5) (c4 : kd = 7 → iCnt nxB (spC b n) 4 (h + 2) ≤ 3) (c8 : kd = 8 → iCnt (nxE b n) (spC b n) 5 (h + 8) ≤ 4) (w : mLn b n nr nt h T M kd) : mLn b n nr nt h T' M kd := by
  have ep : ∀ k w : Int, 0 ≤ k → k ≤ 7 → 0 ≤ w → w ≤ 3 → mP T' M k w = mP T M k w := fun k w _ _ _ _ => e _ (by omega) (by omega)
  unfold mLn at w ⊢
  by_cases k1 : kd = 1
  · rw [if_pos k1] at w ⊢
    unfold mSel rFS at w ⊢
    have := c9 k1
    rw [e _ (by omega) (by omega), e _ (by omega) (by omega), e _ (by omega) (by omega)]
    exact ⟨w.1, w.2.1, rAll_c rTest_l w.2.2 (fun j hj x x0 x3 => ep _ _ (by omega) (by omega) x0 x3)⟩
  rw [if_neg k1] at w ⊢
  by_cases k2 : kd = 2
  · rw [if_pos k2] at w ⊢
    unfold mPrj rFS at w ⊢
    have := c5 k2
    rw [e _ (by omega) (by omega), e _ (by omega) (by omega), e _ (by omega) (by omega)]
    exact ⟨w.1, w.2.1, rAll_c rTerm_l w.2.2 (fun j hj x x0 x3 => ep _ _ (by omega) (by omega) x0 x3)⟩
  rw [if_neg k2] at w ⊢
  by_cases k3 : kd = 3
  · rw [if_pos k3] at w ⊢
    unfold mJoi rFS at w ⊢
    have := c3 k3
    rw [e _ (by omega) (by omega), e _ (by omega) (by omega), e _ (by omega) (by omega), e (40 * M + 5) (by omega) (by omega)]
    exact ⟨w.1, w.2.1, rAll_c rPair_l w.2.2.1 (fun j hj x x0 x3 => ep _ _ (by omega) (by omega) x0 x3), w.2.2.2⟩
  rw [if_neg k3] at w ⊢
  by_cases k4 : kd = 4 ∨ kd = 5
  · rw [if_pos k4] at w ⊢
    unfold mTwo rFS at w ⊢
    rw [e _ (by omega) (by omega), e _ (by omega) (by omega)]; exact w
  rw [if_neg k4] at w ⊢
  by_cases k6 : kd = 6
  · rw [if_pos k6] at w ⊢
    unfold mDis rFS at w ⊢
    rw [e _ (by omega) (by omega), e _ (by omega) (by omega)]; exact w
  rw [if_neg k6] at w ⊢
  by_cases k7 : kd = 7
  · rw [if_pos k7] at w ⊢
    unfold mGrp rFS at w ⊢
    have := c4 k7
    rw [e _ (by omega) (by omega), e _ (by omega) (by omega), e _ (by omega) (by omega), ep _ 0 (by omega) (by omega) (by decide) (by decide), ep _ 1 (by omega) (by omega) (by decide) (by decide)]
    exact ⟨w.1, w.2.1, rAll_c rBy_l w.2.2.1 (fun j hj x x0 x3 => ep _ _ (by omega) (by omega) x0 x3), w.2.2.2⟩
  rw [if_neg k7] at w ⊢
  by_cases k8 : kd = 8
  · rw [if_pos k8] at w ⊢
    unfold mRng rFS at w ⊢
    have := c8 k8
    rw [e _ (by omega) (by omega), e _ (by omega) (by omega), e _ (by omega) (by omega), ep 0 0 (by omega) (by omega) (by decide) (by decide), ep 0 1 (by omega) (by omega) (by decide) (by decide)]
    exact ⟨w.1, w.2.1, rAll_c rTerm_l w.2.2.1 (fun j hj x x0 x3 => ep _ _ (by omega) (by omega) x0 x3), w.2.2.2⟩
  rw [if_neg k8] at w ⊢
  unfold rFS at w ⊢
  rw [e _ (by omega) (by omega), e _ (by omega) (by omega)]; exact w
theorem mLn_cg {kd : Int} (e : ∀ u, u < nr → nt' u = nt u) (w : mLn b n nr nt h T M kd) : mLn b n nr nt' h T M kd := by
  unfold mLn at w ⊢
  unfold mSel mPrj mJoi mTwo mDis mGrp mRng at w ⊢
  have e1 : ∀ t, pFd b n nt' nr t = pFd b n nt nr t := fun t => pFd_cg e t
  simp only [e1]
  exact w
theorem sTests_n : ∀ (F : Nat) (k c : Int) (h : Nat), 0 ≤ k → (sTests b n c F k h).1 = 0 → k + ((iCnt nxT (spA b n) F h : Nat) : Int) ≤ 8 ∧ 1 ≤ iCnt nxT (spA b n) F h
  | 0, _, _, _, _, e => (pr_no e (by decide)).elim
  | F + 1, k, c, h, hk, e => by
    rw [sTests] at e
    by_cases q : (sTest b n c k h).1 = 0
    · have en := sTest_h rfl q
      have h8 : k < 8 := by
        unfold sTest at q
        by_cases q0 : pCf b n c h = 0
        · rw [if_pos q0] at q
          by_cases q1 : 8 ≤ k
          · rw [if_pos q1] at q; exact (pr_no q (by decide)).elim
          · omega
        · rw [if_neg q0] at q; exact absurd q q0
      rw [thn_y (f := _) rfl q rfl, en] at e
      by_cases w : pK b n (nxT h) = 3 ∧ pV b n (nxT h) = 11
      · rw [if_pos w] at e
        have r := sTests_n F (k + 1) c (nxT h + 1) (by omega) e
        rw [show iCnt nxT (spA b n) (F + 1) h = iCnt nxT (spA b n) F (nxT h + 1) + 1 by rw [iCnt, if_pos (spA_y w)]]; omega
      · rw [show iCnt nxT (spA b n) (F + 1) h = 1 by rw [iCnt, if_neg (spA_n w)]]; omega
    · rw [thn_x rfl q] at e; exact absurd e q
theorem iCnt_le : ∀ (F h : Nat), iCnt nx sp F h ≤ F
  | 0, _ => Nat.le_refl _
  | F + 1, h => by
    rw [iCnt]
    by_cases q : sp (nx h) = true
    · rw [if_pos q]; have := iCnt_le F (nx h + 1); omega
    · rw [if_neg q]; omega
/-- counts of a line that was read -/
theorem LG_n (hc : ∀ u, u < r → 1 ≤ cl u ∧ cl u ≤ 4) (g : LG b n nt cl r) : (kdT b n (nt r) = 1 → iCnt nxT (spA b n) 9 (nt r + 3 + 2) ≤ 8) ∧ (kdT b n (nt r) = 2 → iCnt (nxE b n) (spC b n) 5 (nt r + 3 + 1) ≤ 4) ∧ (kdT b n (nt r) = 3 → iCnt nxT (spC b n) 5 (nt r + 3 + 3) ≤ 5) ∧ (kdT b n (nt r) = 7 → iCnt nxB (spC b n) 4 (nt r + 3 + 2) ≤ 3) ∧ (kdT b n (nt r) = 8 → iCnt (nxE b n) (spC b n) 5 (nt r + 3 + 8) ≤ 4) := by
  refine ⟨fun e => ?_, fun e => (gPrj hc (LG_2 g e).1).2.2.1.2, fun _ => iCnt_le _ _, fun e => (gGrp (LG_7 g e).1).2.2.1.2, fun e => ?_⟩
  · have q := (LG_1 g e).1
    unfold sSel at q
    obtain ⟨a1, a2⟩ := thn_i q
    rw [a2] at q
    obtain ⟨b1, b2⟩ := thn_i q
    rw [b2] at q
    have h1 := sRl_h rfl a1
    have h2 := sTw_h rfl b1
    rw [h1.1] at h2
    rw [h1.1, h2] at q
    have := (sTests_n _ _ _ _ (by decide) q).1
    have e0 : nt r + 3 + 1 + 1 = nt r + 3 + 2 := rfl
    rw [e0] at this; omega
  · have q := (LG_8 g e)
    have g8 := gRng hc q.1
    rw [g8.2.2.1] at q
    have g4 := g.2.2.2
    apply Classical.byContradiction; intro z
    have := rX_y (c := cF b n r nt cl (nt r + 3)) (d := cF b n r nt cl (nt r + 3 + 2)) (k := ((iCnt (nxE b n) (spC b n) 5 (nt r + 3 + 8) : Nat) : Int)) (fun w => by
      have a5 := hc (pFd b n nt r (nt r + 3)).toNat (by have := pFd_r (b := b) (n := n) (r := r) (nt := nt) (nt r + 3); have := g8.1; omega)
      have w2 := w.2; unfold cF at w2; omega)
    omega
/-- the reference's row of a line that was read -/
theorem lnM_k (hc : ∀ u, u < r → 1 ≤ cl u ∧ cl u ≤ 4) (h1 : 1 ≤ cl r) (hx : ∀ u, u < r → tI T (40 * (u : Int) + 1) = cl u) (hk : tI T (40 * (r : Int)) = kdT b n (nt r)) (h2 : tI T (40 * (r : Int) + 1) = cl r) (g : LG b n nt cl r) (h : mLn b n r nt (nt r + 3) T (r : Int) (kdT b n (nt r))) (hk0 : kdT b n (nt r) ≠ 0) : lnM T (r : Int) (lcT b n nt cl r) := by
  have NO : ∀ {k : Int} {p : Prop}, kdT b n (nt r) ≠ k → (lcT b n nt cl r).1 0 = k → p := fun a c => absurd c a
  have gd := lc_good hc h1 g hk0
  have e4 : (lcT b n nt cl r).1 4 = ((lcN b n nt r : Nat) : Int) := rfl
  have e9 : (lcT b n nt cl r).1 0 = kdT b n (nt r) := rfl
  have eF : (lcT b n nt cl r).1 2 = lcF b n nt r := rfl
  have eS : (lcT b n nt cl r).1 3 = lcS b n nt r := rfl
  have c5 : ∀ a : Int, 0 ≤ a → a < (r : Int) → tI T (40 * a + 1) = cl a.toNat := fun a a0 a1 => by
    have := hx a.toNat (by omega)
    rw [Int.toNat_of_nonneg a0] at this; exact this
  unfold lnM
  unfold mLn at h
  rcases kd_cs g.1 with e | e | e | e | e | e | e | e
  · exact absurd e hk0
  · rw [if_pos e] at h
    obtain ⟨⟨a1, a2⟩, a3, a4⟩ := h
    refine ⟨⟨hk, h2, by rw [a1, eF, lcF_v hk0], by rw [a2, eS, lcS_0 (by omega) (by omega)]⟩, fun _ => ⟨by rw [a3, e4, lcN_1 e], fun k k9 => ?_⟩, NO (by omega), NO (by omega), NO (by omega), NO (by omega)⟩
    rw [e4, lcN_1 e] at k9
    have q := a4 k k9
    have o := (gSel (LG_1 g e).1).2.2 k (by omega)
    unfold rTest at q
    unfold okT at o
    show _ = lcP b n nt r k 0 ∧ ((_ ∧ lcP b n nt r k 1 = 61) ∨ (_ ∧ lcP b n nt r k 1 = 60) ∨ (_ ∧ _ ∧ lcP b n nt r k 1 ≠ 61 ∧ lcP b n nt r k 1 ≠ 60)) ∧ ((_ ∧ lcP b n nt r k 2 ≠ -1 ∧ _ = lcP b n nt r k 2) ∨ (_ ∧ lcP b n nt r k 2 = -1 ∧ _ = lcP b n nt r k 3))
    rw [show lcP b n nt r k 0 = pV b n (iPos nxT (nt r + 3 + 2) k) from lcP_1 e, show lcP b n nt r k 1 = pK b n (iPos nxT (nt r + 3 + 2) k + 1) from lcP_1 e, show lcP b n nt r k 2 = (if pK b n (iPos nxT (nt r + 3 + 2) k + 2) = 4 then -1 else pV b n (iPos nxT (nt r + 3 + 2) k + 2)) from lcP_1 e, show lcP b n nt r k 3 = pV b n (iPos nxT (nt r + 3 + 2) k + 2) from lcP_1 e]
    obtain ⟨q0, q1, q2, q3⟩ := q
    refine ⟨q0, ?_, ?_⟩
    · rcases o.1 with w | w | w
      · rw [if_pos w] at q1; exact Or.inl ⟨q1, w⟩
      · rw [if_neg (by omega), if_pos w] at q1; exact Or.inr (Or.inl ⟨q1, w⟩)
      · rw [if_neg (by omega), if_neg (by omega)] at q1; exact Or.inr (Or.inr ⟨by omega, by omega, by omega, by omega⟩)
    · by_cases w : pK b n (iPos nxT (nt r + 3 + 2) k + 2) = 4
      · rw [if_pos w] at q2 ⊢; exact Or.inr ⟨by omega, rfl, q3⟩
      · rw [if_neg w] at q2 ⊢; exact Or.inl ⟨q2, by have := o.2.resolve_left w; omega, q3⟩
  · rw [if_neg (by omega), if_pos e] at h
    obtain ⟨⟨a1, a2⟩, a3, a4⟩ := h
    refine ⟨⟨hk, h2, by rw [a1, eF, lcF_v hk0], by rw [a2, eS, lcS_0 (by omega) (by omega)]⟩, NO (by omega), fun _ => ⟨fun k k9 => ?_, by rw [a3, e4, lcN_2 e]⟩, NO (by omega), NO (by omega), NO (by omega)⟩
    rw [e4, lcN_2 e] at k9
    have q := a4 k k9
    have o := (gPrj hc (LG_2 g e).1).2.2.2 k (by omega)
    unfold rTerm at q
    unfold okE at o
    show _ = lcP b n nt r k 0 ∧ _ = lcP b n nt r k 1 ∧ (0 ≤ lcP b n nt r k 0 ∨ lcP b n nt r k 0 = -1)
    rw [lcP_2 e, lcP_2 e, if_pos rfl, if_neg (by decide)]
    exact ⟨q.1, q.2, o.1.symm⟩
  · rw [if_neg (by omega), if_neg (by omega), if_pos e] at h
    obtain ⟨⟨a1, a2⟩, a3, a4, a5⟩ := h
    have gj := gJoi (LG_3 g e).1
    have lF := pFd_r (b := b) (n := n) (r := r) (nt := nt) (nt r + 3)
    have lS := pFd_r (b := b) (n := n) (r := r) (nt := nt) (nt r + 3 + 1)
    have e5 : (lcT b n nt cl r).1 5 = cl (lcF b n nt r).toNat := rfl
    have e6 : (lcT b n nt cl r).1 6 = cl (lcS b n nt r).toNat := rfl
    have d6 : (lcT b n nt cl r).1 6 ≤ 4 := by rw [e6, lcS_1 (by omega)]; have := hc (pFd b n nt r (nt r + 3 + 1)).toNat (by have := gj.2.1; omega); omega
    refine ⟨⟨hk, h2, by rw [a1, eF, lcF_v hk0], by rw [a2, eS, lcS_1 (by omega)]⟩, NO (by omega), NO (by omega), fun _ => ⟨by rw [a3, e4, lcN_3 e], by rw [a1, c5 _ gj.1 lF, e5, lcF_v hk0], by rw [a2, c5 _ gj.2.1 lS, e6, lcS_1 (by omega)], fun k k9 => ?_, fun d hd => ?_⟩, NO (by omega), NO (by omega)⟩
    · rw [e4, lcN_3 e] at k9
      have q := a4 k k9
      unfold rPair at q
      show _ = lcP b n nt r k 0 ∧ _ = lcP b n nt r k 1
      rw [lcP_3 e, lcP_3 e, if_pos rfl, if_neg (by decide)]; exact q
    · rw [tld_T e]; exact a5 d (by omega)
  · rw [if_neg (by omega), if_neg (by omega), if_neg (by omega), if_pos e] at h
    exact ⟨⟨hk, h2, by rw [h.1, eF, lcF_v hk0], by rw [h.2, eS, lcS_1 (by omega)]⟩, NO (by omega), NO (by omega), NO (by omega), NO (by omega), NO (by omega)⟩
  · rw [if_neg (by omega), if_neg (by omega), if_neg (by omega), if_neg (by omega), if_pos e] at h
    exact ⟨⟨hk, h2, by rw [h.1, eF, lcF_v hk0], by rw [h.2, eS, lcS_0 (by omega) (by omega)]⟩, NO (by omega), NO (by omega), NO (by omega), NO (by omega), NO (by omega)⟩
  · rw [if_neg (by omega), if_neg (by omega), if_neg (by omega), if_neg (by omega), if_neg (by omega), if_pos e] at h
    obtain ⟨⟨a1, a2⟩, a3, a4, a5, a6⟩ := h
    have k7 := gd.1.2.2.2.2.1 e
    refine ⟨⟨hk, h2, by rw [a1, eF, lcF_v hk0], by rw [a2, eS, lcS_0 (by omega) (by omega)]⟩, NO (by omega), NO (by omega), NO (by omega), fun _ => ⟨⟨by rw [a3, e4, lcN_7 e], by omega, fun k k9 => ?_⟩, ⟨?_, ?_⟩, k7.2.1.1, k7.2.1.2, k7.2.2.1, k7.2.2.2, k7.1.1, k7.1.2⟩, NO (by omega)⟩
    · rw [e4, lcN_7 e] at k9
      have q := a4 k k9
      unfold rBy at q
      show _ = lcP b n nt r k 0
      rw [lcP_7 e]; exact q
    · rw [e4, lcN_7 e, a5]
      show _ = pV b n (lcO b n nt r) - 16
      unfold lcO; rw [lcN_7 e]
    · rw [e4, lcN_7 e, a6]
      show _ = if pV b n (lcO b n nt r) = 16 then 0 else pV b n (lcO b n nt r + 1)
      unfold lcO; rw [lcN_7 e]
  · rw [if_neg (by omega), if_neg (by omega), if_neg (by omega), if_neg (by omega), if_neg (by omega), if_neg (by omega), if_pos e] at h
    obtain ⟨⟨a1, a2⟩, a3, a4, a5, a6⟩ := h
    have gj := gRng hc (LG_8 g e).1
    have lF := pFd_r (b := b) (n := n) (r := r) (nt := nt) (nt r + 3)
    have lS := pFd_r (b := b) (n := n) (r := r) (nt := nt) (nt r + 3 + 2)
    have e5 : (lcT b n nt cl r).1 5 = cl (lcF b n nt r).toNat := rfl
    have e6 : (lcT b n nt cl r).1 6 = cl (lcS b n nt r).toNat := rfl
    refine ⟨⟨hk, h2, by rw [a1, eF, lcF_v hk0], by rw [a2, eS, lcS_2 e]⟩, NO (by omega), NO (by omega), NO (by omega), NO (by omega), fun _ => ⟨fun k k9 => ?_, by rw [a3, e4, lcN_8 e], by rw [a1, c5 _ gj.1 lF, e5, lcF_v hk0], by rw [a2, c5 _ gj.2.1 lS, e6, lcS_2 e], a5, a6⟩⟩
    rw [e4, lcN_8 e] at k9
    have q := a4 k k9
    have o := gj.2.2.2.2 k (by omega)
    unfold rTerm at q
    unfold okE at o
    show _ = lcP b n nt r k 0 ∧ _ = lcP b n nt r k 1 ∧ (0 ≤ lcP b n nt r k 0 ∨ lcP b n nt r k 0 = -1)
    rw [lcP_8 e, lcP_8 e, if_pos rfl, if_neg (by decide)]
    exact ⟨q.1, q.2, o.1.symm⟩
end RowC
end
section
/-! helpers of the reference's reading with what it leaves in the row -/
def frM (M : Int) (T T' : Nat → Int32) : Prop := ∀ z : Int, 0 ≤ z → z < 40 * M → tI T' z = tI T z
def pSv (z K : Int) : Prop := (z = 0 ∧ K = 61) ∨ (z = 1 ∧ K = 60) ∨ (z = 2 ∧ K = 62) ∨ z = -1
section FrM
variable {b : tTx} {n h F hc : Nat} {M k v z : Int} {T T' T'' : Nat → Int32} {L : List Int}
theorem frM_r : frM M T T := fun _ _ _ => rfl
theorem frM_t (h : frM M T T') (k : frM M T' T'') : frM M T T'' := fun z a c => (k z a c).trans (h z a c)
theorem frM_p {p a b c d : Int} (h : frM M T T') (hp : 0 ≤ p) (s : sP T' T'' M p a b c d) : frM M T T'' := fun z a c => (s.1 z a (by omega)).trans (h z a c)
theorem frM_h {kd cl one oth ps : Int} (h : frM M T T') (s : hP T' T'' M kd cl one oth ps) : frM M T T'' := fun z a c => (s.1 z a (by omega)).trans (h z a c)
theorem frM_5 {v : Int} (h : frM M T T') (s : s1 T' T'' (40 * M + 5) v) : frM M T T'' := fun z a c => (s.1 z a (by omega)).trans (h z a c)
theorem frM_f {fm : Int} (hf : 0 ≤ fm) (h : frM M T T') (s : trF T' T'' M fm) : frM M T T'' := fun z a c => (s z a (by omega)).trans (h z a c)
theorem hP_m {kd cl one oth ps w : Int} (hM : 0 ≤ M) (hk : 0 ≤ k) (hw : 0 ≤ w) (s : hP T T' M kd cl one oth ps) : mP T' M k w = mP T M k w := s.1 _ (by omega) (by omega)
theorem trF_m {w : Int} (hM : 0 ≤ M) (hw : 0 ≤ w ∧ w ≤ 3) (s : trF T T' M 1) : mP T' M 0 w = mP T M 0 w := s _ (by omega) (by omega)
theorem rTest_mk {c s ic v : Int} (hk : 0 ≤ k) (p : sP T T' M k c s ic v) (hc0 : c = pV b n hc) (hs : pSv s (pK b n (hc + 1))) (h0 : 0 ≤ s) (hi : (ic = 1 ∧ pK b n (hc + 2) ≠ 4) ∨ (ic = 0 ∧ pK b n (hc + 2) = 4)) (hv : v = pV b n (hc + 2)) : rTest b n M T' k.toNat hc := by
  unfold rTest
  rw [Int.toNat_of_nonneg hk, p.2.1, p.2.2.1, p.2.2.2.1, p.2.2.2.2]
  refine ⟨hc0, ?_, ?_, hv⟩
  · rcases hs with q | q | q | q
    · rw [if_pos q.2]; exact q.1
    · rw [if_neg (by omega), if_pos q.2]; exact q.1
    · rw [if_neg (by omega), if_neg (by omega)]; exact q.1
    · omega
  · rcases hi with q | q
    · rw [if_neg q.2]; exact q.1
    · rw [if_pos q.2]; exact q.1
theorem rTerm_mk {fm c y u w p : Int} (hk : 0 ≤ k) (s : sP T T' M p c y u w) (hp : p = fm + k) (h0 : c = teC b n hc) (h1 : y = teN b n hc) : rTerm b n M fm T' k.toNat hc := by
  unfold rTerm
  subst hp
  rw [Int.toNat_of_nonneg hk, s.2.1, s.2.2.1]; exact ⟨h0, h1⟩
theorem te_n (h : pK b n hc = 4) : teC b n hc = -1 ∧ teN b n hc = pV b n hc := ⟨if_pos h, if_pos h⟩
theorem te_c (h : pK b n hc ≠ 4) (k : ¬ (pK b n (hc + 1) = 43 ∨ pK b n (hc + 1) = 45)) : teC b n hc = pV b n hc ∧ teN b n hc = 0 := ⟨if_neg h, by unfold teN; rw [if_neg h, if_neg (by omega), if_neg (by omega)]⟩
theorem te_p (h : pK b n hc ≠ 4) (k : pK b n (hc + 1) = 43) : teC b n hc = pV b n hc ∧ teN b n hc = pV b n (hc + 2) := ⟨if_neg h, by unfold teN; rw [if_neg h, if_pos k]⟩
theorem te_m (h : pK b n hc ≠ 4) (k : pK b n (hc + 1) = 45) : teC b n hc = pV b n hc ∧ teN b n hc = - pV b n (hc + 2) := ⟨if_neg h, by unfold teN; rw [if_neg h, if_neg (by omega), if_pos k]⟩
theorem rPair_mk {c y u w : Int} (hk : 0 ≤ k) (s : sP T T' M k c y u w) (h0 : c = pV b n hc) (h1 : y = pV b n (hc + 2)) : rPair b n M T' k.toNat hc := by
  unfold rPair
  rw [Int.toNat_of_nonneg hk, s.2.1, s.2.2.1]; exact ⟨h0, h1⟩
theorem rBy_mk {c y u w : Int} (hk : 0 ≤ k) (s : sP T T' M k c y u w) (h0 : c = pV b n hc) : rBy b n M T' k.toNat hc := by
  unfold rBy
  rw [Int.toNat_of_nonneg hk, s.2.1]; exact h0
/-- the second columns that are told so far -/
def pLm (b : tTx) (n : Nat) (h : Nat) (k : Int) (L : List Int) : Prop := ∀ x : Int, x ∈ L ↔ ∃ j : Nat, (j : Int) < k ∧ pV b n (iPos nxT h j + 2) = x
theorem pLm_0 : pLm b n h 0 [] := fun x => ⟨fun e => absurd e List.not_mem_nil, fun ⟨j, hj, _⟩ => absurd hj (by omega)⟩
theorem pLm_s {sp : Nat → Bool} (hl : iL nxT sp F h k hc) (a : pLm b n h k L) : pLm b n h (k + 1) (pV b n (hc + 2) :: L) := fun x => by
  have h0 := hl.1
  have hp := iL_p hl
  rw [List.mem_cons, a x]
  constructor
  · rintro (e | ⟨j, hj, e⟩)
    · exact ⟨k.toNat, by omega, by rw [← hp]; exact e.symm⟩
    · exact ⟨j, by omega, e⟩
  · rintro ⟨j, hj, e⟩
    by_cases c : (j : Int) < k
    · exact Or.inr ⟨j, c, e⟩
    · have : j = k.toNat := by omega
      subst this
      rw [← hp] at e; exact Or.inl e.symm
theorem rGn_mk {x : Int} (g : mGn x L) (a : pLm b n h k L) (e : ((iCnt nxT (spC b n) F h : Nat) : Int) = k) : rGn b n x F h := fun d hd => by
  rw [g (d : Int) (by omega) (by omega), a (d : Int)]
  exact ⟨fun ⟨j, hj, q⟩ => ⟨j, by omega, q⟩, fun ⟨j, hj, q⟩ => ⟨j, by omega, q⟩⟩
theorem mGrp_f {c0 y u w : Int} (s : sP T T' M k c0 y u w) (hf : pFo y (pK b n hc) (pV b n hc)) (h0 : 0 ≤ y) (hc0 : (y = 0 ∧ c0 = 0) ∨ (0 < y ∧ c0 = pV b n (hc + 1))) : mP T' M k 1 = pV b n hc - 16 ∧ mP T' M k 0 = (if pV b n hc = 16 then 0 else pV b n (hc + 1)) := by
  have q := pFo_y hf h0
  rw [s.2.1, s.2.2.1]
  refine ⟨by omega, ?_⟩
  rcases hc0 with e | e
  · rw [if_pos (by omega)]; exact e.2
  · rw [if_neg (by omega)]; exact e.2
end FrM
end
section
/-! what the lines told so far hold in the reference's rows; what a plan leaves of the reference -/
def rowsR (b : tTx) (n nr : Nat) (nt : Nat → Nat) (cl : Nat → Int) (T : Nat → Int32) : Prop := ∀ r : Nat, r < nr → LG b n nt cl r ∧ mLn b n r nt (nt r + 3) T (r : Int) (kdT b n (nt r))
def plR (b : tTx) (n : Nat) (T : Nat → Int32) : Prop := rowsR b n (sPlF b n).1 (sPlF b n).2.1 (sPlF b n).2.2.1 T
def plN (gh : gGh) (I AI I' AI' : gI) (mo : Nat) (b : tTx) (n : Nat) (z : Int) : Prop :=
  (z < 0 ∧ AI' (gh 57 0) = AI (gh 57 0) ∧ AI' (gh 79 0) = AI (gh 79 0) ∧ I' mo 8 = I mo 8 ∧ I' mo 9 = I mo 9 ∧ I' mo 10 = I mo 10) ∨
  (0 ≤ z ∧ (∀ j : Nat, j < 176 → AI' (gh 57 0) j = 0) ∧ (∀ j : Nat, j < 16 → AI' (gh 79 0) j = 0) ∧ (I' mo 8).toInt = 0 ∧ (I' mo 9).toInt = 0 ∧ (I' mo 10).toInt = 0 ∧ plR b n (AI' (gh 50 0)))
def plK (gh : gGh) (AI AI' : gI) : Prop := ∀ b, b ≠ gh 50 0 → b ≠ gh 53 0 → b ≠ gh 57 0 → b ≠ gh 79 0 → AI' b = AI b
section RowsS
variable {b : tTx} {n nr h0 : Nat} {nt : Nat → Nat} {cl : Nat → Int} {T T' : Nat → Int32} {x kd : Int}
theorem mE_4b {gh : gGh} {AI : gI} {AJ : gJ} (w : mE gh AI AJ b n nr nt cl) : ∀ r, r < nr → 1 ≤ cl r ∧ cl r ≤ 4 := fun r hr => (w.2.1 r hr).2.2.2
theorem mFr9 {g : gG} {gh : gGh} {R : gR} {I AI AI1 AI' : gI} {m : Nat} {p q : Nat × Nat} (hv : mInv g gh R I AI) (hm : gO g m 7) (hp : p ∈ mTab) (hq : q ∈ mTab) (hne : p.1 ≠ q.1) (e : ∀ b, b ≠ gh (50 + q.1) 0 → AI' b = AI1 b) : AI' (gh (50 + p.1) 0) = AI1 (gh (50 + p.1) 0) :=
  e _ (fun z => hne (by have h := ((hv.1 m hm).2.1 p hp).2.2.2; have h' := ((hv.1 m hm).2.1 q hq).2.2.2; rw [z, h'] at h; exact h.symm))
theorem rows_0 : rowsR b n 0 nt cl T := fun r hr => absurd hr (Nat.not_lt_zero r)
theorem rows_f (hcl : ∀ u, u < nr → 1 ≤ cl u ∧ cl u ≤ 4) (hr : rowsR b n nr nt cl T) (e : ∀ z : Int, 0 ≤ z → z < 40 * (nr : Int) → tI T' z = tI T z) : rowsR b n nr nt cl T' := fun r hr9 => by
  have q := hr r hr9
  have g := LG_n (fun u hu => hcl u (by omega)) q.1
  exact ⟨q.1, mLn_c (by omega) (fun z a c => e z (by omega) (by omega)) g.1 g.2.1 g.2.2.1 g.2.2.2.1 g.2.2.2.2 q.2⟩
theorem rows_s (hr : rowsR b n nr nt cl T) (hcl : ∀ u, u < nr → 1 ≤ cl u ∧ cl u ≤ 4) (hg : LG b n (sUp nt nr h0) (sUp cl nr x) nr) (fr : frM (nr : Int) T T') (hn : mLn b n nr nt (h0 + 3) T' (nr : Int) (kdT b n h0)) : rowsR b n (nr + 1) (sUp nt nr h0) (sUp cl nr x) T' := fun r hr9 => by
  by_cases q : r = nr
  · subst q
    refine ⟨hg, ?_⟩
    rw [sUp_s]
    exact mLn_cg (fun u hu => sUp_k (by omega)) hn
  · have w := rows_f hcl hr fr r (by omega)
    refine ⟨LG_cg (fun u hu => sUp_k (by omega)) (fun u hu => sUp_k (by omega)) w.1, ?_⟩
    rw [sUp_k q]
    exact mLn_cg (fun u hu => sUp_k (by omega)) w.2
theorem mLn_0 (e : kd = 0) {h : Nat} {M : Int} (k : rFS T M (-1) (-1)) : mLn b n nr nt h T M kd := by
  unfold mLn
  subst e
  rw [if_neg (by decide), if_neg (by decide), if_neg (by decide), if_neg (by decide), if_neg (by decide), if_neg (by decide), if_neg (by decide)]; exact k
theorem z_at {A A' : gI} {o : Nat} {i : Int} (h0 : 0 ≤ i) (e : A' = gup2 A o i.toNat (iI 0)) (h : ∀ j : Nat, (j : Int) < i → A o j = 0) : ∀ j : Nat, (j : Int) < i + 1 → A' o j = 0 := fun j hj => by
  rw [e]
  by_cases q : j = i.toNat
  · rw [q, gup2_s]; rfl
  · rw [gup2_k _ _ q]; exact h j (by omega)
theorem plK_t {gh : gGh} {AI AI' AI'' : gI} (h : plK gh AI AI') (k : ∀ b, b ≠ gh 50 0 → b ≠ gh 53 0 → b ≠ gh 57 0 → b ≠ gh 79 0 → AI'' b = AI' b) : plK gh AI AI'' := fun b a c d e => (k b a c d e).trans (h b a c d e)
end RowsS
end
section
def rmX7_setsg : Room := { frames := 0, cells := 0, slots := 0, locals := 0 }
set_option maxHeartbeats 4000000 in
set_option maxRecDepth 100000 in
/-- a number of the row -/
theorem c_X7_setsg (l : Launch) (g : gG) (gh : gGh) (T : Nat → Int32) (M : Int) (I : gI) (R : gR) (J : gJ) (AI : gI) (AJ : gJ) (AR : gR) (mo : Nat) (wh : Int) (va : Int) (zwh : zr wh) (zva : zr va) (hv : mInv g gh R I AI) (hm : gO g mo 7) (hT : AI (gh 50 0) = T) (hM : (I mo 24).toInt = 0 → (I mo 5).toInt ≤ 15) (hMM : (I mo 5).toInt = M) (hw : 0 ≤ wh ∧ wh ≤ 5) : gMet l g yX7_sets tsX7_sets rmX7_setsg [.ref mo, .int (iI wh), .int (iI va)] (I, R, J, AI, AJ, AR) (gQv g (fun w : gS => I = w.1 ∧ R = w.2.1 ∧ J = w.2.2.1 ∧ AJ = w.2.2.2.2.1 ∧ AR = w.2.2.2.2.2 ∧ (mInv g gh R I (w.2.2.2.1)) ∧ ((w.2.2.2.1) (gh 50 0) = T) ∧ ((I mo 24).toInt = 0 → s1 (AI (gh 53 0)) ((w.2.2.2.1) (gh 53 0)) (40 * M + wh) va) ∧ (∀ b, b ≠ gh 53 0 → (w.2.2.2.1) b = AI b))) := by
  refine gStart (cc := cX7_sets) (maxL := 3) (ret := none) (by decide) rfl (Nat.le_of_ble_eq_true rfl) ?_
  intro p e s m below meth c ls F hr hlk hH hz hS hl
  have hl : lv_has ls 3 [(0, .ref mo), (1, .int (iI wh)), (2, .int (iI va))] := hl
  have hS : va_S (gA g) s.heap s.heap [] := hS
  obtain ⟨H, hHe⟩ : ∃ H : Heap, H = s.heap := ⟨_, rfl⟩
  obtain ⟨locs, hlo⟩ : ∃ k : List Loc, k = [] := ⟨_, rfl⟩
  have hH : gH g I R J AI AJ AR H := by rw [hHe]; exact hH
  have hS : va_S (gA g) s.heap H locs := by rw [hHe, hlo]; exact hS
  suffices hw : W p l e rmX7_setsg s m ([.ref mo, .int (iI wh), .int (iI va)] : List Value).toArray below meth c H locs 0 0 (MQ below (gQv g (fun w : gS => I = w.1 ∧ R = w.2.1 ∧ J = w.2.2.1 ∧ AJ = w.2.2.2.2.1 ∧ AR = w.2.2.2.2.2 ∧ (mInv g gh R I (w.2.2.2.1)) ∧ ((w.2.2.2.1) (gh 50 0) = T) ∧ ((I mo 24).toInt = 0 → s1 (AI (gh 53 0)) ((w.2.2.2.1) (gh 53 0)) (40 * M + wh) va) ∧ (∀ b, b ≠ gh 53 0 → (w.2.2.2.1) b = AI b))) ([.ref mo, .int (iI wh), .int (iI va)] : List Value).toArray s 0 0 (gA g)) (F0 m 0 ls []) by
    rw [hHe, hlo] at hw; exact hw
  clear hHe hlo
  have hb0 := mJ hv hm
  unfold mNum1 at hb0
  have iX7 : ∀ w ∈ u_ws RX7 TX7 32, w ∈ tsX7_sets := fun w h => List.mem_cons_of_mem _ (inTB7 w h)
  have k81 : Cond.fieldLink RX7 81 (TX7 24).1 (TX7 24).2.1 (TX7 24).2.2.1 ∈ tsX7_sets := List.mem_cons_of_mem _ fl_81
  have k17 : Cond.fieldLink RX7 17 (TX7 3).1 (TX7 3).2.1 (TX7 3).2.2.1 ∈ tsX7_sets := List.mem_cons_of_mem _ fl_17
  have k184 : Cond.fieldLink RX7 184 (TX7 5).1 (TX7 5).2.1 (TX7 5).2.2.1 ∈ tsX7_sets := List.mem_cons_of_mem _ fl_184
  refine lv_aload_n F.1 F.2.1 dX7_sets_0 rfl (lv_at hl 0 rfl) ?_
  refine g_getI (ci := 7) (k := 24) F hH rfl (by decide) iX7 hm (by decide) rfl k81 dX7_sets_1 ?_
  have b_1 := mJ hv hm
  unfold mNum1 at b_1
  refine z_if_ne (tgt := 22) F dX7_sets_4 (by decide) (zr_t _) (fun c_2 => ?_) (fun c_2 => ?_)
  · exact g_vret F hr hlk hH hS hz ⟨rfl, rfl, rfl, rfl, rfl, hv, hT, fun hf => by first | exact absurd hf (by omega) | (rw [← hMM]; exact s1_mk (by omega) zva rfl), fun _ _ => rfl⟩ dX7_sets_22
  · refine lv_aload_n F.1 F.2.1 dX7_sets_7 rfl (lv_at hl 0 rfl) ?_
    obtain ⟨r_3a, r_3b⟩ : R mo 3 = some (gh 53 0) ∧ gAr g (gh 53 0) 9 640 := mR hv hm (q := (3, 640)) (by decide)
    refine g_getR (ci := 7) (k := 3) F hH rfl (by decide) iX7 hm (by decide) rfl (b := gh 53 0) r_3a k17 dX7_sets_8 ?_
    refine z_bipush F dX7_sets_11 (by decide) ?_
    refine lv_aload_n F.1 F.2.1 dX7_sets_13 rfl (lv_at hl 0 rfl) ?_
    refine g_getI (ci := 7) (k := 5) F hH rfl (by decide) iX7 hm (by decide) rfl k184 dX7_sets_14 ?_
    refine z_imul F dX7_sets_17 ?_
    refine lv_iload_n F.1 F.2.1 dX7_sets_18 rfl (lv_at hl 1 rfl) ?_
    refine z_iadd F dX7_sets_19 ?_
    refine lv_iload_n F.1 F.2.1 dX7_sets_20 rfl (lv_at hl 2 rfl) ?_
    have hx21 : 0 ≤ ((40 * ((I mo 5).toInt)) + wh) ∧ ((40 * ((I mo 5).toInt)) + wh) < ((640 : Nat) : Int) ∧ ((40 * ((I mo 5).toInt)) + wh) ≤ 2147483647 := ⟨by omega, by omega, by omega⟩
    refine g_iast F hH hS r_3b hx21.1 hx21.2.1 hx21.2.2 dX7_sets_21 (fun H locs hH hS => ?_)
    obtain ⟨AI_4, eAI_4⟩ : ∃ qQ, qQ = gup2 AI (gh 53 0) (((40 * ((I mo 5).toInt)) + wh)).toNat (iI (va)) := ⟨_, rfl⟩
    rw [← eAI_4] at hH
    have kAI_4 : ∀ b, b ≠ (gh 53 0) → AI_4 b = AI b := fun b hb => by rw [eAI_4]; exact funext fun j => gup2_a _ _ hb
    have t_5 : AI_4 (gh 50 0) = AI (gh 50 0) := mK hv hm (p := (0, 640)) (q := (3, 640)) (by decide) (by decide) (by decide) kAI_4
    have hv : mInv g gh R I AI_4 := mInv_read hv hm eAI_4 (by omega)
    have hT : AI_4 (gh 50 0) = T := t_5.trans hT
    exact g_vret F hr hlk hH hS hz ⟨rfl, rfl, rfl, rfl, rfl, hv, hT, fun hf => by first | exact absurd hf (by omega) | (rw [← hMM]; exact s1_mk (by omega) zva eAI_4), fun b hb => kAI_4 b hb⟩ dX7_sets_22

def rmX7_setsPartg : Room := { frames := 0, cells := 0, slots := 0, locals := 0 }
set_option maxHeartbeats 4000000 in
set_option maxRecDepth 100000 in
/-- a part of the row -/
theorem c_X7_setsPartg (l : Launch) (g : gG) (gh : gGh) (T : Nat → Int32) (M : Int) (I : gI) (R : gR) (J : gJ) (AI : gI) (AJ : gJ) (AR : gR) (mo : Nat) (kp : Int) (a1 : Int) (b1 : Int) (c1 : Int) (d1 : Int) (zkp : zr kp) (za1 : zr a1) (zb1 : zr b1) (zc1 : zr c1) (zd1 : zr d1) (hv : mInv g gh R I AI) (hm : gO g mo 7) (hT : AI (gh 50 0) = T) (hM : (I mo 24).toInt = 0 → (I mo 5).toInt ≤ 15) (hMM : (I mo 5).toInt = M) (hkp : (I mo 24).toInt = 0 → 0 ≤ kp ∧ kp ≤ 7) : gMet l g yX7_setsPart tsX7_setsPart rmX7_setsPartg [.ref mo, .int (iI kp), .int (iI a1), .int (iI b1), .int (iI c1), .int (iI d1)] (I, R, J, AI, AJ, AR) (gQv g (fun w : gS => I = w.1 ∧ R = w.2.1 ∧ J = w.2.2.1 ∧ AJ = w.2.2.2.2.1 ∧ AR = w.2.2.2.2.2 ∧ (mInv g gh R I (w.2.2.2.1)) ∧ ((w.2.2.2.1) (gh 50 0) = T) ∧ ((I mo 24).toInt = 0 → sP (AI (gh 53 0)) ((w.2.2.2.1) (gh 53 0)) M kp a1 b1 c1 d1) ∧ (∀ b, b ≠ gh 53 0 → (w.2.2.2.1) b = AI b))) := by
  refine gStart (cc := cX7_setsPart) (maxL := 7) (ret := none) (by decide) rfl (Nat.le_of_ble_eq_true rfl) ?_
  intro p e s m below meth c ls F hr hlk hH hz hS hl
  have hl : lv_has ls 7 [(0, .ref mo), (1, .int (iI kp)), (2, .int (iI a1)), (3, .int (iI b1)), (4, .int (iI c1)), (5, .int (iI d1))] := hl
  have hS : va_S (gA g) s.heap s.heap [] := hS
  obtain ⟨H, hHe⟩ : ∃ H : Heap, H = s.heap := ⟨_, rfl⟩
  obtain ⟨locs, hlo⟩ : ∃ k : List Loc, k = [] := ⟨_, rfl⟩
  have hH : gH g I R J AI AJ AR H := by rw [hHe]; exact hH
  have hS : va_S (gA g) s.heap H locs := by rw [hHe, hlo]; exact hS
  suffices hw : W p l e rmX7_setsPartg s m ([.ref mo, .int (iI kp), .int (iI a1), .int (iI b1), .int (iI c1), .int (iI d1)] : List Value).toArray below meth c H locs 0 0 (MQ below (gQv g (fun w : gS => I = w.1 ∧ R = w.2.1 ∧ J = w.2.2.1 ∧ AJ = w.2.2.2.2.1 ∧ AR = w.2.2.2.2.2 ∧ (mInv g gh R I (w.2.2.2.1)) ∧ ((w.2.2.2.1) (gh 50 0) = T) ∧ ((I mo 24).toInt = 0 → sP (AI (gh 53 0)) ((w.2.2.2.1) (gh 53 0)) M kp a1 b1 c1 d1) ∧ (∀ b, b ≠ gh 53 0 → (w.2.2.2.1) b = AI b))) ([.ref mo, .int (iI kp), .int (iI a1), .int (iI b1), .int (iI c1), .int (iI d1)] : List Value).toArray s 0 0 (gA g)) (F0 m 0 ls []) by
    rw [hHe, hlo] at hw; exact hw
  clear hHe hlo
  have hb0 := mJ hv hm
  unfold mNum1 at hb0
  have iX7 : ∀ w ∈ u_ws RX7 TX7 32, w ∈ tsX7_setsPart := fun w h => List.mem_cons_of_mem _ (inTB7 w h)
  have k81 : Cond.fieldLink RX7 81 (TX7 24).1 (TX7 24).2.1 (TX7 24).2.2.1 ∈ tsX7_setsPart := List.mem_cons_of_mem _ fl_81
  have k184 : Cond.fieldLink RX7 184 (TX7 5).1 (TX7 5).2.1 (TX7 5).2.2.1 ∈ tsX7_setsPart := List.mem_cons_of_mem _ fl_184
  have k17 : Cond.fieldLink RX7 17 (TX7 3).1 (TX7 3).2.1 (TX7 3).2.2.1 ∈ tsX7_setsPart := List.mem_cons_of_mem _ fl_17
  refine lv_aload_n F.1 F.2.1 dX7_setsPart_0 rfl (lv_at hl 0 rfl) ?_
  refine g_getI (ci := 7) (k := 24) F hH rfl (by decide) iX7 hm (by decide) rfl k81 dX7_setsPart_1 ?_
  have b_1 := mJ hv hm
  unfold mNum1 at b_1
  refine z_if_le (tgt := 8) F dX7_setsPart_4 (by decide) (zr_t _) (fun c_2 => ?_) (fun c_2 => ?_)
  · refine z_bipush F dX7_setsPart_8 (by decide) ?_
    refine lv_aload_n F.1 F.2.1 dX7_setsPart_10 rfl (lv_at hl 0 rfl) ?_
    refine g_getI (ci := 7) (k := 5) F hH rfl (by decide) iX7 hm (by decide) rfl k184 dX7_setsPart_11 ?_
    refine z_imul F dX7_setsPart_14 ?_
    refine z_bipush F dX7_setsPart_15 (by decide) ?_
    refine z_iadd F dX7_setsPart_17 ?_
    refine z_iconst F dX7_setsPart_18 ?_
    refine lv_iload_n F.1 F.2.1 dX7_setsPart_19 rfl (lv_at hl 1 rfl) ?_
    refine z_imul F dX7_setsPart_20 ?_
    refine z_iadd F dX7_setsPart_21 ?_
    refine lv_istore (lv' := [(6, .int (iI (((40 * ((I mo 5).toInt)) + 6) + (4 * kp)))), (0, .ref mo), (1, .int (iI kp)), (2, .int (iI a1)), (3, .int (iI b1)), (4, .int (iI c1)), (5, .int (iI d1))]) F.1 F.2.1 dX7_setsPart_22 hl (by decide) rfl (fun ls hl => ?_)
    refine lv_aload_n F.1 F.2.1 dX7_setsPart_24 rfl (lv_at hl 1 rfl) ?_
    obtain ⟨r_3a, r_3b⟩ : R mo 3 = some (gh 53 0) ∧ gAr g (gh 53 0) 9 640 := mR hv hm (q := (3, 640)) (by decide)
    refine g_getR (ci := 7) (k := 3) F hH rfl (by decide) iX7 hm (by decide) rfl (b := gh 53 0) r_3a k17 dX7_setsPart_25 ?_
    refine lv_iload F.1 F.2.1 dX7_setsPart_28 (lv_at hl 0 rfl) ?_
    refine lv_iload_n F.1 F.2.1 dX7_setsPart_30 rfl (lv_at hl 3 rfl) ?_
    have hx31 : 0 ≤ (((40 * ((I mo 5).toInt)) + 6) + (4 * kp)) ∧ (((40 * ((I mo 5).toInt)) + 6) + (4 * kp)) < ((640 : Nat) : Int) ∧ (((40 * ((I mo 5).toInt)) + 6) + (4 * kp)) ≤ 2147483647 := ⟨by omega, by omega, by omega⟩
    refine g_iast F hH hS r_3b hx31.1 hx31.2.1 hx31.2.2 dX7_setsPart_31 (fun H locs hH hS => ?_)
    obtain ⟨AI_4, eAI_4⟩ : ∃ qQ, qQ = gup2 AI (gh 53 0) ((((40 * ((I mo 5).toInt)) + 6) + (4 * kp))).toNat (iI (a1)) := ⟨_, rfl⟩
    rw [← eAI_4] at hH
    have kAI_4 : ∀ b, b ≠ (gh 53 0) → AI_4 b = AI b := fun b hb => by rw [eAI_4]; exact funext fun j => gup2_a _ _ hb
    have t_5 : AI_4 (gh 50 0) = AI (gh 50 0) := mK hv hm (p := (0, 640)) (q := (3, 640)) (by decide) (by decide) (by decide) kAI_4
    have hv : mInv g gh R I AI_4 := mInv_read hv hm eAI_4 (by omega)
    have hT : AI_4 (gh 50 0) = T := t_5.trans hT
    refine lv_aload_n F.1 F.2.1 dX7_setsPart_32 rfl (lv_at hl 1 rfl) ?_
    refine g_getR (ci := 7) (k := 3) F hH rfl (by decide) iX7 hm (by decide) rfl (b := gh 53 0) r_3a k17 dX7_setsPart_33 ?_
    refine lv_iload F.1 F.2.1 dX7_setsPart_36 (lv_at hl 0 rfl) ?_
    refine z_iconst F dX7_setsPart_38 ?_
    refine z_iadd F dX7_setsPart_39 ?_
    refine lv_iload_n F.1 F.2.1 dX7_setsPart_40 rfl (lv_at hl 4 rfl) ?_
    have hx41 : 0 ≤ ((((40 * ((I mo 5).toInt)) + 6) + (4 * kp)) + 1) ∧ ((((40 * ((I mo 5).toInt)) + 6) + (4 * kp)) + 1) < ((640 : Nat) : Int) ∧ ((((40 * ((I mo 5).toInt)) + 6) + (4 * kp)) + 1) ≤ 2147483647 := ⟨by omega, by omega, by omega⟩
    refine g_iast F hH hS r_3b hx41.1 hx41.2.1 hx41.2.2 dX7_setsPart_41 (fun H locs hH hS => ?_)
    obtain ⟨AI_6, eAI_6⟩ : ∃ qQ, qQ = gup2 AI_4 (gh 53 0) (((((40 * ((I mo 5).toInt)) + 6) + (4 * kp)) + 1)).toNat (iI (b1)) := ⟨_, rfl⟩
    rw [← eAI_6] at hH
    have kAI_6 : ∀ b, b ≠ (gh 53 0) → AI_6 b = AI_4 b := fun b hb => by rw [eAI_6]; exact funext fun j => gup2_a _ _ hb
    have t_7 : AI_6 (gh 50 0) = AI_4 (gh 50 0) := mK hv hm (p := (0, 640)) (q := (3, 640)) (by decide) (by decide) (by decide) kAI_6
    have hv : mInv g gh R I AI_6 := mInv_read hv hm eAI_6 (by omega)
    have hT : AI_6 (gh 50 0) = T := t_7.trans hT
    refine lv_aload_n F.1 F.2.1 dX7_setsPart_42 rfl (lv_at hl 1 rfl) ?_
    refine g_getR (ci := 7) (k := 3) F hH rfl (by decide) iX7 hm (by decide) rfl (b := gh 53 0) r_3a k17 dX7_setsPart_43 ?_
    refine lv_iload F.1 F.2.1 dX7_setsPart_46 (lv_at hl 0 rfl) ?_
    refine z_iconst F dX7_setsPart_48 ?_
    refine z_iadd F dX7_setsPart_49 ?_
    refine lv_iload F.1 F.2.1 dX7_setsPart_50 (lv_at hl 5 rfl) ?_
    have hx52 : 0 ≤ ((((40 * ((I mo 5).toInt)) + 6) + (4 * kp)) + 2) ∧ ((((40 * ((I mo 5).toInt)) + 6) + (4 * kp)) + 2) < ((640 : Nat) : Int) ∧ ((((40 * ((I mo 5).toInt)) + 6) + (4 * kp)) + 2) ≤ 2147483647 := ⟨by omega, by omega, by omega⟩
    refine g_iast F hH hS r_3b hx52.1 hx52.2.1 hx52.2.2 dX7_setsPart_52 (fun H locs hH hS => ?_)
    obtain ⟨AI_8, eAI_8⟩ : ∃ qQ, qQ = gup2 AI_6 (gh 53 0) (((((40 * ((I mo 5).toInt)) + 6) + (4 * kp)) + 2)).toNat (iI (c1)) := ⟨_, rfl⟩
    rw [← eAI_8] at hH
    have kAI_8 : ∀ b, b ≠ (gh 53 0) → AI_8 b = AI_6 b := fun b hb => by rw [eAI_8]; exact funext fun j => gup2_a _ _ hb
    have t_9 : AI_8 (gh 50 0) = AI_6 (gh 50 0) := mK hv hm (p := (0, 640)) (q := (3, 640)) (by decide) (by decide) (by decide) kAI_8
    have hv : mInv g gh R I AI_8 := mInv_read hv hm eAI_8 (by omega)
    have hT : AI_8 (gh 50 0) = T := t_9.trans hT
    refine lv_aload_n F.1 F.2.1 dX7_setsPart_53 rfl (lv_at hl 1 rfl) ?_
    refine g_getR (ci := 7) (k := 3) F hH rfl (by decide) iX7 hm (by decide) rfl (b := gh 53 0) r_3a k17 dX7_setsPart_54 ?_
    refine lv_iload F.1 F.2.1 dX7_setsPart_57 (lv_at hl 0 rfl) ?_
    refine z_iconst F dX7_setsPart_59 ?_
    refine z_iadd F dX7_setsPart_60 ?_
    refine lv_iload F.1 F.2.1 dX7_setsPart_61 (lv_at hl 6 rfl) ?_
    have hx63 : 0 ≤ ((((40 * ((I mo 5).toInt)) + 6) + (4 * kp)) + 3) ∧ ((((40 * ((I mo 5).toInt)) + 6) + (4 * kp)) + 3) < ((640 : Nat) : Int) ∧ ((((40 * ((I mo 5).toInt)) + 6) + (4 * kp)) + 3) ≤ 2147483647 := ⟨by omega, by omega, by omega⟩
    refine g_iast F hH hS r_3b hx63.1 hx63.2.1 hx63.2.2 dX7_setsPart_63 (fun H locs hH hS => ?_)
    obtain ⟨AI_10, eAI_10⟩ : ∃ qQ, qQ = gup2 AI_8 (gh 53 0) (((((40 * ((I mo 5).toInt)) + 6) + (4 * kp)) + 3)).toNat (iI (d1)) := ⟨_, rfl⟩
    rw [← eAI_10] at hH
    have kAI_10 : ∀ b, b ≠ (gh 53 0) → AI_10 b = AI_8 b := fun b hb => by rw [eAI_10]; exact funext fun j => gup2_a _ _ hb
    have t_11 : AI_10 (gh 50 0) = AI_8 (gh 50 0) := mK hv hm (p := (0, 640)) (q := (3, 640)) (by decide) (by decide) (by decide) kAI_10
    have hv : mInv g gh R I AI_10 := mInv_read hv hm eAI_10 (by omega)
    have hT : AI_10 (gh 50 0) = T := t_11.trans hT
    exact g_vret F hr hlk hH hS hz ⟨rfl, rfl, rfl, rfl, rfl, hv, hT, fun hf => by first | exact absurd hf (by omega) | exact sP_mk (by omega) (by omega) za1 zb1 zc1 zd1 (by omega) eAI_4 eAI_6 eAI_8 eAI_10, fun b hb => (((kAI_10 b hb).trans (kAI_8 b hb)).trans (kAI_6 b hb)).trans (kAI_4 b hb)⟩ dX7_setsPart_64
  · exact g_vret F hr hlk hH hS hz ⟨rfl, rfl, rfl, rfl, rfl, hv, hT, fun hf => by first | exact absurd hf (by omega) | exact sP_mk (by omega) (by omega) za1 zb1 zc1 zd1 (by omega) rfl rfl rfl rfl, fun _ _ => rfl⟩ dX7_setsPart_7

def rmX7_headerg : Room := { frames := 1, cells := 0, slots := 0, locals := 22 }
set_option maxHeartbeats 4000000 in
set_option maxRecDepth 100000 in
/-- the header of the row -/
theorem c_X7_headerg (l : Launch) (g : gG) (gh : gGh) (T : Nat → Int32) (M : Int) (I : gI) (R : gR) (J : gJ) (AI : gI) (AJ : gJ) (AR : gR) (mo : Nat) (kd : Int) (cl : Int) (on : Int) (ot : Int) (ps : Int) (zkd : zr kd) (zcl : zr cl) (zon : zr on) (zot : zr ot) (zps : zr ps) (hv : mInv g gh R I AI) (hm : gO g mo 7) (hT : AI (gh 50 0) = T) (hM : (I mo 24).toInt = 0 → (I mo 5).toInt ≤ 15) (hMM : (I mo 5).toInt = M) : gMet l g yX7_header tsX7_header rmX7_headerg [.ref mo, .int (iI kd), .int (iI cl), .int (iI on), .int (iI ot), .int (iI ps)] (I, R, J, AI, AJ, AR) (gQv g (fun w : gS => I = w.1 ∧ R = w.2.1 ∧ J = w.2.2.1 ∧ AJ = w.2.2.2.2.1 ∧ AR = w.2.2.2.2.2 ∧ (mInv g gh R I (w.2.2.2.1)) ∧ ((w.2.2.2.1) (gh 50 0) = T) ∧ ((I mo 24).toInt = 0 → hP (AI (gh 53 0)) ((w.2.2.2.1) (gh 53 0)) M kd cl on ot ps) ∧ (∀ b, b ≠ gh 53 0 → (w.2.2.2.1) b = AI b))) := by
  refine gStart (cc := cX7_header) (maxL := 6) (ret := none) (by decide) rfl (Nat.le_of_ble_eq_true rfl) ?_
  intro p e s m below meth c ls F hr hlk hH hz hS hl
  have hl : lv_has ls 6 [(0, .ref mo), (1, .int (iI kd)), (2, .int (iI cl)), (3, .int (iI on)), (4, .int (iI ot)), (5, .int (iI ps))] := hl
  have hS : va_S (gA g) s.heap s.heap [] := hS
  obtain ⟨H, hHe⟩ : ∃ H : Heap, H = s.heap := ⟨_, rfl⟩
  obtain ⟨locs, hlo⟩ : ∃ k : List Loc, k = [] := ⟨_, rfl⟩
  have hH : gH g I R J AI AJ AR H := by rw [hHe]; exact hH
  have hS : va_S (gA g) s.heap H locs := by rw [hHe, hlo]; exact hS
  suffices hw : W p l e rmX7_headerg s m ([.ref mo, .int (iI kd), .int (iI cl), .int (iI on), .int (iI ot), .int (iI ps)] : List Value).toArray below meth c H locs 0 0 (MQ below (gQv g (fun w : gS => I = w.1 ∧ R = w.2.1 ∧ J = w.2.2.1 ∧ AJ = w.2.2.2.2.1 ∧ AR = w.2.2.2.2.2 ∧ (mInv g gh R I (w.2.2.2.1)) ∧ ((w.2.2.2.1) (gh 50 0) = T) ∧ ((I mo 24).toInt = 0 → hP (AI (gh 53 0)) ((w.2.2.2.1) (gh 53 0)) M kd cl on ot ps) ∧ (∀ b, b ≠ gh 53 0 → (w.2.2.2.1) b = AI b))) ([.ref mo, .int (iI kd), .int (iI cl), .int (iI on), .int (iI ot), .int (iI ps)] : List Value).toArray s 0 0 (gA g)) (F0 m 0 ls []) by
    rw [hHe, hlo] at hw; exact hw
  clear hHe hlo
  have hb0 := mJ hv hm
  unfold mNum1 at hb0
  refine lv_aload_n F.1 F.2.1 dX7_header_0 rfl (lv_at hl 0 rfl) ?_
  refine z_iconst F dX7_header_1 ?_
  refine lv_iload_n F.1 F.2.1 dX7_header_2 rfl (lv_at hl 1 rfl) ?_
  have b_1 := mJ hv hm
  unfold mNum1 at b_1
  refine g_callv (g_runV (As := [.int (iI 0), .int (iI kd)]) (rest := []) (ci := 7) F hl.1 hH hS hz (c_X7_setsg l g gh T M I R J AI AJ AR mo 0 kd ⟨by decide, by decide⟩ zkd hv hm hT (by omega) (by omega) (by omega)) (cwV 2 F.2.2.2.2.1 (good_up gT_X7_sets) rfl rfl rfl hdX7_sets ⟨Nat.le_of_ble_eq_true rfl, Nat.le_of_ble_eq_true rfl⟩) hm (by decide) rfl rfl rfl (Nat.le_of_ble_eq_true rfl) dX7_header_3 ⟨Nat.zero_le _, Nat.zero_le _⟩) hS (fun I_2 R_3 J_4 AI_5 AJ_6 AR_7 H locs hp_8 hH hS => ?_)
  dsimp only at hp_8
  obtain ⟨rfl, rfl, rfl, rfl, rfl, hv, hT, g1, q_9⟩ := hp_8
  refine lv_aload_n F.1 F.2.1 dX7_header_6 rfl (lv_at hl 0 rfl) ?_
  refine z_iconst F dX7_header_7 ?_
  refine lv_iload_n F.1 F.2.1 dX7_header_8 rfl (lv_at hl 2 rfl) ?_
  refine g_callv (g_runV (As := [.int (iI 1), .int (iI cl)]) (rest := []) (ci := 7) F hl.1 hH hS hz (c_X7_setsg l g gh T M I R J AI_5 AJ AR mo 1 cl ⟨by decide, by decide⟩ zcl hv hm hT (by omega) (by omega) (by omega)) (cwV 2 F.2.2.2.2.1 (good_up gT_X7_sets) rfl rfl rfl hdX7_sets ⟨Nat.le_of_ble_eq_true rfl, Nat.le_of_ble_eq_true rfl⟩) hm (by decide) rfl rfl rfl (Nat.le_of_ble_eq_true rfl) dX7_header_9 ⟨Nat.zero_le _, Nat.zero_le _⟩) hS (fun I_10 R_11 J_12 AI_13 AJ_14 AR_15 H locs hp_16 hH hS => ?_)
  dsimp only at hp_16
  obtain ⟨rfl, rfl, rfl, rfl, rfl, hv, hT, g2, q_17⟩ := hp_16
  refine lv_aload_n F.1 F.2.1 dX7_header_12 rfl (lv_at hl 0 rfl) ?_
  refine z_iconst F dX7_header_13 ?_
  refine lv_iload_n F.1 F.2.1 dX7_header_14 rfl (lv_at hl 3 rfl) ?_
  refine g_callv (g_runV (As := [.int (iI 2), .int (iI on)]) (rest := []) (ci := 7) F hl.1 hH hS hz (c_X7_setsg l g gh T M I R J AI_13 AJ AR mo 2 on ⟨by decide, by decide⟩ zon hv hm hT (by omega) (by omega) (by omega)) (cwV 2 F.2.2.2.2.1 (good_up gT_X7_sets) rfl rfl rfl hdX7_sets ⟨Nat.le_of_ble_eq_true rfl, Nat.le_of_ble_eq_true rfl⟩) hm (by decide) rfl rfl rfl (Nat.le_of_ble_eq_true rfl) dX7_header_15 ⟨Nat.zero_le _, Nat.zero_le _⟩) hS (fun I_18 R_19 J_20 AI_21 AJ_22 AR_23 H locs hp_24 hH hS => ?_)
  dsimp only at hp_24
  obtain ⟨rfl, rfl, rfl, rfl, rfl, hv, hT, g3, q_25⟩ := hp_24
  refine lv_aload_n F.1 F.2.1 dX7_header_18 rfl (lv_at hl 0 rfl) ?_
  refine z_iconst F dX7_header_19 ?_
  refine lv_iload F.1 F.2.1 dX7_header_20 (lv_at hl 4 rfl) ?_
  refine g_callv (g_runV (As := [.int (iI 3), .int (iI ot)]) (rest := []) (ci := 7) F hl.1 hH hS hz (c_X7_setsg l g gh T M I R J AI_21 AJ AR mo 3 ot ⟨by decide, by decide⟩ zot hv hm hT (by omega) (by omega) (by omega)) (cwV 2 F.2.2.2.2.1 (good_up gT_X7_sets) rfl rfl rfl hdX7_sets ⟨Nat.le_of_ble_eq_true rfl, Nat.le_of_ble_eq_true rfl⟩) hm (by decide) rfl rfl rfl (Nat.le_of_ble_eq_true rfl) dX7_header_22 ⟨Nat.zero_le _, Nat.zero_le _⟩) hS (fun I_26 R_27 J_28 AI_29 AJ_30 AR_31 H locs hp_32 hH hS => ?_)
  dsimp only at hp_32
  obtain ⟨rfl, rfl, rfl, rfl, rfl, hv, hT, g4, q_33⟩ := hp_32
  refine lv_aload_n F.1 F.2.1 dX7_header_25 rfl (lv_at hl 0 rfl) ?_
  refine z_iconst F dX7_header_26 ?_
  refine lv_iload F.1 F.2.1 dX7_header_27 (lv_at hl 5 rfl) ?_
  refine g_callv (g_runV (As := [.int (iI 4), .int (iI ps)]) (rest := []) (ci := 7) F hl.1 hH hS hz (c_X7_setsg l g gh T M I R J AI_29 AJ AR mo 4 ps ⟨by decide, by decide⟩ zps hv hm hT (by omega) (by omega) (by omega)) (cwV 2 F.2.2.2.2.1 (good_up gT_X7_sets) rfl rfl rfl hdX7_sets ⟨Nat.le_of_ble_eq_true rfl, Nat.le_of_ble_eq_true rfl⟩) hm (by decide) rfl rfl rfl (Nat.le_of_ble_eq_true rfl) dX7_header_29 ⟨Nat.zero_le _, Nat.zero_le _⟩) hS (fun I_34 R_35 J_36 AI_37 AJ_38 AR_39 H locs hp_40 hH hS => ?_)
  dsimp only at hp_40
  obtain ⟨rfl, rfl, rfl, rfl, rfl, hv, hT, g5, q_41⟩ := hp_40
  exact g_vret F hr hlk hH hS hz ⟨rfl, rfl, rfl, rfl, rfl, hv, hT, fun hf => hP_mk (by omega) (g1 hf) (g2 hf) (g3 hf) (g4 hf) (g5 hf), fun b hb => ((((q_41 b hb).trans (q_33 b hb)).trans (q_25 b hb)).trans (q_17 b hb)).trans (q_9 b hb)⟩ dX7_header_32
end
