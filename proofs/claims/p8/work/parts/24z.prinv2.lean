theorem gInv_Rplan {g : gG} {gh : gGh} {R AR : gR} {I AI : gI} {a b : Nat} (hv : gInv g gh R AR I AI) (ha : gO g a 1) (hb : gO g b 2) : gInv g gh (gup2 R a 1 (some b)) AR I AI := by
  obtain ⟨q1, q2, q3, q4, q5, q6, q7, q8⟩ := hv
  have nO : ∀ d, d ≠ 1 → ∀ q k, gO g q d → gup2 R a 1 (some b) q k = R q k := fun d hd q k hq => gup2_a _ _ (gO_ne hq ha hd)
  refine ⟨fun q hq => ?_, q2, fun q hq => ?_, fun q hq => ?_, fun q hq => ?_, fun q hq => ?_, fun q hq => ?_, ⟨fun q hq => ?_, q8.2⟩⟩
  · rw [nO 4 (by decide) q 2 hq]; exact q1 q hq
  · unfold vLineS; rw [nO 0 (by decide) q 7 hq]; exact q3 q hq
  · rw [nO 2 (by decide) q 0 hq]; exact q4 q hq
  · simp only [nO 6 (by decide) q _ hq]; exact q5 q hq
  · rw [gup2_k (j := 0) _ _ (by decide), gup2_k (j := 2) _ _ (by decide)]
    obtain ⟨p1, p2, p3, p4⟩ := q6 q hq
    refine ⟨p1, ?_, p3, p4⟩
    by_cases e : q = a
    · subst e; rw [gup2_s]; exact ⟨b, rfl, hb⟩
    · rw [gup2_a _ _ e]; exact p2
  · simp only [nO 5 (by decide) q _ hq]; exact q7 q hq
  · simp only [nO 3 (by decide) q _ hq]; exact q8.1 q hq
