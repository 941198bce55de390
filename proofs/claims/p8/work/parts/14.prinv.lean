section PrInv
variable {g : gG} {gh : gGh} {R AR : gR} {I AI : gI} {a : Nat}
theorem gI_tk (hv : gInv g gh R AR I AI) (ha : gO g a 5) : 0 ≤ (I a 4).toInt ∧ (I a 4).toInt ≤ 901 := (hv.2.2.2.2.2.2.1 a ha).2.2.2.2.1
theorem gR_tk0 (hv : gInv g gh R AR I AI) (ha : gO g a 5) : R a 0 = some (gh 24 0) ∧ gAr g (gh 24 0) 9 901 := ⟨(hv.2.2.2.2.2.2.1 a ha).1.2.1, (hv.2.2.2.2.2.2.1 a ha).1.2.2.1⟩
theorem gR_tk1 (hv : gInv g gh R AR I AI) (ha : gO g a 5) : R a 1 = some (gh 25 0) ∧ gAr g (gh 25 0) 9 901 := ⟨(hv.2.2.2.2.2.2.1 a ha).2.1.1, (hv.2.2.2.2.2.2.1 a ha).2.1.2.1⟩
theorem gR_tk2 (hv : gInv g gh R AR I AI) (ha : gO g a 5) : R a 2 = some (gh 26 0) ∧ gAr g (gh 26 0) 9 901 := ⟨(hv.2.2.2.2.2.2.1 a ha).2.2.1.1, (hv.2.2.2.2.2.2.1 a ha).2.2.1.2.1⟩
theorem gR_tk3 (hv : gInv g gh R AR I AI) (ha : gO g a 5) : R a 3 = some (gh 27 0) ∧ gAr g (gh 27 0) 10 901 := (hv.2.2.2.2.2.2.1 a ha).2.2.2.1
theorem gC_tok (hv : gInv g gh R AR I AI) (ha : gO g a 5) {z : Int} (h0 : 0 ≤ z) (h : z < (I a 4).toInt) (hk : (AI (gh 24 0) z.toNat).toInt = 2) : 0 ≤ (AI (gh 26 0) z.toNat).toInt ∧ (AI (gh 26 0) z.toNat).toInt ≤ 3 := (hv.2.2.2.2.2.2.1 a ha).2.2.2.2.2 z.toNat (by omega) hk
theorem gR_pr0 (hv : gInv g gh R AR I AI) (ha : gO g a 1) : R a 0 = some (gh 22 0) ∧ gO g (gh 22 0) 5 := (hv.2.2.2.2.2.1 a ha).1
theorem gI_pr (hv : gInv g gh R AR I AI) (ha : gO g a 1) : 0 ≤ (I a 3).toInt ∧ (I a 3).toInt ≤ 900 := (hv.2.2.2.2.2.1 a ha).2.2.2
theorem gInv_here (hv : gInv g gh R AR I AI) (ha : gO g a 1) {z : Int} (h0 : 0 ≤ z) (h1 : z ≤ 900) : gInv g gh R AR (gup2 I a 3 (iI z)) AI := by
  obtain ⟨q1, q2, q3, q4, q5, q6, q7, q8⟩ := hv
  have nO : ∀ d, d ≠ 1 → ∀ b, gO g b d → gup2 I a 3 (iI z) b = I b := fun d hd b hb => gup2_o ha hb hd
  refine ⟨vRows_c q1 (nO 4 (by decide)), q2, vLine_c q3 (nO 0 (by decide)) (fun b hb => by rw [nO 2 (by decide) b hb]) (fun _ _ => rfl), vPlan_c q4 (nO 2 (by decide)), vX_c q5 (nO 6 (by decide)), fun b hb => ?_, vTk_c q7 (nO 5 (by decide)) (fun _ _ => rfl) (fun _ _ => rfl), vRM_c q8 (nO 7 (by decide)) (fun _ _ => rfl) (fun hb _ _ => ⟨by rw [nO 4 (by decide) _ hb], rfl⟩)⟩
  obtain ⟨p1, p2, p3, p4⟩ := q6 b hb
  refine ⟨p1, p2, p3, ?_⟩
  by_cases hq : b = a
  · subst hq
    rw [gup2_s, iI_val ⟨by omega, by omega⟩]
    exact ⟨h0, h1⟩
  · rw [gup2_a _ _ hq]
    exact p4
theorem gInv_tokLen (hv : gInv g gh R AR I AI) (ha : gO g a 5) {z : Int} (h0 : 0 ≤ z) (h1 : z ≤ 901) (hc : ∀ j : Nat, (j : Int) < z → (AI (gh 24 0) j).toInt = 2 → 0 ≤ (AI (gh 26 0) j).toInt ∧ (AI (gh 26 0) j).toInt ≤ 3) : gInv g gh R AR (gup2 I a 4 (iI z)) AI := by
  obtain ⟨q1, q2, q3, q4, q5, q6, q7, q8⟩ := hv
  have nO : ∀ d, d ≠ 5 → ∀ b, gO g b d → gup2 I a 4 (iI z) b = I b := fun d hd b hb => gup2_o ha hb hd
  refine ⟨vRows_c q1 (nO 4 (by decide)), q2, vLine_c q3 (nO 0 (by decide)) (fun b hb => by rw [nO 2 (by decide) b hb]) (fun _ _ => rfl), vPlan_c q4 (nO 2 (by decide)), vX_c q5 (nO 6 (by decide)), vPr_c q6 (nO 1 (by decide)), fun b hb => ?_, vRM_c q8 (nO 7 (by decide)) (fun _ _ => rfl) (fun hb _ _ => ⟨by rw [nO 4 (by decide) _ hb], rfl⟩)⟩
  have hq : b = a := (q7 b hb).1.1.trans (q7 a ha).1.1.symm
  subst hq
  have p := q7 b hb
  rw [gup2_s, iI_val ⟨by omega, by omega⟩]
  exact ⟨p.1, p.2.1, p.2.2.1, p.2.2.2.1, ⟨h0, h1⟩, hc⟩
/-- a write to kinds or values behind the last token -/
theorem gInv_tokW {AI' : gI} (hv : gInv g gh R AR I AI) (ha : gO g a 5) {c n : Nat} (hc : gh 9 c = 3 ∧ c = gh 24 0 ∨ gh 9 c = 4 ∧ c = gh 26 0) (e : ∀ b, b ≠ c → AI' b = AI b) (en : n = (I a 4).toInt.toNat) (e1 : ∀ j, j ≠ n → AI' c j = AI c j) : gInv g gh R AR I AI' := by
  obtain ⟨q1, q2, q3, q4, q5, q6, q7, q8⟩ := hv
  have ne : ∀ b k, k ≠ 3 → k ≠ 4 → gh 9 b = k → AI' b = AI b := fun b k h3 h4 hb => e b (fun q => by rcases hc with h | h <;> rw [← q, hb] at h <;> omega)
  refine ⟨q1, vC5_c q2 q1 (fun b hb => ne b 1 (by decide) (by decide) hb), vLine_c q3 (fun _ _ => rfl) (fun _ _ => rfl) (fun b hb => ne b 2 (by decide) (by decide) hb), q4, q5, q6, fun b hb => ?_, vRM_c q8 (fun _ _ => rfl) (fun b hb => ne b 5 (by decide) (by decide) hb) (fun hb _ _ => ⟨rfl, ne _ 1 (by decide) (by decide) (q1 _ hb).1.2.2.1⟩)⟩
  have hq : b = a := (q7 b hb).1.1.trans (q7 a ha).1.1.symm
  subst hq
  have p := q7 b hb
  refine ⟨p.1, p.2.1, p.2.2.1, p.2.2.2.1, p.2.2.2.2.1, fun j hj => ?_⟩
  have hp := p.2.2.2.2.1
  have s : ∀ d, AI' d j = AI d j := fun d => by
    by_cases hd : d = c
    · rw [hd]; exact e1 j (by omega)
    · rw [e d hd]
  rw [s, s]
  exact p.2.2.2.2.2 j hj
/-- the parser a reads into the line ln, the one behind the last of the plan q -/
def pS (g : gG) (gh : gGh) (R : gR) (I : gI) (a q ln : Nat) : Prop := gO g a 1 ∧ R a 1 = some q ∧ gO g q 2 ∧ R a 2 = some ln ∧ gO g ln 0 ∧ gh 4 ln = q ∧ (gh 5 ln : Int) = (I q 1).toInt ∧ (I a 3).toInt < (I (gh 22 0) 4).toInt
def pF (a ln : Nat) (I I' : gI) : Prop := (∀ b, b ≠ a → b ≠ ln → I' b = I b) ∧ I' ln 0 = I ln 0
theorem pF_r {a ln : Nat} {I : gI} : pF a ln I I := ⟨fun _ _ _ => rfl, rfl⟩
theorem pF_t {a ln : Nat} {I I' I'' : gI} (h : pF a ln I I') (h' : pF a ln I' I'') : pF a ln I I'' := ⟨fun b h1 h2 => (h'.1 b h1 h2).trans (h.1 b h1 h2), h'.2.trans h.2⟩
theorem pF_ln {a ln k : Nat} {I : gI} {v : Int32} (hk : k ≠ 0) : pF a ln I (gup2 I ln k v) := ⟨fun b _ h2 => funext fun j => gup2_a _ _ h2, gup2_k _ _ (Ne.symm hk)⟩
theorem pF_o {a ln : Nat} {I I' : gI} (h : ∀ b, b ≠ ln → I' b = I b) (h0 : I' ln 0 = I ln 0) : pF a ln I I' := ⟨fun b _ h2 => h b h2, h0⟩
theorem pS_of {q ln : Nat} {I' : gI} (hv : gInv g gh R AR I AI) (hp : pS g gh R I a q ln) (f : ∀ b, b ≠ a → b ≠ ln → I' b = I b) (hh : (I' a 3).toInt < (I (gh 22 0) 4).toInt) : pS g gh R I' a q ln := by
  obtain ⟨h1, h2, h3, h4, h5, h6, h7, h8⟩ := hp
  refine ⟨h1, h2, h3, h4, h5, h6, ?_, ?_⟩
  · rw [f q (gO_ne h3 h1 (by decide)) (gO_ne h3 h5 (by decide))]; exact h7
  · rw [f (gh 22 0) (gO_ne (gR_pr0 hv h1).2 h1 (by decide)) (gO_ne (gR_pr0 hv h1).2 h5 (by decide))]; exact hh
/-- only the line has changed -/
theorem pS_ln {q ln : Nat} {I' : gI} (hv : gInv g gh R AR I AI) (hp : pS g gh R I a q ln) (f : ∀ b, b ≠ ln → I' b = I b) : pS g gh R I' a q ln :=
  pS_of hv hp (fun b _ h => f b h) (by rw [f a (gO_ne hp.1 hp.2.2.2.2.1 (by decide))]; exact hp.2.2.2.2.2.2.2)
theorem pS_col {q ln : Nat} {z : Int} (hp : pS g gh R I a q ln) : (gh 5 ln : Int) < (I (gh 4 ln) 1).toInt → z ≤ 4 := fun h => by
  rw [hp.2.2.2.2.2.1] at h
  have := hp.2.2.2.2.2.2.1
  omega
end PrInv
theorem z_lcmp {x y : Int64} : (lg_cmp x y).toInt = 0 ↔ x = y := by
  unfold lg_cmp
  rcases lg_tri x y with h | h | h
  · simp only [h, lg_lt_ne h, lg_lt_not h, if_true, if_false]
    decide
  · subst h
    have hn : ¬ x < x := fun q => lg_lt_ne q rfl
    simp [hn]
  · have h2 : ¬ x = y := fun q => lg_lt_ne h q.symm
    simp only [h, h2, lg_lt_not h, if_true, if_false]
    decide
/-- the parser's line -/
theorem gInv_Rline {g : gG} {gh : gGh} {R AR : gR} {I AI : gI} {a b : Nat} (hv : gInv g gh R AR I AI) (ha : gO g a 1) (hb : gO g b 0) : gInv g gh (gup2 R a 2 (some b)) AR I AI := by
  obtain ⟨q1, q2, q3, q4, q5, q6, q7, q8⟩ := hv
  have nO : ∀ d, d ≠ 1 → ∀ q k, gO g q d → gup2 R a 2 (some b) q k = R q k := fun d hd q k hq => gup2_a _ _ (gO_ne hq ha hd)
  refine ⟨fun q hq => ?_, q2, fun q hq => ?_, fun q hq => ?_, fun q hq => ?_, fun q hq => ?_, fun q hq => ?_, ⟨fun q hq => ?_, q8.2⟩⟩
  · rw [nO 4 (by decide) q 2 hq]; exact q1 q hq
  · unfold vLineS; rw [nO 0 (by decide) q 7 hq]; exact q3 q hq
  · rw [nO 2 (by decide) q 0 hq]; exact q4 q hq
  · simp only [nO 6 (by decide) q _ hq]; exact q5 q hq
  · rw [gup2_k (j := 0) _ _ (by decide), gup2_k (j := 1) _ _ (by decide)]
    obtain ⟨p1, p2, p3, p4⟩ := q6 q hq
    refine ⟨p1, p2, ?_, p4⟩
    by_cases e : q = a
    · subst e; rw [gup2_s]; exact ⟨b, rfl, hb⟩
    · rw [gup2_a _ _ e]; exact p3
  · simp only [nO 5 (by decide) q _ hq]; exact q7 q hq
  · simp only [nO 3 (by decide) q _ hq]; exact q8.1 q hq
theorem pS_step {g : gG} {gh : gGh} {R AR : gR} {I I' AI : gI} {a q ln : Nat} (hv : gInv g gh R AR I AI) (hp : pS g gh R I a q ln) (f : ∀ b, b ≠ a → I' b = I b) (hh : (I' a 3).toInt < (I (gh 22 0) 4).toInt) : pS g gh R I' a q ln ∧ pF a ln I I' ∧ I' ln = I ln :=
  ⟨pS_of hv hp (fun b h _ => f b h) hh, ⟨fun b h _ => f b h, by rw [f ln (gO_ne hp.2.2.2.2.1 hp.1 (by decide))]⟩, f ln (gO_ne hp.2.2.2.2.1 hp.1 (by decide))⟩
theorem pF_q {g : gG} {gh : gGh} {R : gR} {I I' I0 : gI} {a q ln : Nat} (hp : pS g gh R I0 a q ln) (pf : pF a ln I I') : I' q = I q := pf.1 q (gO_ne hp.2.2.1 hp.1 (by decide)) (gO_ne hp.2.2.1 hp.2.2.2.2.1 (by decide))
theorem pG_t {a ln : Nat} {I I' I'' : gI} (h : ∀ b, b ≠ a → b ≠ ln → I' b = I b) (h' : ∀ b, b ≠ a → b ≠ ln → I'' b = I' b) : ∀ b, b ≠ a → b ≠ ln → I'' b = I b := fun b h1 h2 => (h' b h1 h2).trans (h b h1 h2)
