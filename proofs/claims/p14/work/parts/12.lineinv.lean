section
section LineInv
variable {g : gG} {gh : gGh} {R AR : gR} {I AI : gI} {a : Nat}
theorem gI_line (hv : gInv g gh R AR I AI) (ha : gO g a 0) : vLineI (I a) := (hv.2.2.1 a ha).2.1
theorem gR_parts (hv : gInv g gh R AR I AI) (ha : gO g a 0) : R a 7 = some (gh 3 a) ∧ gAr g (gh 3 a) 9 32 := ⟨(hv.2.2.1 a ha).1.1, (hv.2.2.1 a ha).1.2.1⟩
theorem gP_line (hv : gInv g gh R AR I AI) (ha : gO g a 0) : okPart (I a 0).toInt (I a 8).toInt (AI (gh 3 a)) := (hv.2.2.1 a ha).2.2.1
theorem gInv_line {I' AI' : gI} (hv : gInv g gh R AR I AI) (ha : gO g a 0) (fI : ∀ b, b ≠ a → I' b = I b) (fA : ∀ b, b ≠ gh 3 a → AI' b = AI b) (h1 : vLineI (I' a)) (h2 : okPart (I' a 0).toInt (I' a 8).toInt (AI' (gh 3 a))) (h3 : (gh 5 a : Int) < (I (gh 4 a) 1).toInt → (I' a 2).toInt ≤ 4) : gInv g gh R AR I' AI' := by
  obtain ⟨q1, q2, q3, q4, q5, q6, q7, q8⟩ := hv
  have hr := (q3 a ha).1
  have nO : ∀ d, d ≠ 0 → ∀ b, gO g b d → I' b = I b := fun d hd b hb => fI b (gO_ne hb ha hd)
  have ne : ∀ b n, n ≠ 2 → gh 9 b = n → AI' b = AI b := fun b n hn hb => fA b (fun q => hn (by rw [← hb, q, hr.2.2.1]))
  refine ⟨vRows_c q1 (nO 4 (by decide)), vC5_c q2 q1 (fun b hb => ne b 1 (by decide) hb), fun b hb => ?_, vPlan_c q4 (nO 2 (by decide)), vX_c q5 (nO 6 (by decide)), vPr_c q6 (nO 1 (by decide)), vTk_c q7 (nO 5 (by decide)) (fun b hb => ne b 3 (by decide) hb) (fun b hb => ne b 4 (by decide) hb), vRM_c q8 (nO 7 (by decide)) (fun b hb => ne b 5 (by decide) hb) (fun hb _ _ => ⟨by rw [nO 4 (by decide) _ hb], ne _ 1 (by decide) (q1 _ hb).1.2.2.1⟩)⟩
  have qb := q3 b hb
  rw [nO 2 (by decide) _ qb.1.2.2.2.2.1]
  by_cases hq : b = a
  · subst hq
    exact ⟨hr, h1, h2, h3⟩
  · rw [fI b hq, fA _ (fun q => hq (by rw [← qb.1.2.2.2.1, q, hr.2.2.2.1]))]
    exact qb
theorem gInv_lineK {k : Nat} {v : Int32} (hv : gInv g gh R AR I AI) (ha : gO g a 0) (hk : k ≠ 0 ∧ k ≠ 8) (h1 : vLineI (gup2 I a k v a)) (h3 : (gh 5 a : Int) < (I (gh 4 a) 1).toInt → (gup2 I a k v a 2).toInt ≤ 4) : gInv g gh R AR (gup2 I a k v) AI :=
  gInv_line hv ha (fun b hb => funext fun j => gup2_a _ _ hb) (fun _ _ => rfl) h1 (by rw [gup2_k _ _ (Ne.symm hk.1), gup2_k _ _ (Ne.symm hk.2)]; exact gP_line hv ha) h3
theorem gInv_line2 {z : Int} (hv : gInv g gh R AR I AI) (ha : gO g a 0) (h0 : 0 ≤ z) (h9 : z ≤ 9) (hc : (gh 5 a : Int) < (I (gh 4 a) 1).toInt → z ≤ 4) : gInv g gh R AR (gup2 I a 2 (iI z)) AI := by
  have h := gI_line hv ha
  refine gInv_lineK hv ha (by decide) ?_ (by rw [gup2_s, iI_val ⟨by omega, by omega⟩]; exact hc)
  unfold vLineI at h ⊢
  rw [gup2_k (j := 0) (k := 2) _ _ (by decide), gup2_k (j := 3) (k := 2) _ _ (by decide), gup2_k (j := 4) (k := 2) _ _ (by decide), gup2_k (j := 5) (k := 2) _ _ (by decide), gup2_k (j := 6) (k := 2) _ _ (by decide), gup2_k (j := 8) (k := 2) _ _ (by decide), gup2_k (j := 9) (k := 2) _ _ (by decide), gup2_k (j := 10) (k := 2) _ _ (by decide), gup2_k (j := 12) (k := 2) _ _ (by decide), gup2_s, iI_val ⟨by omega, by omega⟩]
  omega
theorem gInv_line3 {z : Int} (hv : gInv g gh R AR I AI) (ha : gO g a 0) (h0 : -1 ≤ z) (h9 : z ≤ 15) (hc : (I a 0).toInt = 0 → z = -1) : gInv g gh R AR (gup2 I a 3 (iI z)) AI := by
  have h := gI_line hv ha
  refine gInv_lineK hv ha (by decide) ?_ (by rw [gup2_k _ _ (by decide)]; exact (hv.2.2.1 a ha).2.2.2)
  unfold vLineI at h ⊢
  rw [gup2_k (j := 0) (k := 3) _ _ (by decide), gup2_k (j := 2) (k := 3) _ _ (by decide), gup2_k (j := 4) (k := 3) _ _ (by decide), gup2_k (j := 5) (k := 3) _ _ (by decide), gup2_k (j := 6) (k := 3) _ _ (by decide), gup2_k (j := 8) (k := 3) _ _ (by decide), gup2_k (j := 9) (k := 3) _ _ (by decide), gup2_k (j := 10) (k := 3) _ _ (by decide), gup2_k (j := 12) (k := 3) _ _ (by decide), gup2_s, iI_val ⟨by omega, by omega⟩]
  omega
theorem gInv_line4 {z : Int} (hv : gInv g gh R AR I AI) (ha : gO g a 0) (h0 : -1 ≤ z) (h9 : z ≤ 15) : gInv g gh R AR (gup2 I a 4 (iI z)) AI := by
  have h := gI_line hv ha
  refine gInv_lineK hv ha (by decide) ?_ (by rw [gup2_k _ _ (by decide)]; exact (hv.2.2.1 a ha).2.2.2)
  unfold vLineI at h ⊢
  rw [gup2_k (j := 0) (k := 4) _ _ (by decide), gup2_k (j := 2) (k := 4) _ _ (by decide), gup2_k (j := 3) (k := 4) _ _ (by decide), gup2_k (j := 5) (k := 4) _ _ (by decide), gup2_k (j := 6) (k := 4) _ _ (by decide), gup2_k (j := 8) (k := 4) _ _ (by decide), gup2_k (j := 9) (k := 4) _ _ (by decide), gup2_k (j := 10) (k := 4) _ _ (by decide), gup2_k (j := 12) (k := 4) _ _ (by decide), gup2_s, iI_val ⟨by omega, by omega⟩]
  omega
theorem gInv_line5 {z : Int} (hv : gInv g gh R AR I AI) (ha : gO g a 0) (h0 : 0 ≤ z) (h9 : z ≤ 4) : gInv g gh R AR (gup2 I a 5 (iI z)) AI := by
  have h := gI_line hv ha
  refine gInv_lineK hv ha (by decide) ?_ (by rw [gup2_k _ _ (by decide)]; exact (hv.2.2.1 a ha).2.2.2)
  unfold vLineI at h ⊢
  rw [gup2_k (j := 0) (k := 5) _ _ (by decide), gup2_k (j := 2) (k := 5) _ _ (by decide), gup2_k (j := 3) (k := 5) _ _ (by decide), gup2_k (j := 4) (k := 5) _ _ (by decide), gup2_k (j := 6) (k := 5) _ _ (by decide), gup2_k (j := 8) (k := 5) _ _ (by decide), gup2_k (j := 9) (k := 5) _ _ (by decide), gup2_k (j := 10) (k := 5) _ _ (by decide), gup2_k (j := 12) (k := 5) _ _ (by decide), gup2_s, iI_val ⟨by omega, by omega⟩]
  omega
theorem gInv_line6 {z : Int} (hv : gInv g gh R AR I AI) (ha : gO g a 0) (h0 : 0 ≤ z) (h9 : z ≤ 4) : gInv g gh R AR (gup2 I a 6 (iI z)) AI := by
  have h := gI_line hv ha
  refine gInv_lineK hv ha (by decide) ?_ (by rw [gup2_k _ _ (by decide)]; exact (hv.2.2.1 a ha).2.2.2)
  unfold vLineI at h ⊢
  rw [gup2_k (j := 0) (k := 6) _ _ (by decide), gup2_k (j := 2) (k := 6) _ _ (by decide), gup2_k (j := 3) (k := 6) _ _ (by decide), gup2_k (j := 4) (k := 6) _ _ (by decide), gup2_k (j := 5) (k := 6) _ _ (by decide), gup2_k (j := 8) (k := 6) _ _ (by decide), gup2_k (j := 9) (k := 6) _ _ (by decide), gup2_k (j := 10) (k := 6) _ _ (by decide), gup2_k (j := 12) (k := 6) _ _ (by decide), gup2_s, iI_val ⟨by omega, by omega⟩]
  omega
theorem gInv_line9 {z : Int} (hv : gInv g gh R AR I AI) (ha : gO g a 0) (h0 : 0 ≤ z) (h9 : z ≤ 3) : gInv g gh R AR (gup2 I a 9 (iI z)) AI := by
  have h := gI_line hv ha
  refine gInv_lineK hv ha (by decide) ?_ (by rw [gup2_k _ _ (by decide)]; exact (hv.2.2.1 a ha).2.2.2)
  unfold vLineI at h ⊢
  rw [gup2_k (j := 0) (k := 9) _ _ (by decide), gup2_k (j := 2) (k := 9) _ _ (by decide), gup2_k (j := 3) (k := 9) _ _ (by decide), gup2_k (j := 4) (k := 9) _ _ (by decide), gup2_k (j := 5) (k := 9) _ _ (by decide), gup2_k (j := 6) (k := 9) _ _ (by decide), gup2_k (j := 8) (k := 9) _ _ (by decide), gup2_k (j := 10) (k := 9) _ _ (by decide), gup2_k (j := 12) (k := 9) _ _ (by decide), gup2_s, iI_val ⟨by omega, by omega⟩]
  omega
theorem gInv_line10 {z : Int} (hv : gInv g gh R AR I AI) (ha : gO g a 0) (h0 : 0 ≤ z) (h9 : z ≤ 3) : gInv g gh R AR (gup2 I a 10 (iI z)) AI := by
  have h := gI_line hv ha
  refine gInv_lineK hv ha (by decide) ?_ (by rw [gup2_k _ _ (by decide)]; exact (hv.2.2.1 a ha).2.2.2)
  unfold vLineI at h ⊢
  rw [gup2_k (j := 0) (k := 10) _ _ (by decide), gup2_k (j := 2) (k := 10) _ _ (by decide), gup2_k (j := 3) (k := 10) _ _ (by decide), gup2_k (j := 4) (k := 10) _ _ (by decide), gup2_k (j := 5) (k := 10) _ _ (by decide), gup2_k (j := 6) (k := 10) _ _ (by decide), gup2_k (j := 8) (k := 10) _ _ (by decide), gup2_k (j := 9) (k := 10) _ _ (by decide), gup2_k (j := 12) (k := 10) _ _ (by decide), gup2_s, iI_val ⟨by omega, by omega⟩]
  omega
theorem gInv_line12 {z : Int} (hv : gInv g gh R AR I AI) (ha : gO g a 0) (h0 : 0 ≤ z) (h9 : z ≤ 3) : gInv g gh R AR (gup2 I a 12 (iI z)) AI := by
  have h := gI_line hv ha
  refine gInv_lineK hv ha (by decide) ?_ (by rw [gup2_k _ _ (by decide)]; exact (hv.2.2.1 a ha).2.2.2)
  unfold vLineI at h ⊢
  rw [gup2_k (j := 0) (k := 12) _ _ (by decide), gup2_k (j := 2) (k := 12) _ _ (by decide), gup2_k (j := 3) (k := 12) _ _ (by decide), gup2_k (j := 4) (k := 12) _ _ (by decide), gup2_k (j := 5) (k := 12) _ _ (by decide), gup2_k (j := 6) (k := 12) _ _ (by decide), gup2_k (j := 8) (k := 12) _ _ (by decide), gup2_k (j := 9) (k := 12) _ _ (by decide), gup2_k (j := 10) (k := 12) _ _ (by decide), gup2_s, iI_val ⟨by omega, by omega⟩]
  omega
theorem gInv_line11 {z : Int} (hv : gInv g gh R AR I AI) (ha : gO g a 0) : gInv g gh R AR (gup2 I a 11 (iI z)) AI := by
  have h := gI_line hv ha
  refine gInv_lineK hv ha (by decide) ?_ (by rw [gup2_k _ _ (by decide)]; exact (hv.2.2.1 a ha).2.2.2)
  unfold vLineI at h ⊢
  rw [gup2_k (j := 0) (k := 11) _ _ (by decide), gup2_k (j := 2) (k := 11) _ _ (by decide), gup2_k (j := 3) (k := 11) _ _ (by decide), gup2_k (j := 4) (k := 11) _ _ (by decide), gup2_k (j := 5) (k := 11) _ _ (by decide), gup2_k (j := 6) (k := 11) _ _ (by decide), gup2_k (j := 8) (k := 11) _ _ (by decide), gup2_k (j := 9) (k := 11) _ _ (by decide), gup2_k (j := 10) (k := 11) _ _ (by decide), gup2_k (j := 12) (k := 11) _ _ (by decide)]
  omega
theorem gInv_line13 {z : Int} (hv : gInv g gh R AR I AI) (ha : gO g a 0) : gInv g gh R AR (gup2 I a 13 (iI z)) AI := by
  have h := gI_line hv ha
  refine gInv_lineK hv ha (by decide) ?_ (by rw [gup2_k _ _ (by decide)]; exact (hv.2.2.1 a ha).2.2.2)
  unfold vLineI at h ⊢
  rw [gup2_k (j := 0) (k := 13) _ _ (by decide), gup2_k (j := 2) (k := 13) _ _ (by decide), gup2_k (j := 3) (k := 13) _ _ (by decide), gup2_k (j := 4) (k := 13) _ _ (by decide), gup2_k (j := 5) (k := 13) _ _ (by decide), gup2_k (j := 6) (k := 13) _ _ (by decide), gup2_k (j := 8) (k := 13) _ _ (by decide), gup2_k (j := 9) (k := 13) _ _ (by decide), gup2_k (j := 10) (k := 13) _ _ (by decide), gup2_k (j := 12) (k := 13) _ _ (by decide)]
  omega
theorem gInv_line14 {z : Int} (hv : gInv g gh R AR I AI) (ha : gO g a 0) : gInv g gh R AR (gup2 I a 14 (iI z)) AI := by
  have h := gI_line hv ha
  refine gInv_lineK hv ha (by decide) ?_ (by rw [gup2_k _ _ (by decide)]; exact (hv.2.2.1 a ha).2.2.2)
  unfold vLineI at h ⊢
  rw [gup2_k (j := 0) (k := 14) _ _ (by decide), gup2_k (j := 2) (k := 14) _ _ (by decide), gup2_k (j := 3) (k := 14) _ _ (by decide), gup2_k (j := 4) (k := 14) _ _ (by decide), gup2_k (j := 5) (k := 14) _ _ (by decide), gup2_k (j := 6) (k := 14) _ _ (by decide), gup2_k (j := 8) (k := 14) _ _ (by decide), gup2_k (j := 9) (k := 14) _ _ (by decide), gup2_k (j := 10) (k := 14) _ _ (by decide), gup2_k (j := 12) (k := 14) _ _ (by decide)]
  omega
/-- kind, while there is no part yet -/
theorem gInv_line0 {z : Int} (hv : gInv g gh R AR I AI) (ha : gO g a 0) (h0 : 1 ≤ z) (h9 : z ≤ 8) (hp : (I a 8).toInt = 0) : gInv g gh R AR (gup2 I a 0 (iI z)) AI := by
  have h := gI_line hv ha
  refine gInv_line hv ha (fun b hb => funext fun j => gup2_a _ _ hb) (fun _ _ => rfl) ?_ ?_ (by rw [gup2_k _ _ (by decide)]; exact (hv.2.2.1 a ha).2.2.2)
  · unfold vLineI at h ⊢
    rw [gup2_k (j := 2) (k := 0) _ _ (by decide), gup2_k (j := 3) (k := 0) _ _ (by decide), gup2_k (j := 4) (k := 0) _ _ (by decide), gup2_k (j := 5) (k := 0) _ _ (by decide), gup2_k (j := 6) (k := 0) _ _ (by decide), gup2_k (j := 8) (k := 0) _ _ (by decide), gup2_k (j := 9) (k := 0) _ _ (by decide), gup2_k (j := 10) (k := 0) _ _ (by decide), gup2_k (j := 12) (k := 0) _ _ (by decide), gup2_s, iI_val ⟨by omega, by omega⟩]
    omega
  · rw [gup2_k (j := 8) _ _ (by decide), hp]
    refine ⟨fun _ k hk => absurd hk (by omega), fun _ => ⟨by omega, fun k hk => absurd hk (by omega)⟩, fun _ => ⟨by omega, fun k hk => absurd hk (by omega)⟩, fun _ => ⟨by omega, fun k hk => absurd hk (by omega)⟩⟩
end LineInv
theorem gI_plan {g : gG} {gh : gGh} {R AR : gR} {I AI : gI} {a : Nat} (hv : gInv g gh R AR I AI) (ha : gO g a 2) : 0 ≤ (I a 1).toInt ∧ (I a 1).toInt ≤ 16 ∧ 0 ≤ (I a 2).toInt ∧ (I a 2).toInt ≤ 16 := (hv.2.2.2.1 a ha).2
theorem gR_lines {g : gG} {gh : gGh} {R AR : gR} {I AI : gI} {a : Nat} (hv : gInv g gh R AR I AI) (ha : gO g a 2) : R a 0 = some (gh 6 a) ∧ gAr g (gh 6 a) 11 16 := ⟨(hv.2.2.2.1 a ha).1.1, (hv.2.2.2.1 a ha).1.2.1⟩
theorem gA_lines {g : gG} {gh : gGh} {R AR : gR} {I AI : gI} {a : Nat} (hv : gInv g gh R AR I AI) (ha : gO g a 2) {z : Int} (h0 : 0 ≤ z) (h1 : z < 16) : ∃ b, AR (gh 6 a) z.toNat = some b ∧ gO g b 0 ∧ gh 4 b = a ∧ (gh 5 b : Int) = z := by
  obtain ⟨b, h2, h3, h4, h5⟩ := (hv.2.2.2.1 a ha).1.2.2.1 z.toNat (by omega)
  exact ⟨b, h2, h3, h4, by omega⟩
theorem gA_same {g : gG} {gh : gGh} {R AR : gR} {I AI : gI} {a b c : Nat} (hv : gInv g gh R AR I AI) (ha : gO g a 2) (hb : gO g b 0) (h1 : gh 4 b = a) (hc : gO g c 0) (h2 : gh 4 c = a) (h : gh 5 b = gh 5 c) : b = c := by
  have e1 := (hv.2.2.2.1 a ha).1.2.2.2 b hb h1
  have e2 := (hv.2.2.2.1 a ha).1.2.2.2 c hc h2
  rw [h] at e1
  exact Option.some.inj (e1.symm.trans e2)
/-- a plan's length: the line that comes in has at most 4 columns -/
theorem gInv_planLen {g : gG} {gh : gGh} {R AR : gR} {I AI : gI} {a : Nat} (hv : gInv g gh R AR I AI) (ha : gO g a 2) {z : Int} (h0 : 0 ≤ z) (h1 : z ≤ 16) (hn : ∀ b, gO g b 0 → gh 4 b = a → (gh 5 b : Int) < z → (I b 2).toInt ≤ 4) : gInv g gh R AR (gup2 I a 1 (iI z)) AI := by
  obtain ⟨q1, q2, q3, q4, q5, q6, q7, q8⟩ := hv
  have nO : ∀ d, d ≠ 2 → ∀ b, gO g b d → gup2 I a 1 (iI z) b = I b := fun d hd b hb => gup2_o ha hb hd
  refine ⟨vRows_c q1 (nO 4 (by decide)), q2, fun b hb => ?_, fun b hb => ?_, vX_c q5 (nO 6 (by decide)), vPr_c q6 (nO 1 (by decide)), vTk_c q7 (nO 5 (by decide)) (fun _ _ => rfl) (fun _ _ => rfl), vRM_c q8 (nO 7 (by decide)) (fun _ _ => rfl) (fun hb _ _ => ⟨by rw [nO 4 (by decide) _ hb], rfl⟩)⟩
  · have qb := q3 b hb
    rw [nO 0 (by decide) b hb]
    refine ⟨qb.1, qb.2.1, qb.2.2.1, fun hlt => ?_⟩
    by_cases hq : gh 4 b = a
    · rw [hq, gup2_s, iI_val ⟨by omega, by omega⟩] at hlt
      exact hn b hb hq hlt
    · rw [gup2_a _ _ hq] at hlt
      exact qb.2.2.2 hlt
  · obtain ⟨p1, p2, p3, p4, p5⟩ := q4 b hb
    refine ⟨p1, ?_⟩
    rw [gup2_k (j := 2) _ _ (by decide)]
    by_cases hq : b = a
    · subst hq
      rw [gup2_s, iI_val ⟨by omega, by omega⟩]
      exact ⟨h0, h1, p4, p5⟩
    · rw [gup2_a _ _ hq]
      exact ⟨p2, p3, p4, p5⟩
theorem gInv_planTab {g : gG} {gh : gGh} {R AR : gR} {I AI : gI} {a : Nat} (hv : gInv g gh R AR I AI) (ha : gO g a 2) {z : Int} (h0 : 0 ≤ z) (h1 : z ≤ 16) : gInv g gh R AR (gup2 I a 2 (iI z)) AI := by
  obtain ⟨q1, q2, q3, q4, q5, q6, q7, q8⟩ := hv
  have nO : ∀ d, d ≠ 2 → ∀ b, gO g b d → gup2 I a 2 (iI z) b = I b := fun d hd b hb => gup2_o ha hb hd
  refine ⟨vRows_c q1 (nO 4 (by decide)), q2, vLine_c q3 (nO 0 (by decide)) (fun b hb => gup2_k _ _ (by decide)) (fun _ _ => rfl), fun b hb => ?_, vX_c q5 (nO 6 (by decide)), vPr_c q6 (nO 1 (by decide)), vTk_c q7 (nO 5 (by decide)) (fun _ _ => rfl) (fun _ _ => rfl), vRM_c q8 (nO 7 (by decide)) (fun _ _ => rfl) (fun hb _ _ => ⟨by rw [nO 4 (by decide) _ hb], rfl⟩)⟩
  obtain ⟨p1, p2, p3, p4, p5⟩ := q4 b hb
  refine ⟨p1, ?_⟩
  rw [gup2_k (j := 1) _ _ (by decide)]
  by_cases hq : b = a
  · subst hq
    rw [gup2_s, iI_val ⟨by omega, by omega⟩]
    exact ⟨p2, p3, h0, h1⟩
  · rw [gup2_a _ _ hq]
    exact ⟨p2, p3, p4, p5⟩
theorem gup2_e {α : Type} (f : Nat → Nat → α) {a k j : Nat} (v : α) (h : j = k) : gup2 f a k v a j = v := by rw [h, gup2_s]
theorem okPart_test {kd pc c o : Int} {f f' : Nat → Int32} (hk : kd = 1) (h : okPart kd pc f) (h0 : 0 ≤ pc) (hc : 0 ≤ c ∧ c ≤ 3) (ho : -1 ≤ o ∧ o ≤ 3) (e : ∀ j : Nat, (j : Int) < 4 * pc → f' j = f j) (e1 : f' (4 * pc).toNat = iI c) (e2 : f' (4 * pc + 2).toNat = iI o) : okPart kd (pc + 1) f' := by
  refine ⟨fun _ k hk' => ?_, fun q => absurd q (by omega), fun q => absurd q (by omega), fun q => absurd q (by omega)⟩
  by_cases hq : (k : Int) < pc
  · rw [e _ (by omega), e _ (by omega)]
    exact h.1 hk k hq
  · have : (k : Int) = pc := by omega
    rw [show 4 * k = (4 * pc).toNat from by omega, show (4 * pc).toNat + 2 = (4 * pc + 2).toNat from by omega, e1, e2, iI_val ⟨by omega, by omega⟩, iI_val ⟨by omega, by omega⟩]
    omega
theorem okPart_two {kd pc c o : Int} {f f' : Nat → Int32} (hk : kd = 2 ∨ kd = 8 ∨ kd = 3) (h : okPart kd pc f) (h0 : 0 ≤ pc) (h3 : pc ≤ 3) (hc : -1 ≤ c ∧ c ≤ 3) (ho : kd = 3 → 0 ≤ c ∧ 0 ≤ o ∧ o ≤ 3) (hr : zr o) (e : ∀ j : Nat, (j : Int) < 2 * pc → f' j = f j) (e1 : f' (2 * pc).toNat = iI c) (e2 : f' (2 * pc + 1).toNat = iI o) : okPart kd (pc + 1) f' := by
  refine ⟨fun q => absurd q (by omega), fun q => ⟨by omega, fun k hk' => ?_⟩, fun q => ⟨by omega, fun k hk' => ?_⟩, fun q => absurd q (by omega)⟩
  · by_cases hq : (k : Int) < pc
    · rw [e _ (by omega)]
      exact (h.2.1 q).2 k hq
    · have : (k : Int) = pc := by omega
      rw [show 2 * k = (2 * pc).toNat from by omega, e1, iI_val ⟨by omega, by omega⟩]
      omega
  · by_cases hq : (k : Int) < pc
    · rw [e _ (by omega), e _ (by omega)]
      exact (h.2.2.1 q).2 k hq
    · have : (k : Int) = pc := by omega
      rw [show 2 * k = (2 * pc).toNat from by omega, show (2 * pc).toNat + 1 = (2 * pc + 1).toNat from by omega, e1, e2, iI_val ⟨by omega, by omega⟩, iI_val hr]
      have := ho q
      omega
theorem okPart_col {kd pc c : Int} {f f' : Nat → Int32} (hk : kd = 7) (h : okPart kd pc f) (h0 : 0 ≤ pc) (h3 : pc ≤ 2) (hc : 0 ≤ c ∧ c ≤ 3) (e : ∀ j : Nat, (j : Int) < pc → f' j = f j) (e1 : f' pc.toNat = iI c) : okPart kd (pc + 1) f' := by
  refine ⟨fun q => absurd q (by omega), fun q => absurd q (by omega), fun q => absurd q (by omega), fun q => ⟨by omega, fun k hk' => ?_⟩⟩
  by_cases hq : (k : Int) < pc
  · rw [e _ (by omega)]
    exact (h.2.2.2 q).2 k hq
  · have : (k : Int) = pc := by omega
    rw [show k = pc.toNat from by omega, e1, iI_val ⟨by omega, by omega⟩]
    omega
end
section
section GMore2
variable {g : gG} {I : gI} {R : gR} {J : gJ} {AI : gI} {AJ : gJ} {AR : gR}
variable {p : Program} {l : Launch} {e : Env} {Rm : Room} {s : State} {m : MethodId} {args : Array Value} {below : List Frame} {meth : Method} {c : Code} {H : Heap} {locs : List Loc} {cells slots : Nat} {Q : State → Prop}
variable {cc : ByteArray} {pc nL : Nat} {ls : Array Slot} {rest : List Value} {a : Nat} {H0 : Heap} {Ts : List Cond} {own : String}
theorem z_mmin (F : gFix g p c cc nL s args Ts own m) (hls : ls.size = nL) {index : Nat} (m1 : Cond.methodLink own index Lib.Math.min.name ∈ Ts) (m2 : Cond.static Lib.Math.min.name ∈ Ts) (m3 : Cond.initialized "java/lang/Math" ∈ Ts) (m4 : Cond.code Lib.Math.min.name Lib.Math.min.code 2 (some .int) ∈ Ts)
    (hfr : 1 ≤ Rm.frames) (hlo : (rest.map fun v => v.category).sum + 13 ≤ Rm.locals) (hc : cells ≤ Rm.cells) (hs : slots ≤ Rm.slots) {x y : Int} (hx : zr x) (hy : zr y) (hdg : decode cc pc = .ok (.invokestatic index, 3))
    (kk : ∀ v : Int, zr v → (v = x ∨ v = y) ∧ v ≤ x ∧ v ≤ y → W p l e Rm s m args below meth c H locs cells slots Q (F0 m (pc + 3) ls (.int (iI v) :: rest))) : W p l e Rm s m args below meth c H locs cells slots Q (F0 m pc ls (.int (iI y) :: .int (iI x) :: rest)) := by
  obtain ⟨hx0, hb0, hml, hown, hts, hK, -⟩ := F
  refine va_mmin hx0 hb0 (hml.trans hls.symm) hown (hts _ m1) (hts _ m2) (hts _ m3) (hts _ m4) hfr hlo hc hs hdg ?_
  by_cases h : y < x
  · rw [if_pos ((iI_lt hy hx).mpr h)]
    exact kk y hy ⟨Or.inr rfl, by omega, by omega⟩
  · rw [if_neg (fun q => h ((iI_lt hy hx).mp q))]
    exact kk x hx ⟨Or.inl rfl, by omega, by omega⟩
theorem z_mmax (F : gFix g p c cc nL s args Ts own m) (hls : ls.size = nL) {index : Nat} (m1 : Cond.methodLink own index Lib.Math.max.name ∈ Ts) (m2 : Cond.static Lib.Math.max.name ∈ Ts) (m3 : Cond.initialized "java/lang/Math" ∈ Ts) (m4 : Cond.code Lib.Math.max.name Lib.Math.max.code 2 (some .int) ∈ Ts)
    (hfr : 1 ≤ Rm.frames) (hlo : (rest.map fun v => v.category).sum + 13 ≤ Rm.locals) (hc : cells ≤ Rm.cells) (hs : slots ≤ Rm.slots) {x y : Int} (hx : zr x) (hy : zr y) (hdg : decode cc pc = .ok (.invokestatic index, 3))
    (kk : ∀ v : Int, zr v → (v = x ∨ v = y) ∧ x ≤ v ∧ y ≤ v → W p l e Rm s m args below meth c H locs cells slots Q (F0 m (pc + 3) ls (.int (iI v) :: rest))) : W p l e Rm s m args below meth c H locs cells slots Q (F0 m pc ls (.int (iI y) :: .int (iI x) :: rest)) := by
  obtain ⟨hx0, hb0, hml, hown, hts, hK, -⟩ := F
  refine va_mmax hx0 hb0 (hml.trans hls.symm) hown (hts _ m1) (hts _ m2) (hts _ m3) (hts _ m4) hfr hlo hc hs hdg ?_
  by_cases h : x < y
  · rw [if_pos ((iI_lt hx hy).mpr h)]
    exact kk y hy ⟨Or.inr rfl, by omega, by omega⟩
  · rw [if_neg (fun q => h ((iI_lt hx hy).mp q))]
    exact kk x hx ⟨Or.inl rfl, by omega, by omega⟩
theorem z_name {x : Int} (k : ∀ v : Int, v = x → W p l e Rm s m args below meth c H locs cells slots Q (F0 m pc ls (.int (iI v) :: rest))) : W p l e Rm s m args below meth c H locs cells slots Q (F0 m pc ls (.int (iI x) :: rest)) := k x rfl
end GMore2
end
section
section PrInv
variable {g : gG} {gh : gGh} {R AR : gR} {I AI : gI} {a : Nat}
theorem gI_tk (hv : gInv g gh R AR I AI) (ha : gO g a 5) : 0 ≤ (I a 4).toInt ∧ (I a 4).toInt ≤ 901 := (hv.2.2.2.2.2.2.1 a ha).2.2.2.2.1
theorem gR_tk0 (hv : gInv g gh R AR I AI) (ha : gO g a 5) : R a 0 = some (gh 24 0) ∧ gAr g (gh 24 0) 9 901 := ⟨(hv.2.2.2.2.2.2.1 a ha).1.2.1, (hv.2.2.2.2.2.2.1 a ha).1.2.2.1⟩
theorem gR_tk1 (hv : gInv g gh R AR I AI) (ha : gO g a 5) : R a 1 = some (gh 25 0) ∧ gAr g (gh 25 0) 9 901 := ⟨(hv.2.2.2.2.2.2.1 a ha).2.1.1, (hv.2.2.2.2.2.2.1 a ha).2.1.2.1⟩
theorem gR_tk2 (hv : gInv g gh R AR I AI) (ha : gO g a 5) : R a 2 = some (gh 26 0) ∧ gAr g (gh 26 0) 9 901 := ⟨(hv.2.2.2.2.2.2.1 a ha).2.2.1.1, (hv.2.2.2.2.2.2.1 a ha).2.2.1.2.1⟩
theorem gR_tk3 (hv : gInv g gh R AR I AI) (ha : gO g a 5) : R a 3 = some (gh 27 0) ∧ gAr g (gh 27 0) 10 901 := (hv.2.2.2.2.2.2.1 a ha).2.2.2.1
theorem gC_tok (hv : gInv g gh R AR I AI) (ha : gO g a 5) {z : Int} (h0 : 0 ≤ z) (h : z < (I a 4).toInt) (hk : (AI (gh 24 0) z.toNat).toInt = 2) : 0 ≤ (AI (gh 26 0) z.toNat).toInt ∧ (AI (gh 26 0) z.toNat).toInt ≤ 3 := (hv.2.2.2.2.2.2.1 a ha).2.2.2.2.2 z.toNat (by omega) hk
theorem gR_pr0 (hv : gInv g gh R AR I AI) (ha : gO g a 1) : R a 0 = some (gh 22 0) ∧ gO g (gh 22 0) 5 := (hv.2.2.2.2.2.1 a ha).1
theorem gI_pr (hv : gInv g gh R AR I AI) (ha : gO g a 1) : 0 ≤ (I a 3).toInt ∧ (I a 3).toInt ≤ 900 := (hv.2.2.2.2.2.1 a ha).2.2.2
theorem gInv_here (hv : gInv g gh R AR I AI) (ha : gO g a 1) {z : Int} (h0 : 0 ≤ z) (h1 : z ≤ 900) : gInv g gh R AR (gup2 I a 3 (iI z)) AI := by
  obtain ⟨q1, q2, q3, q4, q5, q6, q7, q8⟩ := hv
  have nO : ∀ d, d ≠ 1 → ∀ b, gO g b d → gup2 I a 3 (iI z) b = I b := fun d hd b hb => gup2_o ha hb hd
  refine ⟨vRows_c q1 (nO 4 (by decide)), q2, vLine_c q3 (nO 0 (by decide)) (fun b hb => by rw [nO 2 (by decide) b hb]) (fun _ _ => rfl), vPlan_c q4 (nO 2 (by decide)), vX_c q5 (nO 6 (by decide)), fun b hb => ?_, vTk_c q7 (nO 5 (by decide)) (fun _ _ => rfl) (fun _ _ => rfl), vRM_c q8 (nO 7 (by decide)) (fun _ _ => rfl) (fun hb _ _ => ⟨by rw [nO 4 (by decide) _ hb], rfl⟩)⟩
  obtain ⟨p1, p2, p3, p4⟩ := q6 b hb
  refine ⟨p1, p2, p3, ?_⟩
  by_cases hq : b = a
  · subst hq
    rw [gup2_s, iI_val ⟨by omega, by omega⟩]
    exact ⟨h0, h1⟩
  · rw [gup2_a _ _ hq]
    exact p4
theorem gInv_tokLen (hv : gInv g gh R AR I AI) (ha : gO g a 5) {z : Int} (h0 : 0 ≤ z) (h1 : z ≤ 901) (hc : ∀ j : Nat, (j : Int) < z → (AI (gh 24 0) j).toInt = 2 → 0 ≤ (AI (gh 26 0) j).toInt ∧ (AI (gh 26 0) j).toInt ≤ 3) : gInv g gh R AR (gup2 I a 4 (iI z)) AI := by
  obtain ⟨q1, q2, q3, q4, q5, q6, q7, q8⟩ := hv
  have nO : ∀ d, d ≠ 5 → ∀ b, gO g b d → gup2 I a 4 (iI z) b = I b := fun d hd b hb => gup2_o ha hb hd
  refine ⟨vRows_c q1 (nO 4 (by decide)), q2, vLine_c q3 (nO 0 (by decide)) (fun b hb => by rw [nO 2 (by decide) b hb]) (fun _ _ => rfl), vPlan_c q4 (nO 2 (by decide)), vX_c q5 (nO 6 (by decide)), vPr_c q6 (nO 1 (by decide)), fun b hb => ?_, vRM_c q8 (nO 7 (by decide)) (fun _ _ => rfl) (fun hb _ _ => ⟨by rw [nO 4 (by decide) _ hb], rfl⟩)⟩
  have hq : b = a := (q7 b hb).1.1.trans (q7 a ha).1.1.symm
  subst hq
  have p := q7 b hb
  rw [gup2_s, iI_val ⟨by omega, by omega⟩]
  exact ⟨p.1, p.2.1, p.2.2.1, p.2.2.2.1, ⟨h0, h1⟩, hc⟩
/-- a write to kinds or values behind the last token -/
theorem gInv_tokW {AI' : gI} (hv : gInv g gh R AR I AI) (ha : gO g a 5) {c n : Nat} (hc : gh 9 c = 3 ∧ c = gh 24 0 ∨ gh 9 c = 4 ∧ c = gh 26 0) (e : ∀ b, b ≠ c → AI' b = AI b) (en : n = (I a 4).toInt.toNat) (e1 : ∀ j, j ≠ n → AI' c j = AI c j) : gInv g gh R AR I AI' := by
  obtain ⟨q1, q2, q3, q4, q5, q6, q7, q8⟩ := hv
  have ne : ∀ b k, k ≠ 3 → k ≠ 4 → gh 9 b = k → AI' b = AI b := fun b k h3 h4 hb => e b (fun q => by rcases hc with h | h <;> rw [← q, hb] at h <;> omega)
  refine ⟨q1, vC5_c q2 q1 (fun b hb => ne b 1 (by decide) (by decide) hb), vLine_c q3 (fun _ _ => rfl) (fun _ _ => rfl) (fun b hb => ne b 2 (by decide) (by decide) hb), q4, q5, q6, fun b hb => ?_, vRM_c q8 (fun _ _ => rfl) (fun b hb => ne b 5 (by decide) (by decide) hb) (fun hb _ _ => ⟨rfl, ne _ 1 (by decide) (by decide) (q1 _ hb).1.2.2.1⟩)⟩
  have hq : b = a := (q7 b hb).1.1.trans (q7 a ha).1.1.symm
  subst hq
  have p := q7 b hb
  refine ⟨p.1, p.2.1, p.2.2.1, p.2.2.2.1, p.2.2.2.2.1, fun j hj => ?_⟩
  have hp := p.2.2.2.2.1
  have s : ∀ d, AI' d j = AI d j := fun d => by
    by_cases hd : d = c
    · rw [hd]; exact e1 j (by omega)
    · rw [e d hd]
  rw [s, s]
  exact p.2.2.2.2.2 j hj
/-- the parser a reads into the line ln, the one behind the last of the plan q -/
def pS (g : gG) (gh : gGh) (R : gR) (I : gI) (a q ln : Nat) : Prop := gO g a 1 ∧ R a 1 = some q ∧ gO g q 2 ∧ R a 2 = some ln ∧ gO g ln 0 ∧ gh 4 ln = q ∧ (gh 5 ln : Int) = (I q 1).toInt ∧ (I a 3).toInt < (I (gh 22 0) 4).toInt
def pF (a ln : Nat) (I I' : gI) : Prop := (∀ b, b ≠ a → b ≠ ln → I' b = I b) ∧ I' ln 0 = I ln 0
theorem pF_r {a ln : Nat} {I : gI} : pF a ln I I := ⟨fun _ _ _ => rfl, rfl⟩
theorem pF_t {a ln : Nat} {I I' I'' : gI} (h : pF a ln I I') (h' : pF a ln I' I'') : pF a ln I I'' := ⟨fun b h1 h2 => (h'.1 b h1 h2).trans (h.1 b h1 h2), h'.2.trans h.2⟩
theorem pF_ln {a ln k : Nat} {I : gI} {v : Int32} (hk : k ≠ 0) : pF a ln I (gup2 I ln k v) := ⟨fun b _ h2 => funext fun j => gup2_a _ _ h2, gup2_k _ _ (Ne.symm hk)⟩
theorem pF_o {a ln : Nat} {I I' : gI} (h : ∀ b, b ≠ ln → I' b = I b) (h0 : I' ln 0 = I ln 0) : pF a ln I I' := ⟨fun b _ h2 => h b h2, h0⟩
theorem pS_of {q ln : Nat} {I' : gI} (hv : gInv g gh R AR I AI) (hp : pS g gh R I a q ln) (f : ∀ b, b ≠ a → b ≠ ln → I' b = I b) (hh : (I' a 3).toInt < (I (gh 22 0) 4).toInt) : pS g gh R I' a q ln := by
  obtain ⟨h1, h2, h3, h4, h5, h6, h7, h8⟩ := hp
  refine ⟨h1, h2, h3, h4, h5, h6, ?_, ?_⟩
  · rw [f q (gO_ne h3 h1 (by decide)) (gO_ne h3 h5 (by decide))]; exact h7
  · rw [f (gh 22 0) (gO_ne (gR_pr0 hv h1).2 h1 (by decide)) (gO_ne (gR_pr0 hv h1).2 h5 (by decide))]; exact hh
/-- only the line has changed -/
theorem pS_ln {q ln : Nat} {I' : gI} (hv : gInv g gh R AR I AI) (hp : pS g gh R I a q ln) (f : ∀ b, b ≠ ln → I' b = I b) : pS g gh R I' a q ln :=
  pS_of hv hp (fun b _ h => f b h) (by rw [f a (gO_ne hp.1 hp.2.2.2.2.1 (by decide))]; exact hp.2.2.2.2.2.2.2)
theorem pS_col {q ln : Nat} {z : Int} (hp : pS g gh R I a q ln) : (gh 5 ln : Int) < (I (gh 4 ln) 1).toInt → z ≤ 4 := fun h => by
  rw [hp.2.2.2.2.2.1] at h
  have := hp.2.2.2.2.2.2.1
  omega
end PrInv
theorem z_lcmp {x y : Int64} : (lg_cmp x y).toInt = 0 ↔ x = y := by
  unfold lg_cmp
  rcases lg_tri x y with h | h | h
  · simp only [h, lg_lt_ne h, lg_lt_not h, if_true, if_false]
    decide
  · subst h
    have hn : ¬ x < x := fun q => lg_lt_ne q rfl
    simp [hn]
  · have h2 : ¬ x = y := fun q => lg_lt_ne h q.symm
    simp only [h, h2, lg_lt_not h, if_true, if_false]
    decide
/-- the parser's line -/
theorem gInv_Rline {g : gG} {gh : gGh} {R AR : gR} {I AI : gI} {a b : Nat} (hv : gInv g gh R AR I AI) (ha : gO g a 1) (hb : gO g b 0) : gInv g gh (gup2 R a 2 (some b)) AR I AI := by
  obtain ⟨q1, q2, q3, q4, q5, q6, q7, q8⟩ := hv
  have nO : ∀ d, d ≠ 1 → ∀ q k, gO g q d → gup2 R a 2 (some b) q k = R q k := fun d hd q k hq => gup2_a _ _ (gO_ne hq ha hd)
  refine ⟨fun q hq => ?_, q2, fun q hq => ?_, fun q hq => ?_, fun q hq => ?_, fun q hq => ?_, fun q hq => ?_, ⟨fun q hq => ?_, q8.2⟩⟩
  · rw [nO 4 (by decide) q 2 hq]; exact q1 q hq
  · unfold vLineS; rw [nO 0 (by decide) q 7 hq]; exact q3 q hq
  · rw [nO 2 (by decide) q 0 hq]; exact q4 q hq
  · simp only [nO 6 (by decide) q _ hq]; exact q5 q hq
  · rw [gup2_k (j := 0) _ _ (by decide), gup2_k (j := 1) _ _ (by decide)]
    obtain ⟨p1, p2, p3, p4⟩ := q6 q hq
    refine ⟨p1, p2, ?_, p4⟩
    by_cases e : q = a
    · subst e; rw [gup2_s]; exact ⟨b, rfl, hb⟩
    · rw [gup2_a _ _ e]; exact p3
  · simp only [nO 5 (by decide) q _ hq]; exact q7 q hq
  · simp only [nO 3 (by decide) q _ hq]; exact q8.1 q hq
theorem pS_step {g : gG} {gh : gGh} {R AR : gR} {I I' AI : gI} {a q ln : Nat} (hv : gInv g gh R AR I AI) (hp : pS g gh R I a q ln) (f : ∀ b, b ≠ a → I' b = I b) (hh : (I' a 3).toInt < (I (gh 22 0) 4).toInt) : pS g gh R I' a q ln ∧ pF a ln I I' ∧ I' ln = I ln :=
  ⟨pS_of hv hp (fun b h _ => f b h) hh, ⟨fun b h _ => f b h, by rw [f ln (gO_ne hp.2.2.2.2.1 hp.1 (by decide))]⟩, f ln (gO_ne hp.2.2.2.2.1 hp.1 (by decide))⟩
theorem pF_q {g : gG} {gh : gGh} {R : gR} {I I' I0 : gI} {a q ln : Nat} (hp : pS g gh R I0 a q ln) (pf : pF a ln I I') : I' q = I q := pf.1 q (gO_ne hp.2.2.1 hp.1 (by decide)) (gO_ne hp.2.2.1 hp.2.2.2.2.1 (by decide))
theorem pG_t {a ln : Nat} {I I' I'' : gI} (h : ∀ b, b ≠ a → b ≠ ln → I' b = I b) (h' : ∀ b, b ≠ a → b ≠ ln → I'' b = I' b) : ∀ b, b ≠ a → b ≠ ln → I'' b = I b := fun b h1 h2 => (h' b h1 h2).trans (h b h1 h2)
end
section
theorem sTab_all : ∀ q ∈ sTab, q.2.2.2.length ≤ 200 := by decide +kernel
theorem sTab_len {i : Nat} {q : String × Nat × String × List Int32} (h : sTab[i]? = some q) : q.2.2.2.length ≤ 200 := sTab_all q (List.mem_of_getElem? h)
theorem nar_byte {z : Int} (h0 : -128 ≤ z) (h1 : z ≤ 127) : narrow .byte (.int (iI z)) = .int (iI z) := by
  have h : (iI z).toInt8.toInt32 = iI z := lg_i2b_small (by rw [iI_val ⟨by omega, by omega⟩]; omega) (by rw [iI_val ⟨by omega, by omega⟩]; omega)
  have h2 := pk_nb (iI z)
  rwa [h] at h2
theorem nar_char {z : Int} (h0 : 0 ≤ z) (h1 : z ≤ 65535) : narrow .char (.int (iI z)) = .int (iI z) := by
  rw [iI_nI h0]
  exact (pk_charN (q := z.toNat) (by omega)).1
theorem z_i2c {x : Int32} {v : Int} (e : v = ((x.toUInt32 % 65536).toInt32).toInt) : 0 ≤ v ∧ v ≤ 65535 := by
  rw [pk_char] at e
  rw [nI_toInt (by omega)] at e
  omega
section GStr
variable {g : gG} {p : Program} {l : Launch} {e : Env} {Rm : Room} {s : State} {m : MethodId} {args : Array Value} {below : List Frame} {meth : Method} {c : Code} {H : Heap} {locs : List Loc} {cells slots : Nat} {Q : State → Prop}
variable {cc : ByteArray} {pc nL : Nat} {ls : Array Slot} {rest : List Value} {Ts : List Cond} {own : String}
theorem z_ishr0 (F : gFix g p c cc nL s args Ts own m) {x : Int} (hdg : decode cc pc = .ok (.ishr, 1)) (k : W p l e Rm s m args below meth c H locs cells slots Q (F0 m (pc + 1) ls (.int (iI x) :: rest))) : W p l e Rm s m args below meth c H locs cells slots Q (F0 m pc ls (.int (iI 0) :: .int (iI x) :: rest)) := by
  refine lv_ishr F.1 F.2.1 hdg ?_
  have h := sb_shr0 (iI x)
  first
    | (rw [show (iI x) >>> ((iI 0) &&& 31) = iI x from h]; exact k)
    | (rw [show (iI x) >>> (iI 0) = iI x from by rw [iI_0]; simp]; exact k)
end GStr
end
section
def rmJ0_coder_7d493 : Room := { frames := 0, cells := 0, slots := 0, locals := 0 }
theorem hdJ0_coder_7d493 : yJ0_coder_7d493.cls = RJ0 ∧ yJ0_coder_7d493.cls ≠ "java/lang/invoke/MethodHandle" ∧ yJ0_coder_7d493.cls ≠ "java/lang/invoke/VarHandle" ∧ (parseMethodDescriptor yJ0_coder_7d493.desc).map (fun d => d.parameters.length) = some 0 := by decide +kernel
set_option maxHeartbeats 4000000 in
set_option maxRecDepth 100000 in
theorem c_J0_coder_7d493 (l : Launch) (g : gG) (i : Nat) (q : String × Nat × String × List Int32) (I : gI) (R : gR) (J : gJ) (AI : gI) (AJ : gJ) (AR : gR)  (hq : sTab[i]? = some q) : gMet l g yJ0_coder_7d493 wsJ0_coder_7d493 rmJ0_coder_7d493 [.ref (gSK g i)] (I, R, J, AI, AJ, AR) (gQi g (fun (z : Int) (w : gS) => I = w.1 ∧ R = w.2.1 ∧ J = w.2.2.1 ∧ AI = w.2.2.2.1 ∧ AJ = w.2.2.2.2.1 ∧ AR = w.2.2.2.2.2 ∧ (z = 0))) := by
  refine gStart (cc := cJ0_coder_7d493) (maxL := 1) (ret := (some (.byte))) (by decide) rfl (Nat.le_of_ble_eq_true rfl) ?_
  intro p e s m below meth c ls F hr hlk hH hz hS hl
  have hl : lv_has ls 1 [(0, .ref (gSK g i))] := hl
  have hS : va_S (gA g) s.heap s.heap [] := hS
  obtain ⟨H, hHe⟩ : ∃ H : Heap, H = s.heap := ⟨_, rfl⟩
  obtain ⟨locs, hlo⟩ : ∃ k : List Loc, k = [] := ⟨_, rfl⟩
  have hH : gH g I R J AI AJ AR H := by rw [hHe]; exact hH
  have hS : va_S (gA g) s.heap H locs := by rw [hHe, hlo]; exact hS
  suffices hw : W p l e rmJ0_coder_7d493 s m ([.ref (gSK g i)] : List Value).toArray below meth c H locs 0 0 (MQ below (gQi g (fun (z : Int) (w : gS) => I = w.1 ∧ R = w.2.1 ∧ J = w.2.2.1 ∧ AI = w.2.2.2.1 ∧ AJ = w.2.2.2.2.1 ∧ AR = w.2.2.2.2.2 ∧ (z = 0))) ([.ref (gSK g i)] : List Value).toArray s 0 0 (gA g)) (F0 m 0 ls []) by
    rw [hHe, hlo] at hw; exact hw
  clear hHe hlo
  have hlen := sTab_len hq
  refine va_gets F.1 F.2.1 F.2.2.2.2.2.2.2.1 hS F.2.2.2.1 (F.2.2.2.2.1 _ (List.mem_of_getElem? (i := 1) rfl)) (fun _ h => h) dJ0_coder_7d493_0 ?_
  refine z_if_eq (tgt := 13) F dJ0_coder_7d493_3 (by decide) ⟨by decide, by decide⟩ (fun c_1 => ?_) (fun c_1 => ?_)
  · exact absurd trivial (by omega)
  · refine lv_aload_n F.1 F.2.1 dJ0_coder_7d493_6 rfl (lv_at hl 0 rfl) ?_
    refine vk_getf F.1 F.2.1 (F.2.2.2.2.2.2.1 i _ hq).2.2.1 hS F.2.2.2.1 (F.2.2.2.2.1 _ (List.mem_of_getElem? (i := 2) rfl)) (fun _ h => h) dJ0_coder_7d493_7 ?_
    refine z_goto (tgt := 14) F dJ0_coder_7d493_10 (by decide) ?_
    exact g_nret F hr hlk hH hS hz (nar_byte (by omega) (by omega)) ⟨by decide, by decide⟩ ⟨rfl, rfl, rfl, rfl, rfl, rfl, rfl⟩ dJ0_coder_7d493_14

def rmJ0_isLatin1_aae02 : Room := { frames := 0, cells := 0, slots := 0, locals := 0 }
theorem hdJ0_isLatin1_aae02 : yJ0_isLatin1_aae02.cls = RJ0 ∧ yJ0_isLatin1_aae02.cls ≠ "java/lang/invoke/MethodHandle" ∧ yJ0_isLatin1_aae02.cls ≠ "java/lang/invoke/VarHandle" ∧ (parseMethodDescriptor yJ0_isLatin1_aae02.desc).map (fun d => d.parameters.length) = some 0 := by decide +kernel
set_option maxHeartbeats 4000000 in
set_option maxRecDepth 100000 in
theorem c_J0_isLatin1_aae02 (l : Launch) (g : gG) (i : Nat) (q : String × Nat × String × List Int32) (I : gI) (R : gR) (J : gJ) (AI : gI) (AJ : gJ) (AR : gR)  (hq : sTab[i]? = some q) : gMet l g yJ0_isLatin1_aae02 wsJ0_isLatin1_aae02 rmJ0_isLatin1_aae02 [.ref (gSK g i)] (I, R, J, AI, AJ, AR) (gQi g (fun (z : Int) (w : gS) => I = w.1 ∧ R = w.2.1 ∧ J = w.2.2.1 ∧ AI = w.2.2.2.1 ∧ AJ = w.2.2.2.2.1 ∧ AR = w.2.2.2.2.2 ∧ (z = 1))) := by
  refine gStart (cc := cJ0_isLatin1_aae02) (maxL := 1) (ret := (some (.boolean))) (by decide) rfl (Nat.le_of_ble_eq_true rfl) ?_
  intro p e s m below meth c ls F hr hlk hH hz hS hl
  have hl : lv_has ls 1 [(0, .ref (gSK g i))] := hl
  have hS : va_S (gA g) s.heap s.heap [] := hS
  obtain ⟨H, hHe⟩ : ∃ H : Heap, H = s.heap := ⟨_, rfl⟩
  obtain ⟨locs, hlo⟩ : ∃ k : List Loc, k = [] := ⟨_, rfl⟩
  have hH : gH g I R J AI AJ AR H := by rw [hHe]; exact hH
  have hS : va_S (gA g) s.heap H locs := by rw [hHe, hlo]; exact hS
  suffices hw : W p l e rmJ0_isLatin1_aae02 s m ([.ref (gSK g i)] : List Value).toArray below meth c H locs 0 0 (MQ below (gQi g (fun (z : Int) (w : gS) => I = w.1 ∧ R = w.2.1 ∧ J = w.2.2.1 ∧ AI = w.2.2.2.1 ∧ AJ = w.2.2.2.2.1 ∧ AR = w.2.2.2.2.2 ∧ (z = 1))) ([.ref (gSK g i)] : List Value).toArray s 0 0 (gA g)) (F0 m 0 ls []) by
    rw [hHe, hlo] at hw; exact hw
  clear hHe hlo
  have hlen := sTab_len hq
  refine va_gets F.1 F.2.1 F.2.2.2.2.2.2.2.1 hS F.2.2.2.1 (F.2.2.2.2.1 _ (List.mem_of_getElem? (i := 1) rfl)) (fun _ h => h) dJ0_isLatin1_aae02_0 ?_
  refine z_if_eq (tgt := 17) F dJ0_isLatin1_aae02_3 (by decide) ⟨by decide, by decide⟩ (fun c_1 => ?_) (fun c_1 => ?_)
  · exact absurd trivial (by omega)
  · refine lv_aload_n F.1 F.2.1 dJ0_isLatin1_aae02_6 rfl (lv_at hl 0 rfl) ?_
    refine vk_getf F.1 F.2.1 (F.2.2.2.2.2.2.1 i _ hq).2.2.1 hS F.2.2.2.1 (F.2.2.2.2.1 _ (List.mem_of_getElem? (i := 2) rfl)) (fun _ h => h) dJ0_isLatin1_aae02_7 ?_
    refine z_if_ne (tgt := 17) F dJ0_isLatin1_aae02_10 (by decide) ⟨by decide, by decide⟩ (fun c_2 => ?_) (fun c_2 => ?_)
    · exact absurd trivial (by omega)
    · refine z_iconst F dJ0_isLatin1_aae02_13 ?_
      refine z_goto (tgt := 18) F dJ0_isLatin1_aae02_14 (by decide) ?_
      exact g_zret F hr hlk hH hS hz (by omega) ⟨rfl, rfl, rfl, rfl, rfl, rfl, rfl⟩ dJ0_isLatin1_aae02_18

def rmJ0_length_8abf5 : Room := { frames := 1, cells := 0, slots := 0, locals := 20 }
theorem hdJ0_length_8abf5 : yJ0_length_8abf5.cls = RJ0 ∧ yJ0_length_8abf5.cls ≠ "java/lang/invoke/MethodHandle" ∧ yJ0_length_8abf5.cls ≠ "java/lang/invoke/VarHandle" ∧ (parseMethodDescriptor yJ0_length_8abf5.desc).map (fun d => d.parameters.length) = some 0 := by decide +kernel
set_option maxHeartbeats 4000000 in
set_option maxRecDepth 100000 in
theorem c_J0_length_8abf5 (l : Launch) (g : gG) (i : Nat) (q : String × Nat × String × List Int32) (I : gI) (R : gR) (J : gJ) (AI : gI) (AJ : gJ) (AR : gR)  (hq : sTab[i]? = some q) : gMet l g yJ0_length_8abf5 wsJ0_length_8abf5 rmJ0_length_8abf5 [.ref (gSK g i)] (I, R, J, AI, AJ, AR) (gQi g (fun (z : Int) (w : gS) => I = w.1 ∧ R = w.2.1 ∧ J = w.2.2.1 ∧ AI = w.2.2.2.1 ∧ AJ = w.2.2.2.2.1 ∧ AR = w.2.2.2.2.2 ∧ (z = ((q.2.2.2.length : Nat) : Int)))) := by
  refine gStart (cc := cJ0_length_8abf5) (maxL := 1) (ret := (some (.int))) (by decide) rfl (Nat.le_of_ble_eq_true rfl) ?_
  intro p e s m below meth c ls F hr hlk hH hz hS hl
  have hl : lv_has ls 1 [(0, .ref (gSK g i))] := hl
  have hS : va_S (gA g) s.heap s.heap [] := hS
  obtain ⟨H, hHe⟩ : ∃ H : Heap, H = s.heap := ⟨_, rfl⟩
  obtain ⟨locs, hlo⟩ : ∃ k : List Loc, k = [] := ⟨_, rfl⟩
  have hH : gH g I R J AI AJ AR H := by rw [hHe]; exact hH
  have hS : va_S (gA g) s.heap H locs := by rw [hHe, hlo]; exact hS
  suffices hw : W p l e rmJ0_length_8abf5 s m ([.ref (gSK g i)] : List Value).toArray below meth c H locs 0 0 (MQ below (gQi g (fun (z : Int) (w : gS) => I = w.1 ∧ R = w.2.1 ∧ J = w.2.2.1 ∧ AI = w.2.2.2.1 ∧ AJ = w.2.2.2.2.1 ∧ AR = w.2.2.2.2.2 ∧ (z = ((q.2.2.2.length : Nat) : Int)))) ([.ref (gSK g i)] : List Value).toArray s 0 0 (gA g)) (F0 m 0 ls []) by
    rw [hHe, hlo] at hw; exact hw
  clear hHe hlo
  have hlen := sTab_len hq
  refine lv_aload_n F.1 F.2.1 dJ0_length_8abf5_0 rfl (lv_at hl 0 rfl) ?_
  refine vk_getf F.1 F.2.1 (F.2.2.2.2.2.2.1 i _ hq).2.2.2.1 hS F.2.2.2.1 (F.2.2.2.2.1 _ (List.mem_of_getElem? (i := 1) rfl)) (fun _ h => h) dJ0_length_8abf5_1 ?_
  refine va_tlen F.1 F.2.1 (F.2.2.2.2.2.2.1 i _ hq).2.2.2.2 hS (v := iI ((q.2.2.2.length : Nat) : Int)) (Int32.ofInt_eq_ofNat).symm dJ0_length_8abf5_4 ?_
  refine lv_aload_n F.1 F.2.1 dJ0_length_8abf5_5 rfl (lv_at hl 0 rfl) ?_
  refine g_calli (g_runVS (As := []) (rest := [.int (iI (((q.2.2.2.length : Nat) : Int)))]) F hl.1 hH hS hz hq (c_J0_coder_7d493 l g i q I R J AI AJ AR  hq) (cwV 0 F.2.2.2.2.1 gJ0_length_8abf5_J0_coder_7d493 rfl rfl rfl hdJ0_coder_7d493 ⟨Nat.le_of_ble_eq_true rfl, Nat.le_of_ble_eq_true rfl⟩) rfl rfl (Nat.le_of_ble_eq_true rfl) dJ0_length_8abf5_6 ⟨Nat.zero_le _, Nat.zero_le _⟩) hS (fun v_7 I_1 R_2 J_3 AI_4 AJ_5 AR_6 H locs zv_7 hp_8 hH hS => ?_)
  dsimp only at hp_8
  obtain ⟨rfl, rfl, rfl, rfl, rfl, rfl, q_9⟩ := hp_8
  subst q_9
  refine z_ishr0 F dJ0_length_8abf5_9 ?_
  exact g_iret F hr hlk hH hS hz ⟨by omega, by omega⟩ ⟨rfl, rfl, rfl, rfl, rfl, rfl, rfl⟩ dJ0_length_8abf5_10

def rmJ3_checkIndex_8e157n : Room := { frames := 0, cells := 0, slots := 0, locals := 0 }
set_option maxHeartbeats 4000000 in
set_option maxRecDepth 100000 in
theorem c_J3_checkIndex_8e157n (l : Launch) (g : gG)  (I : gI) (R : gR) (J : gJ) (AI : gI) (AJ : gJ) (AR : gR) (k : Int) (n : Int) (zk : zr k) (zn : zr n) (h0 : 0 ≤ k) (h1 : k < n) : gMet l g yJ3_checkIndex_8e157 wsJ3_checkIndex_8e157 rmJ3_checkIndex_8e157n [.int (iI k), .int (iI n), .null] (I, R, J, AI, AJ, AR) (gQi g (fun (z : Int) (w : gS) => I = w.1 ∧ R = w.2.1 ∧ J = w.2.2.1 ∧ AI = w.2.2.2.1 ∧ AJ = w.2.2.2.2.1 ∧ AR = w.2.2.2.2.2)) := by
  refine gStart (cc := cJ3_checkIndex_8e157) (maxL := 3) (ret := (some (.int))) (by decide) rfl (Nat.le_of_ble_eq_true rfl) ?_
  intro p e s m below meth c ls F hr hlk hH hz hS hl
  have hl : lv_has ls 3 [(0, .int (iI k)), (1, .int (iI n)), (2, .null)] := hl
  have hS : va_S (gA g) s.heap s.heap [] := hS
  obtain ⟨H, hHe⟩ : ∃ H : Heap, H = s.heap := ⟨_, rfl⟩
  obtain ⟨locs, hlo⟩ : ∃ k : List Loc, k = [] := ⟨_, rfl⟩
  have hH : gH g I R J AI AJ AR H := by rw [hHe]; exact hH
  have hS : va_S (gA g) s.heap H locs := by rw [hHe, hlo]; exact hS
  suffices hw : W p l e rmJ3_checkIndex_8e157n s m ([.int (iI k), .int (iI n), .null] : List Value).toArray below meth c H locs 0 0 (MQ below (gQi g (fun (z : Int) (w : gS) => I = w.1 ∧ R = w.2.1 ∧ J = w.2.2.1 ∧ AI = w.2.2.2.1 ∧ AJ = w.2.2.2.2.1 ∧ AR = w.2.2.2.2.2)) ([.int (iI k), .int (iI n), .null] : List Value).toArray s 0 0 (gA g)) (F0 m 0 ls []) by
    rw [hHe, hlo] at hw; exact hw
  clear hHe hlo
  refine lv_iload_n F.1 F.2.1 dJ3_checkIndex_8e157_0 rfl (lv_at hl 0 rfl) ?_
  refine z_if_lt (tgt := 9) F dJ3_checkIndex_8e157_1 (by decide) zk (fun c_1 => ?_) (fun c_1 => ?_)
  · exact absurd trivial (by omega)
  · refine lv_iload_n F.1 F.2.1 dJ3_checkIndex_8e157_4 rfl (lv_at hl 0 rfl) ?_
    refine lv_iload_n F.1 F.2.1 dJ3_checkIndex_8e157_5 rfl (lv_at hl 1 rfl) ?_
    refine z_icmp_lt (tgt := 16) F dJ3_checkIndex_8e157_6 (by decide) zk zn (fun c_2 => ?_) (fun c_2 => ?_)
    · refine lv_iload_n F.1 F.2.1 dJ3_checkIndex_8e157_16 rfl (lv_at hl 0 rfl) ?_
      exact g_iret F hr hlk hH hS hz zk ⟨rfl, rfl, rfl, rfl, rfl, rfl⟩ dJ3_checkIndex_8e157_17
    · exact absurd trivial (by omega)

def rmJ3_checkIndex_8e157 : Room := { frames := 0, cells := 0, slots := 0, locals := 0 }
theorem hdJ3_checkIndex_8e157 : yJ3_checkIndex_8e157.cls = RJ3 ∧ yJ3_checkIndex_8e157.cls ≠ "java/lang/invoke/MethodHandle" ∧ yJ3_checkIndex_8e157.cls ≠ "java/lang/invoke/VarHandle" ∧ (parseMethodDescriptor yJ3_checkIndex_8e157.desc).map (fun d => d.parameters.length) = some 3 := by decide +kernel
set_option maxHeartbeats 4000000 in
set_option maxRecDepth 100000 in
theorem c_J3_checkIndex_8e157 (l : Launch) (g : gG)  (I : gI) (R : gR) (J : gJ) (AI : gI) (AJ : gJ) (AR : gR) (k : Int) (n : Int) (f : Nat) (zk : zr k) (zn : zr n) (h0 : 0 ≤ k) (h1 : k < n) : gMet l g yJ3_checkIndex_8e157 wsJ3_checkIndex_8e157 rmJ3_checkIndex_8e157 [.int (iI k), .int (iI n), .ref f] (I, R, J, AI, AJ, AR) (gQi g (fun (z : Int) (w : gS) => I = w.1 ∧ R = w.2.1 ∧ J = w.2.2.1 ∧ AI = w.2.2.2.1 ∧ AJ = w.2.2.2.2.1 ∧ AR = w.2.2.2.2.2)) := by
  refine gStart (cc := cJ3_checkIndex_8e157) (maxL := 3) (ret := (some (.int))) (by decide) rfl (Nat.le_of_ble_eq_true rfl) ?_
  intro p e s m below meth c ls F hr hlk hH hz hS hl
  have hl : lv_has ls 3 [(0, .int (iI k)), (1, .int (iI n)), (2, .ref f)] := hl
  have hS : va_S (gA g) s.heap s.heap [] := hS
  obtain ⟨H, hHe⟩ : ∃ H : Heap, H = s.heap := ⟨_, rfl⟩
  obtain ⟨locs, hlo⟩ : ∃ k : List Loc, k = [] := ⟨_, rfl⟩
  have hH : gH g I R J AI AJ AR H := by rw [hHe]; exact hH
  have hS : va_S (gA g) s.heap H locs := by rw [hHe, hlo]; exact hS
  suffices hw : W p l e rmJ3_checkIndex_8e157 s m ([.int (iI k), .int (iI n), .ref f] : List Value).toArray below meth c H locs 0 0 (MQ below (gQi g (fun (z : Int) (w : gS) => I = w.1 ∧ R = w.2.1 ∧ J = w.2.2.1 ∧ AI = w.2.2.2.1 ∧ AJ = w.2.2.2.2.1 ∧ AR = w.2.2.2.2.2)) ([.int (iI k), .int (iI n), .ref f] : List Value).toArray s 0 0 (gA g)) (F0 m 0 ls []) by
    rw [hHe, hlo] at hw; exact hw
  clear hHe hlo
  refine lv_iload_n F.1 F.2.1 dJ3_checkIndex_8e157_0 rfl (lv_at hl 0 rfl) ?_
  refine z_if_lt (tgt := 9) F dJ3_checkIndex_8e157_1 (by decide) zk (fun c_1 => ?_) (fun c_1 => ?_)
  · exact absurd trivial (by omega)
  · refine lv_iload_n F.1 F.2.1 dJ3_checkIndex_8e157_4 rfl (lv_at hl 0 rfl) ?_
    refine lv_iload_n F.1 F.2.1 dJ3_checkIndex_8e157_5 rfl (lv_at hl 1 rfl) ?_
    refine z_icmp_lt (tgt := 16) F dJ3_checkIndex_8e157_6 (by decide) zk zn (fun c_2 => ?_) (fun c_2 => ?_)
    · refine lv_iload_n F.1 F.2.1 dJ3_checkIndex_8e157_16 rfl (lv_at hl 0 rfl) ?_
      exact g_iret F hr hlk hH hS hz zk ⟨rfl, rfl, rfl, rfl, rfl, rfl⟩ dJ3_checkIndex_8e157_17
    · exact absurd trivial (by omega)

def rmJ0_checkIndex_df160 : Room := { frames := 1, cells := 0, slots := 0, locals := 22 }
theorem hdJ0_checkIndex_df160 : yJ0_checkIndex_df160.cls = RJ0 ∧ yJ0_checkIndex_df160.cls ≠ "java/lang/invoke/MethodHandle" ∧ yJ0_checkIndex_df160.cls ≠ "java/lang/invoke/VarHandle" ∧ (parseMethodDescriptor yJ0_checkIndex_df160.desc).map (fun d => d.parameters.length) = some 2 := by decide +kernel
set_option maxHeartbeats 4000000 in
set_option maxRecDepth 100000 in
theorem c_J0_checkIndex_df160 (l : Launch) (g : gG)  (I : gI) (R : gR) (J : gJ) (AI : gI) (AJ : gJ) (AR : gR) (k : Int) (n : Int) (zk : zr k) (zn : zr n) (h0 : 0 ≤ k) (h1 : k < n) : gMet l g yJ0_checkIndex_df160 wsJ0_checkIndex_df160 rmJ0_checkIndex_df160 [.int (iI k), .int (iI n)] (I, R, J, AI, AJ, AR) (gQv g (fun w : gS => I = w.1 ∧ R = w.2.1 ∧ J = w.2.2.1 ∧ AI = w.2.2.2.1 ∧ AJ = w.2.2.2.2.1 ∧ AR = w.2.2.2.2.2)) := by
  refine gStart (cc := cJ0_checkIndex_df160) (maxL := 2) (ret := none) (by decide) rfl (Nat.le_of_ble_eq_true rfl) ?_
  intro p e s m below meth c ls F hr hlk hH hz hS hl
  have hl : lv_has ls 2 [(0, .int (iI k)), (1, .int (iI n))] := hl
  have hS : va_S (gA g) s.heap s.heap [] := hS
  obtain ⟨H, hHe⟩ : ∃ H : Heap, H = s.heap := ⟨_, rfl⟩
  obtain ⟨locs, hlo⟩ : ∃ k : List Loc, k = [] := ⟨_, rfl⟩
  have hH : gH g I R J AI AJ AR H := by rw [hHe]; exact hH
  have hS : va_S (gA g) s.heap H locs := by rw [hHe, hlo]; exact hS
  suffices hw : W p l e rmJ0_checkIndex_df160 s m ([.int (iI k), .int (iI n)] : List Value).toArray below meth c H locs 0 0 (MQ below (gQv g (fun w : gS => I = w.1 ∧ R = w.2.1 ∧ J = w.2.2.1 ∧ AI = w.2.2.2.1 ∧ AJ = w.2.2.2.2.1 ∧ AR = w.2.2.2.2.2)) ([.int (iI k), .int (iI n)] : List Value).toArray s 0 0 (gA g)) (F0 m 0 ls []) by
    rw [hHe, hlo] at hw; exact hw
  clear hHe hlo
  refine lv_iload_n F.1 F.2.1 dJ0_checkIndex_df160_0 rfl (lv_at hl 0 rfl) ?_
  refine lv_iload_n F.1 F.2.1 dJ0_checkIndex_df160_1 rfl (lv_at hl 1 rfl) ?_
  rcases F.2.2.2.2.2.2.2.2 with hz0 | ⟨t0, hz0⟩
  · refine va_gets F.1 F.2.1 hz0 hS F.2.2.2.1 (F.2.2.2.2.1 _ (List.mem_of_getElem? (i := 1) rfl)) (fun _ h => h) dJ0_checkIndex_df160_2 ?_
    refine g_calli (g_runS (As := [.int (iI k), .int (iI n), .null]) (rest := []) F hl.1 hH hS hz (c_J3_checkIndex_8e157n l g  I R J AI AJ AR k n zk zn (by omega) (by omega)) (va_cwS 3 F.2.2.2.2.1 gJ0_checkIndex_df160_J3_checkIndex_8e157 rfl rfl rfl hdJ3_checkIndex_8e157.2 ⟨Nat.le_of_ble_eq_true rfl, Nat.le_of_ble_eq_true rfl⟩) rfl rfl (Nat.le_of_ble_eq_true rfl) dJ0_checkIndex_df160_5 ⟨Nat.zero_le _, Nat.zero_le _⟩) hS (fun v_7 I_1 R_2 J_3 AI_4 AJ_5 AR_6 H locs zv_7 hp_8 hH hS => ?_)
    dsimp only at hp_8
    obtain ⟨rfl, rfl, rfl, rfl, rfl, rfl⟩ := hp_8
    refine lv_pop F.1 F.2.1 dJ0_checkIndex_df160_8 rfl ?_
    exact g_vret F hr hlk hH hS hz ⟨rfl, rfl, rfl, rfl, rfl, rfl⟩ dJ0_checkIndex_df160_9
  · refine va_gets F.1 F.2.1 hz0 hS F.2.2.2.1 (F.2.2.2.2.1 _ (List.mem_of_getElem? (i := 1) rfl)) (fun _ h => h) dJ0_checkIndex_df160_2 ?_
    refine g_calli (g_runS (As := [.int (iI k), .int (iI n), .ref t0]) (rest := []) F hl.1 hH hS hz (c_J3_checkIndex_8e157 l g  I R J AI AJ AR k n t0 zk zn (by omega) (by omega)) (va_cwS 3 F.2.2.2.2.1 gJ0_checkIndex_df160_J3_checkIndex_8e157 rfl rfl rfl hdJ3_checkIndex_8e157.2 ⟨Nat.le_of_ble_eq_true rfl, Nat.le_of_ble_eq_true rfl⟩) rfl rfl (Nat.le_of_ble_eq_true rfl) dJ0_checkIndex_df160_5 ⟨Nat.zero_le _, Nat.zero_le _⟩) hS (fun v_15 I_9 R_10 J_11 AI_12 AJ_13 AR_14 H locs zv_15 hp_16 hH hS => ?_)
    dsimp only at hp_16
    obtain ⟨rfl, rfl, rfl, rfl, rfl, rfl⟩ := hp_16
    refine lv_pop F.1 F.2.1 dJ0_checkIndex_df160_8 rfl ?_
    exact g_vret F hr hlk hH hS hz ⟨rfl, rfl, rfl, rfl, rfl, rfl⟩ dJ0_checkIndex_df160_9

theorem hdJ1_charAt_3b067 : yJ1_charAt_3b067.cls = RJ1 ∧ yJ1_charAt_3b067.cls ≠ "java/lang/invoke/MethodHandle" ∧ yJ1_charAt_3b067.cls ≠ "java/lang/invoke/VarHandle" ∧ (parseMethodDescriptor yJ1_charAt_3b067.desc).map (fun d => d.parameters.length) = some 2 := by decide +kernel
theorem hdJ0_charAt_5068e : yJ0_charAt_5068e.cls = RJ0 ∧ yJ0_charAt_5068e.cls ≠ "java/lang/invoke/MethodHandle" ∧ yJ0_charAt_5068e.cls ≠ "java/lang/invoke/VarHandle" ∧ (parseMethodDescriptor yJ0_charAt_5068e.desc).map (fun d => d.parameters.length) = some 1 := by decide +kernel
theorem hdJ1_canEncode_9a6ad : yJ1_canEncode_9a6ad.cls = RJ1 ∧ yJ1_canEncode_9a6ad.cls ≠ "java/lang/invoke/MethodHandle" ∧ yJ1_canEncode_9a6ad.cls ≠ "java/lang/invoke/VarHandle" ∧ (parseMethodDescriptor yJ1_canEncode_9a6ad.desc).map (fun d => d.parameters.length) = some 1 := by decide +kernel
theorem hdJ1_indexOfChar_4cfef : yJ1_indexOfChar_4cfef.cls = RJ1 ∧ yJ1_indexOfChar_4cfef.cls ≠ "java/lang/invoke/MethodHandle" ∧ yJ1_indexOfChar_4cfef.cls ≠ "java/lang/invoke/VarHandle" ∧ (parseMethodDescriptor yJ1_indexOfChar_4cfef.desc).map (fun d => d.parameters.length) = some 4 := by decide +kernel
theorem hdJ1_indexOf_4cfef : yJ1_indexOf_4cfef.cls = RJ1 ∧ yJ1_indexOf_4cfef.cls ≠ "java/lang/invoke/MethodHandle" ∧ yJ1_indexOf_4cfef.cls ≠ "java/lang/invoke/VarHandle" ∧ (parseMethodDescriptor yJ1_indexOf_4cfef.desc).map (fun d => d.parameters.length) = some 4 := by decide +kernel
theorem hdJ0_indexOf_7cf53 : yJ0_indexOf_7cf53.cls = RJ0 ∧ yJ0_indexOf_7cf53.cls ≠ "java/lang/invoke/MethodHandle" ∧ yJ0_indexOf_7cf53.cls ≠ "java/lang/invoke/VarHandle" ∧ (parseMethodDescriptor yJ0_indexOf_7cf53.desc).map (fun d => d.parameters.length) = some 2 := by decide +kernel
theorem hdJ0_indexOf_0f7a4 : yJ0_indexOf_0f7a4.cls = RJ0 ∧ yJ0_indexOf_0f7a4.cls ≠ "java/lang/invoke/MethodHandle" ∧ yJ0_indexOf_0f7a4.cls ≠ "java/lang/invoke/VarHandle" ∧ (parseMethodDescriptor yJ0_indexOf_0f7a4.desc).map (fun d => d.parameters.length) = some 1 := by decide +kernel
end
section
def rmX4_cell : Room := { frames := 0, cells := 0, slots := 0, locals := 0 }
theorem hdX4_cell : yX4_cell.cls = RX4 ∧ yX4_cell.cls ≠ "java/lang/invoke/MethodHandle" ∧ yX4_cell.cls ≠ "java/lang/invoke/VarHandle" ∧ (parseMethodDescriptor yX4_cell.desc).map (fun d => d.parameters.length) = some 2 := by decide +kernel
set_option maxHeartbeats 4000000 in
set_option maxRecDepth 100000 in
/-- the cell at a row and a place -/
theorem c_X4_cell (l : Launch) (g : gG) (gh : gGh) (I : gI) (R : gR) (J : gJ) (AI : gI) (AJ : gJ) (AR : gR) (a : Nat) (row : Int) (place : Int) (zrow : zr row) (zplace : zr place) (hv : gInv g gh R AR I AI) (ha : gO g a 4) (h0 : 0 ≤ row) (h1 : row < (gh 1 a : Int)) (h2 : 0 ≤ place) (h3 : place ≤ 5) : gMet l g yX4_cell wsX4_cell rmX4_cell [.ref a, .int (iI row), .int (iI place)] (I, R, J, AI, AJ, AR) (gQi g (fun (z : Int) (w : gS) => I = w.1 ∧ R = w.2.1 ∧ J = w.2.2.1 ∧ AI = w.2.2.2.1 ∧ AJ = w.2.2.2.2.1 ∧ AR = w.2.2.2.2.2 ∧ (z = (AI (gh 0 a) (row * 6 + place).toNat).toInt))) := by
  refine gStart (cc := cX4_cell) (maxL := 3) (ret := (some (.int))) (by decide) rfl (Nat.le_of_ble_eq_true rfl) ?_
  intro p e s m below meth c ls F hr hlk hH hz hS hl
  have hl : lv_has ls 3 [(0, .ref a), (1, .int (iI row)), (2, .int (iI place))] := hl
  have hS : va_S (gA g) s.heap s.heap [] := hS
  obtain ⟨H, hHe⟩ : ∃ H : Heap, H = s.heap := ⟨_, rfl⟩
  obtain ⟨locs, hlo⟩ : ∃ k : List Loc, k = [] := ⟨_, rfl⟩
  have hH : gH g I R J AI AJ AR H := by rw [hHe]; exact hH
  have hS : va_S (gA g) s.heap H locs := by rw [hHe, hlo]; exact hS
  suffices hw : W p l e rmX4_cell s m ([.ref a, .int (iI row), .int (iI place)] : List Value).toArray below meth c H locs 0 0 (MQ below (gQi g (fun (z : Int) (w : gS) => I = w.1 ∧ R = w.2.1 ∧ J = w.2.2.1 ∧ AI = w.2.2.2.1 ∧ AJ = w.2.2.2.2.1 ∧ AR = w.2.2.2.2.2 ∧ (z = (AI (gh 0 a) (row * 6 + place).toNat).toInt))) ([.ref a, .int (iI row), .int (iI place)] : List Value).toArray s 0 0 (gA g)) (F0 m 0 ls []) by
    rw [hHe, hlo] at hw; exact hw
  clear hHe hlo
  have iX4 : ∀ w ∈ u_ws RX4 TX4 4, w ∈ wsX4_cell := (by decide +kernel)
  have k16 : Cond.fieldLink RX4 16 (TX4 2).1 (TX4 2).2.1 (TX4 2).2.2.1 ∈ wsX4_cell := List.mem_of_getElem? (i := 1) rfl
  refine lv_aload_n F.1 F.2.1 dX4_cell_0 rfl (lv_at hl 0 rfl) ?_
  obtain ⟨b_1a, b_1b, b_1c, b_1d, b_1e, b_1f, b_1g, b_1h⟩ := gI_rows hv ha
  obtain ⟨r_2a, r_2b⟩ := gR_cells hv ha
  refine g_getR (ci := 4) (k := 2) F hH rfl (by decide) iX4 ha (by decide) rfl (b := gh 0 a) r_2a k16 dX4_cell_1 ?_
  refine lv_iload_n F.1 F.2.1 dX4_cell_4 rfl (lv_at hl 1 rfl) ?_
  refine z_bipush F dX4_cell_5 (by decide) ?_
  refine z_imul F dX4_cell_7 ?_
  refine lv_iload_n F.1 F.2.1 dX4_cell_8 rfl (lv_at hl 2 rfl) ?_
  refine z_iadd F dX4_cell_9 ?_
  have hx10 : 0 ≤ ((row * 6) + place) ∧ ((row * 6) + place) < ((6 * gh 1 a : Nat) : Int) ∧ ((row * 6) + place) ≤ 2147483647 := ⟨by omega, by omega, by omega⟩
  refine g_iald F hH r_2b hx10.1 hx10.2.1 hx10.2.2 dX4_cell_10 ?_
  exact g_iret F hr hlk hH hS hz (zr_t _) ⟨rfl, rfl, rfl, rfl, rfl, rfl, rfl⟩ dX4_cell_11

def rmX4_setCell : Room := { frames := 0, cells := 0, slots := 0, locals := 0 }
theorem hdX4_setCell : yX4_setCell.cls = RX4 ∧ yX4_setCell.cls ≠ "java/lang/invoke/MethodHandle" ∧ yX4_setCell.cls ≠ "java/lang/invoke/VarHandle" ∧ (parseMethodDescriptor yX4_setCell.desc).map (fun d => d.parameters.length) = some 3 := by decide +kernel
set_option maxHeartbeats 4000000 in
set_option maxRecDepth 100000 in
/-- sets one cell -/
theorem c_X4_setCell (l : Launch) (g : gG) (gh : gGh) (I : gI) (R : gR) (J : gJ) (AI : gI) (AJ : gJ) (AR : gR) (a : Nat) (row : Int) (place : Int) (v : Int) (zrow : zr row) (zplace : zr place) (zv : zr v) (hv : gInv g gh R AR I AI) (ha : gO g a 4) (h0 : 0 ≤ row) (h1 : row < (gh 1 a : Int)) (h2 : 0 ≤ place) (h3 : place ≤ 5) (h5 : gh 2 a = 5 → place ≠ 0) (hfz : gh 2 a = 5 → gh 42 0 = 1 → a ≠ gh 37 0) : gMet l g yX4_setCell wsX4_setCell rmX4_setCell [.ref a, .int (iI row), .int (iI place), .int (iI v)] (I, R, J, AI, AJ, AR) (gQv g (fun w : gS => I = w.1 ∧ R = w.2.1 ∧ J = w.2.2.1 ∧ AJ = w.2.2.2.2.1 ∧ AR = w.2.2.2.2.2 ∧ ((w.2.2.2.1) = gup2 AI (gh 0 a) (row * 6 + place).toNat (iI v)) ∧ (gInv g gh R AR I (w.2.2.2.1)) ∧ (∀ b, b ≠ gh 0 a → (w.2.2.2.1) b = AI b))) := by
  refine gStart (cc := cX4_setCell) (maxL := 4) (ret := none) (by decide) rfl (Nat.le_of_ble_eq_true rfl) ?_
  intro p e s m below meth c ls F hr hlk hH hz hS hl
  have hl : lv_has ls 4 [(0, .ref a), (1, .int (iI row)), (2, .int (iI place)), (3, .int (iI v))] := hl
  have hS : va_S (gA g) s.heap s.heap [] := hS
  obtain ⟨H, hHe⟩ : ∃ H : Heap, H = s.heap := ⟨_, rfl⟩
  obtain ⟨locs, hlo⟩ : ∃ k : List Loc, k = [] := ⟨_, rfl⟩
  have hH : gH g I R J AI AJ AR H := by rw [hHe]; exact hH
  have hS : va_S (gA g) s.heap H locs := by rw [hHe, hlo]; exact hS
  suffices hw : W p l e rmX4_setCell s m ([.ref a, .int (iI row), .int (iI place), .int (iI v)] : List Value).toArray below meth c H locs 0 0 (MQ below (gQv g (fun w : gS => I = w.1 ∧ R = w.2.1 ∧ J = w.2.2.1 ∧ AJ = w.2.2.2.2.1 ∧ AR = w.2.2.2.2.2 ∧ ((w.2.2.2.1) = gup2 AI (gh 0 a) (row * 6 + place).toNat (iI v)) ∧ (gInv g gh R AR I (w.2.2.2.1)) ∧ (∀ b, b ≠ gh 0 a → (w.2.2.2.1) b = AI b))) ([.ref a, .int (iI row), .int (iI place), .int (iI v)] : List Value).toArray s 0 0 (gA g)) (F0 m 0 ls []) by
    rw [hHe, hlo] at hw; exact hw
  clear hHe hlo
  have iX4 : ∀ w ∈ u_ws RX4 TX4 4, w ∈ wsX4_setCell := (by decide +kernel)
  have k16 : Cond.fieldLink RX4 16 (TX4 2).1 (TX4 2).2.1 (TX4 2).2.2.1 ∈ wsX4_setCell := List.mem_of_getElem? (i := 1) rfl
  refine lv_aload_n F.1 F.2.1 dX4_setCell_0 rfl (lv_at hl 0 rfl) ?_
  obtain ⟨b_1a, b_1b, b_1c, b_1d, b_1e, b_1f, b_1g, b_1h⟩ := gI_rows hv ha
  obtain ⟨r_2a, r_2b⟩ := gR_cells hv ha
  refine g_getR (ci := 4) (k := 2) F hH rfl (by decide) iX4 ha (by decide) rfl (b := gh 0 a) r_2a k16 dX4_setCell_1 ?_
  refine lv_iload_n F.1 F.2.1 dX4_setCell_4 rfl (lv_at hl 1 rfl) ?_
  refine z_bipush F dX4_setCell_5 (by decide) ?_
  refine z_imul F dX4_setCell_7 ?_
  refine lv_iload_n F.1 F.2.1 dX4_setCell_8 rfl (lv_at hl 2 rfl) ?_
  refine z_iadd F dX4_setCell_9 ?_
  refine lv_iload_n F.1 F.2.1 dX4_setCell_10 rfl (lv_at hl 3 rfl) ?_
  have hx11 : 0 ≤ ((row * 6) + place) ∧ ((row * 6) + place) < ((6 * gh 1 a : Nat) : Int) ∧ ((row * 6) + place) ≤ 2147483647 := ⟨by omega, by omega, by omega⟩
  refine g_iast F hH hS r_2b hx11.1 hx11.2.1 hx11.2.2 dX4_setCell_11 (fun H locs hH hS => ?_)
  obtain ⟨AI_3, eAI_3⟩ : ∃ qQ, qQ = gup2 AI (gh 0 a) (((row * 6) + place)).toNat (iI (v)) := ⟨_, rfl⟩
  rw [← eAI_3] at hH
  have kAI_3 : ∀ b, b ≠ (gh 0 a) → AI_3 b = AI b := fun b hb => by rw [eAI_3]; exact funext fun j => gup2_a _ _ hb
  have hv : gInv g gh R AR I AI_3 := by rw [eAI_3]; exact gInv_cell1 hv ha (by omega) (by omega) (by first | exact hfz | omega)
  exact g_vret F hr hlk hH hS hz ⟨rfl, rfl, rfl, rfl, rfl, eAI_3, hv, fun b hb => kAI_3 b hb⟩ dX4_setCell_12

def rmX4_amount : Room := { frames := 0, cells := 0, slots := 0, locals := 0 }
theorem hdX4_amount : yX4_amount.cls = RX4 ∧ yX4_amount.cls ≠ "java/lang/invoke/MethodHandle" ∧ yX4_amount.cls ≠ "java/lang/invoke/VarHandle" ∧ (parseMethodDescriptor yX4_amount.desc).map (fun d => d.parameters.length) = some 1 := by decide +kernel
set_option maxHeartbeats 4000000 in
set_option maxRecDepth 100000 in
/-- the amount of a row -/
theorem c_X4_amount (l : Launch) (g : gG) (gh : gGh) (I : gI) (R : gR) (J : gJ) (AI : gI) (AJ : gJ) (AR : gR) (a : Nat) (row : Int) (zrow : zr row) (hv : gInv g gh R AR I AI) (ha : gO g a 4) (h0 : 0 ≤ row) (h1 : row < (gh 1 a : Int)) : gMet l g yX4_amount wsX4_amount rmX4_amount [.ref a, .int (iI row)] (I, R, J, AI, AJ, AR) (gQi g (fun (z : Int) (w : gS) => I = w.1 ∧ R = w.2.1 ∧ J = w.2.2.1 ∧ AI = w.2.2.2.1 ∧ AJ = w.2.2.2.2.1 ∧ AR = w.2.2.2.2.2 ∧ (z = (AI (gh 0 a) (row * 6 + (I a 0).toInt).toNat).toInt))) := by
  refine gStart (cc := cX4_amount) (maxL := 2) (ret := (some (.int))) (by decide) rfl (Nat.le_of_ble_eq_true rfl) ?_
  intro p e s m below meth c ls F hr hlk hH hz hS hl
  have hl : lv_has ls 2 [(0, .ref a), (1, .int (iI row))] := hl
  have hS : va_S (gA g) s.heap s.heap [] := hS
  obtain ⟨H, hHe⟩ : ∃ H : Heap, H = s.heap := ⟨_, rfl⟩
  obtain ⟨locs, hlo⟩ : ∃ k : List Loc, k = [] := ⟨_, rfl⟩
  have hH : gH g I R J AI AJ AR H := by rw [hHe]; exact hH
  have hS : va_S (gA g) s.heap H locs := by rw [hHe, hlo]; exact hS
  suffices hw : W p l e rmX4_amount s m ([.ref a, .int (iI row)] : List Value).toArray below meth c H locs 0 0 (MQ below (gQi g (fun (z : Int) (w : gS) => I = w.1 ∧ R = w.2.1 ∧ J = w.2.2.1 ∧ AI = w.2.2.2.1 ∧ AJ = w.2.2.2.2.1 ∧ AR = w.2.2.2.2.2 ∧ (z = (AI (gh 0 a) (row * 6 + (I a 0).toInt).toNat).toInt))) ([.ref a, .int (iI row)] : List Value).toArray s 0 0 (gA g)) (F0 m 0 ls []) by
    rw [hHe, hlo] at hw; exact hw
  clear hHe hlo
  have iX4 : ∀ w ∈ u_ws RX4 TX4 4, w ∈ wsX4_amount := (by decide +kernel)
  have k16 : Cond.fieldLink RX4 16 (TX4 2).1 (TX4 2).2.1 (TX4 2).2.2.1 ∈ wsX4_amount := List.mem_of_getElem? (i := 1) rfl
  have k7 : Cond.fieldLink RX4 7 (TX4 0).1 (TX4 0).2.1 (TX4 0).2.2.1 ∈ wsX4_amount := List.mem_of_getElem? (i := 2) rfl
  refine lv_aload_n F.1 F.2.1 dX4_amount_0 rfl (lv_at hl 0 rfl) ?_
  obtain ⟨b_1a, b_1b, b_1c, b_1d, b_1e, b_1f, b_1g, b_1h⟩ := gI_rows hv ha
  obtain ⟨r_2a, r_2b⟩ := gR_cells hv ha
  refine g_getR (ci := 4) (k := 2) F hH rfl (by decide) iX4 ha (by decide) rfl (b := gh 0 a) r_2a k16 dX4_amount_1 ?_
  refine lv_iload_n F.1 F.2.1 dX4_amount_4 rfl (lv_at hl 1 rfl) ?_
  refine z_bipush F dX4_amount_5 (by decide) ?_
  refine z_imul F dX4_amount_7 ?_
  refine lv_aload_n F.1 F.2.1 dX4_amount_8 rfl (lv_at hl 0 rfl) ?_
  refine g_getI (ci := 4) (k := 0) F hH rfl (by decide) iX4 ha (by decide) rfl k7 dX4_amount_9 ?_
  refine z_iadd F dX4_amount_12 ?_
  have hx13 : 0 ≤ ((row * 6) + ((I a 0).toInt)) ∧ ((row * 6) + ((I a 0).toInt)) < ((6 * gh 1 a : Nat) : Int) ∧ ((row * 6) + ((I a 0).toInt)) ≤ 2147483647 := ⟨by omega, by omega, by omega⟩
  refine g_iald F hH r_2b hx13.1 hx13.2.1 hx13.2.2 dX4_amount_13 ?_
  exact g_iret F hr hlk hH hS hz (zr_t _) ⟨rfl, rfl, rfl, rfl, rfl, rfl, rfl⟩ dX4_amount_14

theorem hdX4_copyKey : yX4_copyKey.cls = RX4 ∧ yX4_copyKey.cls ≠ "java/lang/invoke/MethodHandle" ∧ yX4_copyKey.cls ≠ "java/lang/invoke/VarHandle" ∧ (parseMethodDescriptor yX4_copyKey.desc).map (fun d => d.parameters.length) = some 3 := by decide +kernel
theorem hdX4_compareRow : yX4_compareRow.cls = RX4 ∧ yX4_compareRow.cls ≠ "java/lang/invoke/MethodHandle" ∧ yX4_compareRow.cls ≠ "java/lang/invoke/VarHandle" ∧ (parseMethodDescriptor yX4_compareRow.desc).map (fun d => d.parameters.length) = some 3 := by decide +kernel
theorem hdX4_find : yX4_find.cls = RX4 ∧ yX4_find.cls ≠ "java/lang/invoke/MethodHandle" ∧ yX4_find.cls ≠ "java/lang/invoke/VarHandle" ∧ (parseMethodDescriptor yX4_find.desc).map (fun d => d.parameters.length) = some 1 := by decide +kernel
theorem hdX4_amountOf : yX4_amountOf.cls = RX4 ∧ yX4_amountOf.cls ≠ "java/lang/invoke/MethodHandle" ∧ yX4_amountOf.cls ≠ "java/lang/invoke/VarHandle" ∧ (parseMethodDescriptor yX4_amountOf.desc).map (fun d => d.parameters.length) = some 1 := by decide +kernel
theorem hdX4_insert : yX4_insert.cls = RX4 ∧ yX4_insert.cls ≠ "java/lang/invoke/MethodHandle" ∧ yX4_insert.cls ≠ "java/lang/invoke/VarHandle" ∧ (parseMethodDescriptor yX4_insert.desc).map (fun d => d.parameters.length) = some 3 := by decide +kernel
theorem hdX4_removeRow : yX4_removeRow.cls = RX4 ∧ yX4_removeRow.cls ≠ "java/lang/invoke/MethodHandle" ∧ yX4_removeRow.cls ≠ "java/lang/invoke/VarHandle" ∧ (parseMethodDescriptor yX4_removeRow.desc).map (fun d => d.parameters.length) = some 1 := by decide +kernel
theorem hdX4_addAmount : yX4_addAmount.cls = RX4 ∧ yX4_addAmount.cls ≠ "java/lang/invoke/MethodHandle" ∧ yX4_addAmount.cls ≠ "java/lang/invoke/VarHandle" ∧ (parseMethodDescriptor yX4_addAmount.desc).map (fun d => d.parameters.length) = some 2 := by decide +kernel
theorem hdX4_append : yX4_append.cls = RX4 ∧ yX4_append.cls ≠ "java/lang/invoke/MethodHandle" ∧ yX4_append.cls ≠ "java/lang/invoke/VarHandle" ∧ (parseMethodDescriptor yX4_append.desc).map (fun d => d.parameters.length) = some 3 := by decide +kernel
theorem hdX4_orderOfHeads : yX4_orderOfHeads.cls = RX4 ∧ yX4_orderOfHeads.cls ≠ "java/lang/invoke/MethodHandle" ∧ yX4_orderOfHeads.cls ≠ "java/lang/invoke/VarHandle" ∧ (parseMethodDescriptor yX4_orderOfHeads.desc).map (fun d => d.parameters.length) = some 4 := by decide +kernel
theorem hdX4_gather : yX4_gather.cls = RX4 ∧ yX4_gather.cls ≠ "java/lang/invoke/MethodHandle" ∧ yX4_gather.cls ≠ "java/lang/invoke/VarHandle" ∧ (parseMethodDescriptor yX4_gather.desc).map (fun d => d.parameters.length) = some 3 := by decide +kernel
end
section
theorem hdX0_clear : yX0_clear.cls = RX0 ∧ yX0_clear.cls ≠ "java/lang/invoke/MethodHandle" ∧ yX0_clear.cls ≠ "java/lang/invoke/VarHandle" ∧ (parseMethodDescriptor yX0_clear.desc).map (fun d => d.parameters.length) = some 1 := by decide +kernel
def rmX0_lastLetter : Room := { frames := 0, cells := 0, slots := 0, locals := 0 }
theorem hdX0_lastLetter : yX0_lastLetter.cls = RX0 ∧ yX0_lastLetter.cls ≠ "java/lang/invoke/MethodHandle" ∧ yX0_lastLetter.cls ≠ "java/lang/invoke/VarHandle" ∧ (parseMethodDescriptor yX0_lastLetter.desc).map (fun d => d.parameters.length) = some 0 := by decide +kernel
set_option maxHeartbeats 4000000 in
set_option maxRecDepth 100000 in
/-- a letter -/
theorem c_X0_lastLetter (l : Launch) (g : gG) (gh : gGh) (I : gI) (R : gR) (J : gJ) (AI : gI) (AJ : gJ) (AR : gR) (a : Nat) (hv : gInv g gh R AR I AI) (ha : gO g a 0) : gMet l g yX0_lastLetter wsX0_lastLetter rmX0_lastLetter [.ref a] (I, R, J, AI, AJ, AR) (gQi g (fun (z : Int) (w : gS) => I = w.1 ∧ R = w.2.1 ∧ J = w.2.2.1 ∧ AI = w.2.2.2.1 ∧ AJ = w.2.2.2.2.1 ∧ AR = w.2.2.2.2.2)) := by
  refine gStart (cc := cX0_lastLetter) (maxL := 1) (ret := (some (.int))) (by decide) rfl (Nat.le_of_ble_eq_true rfl) ?_
  intro p e s m below meth c ls F hr hlk hH hz hS hl
  have hl : lv_has ls 1 [(0, .ref a)] := hl
  have hS : va_S (gA g) s.heap s.heap [] := hS
  obtain ⟨H, hHe⟩ : ∃ H : Heap, H = s.heap := ⟨_, rfl⟩
  obtain ⟨locs, hlo⟩ : ∃ k : List Loc, k = [] := ⟨_, rfl⟩
  have hH : gH g I R J AI AJ AR H := by rw [hHe]; exact hH
  have hS : va_S (gA g) s.heap H locs := by rw [hHe, hlo]; exact hS
  suffices hw : W p l e rmX0_lastLetter s m ([.ref a] : List Value).toArray below meth c H locs 0 0 (MQ below (gQi g (fun (z : Int) (w : gS) => I = w.1 ∧ R = w.2.1 ∧ J = w.2.2.1 ∧ AI = w.2.2.2.1 ∧ AJ = w.2.2.2.2.1 ∧ AR = w.2.2.2.2.2)) ([.ref a] : List Value).toArray s 0 0 (gA g)) (F0 m 0 ls []) by
    rw [hHe, hlo] at hw; exact hw
  clear hHe hlo
  have iX0 : ∀ w ∈ u_ws RX0 TX0 15, w ∈ wsX0_lastLetter := (by decide +kernel)
  have k43 : Cond.fieldLink RX0 43 (TX0 1).1 (TX0 1).2.1 (TX0 1).2.2.1 ∈ wsX0_lastLetter := List.mem_of_getElem? (i := 1) rfl
  refine lv_aload_n F.1 F.2.1 dX0_lastLetter_0 rfl (lv_at hl 0 rfl) ?_
  refine g_getJ (ci := 0) (k := 1) F hH rfl (by decide) iX0 ha (by decide) rfl k43 dX0_lastLetter_1 ?_
  refine lv_topl (fun j_1 ej_1 => ?_)
  refine lv_ldc2 (v := 31) F.1 F.2.1 F.2.2.2.1 (F.2.2.2.2.1 _ (List.mem_of_getElem? (i := 2) rfl)) dX0_lastLetter_4 ?_
  refine lv_land F.1 F.2.1 dX0_lastLetter_7 ?_
  refine lv_topl (fun j_2 ej_2 => ?_)
  refine lv_l2i F.1 F.2.1 dX0_lastLetter_8 rfl ?_
  refine z_top (fun v_3 zv_3 ev_3 => ?_)
  exact g_iret F hr hlk hH hS hz zv_3 ⟨rfl, rfl, rfl, rfl, rfl, rfl⟩ dX0_lastLetter_9

def rmX0_firstLetter : Room := { frames := 0, cells := 0, slots := 0, locals := 0 }
theorem hdX0_firstLetter : yX0_firstLetter.cls = RX0 ∧ yX0_firstLetter.cls ≠ "java/lang/invoke/MethodHandle" ∧ yX0_firstLetter.cls ≠ "java/lang/invoke/VarHandle" ∧ (parseMethodDescriptor yX0_firstLetter.desc).map (fun d => d.parameters.length) = some 0 := by decide +kernel
set_option maxHeartbeats 4000000 in
set_option maxRecDepth 100000 in
/-- a letter -/
theorem c_X0_firstLetter (l : Launch) (g : gG) (gh : gGh) (I : gI) (R : gR) (J : gJ) (AI : gI) (AJ : gJ) (AR : gR) (a : Nat) (hv : gInv g gh R AR I AI) (ha : gO g a 0) : gMet l g yX0_firstLetter wsX0_firstLetter rmX0_firstLetter [.ref a] (I, R, J, AI, AJ, AR) (gQi g (fun (z : Int) (w : gS) => I = w.1 ∧ R = w.2.1 ∧ J = w.2.2.1 ∧ AI = w.2.2.2.1 ∧ AJ = w.2.2.2.2.1 ∧ AR = w.2.2.2.2.2)) := by
  refine gStart (cc := cX0_firstLetter) (maxL := 4) (ret := (some (.int))) (by decide) rfl (Nat.le_of_ble_eq_true rfl) ?_
  intro p e s m below meth c ls F hr hlk hH hz hS hl
  have hl : lv_has ls 4 [(0, .ref a)] := hl
  have hS : va_S (gA g) s.heap s.heap [] := hS
  obtain ⟨H, hHe⟩ : ∃ H : Heap, H = s.heap := ⟨_, rfl⟩
  obtain ⟨locs, hlo⟩ : ∃ k : List Loc, k = [] := ⟨_, rfl⟩
  have hH : gH g I R J AI AJ AR H := by rw [hHe]; exact hH
  have hS : va_S (gA g) s.heap H locs := by rw [hHe, hlo]; exact hS
  suffices hw : W p l e rmX0_firstLetter s m ([.ref a] : List Value).toArray below meth c H locs 0 0 (MQ below (gQi g (fun (z : Int) (w : gS) => I = w.1 ∧ R = w.2.1 ∧ J = w.2.2.1 ∧ AI = w.2.2.2.1 ∧ AJ = w.2.2.2.2.1 ∧ AR = w.2.2.2.2.2)) ([.ref a] : List Value).toArray s 0 0 (gA g)) (F0 m 0 ls []) by
    rw [hHe, hlo] at hw; exact hw
  clear hHe hlo
  have iX0 : ∀ w ∈ u_ws RX0 TX0 15, w ∈ wsX0_firstLetter := (by decide +kernel)
  have k43 : Cond.fieldLink RX0 43 (TX0 1).1 (TX0 1).2.1 (TX0 1).2.2.1 ∈ wsX0_firstLetter := List.mem_of_getElem? (i := 1) rfl
  refine lv_aload_n F.1 F.2.1 dX0_firstLetter_0 rfl (lv_at hl 0 rfl) ?_
  refine g_getJ (ci := 0) (k := 1) F hH rfl (by decide) iX0 ha (by decide) rfl k43 dX0_firstLetter_1 ?_
  refine lv_topl (fun j_1 ej_1 => ?_)
  refine lv_lstore_n (lv' := [(1, .long j_1), (0, .ref a)]) F.1 F.2.1 dX0_firstLetter_4 rfl hl (by decide) rfl (fun ls hl => ?_)
  refine z_iconst F dX0_firstLetter_5 ?_
  refine lv_istore_n (lv' := [(3, .int (iI 0)), (1, .long j_1), (0, .ref a)]) F.1 F.2.1 dX0_firstLetter_6 rfl hl (by decide) rfl (fun ls hl => ?_)
  have cut_7_1 : ∀ (NN : Nat) (k : Int) (nm : Int64) (H : Heap) (locs : List Loc) (ls : Array Slot), zr k → (0 ≤ k ∧ k ≤ 8) → (8 - k) < ((NN : Nat) : Int) → gH g I R J AI AJ AR H → va_S (gA g) s.heap H locs → lv_has ls 4 [(3, .int (iI k)), (1, .long nm), (0, .ref a)] → W p l e rmX0_firstLetter s m ([.ref a] : List Value).toArray below meth c H locs 0 0 (MQ below (gQi g (fun (z : Int) (w : gS) => I = w.1 ∧ R = w.2.1 ∧ J = w.2.2.1 ∧ AI = w.2.2.2.1 ∧ AJ = w.2.2.2.2.1 ∧ AR = w.2.2.2.2.2)) ([.ref a] : List Value).toArray s 0 0 (gA g)) (F0 m 7 ls []) := by
    intro NN7
    induction NN7 with
    | zero =>
      intro k nm H locs ls zk hk hm7 hH hS hl
      exact absurd hm7 (by omega)
    | succ NN7 ih7 =>
      intro k nm H locs ls zk hk hm7 hH hS hl
      refine lv_iload_n F.1 F.2.1 dX0_firstLetter_7 rfl (lv_at hl 0 rfl) ?_
      refine z_bipush F dX0_firstLetter_8 (by decide) ?_
      refine z_icmp_ge (tgt := 31) F dX0_firstLetter_10 (by decide) zk ⟨by decide, by decide⟩ (fun c_3 => ?_) (fun c_3 => ?_)
      · refine lv_lload_n F.1 F.2.1 dX0_firstLetter_31 rfl (lv_at hl 1 rfl) ?_
        refine lv_l2i F.1 F.2.1 dX0_firstLetter_32 rfl ?_
        refine z_top (fun v_4 zv_4 ev_4 => ?_)
        exact g_iret F hr hlk hH hS hz zv_4 ⟨rfl, rfl, rfl, rfl, rfl, rfl⟩ dX0_firstLetter_33
      · refine lv_lload_n F.1 F.2.1 dX0_firstLetter_13 rfl (lv_at hl 1 rfl) ?_
        refine lv_ldc2 (v := 31) F.1 F.2.1 F.2.2.2.1 (F.2.2.2.2.1 _ (List.mem_of_getElem? (i := 2) rfl)) dX0_firstLetter_14 ?_
        refine W.lcmp F.1 F.2.1 dX0_firstLetter_17 ?_
        refine z_top (fun v_5 zv_5 ev_5 => ?_)
        have lv_5 : v_5 = 0 ↔ nm = (31) := by rw [ev_5]; exact z_lcmp
        refine z_if_le (tgt := 31) F dX0_firstLetter_18 (by decide) zv_5 (fun c_6 => ?_) (fun c_6 => ?_)
        · refine lv_lload_n F.1 F.2.1 dX0_firstLetter_31 rfl (lv_at hl 1 rfl) ?_
          refine lv_l2i F.1 F.2.1 dX0_firstLetter_32 rfl ?_
          refine z_top (fun v_7 zv_7 ev_7 => ?_)
          exact g_iret F hr hlk hH hS hz zv_7 ⟨rfl, rfl, rfl, rfl, rfl, rfl⟩ dX0_firstLetter_33
        · refine lv_lload_n F.1 F.2.1 dX0_firstLetter_21 rfl (lv_at hl 1 rfl) ?_
          refine z_iconst F dX0_firstLetter_22 ?_
          refine lv_lushr F.1 F.2.1 dX0_firstLetter_23 rfl ?_
          refine lv_topl (fun j_8 ej_8 => ?_)
          refine lv_lstore_n (lv' := [(1, .long j_8), (3, .int (iI k)), (0, .ref a)]) F.1 F.2.1 dX0_firstLetter_24 rfl hl (by decide) rfl (fun ls hl => ?_)
          refine z_iinc (lv' := [(3, .int (iI (k + 1))), (1, .long j_8), (0, .ref a)]) F dX0_firstLetter_25 hl (k := 1) rfl (by decide) rfl (fun ls hl => ?_)
          refine z_goto (tgt := 7) F dX0_firstLetter_28 (by decide) ?_
          exact ih7 (k + 1) j_8 H locs ls ⟨by omega, by omega⟩ (by omega) (by omega) hH hS (lv_sub hl [0, 1, 2] rfl)
  exact cut_7_1 (((8 - 0) + 1 : Int).toNat) 0 j_1 H locs ls ⟨by decide, by decide⟩ (by omega) (by omega) hH hS (lv_sub hl [0, 1, 2] rfl)

theorem hdX0_holds : yX0_holds.cls = RX0 ∧ yX0_holds.cls ≠ "java/lang/invoke/MethodHandle" ∧ yX0_holds.cls ≠ "java/lang/invoke/VarHandle" ∧ (parseMethodDescriptor yX0_holds.desc).map (fun d => d.parameters.length) = some 2 := by decide +kernel
theorem hdX0_fillTerms : yX0_fillTerms.cls = RX0 ∧ yX0_fillTerms.cls ≠ "java/lang/invoke/MethodHandle" ∧ yX0_fillTerms.cls ≠ "java/lang/invoke/VarHandle" ∧ (parseMethodDescriptor yX0_fillTerms.desc).map (fun d => d.parameters.length) = some 3 := by decide +kernel
theorem hdX0_pairsAreAlike : yX0_pairsAreAlike.cls = RX0 ∧ yX0_pairsAreAlike.cls ≠ "java/lang/invoke/MethodHandle" ∧ yX0_pairsAreAlike.cls ≠ "java/lang/invoke/VarHandle" ∧ (parseMethodDescriptor yX0_pairsAreAlike.desc).map (fun d => d.parameters.length) = some 4 := by decide +kernel
theorem hdX0_tellsSecond : yX0_tellsSecond.cls = RX0 ∧ yX0_tellsSecond.cls ≠ "java/lang/invoke/MethodHandle" ∧ yX0_tellsSecond.cls ≠ "java/lang/invoke/VarHandle" ∧ (parseMethodDescriptor yX0_tellsSecond.desc).map (fun d => d.parameters.length) = some 1 := by decide +kernel
theorem hdX0_columnsOfJoin : yX0_columnsOfJoin.cls = RX0 ∧ yX0_columnsOfJoin.cls ≠ "java/lang/invoke/MethodHandle" ∧ yX0_columnsOfJoin.cls ≠ "java/lang/invoke/VarHandle" ∧ (parseMethodDescriptor yX0_columnsOfJoin.desc).map (fun d => d.parameters.length) = some 0 := by decide +kernel
theorem hdX0_hasColumn : yX0_hasColumn.cls = RX0 ∧ yX0_hasColumn.cls ≠ "java/lang/invoke/MethodHandle" ∧ yX0_hasColumn.cls ≠ "java/lang/invoke/VarHandle" ∧ (parseMethodDescriptor yX0_hasColumn.desc).map (fun d => d.parameters.length) = some 1 := by decide +kernel
theorem hdX0_addTest : yX0_addTest.cls = RX0 ∧ yX0_addTest.cls ≠ "java/lang/invoke/MethodHandle" ∧ yX0_addTest.cls ≠ "java/lang/invoke/VarHandle" ∧ (parseMethodDescriptor yX0_addTest.desc).map (fun d => d.parameters.length) = some 4 := by decide +kernel
theorem hdX0_addTwo : yX0_addTwo.cls = RX0 ∧ yX0_addTwo.cls ≠ "java/lang/invoke/MethodHandle" ∧ yX0_addTwo.cls ≠ "java/lang/invoke/VarHandle" ∧ (parseMethodDescriptor yX0_addTwo.desc).map (fun d => d.parameters.length) = some 2 := by decide +kernel
theorem hdX0_addColumn : yX0_addColumn.cls = RX0 ∧ yX0_addColumn.cls ≠ "java/lang/invoke/MethodHandle" ∧ yX0_addColumn.cls ≠ "java/lang/invoke/VarHandle" ∧ (parseMethodDescriptor yX0_addColumn.desc).map (fun d => d.parameters.length) = some 1 := by decide +kernel
end
