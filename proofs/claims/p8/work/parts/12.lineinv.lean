section LineInv
variable {g : gG} {gh : gGh} {R AR : gR} {I AI : gI} {a : Nat}
theorem gI_line (hv : gInv g gh R AR I AI) (ha : gO g a 0) : vLineI (I a) := (hv.2.2.1 a ha).2.1
theorem gR_parts (hv : gInv g gh R AR I AI) (ha : gO g a 0) : R a 7 = some (gh 3 a) ∧ gAr g (gh 3 a) 9 32 := ⟨(hv.2.2.1 a ha).1.1, (hv.2.2.1 a ha).1.2.1⟩
theorem gP_line (hv : gInv g gh R AR I AI) (ha : gO g a 0) : okPart (I a 0).toInt (I a 8).toInt (AI (gh 3 a)) := (hv.2.2.1 a ha).2.2.1
theorem gInv_line {I' AI' : gI} (hv : gInv g gh R AR I AI) (ha : gO g a 0) (fI : ∀ b, b ≠ a → I' b = I b) (fA : ∀ b, b ≠ gh 3 a → AI' b = AI b) (h1 : vLineI (I' a)) (h2 : okPart (I' a 0).toInt (I' a 8).toInt (AI' (gh 3 a))) (h3 : (gh 5 a : Int) < (I (gh 4 a) 1).toInt → (I' a 2).toInt ≤ 4) : gInv g gh R AR I' AI' := by
  obtain ⟨q1, q2, q3, q4, q5, q6, q7, q8⟩ := hv
  have hr := (q3 a ha).1
  have nO : ∀ d, d ≠ 0 → ∀ b, gO g b d → I' b = I b := fun d hd b hb => fI b (gO_ne hb ha hd)
  have ne : ∀ b n, n ≠ 2 → gh 9 b = n → AI' b = AI b := fun b n hn hb => fA b (fun q => hn (by rw [← hb, q, hr.2.2.1]))
  refine ⟨vRows_c q1 (nO 4 (by decide)), vC5_c q2 q1 (fun b hb => ne b 1 (by decide) hb), fun b hb => ?_, vPlan_c q4 (nO 2 (by decide)), vX_c q5 (nO 6 (by decide)), vPr_c q6 (nO 1 (by decide)), vTk_c q7 (nO 5 (by decide)) (fun b hb => ne b 3 (by decide) hb) (fun b hb => ne b 4 (by decide) hb), vRM_c q8 (nO 7 (by decide)) (fun b hb => ne b 5 (by decide) hb) (fun hb _ _ => ⟨by rw [nO 4 (by decide) _ hb], ne _ 1 (by decide) (q1 _ hb).1.2.2.1⟩)⟩
  have qb := q3 b hb
  rw [nO 2 (by decide) _ qb.1.2.2.2.2.1]
  by_cases hq : b = a
  · subst hq
    exact ⟨hr, h1, h2, h3⟩
  · rw [fI b hq, fA _ (fun q => hq (by rw [← qb.1.2.2.2.1, q, hr.2.2.2.1]))]
    exact qb
theorem gInv_lineK {k : Nat} {v : Int32} (hv : gInv g gh R AR I AI) (ha : gO g a 0) (hk : k ≠ 0 ∧ k ≠ 8) (h1 : vLineI (gup2 I a k v a)) (h3 : (gh 5 a : Int) < (I (gh 4 a) 1).toInt → (gup2 I a k v a 2).toInt ≤ 4) : gInv g gh R AR (gup2 I a k v) AI :=
  gInv_line hv ha (fun b hb => funext fun j => gup2_a _ _ hb) (fun _ _ => rfl) h1 (by rw [gup2_k _ _ (Ne.symm hk.1), gup2_k _ _ (Ne.symm hk.2)]; exact gP_line hv ha) h3
theorem gInv_line2 {z : Int} (hv : gInv g gh R AR I AI) (ha : gO g a 0) (h0 : 0 ≤ z) (h9 : z ≤ 9) (hc : (gh 5 a : Int) < (I (gh 4 a) 1).toInt → z ≤ 4) : gInv g gh R AR (gup2 I a 2 (iI z)) AI := by
  have h := gI_line hv ha
  refine gInv_lineK hv ha (by decide) ?_ (by rw [gup2_s, iI_val ⟨by omega, by omega⟩]; exact hc)
  unfold vLineI at h ⊢
  rw [gup2_k (j := 0) (k := 2) _ _ (by decide), gup2_k (j := 3) (k := 2) _ _ (by decide), gup2_k (j := 4) (k := 2) _ _ (by decide), gup2_k (j := 5) (k := 2) _ _ (by decide), gup2_k (j := 6) (k := 2) _ _ (by decide), gup2_k (j := 8) (k := 2) _ _ (by decide), gup2_k (j := 9) (k := 2) _ _ (by decide), gup2_k (j := 10) (k := 2) _ _ (by decide), gup2_k (j := 12) (k := 2) _ _ (by decide), gup2_s, iI_val ⟨by omega, by omega⟩]
  omega
theorem gInv_line3 {z : Int} (hv : gInv g gh R AR I AI) (ha : gO g a 0) (h0 : -1 ≤ z) (h9 : z ≤ 15) (hc : (I a 0).toInt = 0 → z = -1) : gInv g gh R AR (gup2 I a 3 (iI z)) AI := by
  have h := gI_line hv ha
  refine gInv_lineK hv ha (by decide) ?_ (by rw [gup2_k _ _ (by decide)]; exact (hv.2.2.1 a ha).2.2.2)
  unfold vLineI at h ⊢
  rw [gup2_k (j := 0) (k := 3) _ _ (by decide), gup2_k (j := 2) (k := 3) _ _ (by decide), gup2_k (j := 4) (k := 3) _ _ (by decide), gup2_k (j := 5) (k := 3) _ _ (by decide), gup2_k (j := 6) (k := 3) _ _ (by decide), gup2_k (j := 8) (k := 3) _ _ (by decide), gup2_k (j := 9) (k := 3) _ _ (by decide), gup2_k (j := 10) (k := 3) _ _ (by decide), gup2_k (j := 12) (k := 3) _ _ (by decide), gup2_s, iI_val ⟨by omega, by omega⟩]
  omega
theorem gInv_line4 {z : Int} (hv : gInv g gh R AR I AI) (ha : gO g a 0) (h0 : -1 ≤ z) (h9 : z ≤ 15) : gInv g gh R AR (gup2 I a 4 (iI z)) AI := by
  have h := gI_line hv ha
  refine gInv_lineK hv ha (by decide) ?_ (by rw [gup2_k _ _ (by decide)]; exact (hv.2.2.1 a ha).2.2.2)
  unfold vLineI at h ⊢
  rw [gup2_k (j := 0) (k := 4) _ _ (by decide), gup2_k (j := 2) (k := 4) _ _ (by decide), gup2_k (j := 3) (k := 4) _ _ (by decide), gup2_k (j := 5) (k := 4) _ _ (by decide), gup2_k (j := 6) (k := 4) _ _ (by decide), gup2_k (j := 8) (k := 4) _ _ (by decide), gup2_k (j := 9) (k := 4) _ _ (by decide), gup2_k (j := 10) (k := 4) _ _ (by decide), gup2_k (j := 12) (k := 4) _ _ (by decide), gup2_s, iI_val ⟨by omega, by omega⟩]
  omega
theorem gInv_line5 {z : Int} (hv : gInv g gh R AR I AI) (ha : gO g a 0) (h0 : 0 ≤ z) (h9 : z ≤ 4) : gInv g gh R AR (gup2 I a 5 (iI z)) AI := by
  have h := gI_line hv ha
  refine gInv_lineK hv ha (by decide) ?_ (by rw [gup2_k _ _ (by decide)]; exact (hv.2.2.1 a ha).2.2.2)
  unfold vLineI at h ⊢
  rw [gup2_k (j := 0) (k := 5) _ _ (by decide), gup2_k (j := 2) (k := 5) _ _ (by decide), gup2_k (j := 3) (k := 5) _ _ (by decide), gup2_k (j := 4) (k := 5) _ _ (by decide), gup2_k (j := 6) (k := 5) _ _ (by decide), gup2_k (j := 8) (k := 5) _ _ (by decide), gup2_k (j := 9) (k := 5) _ _ (by decide), gup2_k (j := 10) (k := 5) _ _ (by decide), gup2_k (j := 12) (k := 5) _ _ (by decide), gup2_s, iI_val ⟨by omega, by omega⟩]
  omega
theorem gInv_line6 {z : Int} (hv : gInv g gh R AR I AI) (ha : gO g a 0) (h0 : 0 ≤ z) (h9 : z ≤ 4) : gInv g gh R AR (gup2 I a 6 (iI z)) AI := by
  have h := gI_line hv ha
  refine gInv_lineK hv ha (by decide) ?_ (by rw [gup2_k _ _ (by decide)]; exact (hv.2.2.1 a ha).2.2.2)
  unfold vLineI at h ⊢
  rw [gup2_k (j := 0) (k := 6) _ _ (by decide), gup2_k (j := 2) (k := 6) _ _ (by decide), gup2_k (j := 3) (k := 6) _ _ (by decide), gup2_k (j := 4) (k := 6) _ _ (by decide), gup2_k (j := 5) (k := 6) _ _ (by decide), gup2_k (j := 8) (k := 6) _ _ (by decide), gup2_k (j := 9) (k := 6) _ _ (by decide), gup2_k (j := 10) (k := 6) _ _ (by decide), gup2_k (j := 12) (k := 6) _ _ (by decide), gup2_s, iI_val ⟨by omega, by omega⟩]
  omega
theorem gInv_line9 {z : Int} (hv : gInv g gh R AR I AI) (ha : gO g a 0) (h0 : 0 ≤ z) (h9 : z ≤ 3) : gInv g gh R AR (gup2 I a 9 (iI z)) AI := by
  have h := gI_line hv ha
  refine gInv_lineK hv ha (by decide) ?_ (by rw [gup2_k _ _ (by decide)]; exact (hv.2.2.1 a ha).2.2.2)
  unfold vLineI at h ⊢
  rw [gup2_k (j := 0) (k := 9) _ _ (by decide), gup2_k (j := 2) (k := 9) _ _ (by decide), gup2_k (j := 3) (k := 9) _ _ (by decide), gup2_k (j := 4) (k := 9) _ _ (by decide), gup2_k (j := 5) (k := 9) _ _ (by decide), gup2_k (j := 6) (k := 9) _ _ (by decide), gup2_k (j := 8) (k := 9) _ _ (by decide), gup2_k (j := 10) (k := 9) _ _ (by decide), gup2_k (j := 12) (k := 9) _ _ (by decide), gup2_s, iI_val ⟨by omega, by omega⟩]
  omega
theorem gInv_line10 {z : Int} (hv : gInv g gh R AR I AI) (ha : gO g a 0) (h0 : 0 ≤ z) (h9 : z ≤ 3) : gInv g gh R AR (gup2 I a 10 (iI z)) AI := by
  have h := gI_line hv ha
  refine gInv_lineK hv ha (by decide) ?_ (by rw [gup2_k _ _ (by decide)]; exact (hv.2.2.1 a ha).2.2.2)
  unfold vLineI at h ⊢
  rw [gup2_k (j := 0) (k := 10) _ _ (by decide), gup2_k (j := 2) (k := 10) _ _ (by decide), gup2_k (j := 3) (k := 10) _ _ (by decide), gup2_k (j := 4) (k := 10) _ _ (by decide), gup2_k (j := 5) (k := 10) _ _ (by decide), gup2_k (j := 6) (k := 10) _ _ (by decide), gup2_k (j := 8) (k := 10) _ _ (by decide), gup2_k (j := 9) (k := 10) _ _ (by decide), gup2_k (j := 12) (k := 10) _ _ (by decide), gup2_s, iI_val ⟨by omega, by omega⟩]
  omega
theorem gInv_line12 {z : Int} (hv : gInv g gh R AR I AI) (ha : gO g a 0) (h0 : 0 ≤ z) (h9 : z ≤ 3) : gInv g gh R AR (gup2 I a 12 (iI z)) AI := by
  have h := gI_line hv ha
  refine gInv_lineK hv ha (by decide) ?_ (by rw [gup2_k _ _ (by decide)]; exact (hv.2.2.1 a ha).2.2.2)
  unfold vLineI at h ⊢
  rw [gup2_k (j := 0) (k := 12) _ _ (by decide), gup2_k (j := 2) (k := 12) _ _ (by decide), gup2_k (j := 3) (k := 12) _ _ (by decide), gup2_k (j := 4) (k := 12) _ _ (by decide), gup2_k (j := 5) (k := 12) _ _ (by decide), gup2_k (j := 6) (k := 12) _ _ (by decide), gup2_k (j := 8) (k := 12) _ _ (by decide), gup2_k (j := 9) (k := 12) _ _ (by decide), gup2_k (j := 10) (k := 12) _ _ (by decide), gup2_s, iI_val ⟨by omega, by omega⟩]
  omega
theorem gInv_line11 {z : Int} (hv : gInv g gh R AR I AI) (ha : gO g a 0) : gInv g gh R AR (gup2 I a 11 (iI z)) AI := by
  have h := gI_line hv ha
  refine gInv_lineK hv ha (by decide) ?_ (by rw [gup2_k _ _ (by decide)]; exact (hv.2.2.1 a ha).2.2.2)
  unfold vLineI at h ⊢
  rw [gup2_k (j := 0) (k := 11) _ _ (by decide), gup2_k (j := 2) (k := 11) _ _ (by decide), gup2_k (j := 3) (k := 11) _ _ (by decide), gup2_k (j := 4) (k := 11) _ _ (by decide), gup2_k (j := 5) (k := 11) _ _ (by decide), gup2_k (j := 6) (k := 11) _ _ (by decide), gup2_k (j := 8) (k := 11) _ _ (by decide), gup2_k (j := 9) (k := 11) _ _ (by decide), gup2_k (j := 10) (k := 11) _ _ (by decide), gup2_k (j := 12) (k := 11) _ _ (by decide)]
  omega
theorem gInv_line13 {z : Int} (hv : gInv g gh R AR I AI) (ha : gO g a 0) : gInv g gh R AR (gup2 I a 13 (iI z)) AI := by
  have h := gI_line hv ha
  refine gInv_lineK hv ha (by decide) ?_ (by rw [gup2_k _ _ (by decide)]; exact (hv.2.2.1 a ha).2.2.2)
  unfold vLineI at h ⊢
  rw [gup2_k (j := 0) (k := 13) _ _ (by decide), gup2_k (j := 2) (k := 13) _ _ (by decide), gup2_k (j := 3) (k := 13) _ _ (by decide), gup2_k (j := 4) (k := 13) _ _ (by decide), gup2_k (j := 5) (k := 13) _ _ (by decide), gup2_k (j := 6) (k := 13) _ _ (by decide), gup2_k (j := 8) (k := 13) _ _ (by decide), gup2_k (j := 9) (k := 13) _ _ (by decide), gup2_k (j := 10) (k := 13) _ _ (by decide), gup2_k (j := 12) (k := 13) _ _ (by decide)]
  omega
theorem gInv_line14 {z : Int} (hv : gInv g gh R AR I AI) (ha : gO g a 0) : gInv g gh R AR (gup2 I a 14 (iI z)) AI := by
  have h := gI_line hv ha
  refine gInv_lineK hv ha (by decide) ?_ (by rw [gup2_k _ _ (by decide)]; exact (hv.2.2.1 a ha).2.2.2)
  unfold vLineI at h ⊢
  rw [gup2_k (j := 0) (k := 14) _ _ (by decide), gup2_k (j := 2) (k := 14) _ _ (by decide), gup2_k (j := 3) (k := 14) _ _ (by decide), gup2_k (j := 4) (k := 14) _ _ (by decide), gup2_k (j := 5) (k := 14) _ _ (by decide), gup2_k (j := 6) (k := 14) _ _ (by decide), gup2_k (j := 8) (k := 14) _ _ (by decide), gup2_k (j := 9) (k := 14) _ _ (by decide), gup2_k (j := 10) (k := 14) _ _ (by decide), gup2_k (j := 12) (k := 14) _ _ (by decide)]
  omega
/-- kind, while there is no part yet -/
theorem gInv_line0 {z : Int} (hv : gInv g gh R AR I AI) (ha : gO g a 0) (h0 : 1 ≤ z) (h9 : z ≤ 8) (hp : (I a 8).toInt = 0) : gInv g gh R AR (gup2 I a 0 (iI z)) AI := by
  have h := gI_line hv ha
  refine gInv_line hv ha (fun b hb => funext fun j => gup2_a _ _ hb) (fun _ _ => rfl) ?_ ?_ (by rw [gup2_k _ _ (by decide)]; exact (hv.2.2.1 a ha).2.2.2)
  · unfold vLineI at h ⊢
    rw [gup2_k (j := 2) (k := 0) _ _ (by decide), gup2_k (j := 3) (k := 0) _ _ (by decide), gup2_k (j := 4) (k := 0) _ _ (by decide), gup2_k (j := 5) (k := 0) _ _ (by decide), gup2_k (j := 6) (k := 0) _ _ (by decide), gup2_k (j := 8) (k := 0) _ _ (by decide), gup2_k (j := 9) (k := 0) _ _ (by decide), gup2_k (j := 10) (k := 0) _ _ (by decide), gup2_k (j := 12) (k := 0) _ _ (by decide), gup2_s, iI_val ⟨by omega, by omega⟩]
    omega
  · rw [gup2_k (j := 8) _ _ (by decide), hp]
    refine ⟨fun _ k hk => absurd hk (by omega), fun _ => ⟨by omega, fun k hk => absurd hk (by omega)⟩, fun _ => ⟨by omega, fun k hk => absurd hk (by omega)⟩, fun _ => ⟨by omega, fun k hk => absurd hk (by omega)⟩⟩
end LineInv
theorem gI_plan {g : gG} {gh : gGh} {R AR : gR} {I AI : gI} {a : Nat} (hv : gInv g gh R AR I AI) (ha : gO g a 2) : 0 ≤ (I a 1).toInt ∧ (I a 1).toInt ≤ 16 ∧ 0 ≤ (I a 2).toInt ∧ (I a 2).toInt ≤ 16 := (hv.2.2.2.1 a ha).2
theorem gR_lines {g : gG} {gh : gGh} {R AR : gR} {I AI : gI} {a : Nat} (hv : gInv g gh R AR I AI) (ha : gO g a 2) : R a 0 = some (gh 6 a) ∧ gAr g (gh 6 a) 11 16 := ⟨(hv.2.2.2.1 a ha).1.1, (hv.2.2.2.1 a ha).1.2.1⟩
theorem gA_lines {g : gG} {gh : gGh} {R AR : gR} {I AI : gI} {a : Nat} (hv : gInv g gh R AR I AI) (ha : gO g a 2) {z : Int} (h0 : 0 ≤ z) (h1 : z < 16) : ∃ b, AR (gh 6 a) z.toNat = some b ∧ gO g b 0 ∧ gh 4 b = a ∧ (gh 5 b : Int) = z := by
  obtain ⟨b, h2, h3, h4, h5⟩ := (hv.2.2.2.1 a ha).1.2.2.1 z.toNat (by omega)
  exact ⟨b, h2, h3, h4, by omega⟩
theorem gA_same {g : gG} {gh : gGh} {R AR : gR} {I AI : gI} {a b c : Nat} (hv : gInv g gh R AR I AI) (ha : gO g a 2) (hb : gO g b 0) (h1 : gh 4 b = a) (hc : gO g c 0) (h2 : gh 4 c = a) (h : gh 5 b = gh 5 c) : b = c := by
  have e1 := (hv.2.2.2.1 a ha).1.2.2.2 b hb h1
  have e2 := (hv.2.2.2.1 a ha).1.2.2.2 c hc h2
  rw [h] at e1
  exact Option.some.inj (e1.symm.trans e2)
/-- a plan's length: the line that comes in has at most 4 columns -/
theorem gInv_planLen {g : gG} {gh : gGh} {R AR : gR} {I AI : gI} {a : Nat} (hv : gInv g gh R AR I AI) (ha : gO g a 2) {z : Int} (h0 : 0 ≤ z) (h1 : z ≤ 16) (hn : ∀ b, gO g b 0 → gh 4 b = a → (gh 5 b : Int) < z → (I b 2).toInt ≤ 4) : gInv g gh R AR (gup2 I a 1 (iI z)) AI := by
  obtain ⟨q1, q2, q3, q4, q5, q6, q7, q8⟩ := hv
  have nO : ∀ d, d ≠ 2 → ∀ b, gO g b d → gup2 I a 1 (iI z) b = I b := fun d hd b hb => gup2_o ha hb hd
  refine ⟨vRows_c q1 (nO 4 (by decide)), q2, fun b hb => ?_, fun b hb => ?_, vX_c q5 (nO 6 (by decide)), vPr_c q6 (nO 1 (by decide)), vTk_c q7 (nO 5 (by decide)) (fun _ _ => rfl) (fun _ _ => rfl), vRM_c q8 (nO 7 (by decide)) (fun _ _ => rfl) (fun hb _ _ => ⟨by rw [nO 4 (by decide) _ hb], rfl⟩)⟩
  · have qb := q3 b hb
    rw [nO 0 (by decide) b hb]
    refine ⟨qb.1, qb.2.1, qb.2.2.1, fun hlt => ?_⟩
    by_cases hq : gh 4 b = a
    · rw [hq, gup2_s, iI_val ⟨by omega, by omega⟩] at hlt
      exact hn b hb hq hlt
    · rw [gup2_a _ _ hq] at hlt
      exact qb.2.2.2 hlt
  · obtain ⟨p1, p2, p3, p4, p5⟩ := q4 b hb
    refine ⟨p1, ?_⟩
    rw [gup2_k (j := 2) _ _ (by decide)]
    by_cases hq : b = a
    · subst hq
      rw [gup2_s, iI_val ⟨by omega, by omega⟩]
      exact ⟨h0, h1, p4, p5⟩
    · rw [gup2_a _ _ hq]
      exact ⟨p2, p3, p4, p5⟩
theorem gInv_planTab {g : gG} {gh : gGh} {R AR : gR} {I AI : gI} {a : Nat} (hv : gInv g gh R AR I AI) (ha : gO g a 2) {z : Int} (h0 : 0 ≤ z) (h1 : z ≤ 16) : gInv g gh R AR (gup2 I a 2 (iI z)) AI := by
  obtain ⟨q1, q2, q3, q4, q5, q6, q7, q8⟩ := hv
  have nO : ∀ d, d ≠ 2 → ∀ b, gO g b d → gup2 I a 2 (iI z) b = I b := fun d hd b hb => gup2_o ha hb hd
  refine ⟨vRows_c q1 (nO 4 (by decide)), q2, vLine_c q3 (nO 0 (by decide)) (fun b hb => gup2_k _ _ (by decide)) (fun _ _ => rfl), fun b hb => ?_, vX_c q5 (nO 6 (by decide)), vPr_c q6 (nO 1 (by decide)), vTk_c q7 (nO 5 (by decide)) (fun _ _ => rfl) (fun _ _ => rfl), vRM_c q8 (nO 7 (by decide)) (fun _ _ => rfl) (fun hb _ _ => ⟨by rw [nO 4 (by decide) _ hb], rfl⟩)⟩
  obtain ⟨p1, p2, p3, p4, p5⟩ := q4 b hb
  refine ⟨p1, ?_⟩
  rw [gup2_k (j := 1) _ _ (by decide)]
  by_cases hq : b = a
  · subst hq
    rw [gup2_s, iI_val ⟨by omega, by omega⟩]
    exact ⟨p2, p3, h0, h1⟩
  · rw [gup2_a _ _ hq]
    exact ⟨p2, p3, p4, p5⟩
theorem gup2_e {α : Type} (f : Nat → Nat → α) {a k j : Nat} (v : α) (h : j = k) : gup2 f a k v a j = v := by rw [h, gup2_s]
theorem okPart_test {kd pc c o : Int} {f f' : Nat → Int32} (hk : kd = 1) (h : okPart kd pc f) (h0 : 0 ≤ pc) (hc : 0 ≤ c ∧ c ≤ 3) (ho : -1 ≤ o ∧ o ≤ 3) (e : ∀ j : Nat, (j : Int) < 4 * pc → f' j = f j) (e1 : f' (4 * pc).toNat = iI c) (e2 : f' (4 * pc + 2).toNat = iI o) : okPart kd (pc + 1) f' := by
  refine ⟨fun _ k hk' => ?_, fun q => absurd q (by omega), fun q => absurd q (by omega), fun q => absurd q (by omega)⟩
  by_cases hq : (k : Int) < pc
  · rw [e _ (by omega), e _ (by omega)]
    exact h.1 hk k hq
  · have : (k : Int) = pc := by omega
    rw [show 4 * k = (4 * pc).toNat from by omega, show (4 * pc).toNat + 2 = (4 * pc + 2).toNat from by omega, e1, e2, iI_val ⟨by omega, by omega⟩, iI_val ⟨by omega, by omega⟩]
    omega
theorem okPart_two {kd pc c o : Int} {f f' : Nat → Int32} (hk : kd = 2 ∨ kd = 8 ∨ kd = 3) (h : okPart kd pc f) (h0 : 0 ≤ pc) (h3 : pc ≤ 3) (hc : -1 ≤ c ∧ c ≤ 3) (ho : kd = 3 → 0 ≤ c ∧ 0 ≤ o ∧ o ≤ 3) (hr : zr o) (e : ∀ j : Nat, (j : Int) < 2 * pc → f' j = f j) (e1 : f' (2 * pc).toNat = iI c) (e2 : f' (2 * pc + 1).toNat = iI o) : okPart kd (pc + 1) f' := by
  refine ⟨fun q => absurd q (by omega), fun q => ⟨by omega, fun k hk' => ?_⟩, fun q => ⟨by omega, fun k hk' => ?_⟩, fun q => absurd q (by omega)⟩
  · by_cases hq : (k : Int) < pc
    · rw [e _ (by omega)]
      exact (h.2.1 q).2 k hq
    · have : (k : Int) = pc := by omega
      rw [show 2 * k = (2 * pc).toNat from by omega, e1, iI_val ⟨by omega, by omega⟩]
      omega
  · by_cases hq : (k : Int) < pc
    · rw [e _ (by omega), e _ (by omega)]
      exact (h.2.2.1 q).2 k hq
    · have : (k : Int) = pc := by omega
      rw [show 2 * k = (2 * pc).toNat from by omega, show (2 * pc).toNat + 1 = (2 * pc + 1).toNat from by omega, e1, e2, iI_val ⟨by omega, by omega⟩, iI_val hr]
      have := ho q
      omega
theorem okPart_col {kd pc c : Int} {f f' : Nat → Int32} (hk : kd = 7) (h : okPart kd pc f) (h0 : 0 ≤ pc) (h3 : pc ≤ 2) (hc : 0 ≤ c ∧ c ≤ 3) (e : ∀ j : Nat, (j : Int) < pc → f' j = f j) (e1 : f' pc.toNat = iI c) : okPart kd (pc + 1) f' := by
  refine ⟨fun q => absurd q (by omega), fun q => absurd q (by omega), fun q => absurd q (by omega), fun q => ⟨by omega, fun k hk' => ?_⟩⟩
  by_cases hq : (k : Int) < pc
  · rw [e _ (by omega)]
    exact (h.2.2.2 q).2 k hq
  · have : (k : Int) = pc := by omega
    rw [show k = pc.toNat from by omega, e1, iI_val ⟨by omega, by omega⟩]
    omega
