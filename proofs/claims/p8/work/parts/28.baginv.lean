section BagInv
variable {g : gG} {gh : gGh} {R AR : gR} {I AI : gI} {x : Nat}
theorem gI_x (hv : gInv g gh R AR I AI) (hx : gO g x 6) : 0 ≤ (I x 1).toInt ∧ (I x 1).toInt ≤ 936 ∧ 0 ≤ (I x 14).toInt ∧ (I x 14).toInt ≤ 7 ∧ 0 ≤ (I x 15).toInt ∧ (I x 15).toInt ≤ 8 := (hv.2.2.2.2.1 x hx).2.2.2.2.2.2.2.2.2.2.2.2.2
theorem gR_x0 (hv : gInv g gh R AR I AI) (hx : gO g x 6) : R x 0 = some (gh 28 0) ∧ gAr g (gh 28 0) 8 936 := ⟨(hv.2.2.2.2.1 x hx).1.1, (hv.2.2.2.2.1 x hx).1.2.1⟩
theorem ro28 (hv : gInv g gh R AR I AI) (hx : gO g x 6) : gh 9 (gh 28 0) = 5 := (hv.2.2.2.2.1 x hx).1.2.2
theorem gR_x2 (hv : gInv g gh R AR I AI) (hx : gO g x 6) : R x 2 = some (gh 21 0) ∧ gO g (gh 21 0) 1 := (hv.2.2.2.2.1 x hx).2.1
theorem gR_x4 (hv : gInv g gh R AR I AI) (hx : gO g x 6) : R x 4 = some (gh 23 0) ∧ gO g (gh 23 0) 3 := (hv.2.2.2.2.1 x hx).2.2.2.1
theorem gR_x7 (hv : gInv g gh R AR I AI) (hx : gO g x 6) : R x 7 = some (gh 35 0) ∧ isRA g gh AR (gh 35 0) 16 240 4 := (hv.2.2.2.2.1 x hx).2.2.2.2.2.2.1
theorem gR_x8 (hv : gInv g gh R AR I AI) (hx : gO g x 6) : R x 8 = some (gh 37 0) ∧ isR1 g gh (gh 37 0) 40 5 := (hv.2.2.2.2.1 x hx).2.2.2.2.2.2.2.1
theorem gR_x9 (hv : gInv g gh R AR I AI) (hx : gO g x 6) : R x 9 = some (gh 38 0) ∧ isR1 g gh (gh 38 0) 40 5 := (hv.2.2.2.2.1 x hx).2.2.2.2.2.2.2.2.1
theorem gR_x10 (hv : gInv g gh R AR I AI) (hx : gO g x 6) : R x 10 = some (gh 39 0) ∧ isR1 g gh (gh 39 0) 40 4 := (hv.2.2.2.2.1 x hx).2.2.2.2.2.2.2.2.2.1
theorem gR_x11 (hv : gInv g gh R AR I AI) (hx : gO g x 6) : R x 11 = some (gh 40 0) ∧ isR1 g gh (gh 40 0) 240 4 := (hv.2.2.2.2.1 x hx).2.2.2.2.2.2.2.2.2.2.1
theorem gR_x12 (hv : gInv g gh R AR I AI) (hx : gO g x 6) : R x 12 = some (gh 29 0) ∧ gAr g (gh 29 0) 9 5 := ⟨(hv.2.2.2.2.1 x hx).2.2.2.2.2.2.2.2.2.2.2.1.1, (hv.2.2.2.2.1 x hx).2.2.2.2.2.2.2.2.2.2.2.1.2.1⟩
theorem ro29 (hv : gInv g gh R AR I AI) (hx : gO g x 6) : gh 9 (gh 29 0) = 0 := (hv.2.2.2.2.1 x hx).2.2.2.2.2.2.2.2.2.2.2.1.2.2
theorem gR_x13 (hv : gInv g gh R AR I AI) (hx : gO g x 6) : R x 13 = some (gh 36 0) ∧ isRA g gh AR (gh 36 0) 8 40 5 := (hv.2.2.2.2.1 x hx).2.2.2.2.2.2.2.2.2.2.2.2.1
theorem gInv_xK {k : Nat} {v : Int32} (hv : gInv g gh R AR I AI) (hx : gO g x 6) (h : ∀ f : Nat → Int32, (∀ j, j ≠ k → f j = I x j) → f k = v → 0 ≤ (f 1).toInt ∧ (f 1).toInt ≤ 936 ∧ 0 ≤ (f 14).toInt ∧ (f 14).toInt ≤ 7 ∧ 0 ≤ (f 15).toInt ∧ (f 15).toInt ≤ 8) : gInv g gh R AR (gup2 I x k v) AI := by
  obtain ⟨q1, q2, q3, q4, q5, q6, q7, q8⟩ := hv
  have nO : ∀ d, d ≠ 6 → ∀ b, gO g b d → gup2 I x k v b = I b := fun d hd b hb => gup2_o hx hb hd
  refine ⟨vRows_c q1 (nO 4 (by decide)), q2, vLine_c q3 (nO 0 (by decide)) (fun b hb => by rw [nO 2 (by decide) b hb]) (fun _ _ => rfl), vPlan_c q4 (nO 2 (by decide)), fun b hb => ?_, vPr_c q6 (nO 1 (by decide)), vTk_c q7 (nO 5 (by decide)) (fun _ _ => rfl) (fun _ _ => rfl), vRM_c q8 (nO 7 (by decide)) (fun _ _ => rfl) (fun hb _ _ => ⟨by rw [nO 4 (by decide) _ hb], rfl⟩)⟩
  obtain ⟨p0, p1, p2, p3, p4, p5, p6, p7, p8, p9, p10, p11, p12, p13⟩ := q5 b hb
  refine ⟨p0, p1, p2, p3, p4, p5, p6, p7, p8, p9, p10, p11, p12, ?_⟩
  by_cases hq : b = x
  · subst hq
    exact h _ (fun j hj => gup2_k _ _ hj) (gup2_s _ _ _ _)
  · rw [gup2_a _ _ hq, gup2_a _ _ hq, gup2_a _ _ hq]
    exact p13
theorem gInv_x1 {z : Int} (hv : gInv g gh R AR I AI) (hx : gO g x 6) (h0 : 0 ≤ z) (h9 : z ≤ 936) : gInv g gh R AR (gup2 I x 1 (iI z)) AI := gInv_xK hv hx (fun f e1 e2 => by
  have h := gI_x hv hx
  rw [e1 14 (by decide), e1 15 (by decide), e2, iI_val ⟨by omega, by omega⟩]
  omega)
theorem gInv_x14 {z : Int} (hv : gInv g gh R AR I AI) (hx : gO g x 6) (h0 : 0 ≤ z) (h9 : z ≤ 7) : gInv g gh R AR (gup2 I x 14 (iI z)) AI := gInv_xK hv hx (fun f e1 e2 => by
  have h := gI_x hv hx
  rw [e1 1 (by decide), e1 15 (by decide), e2, iI_val ⟨by omega, by omega⟩]
  omega)
theorem gInv_x15 {z : Int} (hv : gInv g gh R AR I AI) (hx : gO g x 6) (h0 : 0 ≤ z) (h9 : z ≤ 8) : gInv g gh R AR (gup2 I x 15 (iI z)) AI := gInv_xK hv hx (fun f e1 e2 => by
  have h := gI_x hv hx
  rw [e1 1 (by decide), e1 14 (by decide), e2, iI_val ⟨by omega, by omega⟩]
  omega)
theorem gInv_x16 {v : Int32} (hv : gInv g gh R AR I AI) (hx : gO g x 6) : gInv g gh R AR (gup2 I x 16 v) AI := gInv_xK hv hx (fun f e1 e2 => by
  have h := gI_x hv hx
  rw [e1 1 (by decide), e1 14 (by decide), e1 15 (by decide)]
  exact h)
theorem gInv_x17 {v : Int32} (hv : gInv g gh R AR I AI) (hx : gO g x 6) : gInv g gh R AR (gup2 I x 17 v) AI := gInv_xK hv hx (fun f e1 e2 => by
  have h := gI_x hv hx
  rw [e1 1 (by decide), e1 14 (by decide), e1 15 (by decide)]
  exact h)
theorem gInv_Rx {k b : Nat} (hv : gInv g gh R AR I AI) (hx : gO g x 6) (hk : k = 3 ∧ gO g b 2 ∨ (k = 5 ∨ k = 6) ∧ isRA g gh AR b 16 120 4) : gInv g gh (gup2 R x k (some b)) AR I AI := by
  obtain ⟨q1, q2, q3, q4, q5, q6, q7, q8⟩ := hv
  have nO : ∀ d, d ≠ 6 → ∀ q j, gO g q d → gup2 R x k (some b) q j = R q j := fun d hd q j hq => gup2_a _ _ (gO_ne hq hx hd)
  refine ⟨fun q hq => ?_, q2, fun q hq => ?_, fun q hq => ?_, fun q hq => ?_, fun q hq => ?_, fun q hq => ?_, ⟨fun q hq => ?_, q8.2⟩⟩
  · rw [nO 4 (by decide) q 2 hq]; exact q1 q hq
  · unfold vLineS; rw [nO 0 (by decide) q 7 hq]; exact q3 q hq
  · rw [nO 2 (by decide) q 0 hq]; exact q4 q hq
  · obtain ⟨p0, p1, p2, p3, p4, p5, p6, p7, p8, p9, p10, p11, p12, p13⟩ := q5 q hq
    have s : ∀ j, j ≠ 3 → j ≠ 5 → j ≠ 6 → gup2 R x k (some b) q j = R q j := fun j h3 h5 h6 => gup2_k _ _ (by omega)
    rw [s 0 (by decide) (by decide) (by decide), s 2 (by decide) (by decide) (by decide), s 4 (by decide) (by decide) (by decide), s 7 (by decide) (by decide) (by decide), s 8 (by decide) (by decide) (by decide), s 9 (by decide) (by decide) (by decide), s 10 (by decide) (by decide) (by decide), s 11 (by decide) (by decide) (by decide), s 12 (by decide) (by decide) (by decide), s 13 (by decide) (by decide) (by decide)]
    refine ⟨p0, p1, ?_, p3, ?_, ?_, p6, p7, p8, p9, p10, p11, p12, p13⟩
    · unfold gup2; split
      · rename_i e; rcases hk with ⟨_, h⟩ | ⟨h, _⟩
        · exact ⟨b, rfl, h⟩
        · omega
      · exact p2
    · unfold gup2; split
      · rename_i e; rcases hk with ⟨h, _⟩ | ⟨_, h⟩
        · omega
        · exact ⟨b, rfl, h⟩
      · exact p4
    · unfold gup2; split
      · rename_i e; rcases hk with ⟨h, _⟩ | ⟨_, h⟩
        · omega
        · exact ⟨b, rfl, h⟩
      · exact p5
  · simp only [nO 1 (by decide) q _ hq]; exact q6 q hq
  · simp only [nO 5 (by decide) q _ hq]; exact q7 q hq
  · simp only [nO 3 (by decide) q _ hq]; exact q8.1 q hq
/-- where the BagTree x has its plan and its bags -/
def xS (g : gG) (gh : gGh) (R AR : gR) (x p bA nA : Nat) : Prop := gO g x 6 ∧ R x 3 = some p ∧ gO g p 2 ∧ R x 5 = some bA ∧ isRA g gh AR bA 16 120 4 ∧ R x 6 = some nA ∧ isRA g gh AR nA 16 120 4
def xF (g : gG) (x : Nat) (I I' : gI) : Prop := (∀ b c, gO g b c → c ≠ 4 → c ≠ 6 → I' b = I b) ∧ I' x 1 = I x 1
theorem xF_r {I : gI} : xF g x I I := ⟨fun _ _ _ _ _ => rfl, rfl⟩
theorem xF_t {I I' I'' : gI} (h : xF g x I I') (h' : xF g x I' I'') : xF g x I I'' := ⟨fun b c hb h4 h6 => (h'.1 b c hb h4 h6).trans (h.1 b c hb h4 h6), h'.2.trans h.2⟩
theorem xF_rF {I I' : gI} (hx : gO g x 6) (h : rF g I I') : xF g x I I' := ⟨fun b c hb h4 _ => h b c hb h4, by rw [h x 6 hx (by decide)]⟩
theorem xF_k {I : gI} {k : Nat} {v : Int32} (hx : gO g x 6) (hk : k ≠ 1) : xF g x I (gup2 I x k v) := ⟨fun b c hb _ h6 => gup2_o hx hb h6, gup2_k _ _ (Ne.symm hk)⟩
end BagInv
