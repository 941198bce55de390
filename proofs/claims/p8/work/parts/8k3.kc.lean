/-! what a call of the class leaves of its engine -/
def kC8 (g : gG) (AR : gR) (bA : Nat) (I AI I1 AI1 : gI) : Prop :=
  (∀ y, gO (gW g (I, AI)) y 0 → AI1 (hG (gZ g) 3 y) = AI (hG (gZ g) 3 y)) ∧ cmS (hG (gZ g)) AR (gZ g + 0) bA I AI I1 AI1 ∧ (∀ j, j ≠ 1 → I1 (gZ g + 0) j = I (gZ g + 0) j) ∧ I1 (hG (gZ g) 38 0) 3 = I (hG (gZ g) 38 0) 3
section KC8
variable {g : gG} {I AI I1 AI1 I2 AI2 I0 AI0 : gI} {R R1 R2 AR : gR} {pA bA nA : Nat}
theorem kC_r : kC8 g AR bA I AI I AI := ⟨fun _ _ => rfl, cS_r, fun _ _ => rfl, rfl⟩
theorem c29_0 : hG (gZ g) 9 (gZ g + 187) = 0 := hG9.trans (by decide +kernel)
theorem kC_x (hv : gInv (gW g (I, AI)) (ghF 0 (hG (gZ g))) R AR I0 AI0) (hx : xS (gW g (I, AI)) (hG (gZ g)) R1 AR (gZ g + 0) pA bA nA) (f1 : ∀ b, b ≠ gZ g + 0 → I1 b = I b) (f2 : ∀ j, j ≠ 1 → I1 (gZ g + 0) j = I (gZ g + 0) j) : kC8 g AR bA I AI I1 AI := by
  have k : ∀ b, gO (gW g (I, AI)) b 4 → I1 b = I b := fun b hb => f1 b (gO_ne hb hx.1 (by decide))
  refine ⟨fun _ _ => rfl, ⟨fun r hr => ?_, fun r hr => ?_, fun r hr => ?_⟩, f2, by rw [k _ (e_38 hv hx.1).1]⟩
  · exact rfC_k (k _ (isRA_o hx.2.2.2.2.1 hr).2.1) rfl
  · exact rfC_k (k _ (isRA_o (e_35 hv hx.1) hr).2.1) rfl
  · exact rfC_k (k _ (isRA_o (e_36 hv hx.1) hr).2.1) rfl
theorem kC_29 (hv : gInv (gW g (I, AI)) (ghF 0 (hG (gZ g))) R AR I0 AI0) (hx : xS (gW g (I, AI)) (hG (gZ g)) R1 AR (gZ g + 0) pA bA nA) (f3 : ∀ b, b ≠ gZ g + 187 → AI1 b = AI b) : kC8 g AR bA I AI I AI1 :=
  ⟨fun y hy => f3 _ (ne_9 (e_c2 hv hy) c29_0 (by decide)), cS_29 hv hx (fun b hb => f3 b (ne_9 hb c29_0 (by decide))), fun _ _ => rfl, rfl⟩
theorem kC_37 (hv : gInv (gW g (I, AI)) (ghF 0 (hG (gZ g))) R AR I0 AI0) (hx : xS (gW g (I, AI)) (hG (gZ g)) R1 AR (gZ g + 0) pA bA nA) (hD : xD (hG (gZ g)) AR bA nA) (ho : gO (gW g (I, AI)) (gZ g + 179) 4) (f1 : ∀ b, b ≠ gZ g + 179 → I1 b = I b) (f3 : ∀ b, b ≠ gZ g + 187 → b ≠ gZ g + 180 → AI1 b = AI b) : kC8 g AR bA I AI I1 AI1 := by
  have c180 : hG (gZ g) 9 (gZ g + 180) = 1 := hG9.trans (by decide +kernel)
  refine ⟨fun y hy => f3 _ (ne_9 (e_c2 hv hy) c29_0 (by decide)) (ne_9 (e_c2 hv hy) c180 (by decide)), cS_37 hv hx ho (fun b _ hn => f1 b hn) (fun b hb hn => f3 b (ne_9 hb c29_0 (by decide)) hn), fun j _ => ?_, ?_⟩
  · rw [f1 _ (gO_ne hx.1 ho (by decide))]
  · rw [f1 _ (fun e => hD.2.2.2.2.2.2.1 e.symm)]
theorem kC_40 (hv : gInv (gW g (I, AI)) (ghF 0 (hG (gZ g))) R AR I0 AI0) (hx : xS (gW g (I, AI)) (hG (gZ g)) R1 AR (gZ g + 0) pA bA nA) (hD : xD (hG (gZ g)) AR bA nA) (f1 : ∀ b, b ≠ hG (gZ g) 40 0 → I1 b = I b) (f3 : ∀ b, b ≠ gZ g + 187 → b ≠ hG (gZ g) 0 (hG (gZ g) 40 0) → AI1 b = AI b) : kC8 g AR bA I AI I1 AI1 := by
  have o := e_40 hv hx.1
  have o8 := e_38 hv hx.1
  have c1 := e_c1 hv o.1
  refine ⟨fun y hy => f3 _ (ne_9 (e_c2 hv hy) c29_0 (by decide)) (ne_9 (e_c2 hv hy) c1 (by decide)), cS_40 hv hx hD (fun b _ hn => f1 b hn) (fun b hb hn => f3 b (ne_9 hb c29_0 (by decide)) hn), fun j _ => ?_, ?_⟩
  · rw [f1 _ (gO_ne hx.1 o.1 (by decide))]
  · rw [f1 _ (fun e => by have a := o8.2.2; rw [e, o.2.2] at a; exact absurd a (by decide))]
theorem kC_w (fA : ∀ y, gO (gW g (I, AI)) y 0 → AI1 (hG (gZ g) 3 y) = AI (hG (gZ g) 3 y)) (fS : cmS (hG (gZ g)) AR (gZ g + 0) bA I AI I1 AI1) (fx : I1 (gZ g + 0) = I (gZ g + 0)) (f38 : I1 (hG (gZ g) 38 0) = I (hG (gZ g) 38 0)) : kC8 g AR bA I AI I1 AI1 :=
  ⟨fA, fS, fun j _ => by rw [fx], by rw [f38]⟩
/-- the engine over a call of both that leaves it as it was -/
theorem lE_k8 (hOK : gOK g) (hv0 : gInv (gW g (I, AI)) (ghF 0 (hG (gZ g))) R1 AR I1 AI1) (hx : xS (gW g (I, AI)) (hG (gZ g)) R1 AR (gZ g + 0) pA bA nA) (h : lE8 g I AR AI pA bA nA) (fI : ∀ b c, gO (gW g (I, AI)) b c → c ≠ 4 → c ≠ 6 → I1 b = I b) (k : kC8 g AR bA I AI I1 AI1) (hmv2 : mInv (gW g (I1, AI1)) (hGm (gZ g)) R2 I2 AI2) (ht : AI2 (gZ g + 206) = AI1 (gZ g + 206)) (h2 : (I2 (gZ g + 205) 2).toInt = (I1 (gZ g + 205) 2).toInt)
    (hs : ∀ sd : Int, 0 ≤ sd → sd ≤ 9 → sE8 (rsM (hGm (gZ g)) AI2 sd) (rsM (hGm (gZ g)) AI1 sd)) (h8 : I2 (gZ g + 205) 8 = I1 (gZ g + 205) 8 ∧ I2 (gZ g + 205) 9 = I1 (gZ g + 205) 9 ∧ I2 (gZ g + 205) 10 = I1 (gZ g + 205) 10) (hb : ∀ tbs cl, lB8 g I AI tbs cl → lB8 g I2 AI2 tbs cl) : lE8 g I2 AR AI2 pA bA nA :=
  lE_k hOK hv0 hx h fI k.1 k.2.1 k.2.2.1 k.2.2.2 (e_n1 hmv2) (e_n2 hmv2) ht h2 hs h8 hb
/-- the batch over such a call -/
theorem lB_m (hOK : gOK g) (hv1 : gInv (gW g (I, AI)) (hG (gZ g)) R AR I1 AI1) (hmv2 : mInv (gW g (I1, AI1)) (hGm (gZ g)) R2 I2 AI2) : ∀ tbs cl, lB8 g I AI tbs cl → lB8 g I2 AI2 tbs cl := by
  have b := (hv1.2.2.2.2.2.2.2.2.2.2 rfl).2.2
  have b1 : I1 (gZ g + 179) 3 = I (gZ g + 179) 3 := b.1
  have b2 : AI1 (gZ g + 180) = AI (gZ g + 180) := b.2
  have o : gO (gW g (I2, AI2)) (gZ g + 179) 4 := gO_i hOK (o := 179) (by decide) (by decide +kernel)
  exact lB_k (by rw [e_n1 hmv2 _ 4 o (by decide)]; exact b1) ((e_n2 hmv2 _ 1 (hG9.trans (by decide +kernel)) (by decide)).trans b2)
theorem lB_m0 (hOK : gOK g) (hmv2 : mInv (gW g (I1, AI1)) (hGm (gZ g)) R2 I2 AI2) (b0 : (I1 (gZ g + 179) 3).toInt = 0) : ∀ tbs cl, lB8 g I AI tbs cl → lB8 g I2 AI2 tbs cl := fun _ _ _ => by
  have o : gO (gW g (I2, AI2)) (gZ g + 179) 4 := gO_i hOK (o := 179) (by decide) (by decide +kernel)
  exact lB_0 (by rw [e_n1 hmv2 _ 4 o (by decide)]; exact b0)
/-- both have been fed -/
theorem lE_fd (hOK : gOK g) (hv : gInv (gW g (I, AI)) (ghF 0 (hG (gZ g))) R AR I AI) (hx : xS (gW g (I, AI)) (hG (gZ g)) R AR (gZ g + 0) pA bA nA) (h : lE8 g I AR AI pA bA nA) (e1 : ∀ b, b ≠ gZ g + 0 → b ≠ gZ g + 205 → I2 b = I b) (e2 : ∀ j, j ≠ 1 → I2 (gZ g + 0) j = I (gZ g + 0) j) (e3 : ∀ j, j ≠ 16 → j ≠ 17 → I2 (gZ g + 205) j = I (gZ g + 205) j) (e4 : ∀ b, b ≠ gZ g + 1 → b ≠ gZ g + 215 → AI2 b = AI b) : lE8 g I2 AR AI2 pA bA nA := by
  obtain ⟨nr, tbs, cc, cl, hP, hQ, hB⟩ := h
  have o5 : gO (gW g (I, AI)) (gZ g + 205) 7 := gO_i hOK (o := 205) (by decide) (by decide +kernel)
  have o9 : gO (gW g (I, AI)) (gZ g + 179) 4 := gO_i hOK (o := 179) (by decide) (by decide +kernel)
  have k : ∀ b c, gO (gW g (I, AI)) b c → c ≠ 6 → c ≠ 7 → I2 b = I b := fun b c hb h6 h7 => e1 b (gO_ne hb hx.1 h6) (gO_ne hb o5 h7)
  have c5 : ∀ o, (o = 1 ∨ o = 215) → hG (gZ g) 9 (gZ g + o) = 5 := fun o ho => by rcases ho with rfl | rfl <;> exact hG9.trans (by decide +kernel)
  have ka : ∀ b n, hG (gZ g) 9 b = n → n ≠ 5 → AI2 b = AI b := fun b n hb hn => e4 b (ne_9 hb (c5 1 (by decide)) hn) (ne_9 hb (c5 215 (by decide)) hn)
  have kA : ∀ o, o ≠ 1 → o ≠ 215 → AI2 (gZ g + o) = AI (gZ g + o) := fun o h1 h2 => e4 _ (by omega) (by omega)
  have hp := hx.2.2.1
  have k4 : ∀ b, gO (gW g (I, AI)) b 4 → I2 b = I b ∧ AI2 (hG (gZ g) 0 b) = AI (hG (gZ g) 0 b) := fun b hb => ⟨k b 4 hb (by decide) (by decide), ka _ 1 (e_c1 hv hb) (by decide)⟩
  have er : rsM (hGm (gZ g)) AI2 = rsM (hGm (gZ g)) AI := funext fun sd => rsM_g (kA 210 (by decide) (by decide)) (kA 211 (by decide) (by decide)) (kA 219 (by decide) (by decide))
  have h16 := hP.2.2.1.2.2
  refine ⟨nr, tbs, cc, cl, ?_, ⟨?_, ?_, fun r hr => ?_, hQ.2.2.2.1, ?_⟩, ?_⟩
  · unfold lP8
    rw [k pA 2 hp (by decide) (by decide), kA 206 (by decide) (by decide), e3 2 (by decide) (by decide)]
    refine ⟨hP.1, hP.2.1, hP.2.2.1, fun r hr => ?_, hP.2.2.2.2.1, hP.2.2.2.2.2⟩
    have hy : gO (gW g (I, AI)) (rob AR (hG (gZ g) 6 pA) r) 0 := gl_o (gh := ghF 0 (hG (gZ g))) hv hp (by omega)
    rw [k _ 0 hy (by decide) (by decide), ka _ 2 (e_c2 hv hy) (by decide)]
    exact hP.2.2.2.1 r hr
  · rw [er]
    refine eS_c (e_cLt hP) hP.2.2.1.2.1 h16 hQ.1 (fun r hr => ?_) (fun q hq => ?_) (fun _ _ _ _ _ => rfl) (by rw [e2 14 (by decide)]) (by rw [e2 15 (by decide)])
    · have w := k4 _ (isRA_o hx.2.2.2.2.1 (show r < 16 by omega)).2.1
      exact rfC_k w.1 w.2
    · have w := k4 _ (isRA_o (e_36 hv hx.1) hq).2.1
      exact rfC_k w.1 w.2
  · rw [e2 15 (by decide), e2 16 (by decide), e2 17 (by decide), e3 8 (by decide) (by decide), e3 9 (by decide) (by decide), e3 10 (by decide) (by decide)]
    exact hQ.2.1
  · have w := k4 _ (isRA_o (e_35 hv hx.1) (show r < 16 by omega)).2.1
    rw [rfC_k w.1 w.2, er, show rfM (hGm (gZ g)) AI2 = rfM (hGm (gZ g)) AI from funext fun sd => rfM_g (kA 210 (by decide) (by decide)) (kA 211 (by decide) (by decide))]
    exact hQ.2.2.1 r hr
  · rw [(k4 _ (e_38 hv hx.1).1).1]; exact hQ.2.2.2.2
  · exact lB_k (by rw [(k4 _ o9).1]) (kA 180 (by decide) (by decide)) _ _ hB
end KC8
