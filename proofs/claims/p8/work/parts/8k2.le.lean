/-! what the law keeps of the engine over both systems: the plans are alike (lP8), the bags, the history, the numbers (lQ8), the batch (lB8) -/
def lP8 (g : gG) (I : gI) (AR : gR) (AI : gI) (pA nr : Nat) (tbs : Int) (cc : Nat → LC) (cl : Nat → Int) : Prop :=
  (I pA 1).toInt = (nr : Int) ∧ (I pA 2).toInt = tbs ∧ (0 ≤ tbs ∧ tbs ≤ (nr : Int) ∧ nr ≤ 16) ∧
  (∀ r, r < nr → lnC (I (rob AR (hG (gZ g) 6 pA) r)) (AI (hG (gZ g) 3 (rob AR (hG (gZ g) 6 pA) r))) (cc r)) ∧
  ((I (gZ g + 205) 2).toInt = (nr : Int) ∧ plM9 (AI (gZ g + 206)) tbs nr cc cl) ∧
  ∀ r : Nat, r < nr → tI (AI (gZ g + 206)) (40 * (r : Int) + 1) = cl r ∧ 1 ≤ cl r ∧ (cc r).1 1 = cl r
def lQ8 (g : gG) (I : gI) (AR : gR) (AI : gI) (bA nA nr : Nat) (tbs : Int) (cc : Nat → LC) (cl : Nat → Int) : Prop :=
  eS8 tbs nr cc cl (rfC (hG (gZ g)) AR I AI bA) (rfC (hG (gZ g)) AR I AI (hG (gZ g) 36 0)) (rsM (hGm (gZ g)) AI) (I (gZ g + 0) 14).toInt (I (gZ g + 0) 15).toInt ∧
  ((I (gZ g + 0) 15).toInt = (I (gZ g + 205) 8).toInt ∧ I (gZ g + 0) 16 = I (gZ g + 205) 9 ∧ I (gZ g + 0) 17 = I (gZ g + 205) 10) ∧
  (∀ r, r < nr → isB (rfC (hG (gZ g)) AR I AI (hG (gZ g) 35 0) r).2 (rfC (hG (gZ g)) AR I AI (hG (gZ g) 35 0) r).1 (mv8 (rsM (hGm (gZ g)) AI 0) (rsM (hGm (gZ g)) AI 9) r) zM ∧ bgOK (rfM (hGm (gZ g)) AI 9) cl r) ∧
  xD (hG (gZ g)) AR bA nA ∧ (I (hG (gZ g) 38 0) 3).toInt = 0
def lB8 (g : gG) (I AI : gI) (tbs : Int) (cl : Nat → Int) : Prop := bG8 tbs cl (AI (gZ g + 180)) (I (gZ g + 179) 3).toInt.toNat
def lE8 (g : gG) (I : gI) (AR : gR) (AI : gI) (pA bA nA : Nat) : Prop :=
  ∃ (nr : Nat) (tbs : Int) (cc : Nat → LC) (cl : Nat → Int), lP8 g I AR AI pA nr tbs cc cl ∧ lQ8 g I AR AI bA nA nr tbs cc cl ∧ lB8 g I AI tbs cl
section LE8
variable {g : gG} {M : gI × gI} {I AI I1 AI1 I2 AI2 I0 AI0 : gI} {R R1 R2 AR : gR} {pA bA nA nr nb q : Nat} {tbs : Int} {cc : Nat → LC} {cl : Nat → Int}
/-! the class does not touch the reference -/
theorem e_t5 (hv1 : gInv (gW g M) (ghF 0 (hG (gZ g))) R AR I1 AI1) {o : Nat} (ho : t9 o = 5) : AI1 (gZ g + o) = M.2 (gZ g + o) := hv1.2.2.2.2.2.2.2.2.2.1 _ (hG9.trans ho)
theorem e_mo (hOK : gOK g) (hv1 : gInv (gW g M) (ghF 0 (hG (gZ g))) R AR I1 AI1) : I1 (gZ g + 205) = M.1 (gZ g + 205) := hv1.2.2.2.2.2.2.2.2.1 _ (gO_i hOK (o := 205) (by decide) (by decide +kernel))
theorem e_rs (hv1 : gInv (gW g (I, AI)) (ghF 0 (hG (gZ g))) R AR I1 AI1) : rsM (hGm (gZ g)) AI1 = rsM (hGm (gZ g)) AI := funext fun sd => rsM_g (e_t5 hv1 (o := 210) (by decide +kernel)) (e_t5 hv1 (o := 211) (by decide +kernel)) (e_t5 hv1 (o := 219) (by decide +kernel))
theorem e_rf (hv1 : gInv (gW g (I, AI)) (ghF 0 (hG (gZ g))) R AR I1 AI1) : rfM (hGm (gZ g)) AI1 = rfM (hGm (gZ g)) AI := funext fun sd => rfM_g (e_t5 hv1 (o := 210) (by decide +kernel)) (e_t5 hv1 (o := 211) (by decide +kernel))
/-! the reference does not touch the class -/
theorem e_n1 (h : mInv (gW g (I1, AI1)) (hGm (gZ g)) R2 I2 AI2) : ∀ b c, gO (gW g (I2, AI2)) b c → c ≠ 7 → I2 b = I1 b := h.2.2.1
theorem e_n2 (h : mInv (gW g (I1, AI1)) (hGm (gZ g)) R2 I2 AI2) : ∀ b n, hG (gZ g) 9 b = n → n ≠ 5 → AI2 b = AI1 b := fun b n hb hn => h.2.2.2 b (hGm_ne hb hn)
theorem e_n2c (h : mInv (gW g (I1, AI1)) (hGc (gZ g)) R2 I2 AI2) : ∀ b n, hG (gZ g) 9 b = n → n ≠ 5 → AI2 b = AI1 b := fun b n hb hn => h.2.2.2 b (hGc_ne hb hn)
/-! rows of Rows -/
theorem e_35 (hv : gInv (gW g M) (ghF 0 (hG (gZ g))) R AR I0 AI0) (hx : gO (gW g M) (gZ g + 0) 6) : isRA (gW g M) (hG (gZ g)) AR (hG (gZ g) 35 0) 16 240 4 := (hv.2.2.2.2.1 _ hx).2.2.2.2.2.2.1.2
theorem e_36 (hv : gInv (gW g M) (ghF 0 (hG (gZ g))) R AR I0 AI0) (hx : gO (gW g M) (gZ g + 0) 6) : isRA (gW g M) (hG (gZ g)) AR (hG (gZ g) 36 0) 8 40 5 := (hv.2.2.2.2.1 _ hx).2.2.2.2.2.2.2.2.2.2.2.2.1.2
theorem e_14 (hv : gInv (gW g M) (ghF 0 (hG (gZ g))) R AR I0 AI0) (hx : gO (gW g M) (gZ g + 0) 6) : 0 ≤ (I0 (gZ g + 0) 14).toInt ∧ (I0 (gZ g + 0) 14).toInt ≤ 7 := ⟨(hv.2.2.2.2.1 _ hx).2.2.2.2.2.2.2.2.2.2.2.2.2.2.2.1, (hv.2.2.2.2.1 _ hx).2.2.2.2.2.2.2.2.2.2.2.2.2.2.2.2.1⟩
theorem e_len (hv : gInv (gW g M) (ghF 0 (hG (gZ g))) R AR I0 AI0) {o : Nat} (ho : gO (gW g M) o 4) : 0 ≤ (I0 o 3).toInt := (hv.1 o ho).2.1.2.2.1
theorem e_c1 (hv : gInv (gW g M) (ghF 0 (hG (gZ g))) R AR I0 AI0) {o : Nat} (ho : gO (gW g M) o 4) : hG (gZ g) 9 (hG (gZ g) 0 o) = 1 := (hv.1 o ho).1.2.2.1
theorem e_c2 (hv : gInv (gW g M) (ghF 0 (hG (gZ g))) R AR I0 AI0) {y : Nat} (hy : gO (gW g M) y 0) : hG (gZ g) 9 (hG (gZ g) 3 y) = 2 := ln_9 (gh := ghF 0 (hG (gZ g))) hv hy
theorem e_0i (hv : gInv (gW g M) (ghF 0 (hG (gZ g))) R AR I0 AI0) {o o' : Nat} (ho : gO (gW g M) o 4) (ho' : gO (gW g M) o' 4) (h : o ≠ o') : hG (gZ g) 0 o ≠ hG (gZ g) 0 o' := fun e => h (by
  have a : hG (gZ g) 7 (hG (gZ g) 0 o) = o := (hv.1 o ho).1.2.2.2
  have b : hG (gZ g) 7 (hG (gZ g) 0 o') = o' := (hv.1 o' ho').1.2.2.2
  rw [← a, e, b])
theorem e_38 (hv : gInv (gW g M) (ghF 0 (hG (gZ g))) R AR I0 AI0) (hx : gO (gW g M) (gZ g + 0) 6) : gO (gW g M) (hG (gZ g) 38 0) 4 ∧ hG (gZ g) 1 (hG (gZ g) 38 0) = 40 ∧ hG (gZ g) 2 (hG (gZ g) 38 0) = 5 := (hv.2.2.2.2.1 _ hx).2.2.2.2.2.2.2.2.1.2
theorem e_40 (hv : gInv (gW g M) (ghF 0 (hG (gZ g))) R AR I0 AI0) (hx : gO (gW g M) (gZ g + 0) 6) : gO (gW g M) (hG (gZ g) 40 0) 4 ∧ hG (gZ g) 1 (hG (gZ g) 40 0) = 240 ∧ hG (gZ g) 2 (hG (gZ g) 40 0) = 4 := (hv.2.2.2.2.1 _ hx).2.2.2.2.2.2.2.2.2.2.1.2
/-- all Rows stay but o -/
theorem cS_of (hv : gInv (gW g M) (ghF 0 (hG (gZ g))) R AR I0 AI0) (hx : xS (gW g M) (hG (gZ g)) R1 AR (gZ g + 0) pA bA nA) {o : Nat} (ho : gO (gW g M) o 4) (n1 : ∀ i, i < 16 → rob AR bA i ≠ o) (n2 : ∀ i, i < 16 → rob AR (hG (gZ g) 35 0) i ≠ o) (n3 : ∀ i, i < 8 → rob AR (hG (gZ g) 36 0) i ≠ o)
    (fi : ∀ b, gO (gW g M) b 4 → b ≠ o → I1 b = I b) (fa : ∀ b, hG (gZ g) 9 b = 1 → b ≠ hG (gZ g) 0 o → AI1 b = AI b) : cmS (hG (gZ g)) AR (gZ g + 0) bA I AI I1 AI1 := by
  have k : ∀ b, gO (gW g M) b 4 → b ≠ o → I1 b = I b ∧ AI1 (hG (gZ g) 0 b) = AI (hG (gZ g) 0 b) := fun b hb hn => ⟨fi b hb hn, fa _ (e_c1 hv hb) (e_0i hv hb ho hn)⟩
  refine ⟨fun r hr => ?_, fun r hr => ?_, fun r hr => ?_⟩
  · have w := k _ (isRA_o hx.2.2.2.2.1 hr).2.1 (n1 r hr)
    exact rfC_k w.1 w.2
  · have w := k _ (isRA_o (e_35 hv hx.1) hr).2.1 (n2 r hr)
    exact rfC_k w.1 w.2
  · have w := k _ (isRA_o (e_36 hv hx.1) hr).2.1 (n3 r hr)
    exact rfC_k w.1 w.2
theorem cS_37 (hv : gInv (gW g M) (ghF 0 (hG (gZ g))) R AR I0 AI0) (hx : xS (gW g M) (hG (gZ g)) R1 AR (gZ g + 0) pA bA nA) (ho : gO (gW g M) (gZ g + 179) 4) (fi : ∀ b, gO (gW g M) b 4 → b ≠ gZ g + 179 → I1 b = I b) (fa : ∀ b, hG (gZ g) 9 b = 1 → b ≠ gZ g + 180 → AI1 b = AI b) : cmS (hG (gZ g)) AR (gZ g + 0) bA I AI I1 AI1 :=
  cS_of hv hx ho (fun _ hi => isRA_37 hx.2.2.2.2.1 hi) (fun _ hi => isRA_37 (e_35 hv hx.1) hi) (fun _ hi => isRA_37 (e_36 hv hx.1) hi) fi fa
theorem cS_40 (hv : gInv (gW g M) (ghF 0 (hG (gZ g))) R AR I0 AI0) (hx : xS (gW g M) (hG (gZ g)) R1 AR (gZ g + 0) pA bA nA) (hD : xD (hG (gZ g)) AR bA nA) (fi : ∀ b, gO (gW g M) b 4 → b ≠ hG (gZ g) 40 0 → I1 b = I b) (fa : ∀ b, hG (gZ g) 9 b = 1 → b ≠ hG (gZ g) 0 (hG (gZ g) 40 0) → AI1 b = AI b) : cmS (hG (gZ g)) AR (gZ g + 0) bA I AI I1 AI1 := by
  have w := e_40 hv hx.1
  exact cS_of hv hx w.1 (fun _ hi => ra_ne1 hx.2.2.2.2.1 w.2.1 w.2.2 (Or.inl (by decide)) hi) hD.2.2.2.2.2.2.2 (fun _ hi => ra_ne1 (e_36 hv hx.1) w.2.1 w.2.2 (Or.inl (by decide)) hi) fi fa
theorem cS_r : cmS (hG (gZ g)) AR (gZ g + 0) bA I AI I AI := ⟨fun _ _ => rfl, fun _ _ => rfl, fun _ _ => rfl⟩
theorem cS_29 (hv : gInv (gW g M) (ghF 0 (hG (gZ g))) R AR I0 AI0) (hx : xS (gW g M) (hG (gZ g)) R1 AR (gZ g + 0) pA bA nA) (fa : ∀ b, hG (gZ g) 9 b = 1 → AI1 b = AI b) : cmS (hG (gZ g)) AR (gZ g + 0) bA I AI I AI1 :=
  ⟨fun _ hr => rfC_k rfl (fa _ (e_c1 hv (isRA_o hx.2.2.2.2.1 hr).2.1)), fun _ hr => rfC_k rfl (fa _ (e_c1 hv (isRA_o (e_35 hv hx.1) hr).2.1)), fun _ hr => rfC_k rfl (fa _ (e_c1 hv (isRA_o (e_36 hv hx.1) hr).2.1))⟩
/-- over the reference's call -/
theorem cS_m (hv : gInv (gW g M) (ghF 0 (hG (gZ g))) R AR I0 AI0) (hx : xS (gW g M) (hG (gZ g)) R1 AR (gZ g + 0) pA bA nA) (n1 : ∀ b c, gO (gW g (I2, AI2)) b c → c ≠ 7 → I2 b = I1 b) (n2 : ∀ b n, hG (gZ g) 9 b = n → n ≠ 5 → AI2 b = AI1 b) : cmS (hG (gZ g)) AR (gZ g + 0) bA I1 AI1 I2 AI2 := by
  have k : ∀ b, gO (gW g M) b 4 → I2 b = I1 b ∧ AI2 (hG (gZ g) 0 b) = AI1 (hG (gZ g) 0 b) := fun b hb => ⟨n1 b 4 hb (by decide), n2 _ 1 (e_c1 hv hb) (by decide)⟩
  refine ⟨fun r hr => ?_, fun r hr => ?_, fun r hr => ?_⟩
  · have w := k _ (isRA_o hx.2.2.2.2.1 hr).2.1
    exact rfC_k w.1 w.2
  · have w := k _ (isRA_o (e_35 hv hx.1) hr).2.1
    exact rfC_k w.1 w.2
  · have w := k _ (isRA_o (e_36 hv hx.1) hr).2.1
    exact rfC_k w.1 w.2
/-! what the calls want -/
theorem e_hcK (h : lP8 g I AR AI pA nr tbs cc cl) : ∀ r : Nat, r < nr → tbs ≤ (r : Int) → cOK (cc r) r cl ∧ cZ (cc r) r cl := fun r h1 h2 => (h.2.2.2.2.1.2.2.2 r h1 h2).2
theorem e_cLt (h : lP8 g I AR AI pA nr tbs cc cl) : cLt tbs nr cc := cLt_of (e_hcK h)
theorem e_gd (h : lQ8 g I AR AI bA nA nr tbs cc cl) : gd8 tbs cc cl nr (rsM (hGm (gZ g)) AI 0) := h.1.2.2.1
theorem e_bgC (h : lQ8 g I AR AI bA nA nr tbs cc cl) : ∀ r, r < nr → bgOK (rfC (hG (gZ g)) AR I AI bA) cl r := fun r hr => bgOK_f (h.1.2.1 r hr) ((e_gd h).1.1 r hr).2
theorem m_bg (hv1 : gInv (gW g (I, AI)) (ghF 0 (hG (gZ g))) R AR I1 AI1) (h : lQ8 g I AR AI bA nA nr tbs cc cl) : ∀ r, r < nr → bgOK (rfM (hGm (gZ g)) AI1 0) cl r := fun r hr => by
  rw [e_rf hv1]; exact ((e_gd h).1.1 r hr).2
theorem m_ps (hv1 : gInv (gW g (I, AI)) (ghF 0 (hG (gZ g))) R AR I1 AI1) (h : lQ8 g I AR AI bA nA nr tbs cc cl) : ∀ r : Nat, (r : Int) < tbs → ∀ t, 0 ≤ (bS (rfM (hGm (gZ g)) AI1 0 r).2 (rfM (hGm (gZ g)) AI1 0 r).1 t).toInt := fun r hr => by
  rw [e_rf hv1]; exact (e_gd h).1.2 r hr
theorem m_b9 (hv1 : gInv (gW g (I, AI)) (ghF 0 (hG (gZ g))) R AR I1 AI1) (h : lQ8 g I AR AI bA nA nr tbs cc cl) : ∀ r, r < nr → bgOK (rfM (hGm (gZ g)) AI1 9) cl r := fun r hr => by
  rw [e_rf hv1]; exact (h.2.2.1 r hr).2
theorem m_vw (hv1 : gInv (gW g (I, AI)) (ghF 0 (hG (gZ g))) R AR I1 AI1) (h : lQ8 g I AR AI bA nA nr tbs cc cl) : ∀ r : Nat, r < nr → tbs ≤ (r : Int) → vwP (cc r) (rfM (hGm (gZ g)) AI1 0) 0 (rfM (hGm (gZ g)) AI1 0 r).2 (rfM (hGm (gZ g)) AI1 0 r).1 := fun r hr ht => by
  rw [e_rf hv1]
  have w := ((e_gd h).1.1 r hr).1
  unfold stP at w
  rw [if_neg (by omega)] at w
  exact w
theorem m_pl (hv1 : gInv (gW g (I, AI)) (ghF 0 (hG (gZ g))) R AR I1 AI1) (h : lP8 g I AR AI pA nr tbs cc cl) : plM9 (AI1 (hGm (gZ g) 50 0)) tbs nr cc cl := by
  have e : AI1 (hGm (gZ g) 50 0) = AI (gZ g + 206) := e_t5 hv1 (o := 206) (by decide +kernel)
  rw [e]; exact h.2.2.2.2.1.2
theorem m_mr (hOK : gOK g) (hv1 : gInv (gW g (I, AI)) (ghF 0 (hG (gZ g))) R AR I1 AI1) (h : lP8 g I AR AI pA nr tbs cc cl) : (I1 (gZ g + 205) 2).toInt = (nr : Int) := by
  rw [e_mo hOK hv1]; exact h.2.2.2.2.1.1
theorem m_bt (hv1 : gInv (gW g (I, AI)) (ghF 0 (hG (gZ g))) R AR I1 AI1) (h : lB8 g I AI tbs cl) (h0 : 0 ≤ (I (gZ g + 179) 3).toInt) (hr : ∀ i : Nat, (i : Int) < (I (gZ g + 179) 3).toInt → rwE (AI (gZ g + 180)) (AI (gZ g + 212)) (AI (gZ g + 213)) (AI (gZ g + 214)) i) : btM9 (hGm (gZ g)) AI1 (AI (gZ g + 180)) (I (gZ g + 179) 3).toInt.toNat tbs cl := by
  have a : AI1 (hGm (gZ g) 61 0) = AI (gZ g + 212) := e_t5 hv1 (o := 212) (by decide +kernel)
  have b : AI1 (hGm (gZ g) 62 0) = AI (gZ g + 213) := e_t5 hv1 (o := 213) (by decide +kernel)
  have c : AI1 (hGm (gZ g) 63 0) = AI (gZ g + 214) := e_t5 hv1 (o := 214) (by decide +kernel)
  refine ⟨fun i hi => ?_, bG_o h, bG_z h, bG_t h⟩
  rw [a, b, c]
  have w := hr i (by omega)
  exact ⟨w.1.symm, fun k hk => (w.2.1 k hk).symm, w.2.2.symm⟩
/-! a call that leaves the engine as it was -/
theorem lP_k (hOK : gOK g) (hv0 : gInv (gW g (I, AI)) (ghF 0 (hG (gZ g))) R1 AR I1 AI1) (hp : gO (gW g (I, AI)) pA 2) (h : lP8 g I AR AI pA nr tbs cc cl) (fI : ∀ b c, gO (gW g (I, AI)) b c → c ≠ 4 → c ≠ 6 → I1 b = I b) (fA : ∀ y, gO (gW g (I, AI)) y 0 → AI1 (hG (gZ g) 3 y) = AI (hG (gZ g) 3 y))
    (n1 : ∀ b c, gO (gW g (I2, AI2)) b c → c ≠ 7 → I2 b = I1 b) (n2 : ∀ b n, hG (gZ g) 9 b = n → n ≠ 5 → AI2 b = AI1 b) (ht : AI2 (gZ g + 206) = AI1 (gZ g + 206)) (h2 : (I2 (gZ g + 205) 2).toInt = (I1 (gZ g + 205) 2).toInt) : lP8 g I2 AR AI2 pA nr tbs cc cl := by
  obtain ⟨a1, a2, a3, a4, a5, a6⟩ := h
  have ep : I2 pA = I pA := (n1 pA 2 hp (by decide)).trans (fI pA 2 hp (by decide) (by decide))
  have et : AI2 (gZ g + 206) = AI (gZ g + 206) := ht.trans (e_t5 hv0 (o := 206) (by decide +kernel))
  unfold lP8
  rw [ep, et, h2, e_mo hOK hv0]
  refine ⟨a1, a2, a3, fun r hr => ?_, a5, a6⟩
  have hy : gO (gW g (I, AI)) (rob AR (hG (gZ g) 6 pA) r) 0 := gl_o (gh := ghF 0 (hG (gZ g))) hv0 hp (by omega)
  rw [(n1 _ 0 hy (by decide)).trans (fI _ 0 hy (by decide) (by decide)), (n2 _ 2 (e_c2 hv0 hy) (by decide)).trans (fA _ hy)]
  exact a4 r hr
theorem lQ_k (hOK : gOK g) (hv0 : gInv (gW g (I, AI)) (ghF 0 (hG (gZ g))) R1 AR I1 AI1) (hx : xS (gW g (I, AI)) (hG (gZ g)) R1 AR (gZ g + 0) pA bA nA) (hP : lP8 g I AR AI pA nr tbs cc cl) (h : lQ8 g I AR AI bA nA nr tbs cc cl) (fS : cmS (hG (gZ g)) AR (gZ g + 0) bA I AI I1 AI1) (fx : I1 (gZ g + 0) 14 = I (gZ g + 0) 14 ∧ I1 (gZ g + 0) 15 = I (gZ g + 0) 15) (f38 : I1 (hG (gZ g) 38 0) 3 = I (hG (gZ g) 38 0) 3)
    (n1 : ∀ b c, gO (gW g (I2, AI2)) b c → c ≠ 7 → I2 b = I1 b) (n2 : ∀ b n, hG (gZ g) 9 b = n → n ≠ 5 → AI2 b = AI1 b) (hs : ∀ sd : Int, 0 ≤ sd → sd ≤ 9 → sE8 (rsM (hGm (gZ g)) AI2 sd) (rsM (hGm (gZ g)) AI1 sd)) (h8 : I2 (gZ g + 205) 8 = I1 (gZ g + 205) 8) (hn : I2 (gZ g + 0) 16 = I2 (gZ g + 205) 9 ∧ I2 (gZ g + 0) 17 = I2 (gZ g + 205) 10) : lQ8 g I2 AR AI2 bA nA nr tbs cc cl := by
  obtain ⟨b1, b2, b3, b4, b5⟩ := h
  have fM := cS_m hv0 hx n1 n2
  have ex : I2 (gZ g + 0) = I1 (gZ g + 0) := n1 _ 6 hx.1 (by decide)
  have hs' : ∀ sd : Int, 0 ≤ sd → sd ≤ 9 → sE8 (rsM (hGm (gZ g)) AI2 sd) (rsM (hGm (gZ g)) AI sd) := fun sd a b r hr => by
    have w := hs sd a b r hr
    rw [e_rs hv0] at w; exact w
  have h16 := hP.2.2.1.2.2
  refine ⟨eS_c (e_cLt hP) hP.2.2.1.2.1 h16 b1 (fun r hr => (fM.1 r (by omega)).trans (fS.1 r (by omega))) (fun k hk => (fM.2.2 k hk).trans (fS.2.2 k hk)) (fun sd a b => hs' sd a (by omega)) (by rw [ex, fx.1]) (by rw [ex, fx.2]), ⟨?_, hn⟩, fun r hr => ?_, b4, ?_⟩
  · rw [ex, fx.2, h8, e_mo hOK hv0]; exact b2.1
  · rw [(fM.2.1 r (by omega)).trans (fS.2.1 r (by omega)), mv_e (hs' 0 (by decide) (by decide)) (hs' 9 (by decide) (by decide)) (by omega)]
    refine ⟨(b3 r hr).1, ?_⟩
    have w := (b3 r hr).2
    unfold bgOK at w ⊢
    rw [show rfM (hGm (gZ g)) AI2 9 r = rfM (hGm (gZ g)) AI 9 r from sE_f (hs' 9 (by decide) (by decide)) r (by omega)]
    exact w
  · rw [n1 _ 4 (e_38 hv0 hx.1).1 (by decide), f38]; exact b5
theorem lE_k (hOK : gOK g) (hv0 : gInv (gW g (I, AI)) (ghF 0 (hG (gZ g))) R1 AR I1 AI1) (hx : xS (gW g (I, AI)) (hG (gZ g)) R1 AR (gZ g + 0) pA bA nA) (h : lE8 g I AR AI pA bA nA) (fI : ∀ b c, gO (gW g (I, AI)) b c → c ≠ 4 → c ≠ 6 → I1 b = I b) (fA : ∀ y, gO (gW g (I, AI)) y 0 → AI1 (hG (gZ g) 3 y) = AI (hG (gZ g) 3 y)) (fS : cmS (hG (gZ g)) AR (gZ g + 0) bA I AI I1 AI1) (fx : ∀ j, j ≠ 1 → I1 (gZ g + 0) j = I (gZ g + 0) j) (f38 : I1 (hG (gZ g) 38 0) 3 = I (hG (gZ g) 38 0) 3)
    (n1 : ∀ b c, gO (gW g (I2, AI2)) b c → c ≠ 7 → I2 b = I1 b) (n2 : ∀ b n, hG (gZ g) 9 b = n → n ≠ 5 → AI2 b = AI1 b) (ht : AI2 (gZ g + 206) = AI1 (gZ g + 206)) (h2 : (I2 (gZ g + 205) 2).toInt = (I1 (gZ g + 205) 2).toInt)
    (hs : ∀ sd : Int, 0 ≤ sd → sd ≤ 9 → sE8 (rsM (hGm (gZ g)) AI2 sd) (rsM (hGm (gZ g)) AI1 sd)) (h8 : I2 (gZ g + 205) 8 = I1 (gZ g + 205) 8 ∧ I2 (gZ g + 205) 9 = I1 (gZ g + 205) 9 ∧ I2 (gZ g + 205) 10 = I1 (gZ g + 205) 10) (hb : ∀ tbs cl, lB8 g I AI tbs cl → lB8 g I2 AI2 tbs cl) : lE8 g I2 AR AI2 pA bA nA := by
  obtain ⟨nr, tbs, cc, cl, hP, hQ, hB⟩ := h
  have ex : I2 (gZ g + 0) = I1 (gZ g + 0) := n1 _ 6 hx.1 (by decide)
  refine ⟨nr, tbs, cc, cl, lP_k hOK hv0 hx.2.2.1 hP fI fA n1 n2 ht h2, lQ_k hOK hv0 hx hP hQ fS ⟨fx 14 (by decide), fx 15 (by decide)⟩ f38 n1 n2 hs h8.1 ?_, hb _ _ hB⟩
  rw [ex, h8.2.1, h8.2.2, fx 16 (by decide), fx 17 (by decide), e_mo hOK hv0]
  exact hQ.2.1.2
/-! the sides over a call of the reference -/
theorem s_all {A B : gI} (h : A = B) : ∀ sd : Int, 0 ≤ sd → sd ≤ 9 → sE8 (rsM (hGm (gZ g)) A sd) (rsM (hGm (gZ g)) B sd) := fun _ _ _ _ _ => by rw [h]
theorem s_sdK (h : sdK (hGm (gZ g)) AI1 AI2) : ∀ sd : Int, 0 ≤ sd → sd ≤ 9 → sE8 (rsM (hGm (gZ g)) AI2 sd) (rsM (hGm (gZ g)) AI1 sd) := fun _ a b _ hr => rsM_k h ⟨a, b⟩ hr
theorem s_g (h : ∀ b, b ≠ gZ g + 212 → b ≠ gZ g + 213 → b ≠ gZ g + 214 → b ≠ gZ g + 217 → b ≠ gZ g + 221 → AI2 b = AI1 b) : ∀ sd : Int, 0 ≤ sd → sd ≤ 9 → sE8 (rsM (hGm (gZ g)) AI2 sd) (rsM (hGm (gZ g)) AI1 sd) := fun sd _ _ r _ =>
  congrFun (rsM_g (gh := hGm (gZ g)) (sd := sd) (h (gZ g + 210) (by omega) (by omega) (by omega) (by omega) (by omega)) (h (gZ g + 211) (by omega) (by omega) (by omega) (by omega) (by omega)) (h (gZ g + 219) (by omega) (by omega) (by omega) (by omega) (by omega))) r
/-! the batch -/
theorem lB_k (e1 : I2 (gZ g + 179) 3 = I (gZ g + 179) 3) (e2 : AI2 (gZ g + 180) = AI (gZ g + 180)) : ∀ tbs cl, lB8 g I AI tbs cl → lB8 g I2 AI2 tbs cl := fun tbs cl h => by
  unfold lB8 at h ⊢; rw [e1, e2]; exact h
theorem lB_0 (e : (I2 (gZ g + 179) 3).toInt = 0) : lB8 g I2 AI2 tbs cl := by unfold lB8; rw [e]; exact bG_0
theorem lB_ch {f f' : Nat → Int32} {u : Nat → Int} {tb n z len len1 a b c d : Int} {clp : Nat → Int} (hP : lP8 g I AR AI pA nr tbs cc cl) (h : bG8 tbs cl f len.toNat) (h0 : 0 ≤ len) (hc : ∀ r : Nat, r < nr → tI (AI (gZ g + 206)) (40 * (r : Int) + 1) = clp r) (eu : u = cky tb a b c d (clp tb.toNat)) (q : chP tbs tb n z len len1 f f' u) (hs : srt 5 f' len1) (h1 : 0 ≤ len1) : bG8 tbs cl f' len1.toNat := by
  have e1 : ((len1.toNat : Nat) : Int) = len1 := Int.toNat_of_nonneg h1
  refine ⟨by rw [e1]; exact hs, fun i hi => ch_G (a := a) (b := b) (c := c) (d := d) (fun r hr => (hP.2.2.2.2.2 r (by have := hP.2.2.1; omega)).2.1) h0 (fun j hj => h.2 j (by omega)) (fun t0 t1 => ?_) q i (by omega)⟩
  have r9 : tb.toNat < nr := by have := hP.2.2.1; omega
  rw [eu, ← hc _ r9, (hP.2.2.2.2.2 _ r9).1]
/-! commit -/
theorem lE_cm (hOK : gOK g) (hv : gInv (gW g (I, AI)) (ghF 0 (hG (gZ g))) R AR I AI) (hx : xS (gW g (I, AI)) (hG (gZ g)) R AR (gZ g + 0) pA bA nA) (hv0 : gInv (gW g (I, AI)) (ghF 0 (hG (gZ g))) R1 AR I1 AI1) (hP : lP8 g I AR AI pA nr tbs cc cl) (hQ : lQ8 g I AR AI bA nA nr tbs cc cl) (hB : lB8 g I AI tbs cl) {v1 v2 : Int}
    (f38 : I1 (hG (gZ g) 38 0) 3 = I (hG (gZ g) 38 0) 3)
    (c : ∃ (code : Int) (Fn : RF), rnP tbs nr cc (∃ i, i < (I (gZ g + 179) 3).toInt.toNat ∧ blw (AI (gZ g + 180)) (rfC (hG (gZ g)) AR I AI bA) 1 i) (tbS (AI (gZ g + 180)) (I (gZ g + 179) 3).toInt.toNat (rfC (hG (gZ g)) AR I AI bA) 1) code Fn ∧ (code = 0 → stA tbs cc (tbS (AI (gZ g + 180)) (I (gZ g + 179) 3).toInt.toNat (rfC (hG (gZ g)) AR I AI bA) 1) cl Fn nr) ∧
      ((code ≠ 0 ∧ v1 = code ∧ xS (gW g (I, AI)) (hG (gZ g)) R1 AR (gZ g + 0) pA bA nA ∧ cmS (hG (gZ g)) AR (gZ g + 0) bA I AI I1 AI1 ∧ I1 (gZ g + 0) 14 = I (gZ g + 0) 14 ∧ I1 (gZ g + 0) 15 = I (gZ g + 0) 15 ∧ I1 (gZ g + 0) 16 = I (gZ g + 0) 16 ∧ I1 (gZ g + 0) 17 = I (gZ g + 0) 17 + 1) ∨
        (code = 0 ∧ xS (gW g (I, AI)) (hG (gZ g)) R1 AR (gZ g + 0) pA nA bA ∧ cmY (hG (gZ g)) AR (gZ g + 0) bA nA nr tbs I AI (I (gZ g + 179) 3).toInt.toNat Fn v1 I1 AI1)))
    (n1 : ∀ b c, gO (gW g (I2, AI2)) b c → c ≠ 7 → I2 b = I1 b) (n2 : ∀ b n, hG (gZ g) 9 b = n → n ≠ 5 → AI2 b = AI1 b)
    (m : (v2 < 0 ∧ drP (hGm (gZ g)) AI1 tbs nr cc cl (AI (gZ g + 180)) (I (gZ g + 179) 3).toInt.toNat v2 AI2 ∧ I2 (gZ g + 205) 8 = I1 (gZ g + 205) 8 ∧ I2 (gZ g + 205) 9 = I1 (gZ g + 205) 9 ∧ I2 (gZ g + 205) 10 = I1 (gZ g + 205) 10 + 1) ∨
      (∃ A1 : gI, drP (hGm (gZ g)) AI1 tbs nr cc cl (AI (gZ g + 180)) (I (gZ g + 179) 3).toInt.toNat 0 A1 ∧ cmM (hGm (gZ g)) AI1 A1 AI2 (I1 (gZ g + 205) 8).toInt (I2 (gZ g + 205) 8).toInt ∧ I2 (gZ g + 205) 9 = I1 (gZ g + 205) 9 + 1 ∧ I2 (gZ g + 205) 10 = I1 (gZ g + 205) 10 ∧ noY (hGm (gZ g)) AI1 AI2 ∧ v2 = smL (fun r => ((bgN (mvF (hGm (gZ g)) AI2 r) : Nat) : Int)) tbs.toNat (nr - tbs.toNat))) :
    v1 = v2 ∧ ∃ b1 n1, xS (gW g (I, AI)) (hG (gZ g)) R1 AR (gZ g + 0) pA b1 n1 ∧ lQ8 g I2 AR AI2 b1 n1 nr tbs cc cl := by
  obtain ⟨code, Fn, c1, c2, c3⟩ := c
  have hl := e_cLt hP
  have ht := hP.2.2.1.2.1
  have h16 := hP.2.2.1.2.2
  have hN : ∀ r, r < nr → rfA (rfC (hG (gZ g)) AR I AI bA) (rfM (hGm (gZ g)) AI 0) r := hQ.1.2.1
  have ex : I2 (gZ g + 0) = I1 (gZ g + 0) := n1 _ 6 hx.1 (by decide)
  have emo : I1 (gZ g + 205) = I (gZ g + 205) := e_mo hOK hv0
  have erf := e_rf hv0
  have ers := e_rs hv0
  have m0 := hQ.2.1
  rcases m with ⟨y1, y2, y3, y4, y5⟩ | ⟨A1, y2, y3, y4, y5, y6, y7⟩
  · have d := y2.2.2.1
    rw [erf] at d
    have u := cm_u hl ht hB hN c1 d
    rcases c3 with ⟨x1, x2, x3, x4, x5, x6, x7, x8⟩ | ⟨x1, x2, x3⟩
    · refine ⟨by omega, bA, nA, x3, lQ_k hOK hv0 x3 hP hQ x4 ⟨x5, x6⟩ f38 n1 n2 (s_sdK y2.1) y3 ?_⟩
      rw [ex, x7, x8, y4, y5, emo, m0.2.1, m0.2.2]
      exact ⟨rfl, rfl⟩
    · exfalso; omega
  · have d := y2.2.2.1
    have d2 := y2.2.2.2.1 rfl
    rw [erf] at d d2
    have u := cm_u hl ht hB hN c1 d
    rcases c3 with ⟨x1, _⟩ | ⟨x1, x2, x3⟩
    · exfalso; omega
    · subst x1
      obtain ⟨z1, z2, z3, z4, z5, z6, z7, z8⟩ := x3
      obtain ⟨w1, w2, w3⟩ := y3
      have fM := cS_m hv0 x2 n1 n2
      have e0 : sE8 (rsM (hGm (gZ g)) AI2 0) (rsM (hGm (gZ g)) A1 10) := w1
      have e9 : sE8 (rsM (hGm (gZ g)) AI2 9) (rsM (hGm (gZ g)) AI 0) := by rw [← ers]; exact w2
      have rA := u.2 rfl
      have rd : rdA tbs cc (sF8 (rsM (hGm (gZ g)) A1 10)) (sM8 (rsM (hGm (gZ g)) A1 10)) nr := rd_up hl (Nat.le_refl _) (fun _ _ => rfl) (fun q _ => by
        show A1 (hGm (gZ g) 79 0) (16 * 10 + (q : Int)).toNat = _
        rw [show (16 * 10 + (q : Int)).toNat = 160 + q by omega]) d2.2
      have mvq : ∀ r, r < nr → isB (rfC (hG (gZ g)) AR I1 AI1 (hG (gZ g) 35 0) r).2 (rfC (hG (gZ g)) AR I1 AI1 (hG (gZ g) 35 0) r).1 (mv8 (rsM (hGm (gZ g)) AI2 0) (rsM (hGm (gZ g)) AI2 9) r) zM := fun r hr => by
        rw [mv_e e0 e9 (by omega), ← mv_c (s := rsM (hGm (gZ g)) A1 10) (s9 := rsM (hGm (gZ g)) AI 0) (rA r hr) (hN r hr)]
        exact z2 r hr
      have hb8 := w3
      unfold bkP at hb8
      rw [ers, emo] at hb8
      have e15 : (I1 (gZ g + 0) 15).toInt = (I2 (gZ g + 205) 8).toInt := by
        have a := m0.1
        have b := hQ.1.1.2
        rcases hb8 with ⟨k1, k2, _⟩ | ⟨k1, k2, _⟩ <;> omega
      refine ⟨?_, nA, bA, x2, ⟨?_, ⟨?_, ?_, ?_⟩, fun r hr => ⟨?_, ?_⟩, xD_s hQ.2.2.2.1, ?_⟩⟩
      · rw [z8, y7]
        refine smL_c _ (fun r h1 h2 => ?_)
        have hr : r < nr := by have := hP.2.2.1; omega
        have w : bgN (mvF (hGm (gZ g)) AI2 r) = _ := bgN_e (mvq r hr)
        have z : 0 ≤ (I1 (rob AR (hG (gZ g) 35 0) r) 3).toInt := e_len hv0 (isRA_o (e_35 hv0 hx.1) (by omega)).2.1
        show (I1 (rob AR (hG (gZ g) 35 0) r) 3).toInt = ((bgN (mvF (hGm (gZ g)) AI2 r) : Nat) : Int)
        rw [w]
        show _ = (((I1 (rob AR (hG (gZ g) 35 0) r) 3).toInt.toNat : Nat) : Int)
        omega
      · rw [ex]
        refine eS_cm (f := AI (gZ g + 180)) (nb := (I (gZ g + 179) 3).toInt.toNat) (s1 := rsM (hGm (gZ g)) A1 10) (u' := (I1 (gZ g + 0) 15).toInt) hl ht h16 hQ.1 hB c1 d d2.1 rd (fun r hr => (fM.1 r (by omega)).trans (z1 r hr)) (fun k hk hn => (fM.2.2 k hk).trans (z3 k hk hn)) ?_ e0 z5.1 ?_
        · rw [fM.2.2 _ (by have := hQ.1.1.1; omega)]
          refine ⟨z4.1, fun j hj => rwA_at z4.2 hj⟩
        · rw [e15, m0.1]
          exact hb8
      · rw [ex]; exact e15
      · rw [ex, z6, y4, emo, m0.2.1]
      · rw [ex, z7, y5, emo, m0.2.2]
      · rw [fM.2.1 r (by omega)]; exact mvq r hr
      · have w := ((e_gd hQ).1.1 r hr).2
        unfold bgOK at w ⊢
        rw [show rfM (hGm (gZ g)) AI2 9 r = rfM (hGm (gZ g)) AI 0 r from sE_f e9 r (by omega)]
        exact w
      · rw [n1 _ 4 (e_38 hv0 hx.1).1 (by decide), f38]; exact hQ.2.2.2.2
/-! undo -/
theorem lE_un (hOK : gOK g) (hv0 : gInv (gW g (I, AI)) (ghF 0 (hG (gZ g))) R1 AR I1 AI1) (hx : xS (gW g (I, AI)) (hG (gZ g)) R AR (gZ g + 0) pA bA nA) (hP : lP8 g I AR AI pA nr tbs cc cl) (hQ : lQ8 g I AR AI bA nA nr tbs cc cl) {Fn : RF} (hu : 0 < (I (gZ g + 0) 15).toInt) (x1 : xS (gW g (I, AI)) (hG (gZ g)) R1 AR (gZ g + 0) pA nA bA)
    (c1 : rnP tbs nr cc (∃ i, i < (rfC (hG (gZ g)) AR I AI (hG (gZ g) 36 0) (((I (gZ g + 0) 14).toInt + 7) % 8).toNat).1 ∧ blw (rfC (hG (gZ g)) AR I AI (hG (gZ g) 36 0) (((I (gZ g + 0) 14).toInt + 7) % 8).toNat).2 (rfC (hG (gZ g)) AR I AI bA) (-1) i) (tbS (rfC (hG (gZ g)) AR I AI (hG (gZ g) 36 0) (((I (gZ g + 0) 14).toInt + 7) % 8).toNat).2 (rfC (hG (gZ g)) AR I AI (hG (gZ g) 36 0) (((I (gZ g + 0) 14).toInt + 7) % 8).toNat).1 (rfC (hG (gZ g)) AR I AI bA) (-1)) 0 Fn)
    (c2 : cmU (hG (gZ g)) AR (gZ g + 0) bA nA nr I AI Fn I1 AI1) (n1 : ∀ b c, gO (gW g (I2, AI2)) b c → c ≠ 7 → I2 b = I1 b) (n2 : ∀ b n, hG (gZ g) 9 b = n → n ≠ 5 → AI2 b = AI1 b)
    (m : unM (hGm (gZ g)) AI1 AI2 ((I1 (gZ g + 205) 8).toInt - 1)) (m8 : (I2 (gZ g + 205) 8).toInt = (I1 (gZ g + 205) 8).toInt - 1) (m9 : I2 (gZ g + 205) 9 = I1 (gZ g + 205) 9 ∧ I2 (gZ g + 205) 10 = I1 (gZ g + 205) 10) : lQ8 g I2 AR AI2 nA bA nr tbs cc cl := by
  have hl := e_cLt hP
  have ht := hP.2.2.1.2.1
  have h16 := hP.2.2.1.2.2
  have ex : I2 (gZ g + 0) = I1 (gZ g + 0) := n1 _ 6 hx.1 (by decide)
  have emo : I1 (gZ g + 205) = I (gZ g + 205) := e_mo hOK hv0
  have ers := e_rs hv0
  have m0 := hQ.2.1
  obtain ⟨z1, z2, z3, z4, -, -, z7⟩ := c2
  obtain ⟨w1, w2, w3, -⟩ := m
  have fM := cS_m hv0 x1 n1 n2
  have e9 : sE8 (rsM (hGm (gZ g)) AI2 9) (rsM (hGm (gZ g)) AI 0) := by rw [← ers]; exact w2
  have e0 : sE8 (rsM (hGm (gZ g)) AI2 0) (rsM (hGm (gZ g)) AI (I (gZ g + 0) 15).toInt) := fun r hr => by
    rw [w1 r hr, ers, emo, ← m0.1, show 1 + ((I (gZ g + 0) 15).toInt - 1) = (I (gZ g + 0) 15).toInt by omega]
  have b := (eS_un ht h16 hQ.1 hu rfl).2
  have rA := (rnP_u hl c1 b).2 rfl
  have h14 : I2 (gZ g + 0) 15 = I1 (gZ g + 0) 15 := by rw [ex]
  refine ⟨?_, ⟨?_, ?_, ?_⟩, fun r hr => ⟨?_, ?_⟩, xD_s hQ.2.2.2.1, ?_⟩
  · rw [ex]
    exact eS_ud hl ht h16 hQ.1 hu rfl c1 (fun r hr => (fM.1 r (by omega)).trans (z1 r hr)) (fun k hk => (fM.2.2 k hk).trans (z3 k hk)) e0 (fun sd a b r hr => by rw [w3 sd a b r hr, ers]) z4.1 z4.2.1
  · rw [ex, z4.2.1, m8, emo, m0.1]
  · rw [ex, z4.2.2.1, m9.1, emo, m0.2.1]
  · rw [ex, z4.2.2.2, m9.2, emo, m0.2.2]
  · rw [fM.2.1 r (by omega), mv_e e0 e9 (by omega), ← mv_c (s := rsM (hGm (gZ g)) AI (I (gZ g + 0) 15).toInt) (s9 := rsM (hGm (gZ g)) AI 0) (rA r hr) (hQ.1.2.1 r hr)]
    exact z2 r hr
  · have w := ((e_gd hQ).1.1 r hr).2
    unfold bgOK at w ⊢
    rw [show rfM (hGm (gZ g)) AI2 9 r = rfM (hGm (gZ g)) AI 0 r from sE_f e9 r (by omega)]
    exact w
  · rw [n1 _ 4 (e_38 hv0 hx.1).1 (by decide), z7]; exact hQ.2.2.2.2
/-! would and differs: alike -/
theorem lE_wd (hv0 : gInv (gW g (I, AI)) (ghF 0 (hG (gZ g))) R1 AR I1 AI1) (hP : lP8 g I AR AI pA nr tbs cc cl) (hQ : lQ8 g I AR AI bA nA nr tbs cc cl) (hB : lB8 g I AI tbs cl) {rel z1 z2 : Int}
    (c : ((rel < 0 ∨ (nr : Int) ≤ rel) ∧ z1 = -1) ∨ ((0 ≤ rel ∧ rel < (nr : Int)) ∧ ∃ (code : Int) (Fn : RF), rnP tbs nr cc (∃ i, i < (I (gZ g + 179) 3).toInt.toNat ∧ blw (AI (gZ g + 180)) (rfC (hG (gZ g)) AR I AI bA) 1 i) (tbS (AI (gZ g + 180)) (I (gZ g + 179) 3).toInt.toNat (rfC (hG (gZ g)) AR I AI bA) 1) code Fn ∧ (code ≠ 0 → z1 = code) ∧ (code = 0 → z1 = (((Fn rel.toNat).1 : Nat) : Int))))
    (m : ((rel < 0 ∨ (nr : Int) ≤ rel) ∧ z2 = -1 ∧ AI2 = AI1) ∨ (0 ≤ rel ∧ rel < (nr : Int) ∧ ∃ code : Int, drP (hGm (gZ g)) AI1 tbs nr cc cl (AI (gZ g + 180)) (I (gZ g + 179) 3).toInt.toNat code AI2 ∧ ((code = 0 ∧ z2 = (((rfM (hGm (gZ g)) AI2 10 rel.toNat).1 : Nat) : Int)) ∨ (code ≠ 0 ∧ z2 = code)))) : z1 = z2 := by
  rcases c with ⟨a1, a2⟩ | ⟨a1, code, Fn, a2, a3, a4⟩
  · rcases m with ⟨b1, b2, _⟩ | ⟨b1, b2, _⟩
    · omega
    · exfalso; omega
  · rcases m with ⟨b1, _⟩ | ⟨b1, b2, code2, b3, b4⟩
    · exfalso; omega
    · have d := b3.2.2.1
      rw [e_rf hv0] at d
      have u := cm_u (e_cLt hP) hP.2.2.1.2.1 hB hQ.1.2.1 a2 d
      by_cases w : code = 0
      · have e := (u.2 w rel.toNat (by omega)).1
        rcases b4 with ⟨b4, b5⟩ | ⟨b4, b5⟩
        · rw [a4 w, b5, e]
        · exfalso; omega
      · rcases b4 with ⟨b4, b5⟩ | ⟨b4, b5⟩
        · exfalso; omega
        · rw [a3 w, b5, u.1]
/-! plan -/
theorem lE_pl (hOK : gOK g) (hv0 : gInv (gW g (I, AI)) (ghF 0 (hG (gZ g))) R1 AR I1 AI1) (hx : xS (gW g (I, AI)) (hG (gZ g)) R AR (gZ g + 0) pA bA nA) (hx1 : xS (gW g (I, AI)) (hG (gZ g)) R1 AR (gZ g + 0) q bA nA) (hD : xD (hG (gZ g)) AR bA nA) (h38 : (I (hG (gZ g) 38 0) 3).toInt = 0) {b : tTx} {n : Nat} {J1 : gJ}
    (p1 : pLn (hG (gZ g)) AR I1 J1 q b n (sPlF b n).1 (sPlF b n).2.1 (sPlF b n).2.2.1 ∧ (I1 q 2).toInt = (sPlF b n).2.2.2)
    (pc : rowsC (hG (gZ g)) AR I1 AI1 q b n (sPlF b n).1 (sPlF b n).2.1 (sPlF b n).2.2.1 ∧ (∀ r, r < 16 → (I1 (rob AR bA r) 3).toInt = 0 ∧ (I1 (rob AR (hG (gZ g) 35 0) r) 3).toInt = 0) ∧ (∀ o, gO (gW g (I, AI)) o 4 → (∀ r, r < 16 → rob AR bA r ≠ o) → (∀ r, r < 16 → rob AR (hG (gZ g) 35 0) r ≠ o) → o ≠ hG (gZ g) 37 0 → I1 o = I o) ∧ (∀ o, hG (gZ g) 9 o = 1 → AI1 o = AI o) ∧ (I1 (gZ g + 0) 15).toInt = 0 ∧ (I1 (gZ g + 0) 16).toInt = 0 ∧ (I1 (gZ g + 0) 17).toInt = 0)
    (n1 : ∀ b c, gO (gW g (I2, AI2)) b c → c ≠ 7 → I2 b = I1 b) (n2 : ∀ b n, hG (gZ g) 9 b = n → n ≠ 5 → AI2 b = AI1 b)
    (p2 : (I2 (gZ g + 205) 2).toInt = ((sPlF b n).1 : Int) ∧ (∀ r : Nat, r < (sPlF b n).1 → tI (AI2 (hGm (gZ g) 50 0)) (40 * (r : Int) + 1) = (sPlF b n).2.2.1 r ∧ tI (AI2 (hGm (gZ g) 50 0)) (40 * (r : Int)) = kdT b n ((sPlF b n).2.1 r)))
    (pn : (∀ j : Nat, j < 176 → AI2 (hGm (gZ g) 57 0) j = 0) ∧ (∀ j : Nat, j < 16 → AI2 (hGm (gZ g) 79 0) j = 0) ∧ (I2 (gZ g + 205) 8).toInt = 0 ∧ (I2 (gZ g + 205) 9).toInt = 0 ∧ (I2 (gZ g + 205) 10).toInt = 0 ∧ plR b n (AI2 (hGm (gZ g) 50 0))) (b0 : (I1 (gZ g + 179) 3).toInt = 0) (h179 : gO (gW g (I, AI)) (gZ g + 179) 4) : lE8 g I2 AR AI2 q bA nA := by
  obtain ⟨p3, p4⟩ := p1
  obtain ⟨c1, c2, c3, c4, c5, c6, c7⟩ := pc
  obtain ⟨d1, d2, d3, d4, d5, d6⟩ := pn
  have hq : gO (gW g (I, AI)) q 2 := hx1.2.2.1
  have k := sPlF_k b n
  have hcl := rowsC_cl c1
  have e206 : AI2 (hGm (gZ g) 50 0) = AI2 (gZ g + 206) := rfl
  have eq : I2 q = I1 q := n1 q 2 hq (by decide)
  have ex : I2 (gZ g + 0) = I1 (gZ g + 0) := n1 _ 6 hx.1 (by decide)
  have h16 : (sPlF b n).1 ≤ 16 := p3.2.1
  have hy : ∀ r, r < 16 → ∃ y, AR (hG (gZ g) 6 q) r = some y ∧ gO (gW g (I, AI)) y 0 ∧ rob AR (hG (gZ g) 6 q) r = y := fun r hr => by
    obtain ⟨y, a1, a2, _⟩ := (hv0.2.2.2.1 q hq).1.2.2.1 r hr
    have a1 : AR (hG (gZ g) 6 q) r = some y := a1
    exact ⟨y, a1, a2, rob_e a1⟩
  have hcK : ∀ r : Nat, r < (sPlF b n).1 → (sPlF b n).2.2.2 ≤ (r : Int) → cOK (lcT b n (sPlF b n).2.1 (sPlF b n).2.2.1 r) r (sPlF b n).2.2.1 ∧ cZ (lcT b n (sPlF b n).2.1 (sPlF b n).2.2.1 r) r (sPlF b n).2.2.1 := fun r hr ht =>
    lc_good (fun u hu => hcl u (by omega)) (hcl r hr).1 (c1 r hr).1 (fun e => by have := (k.2.2 r hr).mp e; omega)
  have z57 : ∀ sd : Int, 0 ≤ sd → sd ≤ 10 → ∀ r, r < 16 → (rfM (hGm (gZ g)) AI2 sd r).1 = 0 := fun sd h1 h2 r hr => by
    show (AI2 (hGm (gZ g) 57 0) (16 * sd + (r : Int)).toNat).toInt.toNat = 0
    rw [d1 _ (by omega)]; rfl
  refine ⟨(sPlF b n).1, (sPlF b n).2.2.2, lcT b n (sPlF b n).2.1 (sPlF b n).2.2.1, (sPlF b n).2.2.1, ⟨by rw [eq]; exact p3.1, by rw [eq]; exact p4, ⟨k.1, k.2.1, h16⟩, fun r hr => ?_, ⟨p2.1, ⟨k.1, k.2.1⟩, fun r h0 h1 => ?_, fun r hr ht => ⟨?_, hcK r hr ht⟩⟩, fun r hr => ⟨(p2.2 r hr).1, (hcl r hr).1, rfl⟩⟩, ⟨?_, ⟨?_, ?_, ?_⟩, fun r hr => ⟨?_, ?_⟩, hD, ?_⟩, lB_0 ?_⟩
  · obtain ⟨y, a1, a2, a3⟩ := hy r (by omega)
    rw [a3, n1 y 0 a2 (by decide), n2 _ 2 (e_c2 hv0 a2) (by decide)]
    have w := (c1 r hr).2 y a1
    exact lnC_k w.1 (p3.2.2.1 r hr y a1).2 (c1 r hr).1.1 w.2
  · have hr : r.toNat < (sPlF b n).1 := by have := k.2.1; omega
    have w := (p2.2 r.toNat hr).2
    rw [show ((r.toNat : Nat) : Int) = r by omega] at w
    exact w.trans ((k.2.2 r.toNat hr).mpr (by omega))
  · have w := d6 r hr
    exact lnM_k (fun u hu => hcl u (by omega)) (hcl r hr).1 (fun u hu => (p2.2 u (by omega)).1) (p2.2 r hr).2 (p2.2 r hr).1 w.1 w.2 (fun e => by have := (k.2.2 r hr).mp e; omega)
  · have e14 := e_14 hv0 hx.1
    refine eS_0 hcK k.2.1 (by rw [ex]; omega) (fun r hr => ?_) (fun r hr => ⟨z57 0 (by decide) (by decide) r (by omega), ?_⟩) (by rw [ex]; exact c5)
    · have o := (isRA_o hx.2.2.2.2.1 (show r < 16 by omega)).2.1
      show (I2 (rob AR bA r) 3).toInt.toNat = 0
      rw [n1 _ 4 o (by decide), (c2 r (by omega)).1]; rfl
    · show AI2 (hGm (gZ g) 79 0) (16 * 0 + (r : Int)).toNat = 0
      exact d2 _ (by omega)
  · rw [ex, c5, d3]
  · rw [ex]; exact Int32.toInt_inj.mp (by rw [c6, d4])
  · rw [ex]; exact Int32.toInt_inj.mp (by rw [c7, d5])
  · have o := (isRA_o (e_35 hv0 hx.1) (show r < 16 by omega)).2.1
    have e : (rfC (hG (gZ g)) AR I2 AI2 (hG (gZ g) 35 0) r).1 = 0 := by
      show (I2 (rob AR (hG (gZ g) 35 0) r) 3).toInt.toNat = 0
      rw [n1 _ 4 o (by decide), (c2 r (by omega)).2]; rfl
    rw [e]
    exact mv_0 (z57 0 (by decide) (by decide) r (by omega)) (z57 9 (by decide) (by decide) r (by omega))
  · unfold bgOK
    rw [z57 9 (by decide) (by decide) r (by omega)]
    exact ⟨⟨fun i j _ hj => absurd hj (Nat.not_lt_zero j), fun i hi => absurd hi (Nat.not_lt_zero i)⟩, by decide, fun i hi => absurd hi (Nat.not_lt_zero i)⟩
  · have o := e_38 hv0 hx.1
    rw [n1 _ 4 o.1 (by decide), c3 _ o.1 (fun r hr => ra_ne1 hx.2.2.2.2.1 o.2.1 o.2.2 (Or.inl (by decide)) hr) (fun r hr => ra_ne1 (e_35 hv0 hx.1) o.2.1 o.2.2 (Or.inl (by decide)) hr) (fun e => hD.2.2.2.2.2.2.1 e.symm)]
    exact h38
  · rw [n1 _ 4 h179 (by decide)]; exact b0
/-- a plan that is refused -/
theorem lE_pn (hOK : gOK g) (hv0 : gInv (gW g (I, AI)) (ghF 0 (hG (gZ g))) R1 AR I1 AI1) (hx : xS (gW g (I, AI)) (hG (gZ g)) R1 AR (gZ g + 0) pA bA nA) (h : lE8 g I AR AI pA bA nA) (ep : I1 pA = I pA) (ey : ∀ y, gO (gW g (I, AI)) y 0 → hG (gZ g) 4 y = pA → I1 y = I y)
    (pc : (∀ o, gO (gW g (I, AI)) o 4 → I1 o = I o) ∧ (∀ o, hG (gZ g) 9 o = 1 → AI1 o = AI o) ∧ (∀ k, k ≠ 1 → I1 (gZ g + 0) k = I (gZ g + 0) k) ∧ ∀ y, gO (gW g (I, AI)) y 0 → hG (gZ g) 4 y = pA → AI1 (hG (gZ g) 3 y) = AI (hG (gZ g) 3 y))
    (n1 : ∀ b c, gO (gW g (I2, AI2)) b c → c ≠ 7 → I2 b = I1 b) (n2 : ∀ b n, hG (gZ g) 9 b = n → n ≠ 5 → AI2 b = AI1 b) (ht : AI2 (gZ g + 206) = AI1 (gZ g + 206)) (h2 : (I2 (gZ g + 205) 2).toInt = (I1 (gZ g + 205) 2).toInt)
    (pn : AI2 (hGm (gZ g) 57 0) = AI1 (hGm (gZ g) 57 0) ∧ AI2 (hGm (gZ g) 79 0) = AI1 (hGm (gZ g) 79 0) ∧ I2 (gZ g + 205) 8 = I1 (gZ g + 205) 8 ∧ I2 (gZ g + 205) 9 = I1 (gZ g + 205) 9 ∧ I2 (gZ g + 205) 10 = I1 (gZ g + 205) 10) (h56 : AI2 (hGm (gZ g) 56 0) = AI1 (hGm (gZ g) 56 0)) (h179 : gO (gW g (I, AI)) (gZ g + 179) 4) : lE8 g I2 AR AI2 pA bA nA := by
  obtain ⟨nr, tbs, cc, cl, hP, hQ, hB⟩ := h
  obtain ⟨c1, c2, c3, c4⟩ := pc
  have ex : I2 (gZ g + 0) = I1 (gZ g + 0) := n1 _ 6 hx.1 (by decide)
  have emo : I1 (gZ g + 205) = I (gZ g + 205) := e_mo hOK hv0
  have hp := hx.2.2.1
  have k : ∀ b, gO (gW g (I, AI)) b 4 → I1 b = I b ∧ AI1 (hG (gZ g) 0 b) = AI (hG (gZ g) 0 b) := fun b hb => ⟨c1 b hb, c2 _ (e_c1 hv0 hb)⟩
  have fS : cmS (hG (gZ g)) AR (gZ g + 0) bA I AI I1 AI1 := by
    refine ⟨fun r hr => ?_, fun r hr => ?_, fun r hr => ?_⟩
    · have w := k _ (isRA_o hx.2.2.2.2.1 hr).2.1
      exact rfC_k w.1 w.2
    · have w := k _ (isRA_o (e_35 hv0 hx.1) hr).2.1
      exact rfC_k w.1 w.2
    · have w := k _ (isRA_o (e_36 hv0 hx.1) hr).2.1
      exact rfC_k w.1 w.2
  refine ⟨nr, tbs, cc, cl, ?_, lQ_k hOK hv0 hx hP hQ fS ⟨c3 14 (by decide), c3 15 (by decide)⟩ (by rw [c1 _ (e_38 hv0 hx.1).1]) n1 n2 (fun sd _ _ r _ => congrFun (rsM_g (gh := hGm (gZ g)) (sd := sd) h56 pn.1 pn.2.1) r) pn.2.2.1 ?_, ?_⟩
  · obtain ⟨a1, a2, a3, a4, a5, a6⟩ := hP
    have ep : I2 pA = I pA := (n1 pA 2 hp (by decide)).trans ep
    have et : AI2 (gZ g + 206) = AI (gZ g + 206) := ht.trans (e_t5 hv0 (o := 206) (by decide +kernel))
    unfold lP8
    rw [ep, et, h2, emo]
    refine ⟨a1, a2, a3, fun r hr => ?_, a5, a6⟩
    obtain ⟨y, b1, b2, b3, _⟩ := (hv0.2.2.2.1 pA hp).1.2.2.1 r (by omega)
    have b1 : AR (hG (gZ g) 6 pA) r = some y := b1
    have er : rob AR (hG (gZ g) 6 pA) r = y := rob_e b1
    have w := a4 r hr
    rw [er] at w ⊢
    rw [(n1 y 0 b2 (by decide)).trans (ey y b2 b3), (n2 _ 2 (e_c2 hv0 b2) (by decide)).trans (c4 y b2 b3)]
    exact w
  · rw [ex, c3 16 (by decide), c3 17 (by decide), pn.2.2.2.1, pn.2.2.2.2, emo]; exact hQ.2.1.2
  · exact lB_k (by rw [n1 _ 4 h179 (by decide), c1 _ h179]) ((n2 _ 1 (e_c1 hv0 h179) (by decide)).trans (c2 _ (e_c1 hv0 h179))) _ _ hB
end LE8
