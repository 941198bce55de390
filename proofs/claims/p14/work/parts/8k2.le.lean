section
/-! what the law keeps of the engine over both systems: the plans are alike (lP8), the bags, the history, the numbers (lQ8), the batch (lB8) -/
def lP8 (g : gG) (I : gI) (AR : gR) (AI : gI) (pA nr : Nat) (tbs : Int) (cc : Nat → LC) (cl : Nat → Int) : Prop :=
  (I pA 1).toInt = (nr : Int) ∧ (I pA 2).toInt = tbs ∧ (0 ≤ tbs ∧ tbs ≤ (nr : Int) ∧ nr ≤ 16) ∧
  (∀ r, r < nr → lnC (I (rob AR (hG (gZ g) 6 pA) r)) (AI (hG (gZ g) 3 (rob AR (hG (gZ g) 6 pA) r))) (cc r)) ∧
  ((I (gZ g + 205) 2).toInt = (nr : Int) ∧ plM9 (AI (gZ g + 206)) tbs nr cc cl) ∧
  ∀ r : Nat, r < nr → tI (AI (gZ g + 206)) (40 * (r : Int) + 1) = cl r ∧ (1 ≤ cl r ∧ cl r ≤ 4) ∧ (cc r).1 1 = cl r ∧ tI (AI (gZ g + 206)) (40 * (r : Int)) = (cc r).1 0
def lQ8 (g : gG) (I : gI) (AR : gR) (AI : gI) (bA nA nr : Nat) (tbs : Int) (cc : Nat → LC) (cl : Nat → Int) : Prop :=
  eS8 tbs nr cc cl (rfC (hG (gZ g)) AR I AI bA) (rfC (hG (gZ g)) AR I AI (hG (gZ g) 36 0)) (rsM (hGm (gZ g)) AI) (I (gZ g + 0) 14).toInt (I (gZ g + 0) 15).toInt ∧
  ((I (gZ g + 0) 15).toInt = (I (gZ g + 205) 8).toInt ∧ I (gZ g + 0) 16 = I (gZ g + 205) 9 ∧ I (gZ g + 0) 17 = I (gZ g + 205) 10) ∧
  (∀ r, r < nr → isB (rfC (hG (gZ g)) AR I AI (hG (gZ g) 35 0) r).2 (rfC (hG (gZ g)) AR I AI (hG (gZ g) 35 0) r).1 (mv8 (rsM (hGm (gZ g)) AI 0) (rsM (hGm (gZ g)) AI 9) r) zM ∧ bgOK (rfM (hGm (gZ g)) AI 9) cl r) ∧
  xD (hG (gZ g)) AR bA nA ∧ (I (hG (gZ g) 38 0) 3).toInt = 0
def lB8 (g : gG) (I AI : gI) (tbs : Int) (cl : Nat → Int) : Prop := bG8 tbs cl (AI (gZ g + 180)) (I (gZ g + 179) 3).toInt.toNat
def lE8 (g : gG) (I : gI) (AR : gR) (AI : gI) (pA bA nA : Nat) : Prop :=
  ∃ (nr : Nat) (tbs : Int) (cc : Nat → LC) (cl : Nat → Int), lP8 g I AR AI pA nr tbs cc cl ∧ lQ8 g I AR AI bA nA nr tbs cc cl ∧ lB8 g I AI tbs cl
section LE8
variable {g : gG} {M : gI × gI} {I AI I1 AI1 I2 AI2 I0 AI0 : gI} {R R1 R2 AR : gR} {pA bA nA nr nb q : Nat} {tbs : Int} {cc : Nat → LC} {cl : Nat → Int}
/-! the class does not touch the reference -/
theorem e_t5 (hv1 : gInv (gW g M) (ghF 0 (hG (gZ g))) R AR I1 AI1) {o : Nat} (ho : t9 o = 5) : AI1 (gZ g + o) = M.2 (gZ g + o) := hv1.2.2.2.2.2.2.2.2.2.1 _ (hG9.trans ho)
theorem e_mo (hOK : gOK g) (hv1 : gInv (gW g M) (ghF 0 (hG (gZ g))) R AR I1 AI1) : I1 (gZ g + 205) = M.1 (gZ g + 205) := hv1.2.2.2.2.2.2.2.2.1 _ (gO_i hOK (o := 205) (by decide) (by decide +kernel))
theorem e_rs (hv1 : gInv (gW g (I, AI)) (ghF 0 (hG (gZ g))) R AR I1 AI1) : rsM (hGm (gZ g)) AI1 = rsM (hGm (gZ g)) AI := funext fun sd => rsM_g (e_t5 hv1 (o := 210) (by decide +kernel)) (e_t5 hv1 (o := 211) (by decide +kernel)) (e_t5 hv1 (o := 219) (by decide +kernel))
theorem e_rf (hv1 : gInv (gW g (I, AI)) (ghF 0 (hG (gZ g))) R AR I1 AI1) : rfM (hGm (gZ g)) AI1 = rfM (hGm (gZ g)) AI := funext fun sd => rfM_g (e_t5 hv1 (o := 210) (by decide +kernel)) (e_t5 hv1 (o := 211) (by decide +kernel))
/-! the reference does not touch the class -/
theorem e_n1 (h : mInv (gW g (I1, AI1)) (hGm (gZ g)) R2 I2 AI2) : ∀ b c, gO (gW g (I2, AI2)) b c → c ≠ 7 → I2 b = I1 b := h.2.2.1
theorem e_n2 (h : mInv (gW g (I1, AI1)) (hGm (gZ g)) R2 I2 AI2) : ∀ b n, hG (gZ g) 9 b = n → n ≠ 5 → AI2 b = AI1 b := fun b n hb hn => h.2.2.2 b (hGm_ne hb hn)
theorem e_n2c (h : mInv (gW g (I1, AI1)) (hGc (gZ g)) R2 I2 AI2) : ∀ b n, hG (gZ g) 9 b = n → n ≠ 5 → AI2 b = AI1 b := fun b n hb hn => h.2.2.2 b (hGc_ne hb hn)
/-! rows of Rows -/
theorem e_35 (hv : gInv (gW g M) (ghF 0 (hG (gZ g))) R AR I0 AI0) (hx : gO (gW g M) (gZ g + 0) 6) : isRA (gW g M) (hG (gZ g)) AR (hG (gZ g) 35 0) 16 240 4 := (hv.2.2.2.2.1 _ hx).2.2.2.2.2.2.1.2
theorem e_36 (hv : gInv (gW g M) (ghF 0 (hG (gZ g))) R AR I0 AI0) (hx : gO (gW g M) (gZ g + 0) 6) : isRA (gW g M) (hG (gZ g)) AR (hG (gZ g) 36 0) 8 40 5 := (hv.2.2.2.2.1 _ hx).2.2.2.2.2.2.2.2.2.2.2.2.1.2
theorem e_14 (hv : gInv (gW g M) (ghF 0 (hG (gZ g))) R AR I0 AI0) (hx : gO (gW g M) (gZ g + 0) 6) : 0 ≤ (I0 (gZ g + 0) 14).toInt ∧ (I0 (gZ g + 0) 14).toInt ≤ 7 := ⟨(hv.2.2.2.2.1 _ hx).2.2.2.2.2.2.2.2.2.2.2.2.2.2.2.1, (hv.2.2.2.2.1 _ hx).2.2.2.2.2.2.2.2.2.2.2.2.2.2.2.2.1⟩
theorem e_len (hv : gInv (gW g M) (ghF 0 (hG (gZ g))) R AR I0 AI0) {o : Nat} (ho : gO (gW g M) o 4) : 0 ≤ (I0 o 3).toInt := (hv.1 o ho).2.1.2.2.1
theorem e_c1 (hv : gInv (gW g M) (ghF 0 (hG (gZ g))) R AR I0 AI0) {o : Nat} (ho : gO (gW g M) o 4) : hG (gZ g) 9 (hG (gZ g) 0 o) = 1 := (hv.1 o ho).1.2.2.1
theorem e_c2 (hv : gInv (gW g M) (ghF 0 (hG (gZ g))) R AR I0 AI0) {y : Nat} (hy : gO (gW g M) y 0) : hG (gZ g) 9 (hG (gZ g) 3 y) = 2 := ln_9 (gh := ghF 0 (hG (gZ g))) hv hy
theorem e_0i (hv : gInv (gW g M) (ghF 0 (hG (gZ g))) R AR I0 AI0) {o o' : Nat} (ho : gO (gW g M) o 4) (ho' : gO (gW g M) o' 4) (h : o ≠ o') : hG (gZ g) 0 o ≠ hG (gZ g) 0 o' := fun e => h (by
  have a : hG (gZ g) 7 (hG (gZ g) 0 o) = o := (hv.1 o ho).1.2.2.2
  have b : hG (gZ g) 7 (hG (gZ g) 0 o') = o' := (hv.1 o' ho').1.2.2.2
  rw [← a, e, b])
theorem e_38 (hv : gInv (gW g M) (ghF 0 (hG (gZ g))) R AR I0 AI0) (hx : gO (gW g M) (gZ g + 0) 6) : gO (gW g M) (hG (gZ g) 38 0) 4 ∧ hG (gZ g) 1 (hG (gZ g) 38 0) = 40 ∧ hG (gZ g) 2 (hG (gZ g) 38 0) = 5 := (hv.2.2.2.2.1 _ hx).2.2.2.2.2.2.2.2.1.2
theorem e_40 (hv : gInv (gW g M) (ghF 0 (hG (gZ g))) R AR I0 AI0) (hx : gO (gW g M) (gZ g + 0) 6) : gO (gW g M) (hG (gZ g) 40 0) 4 ∧ hG (gZ g) 1 (hG (gZ g) 40 0) = 240 ∧ hG (gZ g) 2 (hG (gZ g) 40 0) = 4 := (hv.2.2.2.2.1 _ hx).2.2.2.2.2.2.2.2.2.2.1.2
/-- all Rows stay but o -/
theorem cS_of (hv : gInv (gW g M) (ghF 0 (hG (gZ g))) R AR I0 AI0) (hx : xS (gW g M) (hG (gZ g)) R1 AR (gZ g + 0) pA bA nA) {o : Nat} (ho : gO (gW g M) o 4) (n1 : ∀ i, i < 16 → rob AR bA i ≠ o) (n2 : ∀ i, i < 16 → rob AR (hG (gZ g) 35 0) i ≠ o) (n3 : ∀ i, i < 8 → rob AR (hG (gZ g) 36 0) i ≠ o)
    (fi : ∀ b, gO (gW g M) b 4 → b ≠ o → I1 b = I b) (fa : ∀ b, hG (gZ g) 9 b = 1 → b ≠ hG (gZ g) 0 o → AI1 b = AI b) : cmS (hG (gZ g)) AR (gZ g + 0) bA I AI I1 AI1 := by
  have k : ∀ b, gO (gW g M) b 4 → b ≠ o → I1 b = I b ∧ AI1 (hG (gZ g) 0 b) = AI (hG (gZ g) 0 b) := fun b hb hn => ⟨fi b hb hn, fa _ (e_c1 hv hb) (e_0i hv hb ho hn)⟩
  refine ⟨fun r hr => ?_, fun r hr => ?_, fun r hr => ?_⟩
  · have w := k _ (isRA_o hx.2.2.2.2.1 hr).2.1 (n1 r hr)
    exact rfC_k w.1 w.2
  · have w := k _ (isRA_o (e_35 hv hx.1) hr).2.1 (n2 r hr)
    exact rfC_k w.1 w.2
  · have w := k _ (isRA_o (e_36 hv hx.1) hr).2.1 (n3 r hr)
    exact rfC_k w.1 w.2
theorem cS_37 (hv : gInv (gW g M) (ghF 0 (hG (gZ g))) R AR I0 AI0) (hx : xS (gW g M) (hG (gZ g)) R1 AR (gZ g + 0) pA bA nA) (ho : gO (gW g M) (gZ g + 179) 4) (fi : ∀ b, gO (gW g M) b 4 → b ≠ gZ g + 179 → I1 b = I b) (fa : ∀ b, hG (gZ g) 9 b = 1 → b ≠ gZ g + 180 → AI1 b = AI b) : cmS (hG (gZ g)) AR (gZ g + 0) bA I AI I1 AI1 :=
  cS_of hv hx ho (fun _ hi => isRA_37 hx.2.2.2.2.1 hi) (fun _ hi => isRA_37 (e_35 hv hx.1) hi) (fun _ hi => isRA_37 (e_36 hv hx.1) hi) fi fa
theorem cS_40 (hv : gInv (gW g M) (ghF 0 (hG (gZ g))) R AR I0 AI0) (hx : xS (gW g M) (hG (gZ g)) R1 AR (gZ g + 0) pA bA nA) (hD : xD (hG (gZ g)) AR bA nA) (fi : ∀ b, gO (gW g M) b 4 → b ≠ hG (gZ g) 40 0 → I1 b = I b) (fa : ∀ b, hG (gZ g) 9 b = 1 → b ≠ hG (gZ g) 0 (hG (gZ g) 40 0) → AI1 b = AI b) : cmS (hG (gZ g)) AR (gZ g + 0) bA I AI I1 AI1 := by
  have w := e_40 hv hx.1
  exact cS_of hv hx w.1 (fun _ hi => ra_ne1 hx.2.2.2.2.1 w.2.1 w.2.2 (Or.inl (by decide)) hi) hD.2.2.2.2.2.2.2 (fun _ hi => ra_ne1 (e_36 hv hx.1) w.2.1 w.2.2 (Or.inl (by decide)) hi) fi fa
theorem cS_r : cmS (hG (gZ g)) AR (gZ g + 0) bA I AI I AI := ⟨fun _ _ => rfl, fun _ _ => rfl, fun _ _ => rfl⟩
theorem cS_29 (hv : gInv (gW g M) (ghF 0 (hG (gZ g))) R AR I0 AI0) (hx : xS (gW g M) (hG (gZ g)) R1 AR (gZ g + 0) pA bA nA) (fa : ∀ b, hG (gZ g) 9 b = 1 → AI1 b = AI b) : cmS (hG (gZ g)) AR (gZ g + 0) bA I AI I AI1 :=
  ⟨fun _ hr => rfC_k rfl (fa _ (e_c1 hv (isRA_o hx.2.2.2.2.1 hr).2.1)), fun _ hr => rfC_k rfl (fa _ (e_c1 hv (isRA_o (e_35 hv hx.1) hr).2.1)), fun _ hr => rfC_k rfl (fa _ (e_c1 hv (isRA_o (e_36 hv hx.1) hr).2.1))⟩
/-- over the reference's call -/
theorem cS_m (hv : gInv (gW g M) (ghF 0 (hG (gZ g))) R AR I0 AI0) (hx : xS (gW g M) (hG (gZ g)) R1 AR (gZ g + 0) pA bA nA) (n1 : ∀ b c, gO (gW g (I2, AI2)) b c → c ≠ 7 → I2 b = I1 b) (n2 : ∀ b n, hG (gZ g) 9 b = n → n ≠ 5 → AI2 b = AI1 b) : cmS (hG (gZ g)) AR (gZ g + 0) bA I1 AI1 I2 AI2 := by
  have k : ∀ b, gO (gW g M) b 4 → I2 b = I1 b ∧ AI2 (hG (gZ g) 0 b) = AI1 (hG (gZ g) 0 b) := fun b hb => ⟨n1 b 4 hb (by decide), n2 _ 1 (e_c1 hv hb) (by decide)⟩
  refine ⟨fun r hr => ?_, fun r hr => ?_, fun r hr => ?_⟩
  · have w := k _ (isRA_o hx.2.2.2.2.1 hr).2.1
    exact rfC_k w.1 w.2
  · have w := k _ (isRA_o (e_35 hv hx.1) hr).2.1
    exact rfC_k w.1 w.2
  · have w := k _ (isRA_o (e_36 hv hx.1) hr).2.1
    exact rfC_k w.1 w.2
/-! what the calls want -/
theorem e_hcK (h : lP8 g I AR AI pA nr tbs cc cl) : ∀ r : Nat, r < nr → tbs ≤ (r : Int) → cOK (cc r) r cl ∧ cZ (cc r) r cl := fun r h1 h2 => (h.2.2.2.2.1.2.2.2 r h1 h2).2
theorem e_cLt (h : lP8 g I AR AI pA nr tbs cc cl) : cLt tbs nr cc := cLt_of (e_hcK h)
theorem e_gd (h : lQ8 g I AR AI bA nA nr tbs cc cl) : gd8 tbs cc cl nr (rsM (hGm (gZ g)) AI 0) := h.1.2.2.1
theorem e_bgC (h : lQ8 g I AR AI bA nA nr tbs cc cl) : ∀ r, r < nr → bgOK (rfC (hG (gZ g)) AR I AI bA) cl r := fun r hr => bgOK_f (h.1.2.1 r hr) ((e_gd h).1.1 r hr).2
theorem m_bg (hv1 : gInv (gW g (I, AI)) (ghF 0 (hG (gZ g))) R AR I1 AI1) (h : lQ8 g I AR AI bA nA nr tbs cc cl) : ∀ r, r < nr → bgOK (rfM (hGm (gZ g)) AI1 0) cl r := fun r hr => by
  rw [e_rf hv1]; exact ((e_gd h).1.1 r hr).2
theorem m_ps (hv1 : gInv (gW g (I, AI)) (ghF 0 (hG (gZ g))) R AR I1 AI1) (h : lQ8 g I AR AI bA nA nr tbs cc cl) : ∀ r : Nat, (r : Int) < tbs → ∀ t, 0 ≤ (bS (rfM (hGm (gZ g)) AI1 0 r).2 (rfM (hGm (gZ g)) AI1 0 r).1 t).toInt := fun r hr => by
  rw [e_rf hv1]; exact (e_gd h).1.2 r hr
theorem m_b9 (hv1 : gInv (gW g (I, AI)) (ghF 0 (hG (gZ g))) R AR I1 AI1) (h : lQ8 g I AR AI bA nA nr tbs cc cl) : ∀ r, r < nr → bgOK (rfM (hGm (gZ g)) AI1 9) cl r := fun r hr => by
  rw [e_rf hv1]; exact (h.2.2.1 r hr).2
theorem m_vw (hv1 : gInv (gW g (I, AI)) (ghF 0 (hG (gZ g))) R AR I1 AI1) (h : lQ8 g I AR AI bA nA nr tbs cc cl) : ∀ r : Nat, r < nr → tbs ≤ (r : Int) → vwP (cc r) (rfM (hGm (gZ g)) AI1 0) 0 (rfM (hGm (gZ g)) AI1 0 r).2 (rfM (hGm (gZ g)) AI1 0 r).1 := fun r hr ht => by
  rw [e_rf hv1]
  have w := ((e_gd h).1.1 r hr).1
  unfold stP at w
  rw [if_neg (by omega)] at w
  exact w
theorem m_pl (hv1 : gInv (gW g (I, AI)) (ghF 0 (hG (gZ g))) R AR I1 AI1) (h : lP8 g I AR AI pA nr tbs cc cl) : plM9 (AI1 (hGm (gZ g) 50 0)) tbs nr cc cl := by
  have e : AI1 (hGm (gZ g) 50 0) = AI (gZ g + 206) := e_t5 hv1 (o := 206) (by decide +kernel)
  rw [e]; exact h.2.2.2.2.1.2
theorem m_mr (hOK : gOK g) (hv1 : gInv (gW g (I, AI)) (ghF 0 (hG (gZ g))) R AR I1 AI1) (h : lP8 g I AR AI pA nr tbs cc cl) : (I1 (gZ g + 205) 2).toInt = (nr : Int) := by
  rw [e_mo hOK hv1]; exact h.2.2.2.2.1.1
theorem m_bt (hv1 : gInv (gW g (I, AI)) (ghF 0 (hG (gZ g))) R AR I1 AI1) (h : lB8 g I AI tbs cl) (h0 : 0 ≤ (I (gZ g + 179) 3).toInt) (hr : ∀ i : Nat, (i : Int) < (I (gZ g + 179) 3).toInt → rwE (AI (gZ g + 180)) (AI (gZ g + 212)) (AI (gZ g + 213)) (AI (gZ g + 214)) i) : btM9 (hGm (gZ g)) AI1 (AI (gZ g + 180)) (I (gZ g + 179) 3).toInt.toNat tbs cl := by
  have a : AI1 (hGm (gZ g) 61 0) = AI (gZ g + 212) := e_t5 hv1 (o := 212) (by decide +kernel)
  have b : AI1 (hGm (gZ g) 62 0) = AI (gZ g + 213) := e_t5 hv1 (o := 213) (by decide +kernel)
  have c : AI1 (hGm (gZ g) 63 0) = AI (gZ g + 214) := e_t5 hv1 (o := 214) (by decide +kernel)
  refine ⟨fun i hi => ?_, bG_o h, bG_z h, bG_t h⟩
  rw [a, b, c]
  have w := hr i (by omega)
  exact ⟨w.1.symm, fun k hk => (w.2.1 k hk).symm, w.2.2.symm⟩
/-! a call that leaves the engine as it was -/
theorem lP_k (hOK : gOK g) (hv0 : gInv (gW g (I, AI)) (ghF 0 (hG (gZ g))) R1 AR I1 AI1) (hp : gO (gW g (I, AI)) pA 2) (h : lP8 g I AR AI pA nr tbs cc cl) (fI : ∀ b c, gO (gW g (I, AI)) b c → c ≠ 4 → c ≠ 6 → I1 b = I b) (fA : ∀ y, gO (gW g (I, AI)) y 0 → AI1 (hG (gZ g) 3 y) = AI (hG (gZ g) 3 y))
    (n1 : ∀ b c, gO (gW g (I2, AI2)) b c → c ≠ 7 → I2 b = I1 b) (n2 : ∀ b n, hG (gZ g) 9 b = n → n ≠ 5 → AI2 b = AI1 b) (ht : AI2 (gZ g + 206) = AI1 (gZ g + 206)) (h2 : (I2 (gZ g + 205) 2).toInt = (I1 (gZ g + 205) 2).toInt) : lP8 g I2 AR AI2 pA nr tbs cc cl := by
  obtain ⟨a1, a2, a3, a4, a5, a6⟩ := h
  have ep : I2 pA = I pA := (n1 pA 2 hp (by decide)).trans (fI pA 2 hp (by decide) (by decide))
  have et : AI2 (gZ g + 206) = AI (gZ g + 206) := ht.trans (e_t5 hv0 (o := 206) (by decide +kernel))
  unfold lP8
  rw [ep, et, h2, e_mo hOK hv0]
  refine ⟨a1, a2, a3, fun r hr => ?_, a5, a6⟩
  have hy : gO (gW g (I, AI)) (rob AR (hG (gZ g) 6 pA) r) 0 := gl_o (gh := ghF 0 (hG (gZ g))) hv0 hp (by omega)
  rw [(n1 _ 0 hy (by decide)).trans (fI _ 0 hy (by decide) (by decide)), (n2 _ 2 (e_c2 hv0 hy) (by decide)).trans (fA _ hy)]
  exact a4 r hr
theorem lQ_k (hOK : gOK g) (hv0 : gInv (gW g (I, AI)) (ghF 0 (hG (gZ g))) R1 AR I1 AI1) (hx : xS (gW g (I, AI)) (hG (gZ g)) R1 AR (gZ g + 0) pA bA nA) (hP : lP8 g I AR AI pA nr tbs cc cl) (h : lQ8 g I AR AI bA nA nr tbs cc cl) (fS : cmS (hG (gZ g)) AR (gZ g + 0) bA I AI I1 AI1) (fx : I1 (gZ g + 0) 14 = I (gZ g + 0) 14 ∧ I1 (gZ g + 0) 15 = I (gZ g + 0) 15) (f38 : I1 (hG (gZ g) 38 0) 3 = I (hG (gZ g) 38 0) 3)
    (n1 : ∀ b c, gO (gW g (I2, AI2)) b c → c ≠ 7 → I2 b = I1 b) (n2 : ∀ b n, hG (gZ g) 9 b = n → n ≠ 5 → AI2 b = AI1 b) (hs : ∀ sd : Int, 0 ≤ sd → sd ≤ 9 → sE8 (rsM (hGm (gZ g)) AI2 sd) (rsM (hGm (gZ g)) AI1 sd)) (h8 : I2 (gZ g + 205) 8 = I1 (gZ g + 205) 8) (hn : I2 (gZ g + 0) 16 = I2 (gZ g + 205) 9 ∧ I2 (gZ g + 0) 17 = I2 (gZ g + 205) 10) : lQ8 g I2 AR AI2 bA nA nr tbs cc cl := by
  obtain ⟨b1, b2, b3, b4, b5⟩ := h
  have fM := cS_m hv0 hx n1 n2
  have ex : I2 (gZ g + 0) = I1 (gZ g + 0) := n1 _ 6 hx.1 (by decide)
  have hs' : ∀ sd : Int, 0 ≤ sd → sd ≤ 9 → sE8 (rsM (hGm (gZ g)) AI2 sd) (rsM (hGm (gZ g)) AI sd) := fun sd a b r hr => by
    have w := hs sd a b r hr
    rw [e_rs hv0] at w; exact w
  have h16 := hP.2.2.1.2.2
  refine ⟨eS_c (e_cLt hP) hP.2.2.1.2.1 h16 b1 (fun r hr => (fM.1 r (by omega)).trans (fS.1 r (by omega))) (fun k hk => (fM.2.2 k hk).trans (fS.2.2 k hk)) (fun sd a b => hs' sd a (by omega)) (by rw [ex, fx.1]) (by rw [ex, fx.2]), ⟨?_, hn⟩, fun r hr => ?_, b4, ?_⟩
  · rw [ex, fx.2, h8, e_mo hOK hv0]; exact b2.1
  · rw [(fM.2.1 r (by omega)).trans (fS.2.1 r (by omega)), mv_e (hs' 0 (by decide) (by decide)) (hs' 9 (by decide) (by decide)) (by omega)]
    refine ⟨(b3 r hr).1, ?_⟩
    have w := (b3 r hr).2
    unfold bgOK at w ⊢
    rw [show rfM (hGm (gZ g)) AI2 9 r = rfM (hGm (gZ g)) AI 9 r from sE_f (hs' 9 (by decide) (by decide)) r (by omega)]
    exact w
  · rw [n1 _ 4 (e_38 hv0 hx.1).1 (by decide), f38]; exact b5
theorem lE_k (hOK : gOK g) (hv0 : gInv (gW g (I, AI)) (ghF 0 (hG (gZ g))) R1 AR I1 AI1) (hx : xS (gW g (I, AI)) (hG (gZ g)) R1 AR (gZ g + 0) pA bA nA) (h : lE8 g I AR AI pA bA nA) (fI : ∀ b c, gO (gW g (I, AI)) b c → c ≠ 4 → c ≠ 6 → I1 b = I b) (fA : ∀ y, gO (gW g (I, AI)) y 0 → AI1 (hG (gZ g) 3 y) = AI (hG (gZ g) 3 y)) (fS : cmS (hG (gZ g)) AR (gZ g + 0) bA I AI I1 AI1) (fx : ∀ j, j ≠ 1 → I1 (gZ g + 0) j = I (gZ g + 0) j) (f38 : I1 (hG (gZ g) 38 0) 3 = I (hG (gZ g) 38 0) 3)
    (n1 : ∀ b c, gO (gW g (I2, AI2)) b c → c ≠ 7 → I2 b = I1 b) (n2 : ∀ b n, hG (gZ g) 9 b = n → n ≠ 5 → AI2 b = AI1 b) (ht : AI2 (gZ g + 206) = AI1 (gZ g + 206)) (h2 : (I2 (gZ g + 205) 2).toInt = (I1 (gZ g + 205) 2).toInt)
    (hs : ∀ sd : Int, 0 ≤ sd → sd ≤ 9 → sE8 (rsM (hGm (gZ g)) AI2 sd) (rsM (hGm (gZ g)) AI1 sd)) (h8 : I2 (gZ g + 205) 8 = I1 (gZ g + 205) 8 ∧ I2 (gZ g + 205) 9 = I1 (gZ g + 205) 9 ∧ I2 (gZ g + 205) 10 = I1 (gZ g + 205) 10) (hb : ∀ tbs cl, lB8 g I AI tbs cl → lB8 g I2 AI2 tbs cl) : lE8 g I2 AR AI2 pA bA nA := by
  obtain ⟨nr, tbs, cc, cl, hP, hQ, hB⟩ := h
  have ex : I2 (gZ g + 0) = I1 (gZ g + 0) := n1 _ 6 hx.1 (by decide)
  refine ⟨nr, tbs, cc, cl, lP_k hOK hv0 hx.2.2.1 hP fI fA n1 n2 ht h2, lQ_k hOK hv0 hx hP hQ fS ⟨fx 14 (by decide), fx 15 (by decide)⟩ f38 n1 n2 hs h8.1 ?_, hb _ _ hB⟩
  rw [ex, h8.2.1, h8.2.2, fx 16 (by decide), fx 17 (by decide), e_mo hOK hv0]
  exact hQ.2.1.2
/-! the sides over a call of the reference -/
theorem s_all {A B : gI} (h : A = B) : ∀ sd : Int, 0 ≤ sd → sd ≤ 9 → sE8 (rsM (hGm (gZ g)) A sd) (rsM (hGm (gZ g)) B sd) := fun _ _ _ _ _ => by rw [h]
theorem s_sdK (h : sdK (hGm (gZ g)) AI1 AI2) : ∀ sd : Int, 0 ≤ sd → sd ≤ 9 → sE8 (rsM (hGm (gZ g)) AI2 sd) (rsM (hGm (gZ g)) AI1 sd) := fun _ a b _ hr => rsM_k h ⟨a, b⟩ hr
theorem s_g (h : ∀ b, b ≠ gZ g + 212 → b ≠ gZ g + 213 → b ≠ gZ g + 214 → b ≠ gZ g + 217 → b ≠ gZ g + 221 → AI2 b = AI1 b) : ∀ sd : Int, 0 ≤ sd → sd ≤ 9 → sE8 (rsM (hGm (gZ g)) AI2 sd) (rsM (hGm (gZ g)) AI1 sd) := fun sd _ _ r _ =>
  congrFun (rsM_g (gh := hGm (gZ g)) (sd := sd) (h (gZ g + 210) (by omega) (by omega) (by omega) (by omega) (by omega)) (h (gZ g + 211) (by omega) (by omega) (by omega) (by omega) (by omega)) (h (gZ g + 219) (by omega) (by omega) (by omega) (by omega) (by omega))) r
/-! the batch -/
theorem lB_k (e1 : I2 (gZ g + 179) 3 = I (gZ g + 179) 3) (e2 : AI2 (gZ g + 180) = AI (gZ g + 180)) : ∀ tbs cl, lB8 g I AI tbs cl → lB8 g I2 AI2 tbs cl := fun tbs cl h => by
  unfold lB8 at h ⊢; rw [e1, e2]; exact h
theorem lB_0 (e : (I2 (gZ g + 179) 3).toInt = 0) : lB8 g I2 AI2 tbs cl := by unfold lB8; rw [e]; exact bG_0
theorem lB_ch {f f' : Nat → Int32} {u : Nat → Int} {tb n z len len1 a b c d : Int} {clp : Nat → Int} (hP : lP8 g I AR AI pA nr tbs cc cl) (h : bG8 tbs cl f len.toNat) (h0 : 0 ≤ len) (hc : ∀ r : Nat, r < nr → tI (AI (gZ g + 206)) (40 * (r : Int) + 1) = clp r) (eu : u = cky tb a b c d (clp tb.toNat)) (q : chP tbs tb n z len len1 f f' u) (hs : srt 5 f' len1) (h1 : 0 ≤ len1) : bG8 tbs cl f' len1.toNat := by
  have e1 : ((len1.toNat : Nat) : Int) = len1 := Int.toNat_of_nonneg h1
  refine ⟨by rw [e1]; exact hs, fun i hi => ch_G (a := a) (b := b) (c := c) (d := d) (fun r hr => (hP.2.2.2.2.2 r (by have := hP.2.2.1; omega)).2.1.1) h0 (fun j hj => h.2 j (by omega)) (fun t0 t1 => ?_) q i (by omega)⟩
  have r9 : tb.toNat < nr := by have := hP.2.2.1; omega
  rw [eu, ← hc _ r9, (hP.2.2.2.2.2 _ r9).1]
/-! commit -/
theorem lE_cm (hOK : gOK g) (hv : gInv (gW g (I, AI)) (ghF 0 (hG (gZ g))) R AR I AI) (hx : xS (gW g (I, AI)) (hG (gZ g)) R AR (gZ g + 0) pA bA nA) (hv0 : gInv (gW g (I, AI)) (ghF 0 (hG (gZ g))) R1 AR I1 AI1) (hP : lP8 g I AR AI pA nr tbs cc cl) (hQ : lQ8 g I AR AI bA nA nr tbs cc cl) (hB : lB8 g I AI tbs cl) {v1 v2 : Int}
    (f38 : I1 (hG (gZ g) 38 0) 3 = I (hG (gZ g) 38 0) 3)
    (c : ∃ (code : Int) (Fn : RF), rnP tbs nr cc (∃ i, i < (I (gZ g + 179) 3).toInt.toNat ∧ blw (AI (gZ g + 180)) (rfC (hG (gZ g)) AR I AI bA) 1 i) (tbS (AI (gZ g + 180)) (I (gZ g + 179) 3).toInt.toNat (rfC (hG (gZ g)) AR I AI bA) 1) code Fn ∧ (code = 0 → stA tbs cc (tbS (AI (gZ g + 180)) (I (gZ g + 179) 3).toInt.toNat (rfC (hG (gZ g)) AR I AI bA) 1) cl Fn nr) ∧
      ((code ≠ 0 ∧ v1 = code ∧ xS (gW g (I, AI)) (hG (gZ g)) R1 AR (gZ g + 0) pA bA nA ∧ cmS (hG (gZ g)) AR (gZ g + 0) bA I AI I1 AI1 ∧ I1 (gZ g + 0) 14 = I (gZ g + 0) 14 ∧ I1 (gZ g + 0) 15 = I (gZ g + 0) 15 ∧ I1 (gZ g + 0) 16 = I (gZ g + 0) 16 ∧ I1 (gZ g + 0) 17 = I (gZ g + 0) 17 + 1) ∨
        (code = 0 ∧ xS (gW g (I, AI)) (hG (gZ g)) R1 AR (gZ g + 0) pA nA bA ∧ cmY (hG (gZ g)) AR (gZ g + 0) bA nA nr tbs I AI (I (gZ g + 179) 3).toInt.toNat Fn v1 I1 AI1)))
    (n1 : ∀ b c, gO (gW g (I2, AI2)) b c → c ≠ 7 → I2 b = I1 b) (n2 : ∀ b n, hG (gZ g) 9 b = n → n ≠ 5 → AI2 b = AI1 b)
    (m : (v2 < 0 ∧ drP (hGm (gZ g)) AI1 tbs nr cc cl (AI (gZ g + 180)) (I (gZ g + 179) 3).toInt.toNat v2 AI2 ∧ I2 (gZ g + 205) 8 = I1 (gZ g + 205) 8 ∧ I2 (gZ g + 205) 9 = I1 (gZ g + 205) 9 ∧ I2 (gZ g + 205) 10 = I1 (gZ g + 205) 10 + 1) ∨
      (∃ A1 : gI, drP (hGm (gZ g)) AI1 tbs nr cc cl (AI (gZ g + 180)) (I (gZ g + 179) 3).toInt.toNat 0 A1 ∧ cmM (hGm (gZ g)) AI1 A1 AI2 (I1 (gZ g + 205) 8).toInt (I2 (gZ g + 205) 8).toInt ∧ I2 (gZ g + 205) 9 = I1 (gZ g + 205) 9 + 1 ∧ I2 (gZ g + 205) 10 = I1 (gZ g + 205) 10 ∧ noY (hGm (gZ g)) AI1 AI2 ∧ v2 = smL (fun r => ((bgN (mvF (hGm (gZ g)) AI2 r) : Nat) : Int)) tbs.toNat (nr - tbs.toNat))) :
    v1 = v2 ∧ ∃ b1 n1, xS (gW g (I, AI)) (hG (gZ g)) R1 AR (gZ g + 0) pA b1 n1 ∧ lQ8 g I2 AR AI2 b1 n1 nr tbs cc cl := by
  obtain ⟨code, Fn, c1, c2, c3⟩ := c
  have hl := e_cLt hP
  have ht := hP.2.2.1.2.1
  have h16 := hP.2.2.1.2.2
  have hN : ∀ r, r < nr → rfA (rfC (hG (gZ g)) AR I AI bA) (rfM (hGm (gZ g)) AI 0) r := hQ.1.2.1
  have ex : I2 (gZ g + 0) = I1 (gZ g + 0) := n1 _ 6 hx.1 (by decide)
  have emo : I1 (gZ g + 205) = I (gZ g + 205) := e_mo hOK hv0
  have erf := e_rf hv0
  have ers := e_rs hv0
  have m0 := hQ.2.1
  rcases m with ⟨y1, y2, y3, y4, y5⟩ | ⟨A1, y2, y3, y4, y5, y6, y7⟩
  · have d := y2.2.2.1
    rw [erf] at d
    have u := cm_u hl ht hB hN c1 d
    rcases c3 with ⟨x1, x2, x3, x4, x5, x6, x7, x8⟩ | ⟨x1, x2, x3⟩
    · refine ⟨by omega, bA, nA, x3, lQ_k hOK hv0 x3 hP hQ x4 ⟨x5, x6⟩ f38 n1 n2 (s_sdK y2.1) y3 ?_⟩
      rw [ex, x7, x8, y4, y5, emo, m0.2.1, m0.2.2]
      exact ⟨rfl, rfl⟩
    · exfalso; omega
  · have d := y2.2.2.1
    have d2 := y2.2.2.2.1 rfl
    rw [erf] at d d2
    have u := cm_u hl ht hB hN c1 d
    rcases c3 with ⟨x1, _⟩ | ⟨x1, x2, x3⟩
    · exfalso; omega
    · subst x1
      obtain ⟨z1, z2, z3, z4, z5, z6, z7, z8⟩ := x3
      obtain ⟨w1, w2, w3⟩ := y3
      have fM := cS_m hv0 x2 n1 n2
      have e0 : sE8 (rsM (hGm (gZ g)) AI2 0) (rsM (hGm (gZ g)) A1 10) := w1
      have e9 : sE8 (rsM (hGm (gZ g)) AI2 9) (rsM (hGm (gZ g)) AI 0) := by rw [← ers]; exact w2
      have rA := u.2 rfl
      have rd : rdA tbs cc (sF8 (rsM (hGm (gZ g)) A1 10)) (sM8 (rsM (hGm (gZ g)) A1 10)) nr := rd_up hl (Nat.le_refl _) (fun _ _ => rfl) (fun q _ => by
        show A1 (hGm (gZ g) 79 0) (16 * 10 + (q : Int)).toNat = _
        rw [show (16 * 10 + (q : Int)).toNat = 160 + q by omega]) d2.2
      have mvq : ∀ r, r < nr → isB (rfC (hG (gZ g)) AR I1 AI1 (hG (gZ g) 35 0) r).2 (rfC (hG (gZ g)) AR I1 AI1 (hG (gZ g) 35 0) r).1 (mv8 (rsM (hGm (gZ g)) AI2 0) (rsM (hGm (gZ g)) AI2 9) r) zM := fun r hr => by
        rw [mv_e e0 e9 (by omega), ← mv_c (s := rsM (hGm (gZ g)) A1 10) (s9 := rsM (hGm (gZ g)) AI 0) (rA r hr) (hN r hr)]
        exact z2 r hr
      have hb8 := w3
      unfold bkP at hb8
      rw [ers, emo] at hb8
      have e15 : (I1 (gZ g + 0) 15).toInt = (I2 (gZ g + 205) 8).toInt := by
        have a := m0.1
        have b := hQ.1.1.2
        rcases hb8 with ⟨k1, k2, _⟩ | ⟨k1, k2, _⟩ <;> omega
      refine ⟨?_, nA, bA, x2, ⟨?_, ⟨?_, ?_, ?_⟩, fun r hr => ⟨?_, ?_⟩, xD_s hQ.2.2.2.1, ?_⟩⟩
      · rw [z8, y7]
        refine smL_c _ (fun r h1 h2 => ?_)
        have hr : r < nr := by have := hP.2.2.1; omega
        have w : bgN (mvF (hGm (gZ g)) AI2 r) = _ := bgN_e (mvq r hr)
        have z : 0 ≤ (I1 (rob AR (hG (gZ g) 35 0) r) 3).toInt := e_len hv0 (isRA_o (e_35 hv0 hx.1) (by omega)).2.1
        show (I1 (rob AR (hG (gZ g) 35 0) r) 3).toInt = ((bgN (mvF (hGm (gZ g)) AI2 r) : Nat) : Int)
        rw [w]
        show _ = (((I1 (rob AR (hG (gZ g) 35 0) r) 3).toInt.toNat : Nat) : Int)
        omega
      · rw [ex]
        refine eS_cm (f := AI (gZ g + 180)) (nb := (I (gZ g + 179) 3).toInt.toNat) (s1 := rsM (hGm (gZ g)) A1 10) (u' := (I1 (gZ g + 0) 15).toInt) hl ht h16 hQ.1 hB c1 d d2.1 rd (fun r hr => (fM.1 r (by omega)).trans (z1 r hr)) (fun k hk hn => (fM.2.2 k hk).trans (z3 k hk hn)) ?_ e0 z5.1 ?_
        · rw [fM.2.2 _ (by have := hQ.1.1.1; omega)]
          refine ⟨z4.1, fun j hj => rwA_at z4.2 hj⟩
        · rw [e15, m0.1]
          exact hb8
      · rw [ex]; exact e15
      · rw [ex, z6, y4, emo, m0.2.1]
      · rw [ex, z7, y5, emo, m0.2.2]
      · rw [fM.2.1 r (by omega)]; exact mvq r hr
      · have w := ((e_gd hQ).1.1 r hr).2
        unfold bgOK at w ⊢
        rw [show rfM (hGm (gZ g)) AI2 9 r = rfM (hGm (gZ g)) AI 0 r from sE_f e9 r (by omega)]
        exact w
      · rw [n1 _ 4 (e_38 hv0 hx.1).1 (by decide), f38]; exact hQ.2.2.2.2
/-! undo -/
theorem lE_un (hOK : gOK g) (hv0 : gInv (gW g (I, AI)) (ghF 0 (hG (gZ g))) R1 AR I1 AI1) (hx : xS (gW g (I, AI)) (hG (gZ g)) R AR (gZ g + 0) pA bA nA) (hP : lP8 g I AR AI pA nr tbs cc cl) (hQ : lQ8 g I AR AI bA nA nr tbs cc cl) {Fn : RF} (hu : 0 < (I (gZ g + 0) 15).toInt) (x1 : xS (gW g (I, AI)) (hG (gZ g)) R1 AR (gZ g + 0) pA nA bA)
    (c1 : rnP tbs nr cc (∃ i, i < (rfC (hG (gZ g)) AR I AI (hG (gZ g) 36 0) (((I (gZ g + 0) 14).toInt + 7) % 8).toNat).1 ∧ blw (rfC (hG (gZ g)) AR I AI (hG (gZ g) 36 0) (((I (gZ g + 0) 14).toInt + 7) % 8).toNat).2 (rfC (hG (gZ g)) AR I AI bA) (-1) i) (tbS (rfC (hG (gZ g)) AR I AI (hG (gZ g) 36 0) (((I (gZ g + 0) 14).toInt + 7) % 8).toNat).2 (rfC (hG (gZ g)) AR I AI (hG (gZ g) 36 0) (((I (gZ g + 0) 14).toInt + 7) % 8).toNat).1 (rfC (hG (gZ g)) AR I AI bA) (-1)) 0 Fn)
    (c2 : cmU (hG (gZ g)) AR (gZ g + 0) bA nA nr I AI Fn I1 AI1) (n1 : ∀ b c, gO (gW g (I2, AI2)) b c → c ≠ 7 → I2 b = I1 b) (n2 : ∀ b n, hG (gZ g) 9 b = n → n ≠ 5 → AI2 b = AI1 b)
    (m : unM (hGm (gZ g)) AI1 AI2 ((I1 (gZ g + 205) 8).toInt - 1)) (m8 : (I2 (gZ g + 205) 8).toInt = (I1 (gZ g + 205) 8).toInt - 1) (m9 : I2 (gZ g + 205) 9 = I1 (gZ g + 205) 9 ∧ I2 (gZ g + 205) 10 = I1 (gZ g + 205) 10) : lQ8 g I2 AR AI2 nA bA nr tbs cc cl := by
  have hl := e_cLt hP
  have ht := hP.2.2.1.2.1
  have h16 := hP.2.2.1.2.2
  have ex : I2 (gZ g + 0) = I1 (gZ g + 0) := n1 _ 6 hx.1 (by decide)
  have emo : I1 (gZ g + 205) = I (gZ g + 205) := e_mo hOK hv0
  have ers := e_rs hv0
  have m0 := hQ.2.1
  obtain ⟨z1, z2, z3, z4, -, -, z7⟩ := c2
  obtain ⟨w1, w2, w3, -⟩ := m
  have fM := cS_m hv0 x1 n1 n2
  have e9 : sE8 (rsM (hGm (gZ g)) AI2 9) (rsM (hGm (gZ g)) AI 0) := by rw [← ers]; exact w2
  have e0 : sE8 (rsM (hGm (gZ g)) AI2 0) (rsM (hGm (gZ g)) AI (I (gZ g + 0) 15).toInt) := fun r hr => by
    rw [w1 r hr, ers, emo, ← m0.1, show 1 + ((I (gZ g + 0) 15).toInt - 1) = (I (gZ g + 0) 15).toInt by omega]
  have b := (eS_un ht h16 hQ.1 hu rfl).2
  have rA := (rnP_u hl c1 b).2 rfl
  have h14 : I2 (gZ g + 0) 15 = I1 (gZ g + 0) 15 := by rw [ex]
  refine ⟨?_, ⟨?_, ?_, ?_⟩, fun r hr => ⟨?_, ?_⟩, xD_s hQ.2.2.2.1, ?_⟩
  · rw [ex]
    exact eS_ud hl ht h16 hQ.1 hu rfl c1 (fun r hr => (fM.1 r (by omega)).trans (z1 r hr)) (fun k hk => (fM.2.2 k hk).trans (z3 k hk)) e0 (fun sd a b r hr => by rw [w3 sd a b r hr, ers]) z4.1 z4.2.1
  · rw [ex, z4.2.1, m8, emo, m0.1]
  · rw [ex, z4.2.2.1, m9.1, emo, m0.2.1]
  · rw [ex, z4.2.2.2, m9.2, emo, m0.2.2]
  · rw [fM.2.1 r (by omega), mv_e e0 e9 (by omega), ← mv_c (s := rsM (hGm (gZ g)) AI (I (gZ g + 0) 15).toInt) (s9 := rsM (hGm (gZ g)) AI 0) (rA r hr) (hQ.1.2.1 r hr)]
    exact z2 r hr
  · have w := ((e_gd hQ).1.1 r hr).2
    unfold bgOK at w ⊢
    rw [show rfM (hGm (gZ g)) AI2 9 r = rfM (hGm (gZ g)) AI 0 r from sE_f e9 r (by omega)]
    exact w
  · rw [n1 _ 4 (e_38 hv0 hx.1).1 (by decide), z7]; exact hQ.2.2.2.2
/-! would and differs: alike -/
theorem lE_wd (hv0 : gInv (gW g (I, AI)) (ghF 0 (hG (gZ g))) R1 AR I1 AI1) (hP : lP8 g I AR AI pA nr tbs cc cl) (hQ : lQ8 g I AR AI bA nA nr tbs cc cl) (hB : lB8 g I AI tbs cl) {rel z1 z2 : Int}
    (c : ((rel < 0 ∨ (nr : Int) ≤ rel) ∧ z1 = -1) ∨ ((0 ≤ rel ∧ rel < (nr : Int)) ∧ ∃ (code : Int) (Fn : RF), rnP tbs nr cc (∃ i, i < (I (gZ g + 179) 3).toInt.toNat ∧ blw (AI (gZ g + 180)) (rfC (hG (gZ g)) AR I AI bA) 1 i) (tbS (AI (gZ g + 180)) (I (gZ g + 179) 3).toInt.toNat (rfC (hG (gZ g)) AR I AI bA) 1) code Fn ∧ (code ≠ 0 → z1 = code) ∧ (code = 0 → z1 = (((Fn rel.toNat).1 : Nat) : Int))))
    (m : ((rel < 0 ∨ (nr : Int) ≤ rel) ∧ z2 = -1 ∧ AI2 = AI1) ∨ (0 ≤ rel ∧ rel < (nr : Int) ∧ ∃ code : Int, drP (hGm (gZ g)) AI1 tbs nr cc cl (AI (gZ g + 180)) (I (gZ g + 179) 3).toInt.toNat code AI2 ∧ ((code = 0 ∧ z2 = (((rfM (hGm (gZ g)) AI2 10 rel.toNat).1 : Nat) : Int)) ∨ (code ≠ 0 ∧ z2 = code)))) : z1 = z2 := by
  rcases c with ⟨a1, a2⟩ | ⟨a1, code, Fn, a2, a3, a4⟩
  · rcases m with ⟨b1, b2, _⟩ | ⟨b1, b2, _⟩
    · omega
    · exfalso; omega
  · rcases m with ⟨b1, _⟩ | ⟨b1, b2, code2, b3, b4⟩
    · exfalso; omega
    · have d := b3.2.2.1
      rw [e_rf hv0] at d
      have u := cm_u (e_cLt hP) hP.2.2.1.2.1 hB hQ.1.2.1 a2 d
      by_cases w : code = 0
      · have e := (u.2 w rel.toNat (by omega)).1
        rcases b4 with ⟨b4, b5⟩ | ⟨b4, b5⟩
        · rw [a4 w, b5, e]
        · exfalso; omega
      · rcases b4 with ⟨b4, b5⟩ | ⟨b4, b5⟩
        · exfalso; omega
        · rw [a3 w, b5, u.1]
/-! plan -/
theorem lE_pl (hOK : gOK g) (hv0 : gInv (gW g (I, AI)) (ghF 0 (hG (gZ g))) R1 AR I1 AI1) (hx : xS (gW g (I, AI)) (hG (gZ g)) R AR (gZ g + 0) pA bA nA) (hx1 : xS (gW g (I, AI)) (hG (gZ g)) R1 AR (gZ g + 0) q bA nA) (hD : xD (hG (gZ g)) AR bA nA) (h38 : (I (hG (gZ g) 38 0) 3).toInt = 0) {b : tTx} {n : Nat} {J1 : gJ}
    (p1 : pLn (hG (gZ g)) AR I1 J1 q b n (sPlF b n).1 (sPlF b n).2.1 (sPlF b n).2.2.1 ∧ (I1 q 2).toInt = (sPlF b n).2.2.2)
    (pc : rowsC (hG (gZ g)) AR I1 AI1 q b n (sPlF b n).1 (sPlF b n).2.1 (sPlF b n).2.2.1 ∧ (∀ r, r < 16 → (I1 (rob AR bA r) 3).toInt = 0 ∧ (I1 (rob AR (hG (gZ g) 35 0) r) 3).toInt = 0) ∧ (∀ o, gO (gW g (I, AI)) o 4 → (∀ r, r < 16 → rob AR bA r ≠ o) → (∀ r, r < 16 → rob AR (hG (gZ g) 35 0) r ≠ o) → o ≠ hG (gZ g) 37 0 → I1 o = I o) ∧ (∀ o, hG (gZ g) 9 o = 1 → AI1 o = AI o) ∧ (I1 (gZ g + 0) 15).toInt = 0 ∧ (I1 (gZ g + 0) 16).toInt = 0 ∧ (I1 (gZ g + 0) 17).toInt = 0)
    (n1 : ∀ b c, gO (gW g (I2, AI2)) b c → c ≠ 7 → I2 b = I1 b) (n2 : ∀ b n, hG (gZ g) 9 b = n → n ≠ 5 → AI2 b = AI1 b)
    (p2 : (I2 (gZ g + 205) 2).toInt = ((sPlF b n).1 : Int) ∧ (∀ r : Nat, r < (sPlF b n).1 → tI (AI2 (hGm (gZ g) 50 0)) (40 * (r : Int) + 1) = (sPlF b n).2.2.1 r ∧ tI (AI2 (hGm (gZ g) 50 0)) (40 * (r : Int)) = kdT b n ((sPlF b n).2.1 r)))
    (pn : (∀ j : Nat, j < 176 → AI2 (hGm (gZ g) 57 0) j = 0) ∧ (∀ j : Nat, j < 16 → AI2 (hGm (gZ g) 79 0) j = 0) ∧ (I2 (gZ g + 205) 8).toInt = 0 ∧ (I2 (gZ g + 205) 9).toInt = 0 ∧ (I2 (gZ g + 205) 10).toInt = 0 ∧ plR b n (AI2 (hGm (gZ g) 50 0))) (b0 : (I1 (gZ g + 179) 3).toInt = 0) (h179 : gO (gW g (I, AI)) (gZ g + 179) 4) : lE8 g I2 AR AI2 q bA nA := by
  obtain ⟨p3, p4⟩ := p1
  obtain ⟨c1, c2, c3, c4, c5, c6, c7⟩ := pc
  obtain ⟨d1, d2, d3, d4, d5, d6⟩ := pn
  have hq : gO (gW g (I, AI)) q 2 := hx1.2.2.1
  have k := sPlF_k b n
  have hcl := rowsC_cl c1
  have e206 : AI2 (hGm (gZ g) 50 0) = AI2 (gZ g + 206) := rfl
  have eq : I2 q = I1 q := n1 q 2 hq (by decide)
  have ex : I2 (gZ g + 0) = I1 (gZ g + 0) := n1 _ 6 hx.1 (by decide)
  have h16 : (sPlF b n).1 ≤ 16 := p3.2.1
  have hy : ∀ r, r < 16 → ∃ y, AR (hG (gZ g) 6 q) r = some y ∧ gO (gW g (I, AI)) y 0 ∧ rob AR (hG (gZ g) 6 q) r = y := fun r hr => by
    obtain ⟨y, a1, a2, _⟩ := (hv0.2.2.2.1 q hq).1.2.2.1 r hr
    have a1 : AR (hG (gZ g) 6 q) r = some y := a1
    exact ⟨y, a1, a2, rob_e a1⟩
  have hcK : ∀ r : Nat, r < (sPlF b n).1 → (sPlF b n).2.2.2 ≤ (r : Int) → cOK (lcT b n (sPlF b n).2.1 (sPlF b n).2.2.1 r) r (sPlF b n).2.2.1 ∧ cZ (lcT b n (sPlF b n).2.1 (sPlF b n).2.2.1 r) r (sPlF b n).2.2.1 := fun r hr ht =>
    lc_good (fun u hu => hcl u (by omega)) (hcl r hr).1 (c1 r hr).1 (fun e => by have := (k.2.2 r hr).mp e; omega)
  have z57 : ∀ sd : Int, 0 ≤ sd → sd ≤ 10 → ∀ r, r < 16 → (rfM (hGm (gZ g)) AI2 sd r).1 = 0 := fun sd h1 h2 r hr => by
    show (AI2 (hGm (gZ g) 57 0) (16 * sd + (r : Int)).toNat).toInt.toNat = 0
    rw [d1 _ (by omega)]; rfl
  refine ⟨(sPlF b n).1, (sPlF b n).2.2.2, lcT b n (sPlF b n).2.1 (sPlF b n).2.2.1, (sPlF b n).2.2.1, ⟨by rw [eq]; exact p3.1, by rw [eq]; exact p4, ⟨k.1, k.2.1, h16⟩, fun r hr => ?_, ⟨p2.1, ⟨k.1, k.2.1⟩, fun r h0 h1 => ?_, fun r hr ht => ⟨?_, hcK r hr ht⟩⟩, fun r hr => ⟨(p2.2 r hr).1, hcl r hr, rfl, (p2.2 r hr).2⟩⟩, ⟨?_, ⟨?_, ?_, ?_⟩, fun r hr => ⟨?_, ?_⟩, hD, ?_⟩, lB_0 ?_⟩
  · obtain ⟨y, a1, a2, a3⟩ := hy r (by omega)
    rw [a3, n1 y 0 a2 (by decide), n2 _ 2 (e_c2 hv0 a2) (by decide)]
    have w := (c1 r hr).2 y a1
    exact lnC_k w.1 (p3.2.2.1 r hr y a1).2 (c1 r hr).1.1 w.2
  · have hr : r.toNat < (sPlF b n).1 := by have := k.2.1; omega
    have w := (p2.2 r.toNat hr).2
    rw [show ((r.toNat : Nat) : Int) = r by omega] at w
    exact w.trans ((k.2.2 r.toNat hr).mpr (by omega))
  · have w := d6 r hr
    exact lnM_k (fun u hu => hcl u (by omega)) (hcl r hr).1 (fun u hu => (p2.2 u (by omega)).1) (p2.2 r hr).2 (p2.2 r hr).1 w.1 w.2 (fun e => by have := (k.2.2 r hr).mp e; omega)
  · have e14 := e_14 hv0 hx.1
    refine eS_0 hcK k.2.1 (by rw [ex]; omega) (fun r hr => ?_) (fun r hr => ⟨z57 0 (by decide) (by decide) r (by omega), ?_⟩) (by rw [ex]; exact c5)
    · have o := (isRA_o hx.2.2.2.2.1 (show r < 16 by omega)).2.1
      show (I2 (rob AR bA r) 3).toInt.toNat = 0
      rw [n1 _ 4 o (by decide), (c2 r (by omega)).1]; rfl
    · show AI2 (hGm (gZ g) 79 0) (16 * 0 + (r : Int)).toNat = 0
      exact d2 _ (by omega)
  · rw [ex, c5, d3]
  · rw [ex]; exact Int32.toInt_inj.mp (by rw [c6, d4])
  · rw [ex]; exact Int32.toInt_inj.mp (by rw [c7, d5])
  · have o := (isRA_o (e_35 hv0 hx.1) (show r < 16 by omega)).2.1
    have e : (rfC (hG (gZ g)) AR I2 AI2 (hG (gZ g) 35 0) r).1 = 0 := by
      show (I2 (rob AR (hG (gZ g) 35 0) r) 3).toInt.toNat = 0
      rw [n1 _ 4 o (by decide), (c2 r (by omega)).2]; rfl
    rw [e]
    exact mv_0 (z57 0 (by decide) (by decide) r (by omega)) (z57 9 (by decide) (by decide) r (by omega))
  · unfold bgOK
    rw [z57 9 (by decide) (by decide) r (by omega)]
    exact ⟨⟨fun i j _ hj => absurd hj (Nat.not_lt_zero j), fun i hi => absurd hi (Nat.not_lt_zero i)⟩, by decide, fun i hi => absurd hi (Nat.not_lt_zero i)⟩
  · have o := e_38 hv0 hx.1
    rw [n1 _ 4 o.1 (by decide), c3 _ o.1 (fun r hr => ra_ne1 hx.2.2.2.2.1 o.2.1 o.2.2 (Or.inl (by decide)) hr) (fun r hr => ra_ne1 (e_35 hv0 hx.1) o.2.1 o.2.2 (Or.inl (by decide)) hr) (fun e => hD.2.2.2.2.2.2.1 e.symm)]
    exact h38
  · rw [n1 _ 4 h179 (by decide)]; exact b0
/-- a plan that is refused -/
theorem lE_pn (hOK : gOK g) (hv0 : gInv (gW g (I, AI)) (ghF 0 (hG (gZ g))) R1 AR I1 AI1) (hx : xS (gW g (I, AI)) (hG (gZ g)) R1 AR (gZ g + 0) pA bA nA) (h : lE8 g I AR AI pA bA nA) (ep : I1 pA = I pA) (ey : ∀ y, gO (gW g (I, AI)) y 0 → hG (gZ g) 4 y = pA → I1 y = I y)
    (pc : (∀ o, gO (gW g (I, AI)) o 4 → I1 o = I o) ∧ (∀ o, hG (gZ g) 9 o = 1 → AI1 o = AI o) ∧ (∀ k, k ≠ 1 → I1 (gZ g + 0) k = I (gZ g + 0) k) ∧ ∀ y, gO (gW g (I, AI)) y 0 → hG (gZ g) 4 y = pA → AI1 (hG (gZ g) 3 y) = AI (hG (gZ g) 3 y))
    (n1 : ∀ b c, gO (gW g (I2, AI2)) b c → c ≠ 7 → I2 b = I1 b) (n2 : ∀ b n, hG (gZ g) 9 b = n → n ≠ 5 → AI2 b = AI1 b) (ht : AI2 (gZ g + 206) = AI1 (gZ g + 206)) (h2 : (I2 (gZ g + 205) 2).toInt = (I1 (gZ g + 205) 2).toInt)
    (pn : AI2 (hGm (gZ g) 57 0) = AI1 (hGm (gZ g) 57 0) ∧ AI2 (hGm (gZ g) 79 0) = AI1 (hGm (gZ g) 79 0) ∧ I2 (gZ g + 205) 8 = I1 (gZ g + 205) 8 ∧ I2 (gZ g + 205) 9 = I1 (gZ g + 205) 9 ∧ I2 (gZ g + 205) 10 = I1 (gZ g + 205) 10) (h56 : AI2 (hGm (gZ g) 56 0) = AI1 (hGm (gZ g) 56 0)) (h179 : gO (gW g (I, AI)) (gZ g + 179) 4) : lE8 g I2 AR AI2 pA bA nA := by
  obtain ⟨nr, tbs, cc, cl, hP, hQ, hB⟩ := h
  obtain ⟨c1, c2, c3, c4⟩ := pc
  have ex : I2 (gZ g + 0) = I1 (gZ g + 0) := n1 _ 6 hx.1 (by decide)
  have emo : I1 (gZ g + 205) = I (gZ g + 205) := e_mo hOK hv0
  have hp := hx.2.2.1
  have k : ∀ b, gO (gW g (I, AI)) b 4 → I1 b = I b ∧ AI1 (hG (gZ g) 0 b) = AI (hG (gZ g) 0 b) := fun b hb => ⟨c1 b hb, c2 _ (e_c1 hv0 hb)⟩
  have fS : cmS (hG (gZ g)) AR (gZ g + 0) bA I AI I1 AI1 := by
    refine ⟨fun r hr => ?_, fun r hr => ?_, fun r hr => ?_⟩
    · have w := k _ (isRA_o hx.2.2.2.2.1 hr).2.1
      exact rfC_k w.1 w.2
    · have w := k _ (isRA_o (e_35 hv0 hx.1) hr).2.1
      exact rfC_k w.1 w.2
    · have w := k _ (isRA_o (e_36 hv0 hx.1) hr).2.1
      exact rfC_k w.1 w.2
  refine ⟨nr, tbs, cc, cl, ?_, lQ_k hOK hv0 hx hP hQ fS ⟨c3 14 (by decide), c3 15 (by decide)⟩ (by rw [c1 _ (e_38 hv0 hx.1).1]) n1 n2 (fun sd _ _ r _ => congrFun (rsM_g (gh := hGm (gZ g)) (sd := sd) h56 pn.1 pn.2.1) r) pn.2.2.1 ?_, ?_⟩
  · obtain ⟨a1, a2, a3, a4, a5, a6⟩ := hP
    have ep : I2 pA = I pA := (n1 pA 2 hp (by decide)).trans ep
    have et : AI2 (gZ g + 206) = AI (gZ g + 206) := ht.trans (e_t5 hv0 (o := 206) (by decide +kernel))
    unfold lP8
    rw [ep, et, h2, emo]
    refine ⟨a1, a2, a3, fun r hr => ?_, a5, a6⟩
    obtain ⟨y, b1, b2, b3, _⟩ := (hv0.2.2.2.1 pA hp).1.2.2.1 r (by omega)
    have b1 : AR (hG (gZ g) 6 pA) r = some y := b1
    have er : rob AR (hG (gZ g) 6 pA) r = y := rob_e b1
    have w := a4 r hr
    rw [er] at w ⊢
    rw [(n1 y 0 b2 (by decide)).trans (ey y b2 b3), (n2 _ 2 (e_c2 hv0 b2) (by decide)).trans (c4 y b2 b3)]
    exact w
  · rw [ex, c3 16 (by decide), c3 17 (by decide), pn.2.2.2.1, pn.2.2.2.2, emo]; exact hQ.2.1.2
  · exact lB_k (by rw [n1 _ 4 h179 (by decide), c1 _ h179]) ((n2 _ 1 (e_c1 hv0 h179) (by decide)).trans (c2 _ (e_c1 hv0 h179))) _ _ hB
end LE8
end
section
/-! what a call of the class leaves of its engine -/
def kC8 (g : gG) (AR : gR) (bA : Nat) (I AI I1 AI1 : gI) : Prop :=
  (∀ y, gO (gW g (I, AI)) y 0 → AI1 (hG (gZ g) 3 y) = AI (hG (gZ g) 3 y)) ∧ cmS (hG (gZ g)) AR (gZ g + 0) bA I AI I1 AI1 ∧ (∀ j, j ≠ 1 → I1 (gZ g + 0) j = I (gZ g + 0) j) ∧ I1 (hG (gZ g) 38 0) 3 = I (hG (gZ g) 38 0) 3
section KC8
variable {g : gG} {I AI I1 AI1 I2 AI2 I0 AI0 : gI} {R R1 R2 AR : gR} {pA bA nA : Nat}
theorem kC_r : kC8 g AR bA I AI I AI := ⟨fun _ _ => rfl, cS_r, fun _ _ => rfl, rfl⟩
theorem c29_0 : hG (gZ g) 9 (gZ g + 187) = 0 := hG9.trans (by decide +kernel)
theorem kC_x (hv : gInv (gW g (I, AI)) (ghF 0 (hG (gZ g))) R AR I0 AI0) (hx : xS (gW g (I, AI)) (hG (gZ g)) R1 AR (gZ g + 0) pA bA nA) (f1 : ∀ b, b ≠ gZ g + 0 → I1 b = I b) (f2 : ∀ j, j ≠ 1 → I1 (gZ g + 0) j = I (gZ g + 0) j) : kC8 g AR bA I AI I1 AI := by
  have k : ∀ b, gO (gW g (I, AI)) b 4 → I1 b = I b := fun b hb => f1 b (gO_ne hb hx.1 (by decide))
  refine ⟨fun _ _ => rfl, ⟨fun r hr => ?_, fun r hr => ?_, fun r hr => ?_⟩, f2, by rw [k _ (e_38 hv hx.1).1]⟩
  · exact rfC_k (k _ (isRA_o hx.2.2.2.2.1 hr).2.1) rfl
  · exact rfC_k (k _ (isRA_o (e_35 hv hx.1) hr).2.1) rfl
  · exact rfC_k (k _ (isRA_o (e_36 hv hx.1) hr).2.1) rfl
theorem kC_29 (hv : gInv (gW g (I, AI)) (ghF 0 (hG (gZ g))) R AR I0 AI0) (hx : xS (gW g (I, AI)) (hG (gZ g)) R1 AR (gZ g + 0) pA bA nA) (f3 : ∀ b, b ≠ gZ g + 187 → AI1 b = AI b) : kC8 g AR bA I AI I AI1 :=
  ⟨fun y hy => f3 _ (ne_9 (e_c2 hv hy) c29_0 (by decide)), cS_29 hv hx (fun b hb => f3 b (ne_9 hb c29_0 (by decide))), fun _ _ => rfl, rfl⟩
theorem kC_37 (hv : gInv (gW g (I, AI)) (ghF 0 (hG (gZ g))) R AR I0 AI0) (hx : xS (gW g (I, AI)) (hG (gZ g)) R1 AR (gZ g + 0) pA bA nA) (hD : xD (hG (gZ g)) AR bA nA) (ho : gO (gW g (I, AI)) (gZ g + 179) 4) (f1 : ∀ b, b ≠ gZ g + 179 → I1 b = I b) (f3 : ∀ b, b ≠ gZ g + 187 → b ≠ gZ g + 180 → AI1 b = AI b) : kC8 g AR bA I AI I1 AI1 := by
  have c180 : hG (gZ g) 9 (gZ g + 180) = 1 := hG9.trans (by decide +kernel)
  refine ⟨fun y hy => f3 _ (ne_9 (e_c2 hv hy) c29_0 (by decide)) (ne_9 (e_c2 hv hy) c180 (by decide)), cS_37 hv hx ho (fun b _ hn => f1 b hn) (fun b hb hn => f3 b (ne_9 hb c29_0 (by decide)) hn), fun j _ => ?_, ?_⟩
  · rw [f1 _ (gO_ne hx.1 ho (by decide))]
  · rw [f1 _ (fun e => hD.2.2.2.2.2.2.1 e.symm)]
theorem kC_40 (hv : gInv (gW g (I, AI)) (ghF 0 (hG (gZ g))) R AR I0 AI0) (hx : xS (gW g (I, AI)) (hG (gZ g)) R1 AR (gZ g + 0) pA bA nA) (hD : xD (hG (gZ g)) AR bA nA) (f1 : ∀ b, b ≠ hG (gZ g) 40 0 → I1 b = I b) (f3 : ∀ b, b ≠ gZ g + 187 → b ≠ hG (gZ g) 0 (hG (gZ g) 40 0) → AI1 b = AI b) : kC8 g AR bA I AI I1 AI1 := by
  have o := e_40 hv hx.1
  have o8 := e_38 hv hx.1
  have c1 := e_c1 hv o.1
  refine ⟨fun y hy => f3 _ (ne_9 (e_c2 hv hy) c29_0 (by decide)) (ne_9 (e_c2 hv hy) c1 (by decide)), cS_40 hv hx hD (fun b _ hn => f1 b hn) (fun b hb hn => f3 b (ne_9 hb c29_0 (by decide)) hn), fun j _ => ?_, ?_⟩
  · rw [f1 _ (gO_ne hx.1 o.1 (by decide))]
  · rw [f1 _ (fun e => by have a := o8.2.2; rw [e, o.2.2] at a; exact absurd a (by decide))]
theorem kC_w (fA : ∀ y, gO (gW g (I, AI)) y 0 → AI1 (hG (gZ g) 3 y) = AI (hG (gZ g) 3 y)) (fS : cmS (hG (gZ g)) AR (gZ g + 0) bA I AI I1 AI1) (fx : I1 (gZ g + 0) = I (gZ g + 0)) (f38 : I1 (hG (gZ g) 38 0) = I (hG (gZ g) 38 0)) : kC8 g AR bA I AI I1 AI1 :=
  ⟨fA, fS, fun j _ => by rw [fx], by rw [f38]⟩
/-- the engine over a call of both that leaves it as it was -/
theorem lE_k8 (hOK : gOK g) (hv0 : gInv (gW g (I, AI)) (ghF 0 (hG (gZ g))) R1 AR I1 AI1) (hx : xS (gW g (I, AI)) (hG (gZ g)) R1 AR (gZ g + 0) pA bA nA) (h : lE8 g I AR AI pA bA nA) (fI : ∀ b c, gO (gW g (I, AI)) b c → c ≠ 4 → c ≠ 6 → I1 b = I b) (k : kC8 g AR bA I AI I1 AI1) (hmv2 : mInv (gW g (I1, AI1)) (hGm (gZ g)) R2 I2 AI2) (ht : AI2 (gZ g + 206) = AI1 (gZ g + 206)) (h2 : (I2 (gZ g + 205) 2).toInt = (I1 (gZ g + 205) 2).toInt)
    (hs : ∀ sd : Int, 0 ≤ sd → sd ≤ 9 → sE8 (rsM (hGm (gZ g)) AI2 sd) (rsM (hGm (gZ g)) AI1 sd)) (h8 : I2 (gZ g + 205) 8 = I1 (gZ g + 205) 8 ∧ I2 (gZ g + 205) 9 = I1 (gZ g + 205) 9 ∧ I2 (gZ g + 205) 10 = I1 (gZ g + 205) 10) (hb : ∀ tbs cl, lB8 g I AI tbs cl → lB8 g I2 AI2 tbs cl) : lE8 g I2 AR AI2 pA bA nA :=
  lE_k hOK hv0 hx h fI k.1 k.2.1 k.2.2.1 k.2.2.2 (e_n1 hmv2) (e_n2 hmv2) ht h2 hs h8 hb
/-- the batch over such a call -/
theorem lB_m (hOK : gOK g) (hv1 : gInv (gW g (I, AI)) (hG (gZ g)) R AR I1 AI1) (hmv2 : mInv (gW g (I1, AI1)) (hGm (gZ g)) R2 I2 AI2) : ∀ tbs cl, lB8 g I AI tbs cl → lB8 g I2 AI2 tbs cl := by
  have b := (hv1.2.2.2.2.2.2.2.2.2.2 rfl).2.2
  have b1 : I1 (gZ g + 179) 3 = I (gZ g + 179) 3 := b.1
  have b2 : AI1 (gZ g + 180) = AI (gZ g + 180) := b.2
  have o : gO (gW g (I2, AI2)) (gZ g + 179) 4 := gO_i hOK (o := 179) (by decide) (by decide +kernel)
  exact lB_k (by rw [e_n1 hmv2 _ 4 o (by decide)]; exact b1) ((e_n2 hmv2 _ 1 (hG9.trans (by decide +kernel)) (by decide)).trans b2)
theorem lB_m0 (hOK : gOK g) (hmv2 : mInv (gW g (I1, AI1)) (hGm (gZ g)) R2 I2 AI2) (b0 : (I1 (gZ g + 179) 3).toInt = 0) : ∀ tbs cl, lB8 g I AI tbs cl → lB8 g I2 AI2 tbs cl := fun _ _ _ => by
  have o : gO (gW g (I2, AI2)) (gZ g + 179) 4 := gO_i hOK (o := 179) (by decide) (by decide +kernel)
  exact lB_0 (by rw [e_n1 hmv2 _ 4 o (by decide)]; exact b0)
/-- both have been fed -/
theorem lE_fd (hOK : gOK g) (hv : gInv (gW g (I, AI)) (ghF 0 (hG (gZ g))) R AR I AI) (hx : xS (gW g (I, AI)) (hG (gZ g)) R AR (gZ g + 0) pA bA nA) (h : lE8 g I AR AI pA bA nA) (e1 : ∀ b, b ≠ gZ g + 0 → b ≠ gZ g + 205 → I2 b = I b) (e2 : ∀ j, j ≠ 1 → I2 (gZ g + 0) j = I (gZ g + 0) j) (e3 : ∀ j, j ≠ 16 → j ≠ 17 → I2 (gZ g + 205) j = I (gZ g + 205) j) (e4 : ∀ b, b ≠ gZ g + 1 → b ≠ gZ g + 215 → AI2 b = AI b) : lE8 g I2 AR AI2 pA bA nA := by
  obtain ⟨nr, tbs, cc, cl, hP, hQ, hB⟩ := h
  have o5 : gO (gW g (I, AI)) (gZ g + 205) 7 := gO_i hOK (o := 205) (by decide) (by decide +kernel)
  have o9 : gO (gW g (I, AI)) (gZ g + 179) 4 := gO_i hOK (o := 179) (by decide) (by decide +kernel)
  have k : ∀ b c, gO (gW g (I, AI)) b c → c ≠ 6 → c ≠ 7 → I2 b = I b := fun b c hb h6 h7 => e1 b (gO_ne hb hx.1 h6) (gO_ne hb o5 h7)
  have c5 : ∀ o, (o = 1 ∨ o = 215) → hG (gZ g) 9 (gZ g + o) = 5 := fun o ho => by rcases ho with rfl | rfl <;> exact hG9.trans (by decide +kernel)
  have ka : ∀ b n, hG (gZ g) 9 b = n → n ≠ 5 → AI2 b = AI b := fun b n hb hn => e4 b (ne_9 hb (c5 1 (by decide)) hn) (ne_9 hb (c5 215 (by decide)) hn)
  have kA : ∀ o, o ≠ 1 → o ≠ 215 → AI2 (gZ g + o) = AI (gZ g + o) := fun o h1 h2 => e4 _ (by omega) (by omega)
  have hp := hx.2.2.1
  have k4 : ∀ b, gO (gW g (I, AI)) b 4 → I2 b = I b ∧ AI2 (hG (gZ g) 0 b) = AI (hG (gZ g) 0 b) := fun b hb => ⟨k b 4 hb (by decide) (by decide), ka _ 1 (e_c1 hv hb) (by decide)⟩
  have er : rsM (hGm (gZ g)) AI2 = rsM (hGm (gZ g)) AI := funext fun sd => rsM_g (kA 210 (by decide) (by decide)) (kA 211 (by decide) (by decide)) (kA 219 (by decide) (by decide))
  have h16 := hP.2.2.1.2.2
  refine ⟨nr, tbs, cc, cl, ?_, ⟨?_, ?_, fun r hr => ?_, hQ.2.2.2.1, ?_⟩, ?_⟩
  · unfold lP8
    rw [k pA 2 hp (by decide) (by decide), kA 206 (by decide) (by decide), e3 2 (by decide) (by decide)]
    refine ⟨hP.1, hP.2.1, hP.2.2.1, fun r hr => ?_, hP.2.2.2.2.1, hP.2.2.2.2.2⟩
    have hy : gO (gW g (I, AI)) (rob AR (hG (gZ g) 6 pA) r) 0 := gl_o (gh := ghF 0 (hG (gZ g))) hv hp (by omega)
    rw [k _ 0 hy (by decide) (by decide), ka _ 2 (e_c2 hv hy) (by decide)]
    exact hP.2.2.2.1 r hr
  · rw [er]
    refine eS_c (e_cLt hP) hP.2.2.1.2.1 h16 hQ.1 (fun r hr => ?_) (fun q hq => ?_) (fun _ _ _ _ _ => rfl) (by rw [e2 14 (by decide)]) (by rw [e2 15 (by decide)])
    · have w := k4 _ (isRA_o hx.2.2.2.2.1 (show r < 16 by omega)).2.1
      exact rfC_k w.1 w.2
    · have w := k4 _ (isRA_o (e_36 hv hx.1) hq).2.1
      exact rfC_k w.1 w.2
  · rw [e2 15 (by decide), e2 16 (by decide), e2 17 (by decide), e3 8 (by decide) (by decide), e3 9 (by decide) (by decide), e3 10 (by decide) (by decide)]
    exact hQ.2.1
  · have w := k4 _ (isRA_o (e_35 hv hx.1) (show r < 16 by omega)).2.1
    rw [rfC_k w.1 w.2, er, show rfM (hGm (gZ g)) AI2 = rfM (hGm (gZ g)) AI from funext fun sd => rfM_g (kA 210 (by decide) (by decide)) (kA 211 (by decide) (by decide))]
    exact hQ.2.2.1 r hr
  · rw [(k4 _ (e_38 hv hx.1).1).1]; exact hQ.2.2.2.2
  · exact lB_k (by rw [(k4 _ o9).1]) (kA 180 (by decide) (by decide)) _ _ hB
end KC8
end
section
/-! the engine at the start -/
section St8
variable {g : gG}
theorem s_rob {b n j : Nat} (h : ∀ j, j < n → cA 341 b j = some (b + 1 + 2 * j) ∧ kT (b + 1 + 2 * j) = 4 ∧ b + 1 + 2 * j < 223) (hj : j < n) : rob (wA g 341) (gZ g + b) j = gZ g + (b + 1 + 2 * j) := rob_e (wA_at (h j hj).1)
theorem s_xD : xD (hG (gZ g)) (wA g 341) (gZ g + 80) (gZ g + 113) := by
  have e35 : hG (gZ g) 35 0 = gZ g + 146 := rfl
  have e36 : hG (gZ g) 36 0 = gZ g + 188 := rfl
  have e37 : hG (gZ g) 37 0 = gZ g + 179 := rfl
  have e38 : hG (gZ g) 38 0 = gZ g + 181 := rfl
  have e40 : hG (gZ g) 40 0 = gZ g + 185 := rfl
  unfold xD
  rw [e35, e36, e37, e38, e40]
  refine ⟨fun i j hi hj e => ?_, fun i j hi hj e => ?_, fun i j hi hj e => ?_, fun i j hi hj e => ?_, fun i j hi hj e => ?_, fun i hi e => ?_, by omega, fun i hi e => ?_⟩
  · rw [s_rob tB80 hi, s_rob tB80 hj] at e; omega
  · rw [s_rob tB113 hi, s_rob tB113 hj] at e; omega
  · rw [s_rob tB80 hi, s_rob tB113 hj] at e; omega
  · rw [s_rob tB146 hi, s_rob tB146 hj] at e; omega
  · rw [s_rob tB188 hi, s_rob tB188 hj] at e; omega
  · rw [s_rob tB188 hi] at e; omega
  · rw [s_rob tB146 hi] at e; omega
theorem s_E8 : lE8 g (wI g 341) (wA g 341) zA (gZ g + 42) (gZ g + 80) (gZ g + 113) := by
  have i0 : ∀ o k, cI 341 o k = 0 → (wI g 341 (gZ g + o) k).toInt = 0 := fun o k h => by rw [wI_0 h]; rfl
  have e38 : hG (gZ g) 38 0 = gZ g + 181 := rfl
  refine ⟨0, 0, fun _ => (fun _ => 0, fun _ _ => 0), fun _ => 0, ⟨i0 42 1 (by decide +kernel), i0 42 2 (by decide +kernel), ⟨Int.le_refl 0, Int.le_refl 0, by decide⟩, fun r hr => absurd hr (Nat.not_lt_zero r), ⟨i0 205 2 (by decide +kernel), ⟨Int.le_refl 0, Int.le_refl 0⟩, fun r h0 h1 => absurd h1 (by omega), fun r hr => absurd hr (Nat.not_lt_zero r)⟩, fun r hr => absurd hr (Nat.not_lt_zero r)⟩, ⟨?_, ⟨?_, ?_, ?_⟩, fun r hr => absurd hr (Nat.not_lt_zero r), s_xD, ?_⟩, lB_0 (i0 179 3 (by decide +kernel))⟩
  · exact eS_0 (fun r hr => absurd hr (Nat.not_lt_zero r)) (Int.le_refl 0) (by rw [i0 0 14 (by decide +kernel)]; decide) (fun r hr => absurd hr (Nat.not_lt_zero r)) (fun r hr => absurd hr (Nat.not_lt_zero r)) (i0 0 15 (by decide +kernel))
  · rw [i0 0 15 (by decide +kernel), i0 205 8 (by decide +kernel)]
  · rw [wI_0 (o := 0) (k := 16) (by decide +kernel), wI_0 (o := 205) (k := 9) (by decide +kernel)]
  · rw [wI_0 (o := 0) (k := 17) (by decide +kernel), wI_0 (o := 205) (k := 10) (by decide +kernel)]
  · rw [e38]; exact i0 181 3 (by decide +kernel)
end St8
end
section
/-! both answer alike -/
section An8
variable {g : gG} {I AI I1 AI1 : gI} {R R1 AR : gR} {pA bA nA nr : Nat} {tbs rel v1 v2 : Int} {cc : Nat → LC} {cl : Nat → Int} {f f' : Nat → Int32} {n n' : Nat} {t : Tup}
theorem an_size (hv0 : gInv (gW g (I, AI)) (ghF 0 (hG (gZ g))) R1 AR I1 AI1) (hQ : lQ8 g I AR AI bA nA nr tbs cc cl) (c : ((rel < 0 ∨ (nr : Int) ≤ rel) ∧ v1 = -1) ∨ ((0 ≤ rel ∧ rel < (nr : Int)) ∧ v1 = (((rfC (hG (gZ g)) AR I AI bA rel.toNat).1 : Nat) : Int)))
    (m : ((rel < 0 ∨ (nr : Int) ≤ rel) ∧ v2 = -1) ∨ ((0 ≤ rel ∧ rel < (nr : Int)) ∧ v2 = (((rfM (hGm (gZ g)) AI1 0 rel.toNat).1 : Nat) : Int))) : v1 = v2 := by
  rcases c with ⟨a1, a2⟩ | ⟨a1, a2⟩
  · rcases m with ⟨b1, b2⟩ | ⟨b1, b2⟩
    · omega
    · exfalso; omega
  · rcases m with ⟨b1, b2⟩ | ⟨b1, b2⟩
    · exfalso; omega
    · rw [a2, b2, e_rf hv0, (hQ.1.2.1 rel.toNat (by omega)).1]; rfl
theorem m_mv (hv0 : gInv (gW g (I, AI)) (ghF 0 (hG (gZ g))) R1 AR I1 AI1) (hQ : lQ8 g I AR AI bA nA nr tbs cc cl) {r : Nat} (hr : r < nr) : bgN (mvF (hGm (gZ g)) AI1 r) = (rfC (hG (gZ g)) AR I AI (hG (gZ g) 35 0) r).1 := by
  have e : mvF (hGm (gZ g)) AI1 r = mv8 (rsM (hGm (gZ g)) AI 0) (rsM (hGm (gZ g)) AI 9) r := by unfold mvF; rw [e_rf hv0]; rfl
  rw [e]; exact bgN_e (hQ.2.2.1 r hr).1
theorem an_moved (hv0 : gInv (gW g (I, AI)) (ghF 0 (hG (gZ g))) R1 AR I1 AI1) (hQ : lQ8 g I AR AI bA nA nr tbs cc cl) (c : ((rel < 0 ∨ (nr : Int) ≤ rel) ∧ v1 = -1) ∨ ((0 ≤ rel ∧ rel < (nr : Int)) ∧ v1 = (((rfC (hG (gZ g)) AR I AI (hG (gZ g) 35 0) rel.toNat).1 : Nat) : Int)))
    (m : ((rel < 0 ∨ (nr : Int) ≤ rel) ∧ v2 = -1) ∨ ((0 ≤ rel ∧ rel < (nr : Int)) ∧ v2 = ((bgN (mvF (hGm (gZ g)) AI1 rel.toNat) : Nat) : Int))) : v1 = v2 := by
  rcases c with ⟨a1, a2⟩ | ⟨a1, a2⟩
  · rcases m with ⟨b1, b2⟩ | ⟨b1, b2⟩
    · omega
    · exfalso; omega
  · rcases m with ⟨b1, b2⟩ | ⟨b1, b2⟩
    · exfalso; omega
    · rw [a2, b2, m_mv hv0 hQ (by omega)]
/-- the kind of a relation, as the reference's row tells it -/
theorem m_kd (hv0 : gInv (gW g (I, AI)) (ghF 0 (hG (gZ g))) R1 AR I1 AI1) (hP : lP8 g I AR AI pA nr tbs cc cl) (hr : 0 ≤ rel ∧ rel < (nr : Int)) : tI (AI1 (hGm (gZ g) 50 0)) (40 * rel) = (cc rel.toNat).1 0 ∧ tI (AI1 (hGm (gZ g) 50 0)) (40 * rel + 1) = (cc rel.toNat).1 1 ∧ (rel < tbs → (cc rel.toNat).1 0 = 0) ∧ (tbs ≤ rel → 1 ≤ (cc rel.toNat).1 0) := by
  have e : AI1 (hGm (gZ g) 50 0) = AI (gZ g + 206) := e_t5 hv0 (o := 206) (by decide +kernel)
  have er : ((rel.toNat : Nat) : Int) = rel := Int.toNat_of_nonneg hr.1
  have w := hP.2.2.2.2.2 rel.toNat (by omega)
  rw [er] at w
  rw [e]
  refine ⟨w.2.2.2, w.1.trans w.2.2.1.symm, fun h => ?_, fun h => ?_⟩
  · rw [← w.2.2.2]; exact hP.2.2.2.2.1.2.2.1 rel hr.1 h
  · exact (e_hcK hP rel.toNat (by omega) (by omega)).1.1.1
theorem an_came (hv0 : gInv (gW g (I, AI)) (ghF 0 (hG (gZ g))) R1 AR I1 AI1) (hP : lP8 g I AR AI pA nr tbs cc cl) (hQ : lQ8 g I AR AI bA nA nr tbs cc cl)
    (c : (((rel < 0 ∨ (nr : Int) ≤ rel) ∨ rel < tbs) ∧ v1 = -1) ∨ ((0 ≤ rel ∧ rel < (nr : Int)) ∧ tbs ≤ rel ∧ v1 = (if (cc rel.toNat).1 2 = -1 then (0 : Int) else (((rfC (hG (gZ g)) AR I AI (hG (gZ g) 35 0) ((cc rel.toNat).1 2).toNat).1 : Nat) : Int)) + (if (cc rel.toNat).1 3 = -1 then 0 else (((rfC (hG (gZ g)) AR I AI (hG (gZ g) 35 0) ((cc rel.toNat).1 3).toNat).1 : Nat) : Int))))
    (m : (((rel < 0 ∨ (nr : Int) ≤ rel) ∨ tI (AI1 (hGm (gZ g) 50 0)) (40 * rel) = 0) ∧ v2 = -1) ∨ (((0 ≤ rel ∧ rel < (nr : Int)) ∧ tI (AI1 (hGm (gZ g) 50 0)) (40 * rel) ≠ 0) ∧ v2 = ((bgN (mvF (hGm (gZ g)) AI1 ((cc rel.toNat).1 2).toNat) : Nat) : Int) + (if (cc rel.toNat).1 3 < 0 then 0 else ((bgN (mvF (hGm (gZ g)) AI1 ((cc rel.toNat).1 3).toNat) : Nat) : Int)))) : v1 = v2 := by
  by_cases hr : 0 ≤ rel ∧ rel < (nr : Int)
  · have k := m_kd hv0 hP hr
    by_cases ht : rel < tbs
    · have k0 := k.2.2.1 ht
      rcases c with ⟨_, a2⟩ | ⟨_, a2, _⟩
      · rcases m with ⟨_, b2⟩ | ⟨⟨_, b1⟩, _⟩
        · omega
        · exact absurd (k.1.trans k0) b1
      · exfalso; omega
    · have k0 := k.2.2.2 (by omega)
      rcases c with ⟨a1, _⟩ | ⟨_, _, a2⟩
      · exfalso; omega
      · rcases m with ⟨b1, _⟩ | ⟨_, b2⟩
        · rcases b1 with b1 | b1
          · exfalso; omega
          · rw [k.1] at b1; exfalso; omega
        · have o := (e_hcK hP rel.toNat (by omega) (by omega)).1.1
          rw [a2, b2, if_neg (by omega), m_mv hv0 hQ (by omega)]
          by_cases q : (cc rel.toNat).1 3 = -1
          · rw [if_pos q, if_pos (by omega)]
          · rw [if_neg q, if_neg (by omega), m_mv hv0 hQ (by omega)]
  · rcases c with ⟨_, a2⟩ | ⟨a1, _⟩
    · rcases m with ⟨_, b2⟩ | ⟨⟨b1, _⟩, _⟩
      · omega
      · exact absurd b1 hr
    · exact absurd a1 hr
theorem mk_u (hs : okB f n) (e : n = n' ∧ rwA f f' n) (a : mkR f n t v1) (b : mkR f' n' t v2) : v1 = v2 := by
  obtain ⟨rfl, e⟩ := e
  have tu : ∀ i, i < n → tup f i = tup f' i := fun i hi => rwS_t (e i hi)
  rcases a with ⟨i, a1, a2, a3⟩ | ⟨a1, a2⟩
  · rcases b with ⟨j, b1, b2, b3⟩ | ⟨b1, b2⟩
    · have ij : i = j := srtB_ne hs.1 a1 b1 (a2.trans (b2.symm.trans (tu j b1).symm))
      subst ij
      rw [a3, b3, e i a1 5 (by decide)]
    · exact absurd ((tu i a1).symm.trans a2) (b1 i a1)
  · rcases b with ⟨j, b1, b2, b3⟩ | ⟨b1, b2⟩
    · exact absurd ((tu j b1).trans b2) (a1 j b1)
    · omega
theorem an_round (hv0 : gInv (gW g (I, AI)) (ghF 0 (hG (gZ g))) R1 AR I1 AI1) (hP : lP8 g I AR AI pA nr tbs cc cl) (hQ : lQ8 g I AR AI bA nA nr tbs cc cl) {a b c' d : Int}
    (c : (¬ ((0 ≤ rel ∧ rel < (nr : Int)) ∧ (cc rel.toNat).1 0 = 8) ∧ v1 = -1) ∨ (((0 ≤ rel ∧ rel < (nr : Int)) ∧ (cc rel.toNat).1 0 = 8) ∧ mkR (rfC (hG (gZ g)) AR I AI bA rel.toNat).2 (rfC (hG (gZ g)) AR I AI bA rel.toNat).1 (kyT ((cc rel.toNat).1 1) a b c' d) v1))
    (m : (((rel < 0 ∨ (nr : Int) ≤ rel) ∨ tI (AI1 (hGm (gZ g) 50 0)) (40 * rel) ≠ 8) ∧ v2 = -1) ∨ (((0 ≤ rel ∧ rel < (nr : Int)) ∧ tI (AI1 (hGm (gZ g) 50 0)) (40 * rel) = 8) ∧ mkR (rfM (hGm (gZ g)) AI1 0 rel.toNat).2 (rfM (hGm (gZ g)) AI1 0 rel.toNat).1 (kyT (tI (AI1 (hGm (gZ g) 50 0)) (40 * rel + 1)) a b c' d) v2)) : v1 = v2 := by
  by_cases hr : 0 ≤ rel ∧ rel < (nr : Int)
  · have k := m_kd hv0 hP hr
    rw [k.1, k.2.1, e_rf hv0] at m
    rcases c with ⟨a1, a2⟩ | ⟨a1, a2⟩
    · rcases m with ⟨_, b2⟩ | ⟨b1, _⟩
      · omega
      · exact absurd b1 a1
    · rcases m with ⟨b1, _⟩ | ⟨_, b2⟩
      · exfalso; omega
      · exact mk_u (e_bgC hQ rel.toNat (by omega)).1 (hQ.1.2.1 rel.toNat (by omega)) a2 b2
  · rcases c with ⟨_, a2⟩ | ⟨a1, _⟩
    · rcases m with ⟨_, b2⟩ | ⟨b1, _⟩
      · omega
      · exact absurd b1.1 hr
    · exact absurd a1.1 hr
theorem an_rounds (hv0 : gInv (gW g (I, AI)) (ghF 0 (hG (gZ g))) R1 AR I1 AI1) (hP : lP8 g I AR AI pA nr tbs cc cl) (hQ : lQ8 g I AR AI bA nA nr tbs cc cl)
    (c : (¬ ((0 ≤ rel ∧ rel < (nr : Int)) ∧ (cc rel.toNat).1 0 = 8) ∧ v1 = -1) ∨ (((0 ≤ rel ∧ rel < (nr : Int)) ∧ (cc rel.toNat).1 0 = 8) ∧ rdX (rfC (hG (gZ g)) AR I AI bA rel.toNat).2 (rfC (hG (gZ g)) AR I AI bA rel.toNat).1 v1))
    (m : (((rel < 0 ∨ (nr : Int) ≤ rel) ∨ tI (AI1 (hGm (gZ g) 50 0)) (40 * rel) ≠ 8) ∧ v2 = -1) ∨ (((0 ≤ rel ∧ rel < (nr : Int)) ∧ tI (AI1 (hGm (gZ g) 50 0)) (40 * rel) = 8) ∧ v2 = (AI1 (hGm (gZ g) 79 0) rel.toNat).toInt)) : v1 = v2 := by
  by_cases hr : 0 ≤ rel ∧ rel < (nr : Int)
  · have k := m_kd hv0 hP hr
    rw [k.1] at m
    rcases c with ⟨a1, a2⟩ | ⟨a1, a2⟩
    · rcases m with ⟨_, b2⟩ | ⟨b1, _⟩
      · omega
      · exact absurd b1 a1
    · rcases m with ⟨b1, _⟩ | ⟨_, b2⟩
      · exfalso; omega
      · have ht : tbs ≤ rel := by
          by_cases q : rel < tbs
          · have := k.2.2.1 q; omega
          · omega
        obtain ⟨R9, r1, r2⟩ := (e_gd hQ).2 rel.toNat (by omega) (by omega) a1.2
        have w := hQ.1.2.1 rel.toNat (by omega)
        have e79 : AI1 (hGm (gZ g) 79 0) = AI (hGm (gZ g) 79 0) := e_t5 hv0 (o := 219) (by decide +kernel)
        have rx : rdX (sF8 (rsM (hGm (gZ g)) AI 0) rel.toNat).2 (sF8 (rsM (hGm (gZ g)) AI 0) rel.toNat).1 v1 := by
          rw [← w.1]
          refine ⟨a2.1, fun q hq => ?_, a2.2.2.imp id (fun ⟨q, h1, h2⟩ => ⟨q, h1, ?_⟩)⟩
          · rw [← w.2 q hq 5 (by decide)]; exact a2.2.1 q hq
          · rw [← w.2 q h1 5 (by decide)]; exact h2
        have e1 := rg_R r1 rx
        have r9 := r1.1
        have r2' : AI (hGm (gZ g) 79 0) (16 * 0 + ((rel.toNat : Nat) : Int)).toNat = iI (R9 : Int) := r2
        rw [show (16 * 0 + ((rel.toNat : Nat) : Int)).toNat = rel.toNat by omega] at r2'
        rw [b2, e79, r2', iI_val ⟨by omega, by omega⟩]
        exact e1
  · rcases c with ⟨_, a2⟩ | ⟨a1, _⟩
    · rcases m with ⟨_, b2⟩ | ⟨b1, _⟩
      · omega
      · exact absurd b1.1 hr
    · exact absurd a1.1 hr
theorem an_differs (hP : lP8 g I AR AI pA nr tbs cc cl) (hQ : lQ8 g I AR AI bA nA nr tbs cc cl) {A2 A1 : gI}
    (c : ((rel < 0 ∨ (nr : Int) ≤ rel) ∧ v1 = -1) ∨ ((0 ≤ rel ∧ rel < (nr : Int)) ∧ ∃ Fn : RF, rnP tbs nr cc (∃ i, i < 0 ∧ blw f (rfC (hG (gZ g)) AR I AI bA) 1 i) (tbS f 0 (rfC (hG (gZ g)) AR I AI bA) 1) 0 Fn ∧ ∃ (f9 : Nat → Int32) (k : Nat), isB f9 k (fun t => bS (Fn rel.toNat).2 (Fn rel.toNat).1 t + iI (-1) * bS (rfC (hG (gZ g)) AR I AI bA rel.toNat).2 (rfC (hG (gZ g)) AR I AI bA rel.toNat).1 t) zM ∧ v1 = (k : Int)))
    (m : ((rel < 0 ∨ (nr : Int) ≤ rel) ∧ v2 = -1 ∧ A2 = A1) ∨ ((0 ≤ rel ∧ rel < (nr : Int)) ∧ v2 = 0 ∧ sdK (hGm (gZ g)) A1 A2 ∧ noZ (hGm (gZ g)) A1 A2)) : v1 = v2 := by
  rcases c with ⟨a1, a2⟩ | ⟨a1, Fn, a2, f9, k, a3, a4⟩
  · rcases m with ⟨b1, b2, _⟩ | ⟨b1, _⟩
    · omega
    · exfalso; omega
  · rcases m with ⟨b1, _⟩ | ⟨b1, b2, _⟩
    · exfalso; omega
    · have w := (rnP_u (e_cLt hP) a2 (eS_df hP.2.2.1.2.1 hQ.1)).2 rfl rel.toNat (by omega)
      have k0 := df_k w (hQ.1.2.1 rel.toNat (by omega)) a3
      omega
theorem iI_u (h1 : zr v1) (h2 : zr v2) (e : iI v1 = iI v2) : v1 = v2 := by
  have w := congrArg Int32.toInt e
  rw [iI_val h1, iI_val h2] at w; exact w
theorem an_told (hOK : gOK g) (hv : gInv (gW g (I, AI)) (ghF 0 (hG (gZ g))) R AR I AI) (hx : xS (gW g (I, AI)) (hG (gZ g)) R AR (gZ g + 0) pA bA nA) (hv0 : gInv (gW g (I, AI)) (ghF 0 (hG (gZ g))) R1 AR I1 AI1) (hP : lP8 g I AR AI pA nr tbs cc cl) (hQ : lQ8 g I AR AI bA nA nr tbs cc cl) (hb : (I (gZ g + 179) 3).toInt = (I (gZ g + 205) 14).toInt) (hl : (I (gZ g + 0) 1).toInt = (I (gZ g + 205) 16).toInt) {wh : Int} (z1 : zr v1) (z2 : zr v2)
    (c : (wh = 0 ∧ v1 = tbs) ∨ (wh = 1 ∧ v1 = (nr : Int) - tbs) ∨ (wh = 2 ∧ iI v1 = I (gZ g + 0) 16) ∨ (wh = 3 ∧ iI v1 = I (gZ g + 0) 17) ∨ (wh = 4 ∧ v1 = (I (gZ g + 0) 15).toInt) ∨ (wh = 5 ∧ v1 = (I (gZ g + 179) 3).toInt) ∨ (wh = 6 ∧ v1 = smL (fun r : Nat => (((rfC (hG (gZ g)) AR I AI bA r).1 : Nat) : Int)) tbs.toNat (nr - tbs.toNat)) ∨ (wh = 7 ∧ v1 = smL (lnR AR I (hG (gZ g) 35 0)) tbs.toNat (nr - tbs.toNat)) ∨
      (wh = 8 ∧ v1 = smL (fun r : Nat => (if (cc r).1 2 = -1 then (0 : Int) else (((rfC (hG (gZ g)) AR I AI (hG (gZ g) 35 0) ((cc r).1 2).toNat).1 : Nat) : Int)) + (if (cc r).1 3 = -1 then 0 else (((rfC (hG (gZ g)) AR I AI (hG (gZ g) 35 0) ((cc r).1 3).toNat).1 : Nat) : Int))) tbs.toNat (nr - tbs.toNat)) ∨ (wh = 9 ∧ v1 = (I (gZ g + 0) 1).toInt) ∨ ((wh < 0 ∨ 9 < wh) ∧ v1 = -1))
    (m : (wh = 0 ∧ v2 = tbs) ∨ (wh = 1 ∧ v2 = (nr : Int) - tbs) ∨ (wh = 2 ∧ iI v2 = I1 (gZ g + 205) 9) ∨ (wh = 3 ∧ iI v2 = I1 (gZ g + 205) 10) ∨ (wh = 4 ∧ v2 = (I1 (gZ g + 205) 8).toInt) ∨ (wh = 5 ∧ v2 = (I1 (gZ g + 205) 14).toInt) ∨ (wh = 6 ∧ v2 = smL (fun r => (((rfM (hGm (gZ g)) AI1 0 r).1 : Nat) : Int)) tbs.toNat (nr - tbs.toNat)) ∨ (wh = 7 ∧ v2 = smL (fun r => ((bgN (mvF (hGm (gZ g)) AI1 r) : Nat) : Int)) tbs.toNat (nr - tbs.toNat)) ∨
      (wh = 8 ∧ v2 = smL (ctF (hGm (gZ g)) AI1 cc) tbs.toNat (nr - tbs.toNat)) ∨ (wh = 9 ∧ v2 = (I1 (gZ g + 205) 16).toInt) ∨ ((wh < 0 ∨ 9 < wh) ∧ v2 = -1)) : v1 = v2 := by
  have emo : I1 (gZ g + 205) = I (gZ g + 205) := e_mo hOK hv0
  rw [emo] at m
  have m0 := hQ.2.1
  have nb := hP.2.2.1
  rcases c with ⟨w, c⟩ | ⟨w, c⟩ | ⟨w, c⟩ | ⟨w, c⟩ | ⟨w, c⟩ | ⟨w, c⟩ | ⟨w, c⟩ | ⟨w, c⟩ | ⟨w, c⟩ | ⟨w, c⟩ | ⟨w, c⟩
  · have m := m.resolve_right (fun h => by rcases h with h | h | h | h | h | h | h | h | h | h <;> (have := h.1; omega)); omega
  · have m := (m.resolve_left (fun h => by have := h.1; omega)).resolve_right (fun h => by rcases h with h | h | h | h | h | h | h | h | h <;> (have := h.1; omega)); omega
  · have m := ((m.resolve_left (fun h => by have := h.1; omega)).resolve_left (fun h => by have := h.1; omega)).resolve_right (fun h => by rcases h with h | h | h | h | h | h | h | h <;> (have := h.1; omega))
    exact iI_u z1 z2 (by rw [c, m.2]; exact m0.2.1)
  · have m := (((m.resolve_left (fun h => by have := h.1; omega)).resolve_left (fun h => by have := h.1; omega)).resolve_left (fun h => by have := h.1; omega)).resolve_right (fun h => by rcases h with h | h | h | h | h | h | h <;> (have := h.1; omega))
    exact iI_u z1 z2 (by rw [c, m.2]; exact m0.2.2)
  · have m := ((((m.resolve_left (fun h => by have := h.1; omega)).resolve_left (fun h => by have := h.1; omega)).resolve_left (fun h => by have := h.1; omega)).resolve_left (fun h => by have := h.1; omega)).resolve_right (fun h => by rcases h with h | h | h | h | h | h <;> (have := h.1; omega))
    omega
  · have m := (((((m.resolve_left (fun h => by have := h.1; omega)).resolve_left (fun h => by have := h.1; omega)).resolve_left (fun h => by have := h.1; omega)).resolve_left (fun h => by have := h.1; omega)).resolve_left (fun h => by have := h.1; omega)).resolve_right (fun h => by rcases h with h | h | h | h | h <;> (have := h.1; omega))
    omega
  · have m := ((((((m.resolve_left (fun h => by have := h.1; omega)).resolve_left (fun h => by have := h.1; omega)).resolve_left (fun h => by have := h.1; omega)).resolve_left (fun h => by have := h.1; omega)).resolve_left (fun h => by have := h.1; omega)).resolve_left (fun h => by have := h.1; omega)).resolve_right (fun h => by rcases h with h | h | h | h <;> (have := h.1; omega))
    rw [c, m.2]
    refine smL_c _ (fun r h1 h2 => ?_)
    have e1 : (rfC (hG (gZ g)) AR I AI bA r).1 = (rfM (hGm (gZ g)) AI 0 r).1 := (hQ.1.2.1 r (by omega)).1
    show (((rfC (hG (gZ g)) AR I AI bA r).1 : Nat) : Int) = (((rfM (hGm (gZ g)) AI1 0 r).1 : Nat) : Int)
    rw [e_rf hv0, e1]
  · have m := (((((((m.resolve_left (fun h => by have := h.1; omega)).resolve_left (fun h => by have := h.1; omega)).resolve_left (fun h => by have := h.1; omega)).resolve_left (fun h => by have := h.1; omega)).resolve_left (fun h => by have := h.1; omega)).resolve_left (fun h => by have := h.1; omega)).resolve_left (fun h => by have := h.1; omega)).resolve_right (fun h => by rcases h with h | h | h <;> (have := h.1; omega))
    rw [c, m.2]
    refine smL_c _ (fun r h1 h2 => ?_)
    show lnR AR I (hG (gZ g) 35 0) r = ((bgN (mvF (hGm (gZ g)) AI1 r) : Nat) : Int)
    rw [m_mv hv0 hQ (by omega)]
    have z := e_len hv (isRA_o (e_35 hv hx.1) (show r < 16 by omega)).2.1
    show (I (rob AR (hG (gZ g) 35 0) r) 3).toInt = (((I (rob AR (hG (gZ g) 35 0) r) 3).toInt.toNat : Nat) : Int)
    omega
  · have m := ((((((((m.resolve_left (fun h => by have := h.1; omega)).resolve_left (fun h => by have := h.1; omega)).resolve_left (fun h => by have := h.1; omega)).resolve_left (fun h => by have := h.1; omega)).resolve_left (fun h => by have := h.1; omega)).resolve_left (fun h => by have := h.1; omega)).resolve_left (fun h => by have := h.1; omega)).resolve_left (fun h => by have := h.1; omega)).resolve_right (fun h => by rcases h with h | h <;> (have := h.1; omega))
    rw [c, m.2]
    refine smL_c _ (fun r h1 h2 => ?_)
    have o := (e_hcK hP r (by omega) (by omega)).1.1
    unfold ctF
    rw [if_neg (by omega), m_mv hv0 hQ (by omega)]
    by_cases q : (cc r).1 3 = -1
    · rw [if_pos q, if_pos (by omega)]
    · rw [if_neg q, if_neg (by omega), m_mv hv0 hQ (by omega)]
  · have m := (((((((((m.resolve_left (fun h => by have := h.1; omega)).resolve_left (fun h => by have := h.1; omega)).resolve_left (fun h => by have := h.1; omega)).resolve_left (fun h => by have := h.1; omega)).resolve_left (fun h => by have := h.1; omega)).resolve_left (fun h => by have := h.1; omega)).resolve_left (fun h => by have := h.1; omega)).resolve_left (fun h => by have := h.1; omega)).resolve_left (fun h => by have := h.1; omega)).resolve_right (fun h => by have := h.1; omega)
    omega
  · rcases m with m | m | m | m | m | m | m | m | m | m | m
    all_goals first | (have := m.1; omega) | skip
    all_goals omega
/-! answers that may be exceptions: v1 the class's (1: thrown), th the reference's; lw the class's value -/
theorem an_at (hv0 : gInv (gW g (I, AI)) (ghF 0 (hG (gZ g))) R1 AR I1 AI1) (hP : lP8 g I AR AI pA nr tbs cc cl) (hQ : lQ8 g I AR AI bA nA nr tbs cc cl) {row pl th : Int} {lw : Int64}
    (c : (v1 = 0 ∧ ∃ v9 : Int, (((0 ≤ rel ∧ rel < (nr : Int)) ∧ (pl = 4 ∨ (0 ≤ pl ∧ pl < (cc rel.toNat).1 1)) ∧ 0 ≤ row ∧ row < (((rfC (hG (gZ g)) AR I AI bA rel.toNat).1 : Nat) : Int)) ∧ v9 = ((rfC (hG (gZ g)) AR I AI bA rel.toNat).2 (6 * row.toNat + pl.toNat)).toInt) ∧ zr v9 ∧ lw = (iI v9).toInt64) ∨ (v1 = 1 ∧ ¬ ((0 ≤ rel ∧ rel < (nr : Int)) ∧ (pl = 4 ∨ (0 ≤ pl ∧ pl < (cc rel.toNat).1 1)) ∧ 0 ≤ row ∧ row < (((rfC (hG (gZ g)) AR I AI bA rel.toNat).1 : Nat) : Int))))
    (m : (th = 1 ∧ v2 = 0 ∧ ¬ (tdM (AI1 (hGm (gZ g) 50 0)) nr rel pl ∧ 0 ≤ row ∧ row < (((rfM (hGm (gZ g)) AI1 0 rel.toNat).1 : Nat) : Int))) ∨ (th = 0 ∧ (tdM (AI1 (hGm (gZ g) 50 0)) nr rel pl ∧ 0 ≤ row ∧ row < (((rfM (hGm (gZ g)) AI1 0 rel.toNat).1 : Nat) : Int)) ∧ v2 = ((rfM (hGm (gZ g)) AI1 0 rel.toNat).2 (6 * row.toNat + pl.toNat)).toInt)) : v1 = th ∧ (v1 = 0 → lw = (iI v2).toInt64) := by
  rw [e_rf hv0] at m
  by_cases hr : 0 ≤ rel ∧ rel < (nr : Int)
  · have k := m_kd hv0 hP hr
    have w := hQ.1.2.1 rel.toNat (by omega)
    have w1 : (rfC (hG (gZ g)) AR I AI bA rel.toNat).1 = (rfM (hGm (gZ g)) AI 0 rel.toNat).1 := w.1
    have c4 := (hP.2.2.2.2.2 rel.toNat (by omega)).2
    unfold tdM at m
    rw [k.2.1, ← w1] at m
    rcases c with ⟨a1, v9, ⟨a2, a3⟩, a4, a5⟩ | ⟨a1, a2⟩
    · rcases m with ⟨b1, b2, b3⟩ | ⟨b1, b2, b3⟩
      · exact absurd ⟨⟨a2.1, a2.2.1⟩, a2.2.2⟩ b3
      · have e := rwA_at w.2 (show 6 * row.toNat + pl.toNat < 6 * _ by have := a2.2.1; have := a2.2.2; omega)
        refine ⟨by omega, fun _ => ?_⟩
        rw [a5, a3, b3, e]; rfl
    · rcases m with ⟨b1, b2, b3⟩ | ⟨b1, b2, b3⟩
      · exact ⟨by omega, fun h => absurd h (by omega)⟩
      · exact absurd ⟨b2.1.1, b2.1.2, b2.2⟩ a2
  · rcases c with ⟨_, _, ⟨a2, _⟩, _⟩ | ⟨a1, _⟩
    · exact absurd a2.1 hr
    · rcases m with ⟨b1, _⟩ | ⟨_, b2, _⟩
      · exact ⟨by omega, fun h => absurd h (by omega)⟩
      · exact absurd b2.1.1 hr
theorem an_movedAt (hv0 : gInv (gW g (I, AI)) (ghF 0 (hG (gZ g))) R1 AR I1 AI1) (hP : lP8 g I AR AI pA nr tbs cc cl) (hQ : lQ8 g I AR AI bA nA nr tbs cc cl) {row pl th : Int} {lw : Int64}
    (c : (v1 = 0 ∧ ∃ v9 : Int, (((0 ≤ rel ∧ rel < (nr : Int)) ∧ (pl = 4 ∨ (0 ≤ pl ∧ pl < (cc rel.toNat).1 1)) ∧ 0 ≤ row ∧ row < (((rfC (hG (gZ g)) AR I AI (hG (gZ g) 35 0) rel.toNat).1 : Nat) : Int)) ∧ v9 = ((rfC (hG (gZ g)) AR I AI (hG (gZ g) 35 0) rel.toNat).2 (6 * row.toNat + pl.toNat)).toInt) ∧ zr v9 ∧ lw = (iI v9).toInt64) ∨ (v1 = 1 ∧ ¬ ((0 ≤ rel ∧ rel < (nr : Int)) ∧ (pl = 4 ∨ (0 ≤ pl ∧ pl < (cc rel.toNat).1 1)) ∧ 0 ≤ row ∧ row < (((rfC (hG (gZ g)) AR I AI (hG (gZ g) 35 0) rel.toNat).1 : Nat) : Int))))
    (m : (th = 1 ∧ v2 = 0 ∧ ¬ (tdM (AI1 (hGm (gZ g) 50 0)) nr rel pl ∧ 0 ≤ row ∧ row < ((bgN (mvF (hGm (gZ g)) AI1 rel.toNat) : Nat) : Int))) ∨ (th = 0 ∧ (tdM (AI1 (hGm (gZ g) 50 0)) nr rel pl ∧ 0 ≤ row ∧ row < ((bgN (mvF (hGm (gZ g)) AI1 rel.toNat) : Nat) : Int)) ∧ ∃ f : Nat → Int32, isB f (bgN (mvF (hGm (gZ g)) AI1 rel.toNat)) (mvF (hGm (gZ g)) AI1 rel.toNat) zM ∧ v2 = (f (6 * row.toNat + pl.toNat)).toInt)) : v1 = th ∧ (v1 = 0 → lw = (iI v2).toInt64) := by
  by_cases hr : 0 ≤ rel ∧ rel < (nr : Int)
  · have k := m_kd hv0 hP hr
    have e : mvF (hGm (gZ g)) AI1 rel.toNat = mv8 (rsM (hGm (gZ g)) AI 0) (rsM (hGm (gZ g)) AI 9) rel.toNat := by unfold mvF; rw [e_rf hv0]; rfl
    have w := (hQ.2.2.1 rel.toNat (by omega)).1
    rw [m_mv hv0 hQ (by omega), e] at m
    have c4 := (hP.2.2.2.2.2 rel.toNat (by omega)).2
    unfold tdM at m
    rw [k.2.1] at m
    rcases c with ⟨a1, v9, ⟨a2, a3⟩, a4, a5⟩ | ⟨a1, a2⟩
    · rcases m with ⟨b1, b2, b3⟩ | ⟨b1, b2, f9, b3, b4⟩
      · exact absurd ⟨⟨a2.1, a2.2.1⟩, a2.2.2⟩ b3
      · have u := (isW_u w b3 (fun _ _ => rfl) (fun _ _ => rfl)).2
        have e := rwA_at u (show 6 * row.toNat + pl.toNat < 6 * _ by have := a2.2.1; have := a2.2.2; omega)
        refine ⟨by omega, fun _ => ?_⟩
        rw [a5, a3, b4, e]
    · rcases m with ⟨b1, b2, b3⟩ | ⟨b1, b2, f9, b3, b4⟩
      · exact ⟨by omega, fun h => absurd h (by omega)⟩
      · exact absurd ⟨b2.1.1, b2.1.2, b2.2⟩ a2
  · rcases c with ⟨_, _, ⟨a2, _⟩, _⟩ | ⟨a1, _⟩
    · exact absurd a2.1 hr
    · rcases m with ⟨b1, _⟩ | ⟨_, b2, _⟩
      · exact ⟨by omega, fun h => absurd h (by omega)⟩
      · exact absurd b2.1.1 hr
theorem an_count (hv0 : gInv (gW g (I, AI)) (ghF 0 (hG (gZ g))) R1 AR I1 AI1) (hP : lP8 g I AR AI pA nr tbs cc cl) (hQ : lQ8 g I AR AI bA nA nr tbs cc cl) {a b c' d th : Int} {lw : Int64}
    (c : (v1 = 0 ∧ ∃ v9 : Int, ((0 ≤ rel ∧ rel < (nr : Int)) ∧ v9 = (bS (rfC (hG (gZ g)) AR I AI bA rel.toNat).2 (rfC (hG (gZ g)) AR I AI bA rel.toNat).1 (kyT ((cc rel.toNat).1 1) a b c' d)).toInt) ∧ zr v9 ∧ lw = (iI v9).toInt64) ∨ (v1 = 1 ∧ (rel < 0 ∨ (nr : Int) ≤ rel)))
    (m : ((rel < 0 ∨ (nr : Int) ≤ rel) ∧ th = 1 ∧ v2 = 0) ∨ ((0 ≤ rel ∧ rel < (nr : Int)) ∧ th = 0 ∧ v2 = (bS (rfM (hGm (gZ g)) AI1 0 rel.toNat).2 (rfM (hGm (gZ g)) AI1 0 rel.toNat).1 (kyT (tI (AI1 (hGm (gZ g) 50 0)) (40 * rel + 1)) a b c' d)).toInt)) : v1 = th ∧ (v1 = 0 → lw = (iI v2).toInt64) := by
  rw [e_rf hv0] at m
  rcases c with ⟨a1, v9, ⟨a2, a3⟩, a4, a5⟩ | ⟨a1, a2⟩
  · rcases m with ⟨b1, _⟩ | ⟨b1, b2, b3⟩
    · exfalso; omega
    · refine ⟨by omega, fun _ => ?_⟩
      have w := congrFun (oS_c (hQ.1.2.1 rel.toNat (by omega))) (kyT ((cc rel.toNat).1 1) a b c' d)
      have w2 : bS (rfC (hG (gZ g)) AR I AI bA rel.toNat).2 (rfC (hG (gZ g)) AR I AI bA rel.toNat).1 (kyT ((cc rel.toNat).1 1) a b c' d) = bS (rfM (hGm (gZ g)) AI 0 rel.toNat).2 (rfM (hGm (gZ g)) AI 0 rel.toNat).1 (kyT ((cc rel.toNat).1 1) a b c' d) := w
      rw [(m_kd hv0 hP b1).2.1, ← w2] at b3
      rw [a5, a3, b3]
  · rcases m with ⟨_, b1, _⟩ | ⟨b1, _⟩
    · exact ⟨by omega, fun h => absurd h (by omega)⟩
    · exfalso; omega
theorem an_total (hv0 : gInv (gW g (I, AI)) (ghF 0 (hG (gZ g))) R1 AR I1 AI1) (hQ : lQ8 g I AR AI bA nA nr tbs cc cl) {th : Int} {lw : Int64}
    (c : (v1 = 0 ∧ ∃ v9 : Int, ((0 ≤ rel ∧ rel < (nr : Int)) ∧ iI v9 = smA (rfC (hG (gZ g)) AR I AI bA rel.toNat).2 (rfC (hG (gZ g)) AR I AI bA rel.toNat).1) ∧ zr v9 ∧ lw = (iI v9).toInt64) ∨ (v1 = 1 ∧ (rel < 0 ∨ (nr : Int) ≤ rel)))
    (m : ((rel < 0 ∨ (nr : Int) ≤ rel) ∧ th = 1 ∧ v2 = 0) ∨ ((0 ≤ rel ∧ rel < (nr : Int)) ∧ th = 0 ∧ iI v2 = smA (rfM (hGm (gZ g)) AI1 0 rel.toNat).2 (rfM (hGm (gZ g)) AI1 0 rel.toNat).1)) : v1 = th ∧ (v1 = 0 → lw = (iI v2).toInt64) := by
  rw [e_rf hv0] at m
  rcases c with ⟨a1, v9, ⟨a2, a3⟩, a4, a5⟩ | ⟨a1, a2⟩
  · rcases m with ⟨b1, _⟩ | ⟨b1, b2, b3⟩
    · exfalso; omega
    · refine ⟨by omega, fun _ => ?_⟩
      have w := hQ.1.2.1 rel.toNat (by omega)
      have w1 : (rfC (hG (gZ g)) AR I AI bA rel.toNat).1 = (rfM (hGm (gZ g)) AI 0 rel.toNat).1 := w.1
      rw [a5, a3, b3, ← w1]
      exact congrArg _ (smA_c _ w.2)
  · rcases m with ⟨_, b1, _⟩ | ⟨b1, _⟩
    · exact ⟨by omega, fun h => absurd h (by omega)⟩
    · exfalso; omega
end An8
end
section
theorem dX7_thrown_0 : decode cX7_thrown 0 = .ok (.aload_n 0, 1) := by decide +kernel
theorem dX7_thrown_1 : decode cX7_thrown 1 = .ok (.getfield 60, 3) := by decide +kernel
theorem dX7_thrown_4 : decode cX7_thrown 4 = .ok (.ireturn, 1) := by decide +kernel
def rmX7_thrown : Room := { frames := 0, cells := 0, slots := 0, locals := 0 }
theorem hdX7_thrown : yX7_thrown.cls = RX7 ∧ yX7_thrown.cls ≠ "java/lang/invoke/MethodHandle" ∧ yX7_thrown.cls ≠ "java/lang/invoke/VarHandle" ∧ (parseMethodDescriptor yX7_thrown.desc).map (fun d => d.parameters.length) = some 0 := by decide +kernel
set_option maxHeartbeats 4000000 in
set_option maxRecDepth 100000 in
/-- the last call threw -/
theorem c_X7_thrown (l : Launch) (g : gG) (gh : gGh) (T : Nat → Int32) (I : gI) (R : gR) (J : gJ) (AI : gI) (AJ : gJ) (AR : gR) (mo : Nat) (hv : mInv g gh R I AI) (hm : gO g mo 7) (hT : AI (gh 50 0) = T) : gMet l g yX7_thrown tsX7_thrown rmX7_thrown [.ref mo] (I, R, J, AI, AJ, AR) (gQi g (fun (z : Int) (w : gS) => I = w.1 ∧ R = w.2.1 ∧ J = w.2.2.1 ∧ AI = w.2.2.2.1 ∧ AJ = w.2.2.2.2.1 ∧ AR = w.2.2.2.2.2 ∧ (z = (I mo 17).toInt))) := by
  refine gStart (cc := cX7_thrown) (maxL := 1) (ret := (some (.int))) (by decide) rfl (Nat.le_of_ble_eq_true rfl) ?_
  intro p e s m below meth c ls F hr hlk hH hz hS hl
  have hl : lv_has ls 1 [(0, .ref mo)] := hl
  have hS : va_S (gA g) s.heap s.heap [] := hS
  obtain ⟨H, hHe⟩ : ∃ H : Heap, H = s.heap := ⟨_, rfl⟩
  obtain ⟨locs, hlo⟩ : ∃ k : List Loc, k = [] := ⟨_, rfl⟩
  have hH : gH g I R J AI AJ AR H := by rw [hHe]; exact hH
  have hS : va_S (gA g) s.heap H locs := by rw [hHe, hlo]; exact hS
  suffices hw : W p l e rmX7_thrown s m ([.ref mo] : List Value).toArray below meth c H locs 0 0 (MQ below (gQi g (fun (z : Int) (w : gS) => I = w.1 ∧ R = w.2.1 ∧ J = w.2.2.1 ∧ AI = w.2.2.2.1 ∧ AJ = w.2.2.2.2.1 ∧ AR = w.2.2.2.2.2 ∧ (z = (I mo 17).toInt))) ([.ref mo] : List Value).toArray s 0 0 (gA g)) (F0 m 0 ls []) by
    rw [hHe, hlo] at hw; exact hw
  clear hHe hlo
  have iX7 : ∀ w ∈ u_ws RX7 TX7 32, w ∈ tsX7_thrown := fun w h => List.mem_cons_of_mem _ (inTB7 w h)
  have k60 : Cond.fieldLink RX7 60 (TX7 17).1 (TX7 17).2.1 (TX7 17).2.2.1 ∈ tsX7_thrown := List.mem_cons_of_mem _ fl_60
  refine lv_aload_n F.1 F.2.1 dX7_thrown_0 rfl (lv_at hl 0 rfl) ?_
  refine g_getI (ci := 7) (k := 17) F hH rfl (by decide) iX7 hm (by decide) rfl k60 dX7_thrown_1 ?_
  refine z_norm (fun v_1 zv_1 ev_1 => ?_)
  exact g_iret F hr hlk hH hS hz zv_1 ⟨rfl, rfl, rfl, rfl, rfl, rfl, (iI_eq zv_1 (zr_t _)).mp ev_1⟩ dX7_thrown_4
end
