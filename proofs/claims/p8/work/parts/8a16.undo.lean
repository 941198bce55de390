/-- what an undone batch leaves -/
def cmU (gh : gGh) (AR : gR) (x bA nA nr : Nat) (I AI : gI) (Fn : RF) (I' AI' : gI) : Prop :=
  (∀ r, r < nr → rfC gh AR I' AI' nA r = Fn r) ∧ (∀ r, r < nr → isB (rfC gh AR I' AI' (gh 35 0) r).2 (rfC gh AR I' AI' (gh 35 0) r).1 (fun t => bS (Fn r).2 (Fn r).1 t + iI (-1) * bS (rfC gh AR I AI bA r).2 (rfC gh AR I AI bA r).1 t) zM) ∧
  (∀ k, k < 8 → rfC gh AR I' AI' (gh 36 0) k = rfC gh AR I AI (gh 36 0) k) ∧ ((I' x 14).toInt = ((I x 14).toInt + 7) % 8 ∧ (I' x 15).toInt = (I x 15).toInt - 1 ∧ I' x 16 = I x 16 ∧ I' x 17 = I x 17) ∧
  I' (gh 37 0) = I (gh 37 0) ∧ AI' (gh 0 (gh 37 0)) = AI (gh 0 (gh 37 0)) ∧ I' (gh 38 0) = I (gh 38 0)
section Undo
variable {g : gG} {gh : gGh} {R AR : gR} {I I0 I1 I2 AI AI1 AI2 Iq AIq : gI} {x pA bA nA nr r : Nat}
theorem gl_o (hv : gInv g gh R AR Iq AIq) (hp : gO g pA 2) (hr : r < 16) : gO g (rob AR (gh 6 pA) r) 0 := by
  obtain ⟨y, a, b, _⟩ := (hv.2.2.2.1 pA hp).1.2.2.1 r hr
  rw [rob_e a]; exact b
theorem un_x (hv : gInv g gh R AR Iq AIq) (hx : xS g gh R AR x pA bA nA) (fN : nIf gh AR nA I0 I1) (t1 : ∀ b, (∀ r, r < 16 → rob AR (gh 35 0) r ≠ b) → I2 b = I1 b) : I2 x = I0 x := by
  have h35 := (gR_x7 hv hx.1).2
  have h39 := (gR_x10 hv hx.1).2
  rw [t1 x (fun r hr => gO_ne (isRA_o h35 hr).2.1 hx.1 (by decide)), fN x (gO_ne hx.1 h39.1 (by decide)) (fun r hr => (gO_ne hx.1 (isRA_o hx.2.2.2.2.2.2 hr).2.1 (by decide)).symm)]
theorem un_15 (hv : gInv g gh R AR Iq AIq) (hx : xS g gh R AR x pA bA nA) (fN : nIf gh AR nA I0 I1) (t1 : ∀ b, (∀ r, r < 16 → rob AR (gh 35 0) r ≠ b) → I2 b = I1 b) : (I2 x 15).toInt = (I0 x 15).toInt := by rw [un_x hv hx fN t1]
theorem un_yes (hv : gInv g gh R AR Iq AIq) (hx : xS g gh R AR x pA bA nA) (hD : xD gh AR bA nA) (hn : nr ≤ 16) (wx : ∀ b j, b ≠ x ∨ (j ≠ 14 ∧ j ≠ 15) → I0 b j = I b j) (w14 : (I0 x 14).toInt = ((I x 14).toInt + 7) % 8) (w15 : (I0 x 15).toInt = (I x 15).toInt - 1) (fN : nIf gh AR nA I0 I1) (fM : nAf gh AR nA AI AI1)
    (t1 : ∀ b, (∀ r, r < 16 → rob AR (gh 35 0) r ≠ b) → I2 b = I1 b) (t2 : ∀ b, (∀ r, r < 16 → gh 0 (rob AR (gh 35 0) r) ≠ b) → AI2 b = AI1 b) (t3 : ∀ r, r < nr → mvQ gh AR I1 AI1 bA nA I2 AI2 r) : cmU gh AR x bA nA nr I AI (rfC gh AR I1 AI1 nA) I2 AI2 := by
  have hb := hx.2.2.2.2.1
  have hnn := hx.2.2.2.2.2.2
  have h35 := (gR_x7 hv hx.1).2
  have h36 := (gR_x13 hv hx.1).2
  have h37 := (gR_x8 hv hx.1).2
  have h38 := (gR_x9 hv hx.1).2
  have h39 := (gR_x10 hv hx.1).2
  have bags := cmS_n hv hx hD fN fM
  have eX := un_x hv hx fN t1
  have wo : ∀ b, b ≠ x → I0 b = I b := fun b h => funext fun j => wx b j (Or.inl h)
  have w0 : ∀ b r, rfC gh AR I0 AI b r = rfC gh AR I AI b r := fun b r => by unfold rfC; rw [wx _ 3 (Or.inr (by decide))]
  have take : ∀ {b n lim key}, isRA g gh AR b n lim key → lim ≠ 240 → ∀ r, r < n → rfC gh AR I2 AI2 b r = rfC gh AR I1 AI1 b r := fun {b n lim key} h hl r hr => by
    have o := isRA_o h hr
    have nm : ∀ q, q < 16 → rob AR (gh 35 0) q ≠ rob AR b r := fun q hq => ra_ne h35 h (Or.inl (fun e => hl e.symm)) hq hr
    exact rfC_k (t1 _ nm) (t2 _ (fun q hq => cells_ne hv o.2.1 (isRA_o h35 hq).2.1 (nm q hq)))
  have one : ∀ {o lim}, gO g o 4 → gh 1 o = lim → lim = 40 → gh 2 o = 5 → o ≠ gh 39 0 ∧ (∀ r, r < 16 → rob AR nA r ≠ o) ∧ ∀ r, r < 16 → rob AR (gh 35 0) r ≠ o := fun {o lim} ho h1 hl h2 => ⟨fun e => by rw [e, h39.2.2] at h2; exact absurd h2 (by decide), fun r hr => ra_ne1 hnn h1 h2 (Or.inr (by decide)) hr, fun r hr => ra_ne1 h35 h1 h2 (Or.inr (by decide)) hr⟩
  have o37 := one h37.1 h37.2.1 rfl h37.2.2
  have o38 := one h38.1 h38.2.1 rfl h38.2.2
  refine ⟨fun r hr => take hnn (by decide) r (by omega), fun r hr => ?_, fun k hk => ?_, ?_, ?_, ?_, ?_⟩
  · have q := (t3 r hr).1
    have eb := (bags.1 r (by omega)).trans (w0 bA r)
    rw [← eb]
    exact q
  · exact (take h36 (by decide) k hk).trans ((bags.2.2 k hk).trans (w0 _ k))
  · rw [eX]
    exact ⟨w14, w15, wx x 16 (Or.inr (by decide)), wx x 17 (Or.inr (by decide))⟩
  · rw [t1 _ o37.2.2, fN _ o37.1 o37.2.1, wo _ (gO_ne h37.1 hx.1 (by decide))]
  · rw [t2 _ (fun r hr => cells_ne hv h37.1 (isRA_o h35 hr).2.1 (o37.2.2 r hr)), nAf_o fM hv hx.1 h37.1 hnn o37.1 o37.2.1]
  · rw [t1 _ o38.2.2, fN _ o38.1 o38.2.1, wo _ (gO_ne h38.1 hx.1 (by decide))]
end Undo
section CmS1
variable {g : gG} {gh : gGh} {R AR : gR} {I I1 I2 AI AI1 AI2 Iq AIq : gI} {x pA bA nA : Nat}
theorem cmS_1 (hv : gInv g gh R AR Iq AIq) (hx : xS g gh R AR x pA bA nA) (hD : xD gh AR bA nA) (h : cmS gh AR x bA I AI I1 AI1) (fi : ∀ b, b ≠ gh 40 0 → I2 b = I1 b) (fa : ∀ b, b ≠ gh 0 (gh 40 0) → AI2 b = AI1 b) : cmS gh AR x bA I AI I2 AI2 := by
  have hb := hx.2.2.2.2.1
  have h35 := (gR_x7 hv hx.1).2
  have h36 := (gR_x13 hv hx.1).2
  have h40 := (gR_x11 hv hx.1).2
  have keep : ∀ o, gO g o 4 → o ≠ gh 40 0 → I2 o = I1 o ∧ AI2 (gh 0 o) = AI1 (gh 0 o) := fun o ho hn => ⟨fi o hn, fa _ (cells_ne hv h40.1 ho hn)⟩
  refine ⟨fun r hr => ?_, fun r hr => ?_, fun r hr => ?_⟩
  · have k := keep _ (isRA_o hb hr).2.1 (ra_ne1 hb h40.2.1 h40.2.2 (Or.inl (by decide)) hr)
    exact (rfC_k k.1 k.2).trans (h.1 r hr)
  · have k := keep _ (isRA_o h35 hr).2.1 (hD.2.2.2.2.2.2.2 r hr)
    exact (rfC_k k.1 k.2).trans (h.2.1 r hr)
  · have k := keep _ (isRA_o h36 hr).2.1 (ra_ne1 h36 h40.2.1 h40.2.2 (Or.inr (by decide)) hr)
    exact (rfC_k k.1 k.2).trans (h.2.2 r hr)
end CmS1
