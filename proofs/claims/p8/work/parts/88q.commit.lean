/-! sums of lengths -/
def smL (f : Nat → Int) (a : Nat) : Nat → Int
  | 0 => 0
  | k + 1 => smL f a k + f (a + k)
def lnR (AR : gR) (I : gI) (b : Nat) : Nat → Int := fun r => (I (rob AR b r) 3).toInt
theorem smL_c {f f' : Nat → Int} {a : Nat} : ∀ k, (∀ r, a ≤ r → r < a + k → f r = f' r) → smL f a k = smL f' a k
  | 0, _ => rfl
  | k + 1, h => by rw [smL, smL, smL_c k (fun r h1 h2 => h r h1 (by omega)), h (a + k) (by omega) (by omega)]
/-- what a batch that is done leaves: the next bags, what moved, the history, numbers -/
def cmY (gh : gGh) (AR : gR) (x bA nA nr : Nat) (tbs : Int) (I AI : gI) (nb : Nat) (Fn : RF) (z : Int) (I' AI' : gI) : Prop :=
  (∀ r, r < nr → rfC gh AR I' AI' nA r = Fn r) ∧ (∀ r, r < nr → isB (rfC gh AR I' AI' (gh 35 0) r).2 (rfC gh AR I' AI' (gh 35 0) r).1 (fun t => bS (Fn r).2 (Fn r).1 t + iI (-1) * bS (rfC gh AR I AI bA r).2 (rfC gh AR I AI bA r).1 t) zM) ∧
  (∀ k, k < 8 → k ≠ (I x 14).toInt.toNat → rfC gh AR I' AI' (gh 36 0) k = rfC gh AR I AI (gh 36 0) k) ∧ ((rfC gh AR I' AI' (gh 36 0) (I x 14).toInt.toNat).1 = nb ∧ rwA (rfC gh AR I' AI' (gh 36 0) (I x 14).toInt.toNat).2 (AI (gh 0 (gh 37 0))) nb) ∧
  ((I' x 14).toInt = ((I x 14).toInt + 1) % 8 ∧ ((I x 15).toInt < 8 → (I' x 15).toInt = (I x 15).toInt + 1) ∧ ((I x 15).toInt = 8 → (I' x 15).toInt = 8)) ∧ I' x 16 = I x 16 + 1 ∧ I' x 17 = I x 17 ∧ z = smL (lnR AR I' (gh 35 0)) tbs.toNat (nr - tbs.toNat)
/-- all that lasts is as it was -/
def cmS (gh : gGh) (AR : gR) (x bA : Nat) (I AI I' AI' : gI) : Prop :=
  (∀ r, r < 16 → rfC gh AR I' AI' bA r = rfC gh AR I AI bA r) ∧ (∀ r, r < 16 → rfC gh AR I' AI' (gh 35 0) r = rfC gh AR I AI (gh 35 0) r) ∧ (∀ k, k < 8 → rfC gh AR I' AI' (gh 36 0) k = rfC gh AR I AI (gh 36 0) k)
/-- who is who in the class -/
def xD (gh : gGh) (AR : gR) (bA nA : Nat) : Prop := rsD AR bA 16 ∧ rsD AR nA 16 ∧ rsX AR bA 16 nA 16 ∧ rsD AR (gh 35 0) 16 ∧ rsD AR (gh 36 0) 8 ∧ (∀ i, i < 8 → rob AR (gh 36 0) i ≠ gh 38 0) ∧ gh 37 0 ≠ gh 38 0 ∧ ∀ i, i < 16 → rob AR (gh 35 0) i ≠ gh 40 0
theorem xD_s {gh : gGh} {AR : gR} {bA nA : Nat} (h : xD gh AR bA nA) : xD gh AR nA bA := by
  obtain ⟨a, b, c, d⟩ := h
  exact ⟨b, a, fun i j hi hj e => c j i hj hi e.symm, d⟩
section XD
variable {g : gG} {gh : gGh} {R AR : gR} {I I' AI AI' I0 AI0 : gI} {x pA bA nA : Nat}
/-- rows of one array are none of another kind's -/
theorem ra_ne {b b' n n' lim key lim' key' : Nat} (h : isRA g gh AR b n lim key) (h' : isRA g gh AR b' n' lim' key') (hk : lim ≠ lim' ∨ key ≠ key') {i j : Nat} (hi : i < n) (hj : j < n') : rob AR b i ≠ rob AR b' j := fun e => by
  have q := isRA_o h hi
  have q' := isRA_o h' hj
  rw [e] at q
  rcases hk with w | w
  · exact w (q.2.2.1.symm.trans q'.2.2.1)
  · exact w (q.2.2.2.symm.trans q'.2.2.2)
theorem ra_ne1 {b n lim key lim' key' o : Nat} (h : isRA g gh AR b n lim key) (h1 : gh 1 o = lim') (h2 : gh 2 o = key') (hk : lim ≠ lim' ∨ key ≠ key') {i : Nat} (hi : i < n) : rob AR b i ≠ o := fun e => by
  have q := isRA_o h hi
  rw [e] at q
  rcases hk with w | w
  · exact w (q.2.2.1.symm.trans h1)
  · exact w (q.2.2.2.symm.trans h2)
/-- a run of reckonNext leaves what lasts -/
theorem cmS_n (hv : gInv g gh R AR I0 AI0) (hx : xS g gh R AR x pA bA nA) (hD : xD gh AR bA nA) (fN : nIf gh AR nA I I') (fM : nAf gh AR nA AI AI') : cmS gh AR x bA I AI I' AI' := by
  have hb := hx.2.2.2.2.1
  have hn := hx.2.2.2.2.2.2
  have h35 := (gR_x7 hv hx.1).2
  have h36 := (gR_x13 hv hx.1).2
  have h39 := (gR_x10 hv hx.1).2
  refine ⟨fun r hr => ?_, fun r hr => ?_, fun r hr => ?_⟩
  · have a := ra_ne1 hb h39.2.1 h39.2.2 (Or.inl (by decide)) hr
    have c : ∀ q, q < 16 → rob AR nA q ≠ rob AR bA r := fun q hq e => hD.2.2.1 r q hr hq e.symm
    exact rfC_k (fN _ a c) (nAf_o fM hv hx.1 (isRA_o hb hr).2.1 hn a c)
  · have a := ra_ne1 h35 h39.2.1 h39.2.2 (Or.inl (by decide)) hr
    have c : ∀ q, q < 16 → rob AR nA q ≠ rob AR (gh 35 0) r := fun q hq => ra_ne hn h35 (Or.inl (by decide)) hq hr
    exact rfC_k (fN _ a c) (nAf_o fM hv hx.1 (isRA_o h35 hr).2.1 hn a c)
  · have a := ra_ne1 h36 h39.2.1 h39.2.2 (Or.inr (by decide)) hr
    have c : ∀ q, q < 16 → rob AR nA q ≠ rob AR (gh 36 0) r := fun q hq => ra_ne hn h36 (Or.inl (by decide)) hq hr
    exact rfC_k (fN _ a c) (nAf_o fM hv hx.1 (isRA_o h36 hr).2.1 hn a c)
end XD
section CM
variable {g : gG} {gh : gGh} {R AR : gR} {I I1 I2 I3 I4 I5 AI AI1 AI2 AI4 I0 AI0 : gI} {x pA bA nA nb nr : Nat} {tbs z : Int}
theorem isRA_37 {b n lim key r : Nat} (h : isRA g gh AR b n lim key) (hr : r < n) : rob AR b r ≠ gh 37 0 := by
  obtain ⟨y, a, _, _, _, c⟩ := h.2 r hr
  rw [rob_e a]; exact c
theorem cm_yes (hv : gInv g gh R AR I0 AI0) (hx : xS g gh R AR x pA bA nA) (hD : xD gh AR bA nA) (hh : 0 ≤ (I x 14).toInt ∧ (I x 14).toInt ≤ 7) (hn : 0 ≤ tbs ∧ tbs ≤ (nr : Int) ∧ nr ≤ 16) (fN : nIf gh AR nA I I1) (fM : nAf gh AR nA AI AI1)
    (r1 : ∀ b j, b ≠ x ∨ (j ≠ 14 ∧ j ≠ 15) → b ≠ rob AR (gh 36 0) (I1 x 14).toInt.toNat → I2 b j = I1 b j) (r2 : ∀ b, b ≠ gh 0 (rob AR (gh 36 0) (I1 x 14).toInt.toNat) → AI2 b = AI1 b)
    (r3 : (I2 x 14).toInt = ((I1 x 14).toInt + 1) % 8 ∧ ((I1 x 15).toInt < 8 → (I2 x 15).toInt = (I1 x 15).toInt + 1) ∧ ((I1 x 15).toInt = 8 → (I2 x 15).toInt = 8)) (r4 : (I2 (rob AR (gh 36 0) (I1 x 14).toInt.toNat) 3).toInt = (nb : Int) ∧ rwA (AI2 (gh 0 (rob AR (gh 36 0) (I1 x 14).toInt.toNat))) (AI1 (gh 0 (gh 37 0))) nb)
    (d3 : ∀ b j, b ≠ x ∨ j ≠ 16 → I3 b j = I2 b j) (d4 : I3 x 16 = I2 x 16 + 1) (t1 : ∀ b, (∀ r, r < 16 → rob AR (gh 35 0) r ≠ b) → I4 b = I3 b) (t2 : ∀ b, (∀ r, r < 16 → gh 0 (rob AR (gh 35 0) r) ≠ b) → AI4 b = AI2 b) (t3 : ∀ r, r < nr → mvQ gh AR I3 AI2 bA nA I4 AI4 r)
    (b5 : ∀ b j, b ≠ gh 37 0 ∨ j ≠ 3 → I5 b j = I4 b j) (zs : z = smL (lnR AR I4 (gh 35 0)) tbs.toNat (nr - tbs.toNat)) : cmY gh AR x bA nA nr tbs I AI nb (rfC gh AR I1 AI1 nA) z I5 AI4 := by
  have hb := hx.2.2.2.2.1
  have hnn := hx.2.2.2.2.2.2
  have h35 := (gR_x7 hv hx.1).2
  have h36 := (gR_x13 hv hx.1).2
  have h39 := (gR_x10 hv hx.1).2
  have h37 := (gR_x8 hv hx.1).2
  have eX : I1 x = I x := fN x (gO_ne hx.1 h39.1 (by decide)) (fun r hr => (gO_ne hx.1 (isRA_o hnn hr).2.1 (by decide)).symm)
  have e37A : AI1 (gh 0 (gh 37 0)) = AI (gh 0 (gh 37 0)) := nAf_o fM hv hx.1 h37.1 hnn (fun e => by have q := h37.2.2; rw [e, h39.2.2] at q; exact absurd q (by decide)) (fun r hr => isRA_37 hnn hr)
  rw [eX] at r1 r2 r3 r4
  rw [e37A] at r4
  -- an array of rows of four: what reckonNext left stays until it is taken
  have stay : ∀ {b lim}, isRA g gh AR b 16 lim 4 → ∀ r, r < 16 → rfC gh AR I3 AI2 b r = rfC gh AR I1 AI1 b r := fun {b lim} h r hr => by
    have o := isRA_o h hr
    have nh : rob AR b r ≠ rob AR (gh 36 0) (I x 14).toInt.toNat := ra_ne h h36 (Or.inr (by decide)) hr (by omega)
    have nx : rob AR b r ≠ x := gO_ne o.2.1 hx.1 (by decide)
    unfold rfC
    rw [d3 _ 3 (Or.inl nx), r1 _ 3 (Or.inl nx) nh, r2 _ (cells_ne hv (isRA_o h36 (by omega)).2.1 o.2.1 nh)]
  have five : ∀ b, b ≠ gh 37 0 → I5 b = I4 b := fun b h => funext fun j => b5 b j (Or.inl h)
  have take : ∀ {b lim}, isRA g gh AR b 16 lim 4 → lim ≠ 240 → ∀ r, r < 16 → rfC gh AR I5 AI4 b r = rfC gh AR I3 AI2 b r := fun {b lim} h hl r hr => by
    have o := isRA_o h hr
    have nm : ∀ q, q < 16 → rob AR (gh 35 0) q ≠ rob AR b r := fun q hq => ra_ne h35 h (Or.inl (fun e => hl e.symm)) hq hr
    unfold rfC
    rw [five _ (isRA_37 h hr), t1 _ nm, t2 _ (fun q hq => cells_ne hv o.2.1 (isRA_o h35 hq).2.1 (nm q hq))]
  have x5 : ∀ j, I5 x j = I3 x j := fun j => by
    rw [b5 x j (Or.inl (gO_ne hx.1 h37.1 (by decide))), t1 x (fun r hr => gO_ne (isRA_o h35 hr).2.1 hx.1 (by decide))]
  have hist : ∀ k, k < 8 → I5 (rob AR (gh 36 0) k) 3 = I2 (rob AR (gh 36 0) k) 3 ∧ AI4 (gh 0 (rob AR (gh 36 0) k)) = AI2 (gh 0 (rob AR (gh 36 0) k)) := fun k hk => by
    have o := isRA_o h36 hk
    have nm : ∀ q, q < 16 → rob AR (gh 35 0) q ≠ rob AR (gh 36 0) k := fun q hq => ra_ne h35 h36 (Or.inl (by decide)) hq hk
    rw [five _ (isRA_37 h36 hk), t1 _ nm, t2 _ (fun q hq => cells_ne hv o.2.1 (isRA_o h35 hq).2.1 (nm q hq)), d3 _ 3 (Or.inl (gO_ne o.2.1 hx.1 (by decide)))]
    exact ⟨rfl, rfl⟩
  have bags := cmS_n hv hx hD fN fM
  refine ⟨fun r hr => (take hnn (by decide) r (by omega)).trans (stay hnn r (by omega)), fun r hr => ?_, fun k hk hne => ?_, ?_, ?_, ?_, ?_, ?_⟩
  · have q := (t3 r hr).1
    have en := stay hnn r (by omega)
    have eb := (stay hb r (by omega)).trans (bags.1 r (by omega))
    have em : rfC gh AR I5 AI4 (gh 35 0) r = rfC gh AR I4 AI4 (gh 35 0) r := by unfold rfC; rw [five _ (isRA_37 h35 (by omega))]
    rw [em, ← en, ← eb]
    exact q
  · have q := hist k hk
    have nh : rob AR (gh 36 0) k ≠ rob AR (gh 36 0) (I x 14).toInt.toNat := fun e => hne (hD.2.2.2.2.1 k _ hk (by omega) e)
    have o := isRA_o h36 hk
    have q2 := bags.2.2 k hk
    rw [← q2]
    unfold rfC
    rw [q.1, q.2, r1 _ 3 (Or.inl (gO_ne o.2.1 hx.1 (by decide))) nh, r2 _ (cells_ne hv (isRA_o h36 (by omega)).2.1 o.2.1 nh)]
  · have q := hist (I x 14).toInt.toNat (by omega)
    unfold rfC
    rw [q.1, q.2]
    exact ⟨by have := r4.1; omega, r4.2⟩
  · rw [x5, x5, d3 x 14 (Or.inr (by decide)), d3 x 15 (Or.inr (by decide))]; exact r3
  · rw [x5, d4, r1 x 16 (Or.inr (by decide)) (gO_ne hx.1 (isRA_o h36 (show (I x 14).toInt.toNat < 8 by omega)).2.1 (by decide)), eX]
  · rw [x5, d3 x 17 (Or.inr (by decide)), r1 x 17 (Or.inr (by decide)) (gO_ne hx.1 (isRA_o h36 (show (I x 14).toInt.toNat < 8 by omega)).2.1 (by decide)), eX]
  · rw [zs]
    refine smL_c _ (fun r h1 h2 => ?_)
    unfold lnR
    rw [five _ (isRA_37 h35 (by omega))]
theorem cm_no (hv : gInv g gh R AR I0 AI0) (hx : xS g gh R AR x pA bA nA) (hD : xD gh AR bA nA) (fN : nIf gh AR nA I I1) (fM : nAf gh AR nA AI AI1)
    (d3 : ∀ b j, b ≠ x ∨ j ≠ 17 → I3 b j = I1 b j) (d4 : I3 x 17 = I1 x 17 + 1) (b5 : ∀ b j, b ≠ gh 37 0 ∨ j ≠ 3 → I5 b j = I3 b j) : cmS gh AR x bA I AI I5 AI1 ∧ I5 x 14 = I x 14 ∧ I5 x 15 = I x 15 ∧ I5 x 16 = I x 16 ∧ I5 x 17 = I x 17 + 1 := by
  have hb := hx.2.2.2.2.1
  have hnn := hx.2.2.2.2.2.2
  have h35 := (gR_x7 hv hx.1).2
  have h36 := (gR_x13 hv hx.1).2
  have h39 := (gR_x10 hv hx.1).2
  have h37 := (gR_x8 hv hx.1).2
  have eX : I1 x = I x := fN x (gO_ne hx.1 h39.1 (by decide)) (fun r hr => (gO_ne hx.1 (isRA_o hnn hr).2.1 (by decide)).symm)
  have bags := cmS_n hv hx hD fN fM
  have same : ∀ {b n lim key}, isRA g gh AR b n lim key → ∀ r, r < n → rfC gh AR I5 AI1 b r = rfC gh AR I1 AI1 b r := fun {b n lim key} h r hr => by
    have o := isRA_o h hr
    unfold rfC
    rw [b5 _ 3 (Or.inl (isRA_37 h hr)), d3 _ 3 (Or.inl (gO_ne o.2.1 hx.1 (by decide)))]
  have x5 : ∀ j, I5 x j = I3 x j := fun j => b5 x j (Or.inl (gO_ne hx.1 h37.1 (by decide)))
  refine ⟨⟨fun r hr => (same hb r hr).trans (bags.1 r hr), fun r hr => (same h35 r hr).trans (bags.2.1 r hr), fun r hr => (same h36 r hr).trans (bags.2.2 r hr)⟩, ?_, ?_, ?_, ?_⟩
  · rw [x5, d3 x 14 (Or.inr (by decide)), eX]
  · rw [x5, d3 x 15 (Or.inr (by decide)), eX]
  · rw [x5, d3 x 16 (Or.inr (by decide)), eX]
  · rw [x5, d4, eX]
end CM
