/-! sums of lengths -/
def smL (f : Nat → Int) (a : Nat) : Nat → Int
  | 0 => 0
  | k + 1 => smL f a k + f (a + k)
def lnR (AR : gR) (I : gI) (b : Nat) : Nat → Int := fun r => (I (rob AR b r) 3).toInt
theorem smL_c {f f' : Nat → Int} {a : Nat} : ∀ k, (∀ r, a ≤ r → r < a + k → f r = f' r) → smL f a k = smL f' a k
  | 0, _ => rfl
  | k + 1, h => by rw [smL, smL, smL_c k (fun r h1 h2 => h r h1 (by omega)), h (a + k) (by omega) (by omega)]
/-- what a batch that is done leaves: the next bags, what moved, the history, numbers -/
def cmY (gh : gGh) (AR : gR) (x bA nA nr : Nat) (tbs : Int) (I AI : gI) (nb : Nat) (Fn : RF) (z : Int) (I' AI' : gI) : Prop :=
  (∀ r, r < nr → rfC gh AR I' AI' nA r = Fn r) ∧ (∀ r, r < nr → isB (rfC gh AR I' AI' (gh 35 0) r).2 (rfC gh AR I' AI' (gh 35 0) r).1 (fun t => bS (Fn r).2 (Fn r).1 t + iI (-1) * bS (rfC gh AR I AI bA r).2 (rfC gh AR I AI bA r).1 t) zM) ∧
  (∀ k, k < 8 → k ≠ (I x 14).toInt.toNat → rfC gh AR I' AI' (gh 36 0) k = rfC gh AR I AI (gh 36 0) k) ∧ ((rfC gh AR I' AI' (gh 36 0) (I x 14).toInt.toNat).1 = nb ∧ rwA (rfC gh AR I' AI' (gh 36 0) (I x 14).toInt.toNat).2 (AI (gh 0 (gh 37 0))) nb) ∧
  ((I' x 14).toInt = ((I x 14).toInt + 1) % 8 ∧ ((I x 15).toInt < 8 → (I' x 15).toInt = (I x 15).toInt + 1) ∧ ((I x 15).toInt = 8 → (I' x 15).toInt = 8)) ∧ I' x 16 = I x 16 + 1 ∧ I' x 17 = I x 17 ∧ z = smL (lnR AR I' (gh 35 0)) tbs.toNat (nr - tbs.toNat)
/-- all that lasts is as it was -/
def cmS (gh : gGh) (AR : gR) (x bA : Nat) (I AI I' AI' : gI) : Prop :=
  (∀ r, r < 16 → rfC gh AR I' AI' bA r = rfC gh AR I AI bA r) ∧ (∀ r, r < 16 → rfC gh AR I' AI' (gh 35 0) r = rfC gh AR I AI (gh 35 0) r) ∧ (∀ k, k < 8 → rfC gh AR I' AI' (gh 36 0) k = rfC gh AR I AI (gh 36 0) k)
/-- who is who in the class -/
def xD (gh : gGh) (AR : gR) (bA nA : Nat) : Prop := rsD AR bA 16 ∧ rsD AR nA 16 ∧ rsX AR bA 16 nA 16 ∧ rsD AR (gh 35 0) 16 ∧ rsD AR (gh 36 0) 8 ∧ (∀ i, i < 8 → rob AR (gh 36 0) i ≠ gh 38 0) ∧ gh 37 0 ≠ gh 38 0 ∧ ∀ i, i < 16 → rob AR (gh 35 0) i ≠ gh 40 0
theorem xD_s {gh : gGh} {AR : gR} {bA nA : Nat} (h : xD gh AR bA nA) : xD gh AR nA bA := by
  obtain ⟨a, b, c, d⟩ := h
  exact ⟨b, a, fun i j hi hj e => c j i hj hi e.symm, d⟩
section XD
variable {g : gG} {gh : gGh} {R AR : gR} {I I' AI AI' I0 AI0 : gI} {x pA bA nA : Nat}
/-- rows of one array are none of another kind's -/
theorem ra_ne {b b' n n' lim key lim' key' : Nat} (h : isRA g gh AR b n lim key) (h' : isRA g gh AR b' n' lim' key') (hk : lim ≠ lim' ∨ key ≠ key') {i j : Nat} (hi : i < n) (hj : j < n') : rob AR b i ≠ rob AR b' j := fun e => by
  have q := isRA_o h hi
  have q' := isRA_o h' hj
  rw [e] at q
  rcases hk with w | w
  · exact w (q.2.2.1.symm.trans q'.2.2.1)
  · exact w (q.2.2.2.symm.trans q'.2.2.2)
theorem ra_ne1 {b n lim key lim' key' o : Nat} (h : isRA g gh AR b n lim key) (h1 : gh 1 o = lim') (h2 : gh 2 o = key') (hk : lim ≠ lim' ∨ key ≠ key') {i : Nat} (hi : i < n) : rob AR b i ≠ o := fun e => by
  have q := isRA_o h hi
  rw [e] at q
  rcases hk with w | w
  · exact w (q.2.2.1.symm.trans h1)
  · exact w (q.2.2.2.symm.trans h2)
/-- a run of reckonNext leaves what lasts -/
theorem cmS_n (hv : gInv g gh R AR I0 AI0) (hx : xS g gh R AR x pA bA nA) (hD : xD gh AR bA nA) (fN : nIf gh AR nA I I') (fM : nAf gh AR nA AI AI') : cmS gh AR x bA I AI I' AI' := by
  have hb := hx.2.2.2.2.1
  have hn := hx.2.2.2.2.2.2
  have h35 := (gR_x7 hv hx.1).2
  have h36 := (gR_x13 hv hx.1).2
  have h39 := (gR_x10 hv hx.1).2
  refine ⟨fun r hr => ?_, fun r hr => ?_, fun r hr => ?_⟩
  · have a := ra_ne1 hb h39.2.1 h39.2.2 (Or.inl (by decide)) hr
    have c : ∀ q, q < 16 → rob AR nA q ≠ rob AR bA r := fun q hq e => hD.2.2.1 r q hr hq e.symm
    exact rfC_k (fN _ a c) (nAf_o fM hv hx.1 (isRA_o hb hr).2.1 hn a c)
  · have a := ra_ne1 h35 h39.2.1 h39.2.2 (Or.inl (by decide)) hr
    have c : ∀ q, q < 16 → rob AR nA q ≠ rob AR (gh 35 0) r := fun q hq => ra_ne hn h35 (Or.inl (by decide)) hq hr
    exact rfC_k (fN _ a c) (nAf_o fM hv hx.1 (isRA_o h35 hr).2.1 hn a c)
  · have a := ra_ne1 h36 h39.2.1 h39.2.2 (Or.inr (by decide)) hr
    have c : ∀ q, q < 16 → rob AR nA q ≠ rob AR (gh 36 0) r := fun q hq => ra_ne hn h36 (Or.inl (by decide)) hq hr
    exact rfC_k (fN _ a c) (nAf_o fM hv hx.1 (isRA_o h36 hr).2.1 hn a c)
end XD
