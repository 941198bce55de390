section
/-! sums of lengths -/
def smL (f : Nat → Int) (a : Nat) : Nat → Int
  | 0 => 0
  | k + 1 => smL f a k + f (a + k)
def lnR (AR : gR) (I : gI) (b : Nat) : Nat → Int := fun r => (I (rob AR b r) 3).toInt
theorem smL_c {f f' : Nat → Int} {a : Nat} : ∀ k, (∀ r, a ≤ r → r < a + k → f r = f' r) → smL f a k = smL f' a k
  | 0, _ => rfl
  | k + 1, h => by rw [smL, smL, smL_c k (fun r h1 h2 => h r h1 (by omega)), h (a + k) (by omega) (by omega)]
/-- what a batch that is done leaves: the next bags, what moved, the history, numbers -/
def cmY (gh : gGh) (AR : gR) (x bA nA nr : Nat) (tbs : Int) (I AI : gI) (nb : Nat) (Fn : RF) (z : Int) (I' AI' : gI) : Prop :=
  (∀ r, r < nr → rfC gh AR I' AI' nA r = Fn r) ∧ (∀ r, r < nr → isB (rfC gh AR I' AI' (gh 35 0) r).2 (rfC gh AR I' AI' (gh 35 0) r).1 (fun t => bS (Fn r).2 (Fn r).1 t + iI (-1) * bS (rfC gh AR I AI bA r).2 (rfC gh AR I AI bA r).1 t) zM) ∧
  (∀ k, k < 8 → k ≠ (I x 14).toInt.toNat → rfC gh AR I' AI' (gh 36 0) k = rfC gh AR I AI (gh 36 0) k) ∧ ((rfC gh AR I' AI' (gh 36 0) (I x 14).toInt.toNat).1 = nb ∧ rwA (rfC gh AR I' AI' (gh 36 0) (I x 14).toInt.toNat).2 (AI (gh 0 (gh 37 0))) nb) ∧
  ((I' x 14).toInt = ((I x 14).toInt + 1) % 8 ∧ ((I x 15).toInt < 8 → (I' x 15).toInt = (I x 15).toInt + 1) ∧ ((I x 15).toInt = 8 → (I' x 15).toInt = 8)) ∧ I' x 16 = I x 16 + 1 ∧ I' x 17 = I x 17 ∧ z = smL (lnR AR I' (gh 35 0)) tbs.toNat (nr - tbs.toNat)
/-- all that lasts is as it was -/
def cmS (gh : gGh) (AR : gR) (x bA : Nat) (I AI I' AI' : gI) : Prop :=
  (∀ r, r < 16 → rfC gh AR I' AI' bA r = rfC gh AR I AI bA r) ∧ (∀ r, r < 16 → rfC gh AR I' AI' (gh 35 0) r = rfC gh AR I AI (gh 35 0) r) ∧ (∀ k, k < 8 → rfC gh AR I' AI' (gh 36 0) k = rfC gh AR I AI (gh 36 0) k)
/-- who is who in the class -/
def xD (gh : gGh) (AR : gR) (bA nA : Nat) : Prop := rsD AR bA 16 ∧ rsD AR nA 16 ∧ rsX AR bA 16 nA 16 ∧ rsD AR (gh 35 0) 16 ∧ rsD AR (gh 36 0) 8 ∧ (∀ i, i < 8 → rob AR (gh 36 0) i ≠ gh 38 0) ∧ gh 37 0 ≠ gh 38 0 ∧ ∀ i, i < 16 → rob AR (gh 35 0) i ≠ gh 40 0
theorem xD_s {gh : gGh} {AR : gR} {bA nA : Nat} (h : xD gh AR bA nA) : xD gh AR nA bA := by
  obtain ⟨a, b, c, d⟩ := h
  exact ⟨b, a, fun i j hi hj e => c j i hj hi e.symm, d⟩
section XD
variable {g : gG} {gh : gGh} {R AR : gR} {I I' AI AI' I0 AI0 : gI} {x pA bA nA : Nat}
/-- rows of one array are none of another kind's -/
theorem ra_ne {b b' n n' lim key lim' key' : Nat} (h : isRA g gh AR b n lim key) (h' : isRA g gh AR b' n' lim' key') (hk : lim ≠ lim' ∨ key ≠ key') {i j : Nat} (hi : i < n) (hj : j < n') : rob AR b i ≠ rob AR b' j := fun e => by
  have q := isRA_o h hi
  have q' := isRA_o h' hj
  rw [e] at q
  rcases hk with w | w
  · exact w (q.2.2.1.symm.trans q'.2.2.1)
  · exact w (q.2.2.2.symm.trans q'.2.2.2)
theorem ra_ne1 {b n lim key lim' key' o : Nat} (h : isRA g gh AR b n lim key) (h1 : gh 1 o = lim') (h2 : gh 2 o = key') (hk : lim ≠ lim' ∨ key ≠ key') {i : Nat} (hi : i < n) : rob AR b i ≠ o := fun e => by
  have q := isRA_o h hi
  rw [e] at q
  rcases hk with w | w
  · exact w (q.2.2.1.symm.trans h1)
  · exact w (q.2.2.2.symm.trans h2)
/-- a run of reckonNext leaves what lasts -/
theorem cmS_n (hv : gInv g gh R AR I0 AI0) (hx : xS g gh R AR x pA bA nA) (hD : xD gh AR bA nA) (fN : nIf gh AR nA I I') (fM : nAf gh AR nA AI AI') : cmS gh AR x bA I AI I' AI' := by
  have hb := hx.2.2.2.2.1
  have hn := hx.2.2.2.2.2.2
  have h35 := (gR_x7 hv hx.1).2
  have h36 := (gR_x13 hv hx.1).2
  have h39 := (gR_x10 hv hx.1).2
  refine ⟨fun r hr => ?_, fun r hr => ?_, fun r hr => ?_⟩
  · have a := ra_ne1 hb h39.2.1 h39.2.2 (Or.inl (by decide)) hr
    have c : ∀ q, q < 16 → rob AR nA q ≠ rob AR bA r := fun q hq e => hD.2.2.1 r q hr hq e.symm
    exact rfC_k (fN _ a c) (nAf_o fM hv hx.1 (isRA_o hb hr).2.1 hn a c)
  · have a := ra_ne1 h35 h39.2.1 h39.2.2 (Or.inl (by decide)) hr
    have c : ∀ q, q < 16 → rob AR nA q ≠ rob AR (gh 35 0) r := fun q hq => ra_ne hn h35 (Or.inl (by decide)) hq hr
    exact rfC_k (fN _ a c) (nAf_o fM hv hx.1 (isRA_o h35 hr).2.1 hn a c)
  · have a := ra_ne1 h36 h39.2.1 h39.2.2 (Or.inr (by decide)) hr
    have c : ∀ q, q < 16 → rob AR nA q ≠ rob AR (gh 36 0) r := fun q hq => ra_ne hn h36 (Or.inl (by decide)) hq hr
    exact rfC_k (fN _ a c) (nAf_o fM hv hx.1 (isRA_o h36 hr).2.1 hn a c)
end XD
section CM
variable {g : gG} {gh : gGh} {R AR : gR} {I I1 I2 I3 I4 I5 AI AI1 AI2 AI4 I0 AI0 : gI} {x pA bA nA nb nr : Nat} {tbs z : Int}
theorem isRA_37 {b n lim key r : Nat} (h : isRA g gh AR b n lim key) (hr : r < n) : rob AR b r ≠ gh 37 0 := by
  obtain ⟨y, a, _, _, _, c⟩ := h.2 r hr
  rw [rob_e a]; exact c
theorem cm_yes (hv : gInv g gh R AR I0 AI0) (hx : xS g gh R AR x pA bA nA) (hD : xD gh AR bA nA) (hh : 0 ≤ (I x 14).toInt ∧ (I x 14).toInt ≤ 7) (hn : 0 ≤ tbs ∧ tbs ≤ (nr : Int) ∧ nr ≤ 16) (fN : nIf gh AR nA I I1) (fM : nAf gh AR nA AI AI1)
    (r1 : ∀ b j, b ≠ x ∨ (j ≠ 14 ∧ j ≠ 15) → b ≠ rob AR (gh 36 0) (I1 x 14).toInt.toNat → I2 b j = I1 b j) (r2 : ∀ b, b ≠ gh 0 (rob AR (gh 36 0) (I1 x 14).toInt.toNat) → AI2 b = AI1 b)
    (r3 : (I2 x 14).toInt = ((I1 x 14).toInt + 1) % 8 ∧ ((I1 x 15).toInt < 8 → (I2 x 15).toInt = (I1 x 15).toInt + 1) ∧ ((I1 x 15).toInt = 8 → (I2 x 15).toInt = 8)) (r4 : (I2 (rob AR (gh 36 0) (I1 x 14).toInt.toNat) 3).toInt = (nb : Int) ∧ rwA (AI2 (gh 0 (rob AR (gh 36 0) (I1 x 14).toInt.toNat))) (AI1 (gh 0 (gh 37 0))) nb)
    (d3 : ∀ b j, b ≠ x ∨ j ≠ 16 → I3 b j = I2 b j) (d4 : I3 x 16 = I2 x 16 + 1) (t1 : ∀ b, (∀ r, r < 16 → rob AR (gh 35 0) r ≠ b) → I4 b = I3 b) (t2 : ∀ b, (∀ r, r < 16 → gh 0 (rob AR (gh 35 0) r) ≠ b) → AI4 b = AI2 b) (t3 : ∀ r, r < nr → mvQ gh AR I3 AI2 bA nA I4 AI4 r)
    (b5 : ∀ b j, b ≠ gh 37 0 ∨ j ≠ 3 → I5 b j = I4 b j) (zs : z = smL (lnR AR I4 (gh 35 0)) tbs.toNat (nr - tbs.toNat)) : cmY gh AR x bA nA nr tbs I AI nb (rfC gh AR I1 AI1 nA) z I5 AI4 := by
  have hb := hx.2.2.2.2.1
  have hnn := hx.2.2.2.2.2.2
  have h35 := (gR_x7 hv hx.1).2
  have h36 := (gR_x13 hv hx.1).2
  have h39 := (gR_x10 hv hx.1).2
  have h37 := (gR_x8 hv hx.1).2
  have eX : I1 x = I x := fN x (gO_ne hx.1 h39.1 (by decide)) (fun r hr => (gO_ne hx.1 (isRA_o hnn hr).2.1 (by decide)).symm)
  have e37A : AI1 (gh 0 (gh 37 0)) = AI (gh 0 (gh 37 0)) := nAf_o fM hv hx.1 h37.1 hnn (fun e => by have q := h37.2.2; rw [e, h39.2.2] at q; exact absurd q (by decide)) (fun r hr => isRA_37 hnn hr)
  rw [eX] at r1 r2 r3 r4
  rw [e37A] at r4
  -- an array of rows of four: what reckonNext left stays until it is taken
  have stay : ∀ {b lim}, isRA g gh AR b 16 lim 4 → ∀ r, r < 16 → rfC gh AR I3 AI2 b r = rfC gh AR I1 AI1 b r := fun {b lim} h r hr => by
    have o := isRA_o h hr
    have nh : rob AR b r ≠ rob AR (gh 36 0) (I x 14).toInt.toNat := ra_ne h h36 (Or.inr (by decide)) hr (by omega)
    have nx : rob AR b r ≠ x := gO_ne o.2.1 hx.1 (by decide)
    unfold rfC
    rw [d3 _ 3 (Or.inl nx), r1 _ 3 (Or.inl nx) nh, r2 _ (cells_ne hv (isRA_o h36 (by omega)).2.1 o.2.1 nh)]
  have five : ∀ b, b ≠ gh 37 0 → I5 b = I4 b := fun b h => funext fun j => b5 b j (Or.inl h)
  have take : ∀ {b lim}, isRA g gh AR b 16 lim 4 → lim ≠ 240 → ∀ r, r < 16 → rfC gh AR I5 AI4 b r = rfC gh AR I3 AI2 b r := fun {b lim} h hl r hr => by
    have o := isRA_o h hr
    have nm : ∀ q, q < 16 → rob AR (gh 35 0) q ≠ rob AR b r := fun q hq => ra_ne h35 h (Or.inl (fun e => hl e.symm)) hq hr
    unfold rfC
    rw [five _ (isRA_37 h hr), t1 _ nm, t2 _ (fun q hq => cells_ne hv o.2.1 (isRA_o h35 hq).2.1 (nm q hq))]
  have x5 : ∀ j, I5 x j = I3 x j := fun j => by
    rw [b5 x j (Or.inl (gO_ne hx.1 h37.1 (by decide))), t1 x (fun r hr => gO_ne (isRA_o h35 hr).2.1 hx.1 (by decide))]
  have hist : ∀ k, k < 8 → I5 (rob AR (gh 36 0) k) 3 = I2 (rob AR (gh 36 0) k) 3 ∧ AI4 (gh 0 (rob AR (gh 36 0) k)) = AI2 (gh 0 (rob AR (gh 36 0) k)) := fun k hk => by
    have o := isRA_o h36 hk
    have nm : ∀ q, q < 16 → rob AR (gh 35 0) q ≠ rob AR (gh 36 0) k := fun q hq => ra_ne h35 h36 (Or.inl (by decide)) hq hk
    rw [five _ (isRA_37 h36 hk), t1 _ nm, t2 _ (fun q hq => cells_ne hv o.2.1 (isRA_o h35 hq).2.1 (nm q hq)), d3 _ 3 (Or.inl (gO_ne o.2.1 hx.1 (by decide)))]
    exact ⟨rfl, rfl⟩
  have bags := cmS_n hv hx hD fN fM
  refine ⟨fun r hr => (take hnn (by decide) r (by omega)).trans (stay hnn r (by omega)), fun r hr => ?_, fun k hk hne => ?_, ?_, ?_, ?_, ?_, ?_⟩
  · have q := (t3 r hr).1
    have en := stay hnn r (by omega)
    have eb := (stay hb r (by omega)).trans (bags.1 r (by omega))
    have em : rfC gh AR I5 AI4 (gh 35 0) r = rfC gh AR I4 AI4 (gh 35 0) r := by unfold rfC; rw [five _ (isRA_37 h35 (by omega))]
    rw [em, ← en, ← eb]
    exact q
  · have q := hist k hk
    have nh : rob AR (gh 36 0) k ≠ rob AR (gh 36 0) (I x 14).toInt.toNat := fun e => hne (hD.2.2.2.2.1 k _ hk (by omega) e)
    have o := isRA_o h36 hk
    have q2 := bags.2.2 k hk
    rw [← q2]
    unfold rfC
    rw [q.1, q.2, r1 _ 3 (Or.inl (gO_ne o.2.1 hx.1 (by decide))) nh, r2 _ (cells_ne hv (isRA_o h36 (by omega)).2.1 o.2.1 nh)]
  · have q := hist (I x 14).toInt.toNat (by omega)
    unfold rfC
    rw [q.1, q.2]
    exact ⟨by have := r4.1; omega, r4.2⟩
  · rw [x5, x5, d3 x 14 (Or.inr (by decide)), d3 x 15 (Or.inr (by decide))]; exact r3
  · rw [x5, d4, r1 x 16 (Or.inr (by decide)) (gO_ne hx.1 (isRA_o h36 (show (I x 14).toInt.toNat < 8 by omega)).2.1 (by decide)), eX]
  · rw [x5, d3 x 17 (Or.inr (by decide)), r1 x 17 (Or.inr (by decide)) (gO_ne hx.1 (isRA_o h36 (show (I x 14).toInt.toNat < 8 by omega)).2.1 (by decide)), eX]
  · rw [zs]
    refine smL_c _ (fun r h1 h2 => ?_)
    unfold lnR
    rw [five _ (isRA_37 h35 (by omega))]
theorem cm_no (hv : gInv g gh R AR I0 AI0) (hx : xS g gh R AR x pA bA nA) (hD : xD gh AR bA nA) (fN : nIf gh AR nA I I1) (fM : nAf gh AR nA AI AI1)
    (d3 : ∀ b j, b ≠ x ∨ j ≠ 17 → I3 b j = I1 b j) (d4 : I3 x 17 = I1 x 17 + 1) (b5 : ∀ b j, b ≠ gh 37 0 ∨ j ≠ 3 → I5 b j = I3 b j) : cmS gh AR x bA I AI I5 AI1 ∧ I5 x 14 = I x 14 ∧ I5 x 15 = I x 15 ∧ I5 x 16 = I x 16 ∧ I5 x 17 = I x 17 + 1 := by
  have hb := hx.2.2.2.2.1
  have hnn := hx.2.2.2.2.2.2
  have h35 := (gR_x7 hv hx.1).2
  have h36 := (gR_x13 hv hx.1).2
  have h39 := (gR_x10 hv hx.1).2
  have h37 := (gR_x8 hv hx.1).2
  have eX : I1 x = I x := fN x (gO_ne hx.1 h39.1 (by decide)) (fun r hr => (gO_ne hx.1 (isRA_o hnn hr).2.1 (by decide)).symm)
  have bags := cmS_n hv hx hD fN fM
  have same : ∀ {b n lim key}, isRA g gh AR b n lim key → ∀ r, r < n → rfC gh AR I5 AI1 b r = rfC gh AR I1 AI1 b r := fun {b n lim key} h r hr => by
    have o := isRA_o h hr
    unfold rfC
    rw [b5 _ 3 (Or.inl (isRA_37 h hr)), d3 _ 3 (Or.inl (gO_ne o.2.1 hx.1 (by decide)))]
  have x5 : ∀ j, I5 x j = I3 x j := fun j => b5 x j (Or.inl (gO_ne hx.1 h37.1 (by decide)))
  refine ⟨⟨fun r hr => (same hb r hr).trans (bags.1 r hr), fun r hr => (same h35 r hr).trans (bags.2.1 r hr), fun r hr => (same h36 r hr).trans (bags.2.2 r hr)⟩, ?_, ?_, ?_, ?_⟩
  · rw [x5, d3 x 14 (Or.inr (by decide)), eX]
  · rw [x5, d3 x 15 (Or.inr (by decide)), eX]
  · rw [x5, d3 x 16 (Or.inr (by decide)), eX]
  · rw [x5, d4, eX]
end CM
end
section
/-! the reference: where a tuple comes -/
theorem ry6_n {f : Nat → Int32} {k : Int} (h : 0 ≤ k) : rk f (6 * k) = ry6 f k.toNat := by
  unfold ry6; rw [show 6 * k = 6 * ((k.toNat : Nat) : Int) by omega]
section Ref
variable {f f' : Nat → Int32} {n k : Nat} {t : Tup} {c m : Int32}
def loW (f : Nat → Int32) (n k : Nat) (t : Tup) : Prop := k ≤ n ∧ (∀ i, i < k → tc (tup f i) t = -1) ∧ ∀ i, k ≤ i → i < n → tc (tup f i) t ≠ -1
theorem lo_of (hs : srtB f n) (hk : k ≤ n) (a : 0 < k → tc (tup f (k - 1)) t = -1) (b : k < n → tc (tup f k) t ≠ -1) : loW f n k t := by
  refine ⟨hk, fun i hi => ?_, fun i hi hn e => ?_⟩
  · have q := a (by omega)
    by_cases w : i = k - 1
    · rw [w]; exact q
    · exact tc_t (b := tup f (k - 1)) (by rw [hs i (k - 1) (by omega) (by omega)]; decide) (by rw [q]; decide) (Or.inl (by rw [hs i (k - 1) (by omega) (by omega)]; decide))
  · by_cases w : i = k
    · rw [w] at e; exact b (by omega) e
    · have q := hs k i (by omega) hn
      exact b (by omega) (tc_t (b := tup f i) (by rw [q]; decide) (by rw [e]; decide) (Or.inl (by rw [q]; decide)))
theorem lo_at (hs : srtB f n) (h : loW f n k t) (hk : k < n → tc (tup f k) t ≠ 0) : atW f n k t := by
  refine ⟨h.1, h.2.1, fun i hi hn => ?_⟩
  have q1 := h.2.2 k (Nat.le_refl _) (by omega)
  have q2 := hk (by omega)
  have q3 : tc (tup f k) t = 1 := by
    rcases tc_r (a := tup f k) (b := t) with e | e | e
    · exact absurd e q1
    · exact absurd e q2
    · exact e
  by_cases w : i = k
  · rw [w]; exact q3
  · have a : tc t (tup f k) = -1 := by rw [tc_s, q3]
    have b := hs k i (by omega) hn
    have d := tc_t (a := t) (b := tup f k) (c := tup f i) (by rw [a]; decide) (by rw [b]; decide) (Or.inl (by rw [a]; decide))
    rw [tc_s, d]; rfl
/-- rows moved up by one, a row written -/
def shW (f f' : Nat → Int32) (n : Nat) (i : Int) : Prop := (∀ j : Nat, (j : Int) ≤ i + 6 → f' j = f j) ∧ ∀ j : Nat, i < (j : Int) → j < 6 * n → f' (j + 6) = f j
theorem shW_0 : shW f f n (6 * (n : Int) - 1) := ⟨fun _ _ => rfl, fun j h h2 => absurd h (by omega)⟩
theorem shW_s {f'' : Nat → Int32} {i : Int} (h : shW f f' n i) (h0 : 0 ≤ i) (e : ∀ j : Nat, j ≠ (i + 6).toNat → f'' j = f' j) (e' : f'' (i + 6).toNat = f' i.toNat) : shW f f'' n (i - 1) := by
  refine ⟨fun j hj => by rw [e j (by omega)]; exact h.1 j (by omega), fun j hj hn => ?_⟩
  by_cases w : (j : Int) = i
  · rw [show j + 6 = (i + 6).toNat by omega, e', show i.toNat = j by omega]; exact h.1 j (by omega)
  · rw [e _ (by omega)]; exact h.2 j (by omega) hn
def wrW (f f' : Nat → Int32) (k n : Nat) (t : Tup) (i : Int) : Prop := (∀ j : Nat, j < 6 * k → f' j = f j) ∧ (∀ j : Nat, (j : Int) < i → f' (6 * k + j) = tg t j) ∧ ∀ j : Nat, 6 * k ≤ j → j < 6 * n → f' (j + 6) = f j
theorem wrW_0 {i : Int} (h : shW f f' n i) (hi : i = 6 * (k : Int) - 1) : wrW f f' k n t 0 := ⟨fun j hj => h.1 j (by omega), fun j hj => absurd hj (by omega), fun j hj hn => h.2 j (by omega) hn⟩
theorem wrW_s {f'' : Nat → Int32} {i : Int} (h : wrW f f' k n t i) (h0 : 0 ≤ i ∧ i < 4) (e : ∀ j : Nat, j ≠ 6 * k + i.toNat → f'' j = f' j) (e' : f'' (6 * k + i.toNat) = tg t i.toNat) : wrW f f'' k n t (i + 1) := by
  refine ⟨fun j hj => by rw [e j (by omega)]; exact h.1 j hj, fun j hj => ?_, fun j hj hn => by rw [e _ (by omega)]; exact h.2.2 j hj hn⟩
  by_cases w : j = i.toNat
  · rw [w]; exact e'
  · rw [e _ (by omega)]; exact h.2.1 j (by omega)
theorem wrW_e {f1 f2 : Nat → Int32} {i : Int} (h : wrW f f' k n t i) (hi : 4 ≤ i) (e1 : ∀ j, j ≠ 6 * k + 4 → f1 j = f' j) (e1' : f1 (6 * k + 4) = c) (e2 : ∀ j, j ≠ 6 * k + 5 → f2 j = f1 j) (e2' : f2 (6 * k + 5) = m) : insW f f2 k n t c m := by
  refine ⟨fun r hr j hj => by rw [e2 _ (by omega), e1 _ (by omega)]; exact h.1 _ (by omega), ⟨tg_x (fun j hj => ?_), by rw [e2 _ (by omega)]; exact e1', e2'⟩, fun r hr hn j hj => ?_⟩
  · rw [tg_up j hj, e2 _ (by omega), e1 _ (by omega)]; exact h.2.1 j (by omega)
  · rw [show 6 * (r + 1) + j = 6 * r + j + 6 by omega, e2 _ (by omega), e1 _ (by omega)]; exact h.2.2 _ (by omega) (by omega)
end Ref
end
section
def rmX7_placeOff : Room := { frames := 1, cells := 0, slots := 0, locals := 24 }
set_option maxHeartbeats 4000000 in
set_option maxRecDepth 100000 in
/-- the place of the tuple -/
theorem c_X7_placeOff (l : Launch) (g : gG) (gh : gGh) (T : Nat → Int32) (n : Nat) (P : Tup → Prop) (S M : Tup → Int32) (t : Tup) (I : gI) (R : gR) (J : gJ) (AI : gI) (AJ : gJ) (AR : gR) (mo : Nat) (hv : mInv g gh R I AI) (hm : gO g mo 7) (hT : AI (gh 50 0) = T) (hw : isW (AI (gh 75 0)) n P S M) (hn : (I mo 26).toInt = (n : Int)) (ht : ∀ j, j < 4 → (AI (gh 77 0)) j = tg t j) : gMet l g yX7_placeOf tsX7_placeOf rmX7_placeOff [.ref mo] (I, R, J, AI, AJ, AR) (gQi g (fun (z : Int) (w : gS) => I = w.1 ∧ R = w.2.1 ∧ J = w.2.2.1 ∧ AI = w.2.2.2.1 ∧ AJ = w.2.2.2.2.1 ∧ AR = w.2.2.2.2.2 ∧ (0 ≤ z ∧ z ≤ (I mo 26).toInt) ∧ (loW (AI (gh 75 0)) n z.toNat t))) := by
  refine gStart (cc := cX7_placeOf) (maxL := 4) (ret := (some (.int))) (by decide) rfl (Nat.le_of_ble_eq_true rfl) ?_
  intro p e s m below meth c ls F hr hlk hH hz hS hl
  have hl : lv_has ls 4 [(0, .ref mo)] := hl
  have hS : va_S (gA g) s.heap s.heap [] := hS
  obtain ⟨H, hHe⟩ : ∃ H : Heap, H = s.heap := ⟨_, rfl⟩
  obtain ⟨locs, hlo⟩ : ∃ k : List Loc, k = [] := ⟨_, rfl⟩
  have hH : gH g I R J AI AJ AR H := by rw [hHe]; exact hH
  have hS : va_S (gA g) s.heap H locs := by rw [hHe, hlo]; exact hS
  suffices hw : W p l e rmX7_placeOff s m ([.ref mo] : List Value).toArray below meth c H locs 0 0 (MQ below (gQi g (fun (z : Int) (w : gS) => I = w.1 ∧ R = w.2.1 ∧ J = w.2.2.1 ∧ AI = w.2.2.2.1 ∧ AJ = w.2.2.2.2.1 ∧ AR = w.2.2.2.2.2 ∧ (0 ≤ z ∧ z ≤ (I mo 26).toInt) ∧ (loW (AI (gh 75 0)) n z.toNat t))) ([.ref mo] : List Value).toArray s 0 0 (gA g)) (F0 m 0 ls []) by
    rw [hHe, hlo] at hw; exact hw
  clear hHe hlo
  have iX7 : ∀ w ∈ u_ws RX7 TX7 32, w ∈ tsX7_placeOf := fun w h => List.mem_cons_of_mem _ (inTB7 w h)
  have k269 : Cond.fieldLink RX7 269 (TX7 26).1 (TX7 26).2.1 (TX7 26).2.2.1 ∈ tsX7_placeOf := List.mem_cons_of_mem _ fl_269
  have k42 : Cond.fieldLink RX7 42 (TX7 25).1 (TX7 25).2.1 (TX7 25).2.2.1 ∈ tsX7_placeOf := List.mem_cons_of_mem _ fl_42
  have k45 : Cond.fieldLink RX7 45 (TX7 27).1 (TX7 27).2.1 (TX7 27).2.2.1 ∈ tsX7_placeOf := List.mem_cons_of_mem _ fl_45
  refine z_iconst F dX7_placeOf_0 ?_
  refine lv_istore_n (lv' := [(1, .int (iI 0)), (0, .ref mo)]) F.1 F.2.1 dX7_placeOf_1 rfl hl (by decide) rfl (fun ls hl => ?_)
  refine lv_aload_n F.1 F.2.1 dX7_placeOf_2 rfl (lv_at hl 1 rfl) ?_
  refine g_getI (ci := 7) (k := 26) F hH rfl (by decide) iX7 hm (by decide) rfl k269 dX7_placeOf_3 ?_
  have b_1 := mJ hv hm
  unfold mNum1 at b_1
  refine lv_istore_n (lv' := [(2, .int (iI ((I mo 26).toInt))), (1, .int (iI 0)), (0, .ref mo)]) F.1 F.2.1 dX7_placeOf_6 rfl hl (by decide) rfl (fun ls hl => ?_)
  have cut_7_1 : ∀ (NN : Nat) (lo hi : Int) (H : Heap) (locs : List Loc) (ls : Array Slot), zr lo → zr hi → (0 ≤ lo ∧ lo ≤ hi ∧ hi ≤ (I mo 26).toInt) → ((0 < lo → tc (tup (AI (gh 75 0)) (lo - 1).toNat) t = -1) ∧ (hi < (n : Int) → tc (tup (AI (gh 75 0)) hi.toNat) t ≠ -1)) → (hi - lo) < ((NN : Nat) : Int) → gH g I R J AI AJ AR H → va_S (gA g) s.heap H locs → lv_has ls 4 [(2, .int (iI hi)), (1, .int (iI lo)), (0, .ref mo)] → W p l e rmX7_placeOff s m ([.ref mo] : List Value).toArray below meth c H locs 0 0 (MQ below (gQi g (fun (z : Int) (w : gS) => I = w.1 ∧ R = w.2.1 ∧ J = w.2.2.1 ∧ AI = w.2.2.2.1 ∧ AJ = w.2.2.2.2.1 ∧ AR = w.2.2.2.2.2 ∧ (0 ≤ z ∧ z ≤ (I mo 26).toInt) ∧ (loW (AI (gh 75 0)) n z.toNat t))) ([.ref mo] : List Value).toArray s 0 0 (gA g)) (F0 m 7 ls []) := by
    intro NN7
    induction NN7 with
    | zero =>
      intro lo hi H locs ls zlo zhi hh hlh hm7 hH hS hl
      exact absurd hm7 (by omega)
    | succ NN7 ih7 =>
      intro lo hi H locs ls zlo zhi hh hlh hm7 hH hS hl
      refine lv_iload_n F.1 F.2.1 dX7_placeOf_7 rfl (lv_at hl 1 rfl) ?_
      refine lv_iload_n F.1 F.2.1 dX7_placeOf_8 rfl (lv_at hl 0 rfl) ?_
      refine z_icmp_ge (tgt := 49) F dX7_placeOf_9 (by decide) zlo zhi (fun c_3 => ?_) (fun c_3 => ?_)
      · refine lv_iload_n F.1 F.2.1 dX7_placeOf_49 rfl (lv_at hl 1 rfl) ?_
        exact g_iret F hr hlk hH hS hz zlo ⟨rfl, rfl, rfl, rfl, rfl, rfl, by first | omega | rfl | (dsimp only; omega), lo_of hw.1 (by omega) (fun h9 => by have q9 := hlh.1 (by omega); rwa [show (lo - 1).toNat = lo.toNat - 1 by omega] at q9) (fun h9 => by have q9 := hlh.2 (by omega); rwa [show hi.toNat = lo.toNat by omega] at q9)⟩ dX7_placeOf_50
      · refine lv_iload_n F.1 F.2.1 dX7_placeOf_12 rfl (lv_at hl 1 rfl) ?_
        refine lv_iload_n F.1 F.2.1 dX7_placeOf_13 rfl (lv_at hl 0 rfl) ?_
        refine z_iadd F dX7_placeOf_14 ?_
        refine z_iconst F dX7_placeOf_15 ?_
        refine z_idiv F (by omega) (by omega) (by omega) (by omega) dX7_placeOf_16 ?_
        refine lv_istore_n (lv' := [(3, .int (iI ((lo + hi) / 2))), (2, .int (iI hi)), (1, .int (iI lo)), (0, .ref mo)]) F.1 F.2.1 dX7_placeOf_17 rfl hl (by decide) rfl (fun ls hl => ?_)
        refine lv_aload_n F.1 F.2.1 dX7_placeOf_18 rfl (lv_at hl 3 rfl) ?_
        obtain ⟨r_4a, r_4b⟩ : R mo 25 = some (gh 75 0) ∧ gAr g (gh 75 0) 9 9600 := mR hv hm (q := (25, 9600)) (by decide)
        refine g_getR (ci := 7) (k := 25) F hH rfl (by decide) iX7 hm (by decide) rfl (b := gh 75 0) r_4a k42 dX7_placeOf_19 ?_
        refine z_bipush F dX7_placeOf_22 (by decide) ?_
        refine lv_iload_n F.1 F.2.1 dX7_placeOf_24 rfl (lv_at hl 0 rfl) ?_
        refine z_imul F dX7_placeOf_25 ?_
        refine lv_aload_n F.1 F.2.1 dX7_placeOf_26 rfl (lv_at hl 3 rfl) ?_
        obtain ⟨r_5a, r_5b⟩ : R mo 27 = some (gh 77 0) ∧ gAr g (gh 77 0) 9 4 := mR hv hm (q := (27, 4)) (by decide)
        refine g_getR (ci := 7) (k := 27) F hH rfl (by decide) iX7 hm (by decide) rfl (b := gh 77 0) r_5a k45 dX7_placeOf_27 ?_
        refine z_iconst F dX7_placeOf_30 ?_
        refine g_calli (g_runS (As := [.ref (gh 75 0), .int (iI (6 * ((lo + hi) / 2))), .ref (gh 77 0), .int (iI 0)]) (rest := []) F hl.1 hH hS hz (c_X7_comparef l g 9600 4 I R J AI AJ AR (gh 75 0) (6 * ((lo + hi) / 2)) (gh 77 0) 0 ⟨by omega, by omega⟩ ⟨by decide, by decide⟩ r_4b r_5b (by omega) (by omega) (by omega) (by omega)) (va_cwS 4 F.2.2.2.2.1 (good_up gT_X7_compare) rfl rfl rfl hdX7_compare.2 ⟨Nat.le_of_ble_eq_true rfl, Nat.le_of_ble_eq_true rfl⟩) rfl rfl (Nat.le_of_ble_eq_true rfl) dX7_placeOf_31 ⟨Nat.zero_le _, Nat.zero_le _⟩) hS (fun v_12 I_6 R_7 J_8 AI_9 AJ_10 AR_11 H locs zv_12 hp_13 hH hS => ?_)
        dsimp only at hp_13
        obtain ⟨rfl, rfl, rfl, rfl, rfl, rfl, q_14, qc⟩ := hp_13
        have qk : v_12 = tc (tup (AI (gh 75 0)) ((lo + hi) / 2).toNat) t := by rw [qc, ry6_n (by omega)]; exact tc_kv (key_tu ht)
        refine z_if_ge (tgt := 44) F dX7_placeOf_34 (by decide) zv_12 (fun c_15 => ?_) (fun c_15 => ?_)
        · refine lv_iload_n F.1 F.2.1 dX7_placeOf_44 rfl (lv_at hl 0 rfl) ?_
          refine lv_istore_n (lv' := [(2, .int (iI ((lo + hi) / 2))), (3, .int (iI ((lo + hi) / 2))), (1, .int (iI lo)), (0, .ref mo)]) F.1 F.2.1 dX7_placeOf_45 rfl hl (by decide) rfl (fun ls hl => ?_)
          refine z_goto (tgt := 7) F dX7_placeOf_46 (by decide) ?_
          exact ih7 lo ((lo + hi) / 2) H locs ls zlo ⟨by omega, by omega⟩ (by omega) (by first | exact ⟨fun _ => by rw [show ((lo + hi) / 2 + 1 - 1).toNat = ((lo + hi) / 2).toNat by omega, ← qk]; rcases @tc_r (tup (AI (gh 75 0)) ((lo + hi) / 2).toNat) t with h9 | h9 | h9 <;> omega, hlh.2⟩ | exact ⟨hlh.1, fun _ h9 => by omega⟩) (by omega) hH hS (lv_sub hl [0, 2, 3] rfl)
        · refine lv_iload_n F.1 F.2.1 dX7_placeOf_37 rfl (lv_at hl 0 rfl) ?_
          refine z_iconst F dX7_placeOf_38 ?_
          refine z_iadd F dX7_placeOf_39 ?_
          refine lv_istore_n (lv' := [(1, .int (iI (((lo + hi) / 2) + 1))), (3, .int (iI ((lo + hi) / 2))), (2, .int (iI hi)), (0, .ref mo)]) F.1 F.2.1 dX7_placeOf_40 rfl hl (by decide) rfl (fun ls hl => ?_)
          refine z_goto (tgt := 46) F dX7_placeOf_41 (by decide) ?_
          refine z_goto (tgt := 7) F dX7_placeOf_46 (by decide) ?_
          exact ih7 (((lo + hi) / 2) + 1) hi H locs ls ⟨by omega, by omega⟩ zhi (by omega) (by first | exact ⟨fun _ => by rw [show ((lo + hi) / 2 + 1 - 1).toNat = ((lo + hi) / 2).toNat by omega, ← qk]; rcases @tc_r (tup (AI (gh 75 0)) ((lo + hi) / 2).toNat) t with h9 | h9 | h9 <;> omega, hlh.2⟩ | exact ⟨hlh.1, fun _ h9 => by omega⟩) (by omega) hH hS (lv_sub hl [2, 0, 3] rfl)
  exact cut_7_1 (((((I mo 26).toInt) - 0) + 1 : Int).toNat) 0 ((I mo 26).toInt) H locs ls ⟨by decide, by decide⟩ (zr_t _) (by omega) ⟨fun h9 => absurd h9 (by omega), fun h9 => absurd h9 (by omega)⟩ (by omega) hH hS (lv_sub hl [0, 1, 2] rfl)
end
section
def rmX7_gathersf : Room := { frames := 2, cells := 0, slots := 0, locals := 47 }
set_option maxHeartbeats 4000000 in
set_option maxRecDepth 100000 in
/-- a tuple comes -/
theorem c_X7_gathersf (l : Launch) (g : gG) (gh : gGh) (T : Nat → Int32) (n : Nat) (P : Tup → Prop) (S M : Tup → Int32) (t : Tup) (I : gI) (R : gR) (J : gJ) (AI : gI) (AJ : gJ) (AR : gR) (mo : Nat) (cn : Int) (rd : Int) (zcn : zr cn) (zrd : zr rd) (hv : mInv g gh R I AI) (hm : gO g mo 7) (hT : AI (gh 50 0) = T) (h0 : (I mo 26).toInt ≤ 1599) (hw : isW (AI (gh 75 0)) n P S M) (hn : (I mo 26).toInt = (n : Int)) (ht : ∀ j, j < 4 → (AI (gh 77 0)) j = tg t j) : gMet l g yX7_gathers tsX7_gathers rmX7_gathersf [.ref mo, .int (iI cn), .int (iI rd)] (I, R, J, AI, AJ, AR) (gQi g (fun (z : Int) (w : gS) => R = w.2.1 ∧ J = w.2.2.1 ∧ AJ = w.2.2.2.2.1 ∧ AR = w.2.2.2.2.2 ∧ (mInv g gh R (w.1) (w.2.2.2.1)) ∧ ((w.2.2.2.1) (gh 50 0) = T) ∧ (wF mo I (w.1)) ∧ ((z = 0 ∧ ((w.1) mo 26).toInt = (I mo 26).toInt) ∨ (z = 1 ∧ ((w.1) mo 26).toInt = (I mo 26).toInt + 1)) ∧ ((z = 0 ∧ P t ∧ ((w.1) mo 26).toInt = (n : Int) ∧ isW ((w.2.2.2.1) (gh 75 0)) n P (sAdd S t (iI cn)) M) ∨ (z = 1 ∧ ¬ P t ∧ ((w.1) mo 26).toInt = (n : Int) + 1 ∧ isW ((w.2.2.2.1) (gh 75 0)) (n + 1) (pAdd P t) (tUp S t (iI cn)) (tUp M t (iI rd)))) ∧ (∀ b, b ≠ gh 75 0 → (w.2.2.2.1) b = AI b))) := by
  refine gStart (cc := cX7_gathers) (maxL := 5) (ret := (some (.boolean))) (by decide) rfl (Nat.le_of_ble_eq_true rfl) ?_
  intro p e s m below meth c ls F hr hlk hH hz hS hl
  have hl : lv_has ls 5 [(0, .ref mo), (1, .int (iI cn)), (2, .int (iI rd))] := hl
  have hS : va_S (gA g) s.heap s.heap [] := hS
  obtain ⟨H, hHe⟩ : ∃ H : Heap, H = s.heap := ⟨_, rfl⟩
  obtain ⟨locs, hlo⟩ : ∃ k : List Loc, k = [] := ⟨_, rfl⟩
  have hH : gH g I R J AI AJ AR H := by rw [hHe]; exact hH
  have hS : va_S (gA g) s.heap H locs := by rw [hHe, hlo]; exact hS
  suffices hw : W p l e rmX7_gathersf s m ([.ref mo, .int (iI cn), .int (iI rd)] : List Value).toArray below meth c H locs 0 0 (MQ below (gQi g (fun (z : Int) (w : gS) => R = w.2.1 ∧ J = w.2.2.1 ∧ AJ = w.2.2.2.2.1 ∧ AR = w.2.2.2.2.2 ∧ (mInv g gh R (w.1) (w.2.2.2.1)) ∧ ((w.2.2.2.1) (gh 50 0) = T) ∧ (wF mo I (w.1)) ∧ ((z = 0 ∧ ((w.1) mo 26).toInt = (I mo 26).toInt) ∨ (z = 1 ∧ ((w.1) mo 26).toInt = (I mo 26).toInt + 1)) ∧ ((z = 0 ∧ P t ∧ ((w.1) mo 26).toInt = (n : Int) ∧ isW ((w.2.2.2.1) (gh 75 0)) n P (sAdd S t (iI cn)) M) ∨ (z = 1 ∧ ¬ P t ∧ ((w.1) mo 26).toInt = (n : Int) + 1 ∧ isW ((w.2.2.2.1) (gh 75 0)) (n + 1) (pAdd P t) (tUp S t (iI cn)) (tUp M t (iI rd)))) ∧ (∀ b, b ≠ gh 75 0 → (w.2.2.2.1) b = AI b))) ([.ref mo, .int (iI cn), .int (iI rd)] : List Value).toArray s 0 0 (gA g)) (F0 m 0 ls []) by
    rw [hHe, hlo] at hw; exact hw
  clear hHe hlo
  have wf : wF mo I I := wF_r
  have iX7 : ∀ w ∈ u_ws RX7 TX7 32, w ∈ tsX7_gathers := fun w h => List.mem_cons_of_mem _ (inTB7 w h)
  have k269 : Cond.fieldLink RX7 269 (TX7 26).1 (TX7 26).2.1 (TX7 26).2.2.1 ∈ tsX7_gathers := List.mem_cons_of_mem _ fl_269
  have k42 : Cond.fieldLink RX7 42 (TX7 25).1 (TX7 25).2.1 (TX7 25).2.2.1 ∈ tsX7_gathers := List.mem_cons_of_mem _ fl_42
  have k45 : Cond.fieldLink RX7 45 (TX7 27).1 (TX7 27).2.1 (TX7 27).2.2.1 ∈ tsX7_gathers := List.mem_cons_of_mem _ fl_45
  refine lv_aload_n F.1 F.2.1 dX7_gathers_0 rfl (lv_at hl 0 rfl) ?_
  have b_1 := mJ hv hm
  unfold mNum1 at b_1
  refine g_calli (g_runV (As := []) (rest := []) (ci := 7) F hl.1 hH hS hz (c_X7_placeOff l g gh T n P S M t I R J AI AJ AR mo hv hm hT hw (by omega) ht) (cwV 0 F.2.2.2.2.1 (good_up gT_X7_placeOf) rfl rfl rfl hdX7_placeOf ⟨Nat.le_of_ble_eq_true rfl, Nat.le_of_ble_eq_true rfl⟩) hm (by decide) rfl rfl rfl (Nat.le_of_ble_eq_true rfl) dX7_gathers_1 ⟨Nat.zero_le _, Nat.zero_le _⟩) hS (fun v_8 I_2 R_3 J_4 AI_5 AJ_6 AR_7 H locs zv_8 hp_9 hH hS => ?_)
  dsimp only at hp_9
  obtain ⟨rfl, rfl, rfl, rfl, rfl, rfl, q_10, qpl⟩ := hp_9
  refine lv_istore_n (lv' := [(3, .int (iI v_8)), (0, .ref mo), (1, .int (iI cn)), (2, .int (iI rd))]) F.1 F.2.1 dX7_gathers_4 rfl hl (by decide) rfl (fun ls hl => ?_)
  refine lv_iload_n F.1 F.2.1 dX7_gathers_5 rfl (lv_at hl 0 rfl) ?_
  refine lv_aload_n F.1 F.2.1 dX7_gathers_6 rfl (lv_at hl 1 rfl) ?_
  refine g_getI (ci := 7) (k := 26) F hH rfl (by decide) iX7 hm (by decide) rfl k269 dX7_gathers_7 ?_
  refine z_icmp_ge (tgt := 49) F dX7_gathers_10 (by decide) zv_8 (zr_t _) (fun c_11 => ?_) (fun c_11 => ?_)
  · have hat := lo_at hw.1 qpl (fun h9 => by first | omega | (intro h8; omega))
    have fW : ∀ b, b ≠ gh 75 0 → AI b = AI b := fun _ _ => rfl
    refine z_bipush F dX7_gathers_49 (by decide) ?_
    refine lv_aload_n F.1 F.2.1 dX7_gathers_51 rfl (lv_at hl 1 rfl) ?_
    refine g_getI (ci := 7) (k := 26) F hH rfl (by decide) iX7 hm (by decide) rfl k269 dX7_gathers_52 ?_
    refine z_imul F dX7_gathers_55 ?_
    refine z_iconst F dX7_gathers_56 ?_
    refine z_isub F dX7_gathers_57 ?_
    refine lv_istore (lv' := [(4, .int (iI ((6 * ((I mo 26).toInt)) - 1))), (3, .int (iI v_8)), (0, .ref mo), (1, .int (iI cn)), (2, .int (iI rd))]) F.1 F.2.1 dX7_gathers_58 hl (by decide) rfl (fun ls hl => ?_)
    have cut_60_12 : ∀ (NN : Nat) (i : Int) (AI_12 : gI) (H : Heap) (locs : List Loc) (ls : Array Slot), zr i → (mInv g gh R I AI_12) → (AI_12 (gh 50 0) = T) → (6 * v_8 - 1 ≤ i ∧ i ≤ 6 * (I mo 26).toInt - 1) → (∀ b, b ≠ gh 75 0 → AI_12 b = AI b) → (shW (AI (gh 75 0)) (AI_12 (gh 75 0)) n i) → (i + 1) < ((NN : Nat) : Int) → gH g I R J AI_12 AJ AR H → va_S (gA g) s.heap H locs → lv_has ls 5 [(4, .int (iI i)), (3, .int (iI v_8)), (0, .ref mo), (1, .int (iI cn)), (2, .int (iI rd))] → W p l e rmX7_gathersf s m ([.ref mo, .int (iI cn), .int (iI rd)] : List Value).toArray below meth c H locs 0 0 (MQ below (gQi g (fun (z : Int) (w : gS) => R = w.2.1 ∧ J = w.2.2.1 ∧ AJ = w.2.2.2.2.1 ∧ AR = w.2.2.2.2.2 ∧ (mInv g gh R (w.1) (w.2.2.2.1)) ∧ ((w.2.2.2.1) (gh 50 0) = T) ∧ (wF mo I (w.1)) ∧ ((z = 0 ∧ ((w.1) mo 26).toInt = (I mo 26).toInt) ∨ (z = 1 ∧ ((w.1) mo 26).toInt = (I mo 26).toInt + 1)) ∧ ((z = 0 ∧ P t ∧ ((w.1) mo 26).toInt = (n : Int) ∧ isW ((w.2.2.2.1) (gh 75 0)) n P (sAdd S t (iI cn)) M) ∨ (z = 1 ∧ ¬ P t ∧ ((w.1) mo 26).toInt = (n : Int) + 1 ∧ isW ((w.2.2.2.1) (gh 75 0)) (n + 1) (pAdd P t) (tUp S t (iI cn)) (tUp M t (iI rd)))) ∧ (∀ b, b ≠ gh 75 0 → (w.2.2.2.1) b = AI b))) ([.ref mo, .int (iI cn), .int (iI rd)] : List Value).toArray s 0 0 (gA g)) (F0 m 60 ls []) := by
      intro NN60
      induction NN60 with
      | zero =>
        intro i AI_12 H locs ls zi hv hT hi fW hsh hm60 hH hS hl
        exact absurd hm60 (by omega)
      | succ NN60 ih60 =>
        intro i AI_12 H locs ls zi hv hT hi fW hsh hm60 hH hS hl
        refine lv_iload F.1 F.2.1 dX7_gathers_60 (lv_at hl 0 rfl) ?_
        refine z_bipush F dX7_gathers_62 (by decide) ?_
        refine lv_iload_n F.1 F.2.1 dX7_gathers_64 rfl (lv_at hl 1 rfl) ?_
        refine z_imul F dX7_gathers_65 ?_
        refine z_icmp_lt (tgt := 92) F dX7_gathers_66 (by decide) zi ⟨by omega, by omega⟩ (fun c_14 => ?_) (fun c_14 => ?_)
        · refine z_iconst F dX7_gathers_92 ?_
          refine lv_istore (lv' := [(4, .int (iI 0)), (3, .int (iI v_8)), (0, .ref mo), (1, .int (iI cn)), (2, .int (iI rd))]) F.1 F.2.1 dX7_gathers_93 hl (by decide) rfl (fun ls hl => ?_)
          have cut_95_15 : ∀ (NN : Nat) (i : Int) (AI_15 : gI) (H : Heap) (locs : List Loc) (ls : Array Slot), zr i → (mInv g gh R I AI_15) → (AI_15 (gh 50 0) = T) → (0 ≤ i ∧ i ≤ 4) → (∀ b, b ≠ gh 75 0 → AI_15 b = AI b) → (wrW (AI (gh 75 0)) (AI_15 (gh 75 0)) v_8.toNat n t i) → (4 - i) < ((NN : Nat) : Int) → gH g I R J AI_15 AJ AR H → va_S (gA g) s.heap H locs → lv_has ls 5 [(4, .int (iI i)), (3, .int (iI v_8)), (0, .ref mo), (1, .int (iI cn)), (2, .int (iI rd))] → W p l e rmX7_gathersf s m ([.ref mo, .int (iI cn), .int (iI rd)] : List Value).toArray below meth c H locs 0 0 (MQ below (gQi g (fun (z : Int) (w : gS) => R = w.2.1 ∧ J = w.2.2.1 ∧ AJ = w.2.2.2.2.1 ∧ AR = w.2.2.2.2.2 ∧ (mInv g gh R (w.1) (w.2.2.2.1)) ∧ ((w.2.2.2.1) (gh 50 0) = T) ∧ (wF mo I (w.1)) ∧ ((z = 0 ∧ ((w.1) mo 26).toInt = (I mo 26).toInt) ∨ (z = 1 ∧ ((w.1) mo 26).toInt = (I mo 26).toInt + 1)) ∧ ((z = 0 ∧ P t ∧ ((w.1) mo 26).toInt = (n : Int) ∧ isW ((w.2.2.2.1) (gh 75 0)) n P (sAdd S t (iI cn)) M) ∨ (z = 1 ∧ ¬ P t ∧ ((w.1) mo 26).toInt = (n : Int) + 1 ∧ isW ((w.2.2.2.1) (gh 75 0)) (n + 1) (pAdd P t) (tUp S t (iI cn)) (tUp M t (iI rd)))) ∧ (∀ b, b ≠ gh 75 0 → (w.2.2.2.1) b = AI b))) ([.ref mo, .int (iI cn), .int (iI rd)] : List Value).toArray s 0 0 (gA g)) (F0 m 95 ls []) := by
            intro NN95
            induction NN95 with
            | zero =>
              intro i AI_15 H locs ls zi hv hT hi2 fW hwr hm95 hH hS hl
              exact absurd hm95 (by omega)
            | succ NN95 ih95 =>
              intro i AI_15 H locs ls zi hv hT hi2 fW hwr hm95 hH hS hl
              refine lv_iload F.1 F.2.1 dX7_gathers_95 (lv_at hl 0 rfl) ?_
              refine z_iconst F dX7_gathers_97 ?_
              refine z_icmp_ge (tgt := 126) F dX7_gathers_98 (by decide) zi ⟨by decide, by decide⟩ (fun c_17 => ?_) (fun c_17 => ?_)
              · refine lv_aload_n F.1 F.2.1 dX7_gathers_126 rfl (lv_at hl 2 rfl) ?_
                obtain ⟨r_18a, r_18b⟩ : R mo 25 = some (gh 75 0) ∧ gAr g (gh 75 0) 9 9600 := mR hv hm (q := (25, 9600)) (by decide)
                refine g_getR (ci := 7) (k := 25) F hH rfl (by decide) iX7 hm (by decide) rfl (b := gh 75 0) r_18a k42 dX7_gathers_127 ?_
                refine z_bipush F dX7_gathers_130 (by decide) ?_
                refine lv_iload_n F.1 F.2.1 dX7_gathers_132 rfl (lv_at hl 1 rfl) ?_
                refine z_imul F dX7_gathers_133 ?_
                refine z_iconst F dX7_gathers_134 ?_
                refine z_iadd F dX7_gathers_135 ?_
                refine lv_iload_n F.1 F.2.1 dX7_gathers_136 rfl (lv_at hl 3 rfl) ?_
                have hx137 : 0 ≤ ((6 * v_8) + 4) ∧ ((6 * v_8) + 4) < ((9600 : Nat) : Int) ∧ ((6 * v_8) + 4) ≤ 2147483647 := ⟨by omega, by omega, by omega⟩
                refine g_iast F hH hS r_18b hx137.1 hx137.2.1 hx137.2.2 dX7_gathers_137 (fun H locs hH hS => ?_)
                obtain ⟨AI_19, eAI_19⟩ : ∃ qQ, qQ = gup2 AI_15 (gh 75 0) (((6 * v_8) + 4)).toNat (iI (cn)) := ⟨_, rfl⟩
                rw [← eAI_19] at hH
                have kAI_19 : ∀ b, b ≠ (gh 75 0) → AI_19 b = AI_15 b := fun b hb => by rw [eAI_19]; exact funext fun j => gup2_a _ _ hb
                have hvO := hv
                have t_20 : AI_19 (gh 50 0) = AI_15 (gh 50 0) := mK hv hm (p := (0, 640)) (q := (25, 9600)) (by decide) (by decide) (by decide) kAI_19
                have hv : mInv g gh R I AI_19 := mInv_a hv hm (q := (25, 9600)) (by decide) (by decide) kAI_19
                have hT : AI_19 (gh 50 0) = T := t_20.trans hT
                have fW : ∀ b, b ≠ gh 75 0 → AI_19 b = AI b := fun b hb => (kAI_19 b hb).trans (fW b hb)
                have w1 : ∀ j, j ≠ 6 * v_8.toNat + 4 → AI_19 (gh 75 0) j = AI_15 (gh 75 0) j := fun j hj => by rw [eAI_19, gup2_k _ _ (by omega)]
                have w1b : AI_19 (gh 75 0) (6 * v_8.toNat + 4) = iI cn := by rw [eAI_19, gup2_e _ _ (by omega)]
                refine lv_aload_n F.1 F.2.1 dX7_gathers_138 rfl (lv_at hl 2 rfl) ?_
                refine g_getR (ci := 7) (k := 25) F hH rfl (by decide) iX7 hm (by decide) rfl (b := gh 75 0) r_18a k42 dX7_gathers_139 ?_
                refine z_bipush F dX7_gathers_142 (by decide) ?_
                refine lv_iload_n F.1 F.2.1 dX7_gathers_144 rfl (lv_at hl 1 rfl) ?_
                refine z_imul F dX7_gathers_145 ?_
                refine z_iconst F dX7_gathers_146 ?_
                refine z_iadd F dX7_gathers_147 ?_
                refine lv_iload_n F.1 F.2.1 dX7_gathers_148 rfl (lv_at hl 4 rfl) ?_
                have hx149 : 0 ≤ ((6 * v_8) + 5) ∧ ((6 * v_8) + 5) < ((9600 : Nat) : Int) ∧ ((6 * v_8) + 5) ≤ 2147483647 := ⟨by omega, by omega, by omega⟩
                refine g_iast F hH hS r_18b hx149.1 hx149.2.1 hx149.2.2 dX7_gathers_149 (fun H locs hH hS => ?_)
                obtain ⟨AI_21, eAI_21⟩ : ∃ qQ, qQ = gup2 AI_19 (gh 75 0) (((6 * v_8) + 5)).toNat (iI (rd)) := ⟨_, rfl⟩
                rw [← eAI_21] at hH
                have kAI_21 : ∀ b, b ≠ (gh 75 0) → AI_21 b = AI_19 b := fun b hb => by rw [eAI_21]; exact funext fun j => gup2_a _ _ hb
                have hvO := hv
                have t_22 : AI_21 (gh 50 0) = AI_19 (gh 50 0) := mK hv hm (p := (0, 640)) (q := (25, 9600)) (by decide) (by decide) (by decide) kAI_21
                have hv : mInv g gh R I AI_21 := mInv_a hv hm (q := (25, 9600)) (by decide) (by decide) kAI_21
                have hT : AI_21 (gh 50 0) = T := t_22.trans hT
                have fW : ∀ b, b ≠ gh 75 0 → AI_21 b = AI b := fun b hb => (kAI_21 b hb).trans (fW b hb)
                have hins := wrW_e hwr (by omega) w1 w1b (f2 := AI_21 (gh 75 0)) (fun j hj => by rw [eAI_21, gup2_k _ _ (by omega)]) (by rw [eAI_21, gup2_e _ _ (by omega)])
                have hnew := isW_ins hw hat hins
                refine lv_aload_n F.1 F.2.1 dX7_gathers_150 rfl (lv_at hl 2 rfl) ?_
                refine lv_dup F.1 F.2.1 dX7_gathers_151 rfl ?_
                refine g_getI (ci := 7) (k := 26) F hH rfl (by decide) iX7 hm (by decide) rfl k269 dX7_gathers_152 ?_
                refine z_iconst F dX7_gathers_155 ?_
                refine z_iadd F dX7_gathers_156 ?_
                refine g_putI (ci := 7) (k := 26) F hH hS rfl (by decide) iX7 hm (by decide) tyX7 tyX7_ok nmX7 rfl rfl rfl k269 dX7_gathers_157 (fun H locs hH hS => ?_)
                obtain ⟨I_23, eI_23⟩ : ∃ qQ, qQ = gup2 I mo 26 (iI (((I mo 26).toInt) + 1)) := ⟨_, rfl⟩
                rw [← eI_23] at hH
                have kI_23 : ∀ b, b ≠ mo → I_23 b = I b := fun b hb => by rw [eI_23]; exact funext fun j => gup2_a _ _ hb
                have w_24 : (I_23 mo 26).toInt = ((I mo 26).toInt) + 1 := by rw [eI_23, gup2_s]; exact iI_val ⟨by omega, by omega⟩
                have hv : mInv g gh R I_23 AI_21 := by rw [eI_23]; exact mP26 hv hm (by omega) (by omega)
                have wf : wF mo I I_23 := wF_t wf (by rw [eI_23]; exact wF_p)
                have u_25_2 : (I_23 mo 2).toInt = (I mo 2).toInt := by rw [wf 2 (by decide)]
                have u_25_5 : (I_23 mo 5).toInt = (I mo 5).toInt := by rw [wf 5 (by decide)]
                have u_25_14 : (I_23 mo 14).toInt = (I mo 14).toInt := by rw [wf 14 (by decide)]
                have u_25_16 : (I_23 mo 16).toInt = (I mo 16).toInt := by rw [wf 16 (by decide)]
                have u_25_24 : (I_23 mo 24).toInt = (I mo 24).toInt := by rw [wf 24 (by decide)]
                refine z_iconst F dX7_gathers_160 ?_
                exact g_zret F hr hlk hH hS hz (by omega) ⟨rfl, rfl, rfl, rfl, hv, hT, wf, by first | omega | rfl | (dsimp only; omega), Or.inr ⟨rfl, hnew.1, by (try dsimp only); omega, hnew.2⟩, fW⟩ dX7_gathers_161
              · refine lv_aload_n F.1 F.2.1 dX7_gathers_101 rfl (lv_at hl 2 rfl) ?_
                obtain ⟨r_26a, r_26b⟩ : R mo 25 = some (gh 75 0) ∧ gAr g (gh 75 0) 9 9600 := mR hv hm (q := (25, 9600)) (by decide)
                refine g_getR (ci := 7) (k := 25) F hH rfl (by decide) iX7 hm (by decide) rfl (b := gh 75 0) r_26a k42 dX7_gathers_102 ?_
                refine z_bipush F dX7_gathers_105 (by decide) ?_
                refine lv_iload_n F.1 F.2.1 dX7_gathers_107 rfl (lv_at hl 1 rfl) ?_
                refine z_imul F dX7_gathers_108 ?_
                refine lv_iload F.1 F.2.1 dX7_gathers_109 (lv_at hl 0 rfl) ?_
                refine z_iadd F dX7_gathers_111 ?_
                refine lv_aload_n F.1 F.2.1 dX7_gathers_112 rfl (lv_at hl 2 rfl) ?_
                obtain ⟨r_27a, r_27b⟩ : R mo 27 = some (gh 77 0) ∧ gAr g (gh 77 0) 9 4 := mR hv hm (q := (27, 4)) (by decide)
                refine g_getR (ci := 7) (k := 27) F hH rfl (by decide) iX7 hm (by decide) rfl (b := gh 77 0) r_27a k45 dX7_gathers_113 ?_
                refine lv_iload F.1 F.2.1 dX7_gathers_116 (lv_at hl 0 rfl) ?_
                have hx118 : 0 ≤ i ∧ i < ((4 : Nat) : Int) ∧ i ≤ 2147483647 := ⟨by omega, by omega, by omega⟩
                refine g_iald F hH r_27b hx118.1 hx118.2.1 hx118.2.2 dX7_gathers_118 ?_
                refine z_name (fun v_28 ev_28 => ?_)
                have zv_28 : zr v_28 := by rw [ev_28]; exact zr_t _
                have hx119 : 0 ≤ ((6 * v_8) + i) ∧ ((6 * v_8) + i) < ((9600 : Nat) : Int) ∧ ((6 * v_8) + i) ≤ 2147483647 := ⟨by omega, by omega, by omega⟩
                refine g_iast F hH hS r_26b hx119.1 hx119.2.1 hx119.2.2 dX7_gathers_119 (fun H locs hH hS => ?_)
                obtain ⟨AI_29, eAI_29⟩ : ∃ qQ, qQ = gup2 AI_15 (gh 75 0) (((6 * v_8) + i)).toNat (iI (v_28)) := ⟨_, rfl⟩
                rw [← eAI_29] at hH
                have kAI_29 : ∀ b, b ≠ (gh 75 0) → AI_29 b = AI_15 b := fun b hb => by rw [eAI_29]; exact funext fun j => gup2_a _ _ hb
                have hvO := hv
                have t_30 : AI_29 (gh 50 0) = AI_15 (gh 50 0) := mK hv hm (p := (0, 640)) (q := (25, 9600)) (by decide) (by decide) (by decide) kAI_29
                have hv : mInv g gh R I AI_29 := mInv_a hv hm (q := (25, 9600)) (by decide) (by decide) kAI_29
                have hT : AI_29 (gh 50 0) = T := t_30.trans hT
                have hwr := wrW_s hwr (by omega) (f'' := AI_29 (gh 75 0)) (fun j hj => by rw [eAI_29, gup2_k _ _ (by omega)]) (by rw [eAI_29, gup2_e _ _ (by omega), ev_28, iI_self, fW _ (show gh 77 0 ≠ gh 75 0 from mNe hv hm (p := (27, 4)) (q := (25, 9600)) (by decide) (by decide) (by decide))]; exact ht _ (by omega))
                have fW : ∀ b, b ≠ gh 75 0 → AI_29 b = AI b := fun b hb => (kAI_29 b hb).trans (fW b hb)
                refine z_iinc (lv' := [(4, .int (iI (i + 1))), (3, .int (iI v_8)), (0, .ref mo), (1, .int (iI cn)), (2, .int (iI rd))]) F dX7_gathers_120 hl (k := 0) rfl (by decide) rfl (fun ls hl => ?_)
                refine z_goto (tgt := 95) F dX7_gathers_123 (by decide) ?_
                exact ih95 (i + 1) AI_29 H locs ls ⟨by omega, by omega⟩ hv hT (by omega) fW hwr (by omega) hH hS (lv_sub hl [0, 1, 2, 3, 4] rfl)
          exact cut_95_15 (((4 - 0) + 1 : Int).toNat) 0 AI_12 H locs ls ⟨by decide, by decide⟩ hv hT (by omega) fW (wrW_0 hsh (by omega)) (by omega) hH hS (lv_sub hl [0, 1, 2, 3, 4] rfl)
        · refine lv_aload_n F.1 F.2.1 dX7_gathers_69 rfl (lv_at hl 2 rfl) ?_
          obtain ⟨r_31a, r_31b⟩ : R mo 25 = some (gh 75 0) ∧ gAr g (gh 75 0) 9 9600 := mR hv hm (q := (25, 9600)) (by decide)
          refine g_getR (ci := 7) (k := 25) F hH rfl (by decide) iX7 hm (by decide) rfl (b := gh 75 0) r_31a k42 dX7_gathers_70 ?_
          refine lv_iload F.1 F.2.1 dX7_gathers_73 (lv_at hl 0 rfl) ?_
          refine z_bipush F dX7_gathers_75 (by decide) ?_
          refine z_iadd F dX7_gathers_77 ?_
          refine lv_aload_n F.1 F.2.1 dX7_gathers_78 rfl (lv_at hl 2 rfl) ?_
          refine g_getR (ci := 7) (k := 25) F hH rfl (by decide) iX7 hm (by decide) rfl (b := gh 75 0) r_31a k42 dX7_gathers_79 ?_
          refine lv_iload F.1 F.2.1 dX7_gathers_82 (lv_at hl 0 rfl) ?_
          have hx84 : 0 ≤ i ∧ i < ((9600 : Nat) : Int) ∧ i ≤ 2147483647 := ⟨by omega, by omega, by omega⟩
          refine g_iald F hH r_31b hx84.1 hx84.2.1 hx84.2.2 dX7_gathers_84 ?_
          refine z_name (fun v_32 ev_32 => ?_)
          have zv_32 : zr v_32 := by rw [ev_32]; exact zr_t _
          have hx85 : 0 ≤ (i + 6) ∧ (i + 6) < ((9600 : Nat) : Int) ∧ (i + 6) ≤ 2147483647 := ⟨by omega, by omega, by omega⟩
          refine g_iast F hH hS r_31b hx85.1 hx85.2.1 hx85.2.2 dX7_gathers_85 (fun H locs hH hS => ?_)
          obtain ⟨AI_33, eAI_33⟩ : ∃ qQ, qQ = gup2 AI_12 (gh 75 0) ((i + 6)).toNat (iI (v_32)) := ⟨_, rfl⟩
          rw [← eAI_33] at hH
          have kAI_33 : ∀ b, b ≠ (gh 75 0) → AI_33 b = AI_12 b := fun b hb => by rw [eAI_33]; exact funext fun j => gup2_a _ _ hb
          have hvO := hv
          have t_34 : AI_33 (gh 50 0) = AI_12 (gh 50 0) := mK hv hm (p := (0, 640)) (q := (25, 9600)) (by decide) (by decide) (by decide) kAI_33
          have hv : mInv g gh R I AI_33 := mInv_a hv hm (q := (25, 9600)) (by decide) (by decide) kAI_33
          have hT : AI_33 (gh 50 0) = T := t_34.trans hT
          have fW : ∀ b, b ≠ gh 75 0 → AI_33 b = AI b := fun b hb => (kAI_33 b hb).trans (fW b hb)
          have hsh := shW_s hsh (by omega) (f'' := AI_33 (gh 75 0)) (fun j hj => by rw [eAI_33, gup2_k _ _ hj]) (by rw [eAI_33, gup2_s, ev_32, iI_self])
          refine z_iinc (lv' := [(4, .int (iI (i + (-1)))), (3, .int (iI v_8)), (0, .ref mo), (1, .int (iI cn)), (2, .int (iI rd))]) F dX7_gathers_86 hl (k := 0) rfl (by decide) rfl (fun ls hl => ?_)
          refine z_goto (tgt := 60) F dX7_gathers_89 (by decide) ?_
          exact ih60 (i + (-1)) AI_33 H locs ls ⟨by omega, by omega⟩ hv hT (by omega) fW (by rw [show i + (-1) = i - 1 by omega]; exact hsh) (by omega) hH hS (lv_sub hl [0, 1, 2, 3, 4] rfl)
    exact cut_60_12 (((((6 * ((I mo 26).toInt)) - 1) + 1) + 1 : Int).toNat) ((6 * ((I mo 26).toInt)) - 1) AI H locs ls ⟨by omega, by omega⟩ hv hT (by omega) fW (by rw [show 6 * (I mo 26).toInt - 1 = 6 * (n : Int) - 1 by omega]; exact shW_0) (by omega) hH hS (lv_sub hl [0, 1, 2, 3, 4] rfl)
  · refine lv_aload_n F.1 F.2.1 dX7_gathers_13 rfl (lv_at hl 1 rfl) ?_
    obtain ⟨r_35a, r_35b⟩ : R mo 25 = some (gh 75 0) ∧ gAr g (gh 75 0) 9 9600 := mR hv hm (q := (25, 9600)) (by decide)
    refine g_getR (ci := 7) (k := 25) F hH rfl (by decide) iX7 hm (by decide) rfl (b := gh 75 0) r_35a k42 dX7_gathers_14 ?_
    refine z_bipush F dX7_gathers_17 (by decide) ?_
    refine lv_iload_n F.1 F.2.1 dX7_gathers_19 rfl (lv_at hl 0 rfl) ?_
    refine z_imul F dX7_gathers_20 ?_
    refine lv_aload_n F.1 F.2.1 dX7_gathers_21 rfl (lv_at hl 1 rfl) ?_
    obtain ⟨r_36a, r_36b⟩ : R mo 27 = some (gh 77 0) ∧ gAr g (gh 77 0) 9 4 := mR hv hm (q := (27, 4)) (by decide)
    refine g_getR (ci := 7) (k := 27) F hH rfl (by decide) iX7 hm (by decide) rfl (b := gh 77 0) r_36a k45 dX7_gathers_22 ?_
    refine z_iconst F dX7_gathers_25 ?_
    refine g_calli (g_runS (As := [.ref (gh 75 0), .int (iI (6 * v_8)), .ref (gh 77 0), .int (iI 0)]) (rest := []) F hl.1 hH hS hz (c_X7_comparef l g 9600 4 I R J AI AJ AR (gh 75 0) (6 * v_8) (gh 77 0) 0 ⟨by omega, by omega⟩ ⟨by decide, by decide⟩ r_35b r_36b (by omega) (by omega) (by omega) (by omega)) (va_cwS 4 F.2.2.2.2.1 (good_up gT_X7_compare) rfl rfl rfl hdX7_compare.2 ⟨Nat.le_of_ble_eq_true rfl, Nat.le_of_ble_eq_true rfl⟩) rfl rfl (Nat.le_of_ble_eq_true rfl) dX7_gathers_26 ⟨Nat.zero_le _, Nat.zero_le _⟩) hS (fun v_43 I_37 R_38 J_39 AI_40 AJ_41 AR_42 H locs zv_43 hp_44 hH hS => ?_)
    dsimp only at hp_44
    obtain ⟨rfl, rfl, rfl, rfl, rfl, rfl, q_45, qc⟩ := hp_44
    have qk : v_43 = tc (tup (AI (gh 75 0)) v_8.toNat) t := by rw [qc, ry6_n (by omega)]; exact tc_kv (key_tu ht)
    refine z_if_ne (tgt := 49) F dX7_gathers_29 (by decide) zv_43 (fun c_46 => ?_) (fun c_46 => ?_)
    · have hat := lo_at hw.1 qpl (fun h9 => by first | omega | (intro h8; omega))
      have fW : ∀ b, b ≠ gh 75 0 → AI b = AI b := fun _ _ => rfl
      refine z_bipush F dX7_gathers_49 (by decide) ?_
      refine lv_aload_n F.1 F.2.1 dX7_gathers_51 rfl (lv_at hl 1 rfl) ?_
      refine g_getI (ci := 7) (k := 26) F hH rfl (by decide) iX7 hm (by decide) rfl k269 dX7_gathers_52 ?_
      refine z_imul F dX7_gathers_55 ?_
      refine z_iconst F dX7_gathers_56 ?_
      refine z_isub F dX7_gathers_57 ?_
      refine lv_istore (lv' := [(4, .int (iI ((6 * ((I mo 26).toInt)) - 1))), (3, .int (iI v_8)), (0, .ref mo), (1, .int (iI cn)), (2, .int (iI rd))]) F.1 F.2.1 dX7_gathers_58 hl (by decide) rfl (fun ls hl => ?_)
      have cut_60_47 : ∀ (NN : Nat) (i : Int) (AI_47 : gI) (H : Heap) (locs : List Loc) (ls : Array Slot), zr i → (mInv g gh R I AI_47) → (AI_47 (gh 50 0) = T) → (6 * v_8 - 1 ≤ i ∧ i ≤ 6 * (I mo 26).toInt - 1) → (∀ b, b ≠ gh 75 0 → AI_47 b = AI b) → (shW (AI (gh 75 0)) (AI_47 (gh 75 0)) n i) → (i + 1) < ((NN : Nat) : Int) → gH g I R J AI_47 AJ AR H → va_S (gA g) s.heap H locs → lv_has ls 5 [(4, .int (iI i)), (3, .int (iI v_8)), (0, .ref mo), (1, .int (iI cn)), (2, .int (iI rd))] → W p l e rmX7_gathersf s m ([.ref mo, .int (iI cn), .int (iI rd)] : List Value).toArray below meth c H locs 0 0 (MQ below (gQi g (fun (z : Int) (w : gS) => R = w.2.1 ∧ J = w.2.2.1 ∧ AJ = w.2.2.2.2.1 ∧ AR = w.2.2.2.2.2 ∧ (mInv g gh R (w.1) (w.2.2.2.1)) ∧ ((w.2.2.2.1) (gh 50 0) = T) ∧ (wF mo I (w.1)) ∧ ((z = 0 ∧ ((w.1) mo 26).toInt = (I mo 26).toInt) ∨ (z = 1 ∧ ((w.1) mo 26).toInt = (I mo 26).toInt + 1)) ∧ ((z = 0 ∧ P t ∧ ((w.1) mo 26).toInt = (n : Int) ∧ isW ((w.2.2.2.1) (gh 75 0)) n P (sAdd S t (iI cn)) M) ∨ (z = 1 ∧ ¬ P t ∧ ((w.1) mo 26).toInt = (n : Int) + 1 ∧ isW ((w.2.2.2.1) (gh 75 0)) (n + 1) (pAdd P t) (tUp S t (iI cn)) (tUp M t (iI rd)))) ∧ (∀ b, b ≠ gh 75 0 → (w.2.2.2.1) b = AI b))) ([.ref mo, .int (iI cn), .int (iI rd)] : List Value).toArray s 0 0 (gA g)) (F0 m 60 ls []) := by
        intro NN60
        induction NN60 with
        | zero =>
          intro i AI_47 H locs ls zi hv hT hi fW hsh hm60 hH hS hl
          exact absurd hm60 (by omega)
        | succ NN60 ih60 =>
          intro i AI_47 H locs ls zi hv hT hi fW hsh hm60 hH hS hl
          refine lv_iload F.1 F.2.1 dX7_gathers_60 (lv_at hl 0 rfl) ?_
          refine z_bipush F dX7_gathers_62 (by decide) ?_
          refine lv_iload_n F.1 F.2.1 dX7_gathers_64 rfl (lv_at hl 1 rfl) ?_
          refine z_imul F dX7_gathers_65 ?_
          refine z_icmp_lt (tgt := 92) F dX7_gathers_66 (by decide) zi ⟨by omega, by omega⟩ (fun c_49 => ?_) (fun c_49 => ?_)
          · refine z_iconst F dX7_gathers_92 ?_
            refine lv_istore (lv' := [(4, .int (iI 0)), (3, .int (iI v_8)), (0, .ref mo), (1, .int (iI cn)), (2, .int (iI rd))]) F.1 F.2.1 dX7_gathers_93 hl (by decide) rfl (fun ls hl => ?_)
            have cut_95_50 : ∀ (NN : Nat) (i : Int) (AI_50 : gI) (H : Heap) (locs : List Loc) (ls : Array Slot), zr i → (mInv g gh R I AI_50) → (AI_50 (gh 50 0) = T) → (0 ≤ i ∧ i ≤ 4) → (∀ b, b ≠ gh 75 0 → AI_50 b = AI b) → (wrW (AI (gh 75 0)) (AI_50 (gh 75 0)) v_8.toNat n t i) → (4 - i) < ((NN : Nat) : Int) → gH g I R J AI_50 AJ AR H → va_S (gA g) s.heap H locs → lv_has ls 5 [(4, .int (iI i)), (3, .int (iI v_8)), (0, .ref mo), (1, .int (iI cn)), (2, .int (iI rd))] → W p l e rmX7_gathersf s m ([.ref mo, .int (iI cn), .int (iI rd)] : List Value).toArray below meth c H locs 0 0 (MQ below (gQi g (fun (z : Int) (w : gS) => R = w.2.1 ∧ J = w.2.2.1 ∧ AJ = w.2.2.2.2.1 ∧ AR = w.2.2.2.2.2 ∧ (mInv g gh R (w.1) (w.2.2.2.1)) ∧ ((w.2.2.2.1) (gh 50 0) = T) ∧ (wF mo I (w.1)) ∧ ((z = 0 ∧ ((w.1) mo 26).toInt = (I mo 26).toInt) ∨ (z = 1 ∧ ((w.1) mo 26).toInt = (I mo 26).toInt + 1)) ∧ ((z = 0 ∧ P t ∧ ((w.1) mo 26).toInt = (n : Int) ∧ isW ((w.2.2.2.1) (gh 75 0)) n P (sAdd S t (iI cn)) M) ∨ (z = 1 ∧ ¬ P t ∧ ((w.1) mo 26).toInt = (n : Int) + 1 ∧ isW ((w.2.2.2.1) (gh 75 0)) (n + 1) (pAdd P t) (tUp S t (iI cn)) (tUp M t (iI rd)))) ∧ (∀ b, b ≠ gh 75 0 → (w.2.2.2.1) b = AI b))) ([.ref mo, .int (iI cn), .int (iI rd)] : List Value).toArray s 0 0 (gA g)) (F0 m 95 ls []) := by
              intro NN95
              induction NN95 with
              | zero =>
                intro i AI_50 H locs ls zi hv hT hi2 fW hwr hm95 hH hS hl
                exact absurd hm95 (by omega)
              | succ NN95 ih95 =>
                intro i AI_50 H locs ls zi hv hT hi2 fW hwr hm95 hH hS hl
                refine lv_iload F.1 F.2.1 dX7_gathers_95 (lv_at hl 0 rfl) ?_
                refine z_iconst F dX7_gathers_97 ?_
                refine z_icmp_ge (tgt := 126) F dX7_gathers_98 (by decide) zi ⟨by decide, by decide⟩ (fun c_52 => ?_) (fun c_52 => ?_)
                · refine lv_aload_n F.1 F.2.1 dX7_gathers_126 rfl (lv_at hl 2 rfl) ?_
                  refine g_getR (ci := 7) (k := 25) F hH rfl (by decide) iX7 hm (by decide) rfl (b := gh 75 0) r_35a k42 dX7_gathers_127 ?_
                  refine z_bipush F dX7_gathers_130 (by decide) ?_
                  refine lv_iload_n F.1 F.2.1 dX7_gathers_132 rfl (lv_at hl 1 rfl) ?_
                  refine z_imul F dX7_gathers_133 ?_
                  refine z_iconst F dX7_gathers_134 ?_
                  refine z_iadd F dX7_gathers_135 ?_
                  refine lv_iload_n F.1 F.2.1 dX7_gathers_136 rfl (lv_at hl 3 rfl) ?_
                  have hx137 : 0 ≤ ((6 * v_8) + 4) ∧ ((6 * v_8) + 4) < ((9600 : Nat) : Int) ∧ ((6 * v_8) + 4) ≤ 2147483647 := ⟨by omega, by omega, by omega⟩
                  refine g_iast F hH hS r_35b hx137.1 hx137.2.1 hx137.2.2 dX7_gathers_137 (fun H locs hH hS => ?_)
                  obtain ⟨AI_53, eAI_53⟩ : ∃ qQ, qQ = gup2 AI_50 (gh 75 0) (((6 * v_8) + 4)).toNat (iI (cn)) := ⟨_, rfl⟩
                  rw [← eAI_53] at hH
                  have kAI_53 : ∀ b, b ≠ (gh 75 0) → AI_53 b = AI_50 b := fun b hb => by rw [eAI_53]; exact funext fun j => gup2_a _ _ hb
                  have hvO := hv
                  have t_54 : AI_53 (gh 50 0) = AI_50 (gh 50 0) := mK hv hm (p := (0, 640)) (q := (25, 9600)) (by decide) (by decide) (by decide) kAI_53
                  have hv : mInv g gh R I AI_53 := mInv_a hv hm (q := (25, 9600)) (by decide) (by decide) kAI_53
                  have hT : AI_53 (gh 50 0) = T := t_54.trans hT
                  have fW : ∀ b, b ≠ gh 75 0 → AI_53 b = AI b := fun b hb => (kAI_53 b hb).trans (fW b hb)
                  have w1 : ∀ j, j ≠ 6 * v_8.toNat + 4 → AI_53 (gh 75 0) j = AI_50 (gh 75 0) j := fun j hj => by rw [eAI_53, gup2_k _ _ (by omega)]
                  have w1b : AI_53 (gh 75 0) (6 * v_8.toNat + 4) = iI cn := by rw [eAI_53, gup2_e _ _ (by omega)]
                  refine lv_aload_n F.1 F.2.1 dX7_gathers_138 rfl (lv_at hl 2 rfl) ?_
                  refine g_getR (ci := 7) (k := 25) F hH rfl (by decide) iX7 hm (by decide) rfl (b := gh 75 0) r_35a k42 dX7_gathers_139 ?_
                  refine z_bipush F dX7_gathers_142 (by decide) ?_
                  refine lv_iload_n F.1 F.2.1 dX7_gathers_144 rfl (lv_at hl 1 rfl) ?_
                  refine z_imul F dX7_gathers_145 ?_
                  refine z_iconst F dX7_gathers_146 ?_
                  refine z_iadd F dX7_gathers_147 ?_
                  refine lv_iload_n F.1 F.2.1 dX7_gathers_148 rfl (lv_at hl 4 rfl) ?_
                  have hx149 : 0 ≤ ((6 * v_8) + 5) ∧ ((6 * v_8) + 5) < ((9600 : Nat) : Int) ∧ ((6 * v_8) + 5) ≤ 2147483647 := ⟨by omega, by omega, by omega⟩
                  refine g_iast F hH hS r_35b hx149.1 hx149.2.1 hx149.2.2 dX7_gathers_149 (fun H locs hH hS => ?_)
                  obtain ⟨AI_55, eAI_55⟩ : ∃ qQ, qQ = gup2 AI_53 (gh 75 0) (((6 * v_8) + 5)).toNat (iI (rd)) := ⟨_, rfl⟩
                  rw [← eAI_55] at hH
                  have kAI_55 : ∀ b, b ≠ (gh 75 0) → AI_55 b = AI_53 b := fun b hb => by rw [eAI_55]; exact funext fun j => gup2_a _ _ hb
                  have hvO := hv
                  have t_56 : AI_55 (gh 50 0) = AI_53 (gh 50 0) := mK hv hm (p := (0, 640)) (q := (25, 9600)) (by decide) (by decide) (by decide) kAI_55
                  have hv : mInv g gh R I AI_55 := mInv_a hv hm (q := (25, 9600)) (by decide) (by decide) kAI_55
                  have hT : AI_55 (gh 50 0) = T := t_56.trans hT
                  have fW : ∀ b, b ≠ gh 75 0 → AI_55 b = AI b := fun b hb => (kAI_55 b hb).trans (fW b hb)
                  have hins := wrW_e hwr (by omega) w1 w1b (f2 := AI_55 (gh 75 0)) (fun j hj => by rw [eAI_55, gup2_k _ _ (by omega)]) (by rw [eAI_55, gup2_e _ _ (by omega)])
                  have hnew := isW_ins hw hat hins
                  refine lv_aload_n F.1 F.2.1 dX7_gathers_150 rfl (lv_at hl 2 rfl) ?_
                  refine lv_dup F.1 F.2.1 dX7_gathers_151 rfl ?_
                  refine g_getI (ci := 7) (k := 26) F hH rfl (by decide) iX7 hm (by decide) rfl k269 dX7_gathers_152 ?_
                  refine z_iconst F dX7_gathers_155 ?_
                  refine z_iadd F dX7_gathers_156 ?_
                  refine g_putI (ci := 7) (k := 26) F hH hS rfl (by decide) iX7 hm (by decide) tyX7 tyX7_ok nmX7 rfl rfl rfl k269 dX7_gathers_157 (fun H locs hH hS => ?_)
                  obtain ⟨I_57, eI_57⟩ : ∃ qQ, qQ = gup2 I mo 26 (iI (((I mo 26).toInt) + 1)) := ⟨_, rfl⟩
                  rw [← eI_57] at hH
                  have kI_57 : ∀ b, b ≠ mo → I_57 b = I b := fun b hb => by rw [eI_57]; exact funext fun j => gup2_a _ _ hb
                  have w_58 : (I_57 mo 26).toInt = ((I mo 26).toInt) + 1 := by rw [eI_57, gup2_s]; exact iI_val ⟨by omega, by omega⟩
                  have hv : mInv g gh R I_57 AI_55 := by rw [eI_57]; exact mP26 hv hm (by omega) (by omega)
                  have wf : wF mo I I_57 := wF_t wf (by rw [eI_57]; exact wF_p)
                  have u_59_2 : (I_57 mo 2).toInt = (I mo 2).toInt := by rw [wf 2 (by decide)]
                  have u_59_5 : (I_57 mo 5).toInt = (I mo 5).toInt := by rw [wf 5 (by decide)]
                  have u_59_14 : (I_57 mo 14).toInt = (I mo 14).toInt := by rw [wf 14 (by decide)]
                  have u_59_16 : (I_57 mo 16).toInt = (I mo 16).toInt := by rw [wf 16 (by decide)]
                  have u_59_24 : (I_57 mo 24).toInt = (I mo 24).toInt := by rw [wf 24 (by decide)]
                  refine z_iconst F dX7_gathers_160 ?_
                  exact g_zret F hr hlk hH hS hz (by omega) ⟨rfl, rfl, rfl, rfl, hv, hT, wf, by first | omega | rfl | (dsimp only; omega), Or.inr ⟨rfl, hnew.1, by (try dsimp only); omega, hnew.2⟩, fW⟩ dX7_gathers_161
                · refine lv_aload_n F.1 F.2.1 dX7_gathers_101 rfl (lv_at hl 2 rfl) ?_
                  refine g_getR (ci := 7) (k := 25) F hH rfl (by decide) iX7 hm (by decide) rfl (b := gh 75 0) r_35a k42 dX7_gathers_102 ?_
                  refine z_bipush F dX7_gathers_105 (by decide) ?_
                  refine lv_iload_n F.1 F.2.1 dX7_gathers_107 rfl (lv_at hl 1 rfl) ?_
                  refine z_imul F dX7_gathers_108 ?_
                  refine lv_iload F.1 F.2.1 dX7_gathers_109 (lv_at hl 0 rfl) ?_
                  refine z_iadd F dX7_gathers_111 ?_
                  refine lv_aload_n F.1 F.2.1 dX7_gathers_112 rfl (lv_at hl 2 rfl) ?_
                  refine g_getR (ci := 7) (k := 27) F hH rfl (by decide) iX7 hm (by decide) rfl (b := gh 77 0) r_36a k45 dX7_gathers_113 ?_
                  refine lv_iload F.1 F.2.1 dX7_gathers_116 (lv_at hl 0 rfl) ?_
                  have hx118 : 0 ≤ i ∧ i < ((4 : Nat) : Int) ∧ i ≤ 2147483647 := ⟨by omega, by omega, by omega⟩
                  refine g_iald F hH r_36b hx118.1 hx118.2.1 hx118.2.2 dX7_gathers_118 ?_
                  refine z_name (fun v_60 ev_60 => ?_)
                  have zv_60 : zr v_60 := by rw [ev_60]; exact zr_t _
                  have hx119 : 0 ≤ ((6 * v_8) + i) ∧ ((6 * v_8) + i) < ((9600 : Nat) : Int) ∧ ((6 * v_8) + i) ≤ 2147483647 := ⟨by omega, by omega, by omega⟩
                  refine g_iast F hH hS r_35b hx119.1 hx119.2.1 hx119.2.2 dX7_gathers_119 (fun H locs hH hS => ?_)
                  obtain ⟨AI_61, eAI_61⟩ : ∃ qQ, qQ = gup2 AI_50 (gh 75 0) (((6 * v_8) + i)).toNat (iI (v_60)) := ⟨_, rfl⟩
                  rw [← eAI_61] at hH
                  have kAI_61 : ∀ b, b ≠ (gh 75 0) → AI_61 b = AI_50 b := fun b hb => by rw [eAI_61]; exact funext fun j => gup2_a _ _ hb
                  have hvO := hv
                  have t_62 : AI_61 (gh 50 0) = AI_50 (gh 50 0) := mK hv hm (p := (0, 640)) (q := (25, 9600)) (by decide) (by decide) (by decide) kAI_61
                  have hv : mInv g gh R I AI_61 := mInv_a hv hm (q := (25, 9600)) (by decide) (by decide) kAI_61
                  have hT : AI_61 (gh 50 0) = T := t_62.trans hT
                  have hwr := wrW_s hwr (by omega) (f'' := AI_61 (gh 75 0)) (fun j hj => by rw [eAI_61, gup2_k _ _ (by omega)]) (by rw [eAI_61, gup2_e _ _ (by omega), ev_60, iI_self, fW _ (show gh 77 0 ≠ gh 75 0 from mNe hv hm (p := (27, 4)) (q := (25, 9600)) (by decide) (by decide) (by decide))]; exact ht _ (by omega))
                  have fW : ∀ b, b ≠ gh 75 0 → AI_61 b = AI b := fun b hb => (kAI_61 b hb).trans (fW b hb)
                  refine z_iinc (lv' := [(4, .int (iI (i + 1))), (3, .int (iI v_8)), (0, .ref mo), (1, .int (iI cn)), (2, .int (iI rd))]) F dX7_gathers_120 hl (k := 0) rfl (by decide) rfl (fun ls hl => ?_)
                  refine z_goto (tgt := 95) F dX7_gathers_123 (by decide) ?_
                  exact ih95 (i + 1) AI_61 H locs ls ⟨by omega, by omega⟩ hv hT (by omega) fW hwr (by omega) hH hS (lv_sub hl [0, 1, 2, 3, 4] rfl)
            exact cut_95_50 (((4 - 0) + 1 : Int).toNat) 0 AI_47 H locs ls ⟨by decide, by decide⟩ hv hT (by omega) fW (wrW_0 hsh (by omega)) (by omega) hH hS (lv_sub hl [0, 1, 2, 3, 4] rfl)
          · refine lv_aload_n F.1 F.2.1 dX7_gathers_69 rfl (lv_at hl 2 rfl) ?_
            refine g_getR (ci := 7) (k := 25) F hH rfl (by decide) iX7 hm (by decide) rfl (b := gh 75 0) r_35a k42 dX7_gathers_70 ?_
            refine lv_iload F.1 F.2.1 dX7_gathers_73 (lv_at hl 0 rfl) ?_
            refine z_bipush F dX7_gathers_75 (by decide) ?_
            refine z_iadd F dX7_gathers_77 ?_
            refine lv_aload_n F.1 F.2.1 dX7_gathers_78 rfl (lv_at hl 2 rfl) ?_
            refine g_getR (ci := 7) (k := 25) F hH rfl (by decide) iX7 hm (by decide) rfl (b := gh 75 0) r_35a k42 dX7_gathers_79 ?_
            refine lv_iload F.1 F.2.1 dX7_gathers_82 (lv_at hl 0 rfl) ?_
            have hx84 : 0 ≤ i ∧ i < ((9600 : Nat) : Int) ∧ i ≤ 2147483647 := ⟨by omega, by omega, by omega⟩
            refine g_iald F hH r_35b hx84.1 hx84.2.1 hx84.2.2 dX7_gathers_84 ?_
            refine z_name (fun v_63 ev_63 => ?_)
            have zv_63 : zr v_63 := by rw [ev_63]; exact zr_t _
            have hx85 : 0 ≤ (i + 6) ∧ (i + 6) < ((9600 : Nat) : Int) ∧ (i + 6) ≤ 2147483647 := ⟨by omega, by omega, by omega⟩
            refine g_iast F hH hS r_35b hx85.1 hx85.2.1 hx85.2.2 dX7_gathers_85 (fun H locs hH hS => ?_)
            obtain ⟨AI_64, eAI_64⟩ : ∃ qQ, qQ = gup2 AI_47 (gh 75 0) ((i + 6)).toNat (iI (v_63)) := ⟨_, rfl⟩
            rw [← eAI_64] at hH
            have kAI_64 : ∀ b, b ≠ (gh 75 0) → AI_64 b = AI_47 b := fun b hb => by rw [eAI_64]; exact funext fun j => gup2_a _ _ hb
            have hvO := hv
            have t_65 : AI_64 (gh 50 0) = AI_47 (gh 50 0) := mK hv hm (p := (0, 640)) (q := (25, 9600)) (by decide) (by decide) (by decide) kAI_64
            have hv : mInv g gh R I AI_64 := mInv_a hv hm (q := (25, 9600)) (by decide) (by decide) kAI_64
            have hT : AI_64 (gh 50 0) = T := t_65.trans hT
            have fW : ∀ b, b ≠ gh 75 0 → AI_64 b = AI b := fun b hb => (kAI_64 b hb).trans (fW b hb)
            have hsh := shW_s hsh (by omega) (f'' := AI_64 (gh 75 0)) (fun j hj => by rw [eAI_64, gup2_k _ _ hj]) (by rw [eAI_64, gup2_s, ev_63, iI_self])
            refine z_iinc (lv' := [(4, .int (iI (i + (-1)))), (3, .int (iI v_8)), (0, .ref mo), (1, .int (iI cn)), (2, .int (iI rd))]) F dX7_gathers_86 hl (k := 0) rfl (by decide) rfl (fun ls hl => ?_)
            refine z_goto (tgt := 60) F dX7_gathers_89 (by decide) ?_
            exact ih60 (i + (-1)) AI_64 H locs ls ⟨by omega, by omega⟩ hv hT (by omega) fW (by rw [show i + (-1) = i - 1 by omega]; exact hsh) (by omega) hH hS (lv_sub hl [0, 1, 2, 3, 4] rfl)
      exact cut_60_47 (((((6 * ((I mo 26).toInt)) - 1) + 1) + 1 : Int).toNat) ((6 * ((I mo 26).toInt)) - 1) AI H locs ls ⟨by omega, by omega⟩ hv hT (by omega) fW (by rw [show 6 * (I mo 26).toInt - 1 = 6 * (n : Int) - 1 by omega]; exact shW_0) (by omega) hH hS (lv_sub hl [0, 1, 2, 3, 4] rfl)
    · refine lv_aload_n F.1 F.2.1 dX7_gathers_32 rfl (lv_at hl 1 rfl) ?_
      refine g_getR (ci := 7) (k := 25) F hH rfl (by decide) iX7 hm (by decide) rfl (b := gh 75 0) r_35a k42 dX7_gathers_33 ?_
      refine z_bipush F dX7_gathers_36 (by decide) ?_
      refine lv_iload_n F.1 F.2.1 dX7_gathers_38 rfl (lv_at hl 0 rfl) ?_
      refine z_imul F dX7_gathers_39 ?_
      refine z_iconst F dX7_gathers_40 ?_
      refine z_iadd F dX7_gathers_41 ?_
      refine lv_dup2_11 F.1 F.2.1 dX7_gathers_42 rfl rfl ?_
      have hx43 : 0 ≤ ((6 * v_8) + 4) ∧ ((6 * v_8) + 4) < ((9600 : Nat) : Int) ∧ ((6 * v_8) + 4) ≤ 2147483647 := ⟨by omega, by omega, by omega⟩
      refine g_iald F hH r_35b hx43.1 hx43.2.1 hx43.2.2 dX7_gathers_43 ?_
      refine z_name (fun v_66 ev_66 => ?_)
      have zv_66 : zr v_66 := by rw [ev_66]; exact zr_t _
      have hek := tc_0.mp (show tc (tup (AI (gh 75 0)) v_8.toNat) t = 0 by omega)
      have hrow := hw.2.1 v_8.toNat (by omega)
      rw [hek] at hrow
      have q43 : iI v_66 = S t := by rw [ev_66, iI_self, ← hrow.2.1]; congr 1; omega
      refine lv_iload_n F.1 F.2.1 dX7_gathers_44 rfl (lv_at hl 2 rfl) ?_
      refine z_iadd F dX7_gathers_45 ?_
      have hx46 : 0 ≤ ((6 * v_8) + 4) ∧ ((6 * v_8) + 4) < ((9600 : Nat) : Int) ∧ ((6 * v_8) + 4) ≤ 2147483647 := ⟨by omega, by omega, by omega⟩
      refine g_iast F hH hS r_35b hx46.1 hx46.2.1 hx46.2.2 dX7_gathers_46 (fun H locs hH hS => ?_)
      obtain ⟨AI_67, eAI_67⟩ : ∃ qQ, qQ = gup2 AI (gh 75 0) (((6 * v_8) + 4)).toNat (iI (v_66 + cn)) := ⟨_, rfl⟩
      rw [← eAI_67] at hH
      have kAI_67 : ∀ b, b ≠ (gh 75 0) → AI_67 b = AI b := fun b hb => by rw [eAI_67]; exact funext fun j => gup2_a _ _ hb
      have hvO := hv
      have t_68 : AI_67 (gh 50 0) = AI (gh 50 0) := mK hv hm (p := (0, 640)) (q := (25, 9600)) (by decide) (by decide) (by decide) kAI_67
      have hv : mInv g gh R I AI_67 := mInv_a hv hm (q := (25, 9600)) (by decide) (by decide) kAI_67
      have hT : AI_67 (gh 50 0) = T := t_68.trans hT
      have hset : isW (AI_67 (gh 75 0)) n P (sAdd S t (iI cn)) M := by rw [sAdd_up]; exact isW_set hw (by omega) hek (fun j hj => by rw [eAI_67, gup2_k _ _ (by omega)]) (by rw [eAI_67, gup2_e _ _ (by omega), ← iI_add, q43])
      have fW : ∀ b, b ≠ gh 75 0 → AI_67 b = AI b := fun b hb => kAI_67 b hb
      refine z_iconst F dX7_gathers_47 ?_
      exact g_zret F hr hlk hH hS hz (by omega) ⟨rfl, rfl, rfl, rfl, hv, hT, wf, by first | omega | rfl | (dsimp only; omega), Or.inl ⟨rfl, hrow.1, by omega, hset⟩, fW⟩ dX7_gathers_48

def rmX7_takesf : Room := { frames := 0, cells := 0, slots := 0, locals := 0 }
set_option maxHeartbeats 4000000 in
set_option maxRecDepth 100000 in
/-- takes a tuple -/
theorem c_X7_takesf (l : Launch) (g : gG) (gh : gGh) (T : Nat → Int32) (I : gI) (R : gR) (J : gJ) (AI : gI) (AJ : gJ) (AR : gR) (mo : Nat) (fm : Int) (zfm : zr fm) (hv : mInv g gh R I AI) (hm : gO g mo 7) (hT : AI (gh 50 0) = T) (h0 : 0 ≤ fm ∧ fm + 4 ≤ 126720) : gMet l g yX7_takes tsX7_takes rmX7_takesf [.ref mo, .int (iI fm)] (I, R, J, AI, AJ, AR) (gQv g (fun w : gS => I = w.1 ∧ R = w.2.1 ∧ J = w.2.2.1 ∧ AJ = w.2.2.2.2.1 ∧ AR = w.2.2.2.2.2 ∧ (mInv g gh R I (w.2.2.2.1)) ∧ ((w.2.2.2.1) (gh 50 0) = T) ∧ (∀ b, b ≠ gh 77 0 → (w.2.2.2.1) b = AI b) ∧ (∀ j, j < 4 → (w.2.2.2.1) (gh 77 0) j = (AI (gh 56 0)) (fm.toNat + j)))) := by
  refine gStart (cc := cX7_takes) (maxL := 3) (ret := none) (by decide) rfl (Nat.le_of_ble_eq_true rfl) ?_
  intro p e s m below meth c ls F hr hlk hH hz hS hl
  have hl : lv_has ls 3 [(0, .ref mo), (1, .int (iI fm))] := hl
  have hS : va_S (gA g) s.heap s.heap [] := hS
  obtain ⟨H, hHe⟩ : ∃ H : Heap, H = s.heap := ⟨_, rfl⟩
  obtain ⟨locs, hlo⟩ : ∃ k : List Loc, k = [] := ⟨_, rfl⟩
  have hH : gH g I R J AI AJ AR H := by rw [hHe]; exact hH
  have hS : va_S (gA g) s.heap H locs := by rw [hHe, hlo]; exact hS
  suffices hw : W p l e rmX7_takesf s m ([.ref mo, .int (iI fm)] : List Value).toArray below meth c H locs 0 0 (MQ below (gQv g (fun w : gS => I = w.1 ∧ R = w.2.1 ∧ J = w.2.2.1 ∧ AJ = w.2.2.2.2.1 ∧ AR = w.2.2.2.2.2 ∧ (mInv g gh R I (w.2.2.2.1)) ∧ ((w.2.2.2.1) (gh 50 0) = T) ∧ (∀ b, b ≠ gh 77 0 → (w.2.2.2.1) b = AI b) ∧ (∀ j, j < 4 → (w.2.2.2.1) (gh 77 0) j = (AI (gh 56 0)) (fm.toNat + j)))) ([.ref mo, .int (iI fm)] : List Value).toArray s 0 0 (gA g)) (F0 m 0 ls []) by
    rw [hHe, hlo] at hw; exact hw
  clear hHe hlo
  have iX7 : ∀ w ∈ u_ws RX7 TX7 32, w ∈ tsX7_takes := fun w h => List.mem_cons_of_mem _ (inTB7 w h)
  have k45 : Cond.fieldLink RX7 45 (TX7 27).1 (TX7 27).2.1 (TX7 27).2.2.1 ∈ tsX7_takes := List.mem_cons_of_mem _ fl_45
  have k24 : Cond.fieldLink RX7 24 (TX7 6).1 (TX7 6).2.1 (TX7 6).2.2.1 ∈ tsX7_takes := List.mem_cons_of_mem _ fl_24
  refine z_iconst F dX7_takes_0 ?_
  refine lv_istore_n (lv' := [(2, .int (iI 0)), (0, .ref mo), (1, .int (iI fm))]) F.1 F.2.1 dX7_takes_1 rfl hl (by decide) rfl (fun ls hl => ?_)
  have cut_2_1 : ∀ (NN : Nat) (i : Int) (AI_1 : gI) (H : Heap) (locs : List Loc) (ls : Array Slot), zr i → (mInv g gh R I AI_1) → (AI_1 (gh 50 0) = T) → (0 ≤ i ∧ i ≤ 4) → (∀ b, b ≠ gh 77 0 → AI_1 b = AI b) → (∀ j : Nat, (j : Int) < i → AI_1 (gh 77 0) j = (AI (gh 56 0)) (fm.toNat + j)) → (4 - i) < ((NN : Nat) : Int) → gH g I R J AI_1 AJ AR H → va_S (gA g) s.heap H locs → lv_has ls 3 [(2, .int (iI i)), (0, .ref mo), (1, .int (iI fm))] → W p l e rmX7_takesf s m ([.ref mo, .int (iI fm)] : List Value).toArray below meth c H locs 0 0 (MQ below (gQv g (fun w : gS => I = w.1 ∧ R = w.2.1 ∧ J = w.2.2.1 ∧ AJ = w.2.2.2.2.1 ∧ AR = w.2.2.2.2.2 ∧ (mInv g gh R I (w.2.2.2.1)) ∧ ((w.2.2.2.1) (gh 50 0) = T) ∧ (∀ b, b ≠ gh 77 0 → (w.2.2.2.1) b = AI b) ∧ (∀ j, j < 4 → (w.2.2.2.1) (gh 77 0) j = (AI (gh 56 0)) (fm.toNat + j)))) ([.ref mo, .int (iI fm)] : List Value).toArray s 0 0 (gA g)) (F0 m 2 ls []) := by
    intro NN2
    induction NN2 with
    | zero =>
      intro i AI_1 H locs ls zi hv hT hi fW hta hm2 hH hS hl
      exact absurd hm2 (by omega)
    | succ NN2 ih2 =>
      intro i AI_1 H locs ls zi hv hT hi fW hta hm2 hH hS hl
      refine lv_iload_n F.1 F.2.1 dX7_takes_2 rfl (lv_at hl 0 rfl) ?_
      refine z_iconst F dX7_takes_3 ?_
      refine z_icmp_ge (tgt := 27) F dX7_takes_4 (by decide) zi ⟨by decide, by decide⟩ (fun c_3 => ?_) (fun c_3 => ?_)
      · exact g_vret F hr hlk hH hS hz ⟨rfl, rfl, rfl, rfl, rfl, hv, hT, fW, fun j hj => hta j (by omega)⟩ dX7_takes_27
      · refine lv_aload_n F.1 F.2.1 dX7_takes_7 rfl (lv_at hl 1 rfl) ?_
        obtain ⟨r_4a, r_4b⟩ : R mo 27 = some (gh 77 0) ∧ gAr g (gh 77 0) 9 4 := mR hv hm (q := (27, 4)) (by decide)
        refine g_getR (ci := 7) (k := 27) F hH rfl (by decide) iX7 hm (by decide) rfl (b := gh 77 0) r_4a k45 dX7_takes_8 ?_
        refine lv_iload_n F.1 F.2.1 dX7_takes_11 rfl (lv_at hl 0 rfl) ?_
        refine lv_aload_n F.1 F.2.1 dX7_takes_12 rfl (lv_at hl 1 rfl) ?_
        obtain ⟨r_5a, r_5b⟩ : R mo 6 = some (gh 56 0) ∧ gAr g (gh 56 0) 9 126720 := mR hv hm (q := (6, 126720)) (by decide)
        refine g_getR (ci := 7) (k := 6) F hH rfl (by decide) iX7 hm (by decide) rfl (b := gh 56 0) r_5a k24 dX7_takes_13 ?_
        refine lv_iload_n F.1 F.2.1 dX7_takes_16 rfl (lv_at hl 2 rfl) ?_
        refine lv_iload_n F.1 F.2.1 dX7_takes_17 rfl (lv_at hl 0 rfl) ?_
        refine z_iadd F dX7_takes_18 ?_
        have hx19 : 0 ≤ (fm + i) ∧ (fm + i) < ((126720 : Nat) : Int) ∧ (fm + i) ≤ 2147483647 := ⟨by omega, by omega, by omega⟩
        refine g_iald F hH r_5b hx19.1 hx19.2.1 hx19.2.2 dX7_takes_19 ?_
        refine z_name (fun v_6 ev_6 => ?_)
        have zv_6 : zr v_6 := by rw [ev_6]; exact zr_t _
        have hx20 : 0 ≤ i ∧ i < ((4 : Nat) : Int) ∧ i ≤ 2147483647 := ⟨by omega, by omega, by omega⟩
        refine g_iast F hH hS r_4b hx20.1 hx20.2.1 hx20.2.2 dX7_takes_20 (fun H locs hH hS => ?_)
        obtain ⟨AI_7, eAI_7⟩ : ∃ qQ, qQ = gup2 AI_1 (gh 77 0) (i).toNat (iI (v_6)) := ⟨_, rfl⟩
        rw [← eAI_7] at hH
        have kAI_7 : ∀ b, b ≠ (gh 77 0) → AI_7 b = AI_1 b := fun b hb => by rw [eAI_7]; exact funext fun j => gup2_a _ _ hb
        have hvO := hv
        have t_8 : AI_7 (gh 50 0) = AI_1 (gh 50 0) := mK hv hm (p := (0, 640)) (q := (27, 4)) (by decide) (by decide) (by decide) kAI_7
        have hv : mInv g gh R I AI_7 := mInv_a hv hm (q := (27, 4)) (by decide) (by decide) kAI_7
        have hT : AI_7 (gh 50 0) = T := t_8.trans hT
        have hta : ∀ j : Nat, (j : Int) < i + 1 → AI_7 (gh 77 0) j = (AI (gh 56 0)) (fm.toNat + j) := fun j hj => by
          by_cases e9 : (j : Int) = i
          · rw [eAI_7, gup2_e _ _ (by omega), ev_6, iI_self, fW _ (show gh 56 0 ≠ gh 77 0 from mNe hv hm (p := (6, 126720)) (q := (27, 4)) (by decide) (by decide) (by decide))]; congr 1; omega
          · rw [eAI_7, gup2_k _ _ (by omega)]; exact hta j (by omega)
        have fW : ∀ b, b ≠ gh 77 0 → AI_7 b = AI b := fun b hb => (kAI_7 b hb).trans (fW b hb)
        refine z_iinc (lv' := [(2, .int (iI (i + 1))), (0, .ref mo), (1, .int (iI fm))]) F dX7_takes_21 hl (k := 0) rfl (by decide) rfl (fun ls hl => ?_)
        refine z_goto (tgt := 2) F dX7_takes_24 (by decide) ?_
        exact ih2 (i + 1) AI_7 H locs ls ⟨by omega, by omega⟩ hv hT (by omega) fW hta (by omega) hH hS (lv_sub hl [0, 1, 2] rfl)
  exact cut_2_1 (((4 - 0) + 1 : Int).toNat) 0 AI H locs ls ⟨by decide, by decide⟩ hv hT (by omega) (fun _ _ => rfl) (fun j hj => absurd hj (by omega)) (by omega) hH hS (lv_sub hl [0, 1, 2] rfl)
end
section
/-! the reference: a line's tests and terms as told -/
def tsM (T : Nat → Int32) (r : Int) (c : LC) : Prop := tI T (40 * r + 4) = c.1 4 ∧ ∀ k : Nat, (k : Int) < c.1 4 → mP T r (k : Int) 0 = c.2 k 0 ∧
  ((mP T r (k : Int) 1 = 0 ∧ c.2 k 1 = 61) ∨ (mP T r (k : Int) 1 = 1 ∧ c.2 k 1 = 60) ∨ (mP T r (k : Int) 1 ≠ 0 ∧ mP T r (k : Int) 1 ≠ 1 ∧ c.2 k 1 ≠ 61 ∧ c.2 k 1 ≠ 60)) ∧
  ((mP T r (k : Int) 2 = 1 ∧ c.2 k 2 ≠ -1 ∧ mP T r (k : Int) 3 = c.2 k 2) ∨ (mP T r (k : Int) 2 ≠ 1 ∧ c.2 k 2 = -1 ∧ mP T r (k : Int) 3 = c.2 k 3))
theorem tsM_at {T : Nat → Int32} {r k : Int} {c : LC} (h : tsM T r c) (h0 : 0 ≤ k) (h1 : k < c.1 4) : mP T r k 0 = c.2 k.toNat 0 ∧
    ((mP T r k 1 = 0 ∧ c.2 k.toNat 1 = 61) ∨ (mP T r k 1 = 1 ∧ c.2 k.toNat 1 = 60) ∨ (mP T r k 1 ≠ 0 ∧ mP T r k 1 ≠ 1 ∧ c.2 k.toNat 1 ≠ 61 ∧ c.2 k.toNat 1 ≠ 60)) ∧
    ((mP T r k 2 = 1 ∧ c.2 k.toNat 2 ≠ -1 ∧ mP T r k 3 = c.2 k.toNat 2) ∨ (mP T r k 2 ≠ 1 ∧ c.2 k.toNat 2 = -1 ∧ mP T r k 3 = c.2 k.toNat 3)) := by
  have q := h.2 k.toNat (by omega)
  rw [Int.toNat_of_nonneg h0] at q; exact q
def tmM (T : Nat → Int32) (r fm : Int) (c : LC) : Prop := ∀ k : Nat, (k : Int) < c.1 4 → mP T r (fm + (k : Int)) 0 = c.2 k 0 ∧ mP T r (fm + (k : Int)) 1 = c.2 k 1 ∧ (0 ≤ c.2 k 0 ∨ c.2 k 0 = -1)
theorem tmM_at {T : Nat → Int32} {r fm k : Int} {c : LC} (h : tmM T r fm c) (h0 : 0 ≤ k) (h1 : k < c.1 4) : mP T r (fm + k) 0 = c.2 k.toNat 0 ∧ mP T r (fm + k) 1 = c.2 k.toNat 1 ∧ (0 ≤ c.2 k.toNat 0 ∨ c.2 k.toNat 0 = -1) := by
  have q := h k.toNat (by omega)
  rw [Int.toNat_of_nonneg h0] at q; exact q
theorem trT_n {c : LC} {h : Nat → Int32} {k : Nat} (hk : k < 4) (h1 : c.1 4 ≤ (k : Int)) : tg (trT c h) k = 0 := by
  unfold trT; rw [tg_mk _ hk, if_neg (by omega)]
theorem trT_y {c : LC} {h : Nat → Int32} {k : Nat} (hk : k < 4) (h1 : (k : Int) < c.1 4) : tg (trT c h) k = trm c h k := by
  unfold trT; rw [tg_mk _ hk, if_pos h1]
end
