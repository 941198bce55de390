/-! what the class's lines hold so far; what a plan leaves of the class -/
def rowsC (gh : gGh) (AR : gR) (I AI : gI) (q : Nat) (b : tTx) (n nr : Nat) (nt : Nat → Nat) (cl : Nat → Int) : Prop :=
  ∀ r : Nat, r < nr → LG b n nt cl r ∧ ∀ y, AR (gh 6 q) r = some y → (I y 0).toInt = kdT b n (nt r) ∧ kLn b n r nt cl (nt r + 3) (I y) (AI (gh 3 y)) (kdT b n (nt r))
section LgC
variable {b : tTx} {n nr r : Nat} {nt : Nat → Nat} {cl : Nat → Int}
theorem LG_1c (hc : ∀ u, u < r → 1 ≤ cl u ∧ cl u ≤ 4) (g : LG b n nt cl r) : 1 ≤ cl r := by
  rcases kd_cs g.1 with e | e | e | e | e | e | e | e
  · have q := g.2
    rw [show bTk b n (nt r) = nt r + 1 from if_pos e, e] at q
    have q1 : (sTc b n (nt r + 1)).1 = 0 := q.1
    have q2 : (sTc b n (nt r + 1)).2.2 = cl r := q.2.1
    rw [← q2]
    unfold sTc at q1 ⊢
    by_cases a : pK b n (nt r + 1) = 4
    · rw [if_pos a] at q1 ⊢
      by_cases d : 1 ≤ pV b n (nt r + 1) ∧ pV b n (nt r + 1) ≤ 4
      · rw [if_pos d]; exact d.1
      · rw [if_neg d] at q1; exact (pr_no q1 (by decide)).elim
    · rw [if_neg a] at q1; exact (pr_no q1 (by decide)).elim
  · have w := gSel (LG_1 g e).1
    rw [← (LG_1 g e).2, w.2.1]; exact (hc _ (by have := pFd_r (b := b) (n := n) (r := r) (nt := nt) (nt r + 3); omega)).1
  · have w := gPrj hc (LG_2 g e).1
    rw [← (LG_2 g e).2, w.2.1]; omega
  · have w := gJoi (LG_3 g e).1
    obtain ⟨w1, w2, ⟨L', w3, w4⟩, w5⟩ := w
    rw [← (LG_3 g e).2, w3]
    have := (hc (pFd b n nt r (nt r + 3)).toNat (by have := pFd_r (b := b) (n := n) (r := r) (nt := nt) (nt r + 3); omega)).1
    have j0 : ∀ m : Nat, 0 ≤ jC L' m := by
      intro m
      induction m with
      | zero => exact Int.le_refl 0
      | succ m ih => rw [jC]; by_cases z : (m : Int) ∈ L'; (· rw [if_pos z]; omega); (· rw [if_neg z]; omega)
    have := j0 (cF b n r nt cl (nt r + 3 + 1)).toNat
    unfold cF at *; omega
  · have w := gTwo (LG_4 g e).1
    rw [← (LG_4 g e).2, w.2.2.1]; exact (hc _ (by have := pFd_r (b := b) (n := n) (r := r) (nt := nt) (nt r + 3); omega)).1
  · have w := sRl_h rfl (LG_6 g e).1
    rw [← (LG_6 g e).2, w.2.1]; exact (hc _ (by have := pFd_r (b := b) (n := n) (r := r) (nt := nt) (nt r + 3); have := w.2.2; omega)).1
  · have w := gGrp (LG_7 g e).1
    rw [← (LG_7 g e).2, w.2.1]; omega
  · have w := gRng hc (LG_8 g e).1
    rw [← (LG_8 g e).2, w.2.2.1]
    unfold rX
    by_cases z : cF b n r nt cl (nt r + 3) + cF b n r nt cl (nt r + 3 + 2) ≤ 4 ∧ ((iCnt (nxE b n) (spC b n) 5 (nt r + 3 + 8) : Nat) : Int) = cF b n r nt cl (nt r + 3)
    · rw [if_pos z]; exact (hc _ (by have := pFd_r (b := b) (n := n) (r := r) (nt := nt) (nt r + 3); omega)).1
    · rw [if_neg z]; decide
theorem LG_cl : ∀ (m : Nat), (∀ r, r < m → LG b n nt cl r) → ∀ r, r < m → 1 ≤ cl r ∧ cl r ≤ 4
  | 0, _, r, hr => absurd hr (Nat.not_lt_zero r)
  | m + 1, h, r, hr => by
    have ih := LG_cl m (fun u hu => h u (by omega))
    by_cases q : r < m
    · exact ih r q
    · have : r = m := by omega
      subst this
      exact ⟨LG_1c ih (h r hr), (h r hr).2.2.2⟩
end LgC
section RowsC
variable {g : gG} {gh : gGh} {R AR : gR} {I I' I0 AI AI' AI0 : gI} {q ln h0 : Nat} {b : tTx} {n nr : Nat} {nt : Nat → Nat} {cl : Nat → Int} {x kd : Int} {f f' P : Nat → Int32} {h : Nat}
theorem rowsC_0 : rowsC gh AR I AI q b n 0 nt cl := fun r hr => absurd hr (Nat.not_lt_zero r)
theorem rowsC_cl (h : rowsC gh AR I AI q b n nr nt cl) : ∀ r, r < nr → 1 ≤ cl r ∧ cl r ≤ 4 := LG_cl nr (fun r hr => (h r hr).1)
theorem kLn_f (e : ∀ j, j ≠ 13 → j ≠ 14 → f' j = f j) (w : kLn b n nr nt cl h f P kd) : kLn b n nr nt cl h f' P kd := by
  unfold kLn kSel kPrj kJoi kTwo kOne kGrp kRng kFo at w ⊢
  rw [e 3 (by decide) (by decide), e 4 (by decide) (by decide), e 5 (by decide) (by decide), e 6 (by decide) (by decide), e 8 (by decide) (by decide), e 9 (by decide) (by decide), e 10 (by decide) (by decide), e 11 (by decide) (by decide), e 12 (by decide) (by decide)]
  exact w
theorem kLn_b {t : Nat} (w : kLn b n nr nt cl (bTk b n t) f P (kdT b n t)) : kLn b n nr nt cl (t + 3) f P (kdT b n t) := by
  unfold bTk at w
  by_cases k : kdT b n t = 0
  · rw [if_pos k, k] at w
    rw [k]
    unfold kLn at w ⊢
    rw [if_neg (by decide), if_neg (by decide), if_neg (by decide), if_neg (by decide), if_neg (by decide), if_neg (by decide), if_neg (by decide)] at w ⊢
    exact w
  · rw [if_neg k] at w; exact w
theorem ln3_ne (hv : gInv g gh R AR I0 AI0) {y z : Nat} (hy : gO g y 0) (hz : gO g z 0) (h : y ≠ z) : gh 3 y ≠ gh 3 z := fun e => h (by rw [← (hv.2.2.1 y hy).1.2.2.2.1, e, (hv.2.2.1 z hz).1.2.2.2.1])
/-- other things have changed -/
theorem rowsC_f (hv : gInv g gh R AR I0 AI0) (hq : gO g q 2) (h16 : nr ≤ 16) (w : rowsC gh AR I AI q b n nr nt cl) (e : ∀ y, gO g y 0 → gh 4 y = q → gh 5 y < nr → (∀ j, j ≠ 13 → j ≠ 14 → I' y j = I y j) ∧ AI' (gh 3 y) = AI (gh 3 y)) : rowsC gh AR I' AI' q b n nr nt cl := fun r hr => by
  refine ⟨(w r hr).1, fun y hy => ?_⟩
  obtain ⟨y', hy', h0, h4, h5⟩ := (hv.2.2.2.1 q hq).1.2.2.1 r (by omega)
  have ey : y = y' := Option.some.inj (hy.symm.trans hy')
  subst ey
  obtain ⟨e1, e2⟩ := e y h0 h4 (by omega)
  have z := (w r hr).2 y hy
  rw [e1 0 (by decide) (by decide), e2]
  exact ⟨z.1, kLn_f e1 z.2⟩
/-- one line more -/
theorem rowsC_s (hv : gInv g gh R AR I0 AI0) (hq : gO g q 2) (h15 : nr ≤ 15) (h0 : gO g ln 0) (h4 : gh 4 ln = q) (h5 : gh 5 ln = nr) (w : rowsC gh AR I AI q b n nr nt cl) {t : Nat} (hg : LG b n (sUp nt nr t) (sUp cl nr x) nr) (hk : (I ln 0).toInt = kdT b n t) (hl : kLn b n nr nt cl (t + 3) (I ln) (AI (gh 3 ln)) (kdT b n t)) : rowsC gh AR I AI q b n (nr + 1) (sUp nt nr t) (sUp cl nr x) := fun r hr => by
  have hc := rowsC_cl w
  by_cases k : r = nr
  · subst k
    refine ⟨hg, fun y hy => ?_⟩
    have z := (hv.2.2.2.1 q hq).1.2.2.2 ln h0 h4
    rw [h5] at z
    have ey : y = ln := Option.some.inj (hy.symm.trans z)
    subst ey
    rw [sUp_s]
    refine ⟨hk, ?_⟩
    have g2 := LG_b hg (kd := kdT b n t) (by rw [sUp_s])
    by_cases k3 : kdT b n t = 0
    · unfold kLn at hl ⊢
      rw [if_neg (by omega), if_neg (by omega), if_neg (by omega), if_neg (by omega), if_neg (by omega), if_neg (by omega), if_neg (by omega)] at hl ⊢
      exact hl
    · have g3 := g2 k3
      rw [sUp_s, sBody_cg (fun u hu => sUp_k (by omega)) (fun u hu => sUp_k (by omega))] at g3
      have cF9 : ∀ s, 0 ≤ pFd b n nt r s → cF b n r (sUp nt r t) (sUp cl r x) s = cF b n r nt cl s := fun s a => by
        have c := pFd_r (b := b) (n := n) (r := r) (nt := nt) s
        unfold cF
        rw [show pFd b n (sUp nt r t) r s = pFd b n nt r s from pFd_cg (nt' := sUp nt r t) (nt := nt) (fun u hu => sUp_k (by omega)) s, sUp_k (by omega)]
      refine kLn_cg (fun e => ?_) (fun e => ?_) (fun u hu => sUp_k (by omega)) hl
      · rw [e] at g3
        have gg := gJoi (show (sJoi b n r nt cl (t + 3)).1 = 0 from g3.1)
        exact ⟨cF9 _ gg.1, cF9 _ gg.2.1⟩
      · rw [e] at g3
        have gg := gRng hc (show (sRng b n r nt cl (t + 3)).1 = 0 from g3.1)
        exact ⟨cF9 _ gg.1, cF9 _ gg.2.1⟩
  · have z := w r (by omega)
    refine ⟨LG_cg (fun u hu => sUp_k (by omega)) (fun u hu => sUp_k (by omega)) z.1, fun y hy => ?_⟩
    rw [sUp_k k]
    obtain ⟨z1, z2⟩ := z.2 y hy
    exact ⟨z1, kLn_G (fun u hu => hc u (by omega)) z.1 (fun u hu => sUp_k (by omega)) (fun u hu => sUp_k (by omega)) z2⟩
end RowsC
/-- what a call of plan leaves of the class's bags and lines -/
def plC (g : gG) (gh : gGh) (AR : gR) (I AI I' AI' : gI) (x pA q bA : Nat) (b : tTx) (n : Nat) (z : Int) : Prop :=
  (z < 0 ∧ (∀ o, gO g o 4 → I' o = I o) ∧ (∀ o, gh 9 o = 1 → AI' o = AI o) ∧ (∀ k, k ≠ 1 → I' x k = I x k) ∧ ∀ y, gO g y 0 → gh 4 y = pA → AI' (gh 3 y) = AI (gh 3 y)) ∨
  (0 ≤ z ∧ rowsC gh AR I' AI' q b n (sPlF b n).1 (sPlF b n).2.1 (sPlF b n).2.2.1 ∧ (∀ r, r < 16 → (I' (rob AR bA r) 3).toInt = 0 ∧ (I' (rob AR (gh 35 0) r) 3).toInt = 0) ∧
    (∀ o, gO g o 4 → (∀ r, r < 16 → rob AR bA r ≠ o) → (∀ r, r < 16 → rob AR (gh 35 0) r ≠ o) → o ≠ gh 37 0 → I' o = I o) ∧ (∀ o, gh 9 o = 1 → AI' o = AI o) ∧ (I' x 15).toInt = 0 ∧ (I' x 16).toInt = 0 ∧ (I' x 17).toInt = 0)
theorem zk3 {I I' : gI} {y o : Nat} (e : I' = gup2 I y 3 (iI 0)) (h : (I o 3).toInt = 0) : (I' o 3).toInt = 0 := by
  rw [e]
  by_cases q : o = y
  · subst q; rw [gup2_s]; rfl
  · rw [gup2_a _ _ q]; exact h
theorem zx3 {I I' : gI} {x k o : Nat} {v : Int32} (e : I' = gup2 I x k v) (hk : k ≠ 3) (h : (I o 3).toInt = 0) : (I' o 3).toInt = 0 := by
  rw [e, gup2_k _ _ (fun q => hk q.symm)]; exact h
