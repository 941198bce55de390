/-! what the whole text tells, where it is read to its end: lines, their names and columns, tables -/
def sParF (b : tTx) (n : Nat) : Nat → Nat → (Nat → Nat) → (Nat → Int) → Int → Nat → Nat × (Nat → Nat) × (Nat → Int) × Int
  | 0, nr, nt, cl, tb, _ => (nr, nt, cl, tb)
  | f + 1, nr, nt, cl, tb, h =>
    if pK b n h = 0 then (nr, nt, cl, tb)
    else if (sLine b n nr nt cl tb h).1 = 0 then
      sParF b n f (nr + 1) (sUp nt nr (h + 1)) (sUp cl nr (sLine b n nr nt cl tb h).2.2) (if pK b n h = 3 ∧ pV b n h = 0 then tb + 1 else tb) (sLine b n nr nt cl tb h).2.1
    else (nr, nt, cl, tb)
section ParF
variable {b : tTx} {n nr h f m : Nat} {nt : Nat → Nat} {cl : Nat → Int} {tb tb2 : Int} {S : Nat × (Nat → Nat) × (Nat → Int) × Int} {r : pR}
theorem sParF_e (hs : S = sParF b n m nr nt cl tb h) (hk : pK b n h = 0 ∨ m = 0) : S = (nr, nt, cl, tb) := by
  rcases m with _ | m
  · rw [hs]; rfl
  · rw [hs, sParF, if_pos (by omega)]
theorem sParF_s (hs : S = sParF b n m nr nt cl tb h) (hm : m = f + 1) (hk : pK b n h ≠ 0) (er : r = sLine b n nr nt cl tb h) (h0 : r.1 = 0) (e2 : tb2 = if pK b n h = 3 ∧ pV b n h = 0 then tb + 1 else tb) : S = sParF b n f (nr + 1) (sUp nt nr (h + 1)) (sUp cl nr r.2.2) tb2 r.2.1 := by
  rw [hs, hm, sParF, if_neg hk, ← er, if_pos h0, e2]
end ParF
def sPlF (b : tTx) (n : Nat) : Nat × (Nat → Nat) × (Nat → Int) × Int := sParF b n 17 0 (fun _ => 0) (fun _ => 0) 0 0
theorem gInv_un {g : gG} {gh : gGh} {R AR : gR} {I AI : gI} (h : gInv g (ghF 1 gh) R AR I AI) (h37 : gh 42 0 ≠ 1) : gInv g gh R AR I AI := by
  obtain ⟨h1, h2, h3, h4, h5, h6, h7, h8⟩ := h
  exact ⟨h1, h2, h3, h4, h5, h6, h7, h8.1, h8.2.1, h8.2.2.1, fun q => absurd q h37⟩
theorem pLn_f {g : gG} {gh : gGh} {R AR : gR} {I0 I I' AI : gI} {J : gJ} {q : Nat} {b : tTx} {n nr : Nat} {nt : Nat → Nat} {cl : Nat → Int} (hv : gInv g gh R AR I0 AI) (hq : gO g q 2) (h : pLn gh AR I J q b n nr nt cl) (f : ∀ b c, gO g b c → c ≠ 4 → c ≠ 6 → I' b = I b) : pLn gh AR I' J q b n nr nt cl := by
  obtain ⟨e1, e2, e3, e4⟩ := h
  refine ⟨by rw [f q 2 hq (by decide) (by decide)]; exact e1, e2, fun r hr y hy => ?_, e4⟩
  obtain ⟨y', hy', hyO, _⟩ := (hv.2.2.2.1 q hq).1.2.2.1 r (by omega)
  have ey : y = y' := Option.some.inj (hy.symm.trans hy')
  subst ey
  rw [f y 0 hyO (by decide) (by decide)]
  exact e3 r hr y hy
/-- what a call of plan leaves of the class: the old plan where it failed, else what the text tells -/
def plE (g : gG) (gh : gGh) (AR : gR) (I : gI) (J : gJ) (AI : gI) (R' : gR) (I' : gI) (J' : gJ) (AI' : gI) (x pA q bA nA : Nat) (b : tTx) (n : Nat) (z : Int) : Prop :=
  (z < 0 ∧ xS g gh R' AR x pA bA nA ∧ R' (gh 21 0) 1 = some q ∧ I' pA = I pA ∧ (∀ y, gO g y 0 → gh 4 y = pA → I' y = I y ∧ J' y = J y) ∧ I' (gh 37 0) 3 = I (gh 37 0) 3 ∧ AI' (gh 0 (gh 37 0)) = AI (gh 0 (gh 37 0))) ∨
  (0 ≤ z ∧ xS g gh R' AR x q bA nA ∧ R' (gh 21 0) 1 = some pA ∧ pLn gh AR I' J' q b n (sPlF b n).1 (sPlF b n).2.1 (sPlF b n).2.2.1 ∧ (I' q 2).toInt = (sPlF b n).2.2.2 ∧ (I' (gh 37 0) 3).toInt = 0)
