/-! a line that was read is a good line -/
section LcG
variable {b : tTx} {n : Nat} {nt nt' : Nat → Nat} {cl cl' : Nat → Int} {r : Nat} {f P : Nat → Int32}
theorem LG_b {kd : Int} (h : LG b n nt cl r) (e : kdT b n (nt r) = kd) (hk : kd ≠ 0) : (sBody b n r nt cl kd (nt r + 3)).1 = 0 ∧ (sBody b n r nt cl kd (nt r + 3)).2.2 = cl r := by
  have q := h.2
  rw [show bTk b n (nt r) = nt r + 3 from if_neg (by omega), e] at q
  exact ⟨q.1, q.2.1⟩
theorem LG_1 (h : LG b n nt cl r) (e : kdT b n (nt r) = 1) : (sSel b n r nt cl (nt r + 3)).1 = 0 ∧ (sSel b n r nt cl (nt r + 3)).2.2 = cl r := LG_b h e (by decide)
theorem LG_2 (h : LG b n nt cl r) (e : kdT b n (nt r) = 2) : (sPrj b n r nt cl (nt r + 3)).1 = 0 ∧ (sPrj b n r nt cl (nt r + 3)).2.2 = cl r := LG_b h e (by decide)
theorem LG_3 (h : LG b n nt cl r) (e : kdT b n (nt r) = 3) : (sJoi b n r nt cl (nt r + 3)).1 = 0 ∧ (sJoi b n r nt cl (nt r + 3)).2.2 = cl r := LG_b h e (by decide)
theorem LG_4 (h : LG b n nt cl r) (e : kdT b n (nt r) = 4 ∨ kdT b n (nt r) = 5) : (sTwo b n r nt cl (nt r + 3)).1 = 0 ∧ (sTwo b n r nt cl (nt r + 3)).2.2 = cl r := by
  rcases e with e | e
  · exact LG_b h e (by decide)
  · exact LG_b h e (by decide)
theorem LG_6 (h : LG b n nt cl r) (e : kdT b n (nt r) = 6) : (sRl b n r nt cl (nt r + 3)).1 = 0 ∧ (sRl b n r nt cl (nt r + 3)).2.2 = cl r := LG_b h e (by decide)
theorem LG_7 (h : LG b n nt cl r) (e : kdT b n (nt r) = 7) : (sGrp b n r nt cl (nt r + 3)).1 = 0 ∧ (sGrp b n r nt cl (nt r + 3)).2.2 = cl r := LG_b h e (by decide)
theorem LG_8 (h : LG b n nt cl r) (e : kdT b n (nt r) = 8) : (sRng b n r nt cl (nt r + 3)).1 = 0 ∧ (sRng b n r nt cl (nt r + 3)).2.2 = cl r := LG_b h e (by decide)
theorem kLn_G (hc : ∀ u, u < r → 1 ≤ cl u ∧ cl u ≤ 4) (h : LG b n nt cl r) (e : ∀ u, u < r → nt' u = nt u) (e2 : ∀ u, u < r → cl' u = cl u) (w : kLn b n r nt cl (nt r + 3) f P (kdT b n (nt r))) : kLn b n r nt' cl' (nt r + 3) f P (kdT b n (nt r)) := by
  have q : ∀ t, 0 ≤ pFd b n nt r t → cF b n r nt' cl' t = cF b n r nt cl t := fun t a => by
    have c := pFd_r (b := b) (n := n) (r := r) (nt := nt) t
    unfold cF
    rw [pFd_cg e, e2 _ (by omega)]
  refine kLn_cg (fun k => ?_) (fun k => ?_) e w
  · have g := gJoi (LG_3 h k).1
    exact ⟨q _ g.1, q _ g.2.1⟩
  · have g := gRng hc (LG_8 h k).1
    exact ⟨q _ g.1, q _ g.2.1⟩
theorem tld_T (e : kdT b n (nt r) = 3) (d : Nat) : tld (lcT b n nt cl r) d ↔ ∃ j, j < iCnt nxT (spC b n) 5 (nt r + 3 + 3) ∧ pV b n (iPos nxT (nt r + 3 + 3) j + 2) = (d : Int) := by
  unfold tld
  show (∃ k : Nat, (k : Int) < ((lcN b n nt r : Nat) : Int) ∧ lcP b n nt r k 1 = (d : Int)) ↔ _
  rw [lcN_3 e]
  constructor
  · rintro ⟨k, hk, hq⟩
    rw [lcP_3 e] at hq
    exact ⟨k, by omega, hq⟩
  · rintro ⟨k, hk, hq⟩
    exact ⟨k, by omega, by rw [lcP_3 e]; exact hq⟩
theorem jC_T {c : LC} {L : List Int} (h : ∀ d : Nat, tld c d ↔ (d : Int) ∈ L) : ∀ m : Nat, jC L m = ((jc c m : Nat) : Int)
  | 0 => rfl
  | m + 1 => by
    rw [jC, jC_T h m]
    by_cases q : tld c m
    · rw [if_pos ((h m).mp q), jc_k q]; omega
    · rw [if_neg (fun z => q ((h m).mpr z)), jc_s q]; omega
theorem lc_good (hc : ∀ u, u < r → 1 ≤ cl u ∧ cl u ≤ 4) (h1 : 1 ≤ cl r) (h : LG b n nt cl r) (hk : kdT b n (nt r) ≠ 0) : cOK (lcT b n nt cl r) r cl ∧ cZ (lcT b n nt cl r) r cl := by
  have NO : ∀ {k : Int} {p : Prop}, kdT b n (nt r) ≠ k → (lcT b n nt cl r).1 0 = k → p := fun a c => absurd c a
  have e9 : (lcT b n nt cl r).1 0 = kdT b n (nt r) := rfl
  have eF : (lcT b n nt cl r).1 2 = pFd b n nt r (nt r + 3) := lcF_v hk
  have lF := pFd_r (b := b) (n := n) (r := r) (nt := nt) (nt r + 3)
  have lS1 := pFd_r (b := b) (n := n) (r := r) (nt := nt) (nt r + 3 + 1)
  have lS2 := pFd_r (b := b) (n := n) (r := r) (nt := nt) (nt r + 3 + 2)
  have h4 := h.2.2.2
  have e4 : (lcT b n nt cl r).1 4 = ((lcN b n nt r : Nat) : Int) := rfl
  have e5 : (lcT b n nt cl r).1 5 = cl ((lcT b n nt cl r).1 2).toNat := rfl
  have e6 : (lcT b n nt cl r).1 6 = cl ((lcT b n nt cl r).1 3).toNat := rfl
  have eS : (lcT b n nt cl r).1 3 = lcS b n nt r := rfl
  have NN : ∀ {k : Int}, ((lcT b n nt cl r).1 0 = k) = (kdT b n (nt r) = k) := rfl
  rcases kd_cs h.1 with e | e | e | e | e | e | e | e
  · exact absurd e hk
  · have g := gSel (LG_1 h e).1
    have x := (LG_1 h e).2
    have s := lcS_0 (b := b) (n := n) (nt := nt) (r := r) (by omega) (by omega)
    rw [g.2.1] at x
    refine ⟨⟨⟨by omega, by omega, by omega, by omega, by omega, by omega⟩, fun q => by omega, NO (by omega), NO (by omega), NO (by omega), NO (by omega)⟩, fun _ => by rw [eF]; exact x.symm, fun q => by omega, NO (by omega), NO (by omega), NO (by omega), NO (by omega)⟩
  · have g := gPrj hc (LG_2 h e).1
    have x := (LG_2 h e).2
    have s := lcS_0 (b := b) (n := n) (nt := nt) (r := r) (by omega) (by omega)
    rw [g.2.1, ← lcN_2 e] at x
    refine ⟨⟨⟨by omega, by omega, by omega, by omega, by omega, by omega⟩, fun q => by omega, fun _ => ⟨by omega, fun k k9 => ?_⟩, NO (by omega), NO (by omega), NO (by omega)⟩, fun q => by omega, fun q => by omega, fun _ => x.symm, NO (by omega), NO (by omega), NO (by omega)⟩
    have q := g.2.2.2 k (by rw [← lcN_2 e]; omega)
    show lcP b n nt r k 0 < 4
    rw [lcP_2 e, if_pos rfl]
    unfold okE at q; omega
  · have g := gJoi (LG_3 h e).1
    have x := (LG_3 h e).2
    have s := lcS_1 (b := b) (n := n) (nt := nt) (r := r) (by omega)
    obtain ⟨g1, g2, ⟨L', g3, g4⟩, g5⟩ := g
    have ht : ∀ d : Nat, tld (lcT b n nt cl r) d ↔ (d : Int) ∈ L' := fun d => by rw [tld_T e, g4]
    have a5 := hc (pFd b n nt r (nt r + 3)).toNat (by omega)
    have a6 := hc (pFd b n nt r (nt r + 3 + 1)).toNat (by omega)
    have k5 : (lcT b n nt cl r).1 5 = cF b n r nt cl (nt r + 3) := by rw [e5, eF]; rfl
    have k6 : (lcT b n nt cl r).1 6 = cF b n r nt cl (nt r + 3 + 1) := by rw [e6, eS, s]; rfl
    rw [g3, jC_T ht, ← k5, ← k6] at x
    unfold cF at k5 k6
    have jo : jOK (lcT b n nt cl r) := ⟨by omega, by omega, by omega, by omega, by omega, fun k k9 => by
      have q := g5 k (by rw [← lcN_3 e]; omega)
      unfold okP cF at q
      show 0 ≤ lcP b n nt r k 0 ∧ lcP b n nt r k 0 < _ ∧ 0 ≤ lcP b n nt r k 1 ∧ lcP b n nt r k 1 < _
      rw [lcP_3 e, lcP_3 e, if_pos rfl, if_neg (by decide), k5, k6]; omega⟩
    refine ⟨⟨⟨by omega, by omega, by omega, by omega, by omega, by omega⟩, fun q => by omega, NO (by omega), fun _ => ⟨jo, rfl, rfl⟩, NO (by omega), NO (by omega)⟩, fun q => by omega, fun q => by omega, NO (by omega), fun _ => x.symm, NO (by omega), NO (by omega)⟩
  · have g := gTwo (LG_4 h e).1
    have x := (LG_4 h e).2
    have s := lcS_1 (b := b) (n := n) (nt := nt) (r := r) (by omega)
    obtain ⟨g1, g2, g3, g4⟩ := g
    rw [g3] at x
    refine ⟨⟨⟨by omega, by omega, by omega, by omega, by omega, by omega⟩, fun q => by omega, NO (by omega), NO (by omega), NO (by omega), NO (by omega)⟩, fun q => by omega, fun _ => ⟨by rw [eF]; exact x.symm, by rw [eS, s, eF]; exact g4⟩, NO (by omega), NO (by omega), NO (by omega), NO (by omega)⟩
  · have x := (LG_6 h e).2
    have g := sRl_h rfl (LG_6 h e).1
    have s := lcS_0 (b := b) (n := n) (nt := nt) (r := r) (by omega) (by omega)
    rw [g.2.1] at x
    have g2 := g.2.2
    refine ⟨⟨⟨by omega, by omega, by omega, by omega, by omega, by omega⟩, fun q => by omega, NO (by omega), NO (by omega), NO (by omega), NO (by omega)⟩, fun _ => by rw [eF]; exact x.symm, fun q => by omega, NO (by omega), NO (by omega), NO (by omega), NO (by omega)⟩
  · have g := gGrp (LG_7 h e).1
    have x := (LG_7 h e).2
    have s := lcS_0 (b := b) (n := n) (nt := nt) (r := r) (by omega) (by omega)
    rw [g.2.1] at x
    obtain ⟨g1, g2, g3, g4, g5⟩ := g
    rw [← lcN_7 e] at g4 g5 x g3
    have u9 : (lcT b n nt cl r).1 9 = pV b n (lcO b n nt r) - 16 := rfl
    have u10 : (lcT b n nt cl r).1 10 = if pV b n (lcO b n nt r) = 16 then 0 else pV b n (lcO b n nt r + 1) := rfl
    have g4 : 16 ≤ pV b n (lcO b n nt r) ∧ pV b n (lcO b n nt r) ≤ 19 := g4
    have g5 : pV b n (lcO b n nt r) ≠ 16 → 0 ≤ pV b n (lcO b n nt r + 1) ∧ pV b n (lcO b n nt r + 1) ≤ 3 := g5
    have w10 : 0 ≤ (lcT b n nt cl r).1 10 ∧ (lcT b n nt cl r).1 10 ≤ 3 := by
      rw [u10]
      by_cases z : pV b n (lcO b n nt r) = 16
      · rw [if_pos z]; decide
      · rw [if_neg z]; exact g5 z
    refine ⟨⟨⟨by omega, by omega, by omega, by omega, by omega, by omega⟩, fun q => by omega, NO (by omega), NO (by omega), fun _ => ⟨⟨by omega, by omega⟩, ⟨by omega, by omega⟩, w10.1, w10.2⟩, NO (by omega)⟩, fun q => by omega, fun q => by omega, NO (by omega), NO (by omega), fun _ => by omega, NO (by omega)⟩
  · have g := gRng hc (LG_8 h e).1
    have x := (LG_8 h e).2
    have s := lcS_2 (b := b) (n := n) (nt := nt) (r := r) e
    obtain ⟨g1, g2, g3, g4, g5⟩ := g
    have a5 := hc (pFd b n nt r (nt r + 3)).toNat (by omega)
    have a6 := hc (pFd b n nt r (nt r + 3 + 2)).toNat (by omega)
    have k5 : (lcT b n nt cl r).1 5 = cF b n r nt cl (nt r + 3) := by rw [e5, eF]; rfl
    have k6 : (lcT b n nt cl r).1 6 = cF b n r nt cl (nt r + 3 + 2) := by rw [e6, eS, s]; rfl
    rw [g3] at x
    rw [← lcN_8 e, ← e4, ← k5, ← k6] at x
    rw [← k5, ← k6] at g4 g5
    have rx : ¬ ((lcT b n nt cl r).1 5 + (lcT b n nt cl r).1 6 ≤ 4 ∧ (lcT b n nt cl r).1 4 = (lcT b n nt cl r).1 5) → False := fun z => by
      have := rX_y z; omega
    have rx := Classical.not_not.mp rx
    rw [rX_e rx] at x
    unfold cF at k5 k6
    unfold okP at g4
    have ro : rOK (lcT b n nt cl r) := ⟨by omega, by omega, rx.1, rx.2, g4.1, g4.2.1, by have q := g4.2.2.1; exact q, g4.2.2.2.1, fun k k9 => by
      have q := g5 k (by rw [← lcN_8 e]; omega)
      unfold okE at q
      show -1 ≤ lcP b n nt r k 0 ∧ lcP b n nt r k 0 < _
      rw [lcP_8 e, if_pos rfl]; omega⟩
    refine ⟨⟨⟨by omega, by omega, by omega, by omega, by omega, by omega⟩, fun q => by omega, NO (by omega), NO (by omega), NO (by omega), fun _ => ⟨ro, rfl, rfl⟩⟩, fun q => by omega, fun q => by omega, NO (by omega), NO (by omega), NO (by omega), fun _ => x.symm⟩
end LcG
