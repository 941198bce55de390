/-! what the reading of a line answers: the fault's kind (0: none), the token where it stands, a value -/
abbrev pR : Type := Int × Nat × Int
def thn (r : pR) (f : Nat → Int → pR) : pR := if r.1 = 0 then f r.2.1 r.2.2 else r
theorem thn_y {r s x : pR} {f : Nat → Int → pR} (e : r = s) (h : r.1 = 0) (k : f r.2.1 r.2.2 = x) : thn s f = x := by subst e; exact (if_pos h).trans k
theorem thn_x {r s : pR} {f : Nat → Int → pR} (e : r = s) (h : r.1 ≠ 0) : thn s f = r := by subst e; exact if_neg h
theorem ite_y {p : Prop} [Decidable p] {a c x : pR} (h : p) (k : a = x) : (if p then a else c) = x := (if_pos h).trans k
theorem ite_n {p : Prop} [Decidable p] {a c x : pR} (h : ¬ p) (k : c = x) : (if p then a else c) = x := (if_neg h).trans k
theorem thn_a {r : pR} {f k : Nat → Int → pR} : thn (thn r f) k = thn r (fun h x => thn (f h x) k) := by
  by_cases q : r.1 = 0
  · rw [thn_y rfl q rfl, thn_y (f := fun h x => thn (f h x) k) rfl q rfl]
  · rw [thn_x rfl q, thn_x (f := fun h x => thn (f h x) k) rfl q, thn_x rfl q]
theorem thn_v {r : pR} {F : Nat → Int → pR} {v : Int} (h : r.1 = 0 → v = r.2.2) : thn r (fun t _ => F t v) = thn r F := by
  by_cases q : r.1 = 0
  · rw [thn_y (f := fun t _ => F t v) rfl q rfl, thn_y (f := F) rfl q rfl, h q]
  · rw [thn_x (f := F) rfl q, thn_x (f := fun t _ => F t v) rfl q]
section Spec
variable (b : tTx) (n : Nat)
def sTk (kd : Int) (h : Nat) : pR := if pK b n h = kd then (0, h + 1, 0) else (1, h, 0)
def sTw (w : Int) (h : Nat) : pR := if pK b n h = 3 ∧ pV b n h = w then (0, h + 1, 0) else (1, h, 0)
def sCol (c : Int) (h : Nat) : pR := if pCf b n c h = 0 then (0, h + 1, pV b n h) else (pCf b n c h, h, 0)
def sTest (c k : Int) (h : Nat) : pR :=
  if pCf b n c h = 0 then
    (if 8 ≤ k then (4, h, 0) else
      if pK b n (h + 1) = 61 ∨ pK b n (h + 1) = 60 ∨ pK b n (h + 1) = 62 then
        (if pK b n (h + 2) = 4 then (0, h + 3, 0) else if pCf b n c (h + 2) = 0 then (0, h + 3, 0) else (pCf b n c (h + 2), h + 2, 0))
      else (1, h + 1, 0))
  else (pCf b n c h, h, 0)
def sTests (c : Int) : Nat → Int → Nat → pR
  | 0, _, h => (4, h, 0)
  | f + 1, k, h => thn (sTest b n c k h) fun t _ => if pK b n t = 3 ∧ pV b n t = 11 then sTests c f (k + 1) (t + 1) else (0, t, c)
def sTerm (c k : Int) (h : Nat) : pR :=
  if pK b n h = 4 then (if 4 ≤ k then (4, h, 0) else (0, h + 1, 0))
  else if pCf b n c h = 0 then
    (if 4 ≤ k then (4, h, 0) else
      if pK b n (h + 1) = 43 ∨ pK b n (h + 1) = 45 then (if pK b n (h + 2) = 4 then (0, h + 3, 0) else (1, h + 2, 0)) else (0, h + 1, 0))
  else (pCf b n c h, h, 0)
def sTerms (c : Int) : Nat → Int → Nat → pR
  | 0, _, h => (4, h, 0)
  | f + 1, k, h => thn (sTerm b n c k h) fun t _ => if pK b n t = 44 then sTerms c f (k + 1) (t + 1) else (0, t, k + 1)
def sPair (c d k lim : Int) (h : Nat) : pR :=
  if pCf b n c h = 0 then (if lim ≤ k then (4, h, 0) else thn (sTk b n 61 (h + 1)) fun t _ => if pCf b n d t = 0 then (0, t + 1, pV b n t) else (pCf b n d t, t, 0))
  else (pCf b n c h, h, 0)
def jC (L : List Int) : Nat → Int
  | 0 => 0
  | m + 1 => jC L m + if (m : Int) ∈ L then 0 else 1
def sPairs (c d : Int) : Nat → Int → List Int → Nat → pR
  | 0, _, _, h => (4, h, 0)
  | f + 1, k, L, h => thn (sPair b n c d k 4 h) fun t v => if pK b n t = 44 then sPairs c d f (k + 1) (v :: L) (t + 1) else (0, t, c + jC (v :: L) d.toNat)
def sBy (c k : Int) (L : List Int) (h : Nat) : pR :=
  if pCf b n c h = 0 then (if pV b n h ∈ L then (2, h, 0) else if 3 ≤ k then (4, h, 0) else (0, h + 1, pV b n h)) else (pCf b n c h, h, 0)
def sBys (c : Int) : Nat → Int → List Int → Nat → pR
  | 0, _, _, h => (4, h, 0)
  | f + 1, k, L, h => thn (sBy b n c k L h) fun t v => if pK b n t = 44 then sBys c f (k + 1) (v :: L) (t + 1) else (0, t, k + 1)
def sFo (c x : Int) (h : Nat) : pR :=
  if pK b n h = 3 ∧ 16 ≤ pV b n h ∧ pV b n h ≤ 19 then (if pV b n h = 16 then (0, h + 1, x) else if pCf b n c (h + 1) = 0 then (0, h + 2, x) else (pCf b n c (h + 1), h + 1, 0)) else (1, h, 0)
def sTc (h : Nat) : pR := if pK b n h = 4 then (if 1 ≤ pV b n h ∧ pV b n h ≤ 4 then (0, h + 1, pV b n h) else (2, h, 0)) else (1, h, 0)
def sClo (x : Int) (h : Nat) : pR := if pK b n h = 59 then (if 4 < x then (5, h, 0) else (0, h + 1, x)) else (1, h, 0)
variable (nr : Nat) (nt : Nat → Nat) (cl : Nat → Int)
def cF (h : Nat) : Int := cl (pFd b n nt nr h).toNat
def sRl (h : Nat) : pR := if pRf b n nt nr h = 0 then (0, h + 1, cF b n nr nt cl h) else (pRf b n nt nr h, h, 0)
def sSel (h : Nat) : pR := thn (sRl b n nr nt cl h) fun t c => thn (sTw b n 10 t) fun t _ => sTests b n c 9 0 t
def sPrj (h : Nat) : pR := thn (sRl b n nr nt cl h) fun t c => sTerms b n c 5 0 t
def sJoi (h : Nat) : pR := thn (sRl b n nr nt cl h) fun t c => thn (sRl b n nr nt cl t) fun t d => thn (sTw b n 12 t) fun t _ => sPairs b n c d 5 0 [] t
def sTwo (h : Nat) : pR := thn (sRl b n nr nt cl h) fun t c => if pRf b n nt nr t = 0 then (if cF b n nr nt cl t = c then (0, t + 1, c) else (5, t, 0)) else (pRf b n nt nr t, t, 0)
def sGrp (h : Nat) : pR := thn (sRl b n nr nt cl h) fun t c => thn (sTw b n 13 t) fun t _ => thn (sBys b n c 4 0 [] t) fun t k => sFo b n c (k + 1) t
def rX (c d k : Int) : Int := if c + d ≤ 4 ∧ k = c then c else 5
def sRng (h : Nat) : pR := thn (sRl b n nr nt cl h) fun t c => thn (sTw b n 14 t) fun t _ => thn (sRl b n nr nt cl t) fun t d => thn (sTw b n 12 t) fun t _ => thn (sPair b n c d 0 1 t) fun t _ => thn (sTw b n 15 t) fun t _ => thn (sTerms b n (c + d) 5 0 t) fun t k => (0, t, rX c d k)
def sBody (kd : Int) (h : Nat) : pR :=
  if kd = 1 then sSel b n nr nt cl h else if kd = 2 then sPrj b n nr nt cl h else if kd = 3 then sJoi b n nr nt cl h else if kd = 4 ∨ kd = 5 then sTwo b n nr nt cl h
  else if kd = 6 then sRl b n nr nt cl h else if kd = 7 then sGrp b n nr nt cl h else if kd = 8 then sRng b n nr nt cl h else sTc b n h
def sNam (h : Nat) : pR := if pK b n h = 3 ∧ pV b n h = -1 then (if pFd b n nt nr h = -1 then (0, h + 1, 0) else (3, h, 0)) else (1, h, 0)
def sVk (h : Nat) : pR := thn (sTk b n 61 h) fun t _ => if pK b n t = 3 ∧ 1 ≤ pV b n t ∧ pV b n t ≤ 8 then (0, t + 1, pV b n t) else (1, t, 0)
def sHd (tb : Int) (h : Nat) : pR :=
  if pK b n h = 3 ∧ pV b n h = 0 then (if 16 ≤ nr then (4, h, 0) else if tb < (nr : Int) then (6, h, 0) else sNam b n nr nt (h + 1))
  else if pK b n h = 3 ∧ pV b n h = 9 then (if 16 ≤ nr then (4, h, 0) else thn (sNam b n nr nt (h + 1)) fun t _ => sVk b n t)
  else (1, h, 0)
def sLine (tb : Int) (h : Nat) : pR := thn (sHd b n nr nt tb h) fun t kd => thn (sBody b n nr nt cl kd t) fun t x => sClo b n x t
end Spec
def sUp {α : Type} (f : Nat → α) (k : Nat) (v : α) : Nat → α := fun j => if j = k then v else f j
theorem sUp_s {α : Type} {f : Nat → α} {k : Nat} {v : α} : sUp f k v k = v := if_pos rfl
theorem sUp_k {α : Type} {f : Nat → α} {j k : Nat} {v : α} (h : j ≠ k) : sUp f k v j = f j := if_neg h
/-- the whole text: the fault (8 times the place, and its kind) or 0; how many lines -/
def sPar (b : tTx) (n : Nat) : Nat → Nat → (Nat → Nat) → (Nat → Int) → Int → Nat → Int × Nat
  | 0, nr, _, _, _, _ => (0, nr)
  | f + 1, nr, nt, cl, tb, h =>
    if pK b n h = 0 then (0, nr)
    else if (sLine b n nr nt cl tb h).1 = 0 then
      sPar b n f (nr + 1) (sUp nt nr (h + 1)) (sUp cl nr (sLine b n nr nt cl tb h).2.2) (if pK b n h = 3 ∧ pV b n h = 0 then tb + 1 else tb) (sLine b n nr nt cl tb h).2.1
    else (8 * (tPs b n (sLine b n nr nt cl tb h).2.1 : Int) + (sLine b n nr nt cl tb h).1, nr)
section Loops
variable {b : tTx} {n : Nat} {c d k : Int} {h f m : Nat} {S r : pR} {L : List Int}
theorem sTests_go (hs : S = sTests b n c m k h) (hm : m = f + 1) (er : r = sTest b n c k h) (h0 : r.1 = 0) (hw : pK b n r.2.1 = 3 ∧ pV b n r.2.1 = 11) : S = sTests b n c f (k + 1) (r.2.1 + 1) := by
  rw [hs, hm, sTests]; exact thn_y er h0 (ite_y hw rfl)
theorem sTests_st (hs : S = sTests b n c m k h) (hm : m = f + 1) (er : r = sTest b n c k h) (h0 : r.1 = 0) (hw : ¬ (pK b n r.2.1 = 3 ∧ pV b n r.2.1 = 11)) : S = (0, r.2.1, c) := by
  rw [hs, hm, sTests]; exact thn_y er h0 (ite_n hw rfl)
theorem sTests_no (hs : S = sTests b n c m k h) (hm : m = f + 1) (er : r = sTest b n c k h) (h0 : r.1 ≠ 0) : S = r := by
  rw [hs, hm, sTests]; exact thn_x er h0
theorem sTests_z (hs : S = sTests b n c m k h) (hm : m = 0) : S = (4, h, 0) := by rw [hs, hm]; rfl
theorem sTerms_go (hs : S = sTerms b n c m k h) (hm : m = f + 1) (er : r = sTerm b n c k h) (h0 : r.1 = 0) (hw : pK b n r.2.1 = 44) : S = sTerms b n c f (k + 1) (r.2.1 + 1) := by
  rw [hs, hm, sTerms]; exact thn_y er h0 (ite_y hw rfl)
theorem sTerms_st (hs : S = sTerms b n c m k h) (hm : m = f + 1) (er : r = sTerm b n c k h) (h0 : r.1 = 0) (hw : ¬ (pK b n r.2.1 = 44)) : S = (0, r.2.1, k + 1) := by
  rw [hs, hm, sTerms]; exact thn_y er h0 (ite_n hw rfl)
theorem sTerms_no (hs : S = sTerms b n c m k h) (hm : m = f + 1) (er : r = sTerm b n c k h) (h0 : r.1 ≠ 0) : S = r := by
  rw [hs, hm, sTerms]; exact thn_x er h0
theorem sTerms_z (hs : S = sTerms b n c m k h) (hm : m = 0) : S = (4, h, 0) := by rw [hs, hm]; rfl
theorem sPairs_go (hs : S = sPairs b n c d m k L h) (hm : m = f + 1) (er : r = sPair b n c d k 4 h) (h0 : r.1 = 0) (hw : pK b n r.2.1 = 44) : S = sPairs b n c d f (k + 1) (r.2.2 :: L) (r.2.1 + 1) := by
  rw [hs, hm, sPairs]; exact thn_y er h0 (ite_y hw rfl)
theorem sPairs_st (hs : S = sPairs b n c d m k L h) (hm : m = f + 1) (er : r = sPair b n c d k 4 h) (h0 : r.1 = 0) (hw : ¬ (pK b n r.2.1 = 44)) : S = (0, r.2.1, c + jC (r.2.2 :: L) d.toNat) := by
  rw [hs, hm, sPairs]; exact thn_y er h0 (ite_n hw rfl)
theorem sPairs_no (hs : S = sPairs b n c d m k L h) (hm : m = f + 1) (er : r = sPair b n c d k 4 h) (h0 : r.1 ≠ 0) : S = r := by
  rw [hs, hm, sPairs]; exact thn_x er h0
theorem sPairs_z (hs : S = sPairs b n c d m k L h) (hm : m = 0) : S = (4, h, 0) := by rw [hs, hm]; rfl
theorem sBys_go (hs : S = sBys b n c m k L h) (hm : m = f + 1) (er : r = sBy b n c k L h) (h0 : r.1 = 0) (hw : pK b n r.2.1 = 44) : S = sBys b n c f (k + 1) (r.2.2 :: L) (r.2.1 + 1) := by
  rw [hs, hm, sBys]; exact thn_y er h0 (ite_y hw rfl)
theorem sBys_st (hs : S = sBys b n c m k L h) (hm : m = f + 1) (er : r = sBy b n c k L h) (h0 : r.1 = 0) (hw : ¬ (pK b n r.2.1 = 44)) : S = (0, r.2.1, k + 1) := by
  rw [hs, hm, sBys]; exact thn_y er h0 (ite_n hw rfl)
theorem sBys_no (hs : S = sBys b n c m k L h) (hm : m = f + 1) (er : r = sBy b n c k L h) (h0 : r.1 ≠ 0) : S = r := by
  rw [hs, hm, sBys]; exact thn_x er h0
theorem sBys_z (hs : S = sBys b n c m k L h) (hm : m = 0) : S = (4, h, 0) := by rw [hs, hm]; rfl
end Loops
/-! where the class's reading stands: its tokens, the token that is looked at, the lines so far -/
def pH (gh : gGh) (AR : gR) (I : gI) (J : gJ) (AI : gI) (AJ : gJ) (a q : Nat) (b : tTx) (n : Nat) (tl : Int) (nr : Nat) (nt : Nat → Nat) (cl : Nat → Int) (h : Nat) : Prop :=
  pTk gh AI AJ b n tl ∧ (I (gh 22 0) 4).toInt = tl ∧ (I a 3).toInt = (h : Int) ∧ (h : Int) < tl ∧ pLn gh AR I J q b n nr nt cl
section PH
variable {g : gG} {gh : gGh} {R AR : gR} {I I' : gI} {J : gJ} {AI AI' : gI} {AJ : gJ} {a q ln : Nat} {b : tTx} {n : Nat} {tl : Int} {nr : Nat} {nt : Nat → Nat} {cl : Nat → Int} {h : Nat}
theorem pH_h (w : pH gh AR I J AI AJ a q b n tl nr nt cl h) : (I a 3).toInt = (h : Int) := w.2.2.1
theorem pH_n (w : pH gh AR I J AI AJ a q b n tl nr nt cl h) : (I a 3).toInt.toNat = h := by have := w.2.2.1; omega
theorem pH_K (w : pH gh AR I J AI AJ a q b n tl nr nt cl h) : (AI (gh 24 0) (I a 3).toInt.toNat).toInt = pK b n h := by rw [pH_n w]; exact pTk_K w.1 w.2.2.2.1
theorem pH_P (w : pH gh AR I J AI AJ a q b n tl nr nt cl h) : (AI (gh 25 0) (I a 3).toInt.toNat).toInt = (tPs b n h : Int) := by rw [pH_n w]; exact pTk_P w.1 w.2.2.2.1
theorem pH_V (w : pH gh AR I J AI AJ a q b n tl nr nt cl h) : (AI (gh 26 0) (I a 3).toInt.toNat).toInt = pV b n h := by rw [pH_n w]; exact pTk_V w.1 w.2.2.2.1
theorem pH_N (w : pH gh AR I J AI AJ a q b n tl nr nt cl h) : AJ (gh 27 0) (I a 3).toInt.toNat = pN b n h := by rw [pH_n w]; exact pTk_N w.1 w.2.2.2.1
theorem pH_l (w : pH gh AR I J AI AJ a q b n tl nr nt cl h) : (I q 1).toInt = (nr : Int) := w.2.2.2.2.1
theorem pH_t (w : pH gh AR I J AI AJ a q b n tl nr nt cl h) : (I a 3).toInt < (I (gh 22 0) 4).toInt := by rw [w.2.1, w.2.2.1]; exact w.2.2.2.1
/-- the line alone has changed -/
theorem pH_ln (hv : gInv g gh R AR I AI) (hp : pS g gh R I a q ln) (w : pH gh AR I J AI AJ a q b n tl nr nt cl h) (f : ∀ b, b ≠ ln → I' b = I b) : pH gh AR I' J AI AJ a q b n tl nr nt cl h :=
  ⟨w.1, by rw [f _ (gO_ne (gR_pr0 hv hp.1).2 hp.2.2.2.2.1 (by decide))]; exact w.2.1, by rw [f a (gO_ne hp.1 hp.2.2.2.2.1 (by decide))]; exact w.2.2.1, w.2.2.2.1,
   pLn_c hv w.2.2.2.2 hp.2.2.1 hp.1 hp.2.2.2.2.2.1 hp.2.2.2.2.2.2.1 hp.2.2.2.2.1 (fun b _ h2 => f b h2)⟩
/-- the parts of the line have changed -/
theorem pH_ai {I0 AI0 : gI} (hv : gInv g gh R AR I0 AI0) (h1 : gO g a 1) (h0 : gO g ln 0) (w : pH gh AR I J AI AJ a q b n tl nr nt cl h) (f : ∀ b, b ≠ gh 3 ln → AI' b = AI b) : pH gh AR I J AI' AJ a q b n tl nr nt cl h := by
  have k := hv.2.2.2.2.2.2.1 _ (gR_pr0 hv h1).2
  have e2 := (hv.2.2.1 ln h0).1.2.2.1
  exact ⟨pTk_c w.1 (f _ (fun e => by have := k.1.2.2.2; rw [e, e2] at this; exact absurd this (by decide))) (f _ (fun e => by have := k.2.1.2.2; rw [e, e2] at this; exact absurd this (by decide))) (f _ (fun e => by have := k.2.2.1.2.2; rw [e, e2] at this; exact absurd this (by decide))), w.2⟩
/-- the next token -/
theorem pH_st (hv : gInv g gh R AR I AI) (h1 : gO g a 1) (hq : gO g q 2) (w : pH gh AR I J AI AJ a q b n tl nr nt cl h) (f : ∀ b, b ≠ a → I' b = I b) (hk : pK b n h ≠ 0) (e : (I' a 3).toInt = (I a 3).toInt + 1) : pH gh AR I' J AI AJ a q b n tl nr nt cl (h + 1) := by
  have s := pTk_s w.1 w.2.2.2.1 hk
  have e3 := w.2.2.1
  obtain ⟨l1, l2, l3, l4⟩ := w.2.2.2.2
  refine ⟨w.1, by rw [f _ (gO_ne (gR_pr0 hv h1).2 h1 (by decide))]; exact w.2.1, by omega, by omega, by rw [f q (gO_ne hq h1 (by decide))]; exact l1, l2, fun r hr y hy => ?_, l4⟩
  obtain ⟨y', hy', hyO, _⟩ := (hv.2.2.2.1 q hq).1.2.2.1 r (by omega)
  have ey : y = y' := Option.some.inj (hy.symm.trans hy')
  subst ey
  rw [f y (gO_ne hyO h1 (by decide))]
  exact l3 r hr y hy
theorem pH_s (w : pH gh AR I J AI AJ a q b n tl nr nt cl h) (hk : pK b n h ≠ 0) : (I a 3).toInt < (I (gh 22 0) 4).toInt - 1 := by
  have s := pTk_s w.1 w.2.2.2.1 hk
  rw [w.2.1, w.2.2.1]; omega
theorem pH_fd (hv : gInv g gh R AR I AI) (hq : gO g q 2) (w : pH gh AR I J AI AJ a q b n tl nr nt cl h) {z : Int} {nm : Int64} (en : nm = AJ (gh 27 0) (I a 3).toInt.toNat)
    (hz : (z = -1 ∧ ∀ j : Nat, (j : Int) < (I q 1).toInt → ∀ y, AR (gh 6 q) j = some y → J y 1 ≠ nm) ∨ (0 ≤ z ∧ z < (I q 1).toInt ∧ ∃ y, AR (gh 6 q) z.toNat = some y ∧ J y 1 = nm)) : z = pFd b n nt nr h :=
  pLn_fd w.2.2.2.2 (fun r hr => by obtain ⟨y, hy, _⟩ := (hv.2.2.2.1 q hq).1.2.2.1 r (by have := w.2.2.2.2.2.1; omega); exact ⟨y, hy⟩) (en.trans (pH_N w)) hz
theorem pH_c (w : pH gh AR I J AI AJ a q b n tl nr nt cl h) {z : Int} {y : Nat} (h0 : 0 ≤ z) (h1 : z < (I q 1).toInt) (hy : AR (gh 6 q) z.toNat = some y) : (I y 2).toInt = cl z.toNat := by
  have l := w.2.2.2.2
  have e := l.1
  exact (l.2.2.1 z.toNat (by omega) y hy).2
end PH
theorem pRf_1 {b : tTx} {n nr h : Nat} {nt : Nat → Nat} (k : ¬ (pK b n h = 3 ∧ pV b n h = -1)) : pRf b n nt nr h = 1 := if_neg k
theorem pRf_3 {b : tTx} {n nr h : Nat} {nt : Nat → Nat} (k : pK b n h = 3 ∧ pV b n h = -1) (e : pFd b n nt nr h < 0) : pRf b n nt nr h = 3 := by unfold pRf; rw [if_pos k, if_pos e]
theorem pRf_0 {b : tTx} {n nr h : Nat} {nt : Nat → Nat} (k : pK b n h = 3 ∧ pV b n h = -1) (e : ¬ pFd b n nt nr h < 0) : pRf b n nt nr h = 0 := by unfold pRf; rw [if_pos k, if_neg e]
theorem pRf_i {b : tTx} {n nr h : Nat} {nt : Nat → Nat} (e : pRf b n nt nr h = 0) : (pK b n h = 3 ∧ pV b n h = -1) ∧ 0 ≤ pFd b n nt nr h := by
  unfold pRf at e
  by_cases k : pK b n h = 3 ∧ pV b n h = -1
  · rw [if_pos k] at e
    by_cases q : pFd b n nt nr h < 0
    · rw [if_pos q] at e; exact absurd e (by decide)
    · exact ⟨k, by omega⟩
  · rw [if_neg k] at e; exact absurd e (by decide)
/-! hidden from the arithmetic -/
theorem tIz_t {P : Prop} (h : P) : tIz 1 P := Or.inl ⟨rfl, h⟩
theorem tIz_f {P : Prop} (h : ¬ P) : tIz 0 P := Or.inr ⟨rfl, h⟩
theorem tIz_r {z : Int} {P : Prop} (h : tIz z P) : z = 0 ∨ z = 1 := by rcases h with h | h; (· exact Or.inr h.1); (· exact Or.inl h.1)
def pIm (z x y : Int) : Prop := z = 0 → x = y
theorem pIm_n {z x y : Int} (h : z ≠ 0) : pIm z x y := fun e => absurd e h
theorem pIm_y {z x y : Int} (h : x = y) : pIm z x y := fun _ => h
theorem pr_no {k x : Int} {h : Nat} (e : ((k, h, x) : pR).1 = 0) (n : k ≠ 0) : False := n e
theorem pr_e {x x' y y' : Int} {h h' : Nat} (a : x = x') (c : h = h') (d : y = y') : ((x, h, y) : pR) = (x', h', y') := by rw [a, c, d]
theorem pr_r {r : pR} {x y : Int} {h : Nat} (a : x = r.1) (c : h = r.2.1) (d : y = r.2.2) : ((x, h, y) : pR) = r := by rw [a, c, d]
/-- the second columns that the pairs tell; the columns of a group -/
def pCn (f : Nat → Int32) (k : Int) (L : List Int) : Prop := ∀ x : Int, (∃ j : Nat, (j : Int) < k ∧ (f (2 * j + 1)).toInt = x) ↔ x ∈ L
def pBn (f : Nat → Int32) (k : Int) (L : List Int) : Prop := ∀ x : Int, (∃ j : Nat, (j : Int) < k ∧ (f j).toInt = x) ↔ x ∈ L
theorem pCn_0 {f : Nat → Int32} {k : Int} (h : k = 0) : pCn f k [] := fun x => ⟨fun ⟨j, hj, _⟩ => absurd hj (by omega), fun h => absurd h List.not_mem_nil⟩
theorem pBn_0 {f : Nat → Int32} {k : Int} (h : k = 0) : pBn f k [] := fun x => ⟨fun ⟨j, hj, _⟩ => absurd hj (by omega), fun h => absurd h List.not_mem_nil⟩
theorem pCn_s {f f' : Nat → Int32} {k v : Int} {L : List Int} (c : pCn f k L) (hk : 0 ≤ k) (e : ∀ j : Nat, (j : Int) < 2 * k → f' j = f j) (ev : (f' (2 * k + 1).toNat).toInt = v) : pCn f' (k + 1) (v :: L) := fun x => by
  constructor
  · rintro ⟨j, hj, ej⟩
    by_cases q : (j : Int) < k
    · exact List.mem_cons_of_mem _ ((c x).mp ⟨j, q, by rw [← e (2 * j + 1) (by omega)]; exact ej⟩)
    · have : 2 * j + 1 = (2 * k + 1).toNat := by omega
      rw [this, ev] at ej
      rw [ej]; exact List.mem_cons_self
  · intro h
    rcases List.mem_cons.mp h with h | h
    · exact ⟨k.toNat, by omega, by rw [show 2 * k.toNat + 1 = (2 * k + 1).toNat by omega, ev, h]⟩
    · obtain ⟨j, hj, ej⟩ := (c x).mpr h
      exact ⟨j, by omega, by rw [e (2 * j + 1) (by omega)]; exact ej⟩
theorem pBn_s {f f' : Nat → Int32} {k v : Int} {L : List Int} (c : pBn f k L) (hk : 0 ≤ k) (e : ∀ j : Nat, (j : Int) < k → f' j = f j) (ev : (f' k.toNat).toInt = v) : pBn f' (k + 1) (v :: L) := fun x => by
  constructor
  · rintro ⟨j, hj, ej⟩
    by_cases q : (j : Int) < k
    · exact List.mem_cons_of_mem _ ((c x).mp ⟨j, q, by rw [← e j q]; exact ej⟩)
    · have : j = k.toNat := by omega
      rw [this, ev] at ej
      rw [ej]; exact List.mem_cons_self
  · intro h
    rcases List.mem_cons.mp h with h | h
    · exact ⟨k.toNat, by omega, by rw [ev, h]⟩
    · obtain ⟨j, hj, ej⟩ := (c x).mpr h
      exact ⟨j, by omega, by rw [e j hj]; exact ej⟩
theorem jC_y {L : List Int} {i : Int} (h0 : 0 ≤ i) (h : i ∈ L) : jC L (i + 1).toNat = jC L i.toNat := by
  rw [show (i + 1).toNat = i.toNat + 1 by omega, jC, if_pos (by rw [show ((i.toNat : Nat) : Int) = i by omega]; exact h)]; omega
theorem jC_n {L : List Int} {i : Int} (h0 : 0 ≤ i) (h : ¬ i ∈ L) : jC L (i + 1).toNat = jC L i.toNat + 1 := by
  rw [show (i + 1).toNat = i.toNat + 1 by omega, jC, if_neg (by rw [show ((i.toNat : Nat) : Int) = i by omega]; exact h)]
/-- a line at its end: its columns, or more than 4 where it is unlike -/
def pB (f : Nat → Int32) (x : Int) : Prop := ((f 0).toInt ≠ 8 ∧ (f 2).toInt = x) ∨ ((f 0).toInt = 8 ∧ (f 2).toInt ≤ 4 ∧ (((f 5).toInt + (f 6).toInt ≤ 4 ∧ (f 8).toInt = (f 5).toInt ∧ x = (f 2).toInt) ∨ (¬ ((f 5).toInt + (f 6).toInt ≤ 4 ∧ (f 8).toInt = (f 5).toInt) ∧ x = 5)))
def pBz (z : Int) (f : Nat → Int32) (x : Int) : Prop := z = 0 → pB f x
def pJm (z : Int) (x y : Int64) : Prop := z = 0 → x = y
theorem pJm_n {z : Int} {x y : Int64} (h : z ≠ 0) : pJm z x y := fun e => absurd e h
theorem pJm_y {z : Int} {x y : Int64} (h : x = y) : pJm z x y := fun _ => h
def pNm (z x y : Int) : Prop := z ≠ 0 → x = y
theorem pBz_m {z x : Int} {f : Nat → Int32} (h0 : (f 0).toInt ≠ 8) (h : pIm z (f 2).toInt x) : pBz z f x := fun e => Or.inl ⟨h0, h e⟩
section PH2
variable {g : gG} {gh : gGh} {R AR : gR} {I I' I0 AI0 : gI} {J J' : gJ} {AI : gI} {AJ : gJ} {a q ln : Nat} {b : tTx} {n : Nat} {tl : Int} {nr : Nat} {nt : Nat → Nat} {cl : Nat → Int} {h : Nat}
/-- a line behind the last one has changed -/
theorem pH_g (hv : gInv g gh R AR I0 AI0) (h1 : gO g a 1) (hq : gO g q 2) (h0 : gO g ln 0) (h4 : gh 4 ln = q) (h5 : (gh 5 ln : Int) = (I q 1).toInt) (w : pH gh AR I J AI AJ a q b n tl nr nt cl h) (f : ∀ b, b ≠ ln → I' b = I b) : pH gh AR I' J AI AJ a q b n tl nr nt cl h := by
  obtain ⟨l1, l2, l3, l4⟩ := w.2.2.2.2
  refine ⟨w.1, by rw [f _ (gO_ne (gR_pr0 hv h1).2 h0 (by decide))]; exact w.2.1, by rw [f a (gO_ne h1 h0 (by decide))]; exact w.2.2.1, w.2.2.2.1, by rw [f q (gO_ne hq h0 (by decide))]; exact l1, l2, fun r hr y hy => ?_, l4⟩
  obtain ⟨y', hy', hyO, hy4, hy5⟩ := (hv.2.2.2.1 q hq).1.2.2.1 r (by omega)
  have ey : y = y' := Option.some.inj (hy.symm.trans hy')
  subst ey
  rw [f y (fun e => by rw [e] at hy5; omega)]
  exact l3 r hr y hy
theorem pH_J (hv : gInv g gh R AR I AI) (hp : pS g gh R I a q ln) (w : pH gh AR I J AI AJ a q b n tl nr nt cl h) (f : ∀ b, b ≠ ln → J' b = J b) : pH gh AR I J' AI AJ a q b n tl nr nt cl h := by
  obtain ⟨l1, l2, l3, l4⟩ := w.2.2.2.2
  refine ⟨w.1, w.2.1, w.2.2.1, w.2.2.2.1, l1, l2, fun r hr y hy => ?_, l4⟩
  obtain ⟨y', hy', hyO, hy4, hy5⟩ := (hv.2.2.2.1 q hp.2.2.1).1.2.2.1 r (by omega)
  have ey : y = y' := Option.some.inj (hy.symm.trans hy')
  subst ey
  have h7 := hp.2.2.2.2.2.2.1
  rw [f y (fun e => by rw [e] at hy5; omega)]
  exact l3 r hr y hy
/-- the line is kept -/
theorem pH_keep {x : Int} {h0 : Nat} (hv : gInv g gh R AR I0 AI0) (hp : pS g gh R I a q ln) (w : pH gh AR I J AI AJ a q b n tl nr nt cl h) (h15 : nr ≤ 15) (e1 : (I' q 1).toInt = (I q 1).toInt + 1) (t5 : ∀ b c, gO g b c → c ≠ 0 → c ≠ 2 → I' b = I b) (t1 : ∀ b j, j ≠ 13 → j ≠ 14 → gO g b 0 → I' b j = I b j)
    (ex : (I ln 2).toInt = x) (eN : J ln 1 = pN b n h0) (hno : pFd b n nt nr h0 = -1) : pH gh AR I' J AI AJ a q b n tl (nr + 1) (sUp nt nr h0) (sUp cl nr x) h := by
  obtain ⟨l1, l2, l3, l4⟩ := w.2.2.2.2
  have nN : ∀ r, r < nr → pN b n (nt r) ≠ pN b n h0 := fun r hr e => by
    have := pFd_at l4 hr e
    omega
  have hq := hp.2.2.1
  have eln : AR (gh 6 q) nr = some ln := by
    have z := (hv.2.2.2.1 q hq).1.2.2.2 ln hp.2.2.2.2.1 hp.2.2.2.2.2.1
    have h7 := hp.2.2.2.2.2.2.1
    rw [show gh 5 ln = nr by omega] at z
    exact z
  refine ⟨w.1, by rw [t5 _ 5 (gR_pr0 hv hp.1).2 (by decide) (by decide)]; exact w.2.1, by rw [t5 a 1 hp.1 (by decide) (by decide)]; exact w.2.2.1, w.2.2.2.1, by omega, by omega, fun r hr y hy => ?_, fun r s hr hs e => ?_⟩
  · obtain ⟨y', hy', hyO, _⟩ := (hv.2.2.2.1 q hq).1.2.2.1 r (by omega)
    have ey : y = y' := Option.some.inj (hy.symm.trans hy')
    subst ey
    rw [t1 y 2 (by decide) (by decide) hyO]
    by_cases k : r = nr
    · subst k
      have : y = ln := Option.some.inj (hy.symm.trans eln)
      subst this
      rw [sUp_s, sUp_s]; exact ⟨eN, ex⟩
    · rw [sUp_k k, sUp_k k]; exact l3 r (by omega) y hy
  · by_cases k : r = nr
    · by_cases m : s = nr
      · omega
      · rw [k, sUp_s, sUp_k m] at e
        exact absurd e.symm (nN s (by omega))
    · by_cases m : s = nr
      · rw [m, sUp_s, sUp_k k] at e
        exact absurd e (nN r (by omega))
      · rw [sUp_k k, sUp_k m] at e
        exact l4 r s (by omega) (by omega) e
/-- at the start -/
theorem pH_0 (hk : pTk gh AI AJ b n tl) (hl : (I (gh 22 0) 4).toInt = tl) (h1 : 1 ≤ tl) (h3 : (I a 3).toInt = 0) (e1 : (I q 1).toInt = 0) : pH gh AR I J AI AJ a q b n tl 0 nt cl 0 :=
  ⟨hk, hl, h3, by omega, e1, by omega, fun r hr => absurd hr (by omega), fun r s hr => absurd hr (by omega)⟩
end PH2
theorem sNam_0 {b : tTx} {n nr h : Nat} {nt : Nat → Nat} {r : pR} (e : r = sNam b n nr nt h) (h0 : r.1 = 0) : pFd b n nt nr h = -1 := by
  subst e
  unfold sNam at h0
  by_cases k : pK b n h = 3 ∧ pV b n h = -1
  · rw [if_pos k] at h0
    by_cases q : pFd b n nt nr h = -1
    · exact q
    · rw [if_neg q] at h0; exact (pr_no h0 (by decide)).elim
  · rw [if_neg k] at h0; exact (pr_no h0 (by decide)).elim
theorem sHd_0 {b : tTx} {n nr h : Nat} {nt : Nat → Nat} {tb : Int} {r : pR} (e : r = sHd b n nr nt tb h) (h0 : r.1 = 0) : pFd b n nt nr (h + 1) = -1 ∧ nr ≤ 15 ∧ ((pK b n h = 3 ∧ pV b n h = 0) ∨ (pK b n h = 3 ∧ pV b n h = 9)) := by
  subst e
  unfold sHd at h0
  by_cases k : pK b n h = 3 ∧ pV b n h = 0
  · rw [if_pos k] at h0
    by_cases q : 16 ≤ nr
    · rw [if_pos q] at h0; exact (pr_no h0 (by decide)).elim
    · rw [if_neg q] at h0
      by_cases m : tb < (nr : Int)
      · rw [if_pos m] at h0; exact (pr_no h0 (by decide)).elim
      · rw [if_neg m] at h0; exact ⟨sNam_0 rfl h0, by omega, Or.inl k⟩
  · rw [if_neg k] at h0
    by_cases k2 : pK b n h = 3 ∧ pV b n h = 9
    · rw [if_pos k2] at h0
      by_cases q : 16 ≤ nr
      · rw [if_pos q] at h0; exact (pr_no h0 (by decide)).elim
      · rw [if_neg q] at h0
        by_cases m : (sNam b n nr nt (h + 1)).1 = 0
        · exact ⟨sNam_0 rfl m, by omega, Or.inr k2⟩
        · rw [thn_x rfl m] at h0; exact absurd h0 m
    · rw [if_neg k2] at h0; exact (pr_no h0 (by decide)).elim
section Par
variable {b : tTx} {n nr h f m : Nat} {nt : Nat → Nat} {cl : Nat → Int} {tb tb2 : Int} {S : Int × Nat} {r : pR}
theorem sPar_e (hs : S = sPar b n m nr nt cl tb h) (hk : pK b n h = 0 ∨ m = 0) : S = (0, nr) := by
  rcases m with _ | m
  · rw [hs]; rfl
  · rw [hs, sPar, if_pos (by omega)]
theorem sPar_n (hs : S = sPar b n m nr nt cl tb h) (hm : m = f + 1) (hk : pK b n h ≠ 0) (er : r = sLine b n nr nt cl tb h) (h0 : r.1 ≠ 0) : S = (8 * (tPs b n r.2.1 : Int) + r.1, nr) := by
  rw [hs, hm, sPar, if_neg hk, ← er, if_neg h0]
theorem sPar_s (hs : S = sPar b n m nr nt cl tb h) (hm : m = f + 1) (hk : pK b n h ≠ 0) (er : r = sLine b n nr nt cl tb h) (h0 : r.1 = 0) (e2 : tb2 = if pK b n h = 3 ∧ pV b n h = 0 then tb + 1 else tb) : S = sPar b n f (nr + 1) (sUp nt nr (h + 1)) (sUp cl nr r.2.2) tb2 r.2.1 := by
  rw [hs, hm, sPar, if_neg hk, ← er, if_pos h0, e2]
end Par
theorem pS_at {g : gG} {gh : gGh} {R AR : gR} {I AI I0 : gI} {a q ln : Nat} (hv : gInv g gh R AR I0 AI) (hp : pS g gh R I a q ln) : AR (gh 6 q) (I q 1).toInt.toNat = some ln := by
  have z := (hv.2.2.2.1 q hp.2.2.1).1.2.2.2 ln hp.2.2.2.2.1 hp.2.2.2.2.2.1
  have h7 := hp.2.2.2.2.2.2.1
  rw [show gh 5 ln = (I q 1).toInt.toNat by omega] at z
  exact z
theorem sNam_x {b : tTx} {n nr h : Nat} {nt : Nat → Nat} (h0 : (sNam b n nr nt h).1 = 0) : (sNam b n nr nt h).2.2 = 0 := by
  unfold sNam at h0 ⊢
  by_cases k : pK b n h = 3 ∧ pV b n h = -1
  · rw [if_pos k]
    by_cases q : pFd b n nt nr h = -1
    · rw [if_pos q]
    · rw [if_neg q]
  · rw [if_neg k]
theorem sVk_x {b : tTx} {n h : Nat} (h0 : (sVk b n h).1 = 0) : (sVk b n h).2.2 ≠ 0 := by
  unfold sVk at h0 ⊢
  by_cases k : (sTk b n 61 h).1 = 0
  · rw [thn_y (f := _) rfl k rfl] at h0 ⊢
    by_cases q : pK b n (sTk b n 61 h).2.1 = 3 ∧ 1 ≤ pV b n (sTk b n 61 h).2.1 ∧ pV b n (sTk b n 61 h).2.1 ≤ 8
    · rw [if_pos q]; show pV b n (sTk b n 61 h).2.1 ≠ 0; omega
    · rw [if_neg q] at h0; exact (pr_no h0 (by decide)).elim
  · rw [thn_x rfl k] at h0; exact absurd h0 k
theorem sHd_k {b : tTx} {n nr h : Nat} {nt : Nat → Nat} {tb : Int} (h0 : (sHd b n nr nt tb h).1 = 0) : (pK b n h = 3 ∧ pV b n h = 0 → (sHd b n nr nt tb h).2.2 = 0) ∧ (¬ (pK b n h = 3 ∧ pV b n h = 0) → (sHd b n nr nt tb h).2.2 ≠ 0) := by
  unfold sHd at h0 ⊢
  by_cases k : pK b n h = 3 ∧ pV b n h = 0
  · rw [if_pos k] at h0 ⊢
    refine ⟨fun _ => ?_, fun h => absurd k h⟩
    by_cases q : 16 ≤ nr
    · rw [if_pos q]
    · rw [if_neg q] at h0 ⊢
      by_cases m : tb < (nr : Int)
      · rw [if_pos m]
      · rw [if_neg m] at h0 ⊢; exact sNam_x h0
  · rw [if_neg k] at h0 ⊢
    refine ⟨fun h => absurd h k, fun _ => ?_⟩
    by_cases k2 : pK b n h = 3 ∧ pV b n h = 9
    · rw [if_pos k2] at h0 ⊢
      by_cases q : 16 ≤ nr
      · rw [if_pos q] at h0; exact (pr_no h0 (by decide)).elim
      · rw [if_neg q] at h0 ⊢
        by_cases m : (sNam b n nr nt (h + 1)).1 = 0
        · rw [thn_y (f := fun t _ => sVk b n t) rfl m rfl] at h0 ⊢; exact sVk_x h0
        · rw [thn_x rfl m] at h0; exact absurd h0 m
    · rw [if_neg k2] at h0; exact (pr_no h0 (by decide)).elim
theorem sHd_tb {b : tTx} {n nr h : Nat} {nt : Nat → Nat} {tb tb2 kd : Int} {r : pR} (e : r = sHd b n nr nt tb h) (h0 : r.1 = 0) (ek : kd = r.2.2) (k1 : pIm kd tb2 (tb + 1)) (k2 : pNm kd tb2 tb) : tb2 = if pK b n h = 3 ∧ pV b n h = 0 then tb + 1 else tb := by
  subst e
  have w := sHd_k h0
  by_cases k : pK b n h = 3 ∧ pV b n h = 0
  · rw [if_pos k]; exact k1 (ek.trans (w.1 k))
  · rw [if_neg k]; exact k2 (by rw [ek]; exact w.2 k)
/-- what plan answers of a text b of n bytes -/
def sPl (b : tTx) (n : Nat) : Int × Nat := sPar b n 17 0 (fun _ => 0) (fun _ => 0) 0 0
def sPln (b : tTx) (n : Nat) : Int := if 900 < n then -1 else if (sPl b n).1 = 0 then ((sPl b n).2 : Int) else -2 - (sPl b n).1
theorem sPln_b {b : tTx} {n : Nat} (h : 900 < n) : sPln b n = -1 := if_pos h
theorem sPln_y {b : tTx} {n : Nat} (h : ¬ 900 < n) (e : (sPl b n).1 = 0) : sPln b n = ((sPl b n).2 : Int) := by unfold sPln; rw [if_neg h, if_pos e]
theorem sPln_n {b : tTx} {n : Nat} (h : ¬ 900 < n) (e : (sPl b n).1 ≠ 0) : sPln b n = -2 - (sPl b n).1 := by unfold sPln; rw [if_neg h, if_neg e]
theorem pr_x {r : pR} (h : r.1 = 0) : r = (0, r.2.1, r.2.2) := by rw [← h]
