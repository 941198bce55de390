section
/-! what a line holds, by tokens alone: items behind each other (nx: the token behind an item, sp: a separator there) -/
def iCnt (nx : Nat → Nat) (sp : Nat → Bool) : Nat → Nat → Nat
  | 0, _ => 0
  | f + 1, t => if sp (nx t) = true then iCnt nx sp f (nx t + 1) + 1 else 1
def iPos (nx : Nat → Nat) (t : Nat) : Nat → Nat
  | 0 => t
  | k + 1 => nx (iPos nx t k) + 1
/-- i items of F at most are read from h on, the next one is at hc -/
def iL (nx : Nat → Nat) (sp : Nat → Bool) (F h : Nat) (i : Int) (hc : Nat) : Prop :=
  0 ≤ i ∧ ((iCnt nx sp F h : Nat) : Int) = i + ((iCnt nx sp (F - i.toNat) hc : Nat) : Int) ∧ hc = iPos nx h i.toNat
section IL
variable {nx : Nat → Nat} {sp : Nat → Bool} {F h hc t : Nat} {i : Int}
theorem iL_0 : iL nx sp F h 0 h := sorry
theorem iL_p (w : iL nx sp F h i hc) : hc = iPos nx h i.toNat := sorry
theorem iL_go (w : iL nx sp F h i hc) (hF : i < (F : Int)) (ht : t = nx hc) (hs : sp t = true) : iL nx sp F h (i + 1) (t + 1) := sorry
theorem iL_st (w : iL nx sp F h i hc) (hF : i < (F : Int)) (ht : t = nx hc) (hs : sp t ≠ true) : ((iCnt nx sp F h : Nat) : Int) = i + 1 := sorry
end IL
section Items
variable (b : tTx) (n : Nat)
def nxT (t : Nat) : Nat := t + 3
def spA (t : Nat) : Bool := decide (pK b n t = 3 ∧ pV b n t = 11)
def nxE (t : Nat) : Nat := if pK b n t = 4 then t + 1 else if pK b n (t + 1) = 43 ∨ pK b n (t + 1) = 45 then t + 3 else t + 1
def spC (t : Nat) : Bool := decide (pK b n t = 44)
def nxB (t : Nat) : Nat := t + 1
/-- a term: its column or -1, its number -/
def teC (t : Nat) : Int := if pK b n t = 4 then -1 else pV b n t
def teN (t : Nat) : Int := if pK b n t = 4 then pV b n t else if pK b n (t + 1) = 43 then pV b n (t + 2) else if pK b n (t + 1) = 45 then - pV b n (t + 2) else 0
/-- the class's parts: tests, terms, pairs, columns -/
def qTest (P : Nat → Int32) (j t : Nat) : Prop := (P (4 * j)).toInt = pV b n t ∧ (P (4 * j + 1)).toInt = pK b n (t + 1) ∧ (P (4 * j + 2)).toInt = (if pK b n (t + 2) = 4 then -1 else pV b n (t + 2)) ∧ (P (4 * j + 3)).toInt = pV b n (t + 2)
def qTerm (P : Nat → Int32) (j t : Nat) : Prop := (P (2 * j)).toInt = teC b n t ∧ (P (2 * j + 1)).toInt = teN b n t
def qPair (P : Nat → Int32) (j t : Nat) : Prop := (P (2 * j)).toInt = pV b n t ∧ (P (2 * j + 1)).toInt = pV b n (t + 2)
def qBy (P : Nat → Int32) (j t : Nat) : Prop := (P j).toInt = pV b n t
end Items
/-- the first k items from h on, each as q says; w cells an item -/
def qAll (q : (Nat → Int32) → Nat → Nat → Prop) (nx : Nat → Nat) (P : Nat → Int32) (h : Nat) (k : Int) : Prop := ∀ j : Nat, (j : Int) < k → q P j (iPos nx h j)
def qLoc (q : (Nat → Int32) → Nat → Nat → Prop) (w : Nat) : Prop := ∀ (P P' : Nat → Int32) (j t : Nat), (∀ i, i < w * (j + 1) → P' i = P i) → q P j t → q P' j t
theorem qTest_l {b : tTx} {n : Nat} : qLoc (qTest b n) 4 := sorry
theorem qTerm_l {b : tTx} {n : Nat} : qLoc (qTerm b n) 2 := sorry
theorem qPair_l {b : tTx} {n : Nat} : qLoc (qPair b n) 2 := sorry
theorem qBy_l {b : tTx} {n : Nat} : qLoc (qBy b n) 1 := sorry
theorem qAll_0 {q : (Nat → Int32) → Nat → Nat → Prop} {nx : Nat → Nat} {P : Nat → Int32} {h : Nat} {k : Int} (e : k ≤ 0) : qAll q nx P h k := sorry
theorem qAll_s {q : (Nat → Int32) → Nat → Nat → Prop} {nx : Nat → Nat} {sp : Nat → Bool} {P P' : Nat → Int32} {F h hc w : Nat} {k : Int} (hq : qLoc q w) (a : qAll q nx P h k) (hl : iL nx sp F h k hc) (f : ∀ i : Nat, (i : Int) < (w : Int) * k → P' i = P i) (e : q P' k.toNat hc) : qAll q nx P' h (k + 1) := sorry
/-! where the tokens lie -/
section Where
variable {b : tTx} {n nr h : Nat} {nt : Nat → Nat} {cl : Nat → Int} {c d k lim : Int} {L : List Int} {r : pR}
theorem sTk_h (e : r = sTk b n k h) (h0 : r.1 = 0) : r.2.1 = h + 1 := sorry
theorem sTw_h (e : r = sTw b n k h) (h0 : r.1 = 0) : r.2.1 = h + 1 := sorry
theorem sRl_h (e : r = sRl b n nr nt cl h) (h0 : r.1 = 0) : r.2.1 = h + 1 ∧ r.2.2 = cF b n nr nt cl h ∧ 0 ≤ pFd b n nt nr h := sorry
theorem sTest_h (e : r = sTest b n c k h) (h0 : r.1 = 0) : r.2.1 = nxT h := sorry
theorem sTerm_h (e : r = sTerm b n c k h) (h0 : r.1 = 0) : r.2.1 = nxE b n h := sorry
theorem sPair_h (e : r = sPair b n c d k lim h) (h0 : r.1 = 0) : r.2.1 = nxT h ∧ r.2.2 = pV b n (h + 2) := sorry
theorem sBy_h (e : r = sBy b n c k L h) (h0 : r.1 = 0) : r.2.1 = nxB h ∧ r.2.2 = pV b n h := sorry
theorem pFd_c {nt' : Nat → Nat} : ∀ (f w : Nat), (∀ u, w ≤ u → u < w + f → nt' u = nt u) → pFdF b n nt' h f w = pFdF b n nt h f w := sorry
theorem pFd_lt : ∀ (f w : Nat), pFdF b n nt h f w < (w : Int) + f := sorry
end Where
/-! what a line of the class holds; h: where its body begins -/
section Line
variable (b : tTx) (n nr : Nat) (nt : Nat → Nat) (cl : Nat → Int) (h : Nat) (f P : Nat → Int32)
def lA : Int := pFd b n nt nr h
def kSel : Prop := (f 3).toInt = pFd b n nt nr h ∧ (f 4).toInt = -1 ∧ (f 8).toInt = ((iCnt nxT (spA b n) 9 (h + 2) : Nat) : Int) ∧ qAll (qTest b n) nxT P (h + 2) (f 8).toInt
def kPrj : Prop := (f 3).toInt = pFd b n nt nr h ∧ (f 4).toInt = -1 ∧ (f 8).toInt = ((iCnt (nxE b n) (spC b n) 5 (h + 1) : Nat) : Int) ∧ qAll (qTerm b n) (nxE b n) P (h + 1) (f 8).toInt
def kJoi : Prop := (f 3).toInt = pFd b n nt nr h ∧ (f 4).toInt = pFd b n nt nr (h + 1) ∧ (f 5).toInt = cF b n nr nt cl h ∧ (f 6).toInt = cF b n nr nt cl (h + 1) ∧ (f 8).toInt = ((iCnt nxT (spC b n) 5 (h + 3) : Nat) : Int) ∧ qAll (qPair b n) nxT P (h + 3) (f 8).toInt
def kTwo : Prop := (f 3).toInt = pFd b n nt nr h ∧ (f 4).toInt = pFd b n nt nr (h + 1)
def kOne : Prop := (f 3).toInt = pFd b n nt nr h ∧ (f 4).toInt = -1
def kFo (t : Nat) : Prop := (f 11).toInt = pV b n t ∧ (f 12).toInt = (if pV b n t = 16 then 0 else pV b n (t + 1))
def kGrp : Prop := (f 3).toInt = pFd b n nt nr h ∧ (f 4).toInt = -1 ∧ (f 8).toInt = ((iCnt nxB (spC b n) 4 (h + 2) : Nat) : Int) ∧ qAll (qBy b n) nxB P (h + 2) (f 8).toInt ∧ kFo b n f (nxB (iPos nxB (h + 2) ((f 8).toInt.toNat - 1)))
def kRng : Prop := (f 3).toInt = pFd b n nt nr h ∧ (f 4).toInt = pFd b n nt nr (h + 2) ∧ (f 5).toInt = cF b n nr nt cl h ∧ (f 6).toInt = cF b n nr nt cl (h + 2) ∧ (f 9).toInt = pV b n (h + 4) ∧ (f 10).toInt = pV b n (h + 6) ∧ (f 8).toInt = ((iCnt (nxE b n) (spC b n) 5 (h + 8) : Nat) : Int) ∧ qAll (qTerm b n) (nxE b n) P (h + 8) (f 8).toInt
def kLn (kd : Int) : Prop :=
  if kd = 1 then kSel b n nr nt h f P else if kd = 2 then kPrj b n nr nt h f P else if kd = 3 then kJoi b n nr nt cl h f P else if kd = 4 ∨ kd = 5 then kTwo b n nr nt h f
  else if kd = 6 then kOne b n nr nt h f else if kd = 7 then kGrp b n nr nt h f P else if kd = 8 then kRng b n nr nt cl h f P else (f 3).toInt = -1 ∧ (f 4).toInt = -1
end Line
/-- hidden from the arithmetic: where all went well -/
def zIf (z : Int) (p : Prop) : Prop := z = 0 → p
theorem zIf_n {z : Int} {p : Prop} (h : z ≠ 0) : zIf z p := sorry
theorem zIf_y {z : Int} {p : Prop} (h : p) : zIf z p := sorry
theorem pV_n {b : tTx} {n h : Nat} (e : pK b n h = 4) : 0 ≤ pV b n h ∧ pV b n h ≤ 9999 := sorry

end

section
def rmX0_addTestg : Room := { frames := 0, cells := 0, slots := 0, locals := 0 }
set_option maxHeartbeats 4000000 in
set_option maxRecDepth 100000 in
/-- one test more -/
theorem c_X0_addTestg (l : Launch) (g : gG) (gh : gGh) (I : gI) (R : gR) (J : gJ) (AI : gI) (AJ : gJ) (AR : gR) (a : Nat) (col : Int) (sign : Int) (oc : Int) (num : Int) (zcol : zr col) (zsign : zr sign) (zoc : zr oc) (znum : zr num) (hv : gInv g gh R AR I AI) (ha : gO g a 0) (hkd : (I a 0).toInt = 1) (hpc : (I a 8).toInt ≤ 7) (hc : 0 ≤ col ∧ col ≤ 3) (hc2 : -1 ≤ oc ∧ oc ≤ 3) : gMet l g yX0_addTest wsX0_addTest rmX0_addTestg [.ref a, .int (iI col), .int (iI sign), .int (iI oc), .int (iI num)] (I, R, J, AI, AJ, AR) (gQv g (fun w : gS => R = w.2.1 ∧ J = w.2.2.1 ∧ AJ = w.2.2.2.2.1 ∧ AR = w.2.2.2.2.2 ∧ (gInv g gh R AR (w.1) (w.2.2.2.1)) ∧ (∀ b, b ≠ a → (w.1) b = I b) ∧ (∀ b, b ≠ gh 3 a → (w.2.2.2.1) b = AI b) ∧ ((w.1) a 0 = I a 0) ∧ (((w.1) a 8).toInt = (I a 8).toInt + 1) ∧ (∀ j, j ≠ 8 → (w.1) a j = I a j) ∧ (∀ j : Nat, (j : Int) < 4 * (I a 8).toInt → (w.2.2.2.1) (gh 3 a) j = AI (gh 3 a) j) ∧ (((w.2.2.2.1) (gh 3 a) (4 * (I a 8).toInt + 0).toNat).toInt = col) ∧ (((w.2.2.2.1) (gh 3 a) (4 * (I a 8).toInt + 1).toNat).toInt = sign) ∧ (((w.2.2.2.1) (gh 3 a) (4 * (I a 8).toInt + 2).toNat).toInt = oc) ∧ (((w.2.2.2.1) (gh 3 a) (4 * (I a 8).toInt + 3).toNat).toInt = num))) := sorry
def rmX0_addTwog : Room := { frames := 0, cells := 0, slots := 0, locals := 0 }
set_option maxHeartbeats 4000000 in
set_option maxRecDepth 100000 in
/-- one term or pair more -/
theorem c_X0_addTwog (l : Launch) (g : gG) (gh : gGh) (I : gI) (R : gR) (J : gJ) (AI : gI) (AJ : gJ) (AR : gR) (a : Nat) (one : Int) (two : Int) (zone : zr one) (ztwo : zr two) (hv : gInv g gh R AR I AI) (ha : gO g a 0) (hkd : (I a 0).toInt = 2 ∨ (I a 0).toInt = 8 ∨ (I a 0).toInt = 3) (hpc : (I a 8).toInt ≤ 3) (hc : -1 ≤ one ∧ one ≤ 3) (hc2 : (I a 0).toInt = 3 → 0 ≤ one ∧ 0 ≤ two ∧ two ≤ 3) : gMet l g yX0_addTwo wsX0_addTwo rmX0_addTwog [.ref a, .int (iI one), .int (iI two)] (I, R, J, AI, AJ, AR) (gQv g (fun w : gS => R = w.2.1 ∧ J = w.2.2.1 ∧ AJ = w.2.2.2.2.1 ∧ AR = w.2.2.2.2.2 ∧ (gInv g gh R AR (w.1) (w.2.2.2.1)) ∧ (∀ b, b ≠ a → (w.1) b = I b) ∧ (∀ b, b ≠ gh 3 a → (w.2.2.2.1) b = AI b) ∧ ((w.1) a 0 = I a 0) ∧ (((w.1) a 8).toInt = (I a 8).toInt + 1) ∧ (∀ j, j ≠ 8 → (w.1) a j = I a j) ∧ (∀ j : Nat, (j : Int) < 2 * (I a 8).toInt → (w.2.2.2.1) (gh 3 a) j = AI (gh 3 a) j) ∧ (((w.2.2.2.1) (gh 3 a) (2 * (I a 8).toInt + 1).toNat).toInt = two) ∧ (((w.2.2.2.1) (gh 3 a) (2 * (I a 8).toInt).toNat).toInt = one))) := sorry
def rmX0_addColumng : Room := { frames := 0, cells := 0, slots := 0, locals := 0 }
set_option maxHeartbeats 4000000 in
set_option maxRecDepth 100000 in
/-- one column more -/
theorem c_X0_addColumng (l : Launch) (g : gG) (gh : gGh) (I : gI) (R : gR) (J : gJ) (AI : gI) (AJ : gJ) (AR : gR) (a : Nat) (col : Int) (zcol : zr col) (hv : gInv g gh R AR I AI) (ha : gO g a 0) (hkd : (I a 0).toInt = 7) (hpc : (I a 8).toInt ≤ 2) (hc : 0 ≤ col ∧ col ≤ 3) : gMet l g yX0_addColumn wsX0_addColumn rmX0_addColumng [.ref a, .int (iI col)] (I, R, J, AI, AJ, AR) (gQv g (fun w : gS => R = w.2.1 ∧ J = w.2.2.1 ∧ AJ = w.2.2.2.2.1 ∧ AR = w.2.2.2.2.2 ∧ (gInv g gh R AR (w.1) (w.2.2.2.1)) ∧ (∀ b, b ≠ a → (w.1) b = I b) ∧ (∀ b, b ≠ gh 3 a → (w.2.2.2.1) b = AI b) ∧ ((w.1) a 0 = I a 0) ∧ (((w.1) a 8).toInt = (I a 8).toInt + 1) ∧ (∀ j, j ≠ 8 → (w.1) a j = I a j) ∧ (∀ j : Nat, (j : Int) < (I a 8).toInt → (w.2.2.2.1) (gh 3 a) j = AI (gh 3 a) j) ∧ (((w.2.2.2.1) (gh 3 a) (I a 8).toInt.toNat).toInt = col))) := sorry
def rmX0_hasColumng : Room := { frames := 0, cells := 0, slots := 0, locals := 0 }
set_option maxHeartbeats 4000000 in
set_option maxRecDepth 100000 in
/-- whether a column is told -/
theorem c_X0_hasColumng (l : Launch) (g : gG) (gh : gGh) (I : gI) (R : gR) (J : gJ) (AI : gI) (AJ : gJ) (AR : gR) (a : Nat) (col : Int) (zcol : zr col) (hv : gInv g gh R AR I AI) (ha : gO g a 0) : gMet l g yX0_hasColumn wsX0_hasColumn rmX0_hasColumng [.ref a, .int (iI col)] (I, R, J, AI, AJ, AR) (gQi g (fun (z : Int) (w : gS) => I = w.1 ∧ R = w.2.1 ∧ J = w.2.2.1 ∧ AI = w.2.2.2.1 ∧ AJ = w.2.2.2.2.1 ∧ AR = w.2.2.2.2.2 ∧ (z = 0 ∨ z = 1) ∧ (tIz z (∃ j : Nat, (j : Int) < (I a 8).toInt ∧ (AI (gh 3 a) j).toInt = col)))) := sorry
def rmX0_tellsSecondg : Room := { frames := 0, cells := 0, slots := 0, locals := 0 }
set_option maxHeartbeats 4000000 in
set_option maxRecDepth 100000 in
/-- whether a pair tells this column -/
theorem c_X0_tellsSecondg (l : Launch) (g : gG) (gh : gGh) (I : gI) (R : gR) (J : gJ) (AI : gI) (AJ : gJ) (AR : gR) (a : Nat) (col : Int) (zcol : zr col) (hv : gInv g gh R AR I AI) (ha : gO g a 0) : gMet l g yX0_tellsSecond wsX0_tellsSecond rmX0_tellsSecondg [.ref a, .int (iI col)] (I, R, J, AI, AJ, AR) (gQi g (fun (z : Int) (w : gS) => I = w.1 ∧ R = w.2.1 ∧ J = w.2.2.1 ∧ AI = w.2.2.2.1 ∧ AJ = w.2.2.2.2.1 ∧ AR = w.2.2.2.2.2 ∧ (z = 0 ∨ z = 1) ∧ (tIz z (∃ j : Nat, (j : Int) < (I a 8).toInt ∧ (AI (gh 3 a) (2 * j + 1)).toInt = col)))) := sorry
def rmX0_columnsOfJoing : Room := { frames := 1, cells := 0, slots := 0, locals := 22 }
set_option maxHeartbeats 4000000 in
set_option maxRecDepth 100000 in
/-- the columns of a join -/
theorem c_X0_columnsOfJoing (l : Launch) (g : gG) (gh : gGh) (L : List Int) (I : gI) (R : gR) (J : gJ) (AI : gI) (AJ : gJ) (AR : gR) (a : Nat) (hv : gInv g gh R AR I AI) (ha : gO g a 0) (hL : pCn (AI (gh 3 a)) (I a 8).toInt L) : gMet l g yX0_columnsOfJoin wsX0_columnsOfJoin rmX0_columnsOfJoing [.ref a] (I, R, J, AI, AJ, AR) (gQi g (fun (z : Int) (w : gS) => I = w.1 ∧ R = w.2.1 ∧ J = w.2.2.1 ∧ AI = w.2.2.2.1 ∧ AJ = w.2.2.2.2.1 ∧ AR = w.2.2.2.2.2 ∧ (0 ≤ z ∧ z ≤ 8) ∧ (z = (I a 5).toInt + jC L (I a 6).toInt.toNat))) := sorry
def rmX1_isKindg : Room := { frames := 0, cells := 0, slots := 0, locals := 0 }
set_option maxHeartbeats 4000000 in
set_option maxRecDepth 100000 in
/-- the token is of a kind -/
theorem c_X1_isKindg (l : Launch) (g : gG) (gh : gGh) (q : Nat) (b : tTx) (n : Nat) (tl : Int) (nr : Nat) (nt : Nat → Nat) (cl : Nat → Int) (h : Nat) (I : gI) (R : gR) (J : gJ) (AI : gI) (AJ : gJ) (AR : gR) (a : Nat) (kd : Int) (zkd : zr kd) (hv : gInv g gh R AR I AI) (h1 : gO g a 1) (hh : (I a 3).toInt < (I (gh 22 0) 4).toInt) (hP : pH gh AR I J AI AJ a q b n tl nr nt cl h) : gMet l g yX1_isKind wsX1_isKind rmX1_isKindg [.ref a, .int (iI kd)] (I, R, J, AI, AJ, AR) (gQi g (fun (z : Int) (w : gS) => I = w.1 ∧ R = w.2.1 ∧ J = w.2.2.1 ∧ AI = w.2.2.2.1 ∧ AJ = w.2.2.2.2.1 ∧ AR = w.2.2.2.2.2 ∧ ((z = 0 ∨ z = 1) ∧ (z = 1 → (AI (gh 24 0) (I a 3).toInt.toNat).toInt = kd)) ∧ (tIz z (pK b n h = kd)))) := sorry
def rmX1_isWordg : Room := { frames := 1, cells := 0, slots := 0, locals := 21 }
set_option maxHeartbeats 4000000 in
set_option maxRecDepth 100000 in
/-- the token is a word -/
theorem c_X1_isWordg (l : Launch) (g : gG) (gh : gGh) (q : Nat) (b : tTx) (n : Nat) (tl : Int) (nr : Nat) (nt : Nat → Nat) (cl : Nat → Int) (h : Nat) (I : gI) (R : gR) (J : gJ) (AI : gI) (AJ : gJ) (AR : gR) (a : Nat) (wn : Int) (zwn : zr wn) (hv : gInv g gh R AR I AI) (h1 : gO g a 1) (hh : (I a 3).toInt < (I (gh 22 0) 4).toInt) (hP : pH gh AR I J AI AJ a q b n tl nr nt cl h) : gMet l g yX1_isWord wsX1_isWord rmX1_isWordg [.ref a, .int (iI wn)] (I, R, J, AI, AJ, AR) (gQi g (fun (z : Int) (w : gS) => I = w.1 ∧ R = w.2.1 ∧ J = w.2.2.1 ∧ AI = w.2.2.2.1 ∧ AJ = w.2.2.2.2.1 ∧ AR = w.2.2.2.2.2 ∧ (z = 0 ∨ z = 1) ∧ (tIz z (pK b n h = 3 ∧ pV b n h = wn)))) := sorry
def rmX1_stepg : Room := { frames := 0, cells := 0, slots := 0, locals := 0 }
set_option maxHeartbeats 4000000 in
set_option maxRecDepth 100000 in
/-- the next token -/
theorem c_X1_stepg (l : Launch) (g : gG) (gh : gGh) (q : Nat) (b : tTx) (n : Nat) (tl : Int) (nr : Nat) (nt : Nat → Nat) (cl : Nat → Int) (h : Nat) (I : gI) (R : gR) (J : gJ) (AI : gI) (AJ : gJ) (AR : gR) (a : Nat) (hv : gInv g gh R AR I AI) (h1 : gO g a 1) (hh : (I a 3).toInt < (I (gh 22 0) 4).toInt) (hP : pH gh AR I J AI AJ a q b n tl nr nt cl h) (hqq : gO g q 2) (hkn : pK b n h ≠ 0) : gMet l g yX1_step wsX1_step rmX1_stepg [.ref a] (I, R, J, AI, AJ, AR) (gQv g (fun w : gS => R = w.2.1 ∧ J = w.2.2.1 ∧ AI = w.2.2.2.1 ∧ AJ = w.2.2.2.2.1 ∧ AR = w.2.2.2.2.2 ∧ (gInv g gh R AR (w.1) AI) ∧ (∀ b, b ≠ a → (w.1) b = I b) ∧ (((w.1) a 3).toInt < (I (gh 22 0) 4).toInt) ∧ (pH gh AR (w.1) J AI AJ a q b n tl nr nt cl (h + 1)))) := sorry
def rmX1_seeColumng : Room := { frames := 1, cells := 0, slots := 0, locals := 21 }
set_option maxHeartbeats 4000000 in
set_option maxRecDepth 100000 in
/-- a column is here -/
theorem c_X1_seeColumng (l : Launch) (g : gG) (gh : gGh) (q : Nat) (b : tTx) (n : Nat) (tl : Int) (nr : Nat) (nt : Nat → Nat) (cl : Nat → Int) (h : Nat) (I : gI) (R : gR) (J : gJ) (AI : gI) (AJ : gJ) (AR : gR) (a : Nat) (cols : Int) (zcols : zr cols) (hv : gInv g gh R AR I AI) (h1 : gO g a 1) (hh : (I a 3).toInt < (I (gh 22 0) 4).toInt) (hP : pH gh AR I J AI AJ a q b n tl nr nt cl h) : gMet l g yX1_seeColumn wsX1_seeColumn rmX1_seeColumng [.ref a, .int (iI cols)] (I, R, J, AI, AJ, AR) (gQi g (fun (z : Int) (w : gS) => I = w.1 ∧ R = w.2.1 ∧ J = w.2.2.1 ∧ AI = w.2.2.2.1 ∧ AJ = w.2.2.2.2.1 ∧ AR = w.2.2.2.2.2 ∧ (0 ≤ z ∧ z ≤ 2) ∧ (z = 0 → 0 ≤ (AI (gh 26 0) (I a 3).toInt.toNat).toInt ∧ (AI (gh 26 0) (I a 3).toInt.toNat).toInt ≤ 3) ∧ (z = pCf b n cols h))) := sorry
def rmX1_takeKindg : Room := { frames := 1, cells := 0, slots := 0, locals := 21 }
set_option maxHeartbeats 4000000 in
set_option maxRecDepth 100000 in
/-- takes a kind -/
theorem c_X1_takeKindg (l : Launch) (g : gG) (gh : gGh) (q ln : Nat) (b : tTx) (n : Nat) (tl : Int) (nr : Nat) (nt : Nat → Nat) (cl : Nat → Int) (h : Nat) (I : gI) (R : gR) (J : gJ) (AI : gI) (AJ : gJ) (AR : gR) (a : Nat) (kd : Int) (zkd : zr kd) (hv : gInv g gh R AR I AI) (hp : pS g gh R I a q ln) (hP : pH gh AR I J AI AJ a q b n tl nr nt cl h) (hk0 : kd ≠ 0) : gMet l g yX1_takeKind wsX1_takeKind rmX1_takeKindg [.ref a, .int (iI kd)] (I, R, J, AI, AJ, AR) (gQi g (fun (z : Int) (w : gS) => R = w.2.1 ∧ J = w.2.2.1 ∧ AI = w.2.2.2.1 ∧ AJ = w.2.2.2.2.1 ∧ AR = w.2.2.2.2.2 ∧ (gInv g gh R AR (w.1) AI) ∧ (pS g gh R (w.1) a q ln) ∧ (pF a ln I (w.1)) ∧ ((w.1) ln = I ln) ∧ (z = 0 ∨ z = 1) ∧ (z = (sTk b n kd h).1) ∧ (pH gh AR (w.1) J AI AJ a q b n tl nr nt cl (sTk b n kd h).2.1))) := sorry
def rmX1_takeWordg : Room := { frames := 2, cells := 0, slots := 0, locals := 42 }
set_option maxHeartbeats 4000000 in
set_option maxRecDepth 100000 in
/-- takes a word -/
theorem c_X1_takeWordg (l : Launch) (g : gG) (gh : gGh) (q ln : Nat) (b : tTx) (n : Nat) (tl : Int) (nr : Nat) (nt : Nat → Nat) (cl : Nat → Int) (h : Nat) (I : gI) (R : gR) (J : gJ) (AI : gI) (AJ : gJ) (AR : gR) (a : Nat) (wn : Int) (zwn : zr wn) (hv : gInv g gh R AR I AI) (hp : pS g gh R I a q ln) (hP : pH gh AR I J AI AJ a q b n tl nr nt cl h) : gMet l g yX1_takeWord wsX1_takeWord rmX1_takeWordg [.ref a, .int (iI wn)] (I, R, J, AI, AJ, AR) (gQi g (fun (z : Int) (w : gS) => R = w.2.1 ∧ J = w.2.2.1 ∧ AI = w.2.2.2.1 ∧ AJ = w.2.2.2.2.1 ∧ AR = w.2.2.2.2.2 ∧ (gInv g gh R AR (w.1) AI) ∧ (pS g gh R (w.1) a q ln) ∧ (pF a ln I (w.1)) ∧ ((w.1) ln = I ln) ∧ (z = 0 ∨ z = 1) ∧ (z = (sTw b n wn h).1) ∧ (pH gh AR (w.1) J AI AJ a q b n tl nr nt cl (sTw b n wn h).2.1))) := sorry
def rmX1_seeRelationg : Room := { frames := 2, cells := 0, slots := 0, locals := 42 }
set_option maxHeartbeats 4000000 in
set_option maxRecDepth 100000 in
/-- a relation is here -/
theorem c_X1_seeRelationg (l : Launch) (g : gG) (gh : gGh) (q ln : Nat) (b : tTx) (n : Nat) (tl : Int) (nr : Nat) (nt : Nat → Nat) (cl : Nat → Int) (h : Nat) (I : gI) (R : gR) (J : gJ) (AI : gI) (AJ : gJ) (AR : gR) (a : Nat) (hv : gInv g gh R AR I AI) (hp : pS g gh R I a q ln) (hP : pH gh AR I J AI AJ a q b n tl nr nt cl h) : gMet l g yX1_seeRelation wsX1_seeRelation rmX1_seeRelationg [.ref a] (I, R, J, AI, AJ, AR) (gQi g (fun (z : Int) (w : gS) => I = w.1 ∧ R = w.2.1 ∧ J = w.2.2.1 ∧ AI = w.2.2.2.1 ∧ AJ = w.2.2.2.2.1 ∧ AR = w.2.2.2.2.2 ∧ (0 ≤ z ∧ z ≤ 3) ∧ (z = 0 → ∃ (j : Nat) (b : Nat), (j : Int) < (I q 1).toInt ∧ AR (gh 6 q) j = some b ∧ J b 1 = AJ (gh 27 0) (I a 3).toInt.toNat) ∧ (z = pRf b n nt nr h))) := sorry
def rmX1_readFirstg : Room := { frames := 3, cells := 0, slots := 0, locals := 62 }
set_option maxHeartbeats 4000000 in
set_option maxRecDepth 100000 in
/-- the first relation -/
theorem c_X1_readFirstg (l : Launch) (g : gG) (gh : gGh) (q ln : Nat) (b : tTx) (n : Nat) (tl : Int) (nr : Nat) (nt : Nat → Nat) (cl : Nat → Int) (h : Nat) (I : gI) (R : gR) (J : gJ) (AI : gI) (AJ : gJ) (AR : gR) (a : Nat) (hv : gInv g gh R AR I AI) (hp : pS g gh R I a q ln) (hk0 : (I ln 0).toInt ≠ 0) (hP : pH gh AR I J AI AJ a q b n tl nr nt cl h) : gMet l g yX1_readFirst wsX1_readFirst rmX1_readFirstg [.ref a] (I, R, J, AI, AJ, AR) (gQi g (fun (z : Int) (w : gS) => R = w.2.1 ∧ J = w.2.2.1 ∧ AI = w.2.2.2.1 ∧ AJ = w.2.2.2.2.1 ∧ AR = w.2.2.2.2.2 ∧ (gInv g gh R AR (w.1) AI) ∧ (pS g gh R (w.1) a q ln) ∧ (pF a ln I (w.1)) ∧ (((w.1) ln 8).toInt = (I ln 8).toInt) ∧ (0 ≤ z ∧ z ≤ 3) ∧ (z = (sRl b n nr nt cl h).1) ∧ (pH gh AR (w.1) J AI AJ a q b n tl nr nt cl (sRl b n nr nt cl h).2.1) ∧ (((w.1) ln 2).toInt = (I ln 2).toInt ∧ ((w.1) ln 6).toInt = (I ln 6).toInt ∧ ((w.1) ln 8).toInt = (I ln 8).toInt ∧ ((w.1) ln 4).toInt = (I ln 4).toInt ∧ ((w.1) ln 9).toInt = (I ln 9).toInt ∧ ((w.1) ln 10).toInt = (I ln 10).toInt ∧ ((w.1) ln 11).toInt = (I ln 11).toInt ∧ ((w.1) ln 12).toInt = (I ln 12).toInt) ∧ (pIm z (((w.1) ln 5).toInt) ((sRl b n nr nt cl h).2.2)) ∧ (zIf z (((w.1) ln 3).toInt = pFd b n nt nr h)))) := sorry
def rmX1_readSecondg : Room := { frames := 3, cells := 0, slots := 0, locals := 62 }
set_option maxHeartbeats 4000000 in
set_option maxRecDepth 100000 in
/-- the second relation -/
theorem c_X1_readSecondg (l : Launch) (g : gG) (gh : gGh) (q ln : Nat) (b : tTx) (n : Nat) (tl : Int) (nr : Nat) (nt : Nat → Nat) (cl : Nat → Int) (h : Nat) (I : gI) (R : gR) (J : gJ) (AI : gI) (AJ : gJ) (AR : gR) (a : Nat) (hv : gInv g gh R AR I AI) (hp : pS g gh R I a q ln) (hk0 : (I ln 0).toInt ≠ 0) (hP : pH gh AR I J AI AJ a q b n tl nr nt cl h) : gMet l g yX1_readSecond wsX1_readSecond rmX1_readSecondg [.ref a] (I, R, J, AI, AJ, AR) (gQi g (fun (z : Int) (w : gS) => R = w.2.1 ∧ J = w.2.2.1 ∧ AI = w.2.2.2.1 ∧ AJ = w.2.2.2.2.1 ∧ AR = w.2.2.2.2.2 ∧ (gInv g gh R AR (w.1) AI) ∧ (pS g gh R (w.1) a q ln) ∧ (pF a ln I (w.1)) ∧ (((w.1) ln 8).toInt = (I ln 8).toInt) ∧ (0 ≤ z ∧ z ≤ 3) ∧ (z = (sRl b n nr nt cl h).1) ∧ (pH gh AR (w.1) J AI AJ a q b n tl nr nt cl (sRl b n nr nt cl h).2.1) ∧ (((w.1) ln 2).toInt = (I ln 2).toInt ∧ ((w.1) ln 5).toInt = (I ln 5).toInt ∧ ((w.1) ln 8).toInt = (I ln 8).toInt ∧ ((w.1) ln 3).toInt = (I ln 3).toInt ∧ ((w.1) ln 9).toInt = (I ln 9).toInt ∧ ((w.1) ln 10).toInt = (I ln 10).toInt ∧ ((w.1) ln 11).toInt = (I ln 11).toInt ∧ ((w.1) ln 12).toInt = (I ln 12).toInt) ∧ (pIm z (((w.1) ln 6).toInt) ((sRl b n nr nt cl h).2.2)) ∧ (zIf z (((w.1) ln 4).toInt = pFd b n nt nr h)))) := sorry

end

section
def rmX1_readTestg : Room := { frames := 2, cells := 0, slots := 0, locals := 42 }
set_option maxHeartbeats 4000000 in
set_option maxRecDepth 100000 in
/-- a test -/
theorem c_X1_readTestg (l : Launch) (g : gG) (gh : gGh) (q ln : Nat) (c5 k8 : Int) (b : tTx) (n : Nat) (tl : Int) (nr : Nat) (nt : Nat → Nat) (cl : Nat → Int) (h : Nat) (I : gI) (R : gR) (J : gJ) (AI : gI) (AJ : gJ) (AR : gR) (a : Nat) (hv : gInv g gh R AR I AI) (hp : pS g gh R I a q ln) (hk : (I ln 0).toInt = 1) (hP : pH gh AR I J AI AJ a q b n tl nr nt cl h) (hc5 : (I ln 5).toInt = c5) (hk8 : (I ln 8).toInt = k8) : gMet l g yX1_readTest wsX1_readTest rmX1_readTestg [.ref a] (I, R, J, AI, AJ, AR) (gQi g (fun (z : Int) (w : gS) => R = w.2.1 ∧ J = w.2.2.1 ∧ AJ = w.2.2.2.2.1 ∧ AR = w.2.2.2.2.2 ∧ (gInv g gh R AR (w.1) (w.2.2.2.1)) ∧ (pS g gh R (w.1) a q ln) ∧ (pF a ln I (w.1)) ∧ (0 ≤ z ∧ z ≤ 4) ∧ (z = (sTest b n c5 k8 h).1) ∧ (pH gh AR (w.1) J (w.2.2.2.1) AJ a q b n tl nr nt cl (sTest b n c5 k8 h).2.1) ∧ (((w.1) ln 5).toInt = (I ln 5).toInt ∧ ((w.1) ln 6).toInt = (I ln 6).toInt ∧ ((w.1) ln 3).toInt = (I ln 3).toInt ∧ ((w.1) ln 4).toInt = (I ln 4).toInt ∧ ((w.1) ln 9).toInt = (I ln 9).toInt ∧ ((w.1) ln 10).toInt = (I ln 10).toInt ∧ ((w.1) ln 11).toInt = (I ln 11).toInt ∧ ((w.1) ln 12).toInt = (I ln 12).toInt) ∧ (pIm z (((w.1) ln 8).toInt) (k8 + 1)) ∧ (∀ b, b ≠ gh 3 ln → (w.2.2.2.1) b = AI b) ∧ (zIf z (qTest b n ((w.2.2.2.1) (gh 3 ln)) k8.toNat h)) ∧ (∀ j : Nat, (j : Int) < 4 * k8 → (w.2.2.2.1) (gh 3 ln) j = AI (gh 3 ln) j))) := sorry
def rmX1_readTestsg : Room := { frames := 3, cells := 0, slots := 0, locals := 67 }
set_option maxHeartbeats 4000000 in
set_option maxRecDepth 100000 in
/-- the tests -/
theorem c_X1_readTestsg (l : Launch) (g : gG) (gh : gGh) (q ln : Nat) (c5 : Int) (b : tTx) (n : Nat) (tl : Int) (nr : Nat) (nt : Nat → Nat) (cl : Nat → Int) (h : Nat) (I : gI) (R : gR) (J : gJ) (AI : gI) (AJ : gJ) (AR : gR) (a : Nat) (hv : gInv g gh R AR I AI) (hp : pS g gh R I a q ln) (hk : (I ln 0).toInt = 1) (hP : pH gh AR I J AI AJ a q b n tl nr nt cl h) (hc5 : (I ln 5).toInt = c5) (hk8 : (I ln 8).toInt = 0) : gMet l g yX1_readTests wsX1_readTests rmX1_readTestsg [.ref a] (I, R, J, AI, AJ, AR) (gQi g (fun (z : Int) (w : gS) => R = w.2.1 ∧ J = w.2.2.1 ∧ AJ = w.2.2.2.2.1 ∧ AR = w.2.2.2.2.2 ∧ (gInv g gh R AR (w.1) (w.2.2.2.1)) ∧ (pS g gh R (w.1) a q ln) ∧ (pF a ln I (w.1)) ∧ (0 ≤ z ∧ z ≤ 4) ∧ (z = (sTests b n c5 9 0 h).1) ∧ (pH gh AR (w.1) J (w.2.2.2.1) AJ a q b n tl nr nt cl (sTests b n c5 9 0 h).2.1) ∧ (((w.1) ln 5).toInt = (I ln 5).toInt ∧ ((w.1) ln 3).toInt = (I ln 3).toInt ∧ ((w.1) ln 4).toInt = (I ln 4).toInt ∧ ((w.1) ln 9).toInt = (I ln 9).toInt ∧ ((w.1) ln 10).toInt = (I ln 10).toInt ∧ ((w.1) ln 11).toInt = (I ln 11).toInt ∧ ((w.1) ln 12).toInt = (I ln 12).toInt) ∧ (pIm z ((sTests b n c5 9 0 h).2.2) (c5)) ∧ (∀ b, b ≠ gh 3 ln → (w.2.2.2.1) b = AI b) ∧ (zIf z (((w.1) ln 8).toInt = ((iCnt nxT (spA b n) 9 h : Nat) : Int) ∧ qAll (qTest b n) nxT ((w.2.2.2.1) (gh 3 ln)) h ((w.1) ln 8).toInt)))) := sorry
def rmX1_readTermg : Room := { frames := 2, cells := 0, slots := 0, locals := 42 }
set_option maxHeartbeats 4000000 in
set_option maxRecDepth 100000 in
/-- a term -/
theorem c_X1_readTermg (l : Launch) (g : gG) (gh : gGh) (q ln : Nat) (k8 : Int) (b : tTx) (n : Nat) (tl : Int) (nr : Nat) (nt : Nat → Nat) (cl : Nat → Int) (h : Nat) (I : gI) (R : gR) (J : gJ) (AI : gI) (AJ : gJ) (AR : gR) (a : Nat) (cols : Int) (zcols : zr cols) (hv : gInv g gh R AR I AI) (hp : pS g gh R I a q ln) (hk : (I ln 0).toInt = 2 ∨ (I ln 0).toInt = 8) (hP : pH gh AR I J AI AJ a q b n tl nr nt cl h) (hk8 : (I ln 8).toInt = k8) : gMet l g yX1_readTerm wsX1_readTerm rmX1_readTermg [.ref a, .int (iI cols)] (I, R, J, AI, AJ, AR) (gQi g (fun (z : Int) (w : gS) => R = w.2.1 ∧ J = w.2.2.1 ∧ AJ = w.2.2.2.2.1 ∧ AR = w.2.2.2.2.2 ∧ (gInv g gh R AR (w.1) (w.2.2.2.1)) ∧ (pS g gh R (w.1) a q ln) ∧ (pF a ln I (w.1)) ∧ (0 ≤ z ∧ z ≤ 4) ∧ (z = (sTerm b n cols k8 h).1) ∧ (pH gh AR (w.1) J (w.2.2.2.1) AJ a q b n tl nr nt cl (sTerm b n cols k8 h).2.1) ∧ (((w.1) ln 5).toInt = (I ln 5).toInt ∧ ((w.1) ln 6).toInt = (I ln 6).toInt ∧ ((w.1) ln 3).toInt = (I ln 3).toInt ∧ ((w.1) ln 4).toInt = (I ln 4).toInt ∧ ((w.1) ln 9).toInt = (I ln 9).toInt ∧ ((w.1) ln 10).toInt = (I ln 10).toInt ∧ ((w.1) ln 11).toInt = (I ln 11).toInt ∧ ((w.1) ln 12).toInt = (I ln 12).toInt) ∧ (pIm z (((w.1) ln 8).toInt) (k8 + 1)) ∧ (∀ b, b ≠ gh 3 ln → (w.2.2.2.1) b = AI b) ∧ (zIf z (qTerm b n ((w.2.2.2.1) (gh 3 ln)) k8.toNat h)) ∧ (∀ j : Nat, (j : Int) < 2 * k8 → (w.2.2.2.1) (gh 3 ln) j = AI (gh 3 ln) j))) := sorry
def rmX1_readTermsg : Room := { frames := 3, cells := 0, slots := 0, locals := 67 }
set_option maxHeartbeats 4000000 in
set_option maxRecDepth 100000 in
/-- the terms -/
theorem c_X1_readTermsg (l : Launch) (g : gG) (gh : gGh) (q ln : Nat) (b : tTx) (n : Nat) (tl : Int) (nr : Nat) (nt : Nat → Nat) (cl : Nat → Int) (h : Nat) (I : gI) (R : gR) (J : gJ) (AI : gI) (AJ : gJ) (AR : gR) (a : Nat) (cols : Int) (zcols : zr cols) (hv : gInv g gh R AR I AI) (hp : pS g gh R I a q ln) (hk : (I ln 0).toInt = 2 ∨ (I ln 0).toInt = 8) (hP : pH gh AR I J AI AJ a q b n tl nr nt cl h) (hk8 : (I ln 8).toInt = 0) : gMet l g yX1_readTerms wsX1_readTerms rmX1_readTermsg [.ref a, .int (iI cols)] (I, R, J, AI, AJ, AR) (gQi g (fun (z : Int) (w : gS) => R = w.2.1 ∧ J = w.2.2.1 ∧ AJ = w.2.2.2.2.1 ∧ AR = w.2.2.2.2.2 ∧ (gInv g gh R AR (w.1) (w.2.2.2.1)) ∧ (pS g gh R (w.1) a q ln) ∧ (pF a ln I (w.1)) ∧ (0 ≤ z ∧ z ≤ 4) ∧ (z = (sTerms b n cols 5 0 h).1) ∧ (pH gh AR (w.1) J (w.2.2.2.1) AJ a q b n tl nr nt cl (sTerms b n cols 5 0 h).2.1) ∧ (((w.1) ln 5).toInt = (I ln 5).toInt ∧ ((w.1) ln 6).toInt = (I ln 6).toInt ∧ ((w.1) ln 3).toInt = (I ln 3).toInt ∧ ((w.1) ln 4).toInt = (I ln 4).toInt ∧ ((w.1) ln 9).toInt = (I ln 9).toInt ∧ ((w.1) ln 10).toInt = (I ln 10).toInt ∧ ((w.1) ln 11).toInt = (I ln 11).toInt ∧ ((w.1) ln 12).toInt = (I ln 12).toInt) ∧ (pIm z (((w.1) ln 8).toInt) ((sTerms b n cols 5 0 h).2.2)) ∧ (∀ b, b ≠ gh 3 ln → (w.2.2.2.1) b = AI b) ∧ (zIf z (((w.1) ln 8).toInt = ((iCnt (nxE b n) (spC b n) 5 h : Nat) : Int) ∧ qAll (qTerm b n) (nxE b n) ((w.2.2.2.1) (gh 3 ln)) h ((w.1) ln 8).toInt)))) := sorry
def rmX1_readPairg : Room := { frames := 2, cells := 0, slots := 0, locals := 42 }
set_option maxHeartbeats 4000000 in
set_option maxRecDepth 100000 in
/-- a pair -/
theorem c_X1_readPairg (l : Launch) (g : gG) (gh : gGh) (q ln : Nat) (c5 c6 k8 : Int) (b : tTx) (n : Nat) (tl : Int) (nr : Nat) (nt : Nat → Nat) (cl : Nat → Int) (h : Nat) (I : gI) (R : gR) (J : gJ) (AI : gI) (AJ : gJ) (AR : gR) (a : Nat) (lim : Int) (zlim : zr lim) (hv : gInv g gh R AR I AI) (hp : pS g gh R I a q ln) (hP : pH gh AR I J AI AJ a q b n tl nr nt cl h) (hc5 : (I ln 5).toInt = c5) (hc6 : (I ln 6).toInt = c6) (hk8 : (I ln 8).toInt = k8) : gMet l g yX1_readPair wsX1_readPair rmX1_readPairg [.ref a, .int (iI lim)] (I, R, J, AI, AJ, AR) (gQi g (fun (z : Int) (w : gS) => R = w.2.1 ∧ J = w.2.2.1 ∧ AI = w.2.2.2.1 ∧ AJ = w.2.2.2.2.1 ∧ AR = w.2.2.2.2.2 ∧ (gInv g gh R AR (w.1) AI) ∧ (pS g gh R (w.1) a q ln) ∧ (pF a ln I (w.1)) ∧ (((w.1) ln 8).toInt = (I ln 8).toInt) ∧ (z = 0 → (I ln 8).toInt < lim) ∧ (0 ≤ z ∧ z ≤ 4) ∧ (z = (sPair b n c5 c6 k8 lim h).1) ∧ (pH gh AR (w.1) J AI AJ a q b n tl nr nt cl (sPair b n c5 c6 k8 lim h).2.1) ∧ (((w.1) ln 5).toInt = (I ln 5).toInt ∧ ((w.1) ln 6).toInt = (I ln 6).toInt ∧ ((w.1) ln 3).toInt = (I ln 3).toInt ∧ ((w.1) ln 4).toInt = (I ln 4).toInt ∧ ((w.1) ln 11).toInt = (I ln 11).toInt ∧ ((w.1) ln 12).toInt = (I ln 12).toInt) ∧ (pIm z (((w.1) ln 10).toInt) ((sPair b n c5 c6 k8 lim h).2.2)) ∧ (zIf z (((w.1) ln 9).toInt = pV b n h)))) := sorry
def rmX1_readPairsg : Room := { frames := 3, cells := 0, slots := 0, locals := 64 }
set_option maxHeartbeats 4000000 in
set_option maxRecDepth 100000 in
/-- the pairs -/
theorem c_X1_readPairsg (l : Launch) (g : gG) (gh : gGh) (q ln : Nat) (c5 c6 : Int) (b : tTx) (n : Nat) (tl : Int) (nr : Nat) (nt : Nat → Nat) (cl : Nat → Int) (h : Nat) (I : gI) (R : gR) (J : gJ) (AI : gI) (AJ : gJ) (AR : gR) (a : Nat) (hv : gInv g gh R AR I AI) (hp : pS g gh R I a q ln) (hk : (I ln 0).toInt = 3) (hP : pH gh AR I J AI AJ a q b n tl nr nt cl h) (hc5 : (I ln 5).toInt = c5) (hc6 : (I ln 6).toInt = c6) (hk8 : (I ln 8).toInt = 0) : gMet l g yX1_readPairs wsX1_readPairs rmX1_readPairsg [.ref a] (I, R, J, AI, AJ, AR) (gQi g (fun (z : Int) (w : gS) => R = w.2.1 ∧ J = w.2.2.1 ∧ AJ = w.2.2.2.2.1 ∧ AR = w.2.2.2.2.2 ∧ (gInv g gh R AR (w.1) (w.2.2.2.1)) ∧ (pS g gh R (w.1) a q ln) ∧ (pF a ln I (w.1)) ∧ (0 ≤ z ∧ z ≤ 4) ∧ (z = (sPairs b n c5 c6 5 0 [] h).1) ∧ (pH gh AR (w.1) J (w.2.2.2.1) AJ a q b n tl nr nt cl (sPairs b n c5 c6 5 0 [] h).2.1) ∧ (((w.1) ln 5).toInt = (I ln 5).toInt ∧ ((w.1) ln 6).toInt = (I ln 6).toInt ∧ ((w.1) ln 3).toInt = (I ln 3).toInt ∧ ((w.1) ln 4).toInt = (I ln 4).toInt ∧ ((w.1) ln 11).toInt = (I ln 11).toInt ∧ ((w.1) ln 12).toInt = (I ln 12).toInt) ∧ (∃ L : List Int, pCn ((w.2.2.2.1) (gh 3 ln)) ((w.1) ln 8).toInt L ∧ pIm z ((sPairs b n c5 c6 5 0 [] h).2.2) (c5 + jC L c6.toNat)) ∧ (∀ b, b ≠ gh 3 ln → (w.2.2.2.1) b = AI b) ∧ (zIf z (((w.1) ln 8).toInt = ((iCnt nxT (spC b n) 5 h : Nat) : Int) ∧ qAll (qPair b n) nxT ((w.2.2.2.1) (gh 3 ln)) h ((w.1) ln 8).toInt)))) := sorry
def rmX1_readByColumng : Room := { frames := 2, cells := 0, slots := 0, locals := 42 }
set_option maxHeartbeats 4000000 in
set_option maxRecDepth 100000 in
/-- a column of a group -/
theorem c_X1_readByColumng (l : Launch) (g : gG) (gh : gGh) (q ln : Nat) (c5 k8 : Int) (L : List Int) (b : tTx) (n : Nat) (tl : Int) (nr : Nat) (nt : Nat → Nat) (cl : Nat → Int) (h : Nat) (I : gI) (R : gR) (J : gJ) (AI : gI) (AJ : gJ) (AR : gR) (a : Nat) (hv : gInv g gh R AR I AI) (hp : pS g gh R I a q ln) (hk : (I ln 0).toInt = 7) (hP : pH gh AR I J AI AJ a q b n tl nr nt cl h) (hc5 : (I ln 5).toInt = c5) (hk8 : (I ln 8).toInt = k8) (hcn : pBn (AI (gh 3 ln)) k8 L) : gMet l g yX1_readByColumn wsX1_readByColumn rmX1_readByColumng [.ref a] (I, R, J, AI, AJ, AR) (gQi g (fun (z : Int) (w : gS) => R = w.2.1 ∧ J = w.2.2.1 ∧ AJ = w.2.2.2.2.1 ∧ AR = w.2.2.2.2.2 ∧ (gInv g gh R AR (w.1) (w.2.2.2.1)) ∧ (pS g gh R (w.1) a q ln) ∧ (pF a ln I (w.1)) ∧ (0 ≤ z ∧ z ≤ 4) ∧ (z = (sBy b n c5 k8 L h).1) ∧ (pH gh AR (w.1) J (w.2.2.2.1) AJ a q b n tl nr nt cl (sBy b n c5 k8 L h).2.1) ∧ (((w.1) ln 5).toInt = (I ln 5).toInt ∧ ((w.1) ln 6).toInt = (I ln 6).toInt ∧ ((w.1) ln 3).toInt = (I ln 3).toInt ∧ ((w.1) ln 4).toInt = (I ln 4).toInt ∧ ((w.1) ln 9).toInt = (I ln 9).toInt ∧ ((w.1) ln 10).toInt = (I ln 10).toInt ∧ ((w.1) ln 11).toInt = (I ln 11).toInt ∧ ((w.1) ln 12).toInt = (I ln 12).toInt) ∧ (pIm z (((w.1) ln 8).toInt) (k8 + 1)) ∧ (z ≠ 0 ∨ pBn ((w.2.2.2.1) (gh 3 ln)) (k8 + 1) ((sBy b n c5 k8 L h).2.2 :: L)) ∧ (z = 0 ∨ (w.2.2.2.1) (gh 3 ln) = AI (gh 3 ln) ∧ ((w.1) ln 8).toInt = k8) ∧ (∀ b, b ≠ gh 3 ln → (w.2.2.2.1) b = AI b) ∧ (zIf z (qBy b n ((w.2.2.2.1) (gh 3 ln)) k8.toNat h)) ∧ (∀ j : Nat, (j : Int) < 1 * k8 → (w.2.2.2.1) (gh 3 ln) j = AI (gh 3 ln) j))) := sorry
def rmX1_readByColumnsg : Room := { frames := 3, cells := 0, slots := 0, locals := 64 }
set_option maxHeartbeats 4000000 in
set_option maxRecDepth 100000 in
/-- the columns of a group -/
theorem c_X1_readByColumnsg (l : Launch) (g : gG) (gh : gGh) (q ln : Nat) (c5 : Int) (b : tTx) (n : Nat) (tl : Int) (nr : Nat) (nt : Nat → Nat) (cl : Nat → Int) (h : Nat) (I : gI) (R : gR) (J : gJ) (AI : gI) (AJ : gJ) (AR : gR) (a : Nat) (hv : gInv g gh R AR I AI) (hp : pS g gh R I a q ln) (hk : (I ln 0).toInt = 7) (hP : pH gh AR I J AI AJ a q b n tl nr nt cl h) (hc5 : (I ln 5).toInt = c5) (hk8 : (I ln 8).toInt = 0) : gMet l g yX1_readByColumns wsX1_readByColumns rmX1_readByColumnsg [.ref a] (I, R, J, AI, AJ, AR) (gQi g (fun (z : Int) (w : gS) => R = w.2.1 ∧ J = w.2.2.1 ∧ AJ = w.2.2.2.2.1 ∧ AR = w.2.2.2.2.2 ∧ (gInv g gh R AR (w.1) (w.2.2.2.1)) ∧ (pS g gh R (w.1) a q ln) ∧ (pF a ln I (w.1)) ∧ (0 ≤ z ∧ z ≤ 4) ∧ (z = (sBys b n c5 4 0 [] h).1) ∧ (pH gh AR (w.1) J (w.2.2.2.1) AJ a q b n tl nr nt cl (sBys b n c5 4 0 [] h).2.1) ∧ (((w.1) ln 5).toInt = (I ln 5).toInt ∧ ((w.1) ln 6).toInt = (I ln 6).toInt ∧ ((w.1) ln 3).toInt = (I ln 3).toInt ∧ ((w.1) ln 4).toInt = (I ln 4).toInt ∧ ((w.1) ln 9).toInt = (I ln 9).toInt ∧ ((w.1) ln 10).toInt = (I ln 10).toInt ∧ ((w.1) ln 11).toInt = (I ln 11).toInt ∧ ((w.1) ln 12).toInt = (I ln 12).toInt) ∧ (pIm z (((w.1) ln 8).toInt) ((sBys b n c5 4 0 [] h).2.2)) ∧ (True) ∧ (∀ b, b ≠ gh 3 ln → (w.2.2.2.1) b = AI b) ∧ (zIf z (((w.1) ln 8).toInt = ((iCnt nxB (spC b n) 4 h : Nat) : Int) ∧ qAll (qBy b n) nxB ((w.2.2.2.1) (gh 3 ln)) h ((w.1) ln 8).toInt)) ∧ (zIf z ((sBys b n c5 4 0 [] h).2.1 = nxB (iPos nxB h (((w.1) ln 8).toInt.toNat - 1)) ∧ 1 ≤ ((w.1) ln 8).toInt)))) := sorry
def rmX1_readFoldg : Room := { frames := 2, cells := 0, slots := 0, locals := 42 }
set_option maxHeartbeats 4000000 in
set_option maxRecDepth 100000 in
/-- the fold of a group -/
theorem c_X1_readFoldg (l : Launch) (g : gG) (gh : gGh) (q ln : Nat) (c5 x7 : Int) (b : tTx) (n : Nat) (tl : Int) (nr : Nat) (nt : Nat → Nat) (cl : Nat → Int) (h : Nat) (I : gI) (R : gR) (J : gJ) (AI : gI) (AJ : gJ) (AR : gR) (a : Nat) (hv : gInv g gh R AR I AI) (hp : pS g gh R I a q ln) (hk : (I ln 0).toInt = 7) (hP : pH gh AR I J AI AJ a q b n tl nr nt cl h) (hc5 : (I ln 5).toInt = c5) : gMet l g yX1_readFold wsX1_readFold rmX1_readFoldg [.ref a] (I, R, J, AI, AJ, AR) (gQi g (fun (z : Int) (w : gS) => R = w.2.1 ∧ J = w.2.2.1 ∧ AI = w.2.2.2.1 ∧ AJ = w.2.2.2.2.1 ∧ AR = w.2.2.2.2.2 ∧ (gInv g gh R AR (w.1) AI) ∧ (pS g gh R (w.1) a q ln) ∧ (pF a ln I (w.1)) ∧ (0 ≤ z ∧ z ≤ 4) ∧ (z = (sFo b n c5 x7 h).1) ∧ (pH gh AR (w.1) J AI AJ a q b n tl nr nt cl (sFo b n c5 x7 h).2.1) ∧ (((w.1) ln 5).toInt = (I ln 5).toInt ∧ ((w.1) ln 8).toInt = (I ln 8).toInt ∧ ((w.1) ln 3).toInt = (I ln 3).toInt ∧ ((w.1) ln 4).toInt = (I ln 4).toInt) ∧ (pIm z ((sFo b n c5 x7 h).2.2) (x7)) ∧ (zIf z (kFo b n ((w.1) ln) h)))) := sorry

end

section
def rmX1_readSelectg : Room := { frames := 4, cells := 0, slots := 0, locals := 89 }
set_option maxHeartbeats 4000000 in
set_option maxRecDepth 100000 in
/-- a select -/
theorem c_X1_readSelectg (l : Launch) (g : gG) (gh : gGh) (q ln : Nat) (b : tTx) (n : Nat) (tl : Int) (nr : Nat) (nt : Nat → Nat) (cl : Nat → Int) (h : Nat) (I : gI) (R : gR) (J : gJ) (AI : gI) (AJ : gJ) (AR : gR) (a : Nat) (hv : gInv g gh R AR I AI) (hp : pS g gh R I a q ln) (hk : (I ln 0).toInt = 1) (hP : pH gh AR I J AI AJ a q b n tl nr nt cl h) (hk8 : (I ln 8).toInt = 0) (h4n : (I ln 4).toInt = -1) : gMet l g yX1_readSelect wsX1_readSelect rmX1_readSelectg [.ref a] (I, R, J, AI, AJ, AR) (gQi g (fun (z : Int) (w : gS) => R = w.2.1 ∧ J = w.2.2.1 ∧ AJ = w.2.2.2.2.1 ∧ AR = w.2.2.2.2.2 ∧ (gInv g gh R AR (w.1) (w.2.2.2.1)) ∧ (pS g gh R (w.1) a q ln) ∧ (pF a ln I (w.1)) ∧ (0 ≤ z ∧ z ≤ 4) ∧ (z = (sSel b n nr nt cl h).1) ∧ (pH gh AR (w.1) J (w.2.2.2.1) AJ a q b n tl nr nt cl (sSel b n nr nt cl h).2.1) ∧ (pIm z (((w.1) ln 2).toInt) ((sSel b n nr nt cl h).2.2)) ∧ (∀ b, b ≠ gh 3 ln → (w.2.2.2.1) b = AI b) ∧ (zIf z (kSel b n nr nt h ((w.1) ln) ((w.2.2.2.1) (gh 3 ln)))))) := sorry
def rmX1_readProjectg : Room := { frames := 4, cells := 0, slots := 0, locals := 90 }
set_option maxHeartbeats 4000000 in
set_option maxRecDepth 100000 in
/-- a project -/
theorem c_X1_readProjectg (l : Launch) (g : gG) (gh : gGh) (q ln : Nat) (b : tTx) (n : Nat) (tl : Int) (nr : Nat) (nt : Nat → Nat) (cl : Nat → Int) (h : Nat) (I : gI) (R : gR) (J : gJ) (AI : gI) (AJ : gJ) (AR : gR) (a : Nat) (hv : gInv g gh R AR I AI) (hp : pS g gh R I a q ln) (hk : (I ln 0).toInt = 2) (hP : pH gh AR I J AI AJ a q b n tl nr nt cl h) (hk8 : (I ln 8).toInt = 0) (h4n : (I ln 4).toInt = -1) : gMet l g yX1_readProject wsX1_readProject rmX1_readProjectg [.ref a] (I, R, J, AI, AJ, AR) (gQi g (fun (z : Int) (w : gS) => R = w.2.1 ∧ J = w.2.2.1 ∧ AJ = w.2.2.2.2.1 ∧ AR = w.2.2.2.2.2 ∧ (gInv g gh R AR (w.1) (w.2.2.2.1)) ∧ (pS g gh R (w.1) a q ln) ∧ (pF a ln I (w.1)) ∧ (0 ≤ z ∧ z ≤ 4) ∧ (z = (sPrj b n nr nt cl h).1) ∧ (pH gh AR (w.1) J (w.2.2.2.1) AJ a q b n tl nr nt cl (sPrj b n nr nt cl h).2.1) ∧ (pIm z (((w.1) ln 2).toInt) ((sPrj b n nr nt cl h).2.2)) ∧ (∀ b, b ≠ gh 3 ln → (w.2.2.2.1) b = AI b) ∧ (zIf z (kPrj b n nr nt h ((w.1) ln) ((w.2.2.2.1) (gh 3 ln)))))) := sorry
def rmX1_readJoing : Room := { frames := 4, cells := 0, slots := 0, locals := 86 }
set_option maxHeartbeats 4000000 in
set_option maxRecDepth 100000 in
/-- a join -/
theorem c_X1_readJoing (l : Launch) (g : gG) (gh : gGh) (q ln : Nat) (b : tTx) (n : Nat) (tl : Int) (nr : Nat) (nt : Nat → Nat) (cl : Nat → Int) (h : Nat) (I : gI) (R : gR) (J : gJ) (AI : gI) (AJ : gJ) (AR : gR) (a : Nat) (hv : gInv g gh R AR I AI) (hp : pS g gh R I a q ln) (hk : (I ln 0).toInt = 3) (hP : pH gh AR I J AI AJ a q b n tl nr nt cl h) (hk8 : (I ln 8).toInt = 0) : gMet l g yX1_readJoin wsX1_readJoin rmX1_readJoing [.ref a] (I, R, J, AI, AJ, AR) (gQi g (fun (z : Int) (w : gS) => R = w.2.1 ∧ J = w.2.2.1 ∧ AJ = w.2.2.2.2.1 ∧ AR = w.2.2.2.2.2 ∧ (gInv g gh R AR (w.1) (w.2.2.2.1)) ∧ (pS g gh R (w.1) a q ln) ∧ (pF a ln I (w.1)) ∧ (0 ≤ z ∧ z ≤ 4) ∧ (z = (sJoi b n nr nt cl h).1) ∧ (pH gh AR (w.1) J (w.2.2.2.1) AJ a q b n tl nr nt cl (sJoi b n nr nt cl h).2.1) ∧ (pIm z (((w.1) ln 2).toInt) ((sJoi b n nr nt cl h).2.2)) ∧ (∀ b, b ≠ gh 3 ln → (w.2.2.2.1) b = AI b) ∧ (zIf z (kJoi b n nr nt cl h ((w.1) ln) ((w.2.2.2.1) (gh 3 ln)))))) := sorry
def rmX1_readDistinctg : Room := { frames := 4, cells := 0, slots := 0, locals := 83 }
set_option maxHeartbeats 4000000 in
set_option maxRecDepth 100000 in
/-- a distinct -/
theorem c_X1_readDistinctg (l : Launch) (g : gG) (gh : gGh) (q ln : Nat) (b : tTx) (n : Nat) (tl : Int) (nr : Nat) (nt : Nat → Nat) (cl : Nat → Int) (h : Nat) (I : gI) (R : gR) (J : gJ) (AI : gI) (AJ : gJ) (AR : gR) (a : Nat) (hv : gInv g gh R AR I AI) (hp : pS g gh R I a q ln) (hk0 : (I ln 0).toInt ≠ 0) (hP : pH gh AR I J AI AJ a q b n tl nr nt cl h) (h4n : (I ln 4).toInt = -1) : gMet l g yX1_readDistinct wsX1_readDistinct rmX1_readDistinctg [.ref a] (I, R, J, AI, AJ, AR) (gQi g (fun (z : Int) (w : gS) => R = w.2.1 ∧ J = w.2.2.1 ∧ AI = w.2.2.2.1 ∧ AJ = w.2.2.2.2.1 ∧ AR = w.2.2.2.2.2 ∧ (gInv g gh R AR (w.1) AI) ∧ (pS g gh R (w.1) a q ln) ∧ (pF a ln I (w.1)) ∧ (0 ≤ z ∧ z ≤ 4) ∧ (z = (sRl b n nr nt cl h).1) ∧ (pH gh AR (w.1) J AI AJ a q b n tl nr nt cl (sRl b n nr nt cl h).2.1) ∧ (pIm z (((w.1) ln 2).toInt) ((sRl b n nr nt cl h).2.2)) ∧ (zIf z (kOne b n nr nt h ((w.1) ln))))) := sorry
def rmX1_readTwoAlikeg : Room := { frames := 4, cells := 0, slots := 0, locals := 83 }
set_option maxHeartbeats 4000000 in
set_option maxRecDepth 100000 in
/-- a union or minus -/
theorem c_X1_readTwoAlikeg (l : Launch) (g : gG) (gh : gGh) (q ln : Nat) (b : tTx) (n : Nat) (tl : Int) (nr : Nat) (nt : Nat → Nat) (cl : Nat → Int) (h : Nat) (I : gI) (R : gR) (J : gJ) (AI : gI) (AJ : gJ) (AR : gR) (a : Nat) (hv : gInv g gh R AR I AI) (hp : pS g gh R I a q ln) (hk0 : (I ln 0).toInt ≠ 0) (hP : pH gh AR I J AI AJ a q b n tl nr nt cl h) : gMet l g yX1_readTwoAlike wsX1_readTwoAlike rmX1_readTwoAlikeg [.ref a] (I, R, J, AI, AJ, AR) (gQi g (fun (z : Int) (w : gS) => R = w.2.1 ∧ J = w.2.2.1 ∧ AI = w.2.2.2.1 ∧ AJ = w.2.2.2.2.1 ∧ AR = w.2.2.2.2.2 ∧ (gInv g gh R AR (w.1) AI) ∧ (pS g gh R (w.1) a q ln) ∧ (pF a ln I (w.1)) ∧ (0 ≤ z ∧ z ≤ 5) ∧ (z = (sTwo b n nr nt cl h).1) ∧ (pH gh AR (w.1) J AI AJ a q b n tl nr nt cl (sTwo b n nr nt cl h).2.1) ∧ (pIm z (((w.1) ln 2).toInt) ((sTwo b n nr nt cl h).2.2)) ∧ (zIf z (kTwo b n nr nt h ((w.1) ln))))) := sorry
def rmX1_readGroupg : Room := { frames := 4, cells := 0, slots := 0, locals := 86 }
set_option maxHeartbeats 4000000 in
set_option maxRecDepth 100000 in
/-- a group -/
theorem c_X1_readGroupg (l : Launch) (g : gG) (gh : gGh) (q ln : Nat) (b : tTx) (n : Nat) (tl : Int) (nr : Nat) (nt : Nat → Nat) (cl : Nat → Int) (h : Nat) (I : gI) (R : gR) (J : gJ) (AI : gI) (AJ : gJ) (AR : gR) (a : Nat) (hv : gInv g gh R AR I AI) (hp : pS g gh R I a q ln) (hk : (I ln 0).toInt = 7) (hP : pH gh AR I J AI AJ a q b n tl nr nt cl h) (hk8 : (I ln 8).toInt = 0) (h4n : (I ln 4).toInt = -1) : gMet l g yX1_readGroup wsX1_readGroup rmX1_readGroupg [.ref a] (I, R, J, AI, AJ, AR) (gQi g (fun (z : Int) (w : gS) => R = w.2.1 ∧ J = w.2.2.1 ∧ AJ = w.2.2.2.2.1 ∧ AR = w.2.2.2.2.2 ∧ (gInv g gh R AR (w.1) (w.2.2.2.1)) ∧ (pS g gh R (w.1) a q ln) ∧ (pF a ln I (w.1)) ∧ (0 ≤ z ∧ z ≤ 4) ∧ (z = (sGrp b n nr nt cl h).1) ∧ (pH gh AR (w.1) J (w.2.2.2.1) AJ a q b n tl nr nt cl (sGrp b n nr nt cl h).2.1) ∧ (pIm z (((w.1) ln 2).toInt) ((sGrp b n nr nt cl h).2.2)) ∧ (∀ b, b ≠ gh 3 ln → (w.2.2.2.1) b = AI b) ∧ (zIf z (kGrp b n nr nt h ((w.1) ln) ((w.2.2.2.1) (gh 3 ln)))))) := sorry
def rmX1_readRingg : Room := { frames := 4, cells := 0, slots := 0, locals := 90 }
set_option maxHeartbeats 4000000 in
set_option maxRecDepth 100000 in
/-- a ring -/
theorem c_X1_readRingg (l : Launch) (g : gG) (gh : gGh) (q ln : Nat) (b : tTx) (n : Nat) (tl : Int) (nr : Nat) (nt : Nat → Nat) (cl : Nat → Int) (h : Nat) (I : gI) (R : gR) (J : gJ) (AI : gI) (AJ : gJ) (AR : gR) (a : Nat) (hv : gInv g gh R AR I AI) (hp : pS g gh R I a q ln) (hk : (I ln 0).toInt = 8) (hP : pH gh AR I J AI AJ a q b n tl nr nt cl h) (hk8 : (I ln 8).toInt = 0) : gMet l g yX1_readRing wsX1_readRing rmX1_readRingg [.ref a] (I, R, J, AI, AJ, AR) (gQi g (fun (z : Int) (w : gS) => R = w.2.1 ∧ J = w.2.2.1 ∧ AJ = w.2.2.2.2.1 ∧ AR = w.2.2.2.2.2 ∧ (gInv g gh R AR (w.1) (w.2.2.2.1)) ∧ (pS g gh R (w.1) a q ln) ∧ (pF a ln I (w.1)) ∧ (0 ≤ z ∧ z ≤ 4) ∧ (z = (sRng b n nr nt cl h).1) ∧ (pH gh AR (w.1) J (w.2.2.2.1) AJ a q b n tl nr nt cl (sRng b n nr nt cl h).2.1) ∧ (pBz z ((w.1) ln) (sRng b n nr nt cl h).2.2) ∧ (∀ b, b ≠ gh 3 ln → (w.2.2.2.1) b = AI b) ∧ (zIf z (kRng b n nr nt cl h ((w.1) ln) ((w.2.2.2.1) (gh 3 ln)))))) := sorry
def rmX1_readTableColumnsg : Room := { frames := 1, cells := 0, slots := 0, locals := 21 }
set_option maxHeartbeats 4000000 in
set_option maxRecDepth 100000 in
/-- the columns of a table -/
theorem c_X1_readTableColumnsg (l : Launch) (g : gG) (gh : gGh) (q ln : Nat) (b : tTx) (n : Nat) (tl : Int) (nr : Nat) (nt : Nat → Nat) (cl : Nat → Int) (h : Nat) (I : gI) (R : gR) (J : gJ) (AI : gI) (AJ : gJ) (AR : gR) (a : Nat) (hv : gInv g gh R AR I AI) (hp : pS g gh R I a q ln) (hP : pH gh AR I J AI AJ a q b n tl nr nt cl h) : gMet l g yX1_readTableColumns wsX1_readTableColumns rmX1_readTableColumnsg [.ref a] (I, R, J, AI, AJ, AR) (gQi g (fun (z : Int) (w : gS) => R = w.2.1 ∧ J = w.2.2.1 ∧ AI = w.2.2.2.1 ∧ AJ = w.2.2.2.2.1 ∧ AR = w.2.2.2.2.2 ∧ (gInv g gh R AR (w.1) AI) ∧ (pS g gh R (w.1) a q ln) ∧ (pF a ln I (w.1)) ∧ (0 ≤ z ∧ z ≤ 4) ∧ (z = (sTc b n h).1) ∧ (pH gh AR (w.1) J AI AJ a q b n tl nr nt cl (sTc b n h).2.1) ∧ (pIm z (((w.1) ln 2).toInt) ((sTc b n h).2.2)) ∧ (((w.1) ln 3).toInt = (I ln 3).toInt ∧ ((w.1) ln 4).toInt = (I ln 4).toInt))) := sorry

end

section
def rmX0_clearg : Room := { frames := 0, cells := 0, slots := 0, locals := 0 }
set_option maxHeartbeats 4000000 in
set_option maxRecDepth 100000 in
/-- an empty line -/
theorem c_X0_clearg (l : Launch) (g : gG) (gh : gGh) (I : gI) (R : gR) (J : gJ) (AI : gI) (AJ : gJ) (AR : gR) (a : Nat) (kd : Int) (zkd : zr kd) (hv : gInv g gh R AR I AI) (ha : gO g a 0) (h0 : kd = 0) : gMet l g yX0_clear wsX0_clear rmX0_clearg [.ref a, .int (iI kd)] (I, R, J, AI, AJ, AR) (gQv g (fun w : gS => R = w.2.1 ∧ J = w.2.2.1 ∧ AI = w.2.2.2.1 ∧ AJ = w.2.2.2.2.1 ∧ AR = w.2.2.2.2.2 ∧ (gInv g gh R AR (w.1) AI) ∧ (∀ b, b ≠ a → (w.1) b = I b) ∧ (((w.1) a 0).toInt = 0 ∧ ((w.1) a 8).toInt = 0) ∧ (((w.1) a 3).toInt = -1 ∧ ((w.1) a 4).toInt = -1))) := sorry

end

section
def rmX1_ringIsUnlikeg : Room := { frames := 0, cells := 0, slots := 0, locals := 0 }
set_option maxHeartbeats 4000000 in
set_option maxRecDepth 100000 in
/-- a ring whose columns are unlike -/
theorem c_X1_ringIsUnlikeg (l : Launch) (g : gG) (gh : gGh) (q ln : Nat) (I : gI) (R : gR) (J : gJ) (AI : gI) (AJ : gJ) (AR : gR) (a : Nat) (hv : gInv g gh R AR I AI) (hp : pS g gh R I a q ln) : gMet l g yX1_ringIsUnlike wsX1_ringIsUnlike rmX1_ringIsUnlikeg [.ref a] (I, R, J, AI, AJ, AR) (gQi g (fun (z : Int) (w : gS) => I = w.1 ∧ R = w.2.1 ∧ J = w.2.2.1 ∧ AI = w.2.2.2.1 ∧ AJ = w.2.2.2.2.1 ∧ AR = w.2.2.2.2.2 ∧ (z = 0 ∨ z = 1) ∧ (tIz z (¬ ((I ln 5).toInt + (I ln 6).toInt ≤ 4 ∧ (I ln 8).toInt = (I ln 5).toInt))))) := sorry
def rmX1_readCloseg : Room := { frames := 1, cells := 0, slots := 0, locals := 21 }
set_option maxHeartbeats 4000000 in
set_option maxRecDepth 100000 in
/-- the end of a line -/
theorem c_X1_readCloseg (l : Launch) (g : gG) (gh : gGh) (q ln : Nat) (x7 : Int) (b : tTx) (n : Nat) (tl : Int) (nr : Nat) (nt : Nat → Nat) (cl : Nat → Int) (h : Nat) (I : gI) (R : gR) (J : gJ) (AI : gI) (AJ : gJ) (AR : gR) (a : Nat) (hv : gInv g gh R AR I AI) (hp : pS g gh R I a q ln) (hP : pH gh AR I J AI AJ a q b n tl nr nt cl h) (hbp : pB (I ln) x7) : gMet l g yX1_readClose wsX1_readClose rmX1_readCloseg [.ref a] (I, R, J, AI, AJ, AR) (gQi g (fun (z : Int) (w : gS) => R = w.2.1 ∧ J = w.2.2.1 ∧ AI = w.2.2.2.1 ∧ AJ = w.2.2.2.2.1 ∧ AR = w.2.2.2.2.2 ∧ (gInv g gh R AR (w.1) AI) ∧ (pS g gh R (w.1) a q ln) ∧ (pF a ln I (w.1)) ∧ (z = 0 → ((w.1) ln 2).toInt ≤ 4) ∧ (0 ≤ z ∧ z ≤ 5) ∧ (z = (sClo b n x7 h).1) ∧ (pH gh AR (w.1) J AI AJ a q b n tl nr nt cl (sClo b n x7 h).2.1) ∧ (pIm z (((w.1) ln 2).toInt) ((sClo b n x7 h).2.2)) ∧ ((w.1) ln = I ln))) := sorry
def rmX1_readBodyg : Room := { frames := 5, cells := 0, slots := 0, locals := 111 }
set_option maxHeartbeats 4000000 in
set_option maxRecDepth 100000 in
/-- the body of a line -/
theorem c_X1_readBodyg (l : Launch) (g : gG) (gh : gGh) (q ln : Nat) (k7 : Int) (b : tTx) (n : Nat) (tl : Int) (nr : Nat) (nt : Nat → Nat) (cl : Nat → Int) (h : Nat) (I : gI) (R : gR) (J : gJ) (AI : gI) (AJ : gJ) (AR : gR) (a : Nat) (hv : gInv g gh R AR I AI) (hp : pS g gh R I a q ln) (hP : pH gh AR I J AI AJ a q b n tl nr nt cl h) (hk7 : (I ln 0).toInt = k7) (hk8 : (I ln 8).toInt = 0) (h3n : (I ln 3).toInt = -1) (h4n : (I ln 4).toInt = -1) : gMet l g yX1_readBody wsX1_readBody rmX1_readBodyg [.ref a] (I, R, J, AI, AJ, AR) (gQi g (fun (z : Int) (w : gS) => R = w.2.1 ∧ J = w.2.2.1 ∧ AJ = w.2.2.2.2.1 ∧ AR = w.2.2.2.2.2 ∧ (gInv g gh R AR (w.1) (w.2.2.2.1)) ∧ (pS g gh R (w.1) a q ln) ∧ (pF a ln I (w.1)) ∧ (0 ≤ z ∧ z ≤ 5) ∧ (z = (sBody b n nr nt cl k7 h).1) ∧ (pH gh AR (w.1) J (w.2.2.2.1) AJ a q b n tl nr nt cl (sBody b n nr nt cl k7 h).2.1) ∧ (pBz z ((w.1) ln) (sBody b n nr nt cl k7 h).2.2) ∧ (∀ b, b ≠ gh 3 ln → (w.2.2.2.1) b = AI b) ∧ (zIf z (kLn b n nr nt cl h ((w.1) ln) ((w.2.2.2.1) (gh 3 ln)) k7)))) := sorry
def rmX1_readNewNameg : Room := { frames := 2, cells := 0, slots := 0, locals := 42 }
set_option maxHeartbeats 4000000 in
set_option maxRecDepth 100000 in
/-- a new name -/
theorem c_X1_readNewNameg (l : Launch) (g : gG) (gh : gGh) (q ln : Nat) (b : tTx) (n : Nat) (tl : Int) (nr : Nat) (nt : Nat → Nat) (cl : Nat → Int) (h : Nat) (I : gI) (R : gR) (J : gJ) (AI : gI) (AJ : gJ) (AR : gR) (a : Nat) (hv : gInv g gh R AR I AI) (hp : pS g gh R I a q ln) (hP : pH gh AR I J AI AJ a q b n tl nr nt cl h) : gMet l g yX1_readNewName wsX1_readNewName rmX1_readNewNameg [.ref a] (I, R, J, AI, AJ, AR) (gQi g (fun (z : Int) (w : gS) => R = w.2.1 ∧ AI = w.2.2.2.1 ∧ AJ = w.2.2.2.2.1 ∧ AR = w.2.2.2.2.2 ∧ (gInv g gh R AR (w.1) AI) ∧ (pS g gh R (w.1) a q ln) ∧ (pF a ln I (w.1)) ∧ ((w.1) ln = I ln) ∧ (0 ≤ z ∧ z ≤ 3) ∧ (z = (sNam b n nr nt h).1) ∧ (pH gh AR (w.1) (w.2.2.1) AI AJ a q b n tl nr nt cl (sNam b n nr nt h).2.1) ∧ (pIm z ((sNam b n nr nt h).2.2) (0)) ∧ (pJm z ((w.2.2.1) ln 1) (pN b n h)) ∧ (∀ y, y ≠ ln → (w.2.2.1) y = J y))) := sorry
def rmX1_readViewKindg : Room := { frames := 2, cells := 0, slots := 0, locals := 42 }
set_option maxHeartbeats 4000000 in
set_option maxRecDepth 100000 in
/-- the kind of a view -/
theorem c_X1_readViewKindg (l : Launch) (g : gG) (gh : gGh) (q ln : Nat) (b : tTx) (n : Nat) (tl : Int) (nr : Nat) (nt : Nat → Nat) (cl : Nat → Int) (h : Nat) (I : gI) (R : gR) (J : gJ) (AI : gI) (AJ : gJ) (AR : gR) (a : Nat) (hv : gInv g gh R AR I AI) (hp : pS g gh R I a q ln) (hp8 : (I ln 8).toInt = 0) (hP : pH gh AR I J AI AJ a q b n tl nr nt cl h) : gMet l g yX1_readViewKind wsX1_readViewKind rmX1_readViewKindg [.ref a] (I, R, J, AI, AJ, AR) (gQi g (fun (z : Int) (w : gS) => R = w.2.1 ∧ J = w.2.2.1 ∧ AI = w.2.2.2.1 ∧ AJ = w.2.2.2.2.1 ∧ AR = w.2.2.2.2.2 ∧ (gInv g gh R AR (w.1) AI) ∧ (pS g gh R (w.1) a q ln) ∧ (∀ b, b ≠ a → b ≠ ln → (w.1) b = I b) ∧ (z = 0 ∨ z = 1) ∧ (((w.1) ln 8).toInt = 0) ∧ (z = (sVk b n h).1) ∧ (pH gh AR (w.1) J AI AJ a q b n tl nr nt cl (sVk b n h).2.1) ∧ (pIm z (((w.1) ln 0).toInt) ((sVk b n h).2.2)) ∧ (((w.1) ln 3).toInt = (I ln 3).toInt ∧ ((w.1) ln 4).toInt = (I ln 4).toInt))) := sorry

end

section
def rmX6_tupleCellf : Room := { frames := 6, cells := 1, slots := 6, locals := 82 }
set_option maxHeartbeats 4000000 in
set_option maxRecDepth 100000 in
/-- a cell of a tuple -/
theorem c_X6_tupleCellf (l : Launch) (g : gG) (gh : gGh) (n : Nat) (I : gI) (R : gR) (J : gJ) (AI : gI) (AJ : gJ) (AR : gR) (a : Nat) (cl : Int) (row : Int) (place : Int) (zcl : zr cl) (zrow : zr row) (zplace : zr place) (hv : gInv g gh R AR I AI) (ha : gO g a 4) (hcl : cl ≤ 6) (hn9 : (I a 3).toInt = (n : Int)) (h49 : gh 2 a = 4) (hst : l.stackTraces = false) : gMetX l g yX6_tupleCell tsX6_tupleCell rmX6_tupleCellf [.ref a, .int (iI cl), .int (iI row), .int (iI place)] (I, R, J, AI, AJ, AR) (gQi g (fun (z : Int) (w : gS) => I = w.1 ∧ R = w.2.1 ∧ J = w.2.2.1 ∧ AI = w.2.2.2.1 ∧ AJ = w.2.2.2.2.1 ∧ AR = w.2.2.2.2.2 ∧ (((0 ≤ row ∧ row < (n : Int)) ∧ (place = 4 ∨ (0 ≤ place ∧ place < cl))) ∧ z = (AI (gh 0 a) (6 * row.toNat + place.toNat)).toInt))) (fun w : gS => I = w.1 ∧ R = w.2.1 ∧ J = w.2.2.1 ∧ AI = w.2.2.2.1 ∧ AJ = w.2.2.2.2.1 ∧ AR = w.2.2.2.2.2 ∧ (¬ ((0 ≤ row ∧ row < (n : Int)) ∧ (place = 4 ∨ (0 ≤ place ∧ place < cl))))) := sorry
def rmX6_atf : Room := { frames := 7, cells := 1, slots := 6, locals := 105 }
set_option maxHeartbeats 4000000 in
set_option maxRecDepth 100000 in
/-- at -/
theorem c_X6_atf (l : Launch) (g : gG) (gh : gGh) (pA bA nA : Nat) (nr : Nat) (cc : Nat → LC) (I : gI) (R : gR) (J : gJ) (AI : gI) (AJ : gJ) (AR : gR) (x : Nat) (rel : Int) (row : Int) (place : Int) (zrel : zr rel) (zrow : zr row) (zplace : zr place) (hv : gInv g gh R AR I AI) (hx : xS g gh R AR x pA bA nA) (hlen : (I pA 1).toInt = (nr : Int)) (hln : ∀ r, r < nr → lnC (I (rob AR (gh 6 pA) r)) (AI (gh 3 (rob AR (gh 6 pA) r))) (cc r)) (hst : l.stackTraces = false) : gMetX l g yX6_at tsX6_at rmX6_atf [.ref x, .int (iI rel), .int (iI row), .int (iI place)] (I, R, J, AI, AJ, AR) (gQi g (fun (z : Int) (w : gS) => I = w.1 ∧ R = w.2.1 ∧ J = w.2.2.1 ∧ AI = w.2.2.2.1 ∧ AJ = w.2.2.2.2.1 ∧ AR = w.2.2.2.2.2 ∧ (((0 ≤ rel ∧ rel < (nr : Int)) ∧ (place = 4 ∨ (0 ≤ place ∧ place < (cc rel.toNat).1 1)) ∧ 0 ≤ row ∧ row < (((rfC gh AR I AI bA rel.toNat).1 : Nat) : Int)) ∧ z = (((rfC gh AR I AI bA rel.toNat)).2 (6 * row.toNat + place.toNat)).toInt))) (fun w : gS => I = w.1 ∧ R = w.2.1 ∧ J = w.2.2.1 ∧ AI = w.2.2.2.1 ∧ AJ = w.2.2.2.2.1 ∧ AR = w.2.2.2.2.2 ∧ (¬ ((0 ≤ rel ∧ rel < (nr : Int)) ∧ (place = 4 ∨ (0 ≤ place ∧ place < (cc rel.toNat).1 1)) ∧ 0 ≤ row ∧ row < (((rfC gh AR I AI bA rel.toNat).1 : Nat) : Int)))) := sorry
def rmX6_movedAtf : Room := { frames := 7, cells := 1, slots := 6, locals := 105 }
set_option maxHeartbeats 4000000 in
set_option maxRecDepth 100000 in
/-- movedAt -/
theorem c_X6_movedAtf (l : Launch) (g : gG) (gh : gGh) (pA bA nA : Nat) (nr : Nat) (cc : Nat → LC) (I : gI) (R : gR) (J : gJ) (AI : gI) (AJ : gJ) (AR : gR) (x : Nat) (rel : Int) (row : Int) (place : Int) (zrel : zr rel) (zrow : zr row) (zplace : zr place) (hv : gInv g gh R AR I AI) (hx : xS g gh R AR x pA bA nA) (hlen : (I pA 1).toInt = (nr : Int)) (hln : ∀ r, r < nr → lnC (I (rob AR (gh 6 pA) r)) (AI (gh 3 (rob AR (gh 6 pA) r))) (cc r)) (hst : l.stackTraces = false) : gMetX l g yX6_movedAt tsX6_movedAt rmX6_movedAtf [.ref x, .int (iI rel), .int (iI row), .int (iI place)] (I, R, J, AI, AJ, AR) (gQi g (fun (z : Int) (w : gS) => I = w.1 ∧ R = w.2.1 ∧ J = w.2.2.1 ∧ AI = w.2.2.2.1 ∧ AJ = w.2.2.2.2.1 ∧ AR = w.2.2.2.2.2 ∧ (((0 ≤ rel ∧ rel < (nr : Int)) ∧ (place = 4 ∨ (0 ≤ place ∧ place < (cc rel.toNat).1 1)) ∧ 0 ≤ row ∧ row < (((rfC gh AR I AI (gh 35 0) rel.toNat).1 : Nat) : Int)) ∧ z = (((rfC gh AR I AI (gh 35 0) rel.toNat)).2 (6 * row.toNat + place.toNat)).toInt))) (fun w : gS => I = w.1 ∧ R = w.2.1 ∧ J = w.2.2.1 ∧ AI = w.2.2.2.1 ∧ AJ = w.2.2.2.2.1 ∧ AR = w.2.2.2.2.2 ∧ (¬ ((0 ≤ rel ∧ rel < (nr : Int)) ∧ (place = 4 ∨ (0 ≤ place ∧ place < (cc rel.toNat).1 1)) ∧ 0 ≤ row ∧ row < (((rfC gh AR I AI (gh 35 0) rel.toNat).1 : Nat) : Int)))) := sorry

end

section
def rmX6_totalf : Room := { frames := 6, cells := 1, slots := 6, locals := 82 }
set_option maxHeartbeats 4000000 in
set_option maxRecDepth 100000 in
/-- total -/
theorem c_X6_totalf (l : Launch) (g : gG) (gh : gGh) (pA bA nA : Nat) (nr : Nat) (I : gI) (R : gR) (J : gJ) (AI : gI) (AJ : gJ) (AR : gR) (x : Nat) (rel : Int) (zrel : zr rel) (hv : gInv g gh R AR I AI) (hx : xS g gh R AR x pA bA nA) (hlen : (I pA 1).toInt = (nr : Int)) (hst : l.stackTraces = false) : gMetX l g yX6_total tsX6_total rmX6_totalf [.ref x, .int (iI rel)] (I, R, J, AI, AJ, AR) (gQi g (fun (z : Int) (w : gS) => I = w.1 ∧ R = w.2.1 ∧ J = w.2.2.1 ∧ AI = w.2.2.2.1 ∧ AJ = w.2.2.2.2.1 ∧ AR = w.2.2.2.2.2 ∧ ((0 ≤ rel ∧ rel < (nr : Int)) ∧ iI z = smA ((rfC gh AR I AI bA rel.toNat)).2 ((rfC gh AR I AI bA rel.toNat)).1))) (fun w : gS => I = w.1 ∧ R = w.2.1 ∧ J = w.2.2.1 ∧ AI = w.2.2.2.1 ∧ AJ = w.2.2.2.2.1 ∧ AR = w.2.2.2.2.2 ∧ (rel < 0 ∨ (nr : Int) ≤ rel)) := sorry

end

section
def rmL_atf : Room := { frames := 8, cells := 1, slots := 6, locals := 128 }
set_option maxHeartbeats 4000000 in
set_option maxRecDepth 100000 in
/-- at, caught -/
theorem c_L_atf (l : Launch) (g : gG) (gh : gGh) (pA bA nA : Nat) (nr : Nat) (cc : Nat → LC) (I : gI) (R : gR) (J : gJ) (AI : gI) (AJ : gJ) (AR : gR) (x : Nat) (rel : Int) (row : Int) (place : Int) (ou : Nat) (zrel : zr rel) (zrow : zr row) (zplace : zr place) (hv : gInv g gh R AR I AI) (hx : xS g gh R AR x pA bA nA) (hou : gAr g ou 10 1) (hlen : (I pA 1).toInt = (nr : Int)) (hln : ∀ r, r < nr → lnC (I (rob AR (gh 6 pA) r)) (AI (gh 3 (rob AR (gh 6 pA) r))) (cc r)) (hst : l.stackTraces = false) : gMetX l g yL_at tsL_at rmL_atf [.ref x, .int (iI rel), .int (iI row), .int (iI place), .ref ou] (I, R, J, AI, AJ, AR) (gQi g (fun (z : Int) (w : gS) => I = w.1 ∧ R = w.2.1 ∧ J = w.2.2.1 ∧ AI = w.2.2.2.1 ∧ AR = w.2.2.2.2.2 ∧ (gInv g gh R AR I AI) ∧ (z = 0 ∨ z = 1) ∧ ((z = 0 ∧ ∃ v9 : Int, (((0 ≤ rel ∧ rel < (nr : Int)) ∧ (place = 4 ∨ (0 ≤ place ∧ place < (cc rel.toNat).1 1)) ∧ 0 ≤ row ∧ row < (((rfC gh AR I AI bA rel.toNat).1 : Nat) : Int)) ∧ v9 = (((rfC gh AR I AI bA rel.toNat)).2 (6 * row.toNat + place.toNat)).toInt) ∧ zr v9 ∧ (w.2.2.2.2.1) ou 0 = (iI v9).toInt64) ∨ (z = 1 ∧ (¬ ((0 ≤ rel ∧ rel < (nr : Int)) ∧ (place = 4 ∨ (0 ≤ place ∧ place < (cc rel.toNat).1 1)) ∧ 0 ≤ row ∧ row < (((rfC gh AR I AI bA rel.toNat).1 : Nat) : Int))))) ∧ (∀ b, b ≠ ou → (w.2.2.2.2.1) b = AJ b))) (fun _ : gS => False) := sorry
def rmL_totalf : Room := { frames := 7, cells := 1, slots := 6, locals := 106 }
set_option maxHeartbeats 4000000 in
set_option maxRecDepth 100000 in
/-- total, caught -/
theorem c_L_totalf (l : Launch) (g : gG) (gh : gGh) (pA bA nA : Nat) (nr : Nat) (I : gI) (R : gR) (J : gJ) (AI : gI) (AJ : gJ) (AR : gR) (x : Nat) (rel : Int) (ou : Nat) (zrel : zr rel) (hv : gInv g gh R AR I AI) (hx : xS g gh R AR x pA bA nA) (hou : gAr g ou 10 1) (hlen : (I pA 1).toInt = (nr : Int)) (hst : l.stackTraces = false) : gMetX l g yL_total tsL_total rmL_totalf [.ref x, .int (iI rel), .ref ou] (I, R, J, AI, AJ, AR) (gQi g (fun (z : Int) (w : gS) => I = w.1 ∧ R = w.2.1 ∧ J = w.2.2.1 ∧ AI = w.2.2.2.1 ∧ AR = w.2.2.2.2.2 ∧ (gInv g gh R AR I AI) ∧ (z = 0 ∨ z = 1) ∧ ((z = 0 ∧ ∃ v9 : Int, ((0 ≤ rel ∧ rel < (nr : Int)) ∧ iI v9 = smA ((rfC gh AR I AI bA rel.toNat)).2 ((rfC gh AR I AI bA rel.toNat)).1) ∧ zr v9 ∧ (w.2.2.2.2.1) ou 0 = (iI v9).toInt64) ∨ (z = 1 ∧ (rel < 0 ∨ (nr : Int) ≤ rel))) ∧ (∀ b, b ≠ ou → (w.2.2.2.2.1) b = AJ b))) (fun _ : gS => False) := sorry
def rmL_movedAtf : Room := { frames := 8, cells := 1, slots := 6, locals := 128 }
set_option maxHeartbeats 4000000 in
set_option maxRecDepth 100000 in
/-- movedAt, caught -/
theorem c_L_movedAtf (l : Launch) (g : gG) (gh : gGh) (pA bA nA : Nat) (nr : Nat) (cc : Nat → LC) (I : gI) (R : gR) (J : gJ) (AI : gI) (AJ : gJ) (AR : gR) (x : Nat) (rel : Int) (row : Int) (place : Int) (ou : Nat) (zrel : zr rel) (zrow : zr row) (zplace : zr place) (hv : gInv g gh R AR I AI) (hx : xS g gh R AR x pA bA nA) (hou : gAr g ou 10 1) (hlen : (I pA 1).toInt = (nr : Int)) (hln : ∀ r, r < nr → lnC (I (rob AR (gh 6 pA) r)) (AI (gh 3 (rob AR (gh 6 pA) r))) (cc r)) (hst : l.stackTraces = false) : gMetX l g yL_movedAt tsL_movedAt rmL_movedAtf [.ref x, .int (iI rel), .int (iI row), .int (iI place), .ref ou] (I, R, J, AI, AJ, AR) (gQi g (fun (z : Int) (w : gS) => I = w.1 ∧ R = w.2.1 ∧ J = w.2.2.1 ∧ AI = w.2.2.2.1 ∧ AR = w.2.2.2.2.2 ∧ (gInv g gh R AR I AI) ∧ (z = 0 ∨ z = 1) ∧ ((z = 0 ∧ ∃ v9 : Int, (((0 ≤ rel ∧ rel < (nr : Int)) ∧ (place = 4 ∨ (0 ≤ place ∧ place < (cc rel.toNat).1 1)) ∧ 0 ≤ row ∧ row < (((rfC gh AR I AI (gh 35 0) rel.toNat).1 : Nat) : Int)) ∧ v9 = (((rfC gh AR I AI (gh 35 0) rel.toNat)).2 (6 * row.toNat + place.toNat)).toInt) ∧ zr v9 ∧ (w.2.2.2.2.1) ou 0 = (iI v9).toInt64) ∨ (z = 1 ∧ (¬ ((0 ≤ rel ∧ rel < (nr : Int)) ∧ (place = 4 ∨ (0 ≤ place ∧ place < (cc rel.toNat).1 1)) ∧ 0 ≤ row ∧ row < (((rfC gh AR I AI (gh 35 0) rel.toNat).1 : Nat) : Int))))) ∧ (∀ b, b ≠ ou → (w.2.2.2.2.1) b = AJ b))) (fun _ : gS => False) := sorry

end

section
/-! the last round, read off the marks -/
def rdX (f : Nat → Int32) (i : Nat) (v : Int) : Prop := 0 ≤ v ∧ (∀ q, q < i → (f (6 * q + 5)).toInt ≤ v) ∧ (v = 0 ∨ ∃ q, q < i ∧ v = (f (6 * q + 5)).toInt)
theorem rdX_0 {f : Nat → Int32} : rdX f 0 0 := sorry
theorem rdX_s {f : Nat → Int32} {i : Nat} {v w : Int} (h : rdX f i v) (hw : (w = v ∧ (f (6 * i + 5)).toInt ≤ v) ∨ (w = (f (6 * i + 5)).toInt ∧ v ≤ (f (6 * i + 5)).toInt)) : rdX f (i + 1) w := sorry
theorem rg_R {c : LC} {x y f : Nat → Int32} {n m R k : Nat} {z : Int} (h : rgY c x n y m R f k) (hz : rdX f k z) : z = (R : Int) := sorry

end

section
def rmX6_roundsf : Room := { frames := 2, cells := 0, slots := 0, locals := 42 }
set_option maxHeartbeats 4000000 in
set_option maxRecDepth 100000 in
/-- rounds -/
theorem c_X6_roundsf (l : Launch) (g : gG) (gh : gGh) (pA bA nA : Nat) (nr : Nat) (cc : Nat → LC) (I : gI) (R : gR) (J : gJ) (AI : gI) (AJ : gJ) (AR : gR) (x : Nat) (rel : Int) (zrel : zr rel) (hv : gInv g gh R AR I AI) (hx : xS g gh R AR x pA bA nA) (hlen : (I pA 1).toInt = (nr : Int)) (hln : ∀ r, r < nr → lnC (I (rob AR (gh 6 pA) r)) (AI (gh 3 (rob AR (gh 6 pA) r))) (cc r)) : gMet l g yX6_rounds wsX6_rounds rmX6_roundsf [.ref x, .int (iI rel)] (I, R, J, AI, AJ, AR) (gQi g (fun (z : Int) (w : gS) => I = w.1 ∧ R = w.2.1 ∧ J = w.2.2.1 ∧ AI = w.2.2.2.1 ∧ AJ = w.2.2.2.2.1 ∧ AR = w.2.2.2.2.2 ∧ ((¬ ((0 ≤ rel ∧ rel < (nr : Int)) ∧ (cc rel.toNat).1 0 = 8) ∧ z = -1) ∨ (((0 ≤ rel ∧ rel < (nr : Int)) ∧ (cc rel.toNat).1 0 = 8) ∧ rdX ((rfC gh AR I AI bA rel.toNat)).2 ((rfC gh AR I AI bA rel.toNat)).1 z)))) := sorry

end

section
/-! items of a list that was read: how many, what holds of each -/
section Items2
variable {nx : Nat → Nat} {sp : Nat → Bool} {F h : Nat} {ok : Nat → Prop}
theorem iPos_s : ∀ (k t : Nat), iPos nx t (k + 1) = iPos nx (nx t + 1) k := sorry
theorem iAll_s (h0 : ok h) (hs : sp (nx h) = true) (hr : ∀ j, j < iCnt nx sp F (nx h + 1) → ok (iPos nx (nx h + 1) j)) : ∀ j, j < iCnt nx sp (F + 1) h → ok (iPos nx h j) := sorry
theorem iAll_e (h0 : ok h) (hs : sp (nx h) ≠ true) : ∀ j, j < iCnt nx sp (F + 1) h → ok (iPos nx h j) := sorry
theorem iEx_s {P : Nat → Prop} (hs : sp (nx h) = true) : (∃ j, j < iCnt nx sp (F + 1) h ∧ P (iPos nx h j)) ↔ P h ∨ ∃ j, j < iCnt nx sp F (nx h + 1) ∧ P (iPos nx (nx h + 1) j) := sorry
theorem iEx_e {P : Nat → Prop} (hs : sp (nx h) ≠ true) : (∃ j, j < iCnt nx sp (F + 1) h ∧ P (iPos nx h j)) ↔ P h := sorry
end Items2
section Lists
variable {b : tTx} {n : Nat} {c d : Int}
theorem spC_y {t : Nat} (h : pK b n t = 44) : spC b n t = true := sorry
theorem spC_n {t : Nat} (h : ¬ pK b n t = 44) : spC b n t ≠ true := sorry
/-- a term: none or a column below c -/
def okE (b : tTx) (n : Nat) (c : Int) (t : Nat) : Prop := (teC b n t = -1 ∨ 0 ≤ teC b n t) ∧ teC b n t < c ∧ teC b n t ≤ 3
theorem sTerm_okE {k : Int} {h : Nat} (hc : 0 ≤ c) (h0 : (sTerm b n c k h).1 = 0) : okE b n c h ∧ k < 4 := sorry
theorem sTerms_all (hc : 0 ≤ c) : ∀ (F : Nat) (k : Int) (h : Nat), 0 ≤ k → (sTerms b n c F k h).1 = 0 → (sTerms b n c F k h).2.2 = k + ((iCnt (nxE b n) (spC b n) F h : Nat) : Int) ∧ (k + ((iCnt (nxE b n) (spC b n) F h : Nat) : Int) ≤ 4 ∧ 1 ≤ iCnt (nxE b n) (spC b n) F h) ∧ ∀ j, j < iCnt (nxE b n) (spC b n) F h → okE b n c (iPos (nxE b n) h j) := sorry
theorem sTests_x : ∀ (F : Nat) (k : Int) (h : Nat), (sTests b n c F k h).1 = 0 → (sTests b n c F k h).2.2 = c := sorry
/-- a test: its sign -/
def okT (b : tTx) (n : Nat) (t : Nat) : Prop := (pK b n (t + 1) = 61 ∨ pK b n (t + 1) = 60 ∨ pK b n (t + 1) = 62) ∧ (pK b n (t + 2) = 4 ∨ (pK b n (t + 2) = 2 ∧ 0 ≤ pV b n (t + 2)))
theorem sTest_okT {k : Int} {h : Nat} (h0 : (sTest b n c k h).1 = 0) : okT b n h := sorry
theorem spA_y {t : Nat} (h : pK b n t = 3 ∧ pV b n t = 11) : spA b n t = true := sorry
theorem spA_n {t : Nat} (h : ¬ (pK b n t = 3 ∧ pV b n t = 11)) : spA b n t ≠ true := sorry
theorem sTests_all : ∀ (F : Nat) (k : Int) (h : Nat), (sTests b n c F k h).1 = 0 → ∀ j, j < iCnt nxT (spA b n) F h → okT b n (iPos nxT h j) := sorry
/-- a pair -/
def okP (b : tTx) (n : Nat) (c d : Int) (t : Nat) : Prop := 0 ≤ pV b n t ∧ pV b n t < c ∧ 0 ≤ pV b n (t + 2) ∧ pV b n (t + 2) < d ∧ pV b n t ≤ 3 ∧ pV b n (t + 2) ≤ 3
theorem sPair_okP {k lim : Int} {h : Nat} (h0 : (sPair b n c d k lim h).1 = 0) : okP b n c d h := sorry
theorem sPairs_all : ∀ (F : Nat) (k : Int) (L : List Int) (h : Nat), (sPairs b n c d F k L h).1 = 0 → (∃ L' : List Int, (sPairs b n c d F k L h).2.2 = c + jC L' d.toNat ∧ ∀ x, x ∈ L' ↔ x ∈ L ∨ ∃ j, j < iCnt nxT (spC b n) F h ∧ pV b n (iPos nxT h j + 2) = x) ∧ ∀ j, j < iCnt nxT (spC b n) F h → okP b n c d (iPos nxT h j) := sorry
theorem sBys_all : ∀ (F : Nat) (k : Int) (L : List Int) (h : Nat), 0 ≤ k → (sBys b n c F k L h).1 = 0 → (sBys b n c F k L h).2.2 = k + ((iCnt nxB (spC b n) F h : Nat) : Int) ∧ (k + ((iCnt nxB (spC b n) F h : Nat) : Int) ≤ 3 ∧ 1 ≤ iCnt nxB (spC b n) F h) ∧ (sBys b n c F k L h).2.1 = nxB (iPos nxB h (iCnt nxB (spC b n) F h - 1)) := sorry
end Lists


end

section
/-! a line that was read, by tokens alone -/
section Cong
variable {b : tTx} {n r : Nat} {nt nt' : Nat → Nat} {cl cl' : Nat → Int}
theorem pFd_cg (e : ∀ u, u < r → nt' u = nt u) (h : Nat) : pFd b n nt' r h = pFd b n nt r h := sorry
theorem pFd_r (h : Nat) : pFd b n nt r h < (r : Int) := sorry
theorem pRf_cg (e : ∀ u, u < r → nt' u = nt u) (h : Nat) : pRf b n nt' r h = pRf b n nt r h := sorry
theorem cF_cg (e : ∀ u, u < r → nt' u = nt u) (e2 : ∀ u, u < r → cl' u = cl u) {h : Nat} (k : pRf b n nt r h = 0) : cF b n r nt' cl' h = cF b n r nt cl h := sorry
theorem sRl_cg (e : ∀ u, u < r → nt' u = nt u) (e2 : ∀ u, u < r → cl' u = cl u) : sRl b n r nt' cl' = sRl b n r nt cl := sorry
theorem sTwo_cg (e : ∀ u, u < r → nt' u = nt u) (e2 : ∀ u, u < r → cl' u = cl u) (h : Nat) : sTwo b n r nt' cl' h = sTwo b n r nt cl h := sorry
theorem sBody_cg (e : ∀ u, u < r → nt' u = nt u) (e2 : ∀ u, u < r → cl' u = cl u) (kd : Int) (h : Nat) : sBody b n r nt' cl' kd h = sBody b n r nt cl kd h := sorry
end Cong
/-- a line that was read: its kind, its body, its end -/
def bTk (b : tTx) (n t : Nat) : Nat := if kdT b n t = 0 then t + 1 else t + 3
def LG (b : tTx) (n : Nat) (nt : Nat → Nat) (cl : Nat → Int) (r : Nat) : Prop :=
  (0 ≤ kdT b n (nt r) ∧ kdT b n (nt r) ≤ 8) ∧ (sBody b n r nt cl (kdT b n (nt r)) (bTk b n (nt r))).1 = 0 ∧ (sBody b n r nt cl (kdT b n (nt r)) (bTk b n (nt r))).2.2 = cl r ∧ cl r ≤ 4
theorem LG_cg {b : tTx} {n r : Nat} {nt nt' : Nat → Nat} {cl cl' : Nat → Int} (e : ∀ u, u ≤ r → nt' u = nt u) (e2 : ∀ u, u ≤ r → cl' u = cl u) (h : LG b n nt cl r) : LG b n nt' cl' r := sorry
/-! a fault's kind is never below 0 -/
section Ge
variable {b : tTx} {n nr h : Nat} {nt : Nat → Nat} {cl : Nat → Int} {tb c d k lim x : Int} {L : List Int}
theorem thn_ge {r : pR} {f : Nat → Int → pR} (h : 0 ≤ r.1) (k : ∀ t v, 0 ≤ (f t v).1) : 0 ≤ (thn r f).1 := sorry
theorem pRf_ge : 0 ≤ pRf b n nt nr h := sorry
theorem sTk_ge : 0 ≤ (sTk b n k h).1 := sorry
theorem sTw_ge : 0 ≤ (sTw b n k h).1 := sorry
theorem sRl_ge : 0 ≤ (sRl b n nr nt cl h).1 := sorry
theorem sTest_ge : 0 ≤ (sTest b n c k h).1 := sorry
theorem sTests_ge : ∀ (F : Nat) (k : Int) (h : Nat), 0 ≤ (sTests b n c F k h).1 := sorry
theorem sTerm_ge : 0 ≤ (sTerm b n c k h).1 := sorry
theorem sTerms_ge : ∀ (F : Nat) (k : Int) (h : Nat), 0 ≤ (sTerms b n c F k h).1 := sorry
theorem sPair_ge : 0 ≤ (sPair b n c d k lim h).1 := sorry
theorem sPairs_ge : ∀ (F : Nat) (k : Int) (L : List Int) (h : Nat), 0 ≤ (sPairs b n c d F k L h).1 := sorry
theorem sBy_ge : 0 ≤ (sBy b n c k L h).1 := sorry
theorem sBys_ge : ∀ (F : Nat) (k : Int) (L : List Int) (h : Nat), 0 ≤ (sBys b n c F k L h).1 := sorry
theorem sFo_ge : 0 ≤ (sFo b n c x h).1 := sorry
theorem sTc_ge : 0 ≤ (sTc b n h).1 := sorry
theorem sClo_ge : 0 ≤ (sClo b n x h).1 := sorry
theorem sNam_ge : 0 ≤ (sNam b n nr nt h).1 := sorry
theorem sVk_ge : 0 ≤ (sVk b n h).1 := sorry
theorem sTwo_ge : 0 ≤ (sTwo b n nr nt cl h).1 := sorry
theorem sBody_ge : 0 ≤ (sBody b n nr nt cl k h).1 := sorry
theorem sHd_ge : 0 ≤ (sHd b n nr nt tb h).1 := sorry
theorem sLine_ge : 0 ≤ (sLine b n nr nt cl tb h).1 := sorry
end Ge
section Line
variable {b : tTx} {n nr h : Nat} {nt : Nat → Nat} {cl : Nat → Int} {tb : Int}
theorem sNam_h (h0 : (sNam b n nr nt h).1 = 0) : (sNam b n nr nt h).2.1 = h + 1 := sorry
theorem sVk_h (h0 : (sVk b n h).1 = 0) : (sVk b n h).2.1 = h + 2 ∧ (sVk b n h).2.2 = pV b n (h + 1) ∧ 1 ≤ pV b n (h + 1) ∧ pV b n (h + 1) ≤ 8 := sorry
/-- the head of a line: kind, where its body begins; tables ahead of views -/
theorem sHd_h (h0 : (sHd b n nr nt tb h).1 = 0) : (sHd b n nr nt tb h).2.2 = kdT b n (h + 1) ∧ (sHd b n nr nt tb h).2.1 = bTk b n (h + 1) ∧ (0 ≤ kdT b n (h + 1) ∧ kdT b n (h + 1) ≤ 8) ∧ ((pK b n h = 3 ∧ pV b n h = 0) ↔ kdT b n (h + 1) = 0) ∧ (kdT b n (h + 1) = 0 → ¬ tb < (nr : Int)) := sorry
theorem sClo_h {x : Int} (h0 : (sClo b n x h).1 = 0) : (sClo b n x h).2.2 = x ∧ x ≤ 4 ∧ (sClo b n x h).2.1 = h + 1 := sorry
theorem sLine_LG (h0 : (sLine b n nr nt cl tb h).1 = 0) : LG b n (sUp nt nr (h + 1)) (sUp cl nr (sLine b n nr nt cl tb h).2.2) nr ∧ ((pK b n h = 3 ∧ pV b n h = 0) ↔ kdT b n (h + 1) = 0) ∧ (kdT b n (h + 1) = 0 → ¬ tb < (nr : Int)) := sorry
/-- tables ahead of views; of lines so far -/
def tbO (b : tTx) (n : Nat) (nt : Nat → Nat) (tb : Int) (nr : Nat) : Prop := 0 ≤ tb ∧ tb ≤ (nr : Int) ∧ ∀ r, r < nr → (kdT b n (nt r) = 0 ↔ (r : Int) < tb)
theorem sPar_LG : ∀ (F nr : Nat) (nt : Nat → Nat) (cl : Nat → Int) (tb : Int) (h : Nat), (∀ r, r < nr → LG b n nt cl r) → tbO b n nt tb nr → (sPar b n F nr nt cl tb h).1 = 0 →
    (sPar b n F nr nt cl tb h).2 = (sParF b n F nr nt cl tb h).1 ∧ (∀ r, r < (sParF b n F nr nt cl tb h).1 → LG b n (sParF b n F nr nt cl tb h).2.1 (sParF b n F nr nt cl tb h).2.2.1 r) ∧ tbO b n (sParF b n F nr nt cl tb h).2.1 (sParF b n F nr nt cl tb h).2.2.2 (sParF b n F nr nt cl tb h).1 := sorry
end Line


end

section
/-! what a line that was read holds: by kinds -/
section Good
variable {b : tTx} {n nr h : Nat} {nt : Nat → Nat} {cl : Nat → Int} {r : pR} {f : Nat → Int → pR}
theorem thn_i (e : (thn r f).1 = 0) : r.1 = 0 ∧ thn r f = f r.2.1 r.2.2 := sorry
theorem gSel (e : (sSel b n nr nt cl h).1 = 0) : 0 ≤ pFd b n nt nr h ∧ (sSel b n nr nt cl h).2.2 = cF b n nr nt cl h ∧ ∀ j, j < iCnt nxT (spA b n) 9 (h + 2) → okT b n (iPos nxT (h + 2) j) := sorry
theorem gPrj (hc : ∀ u, u < nr → 1 ≤ cl u ∧ cl u ≤ 4) (e : (sPrj b n nr nt cl h).1 = 0) : 0 ≤ pFd b n nt nr h ∧ (sPrj b n nr nt cl h).2.2 = ((iCnt (nxE b n) (spC b n) 5 (h + 1) : Nat) : Int) ∧ (1 ≤ iCnt (nxE b n) (spC b n) 5 (h + 1) ∧ iCnt (nxE b n) (spC b n) 5 (h + 1) ≤ 4) ∧ ∀ j, j < iCnt (nxE b n) (spC b n) 5 (h + 1) → okE b n (cF b n nr nt cl h) (iPos (nxE b n) (h + 1) j) := sorry
theorem gJoi (e : (sJoi b n nr nt cl h).1 = 0) : 0 ≤ pFd b n nt nr h ∧ 0 ≤ pFd b n nt nr (h + 1) ∧ (∃ L' : List Int, (sJoi b n nr nt cl h).2.2 = cF b n nr nt cl h + jC L' (cF b n nr nt cl (h + 1)).toNat ∧ ∀ x, x ∈ L' ↔ ∃ j, j < iCnt nxT (spC b n) 5 (h + 3) ∧ pV b n (iPos nxT (h + 3) j + 2) = x) ∧ ∀ j, j < iCnt nxT (spC b n) 5 (h + 3) → okP b n (cF b n nr nt cl h) (cF b n nr nt cl (h + 1)) (iPos nxT (h + 3) j) := sorry
theorem gTwo (e : (sTwo b n nr nt cl h).1 = 0) : 0 ≤ pFd b n nt nr h ∧ 0 ≤ pFd b n nt nr (h + 1) ∧ (sTwo b n nr nt cl h).2.2 = cF b n nr nt cl h ∧ cF b n nr nt cl (h + 1) = cF b n nr nt cl h := sorry
theorem gFo {c x : Int} (e : (sFo b n c x h).1 = 0) : (16 ≤ pV b n h ∧ pV b n h ≤ 19) ∧ (pV b n h ≠ 16 → 0 ≤ pV b n (h + 1) ∧ pV b n (h + 1) ≤ 3) ∧ (sFo b n c x h).2.2 = x := sorry
theorem gGrp (e : (sGrp b n nr nt cl h).1 = 0) : 0 ≤ pFd b n nt nr h ∧ (sGrp b n nr nt cl h).2.2 = ((iCnt nxB (spC b n) 4 (h + 2) : Nat) : Int) + 1 ∧ (1 ≤ iCnt nxB (spC b n) 4 (h + 2) ∧ iCnt nxB (spC b n) 4 (h + 2) ≤ 3) ∧
    (16 ≤ pV b n (nxB (iPos nxB (h + 2) (iCnt nxB (spC b n) 4 (h + 2) - 1))) ∧ pV b n (nxB (iPos nxB (h + 2) (iCnt nxB (spC b n) 4 (h + 2) - 1))) ≤ 19) ∧
    (pV b n (nxB (iPos nxB (h + 2) (iCnt nxB (spC b n) 4 (h + 2) - 1))) ≠ 16 → 0 ≤ pV b n (nxB (iPos nxB (h + 2) (iCnt nxB (spC b n) 4 (h + 2) - 1)) + 1) ∧ pV b n (nxB (iPos nxB (h + 2) (iCnt nxB (spC b n) 4 (h + 2) - 1)) + 1) ≤ 3) := sorry
theorem gRng (hc : ∀ u, u < nr → 1 ≤ cl u ∧ cl u ≤ 4) (e : (sRng b n nr nt cl h).1 = 0) : 0 ≤ pFd b n nt nr h ∧ 0 ≤ pFd b n nt nr (h + 2) ∧ (sRng b n nr nt cl h).2.2 = rX (cF b n nr nt cl h) (cF b n nr nt cl (h + 2)) ((iCnt (nxE b n) (spC b n) 5 (h + 8) : Nat) : Int) ∧ okP b n (cF b n nr nt cl h) (cF b n nr nt cl (h + 2)) (h + 4) ∧ ∀ j, j < iCnt (nxE b n) (spC b n) 5 (h + 8) → okE b n (cF b n nr nt cl h + cF b n nr nt cl (h + 2)) (iPos (nxE b n) (h + 8) j) := sorry
end Good


end

section
/-! one line as told, by tokens -/
section Lct
variable (b : tTx) (n : Nat) (nt : Nat → Nat) (cl : Nat → Int) (r : Nat)
def lcF : Int := if kdT b n (nt r) = 0 then -1 else pFd b n nt r (nt r + 3)
def lcS : Int := if kdT b n (nt r) = 3 ∨ kdT b n (nt r) = 4 ∨ kdT b n (nt r) = 5 then pFd b n nt r (nt r + 3 + 1) else if kdT b n (nt r) = 8 then pFd b n nt r (nt r + 3 + 2) else -1
def lcN : Nat := if kdT b n (nt r) = 1 then iCnt nxT (spA b n) 9 (nt r + 3 + 2) else if kdT b n (nt r) = 2 then iCnt (nxE b n) (spC b n) 5 (nt r + 3 + 1) else if kdT b n (nt r) = 3 then iCnt nxT (spC b n) 5 (nt r + 3 + 3)
  else if kdT b n (nt r) = 7 then iCnt nxB (spC b n) 4 (nt r + 3 + 2) else if kdT b n (nt r) = 8 then iCnt (nxE b n) (spC b n) 5 (nt r + 3 + 8) else 0
def lcO : Nat := nxB (iPos nxB (nt r + 3 + 2) (lcN b n nt r - 1))
def lcP (k w : Nat) : Int :=
  if kdT b n (nt r) = 1 then (if w = 0 then pV b n (iPos nxT (nt r + 3 + 2) k) else if w = 1 then pK b n (iPos nxT (nt r + 3 + 2) k + 1) else if w = 2 then (if pK b n (iPos nxT (nt r + 3 + 2) k + 2) = 4 then -1 else pV b n (iPos nxT (nt r + 3 + 2) k + 2)) else pV b n (iPos nxT (nt r + 3 + 2) k + 2))
  else if kdT b n (nt r) = 2 then (if w = 0 then teC b n (iPos (nxE b n) (nt r + 3 + 1) k) else teN b n (iPos (nxE b n) (nt r + 3 + 1) k))
  else if kdT b n (nt r) = 3 then (if w = 0 then pV b n (iPos nxT (nt r + 3 + 3) k) else pV b n (iPos nxT (nt r + 3 + 3) k + 2))
  else if kdT b n (nt r) = 7 then pV b n (iPos nxB (nt r + 3 + 2) k)
  else (if w = 0 then teC b n (iPos (nxE b n) (nt r + 3 + 8) k) else teN b n (iPos (nxE b n) (nt r + 3 + 8) k))
def lcA : Nat → Int
  | 0 => kdT b n (nt r)
  | 1 => cl r
  | 2 => lcF b n nt r
  | 3 => lcS b n nt r
  | 4 => ((lcN b n nt r : Nat) : Int)
  | 5 => cl (lcF b n nt r).toNat
  | 6 => cl (lcS b n nt r).toNat
  | 7 => pV b n (nt r + 3 + 4)
  | 8 => pV b n (nt r + 3 + 6)
  | 9 => pV b n (lcO b n nt r) - 16
  | 10 => if pV b n (lcO b n nt r) = 16 then 0 else pV b n (lcO b n nt r + 1)
  | _ => 0
def lcT : LC := (lcA b n nt cl r, lcP b n nt r)
end Lct
section LctC
variable {b : tTx} {n : Nat} {nt : Nat → Nat} {cl : Nat → Int} {r : Nat} {f P : Nat → Int32}
theorem lcF_v (h : kdT b n (nt r) ≠ 0) : lcF b n nt r = pFd b n nt r (nt r + 3) := sorry
theorem lcS_1 (h : kdT b n (nt r) = 3 ∨ kdT b n (nt r) = 4 ∨ kdT b n (nt r) = 5) : lcS b n nt r = pFd b n nt r (nt r + 3 + 1) := sorry
theorem lcS_2 (h : kdT b n (nt r) = 8) : lcS b n nt r = pFd b n nt r (nt r + 3 + 2) := sorry
theorem lcS_0 (h : ¬ (kdT b n (nt r) = 3 ∨ kdT b n (nt r) = 4 ∨ kdT b n (nt r) = 5)) (k : kdT b n (nt r) ≠ 8) : lcS b n nt r = -1 := sorry
theorem lcN_1 (h : kdT b n (nt r) = 1) : lcN b n nt r = iCnt nxT (spA b n) 9 (nt r + 3 + 2) := sorry
theorem lcN_2 (h : kdT b n (nt r) = 2) : lcN b n nt r = iCnt (nxE b n) (spC b n) 5 (nt r + 3 + 1) := sorry
theorem lcN_3 (h : kdT b n (nt r) = 3) : lcN b n nt r = iCnt nxT (spC b n) 5 (nt r + 3 + 3) := sorry
theorem lcN_7 (h : kdT b n (nt r) = 7) : lcN b n nt r = iCnt nxB (spC b n) 4 (nt r + 3 + 2) := sorry
theorem lcN_8 (h : kdT b n (nt r) = 8) : lcN b n nt r = iCnt (nxE b n) (spC b n) 5 (nt r + 3 + 8) := sorry
theorem lcP_1 (h : kdT b n (nt r) = 1) {k w : Nat} : lcP b n nt r k w = (if w = 0 then pV b n (iPos nxT (nt r + 3 + 2) k) else if w = 1 then pK b n (iPos nxT (nt r + 3 + 2) k + 1) else if w = 2 then (if pK b n (iPos nxT (nt r + 3 + 2) k + 2) = 4 then -1 else pV b n (iPos nxT (nt r + 3 + 2) k + 2)) else pV b n (iPos nxT (nt r + 3 + 2) k + 2)) := sorry
theorem lcP_2 (h : kdT b n (nt r) = 2) {k w : Nat} : lcP b n nt r k w = (if w = 0 then teC b n (iPos (nxE b n) (nt r + 3 + 1) k) else teN b n (iPos (nxE b n) (nt r + 3 + 1) k)) := sorry
theorem lcP_3 (h : kdT b n (nt r) = 3) {k w : Nat} : lcP b n nt r k w = (if w = 0 then pV b n (iPos nxT (nt r + 3 + 3) k) else pV b n (iPos nxT (nt r + 3 + 3) k + 2)) := sorry
theorem lcP_7 (h : kdT b n (nt r) = 7) {k w : Nat} : lcP b n nt r k w = pV b n (iPos nxB (nt r + 3 + 2) k) := sorry
theorem lcP_8 (h : kdT b n (nt r) = 8) {k w : Nat} : lcP b n nt r k w = (if w = 0 then teC b n (iPos (nxE b n) (nt r + 3 + 8) k) else teN b n (iPos (nxE b n) (nt r + 3 + 8) k)) := sorry
theorem kd_cs (h : 0 ≤ kdT b n (nt r) ∧ kdT b n (nt r) ≤ 8) : kdT b n (nt r) = 0 ∨ kdT b n (nt r) = 1 ∨ kdT b n (nt r) = 2 ∨ kdT b n (nt r) = 3 ∨ (kdT b n (nt r) = 4 ∨ kdT b n (nt r) = 5) ∨ kdT b n (nt r) = 6 ∨ kdT b n (nt r) = 7 ∨ kdT b n (nt r) = 8 := sorry
/-- a line of the class that was read holds it -/
theorem lnC_k (hk : (f 0).toInt = kdT b n (nt r)) (hc : (f 2).toInt = cl r) (h9 : 0 ≤ kdT b n (nt r) ∧ kdT b n (nt r) ≤ 8) (h : kLn b n r nt cl (nt r + 3) f P (kdT b n (nt r))) : lnC f P (lcT b n nt cl r) := sorry
/-- nt and cl of earlier lines alone -/
theorem kLn_cg {nt' : Nat → Nat} {cl' : Nat → Int} {h : Nat} {kd : Int} (hf : kd = 3 → cF b n r nt' cl' h = cF b n r nt cl h ∧ cF b n r nt' cl' (h + 1) = cF b n r nt cl (h + 1)) (hg : kd = 8 → cF b n r nt' cl' h = cF b n r nt cl h ∧ cF b n r nt' cl' (h + 2) = cF b n r nt cl (h + 2)) (e : ∀ u, u < r → nt' u = nt u) (w : kLn b n r nt cl h f P kd) : kLn b n r nt' cl' h f P kd := sorry
end LctC


end

section
/-! a line that was read is a good line -/
section LcG
variable {b : tTx} {n : Nat} {nt nt' : Nat → Nat} {cl cl' : Nat → Int} {r : Nat} {f P : Nat → Int32}
theorem LG_b {kd : Int} (h : LG b n nt cl r) (e : kdT b n (nt r) = kd) (hk : kd ≠ 0) : (sBody b n r nt cl kd (nt r + 3)).1 = 0 ∧ (sBody b n r nt cl kd (nt r + 3)).2.2 = cl r := sorry
theorem LG_1 (h : LG b n nt cl r) (e : kdT b n (nt r) = 1) : (sSel b n r nt cl (nt r + 3)).1 = 0 ∧ (sSel b n r nt cl (nt r + 3)).2.2 = cl r := sorry
theorem LG_2 (h : LG b n nt cl r) (e : kdT b n (nt r) = 2) : (sPrj b n r nt cl (nt r + 3)).1 = 0 ∧ (sPrj b n r nt cl (nt r + 3)).2.2 = cl r := sorry
theorem LG_3 (h : LG b n nt cl r) (e : kdT b n (nt r) = 3) : (sJoi b n r nt cl (nt r + 3)).1 = 0 ∧ (sJoi b n r nt cl (nt r + 3)).2.2 = cl r := sorry
theorem LG_4 (h : LG b n nt cl r) (e : kdT b n (nt r) = 4 ∨ kdT b n (nt r) = 5) : (sTwo b n r nt cl (nt r + 3)).1 = 0 ∧ (sTwo b n r nt cl (nt r + 3)).2.2 = cl r := sorry
theorem LG_6 (h : LG b n nt cl r) (e : kdT b n (nt r) = 6) : (sRl b n r nt cl (nt r + 3)).1 = 0 ∧ (sRl b n r nt cl (nt r + 3)).2.2 = cl r := sorry
theorem LG_7 (h : LG b n nt cl r) (e : kdT b n (nt r) = 7) : (sGrp b n r nt cl (nt r + 3)).1 = 0 ∧ (sGrp b n r nt cl (nt r + 3)).2.2 = cl r := sorry
theorem LG_8 (h : LG b n nt cl r) (e : kdT b n (nt r) = 8) : (sRng b n r nt cl (nt r + 3)).1 = 0 ∧ (sRng b n r nt cl (nt r + 3)).2.2 = cl r := sorry
theorem kLn_G (hc : ∀ u, u < r → 1 ≤ cl u ∧ cl u ≤ 4) (h : LG b n nt cl r) (e : ∀ u, u < r → nt' u = nt u) (e2 : ∀ u, u < r → cl' u = cl u) (w : kLn b n r nt cl (nt r + 3) f P (kdT b n (nt r))) : kLn b n r nt' cl' (nt r + 3) f P (kdT b n (nt r)) := sorry
theorem tld_T (e : kdT b n (nt r) = 3) (d : Nat) : tld (lcT b n nt cl r) d ↔ ∃ j, j < iCnt nxT (spC b n) 5 (nt r + 3 + 3) ∧ pV b n (iPos nxT (nt r + 3 + 3) j + 2) = (d : Int) := sorry
theorem jC_T {c : LC} {L : List Int} (h : ∀ d : Nat, tld c d ↔ (d : Int) ∈ L) : ∀ m : Nat, jC L m = ((jc c m : Nat) : Int) := sorry
theorem lc_good (hc : ∀ u, u < r → 1 ≤ cl u ∧ cl u ≤ 4) (h1 : 1 ≤ cl r) (h : LG b n nt cl r) (hk : kdT b n (nt r) ≠ 0) : cOK (lcT b n nt cl r) r cl ∧ cZ (lcT b n nt cl r) r cl := sorry
end LcG


end

section
/-! what the reference's row of a line holds, by tokens -/
section Row
variable (b : tTx) (n nr : Nat) (nt : Nat → Nat) (cl : Nat → Int) (h : Nat) (T : Nat → Int32) (M : Int)
def rTest (T : Nat → Int32) (j t : Nat) : Prop := mP T M (j : Int) 0 = pV b n t ∧ mP T M (j : Int) 1 = (if pK b n (t + 1) = 61 then 0 else if pK b n (t + 1) = 60 then 1 else 2) ∧ mP T M (j : Int) 2 = (if pK b n (t + 2) = 4 then 0 else 1) ∧ mP T M (j : Int) 3 = pV b n (t + 2)
def rTerm (fm : Int) (T : Nat → Int32) (j t : Nat) : Prop := mP T M (fm + (j : Int)) 0 = teC b n t ∧ mP T M (fm + (j : Int)) 1 = teN b n t
def rPair (T : Nat → Int32) (j t : Nat) : Prop := mP T M (j : Int) 0 = pV b n t ∧ mP T M (j : Int) 1 = pV b n (t + 2)
def rBy (T : Nat → Int32) (j t : Nat) : Prop := mP T M (j : Int) 0 = pV b n t
/-- the columns that the pairs tell -/
def rGn (x : Int) (F h : Nat) : Prop := ∀ d : Nat, d < 4 → (mBit x (d : Int) = 1 ↔ ∃ j, j < iCnt nxT (spC b n) F h ∧ pV b n (iPos nxT h j + 2) = (d : Int))
def rFS (a c : Int) : Prop := tI T (40 * M + 2) = a ∧ tI T (40 * M + 3) = c
def mSel : Prop := rFS T M (pFd b n nt nr h) (-1) ∧ tI T (40 * M + 4) = ((iCnt nxT (spA b n) 9 (h + 2) : Nat) : Int) ∧ qAll (rTest b n M) nxT T (h + 2) ((iCnt nxT (spA b n) 9 (h + 2) : Nat) : Int)
def mPrj : Prop := rFS T M (pFd b n nt nr h) (-1) ∧ tI T (40 * M + 4) = ((iCnt (nxE b n) (spC b n) 5 (h + 1) : Nat) : Int) ∧ qAll (rTerm b n M 0) (nxE b n) T (h + 1) ((iCnt (nxE b n) (spC b n) 5 (h + 1) : Nat) : Int)
def mJoi : Prop := rFS T M (pFd b n nt nr h) (pFd b n nt nr (h + 1)) ∧ tI T (40 * M + 4) = ((iCnt nxT (spC b n) 5 (h + 3) : Nat) : Int) ∧ qAll (rPair b n M) nxT T (h + 3) ((iCnt nxT (spC b n) 5 (h + 3) : Nat) : Int) ∧ rGn b n (tI T (40 * M + 5)) 5 (h + 3)
def mTwo : Prop := rFS T M (pFd b n nt nr h) (pFd b n nt nr (h + 1))
def mDis : Prop := rFS T M (pFd b n nt nr h) (-1)
def mGrp : Prop := rFS T M (pFd b n nt nr h) (-1) ∧ tI T (40 * M + 4) = ((iCnt nxB (spC b n) 4 (h + 2) : Nat) : Int) ∧ qAll (rBy b n M) nxB T (h + 2) ((iCnt nxB (spC b n) 4 (h + 2) : Nat) : Int) ∧
  mP T M ((iCnt nxB (spC b n) 4 (h + 2) : Nat) : Int) 1 = pV b n (nxB (iPos nxB (h + 2) (iCnt nxB (spC b n) 4 (h + 2) - 1))) - 16 ∧ mP T M ((iCnt nxB (spC b n) 4 (h + 2) : Nat) : Int) 0 = (if pV b n (nxB (iPos nxB (h + 2) (iCnt nxB (spC b n) 4 (h + 2) - 1))) = 16 then 0 else pV b n (nxB (iPos nxB (h + 2) (iCnt nxB (spC b n) 4 (h + 2) - 1)) + 1))
def mRng : Prop := rFS T M (pFd b n nt nr h) (pFd b n nt nr (h + 2)) ∧ tI T (40 * M + 4) = ((iCnt (nxE b n) (spC b n) 5 (h + 8) : Nat) : Int) ∧ qAll (rTerm b n M 1) (nxE b n) T (h + 8) ((iCnt (nxE b n) (spC b n) 5 (h + 8) : Nat) : Int) ∧ mP T M 0 0 = pV b n (h + 4) ∧ mP T M 0 1 = pV b n (h + 6)
def mLn (kd : Int) : Prop :=
  if kd = 1 then mSel b n nr nt h T M else if kd = 2 then mPrj b n nr nt h T M else if kd = 3 then mJoi b n nr nt h T M else if kd = 4 ∨ kd = 5 then mTwo b n nr nt h T M
  else if kd = 6 then mDis b n nr nt h T M else if kd = 7 then mGrp b n nr nt h T M else if kd = 8 then mRng b n nr nt h T M else rFS T M (-1) (-1)
end Row
section RowC
variable {b : tTx} {n nr : Nat} {nt nt' : Nat → Nat} {cl : Nat → Int} {h r F hc : Nat} {T T' : Nat → Int32} {M k fm : Int} {nx : Nat → Nat} {sp : Nat → Bool} {q : (Nat → Int32) → Nat → Nat → Prop}
/-- q speaks of the part that is the j-th from fm on -/
def rLoc (q : (Nat → Int32) → Nat → Nat → Prop) (M fm : Int) : Prop := ∀ (T T' : Nat → Int32) (j t : Nat), (∀ w : Int, 0 ≤ w → w ≤ 3 → mP T' M (fm + (j : Int)) w = mP T M (fm + (j : Int)) w) → q T j t → q T' j t
theorem rTest_l : rLoc (rTest b n M) M 0 := sorry
theorem rTerm_l : rLoc (rTerm b n M fm) M fm := sorry
theorem rPair_l : rLoc (rPair b n M) M 0 := sorry
theorem rBy_l : rLoc (rBy b n M) M 0 := sorry
theorem rAll_c (hq : rLoc q M fm) (a : qAll q nx T h k) (e : ∀ j : Nat, (j : Int) < k → ∀ w : Int, 0 ≤ w → w ≤ 3 → mP T' M (fm + (j : Int)) w = mP T M (fm + (j : Int)) w) : qAll q nx T' h k := sorry
theorem rAll_s {a1 b1 c1 d1 p : Int} (hq : rLoc q M fm) (a : qAll q nx T h k) (hl : iL nx sp F h k hc) (hM : 0 ≤ M) (hf : 0 ≤ fm) (hs : sP T T' M p a1 b1 c1 d1) (hp : p = fm + k) (e : q T' k.toNat hc) : qAll q nx T' h (k + 1) := sorry
/-- the header is written, the bits of a join -/
theorem rAll_h {kd cl0 one oth ps : Int} (hq : rLoc q M fm) (hM : 0 ≤ M) (hf : 0 ≤ fm) (hp : hP T T' M kd cl0 one oth ps) (a : qAll q nx T h k) : qAll q nx T' h k := sorry
theorem rAll_5 {v : Int} (hq : rLoc q M fm) (hM : 0 ≤ M) (hf : 0 ≤ fm) (hp : s1 T T' (40 * M + 5) v) (a : qAll q nx T h k) : qAll q nx T' h k := sorry
theorem rAll_p {a1 b1 c1 d1 p : Int} (hq : rLoc q M fm) (hM : 0 ≤ M) (hf : 0 ≤ fm) (hs : sP T T' M p a1 b1 c1 d1) (hp : p < fm ∨ fm + k ≤ p) (a : qAll q nx T h k) : qAll q nx T' h k := sorry
/-- one row's cells alone -/
theorem mLn_c {kd : Int} (hM : 0 ≤ M) (e : ∀ z : Int, 40 * M ≤ z → z < 40 * M + 40 → tI T' z = tI T z) (c9 : kd = 1 → iCnt nxT (spA b n) 9 (h + 2) ≤ 8) (c5 : kd = 2 → iCnt (nxE b n) (spC b n) 5 (h + 1) ≤ 4) (c3 : kd = 3 → iCnt nxT (spC b n) 5 (h + 3) ≤ 5) (c4 : kd = 7 → iCnt nxB (spC b n) 4 (h + 2) ≤ 3) (c8 : kd = 8 → iCnt (nxE b n) (spC b n) 5 (h + 8) ≤ 4) (w : mLn b n nr nt h T M kd) : mLn b n nr nt h T' M kd := sorry
theorem mLn_cg {kd : Int} (e : ∀ u, u < nr → nt' u = nt u) (w : mLn b n nr nt h T M kd) : mLn b n nr nt' h T M kd := sorry
theorem sTests_n : ∀ (F : Nat) (k c : Int) (h : Nat), 0 ≤ k → (sTests b n c F k h).1 = 0 → k + ((iCnt nxT (spA b n) F h : Nat) : Int) ≤ 8 ∧ 1 ≤ iCnt nxT (spA b n) F h := sorry
theorem iCnt_le : ∀ (F h : Nat), iCnt nx sp F h ≤ F := sorry
/-- counts of a line that was read -/
theorem LG_n (hc : ∀ u, u < r → 1 ≤ cl u ∧ cl u ≤ 4) (g : LG b n nt cl r) : (kdT b n (nt r) = 1 → iCnt nxT (spA b n) 9 (nt r + 3 + 2) ≤ 8) ∧ (kdT b n (nt r) = 2 → iCnt (nxE b n) (spC b n) 5 (nt r + 3 + 1) ≤ 4) ∧ (kdT b n (nt r) = 3 → iCnt nxT (spC b n) 5 (nt r + 3 + 3) ≤ 5) ∧ (kdT b n (nt r) = 7 → iCnt nxB (spC b n) 4 (nt r + 3 + 2) ≤ 3) ∧ (kdT b n (nt r) = 8 → iCnt (nxE b n) (spC b n) 5 (nt r + 3 + 8) ≤ 4) := sorry
/-- the reference's row of a line that was read -/
theorem lnM_k (hc : ∀ u, u < r → 1 ≤ cl u ∧ cl u ≤ 4) (h1 : 1 ≤ cl r) (hx : ∀ u, u < r → tI T (40 * (u : Int) + 1) = cl u) (hk : tI T (40 * (r : Int)) = kdT b n (nt r)) (h2 : tI T (40 * (r : Int) + 1) = cl r) (g : LG b n nt cl r) (h : mLn b n r nt (nt r + 3) T (r : Int) (kdT b n (nt r))) (hk0 : kdT b n (nt r) ≠ 0) : lnM T (r : Int) (lcT b n nt cl r) := sorry
end RowC


end

section
/-! helpers of the reference's reading with what it leaves in the row -/
def frM (M : Int) (T T' : Nat → Int32) : Prop := ∀ z : Int, 0 ≤ z → z < 40 * M → tI T' z = tI T z
def pSv (z K : Int) : Prop := (z = 0 ∧ K = 61) ∨ (z = 1 ∧ K = 60) ∨ (z = 2 ∧ K = 62) ∨ z = -1
section FrM
variable {b : tTx} {n h F hc : Nat} {M k v z : Int} {T T' T'' : Nat → Int32} {L : List Int}
theorem frM_r : frM M T T := sorry
theorem frM_t (h : frM M T T') (k : frM M T' T'') : frM M T T'' := sorry
theorem frM_p {p a b c d : Int} (h : frM M T T') (hp : 0 ≤ p) (s : sP T' T'' M p a b c d) : frM M T T'' := sorry
theorem frM_h {kd cl one oth ps : Int} (h : frM M T T') (s : hP T' T'' M kd cl one oth ps) : frM M T T'' := sorry
theorem frM_5 {v : Int} (h : frM M T T') (s : s1 T' T'' (40 * M + 5) v) : frM M T T'' := sorry
theorem frM_f {fm : Int} (hf : 0 ≤ fm) (h : frM M T T') (s : trF T' T'' M fm) : frM M T T'' := sorry
theorem hP_m {kd cl one oth ps w : Int} (hM : 0 ≤ M) (hk : 0 ≤ k) (hw : 0 ≤ w) (s : hP T T' M kd cl one oth ps) : mP T' M k w = mP T M k w := sorry
theorem trF_m {w : Int} (hM : 0 ≤ M) (hw : 0 ≤ w ∧ w ≤ 3) (s : trF T T' M 1) : mP T' M 0 w = mP T M 0 w := sorry
theorem rTest_mk {c s ic v : Int} (hk : 0 ≤ k) (p : sP T T' M k c s ic v) (hc0 : c = pV b n hc) (hs : pSv s (pK b n (hc + 1))) (h0 : 0 ≤ s) (hi : (ic = 1 ∧ pK b n (hc + 2) ≠ 4) ∨ (ic = 0 ∧ pK b n (hc + 2) = 4)) (hv : v = pV b n (hc + 2)) : rTest b n M T' k.toNat hc := sorry
theorem rTerm_mk {fm c y u w p : Int} (hk : 0 ≤ k) (s : sP T T' M p c y u w) (hp : p = fm + k) (h0 : c = teC b n hc) (h1 : y = teN b n hc) : rTerm b n M fm T' k.toNat hc := sorry
theorem te_n (h : pK b n hc = 4) : teC b n hc = -1 ∧ teN b n hc = pV b n hc := sorry
theorem te_c (h : pK b n hc ≠ 4) (k : ¬ (pK b n (hc + 1) = 43 ∨ pK b n (hc + 1) = 45)) : teC b n hc = pV b n hc ∧ teN b n hc = 0 := sorry
theorem te_p (h : pK b n hc ≠ 4) (k : pK b n (hc + 1) = 43) : teC b n hc = pV b n hc ∧ teN b n hc = pV b n (hc + 2) := sorry
theorem te_m (h : pK b n hc ≠ 4) (k : pK b n (hc + 1) = 45) : teC b n hc = pV b n hc ∧ teN b n hc = - pV b n (hc + 2) := sorry
theorem rPair_mk {c y u w : Int} (hk : 0 ≤ k) (s : sP T T' M k c y u w) (h0 : c = pV b n hc) (h1 : y = pV b n (hc + 2)) : rPair b n M T' k.toNat hc := sorry
theorem rBy_mk {c y u w : Int} (hk : 0 ≤ k) (s : sP T T' M k c y u w) (h0 : c = pV b n hc) : rBy b n M T' k.toNat hc := sorry
/-- the second columns that are told so far -/
def pLm (b : tTx) (n : Nat) (h : Nat) (k : Int) (L : List Int) : Prop := ∀ x : Int, x ∈ L ↔ ∃ j : Nat, (j : Int) < k ∧ pV b n (iPos nxT h j + 2) = x
theorem pLm_0 : pLm b n h 0 [] := sorry
theorem pLm_s {sp : Nat → Bool} (hl : iL nxT sp F h k hc) (a : pLm b n h k L) : pLm b n h (k + 1) (pV b n (hc + 2) :: L) := sorry
theorem rGn_mk {x : Int} (g : mGn x L) (a : pLm b n h k L) (e : ((iCnt nxT (spC b n) F h : Nat) : Int) = k) : rGn b n x F h := sorry
theorem mGrp_f {c0 y u w : Int} (s : sP T T' M k c0 y u w) (hf : pFo y (pK b n hc) (pV b n hc)) (h0 : 0 ≤ y) (hc0 : (y = 0 ∧ c0 = 0) ∨ (0 < y ∧ c0 = pV b n (hc + 1))) : mP T' M k 1 = pV b n hc - 16 ∧ mP T' M k 0 = (if pV b n hc = 16 then 0 else pV b n (hc + 1)) := sorry
end FrM


end

section
/-! what the lines told so far hold in the reference's rows; what a plan leaves of the reference -/
def rowsR (b : tTx) (n nr : Nat) (nt : Nat → Nat) (cl : Nat → Int) (T : Nat → Int32) : Prop := ∀ r : Nat, r < nr → LG b n nt cl r ∧ mLn b n r nt (nt r + 3) T (r : Int) (kdT b n (nt r))
def plR (b : tTx) (n : Nat) (T : Nat → Int32) : Prop := rowsR b n (sPlF b n).1 (sPlF b n).2.1 (sPlF b n).2.2.1 T
def plN (gh : gGh) (I AI I' AI' : gI) (mo : Nat) (b : tTx) (n : Nat) (z : Int) : Prop :=
  (z < 0 ∧ AI' (gh 57 0) = AI (gh 57 0) ∧ AI' (gh 79 0) = AI (gh 79 0) ∧ I' mo 8 = I mo 8 ∧ I' mo 9 = I mo 9 ∧ I' mo 10 = I mo 10) ∨
  (0 ≤ z ∧ (∀ j : Nat, j < 176 → AI' (gh 57 0) j = 0) ∧ (∀ j : Nat, j < 16 → AI' (gh 79 0) j = 0) ∧ (I' mo 8).toInt = 0 ∧ (I' mo 9).toInt = 0 ∧ (I' mo 10).toInt = 0 ∧ plR b n (AI' (gh 50 0)))
def plK (gh : gGh) (AI AI' : gI) : Prop := ∀ b, b ≠ gh 50 0 → b ≠ gh 53 0 → b ≠ gh 57 0 → b ≠ gh 79 0 → AI' b = AI b
section RowsS
variable {b : tTx} {n nr h0 : Nat} {nt : Nat → Nat} {cl : Nat → Int} {T T' : Nat → Int32} {x kd : Int}
theorem mE_4b {gh : gGh} {AI : gI} {AJ : gJ} (w : mE gh AI AJ b n nr nt cl) : ∀ r, r < nr → 1 ≤ cl r ∧ cl r ≤ 4 := sorry
theorem mFr9 {g : gG} {gh : gGh} {R : gR} {I AI AI1 AI' : gI} {m : Nat} {p q : Nat × Nat} (hv : mInv g gh R I AI) (hm : gO g m 7) (hp : p ∈ mTab) (hq : q ∈ mTab) (hne : p.1 ≠ q.1) (e : ∀ b, b ≠ gh (50 + q.1) 0 → AI' b = AI1 b) : AI' (gh (50 + p.1) 0) = AI1 (gh (50 + p.1) 0) := sorry
theorem rows_0 : rowsR b n 0 nt cl T := sorry
theorem rows_f (hcl : ∀ u, u < nr → 1 ≤ cl u ∧ cl u ≤ 4) (hr : rowsR b n nr nt cl T) (e : ∀ z : Int, 0 ≤ z → z < 40 * (nr : Int) → tI T' z = tI T z) : rowsR b n nr nt cl T' := sorry
theorem rows_s (hr : rowsR b n nr nt cl T) (hcl : ∀ u, u < nr → 1 ≤ cl u ∧ cl u ≤ 4) (hg : LG b n (sUp nt nr h0) (sUp cl nr x) nr) (fr : frM (nr : Int) T T') (hn : mLn b n nr nt (h0 + 3) T' (nr : Int) (kdT b n h0)) : rowsR b n (nr + 1) (sUp nt nr h0) (sUp cl nr x) T' := sorry
theorem mLn_0 (e : kd = 0) {h : Nat} {M : Int} (k : rFS T M (-1) (-1)) : mLn b n nr nt h T M kd := sorry
theorem z_at {A A' : gI} {o : Nat} {i : Int} (h0 : 0 ≤ i) (e : A' = gup2 A o i.toNat (iI 0)) (h : ∀ j : Nat, (j : Int) < i → A o j = 0) : ∀ j : Nat, (j : Int) < i + 1 → A' o j = 0 := sorry
theorem plK_t {gh : gGh} {AI AI' AI'' : gI} (h : plK gh AI AI') (k : ∀ b, b ≠ gh 50 0 → b ≠ gh 53 0 → b ≠ gh 57 0 → b ≠ gh 79 0 → AI'' b = AI' b) : plK gh AI AI'' := sorry
end RowsS


end

section
def rmX7_setsg : Room := { frames := 0, cells := 0, slots := 0, locals := 0 }
set_option maxHeartbeats 4000000 in
set_option maxRecDepth 100000 in
/-- a number of the row -/
theorem c_X7_setsg (l : Launch) (g : gG) (gh : gGh) (T : Nat → Int32) (M : Int) (I : gI) (R : gR) (J : gJ) (AI : gI) (AJ : gJ) (AR : gR) (mo : Nat) (wh : Int) (va : Int) (zwh : zr wh) (zva : zr va) (hv : mInv g gh R I AI) (hm : gO g mo 7) (hT : AI (gh 50 0) = T) (hM : (I mo 24).toInt = 0 → (I mo 5).toInt ≤ 15) (hMM : (I mo 5).toInt = M) (hw : 0 ≤ wh ∧ wh ≤ 5) : gMet l g yX7_sets tsX7_sets rmX7_setsg [.ref mo, .int (iI wh), .int (iI va)] (I, R, J, AI, AJ, AR) (gQv g (fun w : gS => I = w.1 ∧ R = w.2.1 ∧ J = w.2.2.1 ∧ AJ = w.2.2.2.2.1 ∧ AR = w.2.2.2.2.2 ∧ (mInv g gh R I (w.2.2.2.1)) ∧ ((w.2.2.2.1) (gh 50 0) = T) ∧ ((I mo 24).toInt = 0 → s1 (AI (gh 53 0)) ((w.2.2.2.1) (gh 53 0)) (40 * M + wh) va) ∧ (∀ b, b ≠ gh 53 0 → (w.2.2.2.1) b = AI b))) := sorry
def rmX7_setsPartg : Room := { frames := 0, cells := 0, slots := 0, locals := 0 }
set_option maxHeartbeats 4000000 in
set_option maxRecDepth 100000 in
/-- a part of the row -/
theorem c_X7_setsPartg (l : Launch) (g : gG) (gh : gGh) (T : Nat → Int32) (M : Int) (I : gI) (R : gR) (J : gJ) (AI : gI) (AJ : gJ) (AR : gR) (mo : Nat) (kp : Int) (a1 : Int) (b1 : Int) (c1 : Int) (d1 : Int) (zkp : zr kp) (za1 : zr a1) (zb1 : zr b1) (zc1 : zr c1) (zd1 : zr d1) (hv : mInv g gh R I AI) (hm : gO g mo 7) (hT : AI (gh 50 0) = T) (hM : (I mo 24).toInt = 0 → (I mo 5).toInt ≤ 15) (hMM : (I mo 5).toInt = M) (hkp : (I mo 24).toInt = 0 → 0 ≤ kp ∧ kp ≤ 7) : gMet l g yX7_setsPart tsX7_setsPart rmX7_setsPartg [.ref mo, .int (iI kp), .int (iI a1), .int (iI b1), .int (iI c1), .int (iI d1)] (I, R, J, AI, AJ, AR) (gQv g (fun w : gS => I = w.1 ∧ R = w.2.1 ∧ J = w.2.2.1 ∧ AJ = w.2.2.2.2.1 ∧ AR = w.2.2.2.2.2 ∧ (mInv g gh R I (w.2.2.2.1)) ∧ ((w.2.2.2.1) (gh 50 0) = T) ∧ ((I mo 24).toInt = 0 → sP (AI (gh 53 0)) ((w.2.2.2.1) (gh 53 0)) M kp a1 b1 c1 d1) ∧ (∀ b, b ≠ gh 53 0 → (w.2.2.2.1) b = AI b))) := sorry
def rmX7_headerg : Room := { frames := 1, cells := 0, slots := 0, locals := 22 }
set_option maxHeartbeats 4000000 in
set_option maxRecDepth 100000 in
/-- the header of the row -/
theorem c_X7_headerg (l : Launch) (g : gG) (gh : gGh) (T : Nat → Int32) (M : Int) (I : gI) (R : gR) (J : gJ) (AI : gI) (AJ : gJ) (AR : gR) (mo : Nat) (kd : Int) (cl : Int) (on : Int) (ot : Int) (ps : Int) (zkd : zr kd) (zcl : zr cl) (zon : zr on) (zot : zr ot) (zps : zr ps) (hv : mInv g gh R I AI) (hm : gO g mo 7) (hT : AI (gh 50 0) = T) (hM : (I mo 24).toInt = 0 → (I mo 5).toInt ≤ 15) (hMM : (I mo 5).toInt = M) : gMet l g yX7_header tsX7_header rmX7_headerg [.ref mo, .int (iI kd), .int (iI cl), .int (iI on), .int (iI ot), .int (iI ps)] (I, R, J, AI, AJ, AR) (gQv g (fun w : gS => I = w.1 ∧ R = w.2.1 ∧ J = w.2.2.1 ∧ AJ = w.2.2.2.2.1 ∧ AR = w.2.2.2.2.2 ∧ (mInv g gh R I (w.2.2.2.1)) ∧ ((w.2.2.2.1) (gh 50 0) = T) ∧ ((I mo 24).toInt = 0 → hP (AI (gh 53 0)) ((w.2.2.2.1) (gh 53 0)) M kd cl on ot ps) ∧ (∀ b, b ≠ gh 53 0 → (w.2.2.2.1) b = AI b))) := sorry

end

section
def rmX7_relationg : Room := { frames := 7, cells := 0, slots := 0, locals := 149 }
set_option maxHeartbeats 4000000 in
set_option maxRecDepth 100000 in
/-- a relation -/
theorem c_X7_relationg (l : Launch) (g : gG) (gh : gGh) (T : Nat → Int32) (b : tTx) (nn nr : Nat) (nt : Nat → Nat) (cc : Nat → Int) (f : Int) (h : Nat) (I : gI) (R : gR) (J : gJ) (AI : gI) (AJ : gJ) (AR : gR) (mo : Nat) (hv : mInv g gh R I AI) (hm : gO g mo 7) (hT : AI (gh 50 0) = T) (hE : (I mo 20).toInt ≤ 936) (h65 : gh 9 (gh 65 0) ≠ 5) (hbM : ∀ k : Nat, k < nn → ((gM g).2 (gh 65 0) k).toInt = b k % 256) (hr7 : ∀ k : Nat, -128 ≤ b k ∧ b k ≤ 127) (hsz : (I mo 18).toInt = (nn : Int)) (hn9 : nn ≤ 900) (hm5 : (I mo 5).toInt = (nr : Int)) (hQ : mQ gh I J AI AJ mo b nn nr nt cc f h) : gMet l g yX7_relation tsX7_relation rmX7_relationg [.ref mo] (I, R, J, AI, AJ, AR) (gQi g (fun (z : Int) (w : gS) => R = w.2.1 ∧ AI = w.2.2.2.1 ∧ AJ = w.2.2.2.2.1 ∧ AR = w.2.2.2.2.2 ∧ (mInv g gh R (w.1) AI) ∧ (qF mo I (w.1)) ∧ (((w.1) mo 20).toInt ≤ 936 ∧ (I mo 24).toInt ≤ ((w.1) mo 24).toInt) ∧ (0 ≤ z ∧ z ≤ 15 ∧ (((w.1) mo 24).toInt = 0 → z < (I mo 5).toInt)) ∧ (mQ gh (w.1) (w.2.2.1) AI AJ mo b nn nr nt cc (thn (f, h, 0) (fun t _ => sRl b nn nr nt cc t)).1 (thn (f, h, 0) (fun t _ => sRl b nn nr nt cc t)).2.1) ∧ (pRv z nr cc (thn (f, h, 0) (fun t _ => sRl b nn nr nt cc t))) ∧ (pIm (thn (f, h, 0) (fun t _ => sRl b nn nr nt cc t)).1 z (pFd b nn nt nr h)))) := sorry

end

section
def rmX7_termsToldg : Room := { frames := 4, cells := 0, slots := 0, locals := 89 }
set_option maxHeartbeats 4000000 in
set_option maxRecDepth 100000 in
/-- terms told -/
theorem c_X7_termsToldg (l : Launch) (g : gG) (gh : gGh) (T : Nat → Int32) (M : Int) (b : tTx) (nn nr : Nat) (nt : Nat → Nat) (cc : Nat → Int) (f : Int) (h : Nat) (I : gI) (R : gR) (J : gJ) (AI : gI) (AJ : gJ) (AR : gR) (mo : Nat) (bl : Int) (fm : Int) (zbl : zr bl) (zfm : zr fm) (hv : mInv g gh R I AI) (hm : gO g mo 7) (hT : AI (gh 50 0) = T) (hE : (I mo 20).toInt ≤ 936) (hM : (I mo 24).toInt = 0 → (I mo 5).toInt ≤ 15) (hMM : (I mo 5).toInt = M) (hfm : 0 ≤ fm ∧ fm ≤ 1) (h65 : gh 9 (gh 65 0) ≠ 5) (hbM : ∀ k : Nat, k < nn → ((gM g).2 (gh 65 0) k).toInt = b k % 256) (hr7 : ∀ k : Nat, -128 ≤ b k ∧ b k ≤ 127) (hsz : (I mo 18).toInt = (nn : Int)) (hn9 : nn ≤ 900) (hm5 : (I mo 5).toInt = (nr : Int)) (hQ : mQ gh I J AI AJ mo b nn nr nt cc f h) : gMet l g yX7_termsTold tsX7_termsTold rmX7_termsToldg [.ref mo, .int (iI bl), .int (iI fm)] (I, R, J, AI, AJ, AR) (gQi g (fun (z : Int) (w : gS) => R = w.2.1 ∧ AJ = w.2.2.2.2.1 ∧ AR = w.2.2.2.2.2 ∧ (mInv g gh R (w.1) (w.2.2.2.1)) ∧ ((w.2.2.2.1) (gh 50 0) = T) ∧ (qF mo I (w.1)) ∧ (((w.1) mo 20).toInt ≤ 936 ∧ (I mo 24).toInt ≤ ((w.1) mo 24).toInt) ∧ (0 ≤ z ∧ z ≤ 5) ∧ (((w.1) mo 24).toInt = 0 → 1 ≤ z ∧ z ≤ 4 ∧ termP ((w.2.2.2.1) (gh 53 0)) M fm z ∧ trF (AI (gh 53 0)) ((w.2.2.2.1) (gh 53 0)) M fm) ∧ (mQ gh (w.1) (w.2.2.1) (w.2.2.2.1) AJ mo b nn nr nt cc (thn (f, h, 0) (fun t _ => sTerms b nn bl 5 0 t)).1 (thn (f, h, 0) (fun t _ => sTerms b nn bl 5 0 t)).2.1) ∧ (pIm (thn (f, h, 0) (fun t _ => sTerms b nn bl 5 0 t)).1 z (thn (f, h, 0) (fun t _ => sTerms b nn bl 5 0 t)).2.2) ∧ (zIf (thn (f, h, 0) (fun t _ => sTerms b nn bl 5 0 t)).1 (qAll (rTerm b nn M fm) (nxE b nn) ((w.2.2.2.1) (gh 53 0)) h ((iCnt (nxE b nn) (spC b nn) 5 h : Nat) : Int) ∧ z = ((iCnt (nxE b nn) (spC b nn) 5 h : Nat) : Int))) ∧ (∀ b, b ≠ gh 53 0 → (w.2.2.2.1) b = AI b))) := sorry

end

section
def rmX7_selectToldg : Room := { frames := 8, cells := 0, slots := 0, locals := 170 }
set_option maxHeartbeats 4000000 in
set_option maxRecDepth 100000 in
/-- a selection told -/
theorem c_X7_selectToldg (l : Launch) (g : gG) (gh : gGh) (T : Nat → Int32) (M : Int) (b : tTx) (nn nr : Nat) (nt : Nat → Nat) (cc : Nat → Int) (f : Int) (h : Nat) (I : gI) (R : gR) (J : gJ) (AI : gI) (AJ : gJ) (AR : gR) (mo : Nat) (hv : mInv g gh R I AI) (hm : gO g mo 7) (hT : AI (gh 50 0) = T) (hE : (I mo 20).toInt ≤ 936) (hM : (I mo 24).toInt = 0 → (I mo 5).toInt ≤ 15) (hMM : (I mo 5).toInt = M) (h65 : gh 9 (gh 65 0) ≠ 5) (hbM : ∀ k : Nat, k < nn → ((gM g).2 (gh 65 0) k).toInt = b k % 256) (hr7 : ∀ k : Nat, -128 ≤ b k ∧ b k ≤ 127) (hsz : (I mo 18).toInt = (nn : Int)) (hn9 : nn ≤ 900) (hm5 : (I mo 5).toInt = (nr : Int)) (hQ : mQ gh I J AI AJ mo b nn nr nt cc f h) : gMet l g yX7_selectTold tsX7_selectTold rmX7_selectToldg [.ref mo] (I, R, J, AI, AJ, AR) (gQv g (fun w : gS => R = w.2.1 ∧ AJ = w.2.2.2.2.1 ∧ AR = w.2.2.2.2.2 ∧ (mInv g gh R (w.1) (w.2.2.2.1)) ∧ ((w.2.2.2.1) (gh 50 0) = T) ∧ (qF mo I (w.1)) ∧ (((w.1) mo 20).toInt ≤ 936 ∧ (I mo 24).toInt ≤ ((w.1) mo 24).toInt) ∧ (((w.1) mo 24).toInt = 0 → ((w.1) mo 21).toInt = 4 → ((w.1) mo 23).toInt = 59 → rowOK ((w.2.2.2.1) (gh 53 0)) M) ∧ (((w.1) mo 24).toInt = 0 → tI ((w.2.2.2.1) (gh 53 0)) (40 * M) = 1) ∧ (mQ gh (w.1) (w.2.2.1) (w.2.2.2.1) AJ mo b nn nr nt cc (thn (f, h, 0) (fun t _ => sSel b nn nr nt cc t)).1 (thn (f, h, 0) (fun t _ => sSel b nn nr nt cc t)).2.1) ∧ (pIc (thn (f, h, 0) (fun t _ => sSel b nn nr nt cc t)).1 (pK b nn (thn (f, h, 0) (fun t _ => sSel b nn nr nt cc t)).2.1) (tI ((w.2.2.2.1) (gh 53 0)) (40 * (nr : Int) + 1)) (thn (f, h, 0) (fun t _ => sSel b nn nr nt cc t)).2.2) ∧ (zIf (thn (f, h, 0) (fun t _ => sSel b nn nr nt cc t)).1 (frM M (AI (gh 53 0)) ((w.2.2.2.1) (gh 53 0)))) ∧ (zIf (thn (f, h, 0) (fun t _ => sSel b nn nr nt cc t)).1 (mSel b nn nr nt h ((w.2.2.2.1) (gh 53 0)) M)) ∧ (∀ b, b ≠ gh 53 0 → (w.2.2.2.1) b = AI b))) := sorry

end

section
def rmX7_projectToldg : Room := { frames := 8, cells := 0, slots := 0, locals := 170 }
set_option maxHeartbeats 4000000 in
set_option maxRecDepth 100000 in
/-- a projection told -/
theorem c_X7_projectToldg (l : Launch) (g : gG) (gh : gGh) (T : Nat → Int32) (M : Int) (b : tTx) (nn nr : Nat) (nt : Nat → Nat) (cc : Nat → Int) (f : Int) (h : Nat) (I : gI) (R : gR) (J : gJ) (AI : gI) (AJ : gJ) (AR : gR) (mo : Nat) (hv : mInv g gh R I AI) (hm : gO g mo 7) (hT : AI (gh 50 0) = T) (hE : (I mo 20).toInt ≤ 936) (hM : (I mo 24).toInt = 0 → (I mo 5).toInt ≤ 15) (hMM : (I mo 5).toInt = M) (h65 : gh 9 (gh 65 0) ≠ 5) (hbM : ∀ k : Nat, k < nn → ((gM g).2 (gh 65 0) k).toInt = b k % 256) (hr7 : ∀ k : Nat, -128 ≤ b k ∧ b k ≤ 127) (hsz : (I mo 18).toInt = (nn : Int)) (hn9 : nn ≤ 900) (hm5 : (I mo 5).toInt = (nr : Int)) (hQ : mQ gh I J AI AJ mo b nn nr nt cc f h) : gMet l g yX7_projectTold tsX7_projectTold rmX7_projectToldg [.ref mo] (I, R, J, AI, AJ, AR) (gQv g (fun w : gS => R = w.2.1 ∧ AJ = w.2.2.2.2.1 ∧ AR = w.2.2.2.2.2 ∧ (mInv g gh R (w.1) (w.2.2.2.1)) ∧ ((w.2.2.2.1) (gh 50 0) = T) ∧ (qF mo I (w.1)) ∧ (((w.1) mo 20).toInt ≤ 936 ∧ (I mo 24).toInt ≤ ((w.1) mo 24).toInt) ∧ (((w.1) mo 24).toInt = 0 → ((w.1) mo 21).toInt = 4 → ((w.1) mo 23).toInt = 59 → rowOK ((w.2.2.2.1) (gh 53 0)) M) ∧ (((w.1) mo 24).toInt = 0 → tI ((w.2.2.2.1) (gh 53 0)) (40 * M) = 2) ∧ (mQ gh (w.1) (w.2.2.1) (w.2.2.2.1) AJ mo b nn nr nt cc (thn (f, h, 0) (fun t _ => sPrj b nn nr nt cc t)).1 (thn (f, h, 0) (fun t _ => sPrj b nn nr nt cc t)).2.1) ∧ (pIc (thn (f, h, 0) (fun t _ => sPrj b nn nr nt cc t)).1 (pK b nn (thn (f, h, 0) (fun t _ => sPrj b nn nr nt cc t)).2.1) (tI ((w.2.2.2.1) (gh 53 0)) (40 * (nr : Int) + 1)) (thn (f, h, 0) (fun t _ => sPrj b nn nr nt cc t)).2.2) ∧ (zIf (thn (f, h, 0) (fun t _ => sPrj b nn nr nt cc t)).1 (frM M (AI (gh 53 0)) ((w.2.2.2.1) (gh 53 0)))) ∧ (zIf (thn (f, h, 0) (fun t _ => sPrj b nn nr nt cc t)).1 (mPrj b nn nr nt h ((w.2.2.2.1) (gh 53 0)) M)) ∧ (∀ b, b ≠ gh 53 0 → (w.2.2.2.1) b = AI b))) := sorry

end

section
def rmX7_joinToldg : Room := { frames := 8, cells := 0, slots := 0, locals := 170 }
set_option maxHeartbeats 4000000 in
set_option maxRecDepth 100000 in
/-- a join told -/
theorem c_X7_joinToldg (l : Launch) (g : gG) (gh : gGh) (T : Nat → Int32) (M : Int) (b : tTx) (nn nr : Nat) (nt : Nat → Nat) (cc : Nat → Int) (f : Int) (h : Nat) (I : gI) (R : gR) (J : gJ) (AI : gI) (AJ : gJ) (AR : gR) (mo : Nat) (hv : mInv g gh R I AI) (hm : gO g mo 7) (hT : AI (gh 50 0) = T) (hE : (I mo 20).toInt ≤ 936) (hM : (I mo 24).toInt = 0 → (I mo 5).toInt ≤ 15) (hMM : (I mo 5).toInt = M) (h65 : gh 9 (gh 65 0) ≠ 5) (hbM : ∀ k : Nat, k < nn → ((gM g).2 (gh 65 0) k).toInt = b k % 256) (hr7 : ∀ k : Nat, -128 ≤ b k ∧ b k ≤ 127) (hsz : (I mo 18).toInt = (nn : Int)) (hn9 : nn ≤ 900) (hm5 : (I mo 5).toInt = (nr : Int)) (hQ : mQ gh I J AI AJ mo b nn nr nt cc f h) : gMet l g yX7_joinTold tsX7_joinTold rmX7_joinToldg [.ref mo] (I, R, J, AI, AJ, AR) (gQv g (fun w : gS => R = w.2.1 ∧ AJ = w.2.2.2.2.1 ∧ AR = w.2.2.2.2.2 ∧ (mInv g gh R (w.1) (w.2.2.2.1)) ∧ ((w.2.2.2.1) (gh 50 0) = T) ∧ (qF mo I (w.1)) ∧ (((w.1) mo 20).toInt ≤ 936 ∧ (I mo 24).toInt ≤ ((w.1) mo 24).toInt) ∧ (((w.1) mo 24).toInt = 0 → ((w.1) mo 21).toInt = 4 → ((w.1) mo 23).toInt = 59 → rowOK ((w.2.2.2.1) (gh 53 0)) M) ∧ (((w.1) mo 24).toInt = 0 → tI ((w.2.2.2.1) (gh 53 0)) (40 * M) = 3) ∧ (mQ gh (w.1) (w.2.2.1) (w.2.2.2.1) AJ mo b nn nr nt cc (thn (f, h, 0) (fun t _ => sJoiM b nn nr nt cc t)).1 (thn (f, h, 0) (fun t _ => sJoiM b nn nr nt cc t)).2.1) ∧ (pIc (thn (f, h, 0) (fun t _ => sJoiM b nn nr nt cc t)).1 (pK b nn (thn (f, h, 0) (fun t _ => sJoiM b nn nr nt cc t)).2.1) (tI ((w.2.2.2.1) (gh 53 0)) (40 * (nr : Int) + 1)) (thn (f, h, 0) (fun t _ => sJoiM b nn nr nt cc t)).2.2) ∧ (zIf (thn (f, h, 0) (fun t _ => sJoiM b nn nr nt cc t)).1 (frM M (AI (gh 53 0)) ((w.2.2.2.1) (gh 53 0)))) ∧ (zIf (thn (f, h, 0) (fun t _ => sJoiM b nn nr nt cc t)).1 (mJoi b nn nr nt h ((w.2.2.2.1) (gh 53 0)) M)) ∧ (∀ b, b ≠ gh 53 0 → (w.2.2.2.1) b = AI b))) := sorry

end

section
def rmX7_bothToldg : Room := { frames := 8, cells := 0, slots := 0, locals := 170 }
set_option maxHeartbeats 4000000 in
set_option maxRecDepth 100000 in
/-- two relations told -/
theorem c_X7_bothToldg (l : Launch) (g : gG) (gh : gGh) (T : Nat → Int32) (M : Int) (b : tTx) (nn nr : Nat) (nt : Nat → Nat) (cc : Nat → Int) (f : Int) (h : Nat) (I : gI) (R : gR) (J : gJ) (AI : gI) (AJ : gJ) (AR : gR) (mo : Nat) (kd : Int) (zkd : zr kd) (hv : mInv g gh R I AI) (hm : gO g mo 7) (hT : AI (gh 50 0) = T) (hE : (I mo 20).toInt ≤ 936) (hM : (I mo 24).toInt = 0 → (I mo 5).toInt ≤ 15) (hMM : (I mo 5).toInt = M) (hkd : kd = 4 ∨ kd = 5) (h65 : gh 9 (gh 65 0) ≠ 5) (hbM : ∀ k : Nat, k < nn → ((gM g).2 (gh 65 0) k).toInt = b k % 256) (hr7 : ∀ k : Nat, -128 ≤ b k ∧ b k ≤ 127) (hsz : (I mo 18).toInt = (nn : Int)) (hn9 : nn ≤ 900) (hm5 : (I mo 5).toInt = (nr : Int)) (hQ : mQ gh I J AI AJ mo b nn nr nt cc f h) : gMet l g yX7_bothTold tsX7_bothTold rmX7_bothToldg [.ref mo, .int (iI kd)] (I, R, J, AI, AJ, AR) (gQv g (fun w : gS => R = w.2.1 ∧ AJ = w.2.2.2.2.1 ∧ AR = w.2.2.2.2.2 ∧ (mInv g gh R (w.1) (w.2.2.2.1)) ∧ ((w.2.2.2.1) (gh 50 0) = T) ∧ (qF mo I (w.1)) ∧ (((w.1) mo 20).toInt ≤ 936 ∧ (I mo 24).toInt ≤ ((w.1) mo 24).toInt) ∧ (((w.1) mo 24).toInt = 0 → ((w.1) mo 21).toInt = 4 → ((w.1) mo 23).toInt = 59 → rowOK ((w.2.2.2.1) (gh 53 0)) M) ∧ (((w.1) mo 24).toInt = 0 → tI ((w.2.2.2.1) (gh 53 0)) (40 * M) = kd) ∧ (mQ gh (w.1) (w.2.2.1) (w.2.2.2.1) AJ mo b nn nr nt cc (thn (f, h, 0) (fun t _ => sTwo b nn nr nt cc t)).1 (thn (f, h, 0) (fun t _ => sTwo b nn nr nt cc t)).2.1) ∧ (pIc (thn (f, h, 0) (fun t _ => sTwo b nn nr nt cc t)).1 (pK b nn (thn (f, h, 0) (fun t _ => sTwo b nn nr nt cc t)).2.1) (tI ((w.2.2.2.1) (gh 53 0)) (40 * (nr : Int) + 1)) (thn (f, h, 0) (fun t _ => sTwo b nn nr nt cc t)).2.2) ∧ (zIf (thn (f, h, 0) (fun t _ => sTwo b nn nr nt cc t)).1 (frM M (AI (gh 53 0)) ((w.2.2.2.1) (gh 53 0)))) ∧ (zIf (thn (f, h, 0) (fun t _ => sTwo b nn nr nt cc t)).1 (mTwo b nn nr nt h ((w.2.2.2.1) (gh 53 0)) M)) ∧ (∀ b, b ≠ gh 53 0 → (w.2.2.2.1) b = AI b))) := sorry

end

section
def rmX7_groupToldg : Room := { frames := 8, cells := 0, slots := 0, locals := 170 }
set_option maxHeartbeats 4000000 in
set_option maxRecDepth 100000 in
/-- a group told -/
theorem c_X7_groupToldg (l : Launch) (g : gG) (gh : gGh) (T : Nat → Int32) (M : Int) (b : tTx) (nn nr : Nat) (nt : Nat → Nat) (cc : Nat → Int) (f : Int) (h : Nat) (I : gI) (R : gR) (J : gJ) (AI : gI) (AJ : gJ) (AR : gR) (mo : Nat) (hv : mInv g gh R I AI) (hm : gO g mo 7) (hT : AI (gh 50 0) = T) (hE : (I mo 20).toInt ≤ 936) (hM : (I mo 24).toInt = 0 → (I mo 5).toInt ≤ 15) (hMM : (I mo 5).toInt = M) (h65 : gh 9 (gh 65 0) ≠ 5) (hbM : ∀ k : Nat, k < nn → ((gM g).2 (gh 65 0) k).toInt = b k % 256) (hr7 : ∀ k : Nat, -128 ≤ b k ∧ b k ≤ 127) (hsz : (I mo 18).toInt = (nn : Int)) (hn9 : nn ≤ 900) (hm5 : (I mo 5).toInt = (nr : Int)) (hQ : mQ gh I J AI AJ mo b nn nr nt cc f h) : gMet l g yX7_groupTold tsX7_groupTold rmX7_groupToldg [.ref mo] (I, R, J, AI, AJ, AR) (gQv g (fun w : gS => R = w.2.1 ∧ AJ = w.2.2.2.2.1 ∧ AR = w.2.2.2.2.2 ∧ (mInv g gh R (w.1) (w.2.2.2.1)) ∧ ((w.2.2.2.1) (gh 50 0) = T) ∧ (qF mo I (w.1)) ∧ (((w.1) mo 20).toInt ≤ 936 ∧ (I mo 24).toInt ≤ ((w.1) mo 24).toInt) ∧ (((w.1) mo 24).toInt = 0 → ((w.1) mo 21).toInt = 4 → ((w.1) mo 23).toInt = 59 → rowOK ((w.2.2.2.1) (gh 53 0)) M) ∧ (((w.1) mo 24).toInt = 0 → tI ((w.2.2.2.1) (gh 53 0)) (40 * M) = 7) ∧ (mQ gh (w.1) (w.2.2.1) (w.2.2.2.1) AJ mo b nn nr nt cc (thn (f, h, 0) (fun t _ => sGrp b nn nr nt cc t)).1 (thn (f, h, 0) (fun t _ => sGrp b nn nr nt cc t)).2.1) ∧ (pIc (thn (f, h, 0) (fun t _ => sGrp b nn nr nt cc t)).1 (pK b nn (thn (f, h, 0) (fun t _ => sGrp b nn nr nt cc t)).2.1) (tI ((w.2.2.2.1) (gh 53 0)) (40 * (nr : Int) + 1)) (thn (f, h, 0) (fun t _ => sGrp b nn nr nt cc t)).2.2) ∧ (zIf (thn (f, h, 0) (fun t _ => sGrp b nn nr nt cc t)).1 (frM M (AI (gh 53 0)) ((w.2.2.2.1) (gh 53 0)))) ∧ (zIf (thn (f, h, 0) (fun t _ => sGrp b nn nr nt cc t)).1 (mGrp b nn nr nt h ((w.2.2.2.1) (gh 53 0)) M)) ∧ (∀ b, b ≠ gh 53 0 → (w.2.2.2.1) b = AI b))) := sorry

end

section
def rmX7_ringToldg : Room := { frames := 8, cells := 0, slots := 0, locals := 170 }
set_option maxHeartbeats 4000000 in
set_option maxRecDepth 100000 in
/-- a ring told -/
theorem c_X7_ringToldg (l : Launch) (g : gG) (gh : gGh) (T : Nat → Int32) (M : Int) (b : tTx) (nn nr : Nat) (nt : Nat → Nat) (cc : Nat → Int) (f : Int) (h : Nat) (I : gI) (R : gR) (J : gJ) (AI : gI) (AJ : gJ) (AR : gR) (mo : Nat) (hv : mInv g gh R I AI) (hm : gO g mo 7) (hT : AI (gh 50 0) = T) (hE : (I mo 20).toInt ≤ 936) (hM : (I mo 24).toInt = 0 → (I mo 5).toInt ≤ 15) (hMM : (I mo 5).toInt = M) (h65 : gh 9 (gh 65 0) ≠ 5) (hbM : ∀ k : Nat, k < nn → ((gM g).2 (gh 65 0) k).toInt = b k % 256) (hr7 : ∀ k : Nat, -128 ≤ b k ∧ b k ≤ 127) (hsz : (I mo 18).toInt = (nn : Int)) (hn9 : nn ≤ 900) (hm5 : (I mo 5).toInt = (nr : Int)) (hQ : mQ gh I J AI AJ mo b nn nr nt cc f h) : gMet l g yX7_ringTold tsX7_ringTold rmX7_ringToldg [.ref mo] (I, R, J, AI, AJ, AR) (gQv g (fun w : gS => R = w.2.1 ∧ AJ = w.2.2.2.2.1 ∧ AR = w.2.2.2.2.2 ∧ (mInv g gh R (w.1) (w.2.2.2.1)) ∧ ((w.2.2.2.1) (gh 50 0) = T) ∧ (qF mo I (w.1)) ∧ (((w.1) mo 20).toInt ≤ 936 ∧ (I mo 24).toInt ≤ ((w.1) mo 24).toInt) ∧ (((w.1) mo 24).toInt = 0 → ((w.1) mo 21).toInt = 4 → ((w.1) mo 23).toInt = 59 → rowOK ((w.2.2.2.1) (gh 53 0)) M) ∧ (((w.1) mo 24).toInt = 0 → tI ((w.2.2.2.1) (gh 53 0)) (40 * M) = 8) ∧ (mQ gh (w.1) (w.2.2.1) (w.2.2.2.1) AJ mo b nn nr nt cc (thn (f, h, 0) (fun t _ => sRngM b nn nr nt cc t)).1 (thn (f, h, 0) (fun t _ => sRngM b nn nr nt cc t)).2.1) ∧ (pIc (thn (f, h, 0) (fun t _ => sRngM b nn nr nt cc t)).1 (pK b nn (thn (f, h, 0) (fun t _ => sRngM b nn nr nt cc t)).2.1) (tI ((w.2.2.2.1) (gh 53 0)) (40 * (nr : Int) + 1)) (thn (f, h, 0) (fun t _ => sRngM b nn nr nt cc t)).2.2) ∧ (zIf (thn (f, h, 0) (fun t _ => sRngM b nn nr nt cc t)).1 (frM M (AI (gh 53 0)) ((w.2.2.2.1) (gh 53 0)))) ∧ (zIf (thn (f, h, 0) (fun t _ => sRngM b nn nr nt cc t)).1 (mRng b nn nr nt h ((w.2.2.2.1) (gh 53 0)) M)) ∧ (∀ b, b ≠ gh 53 0 → (w.2.2.2.1) b = AI b))) := sorry

end

section
def rmX7_tableToldg : Room := { frames := 8, cells := 0, slots := 0, locals := 169 }
set_option maxHeartbeats 4000000 in
set_option maxRecDepth 100000 in
/-- a table told -/
theorem c_X7_tableToldg (l : Launch) (g : gG) (gh : gGh) (T : Nat → Int32) (M : Int) (b : tTx) (nn nr : Nat) (nt : Nat → Nat) (cc : Nat → Int) (f : Int) (h : Nat) (I : gI) (R : gR) (J : gJ) (AI : gI) (AJ : gJ) (AR : gR) (mo : Nat) (bh : Int) (zbh : zr bh) (hv : mInv g gh R I AI) (hm : gO g mo 7) (hT : AI (gh 50 0) = T) (hE : (I mo 20).toInt ≤ 936) (hMM : (I mo 5).toInt = M) (hbh : bh = 0 ∨ bh = 1) (htb : bh = 0 → ∀ r : Int, 0 ≤ r → r < M → tI (AI (gh 53 0)) (40 * r) = 0) (h65 : gh 9 (gh 65 0) ≠ 5) (hbM : ∀ k : Nat, k < nn → ((gM g).2 (gh 65 0) k).toInt = b k % 256) (hr7 : ∀ k : Nat, -128 ≤ b k ∧ b k ≤ 127) (hsz : (I mo 18).toInt = (nn : Int)) (hn9 : nn ≤ 900) (hm5 : (I mo 5).toInt = (nr : Int)) (hQ : mQ gh I J AI AJ mo b nn nr nt cc f h) : gMet l g yX7_tableTold tsX7_tableTold rmX7_tableToldg [.ref mo, .int (iI bh)] (I, R, J, AI, AJ, AR) (gQv g (fun w : gS => R = w.2.1 ∧ AR = w.2.2.2.2.2 ∧ (mInv g gh R (w.1) (w.2.2.2.1)) ∧ ((w.2.2.2.1) (gh 50 0) = T) ∧ (qF mo I (w.1)) ∧ (((w.1) mo 20).toInt ≤ 936 ∧ (I mo 24).toInt ≤ ((w.1) mo 24).toInt) ∧ (((w.1) mo 24).toInt = 0 → ((w.1) mo 21).toInt = 4 → ((w.1) mo 23).toInt = 59 → rowOK ((w.2.2.2.1) (gh 53 0)) M) ∧ (((w.1) mo 24).toInt = 0 → M ≤ 15 ∧ bh = 0 ∧ ∀ r : Int, 0 ≤ r → r < M + 1 → tI ((w.2.2.2.1) (gh 53 0)) (40 * r) = 0) ∧ (mQ gh (w.1) (w.2.2.1) (w.2.2.2.1) (w.2.2.2.2.1) mo b nn nr nt cc (thn (f, h, 0) (fun t _ => sTbM b nn nr nt bh t)).1 (thn (f, h, 0) (fun t _ => sTbM b nn nr nt bh t)).2.1) ∧ (pIc (thn (f, h, 0) (fun t _ => sTbM b nn nr nt bh t)).1 (pK b nn (thn (f, h, 0) (fun t _ => sTbM b nn nr nt bh t)).2.1) (tI ((w.2.2.2.1) (gh 53 0)) (40 * (nr : Int) + 1)) (thn (f, h, 0) (fun t _ => sTbM b nn nr nt bh t)).2.2) ∧ (pJm (thn (f, h, 0) (fun t _ => sTbM b nn nr nt bh t)).1 ((w.2.2.2.2.1) (gh 54 0) nr) (pMw b nn (h + 1))) ∧ (zIf (thn (f, h, 0) (fun t _ => sTbM b nn nr nt bh t)).1 (frM M (AI (gh 53 0)) ((w.2.2.2.1) (gh 53 0)))) ∧ (zIf (thn (f, h, 0) (fun t _ => sTbM b nn nr nt bh t)).1 (rFS ((w.2.2.2.1) (gh 53 0)) M (-1) (-1))) ∧ (∀ b, b ≠ gh 53 0 → (w.2.2.2.1) b = AI b))) := sorry

end

section
def rmX7_viewToldg : Room := { frames := 9, cells := 0, slots := 0, locals := 197 }
set_option maxHeartbeats 4000000 in
set_option maxRecDepth 100000 in
/-- a view told -/
theorem c_X7_viewToldg (l : Launch) (g : gG) (gh : gGh) (T : Nat → Int32) (M : Int) (b : tTx) (nn nr : Nat) (nt : Nat → Nat) (cc : Nat → Int) (f : Int) (h : Nat) (I : gI) (R : gR) (J : gJ) (AI : gI) (AJ : gJ) (AR : gR) (mo : Nat) (hv : mInv g gh R I AI) (hm : gO g mo 7) (hT : AI (gh 50 0) = T) (hE : (I mo 20).toInt ≤ 936) (hMM : (I mo 5).toInt = M) (h65 : gh 9 (gh 65 0) ≠ 5) (hbM : ∀ k : Nat, k < nn → ((gM g).2 (gh 65 0) k).toInt = b k % 256) (hr7 : ∀ k : Nat, -128 ≤ b k ∧ b k ≤ 127) (hsz : (I mo 18).toInt = (nn : Int)) (hn9 : nn ≤ 900) (hm5 : (I mo 5).toInt = (nr : Int)) (hQ : mQ gh I J AI AJ mo b nn nr nt cc f h) : gMet l g yX7_viewTold tsX7_viewTold rmX7_viewToldg [.ref mo] (I, R, J, AI, AJ, AR) (gQv g (fun w : gS => R = w.2.1 ∧ AR = w.2.2.2.2.2 ∧ (mInv g gh R (w.1) (w.2.2.2.1)) ∧ ((w.2.2.2.1) (gh 50 0) = T) ∧ (qF mo I (w.1)) ∧ (((w.1) mo 20).toInt ≤ 936 ∧ (I mo 24).toInt ≤ ((w.1) mo 24).toInt) ∧ (((w.1) mo 24).toInt = 0 → ((w.1) mo 21).toInt = 4 → ((w.1) mo 23).toInt = 59 → rowOK ((w.2.2.2.1) (gh 53 0)) M) ∧ (((w.1) mo 24).toInt = 0 → M ≤ 15) ∧ (((w.1) mo 24).toInt = 0 → 1 ≤ tI ((w.2.2.2.1) (gh 53 0)) (40 * M)) ∧ (mQ gh (w.1) (w.2.2.1) (w.2.2.2.1) (w.2.2.2.2.1) mo b nn nr nt cc (thn (f, h, 0) (fun t _ => sVwM b nn nr nt cc t)).1 (thn (f, h, 0) (fun t _ => sVwM b nn nr nt cc t)).2.1) ∧ (pIc (thn (f, h, 0) (fun t _ => sVwM b nn nr nt cc t)).1 (pK b nn (thn (f, h, 0) (fun t _ => sVwM b nn nr nt cc t)).2.1) (tI ((w.2.2.2.1) (gh 53 0)) (40 * (nr : Int) + 1)) (thn (f, h, 0) (fun t _ => sVwM b nn nr nt cc t)).2.2) ∧ (pJm (thn (f, h, 0) (fun t _ => sVwM b nn nr nt cc t)).1 ((w.2.2.2.2.1) (gh 54 0) nr) (pMw b nn (h + 1))) ∧ (pIm (thn (f, h, 0) (fun t _ => sVwM b nn nr nt cc t)).1 (tI ((w.2.2.2.1) (gh 53 0)) (40 * (nr : Int))) (pV b nn (h + 3))) ∧ (zIf (thn (f, h, 0) (fun t _ => sVwM b nn nr nt cc t)).1 (frM M (AI (gh 53 0)) ((w.2.2.2.1) (gh 53 0)))) ∧ (zIf (thn (f, h, 0) (fun t _ => sVwM b nn nr nt cc t)).1 (mLn b nn nr nt (h + 4) ((w.2.2.2.1) (gh 53 0)) M (pV b nn (h + 3)))) ∧ (∀ b, b ≠ gh 53 0 → (w.2.2.2.1) b = AI b))) := sorry

end

section
def rmX7_plang : Room := { frames := 10, cells := 0, slots := 0, locals := 219 }
set_option maxHeartbeats 4000000 in
set_option maxRecDepth 100000 in
/-- a tape read -/
theorem c_X7_plang (l : Launch) (g : gG) (gh : gGh) (T : Nat → Int32) (b : tTx) (nn : Nat) (I : gI) (R : gR) (J : gJ) (AI : gI) (AJ : gJ) (AR : gR) (mo : Nat) (hv : mInv g gh R I AI) (hm : gO g mo 7) (hT : AI (gh 50 0) = T) (h65 : gh 9 (gh 65 0) ≠ 5) (hbM : ∀ k : Nat, k < nn → ((gM g).2 (gh 65 0) k).toInt = b k % 256) (hr7 : ∀ k : Nat, -128 ≤ b k ∧ b k ≤ 127) (hnn : (I mo 16).toInt = (nn : Int)) : gMet l g yX7_plan tsX7_plan rmX7_plang [.ref mo] (I, R, J, AI, AJ, AR) (gQi g (fun (z : Int) (w : gS) => R = w.2.1 ∧ AR = w.2.2.2.2.2 ∧ (mInv g gh R (w.1) (w.2.2.2.1)) ∧ (((w.1) mo 16).toInt = 0) ∧ (z = sPln b nn) ∧ (plM gh T I (w.1) (w.2.2.2.1) mo b nn z) ∧ (plN gh I AI (w.1) (w.2.2.2.1) mo b nn z) ∧ (plK gh AI (w.2.2.2.1)))) := sorry

end

section
/-! what the class's lines hold so far; what a plan leaves of the class -/
def rowsC (gh : gGh) (AR : gR) (I AI : gI) (q : Nat) (b : tTx) (n nr : Nat) (nt : Nat → Nat) (cl : Nat → Int) : Prop :=
  ∀ r : Nat, r < nr → LG b n nt cl r ∧ ∀ y, AR (gh 6 q) r = some y → (I y 0).toInt = kdT b n (nt r) ∧ kLn b n r nt cl (nt r + 3) (I y) (AI (gh 3 y)) (kdT b n (nt r))
section LgC
variable {b : tTx} {n nr r : Nat} {nt : Nat → Nat} {cl : Nat → Int}
theorem LG_1c (hc : ∀ u, u < r → 1 ≤ cl u ∧ cl u ≤ 4) (g : LG b n nt cl r) : 1 ≤ cl r := sorry
theorem LG_cl : ∀ (m : Nat), (∀ r, r < m → LG b n nt cl r) → ∀ r, r < m → 1 ≤ cl r ∧ cl r ≤ 4 := sorry
end LgC
section RowsC
variable {g : gG} {gh : gGh} {R AR : gR} {I I' I0 AI AI' AI0 : gI} {q ln h0 : Nat} {b : tTx} {n nr : Nat} {nt : Nat → Nat} {cl : Nat → Int} {x kd : Int} {f f' P : Nat → Int32} {h : Nat}
theorem rowsC_0 : rowsC gh AR I AI q b n 0 nt cl := sorry
theorem rowsC_cl (h : rowsC gh AR I AI q b n nr nt cl) : ∀ r, r < nr → 1 ≤ cl r ∧ cl r ≤ 4 := sorry
theorem kLn_f (e : ∀ j, j ≠ 13 → j ≠ 14 → f' j = f j) (w : kLn b n nr nt cl h f P kd) : kLn b n nr nt cl h f' P kd := sorry
theorem kLn_b {t : Nat} (w : kLn b n nr nt cl (bTk b n t) f P (kdT b n t)) : kLn b n nr nt cl (t + 3) f P (kdT b n t) := sorry
theorem ln3_ne (hv : gInv g gh R AR I0 AI0) {y z : Nat} (hy : gO g y 0) (hz : gO g z 0) (h : y ≠ z) : gh 3 y ≠ gh 3 z := sorry
/-- other things have changed -/
theorem rowsC_f (hv : gInv g gh R AR I0 AI0) (hq : gO g q 2) (h16 : nr ≤ 16) (w : rowsC gh AR I AI q b n nr nt cl) (e : ∀ y, gO g y 0 → gh 4 y = q → gh 5 y < nr → (∀ j, j ≠ 13 → j ≠ 14 → I' y j = I y j) ∧ AI' (gh 3 y) = AI (gh 3 y)) : rowsC gh AR I' AI' q b n nr nt cl := sorry
/-- one line more -/
theorem rowsC_s (hv : gInv g gh R AR I0 AI0) (hq : gO g q 2) (h15 : nr ≤ 15) (h0 : gO g ln 0) (h4 : gh 4 ln = q) (h5 : gh 5 ln = nr) (w : rowsC gh AR I AI q b n nr nt cl) {t : Nat} (hg : LG b n (sUp nt nr t) (sUp cl nr x) nr) (hk : (I ln 0).toInt = kdT b n t) (hl : kLn b n nr nt cl (t + 3) (I ln) (AI (gh 3 ln)) (kdT b n t)) : rowsC gh AR I AI q b n (nr + 1) (sUp nt nr t) (sUp cl nr x) := sorry
end RowsC
/-- what a call of plan leaves of the class's bags and lines -/
def plC (g : gG) (gh : gGh) (AR : gR) (I AI I' AI' : gI) (x pA q bA : Nat) (b : tTx) (n : Nat) (z : Int) : Prop :=
  (z < 0 ∧ (∀ o, gO g o 4 → I' o = I o) ∧ (∀ o, gh 9 o = 1 → AI' o = AI o) ∧ (∀ k, k ≠ 1 → I' x k = I x k) ∧ ∀ y, gO g y 0 → gh 4 y = pA → AI' (gh 3 y) = AI (gh 3 y)) ∨
  (0 ≤ z ∧ rowsC gh AR I' AI' q b n (sPlF b n).1 (sPlF b n).2.1 (sPlF b n).2.2.1 ∧ (∀ r, r < 16 → (I' (rob AR bA r) 3).toInt = 0 ∧ (I' (rob AR (gh 35 0) r) 3).toInt = 0) ∧
    (∀ o, gO g o 4 → (∀ r, r < 16 → rob AR bA r ≠ o) → (∀ r, r < 16 → rob AR (gh 35 0) r ≠ o) → o ≠ gh 37 0 → I' o = I o) ∧ (∀ o, gh 9 o = 1 → AI' o = AI o) ∧ (I' x 15).toInt = 0 ∧ (I' x 16).toInt = 0 ∧ (I' x 17).toInt = 0)
theorem zk3 {I I' : gI} {y o : Nat} (e : I' = gup2 I y 3 (iI 0)) (h : (I o 3).toInt = 0) : (I' o 3).toInt = 0 := sorry
theorem zx3 {I I' : gI} {x k o : Nat} {v : Int32} (e : I' = gup2 I x k v) (hk : k ≠ 3) (h : (I o 3).toInt = 0) : (I' o 3).toInt = 0 := sorry

end

section
def rmX1_readHeadh : Room := { frames := 3, cells := 0, slots := 0, locals := 64 }
set_option maxHeartbeats 4000000 in
set_option maxRecDepth 100000 in
/-- the head of a line -/
theorem c_X1_readHeadh (l : Launch) (g : gG) (gh : gGh) (q : Nat) (b : tTx) (n : Nat) (tl : Int) (nr : Nat) (nt : Nat → Nat) (cl : Nat → Int) (h : Nat) (tb : Int) (I : gI) (R : gR) (J : gJ) (AI : gI) (AJ : gJ) (AR : gR) (a : Nat) (hv : gInv g gh R AR I AI) (h1 : gO g a 1) (hh : (I a 3).toInt < (I (gh 22 0) 4).toInt) (hRq : R a 1 = some q) (hq : gO g q 2) (hP : pH gh AR I J AI AJ a q b n tl nr nt cl h) (htb2 : (I q 2).toInt = tb) : gMet l g yX1_readHead wsX1_readHead rmX1_readHeadh [.ref a] (I, R, J, AI, AJ, AR) (gQi g (fun (z : Int) (w : gS) => AI = w.2.2.2.1 ∧ AJ = w.2.2.2.2.1 ∧ AR = w.2.2.2.2.2 ∧ (gInv g gh (w.2.1) AR (w.1) AI) ∧ (∀ b k, b ≠ a ∨ k ≠ 2 → (w.2.1) b k = R b k) ∧ (∀ b c, gO g b c → c ≠ 0 → c ≠ 1 → (w.1) b = I b) ∧ (((w.1) a 3).toInt < (I (gh 22 0) 4).toInt) ∧ (z = 0 → ∃ ln, pS g gh (w.2.1) (w.1) a q ln ∧ (I q 1).toInt ≤ 15 ∧ ((w.1) ln 0).toInt = (sHd b n nr nt tb h).2.2 ∧ ((w.1) ln 8).toInt = 0 ∧ (w.2.2.1) ln 1 = pN b n (h + 1) ∧ ((w.1) ln 3).toInt = -1 ∧ ((w.1) ln 4).toInt = -1) ∧ (0 ≤ z ∧ z ≤ 6) ∧ (z = (sHd b n nr nt tb h).1) ∧ (pH gh AR (w.1) (w.2.2.1) AI AJ a q b n tl nr nt cl (sHd b n nr nt tb h).2.1) ∧ (∀ y, gO g y 0 → gh 4 y ≠ q → (w.1) y = I y ∧ (w.2.2.1) y = J y) ∧ (∀ y, gO g y 0 → (gh 5 y : Int) ≠ (nr : Int) → (w.1) y = I y))) := sorry

end

section
def rmX6_startAnewg : Room := { frames := 0, cells := 0, slots := 0, locals := 0 }
set_option maxHeartbeats 4000000 in
set_option maxRecDepth 100000 in
/-- starts anew -/
theorem c_X6_startAnewg (l : Launch) (g : gG) (gh : gGh) (pA bA nA : Nat) (I : gI) (R : gR) (J : gJ) (AI : gI) (AJ : gJ) (AR : gR) (x : Nat) (hv : gInv g gh R AR I AI) (hx : xS g gh R AR x pA bA nA) (h37 : gh 42 0 ≠ 1) : gMet l g yX6_startAnew wsX6_startAnew rmX6_startAnewg [.ref x] (I, R, J, AI, AJ, AR) (gQv g (fun w : gS => R = w.2.1 ∧ J = w.2.2.1 ∧ AI = w.2.2.2.1 ∧ AJ = w.2.2.2.2.1 ∧ AR = w.2.2.2.2.2 ∧ (gInv g gh R AR (w.1) AI) ∧ (xF g x I (w.1)) ∧ (((w.1) (gh 37 0) 3).toInt = 0) ∧ (∀ r, r < 16 → ((w.1) (rob AR bA r) 3).toInt = 0 ∧ ((w.1) (rob AR (gh 35 0) r) 3).toInt = 0) ∧ (∀ b, gO g b 4 → (∀ r, r < 16 → rob AR bA r ≠ b) → (∀ r, r < 16 → rob AR (gh 35 0) r ≠ b) → b ≠ gh 37 0 → (w.1) b = I b) ∧ (((w.1) x 15).toInt = 0 ∧ ((w.1) x 16).toInt = 0 ∧ ((w.1) x 17).toInt = 0))) := sorry

end

section
def rmX2_keepLineg : Room := { frames := 2, cells := 0, slots := 0, locals := 62 }
set_option maxHeartbeats 4000000 in
set_option maxRecDepth 100000 in
/-- the line behind the others is kept -/
theorem c_X2_keepLineg (l : Launch) (g : gG) (gh : gGh) (ln : Nat) (I : gI) (R : gR) (J : gJ) (AI : gI) (AJ : gJ) (AR : gR) (a : Nat) (hv : gInv g gh R AR I AI) (ha : gO g a 2) (h0 : (I a 1).toInt ≤ 15) (h1 : (I a 2).toInt ≤ 15) (hc : ∀ b, gO g b 0 → gh 4 b = a → (gh 5 b : Int) = (I a 1).toInt → (I b 2).toInt ≤ 4) (hln : AR (gh 6 a) (I a 1).toInt.toNat = some ln) : gMet l g yX2_keepLine wsX2_keepLine rmX2_keepLineg [.ref a] (I, R, J, AI, AJ, AR) (gQv g (fun w : gS => R = w.2.1 ∧ J = w.2.2.1 ∧ AI = w.2.2.2.1 ∧ AJ = w.2.2.2.2.1 ∧ AR = w.2.2.2.2.2 ∧ (gInv g gh R AR (w.1) AI) ∧ (((w.1) a 1).toInt = (I a 1).toInt + 1) ∧ (((w.1) a 2).toInt ≤ (I a 2).toInt + 1) ∧ (∀ b c, gO g b c → c ≠ 0 → c ≠ 2 → (w.1) b = I b) ∧ (∀ b j, j ≠ 13 → j ≠ 14 → gO g b 0 → (w.1) b j = I b j) ∧ (pIm (I ln 0).toInt ((w.1) a 2).toInt ((I a 2).toInt + 1)) ∧ (pNm (I ln 0).toInt ((w.1) a 2).toInt (I a 2).toInt) ∧ (∀ b, b ≠ a → b ≠ ln → (w.1) b = I b))) := sorry

end

section
def rmX1_parseg : Room := { frames := 8, cells := 0, slots := 0, locals := 184 }
set_option maxHeartbeats 4000000 in
set_option maxRecDepth 100000 in
/-- reads a plan -/
theorem c_X1_parseg (l : Launch) (g : gG) (gh : gGh) (q : Nat) (b : tTx) (n : Nat) (I : gI) (R : gR) (J : gJ) (AI : gI) (AJ : gJ) (AR : gR) (a : Nat) (t : Nat) (tn : Int) (ztn : zr tn) (hv : gInv g gh R AR I AI) (h1 : gO g a 1) (hRq : R a 1 = some q) (hq : gO g q 2) (ht : gAr g t 8 936) (hn : 0 ≤ tn ∧ tn ≤ 900) (hb : ∀ k : Nat, (AI t k).toInt = b k) (hr7 : ∀ k : Nat, -128 ≤ b k ∧ b k ≤ 127) (hnn : tn = (n : Int)) : gMet l g yX1_parse wsX1_parse rmX1_parseg [.ref a, .ref t, .int (iI tn)] (I, R, J, AI, AJ, AR) (gQi g (fun (z : Int) (w : gS) => AR = w.2.2.2.2.2 ∧ (gInv g gh (w.2.1) AR (w.1) (w.2.2.2.1)) ∧ (∀ b k, b ≠ a ∨ k ≠ 2 → (w.2.1) b k = R b k) ∧ (yF g I (w.1)) ∧ (z = (sPl b n).1) ∧ (pIm z ((w.1) q 1).toInt ((sPl b n).2 : Int)) ∧ (0 ≤ z ∧ z ≤ 7206) ∧ (∀ y, gO g y 0 → gh 4 y ≠ q → (w.1) y = I y ∧ (w.2.2.1) y = J y) ∧ (∀ b, gO g b 2 → b ≠ q → (w.1) b = I b) ∧ (z = 0 → pLn gh AR (w.1) (w.2.2.1) q b n (sPlF b n).1 (sPlF b n).2.1 (sPlF b n).2.2.1 ∧ ((w.1) q 2).toInt = (sPlF b n).2.2.2) ∧ (z = 0 → rowsC gh AR (w.1) (w.2.2.2.1) q b n (sPlF b n).1 (sPlF b n).2.1 (sPlF b n).2.2.1) ∧ (∀ b, gh 9 b ≠ 2 → b ≠ gh 24 0 → b ≠ gh 25 0 → b ≠ gh 26 0 → (w.2.2.2.1) b = AI b) ∧ (∀ y, gO g y 0 → gh 4 y ≠ q → (w.2.2.2.1) (gh 3 y) = AI (gh 3 y)))) := sorry

end

section
def rmX6_plang : Room := { frames := 9, cells := 0, slots := 0, locals := 208 }
set_option maxHeartbeats 4000000 in
set_option maxRecDepth 100000 in
/-- plan -/
theorem c_X6_plang (l : Launch) (g : gG) (gh : gGh) (pA bA nA : Nat) (b : tTx) (n : Nat) (qq : Nat) (I : gI) (R : gR) (J : gJ) (AI : gI) (AJ : gJ) (AR : gR) (x : Nat) (hv : gInv g gh R AR I AI) (hx : xS g gh R AR x pA bA nA) (h37 : gh 42 0 ≠ 1) (hb : ∀ k : Nat, (AI (gh 28 0) k).toInt = b k) (hr7 : ∀ k : Nat, -128 ≤ b k ∧ b k ≤ 127) (hnn : (I x 1).toInt = (n : Int)) (hqq : R (gh 21 0) 1 = some qq) (hqp : qq ≠ pA) (hB : I (gh 37 0) 3 = (gM g).1 (gh 37 0) 3 ∧ AI (gh 0 (gh 37 0)) = (gM g).2 (gh 0 (gh 37 0))) : gMet l g yX6_plan wsX6_plan rmX6_plang [.ref x] (I, R, J, AI, AJ, AR) (gQi g (fun (z : Int) (w : gS) => AR = w.2.2.2.2.2 ∧ (gInv g gh (w.2.1) AR (w.1) (w.2.2.2.1)) ∧ (∃ p1 b1 n1, xS g gh (w.2.1) AR x p1 b1 n1) ∧ (((w.1) x 1).toInt = 0) ∧ (∀ b, gO g b 7 → (w.2.1) b = R b) ∧ (z = sPln b n) ∧ (plE g gh AR I J AI (w.2.1) (w.1) (w.2.2.1) (w.2.2.2.1) x pA qq bA nA b n z) ∧ (plC g gh AR I AI (w.1) (w.2.2.2.1) x pA qq bA b n z))) := sorry

end
