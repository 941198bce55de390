section
def rmX4_appendf : Room := { frames := 1, cells := 0, slots := 0, locals := 60 }
set_option maxHeartbeats 4000000 in
set_option maxRecDepth 100000 in
/-- a row of another comes behind all of these -/
theorem c_X4_appendf (l : Launch) (g : gG) (gh : gGh) (I : gI) (R : gR) (J : gJ) (AI : gI) (AJ : gJ) (AR : gR) (a : Nat) (o : Nat) (row : Int) (n : Int) (zrow : zr row) (zn : zr n) (hv : gInv g gh R AR I AI) (ha : gO g a 4) (ho : gO g o 4) (h4 : gh 2 a = 4) (h0 : 0 ≤ row) (h1 : row < (gh 1 o : Int)) : gMet l g yX4_append wsX4_append rmX4_appendf [.ref a, .ref o, .int (iI row), .int (iI n)] (I, R, J, AI, AJ, AR) (gQi g (fun (z : Int) (w : gS) => R = w.2.1 ∧ J = w.2.2.1 ∧ AJ = w.2.2.2.2.1 ∧ AR = w.2.2.2.2.2 ∧ (gInv g gh R AR (w.1) (w.2.2.2.1)) ∧ (∀ b, b ≠ a → (w.1) b = I b) ∧ (∀ b, b ≠ gh 0 a → (w.2.2.2.1) b = AI b) ∧ ((z = 0 ∧ (w.1) = I ∧ (w.2.2.2.1) = AI ∧ (gh 1 a : Int) ≤ (I a 3).toInt) ∨ (z = 1 ∧ (I a 3).toInt < (gh 1 a : Int) ∧ ((w.1) a 3).toInt = (I a 3).toInt + 1 ∧ apP (AI (gh 0 a)) ((w.2.2.2.1) (gh 0 a)) (AI (gh 0 o)) row (I a 3).toInt n)))) := sorry
def rmX4_orderOfHeadsf : Room := { frames := 1, cells := 0, slots := 0, locals := 27 }
set_option maxHeartbeats 4000000 in
set_option maxRecDepth 100000 in
/-- which head is first -/
theorem c_X4_orderOfHeadsf (l : Launch) (g : gG) (gh : gGh) (I : gI) (R : gR) (J : gJ) (AI : gI) (AJ : gJ) (AR : gR) (a : Nat) (i : Int) (b : Nat) (j : Int) (zi : zr i) (zj : zr j) (hv : gInv g gh R AR I AI) (ha : gO g a 4) (hb : gO g b 4) (h4 : gh 2 a = 4) (h0 : 0 ≤ i) (h1 : 0 ≤ j) : gMet l g yX4_orderOfHeads wsX4_orderOfHeads rmX4_orderOfHeadsf [.ref a, .int (iI i), .ref b, .int (iI j)] (I, R, J, AI, AJ, AR) (gQi g (fun (z : Int) (w : gS) => I = w.1 ∧ R = w.2.1 ∧ J = w.2.2.1 ∧ AI = w.2.2.2.1 ∧ AJ = w.2.2.2.2.1 ∧ AR = w.2.2.2.2.2 ∧ (z ≤ 0 → i < (I a 3).toInt) ∧ (0 ≤ z → i < (I a 3).toInt → j < (I b 3).toInt) ∧ (((I a 3).toInt ≤ i ∧ z = 1) ∨ (i < (I a 3).toInt ∧ (I b 3).toInt ≤ j ∧ z = -1) ∨ (i < (I a 3).toInt ∧ j < (I b 3).toInt ∧ z = tc (tup (AI (gh 0 a)) i.toNat) (tup (AI (gh 0 b)) j.toNat))))) := sorry
def rmX4_gatherf : Room := { frames := 2, cells := 0, slots := 0, locals := 84 }
set_option maxHeartbeats 4000000 in
set_option maxRecDepth 100000 in
/-- the amounts of two bags together -/
theorem c_X4_gatherf (l : Launch) (g : gG) (gh : gGh) (nx ny : Nat) (Sg : Tup → Int32) (I : gI) (R : gR) (J : gJ) (AI : gI) (AJ : gJ) (AR : gR) (a : Nat) (x : Nat) (y : Nat) (sign : Int) (zsign : zr sign) (hv : gInv g gh R AR I AI) (ha : gO g a 4) (hx : gO g x 4) (hy : gO g y 4) (h4 : gh 2 a = 4) (h5 : gh 2 x = 4) (hxa : x ≠ a) (hya : y ≠ a) (h6 : gh 2 y = 4) (hnx : (I x 3).toInt = (nx : Int)) (hny : (I y 3).toInt = (ny : Int)) (hA : okB (AI (gh 0 x)) nx) (hB : okB (AI (gh 0 y)) ny) (hSS : ∀ t, Sg t = bS (AI (gh 0 x)) nx t + iI sign * bS (AI (gh 0 y)) ny t) : gMet l g yX4_gather wsX4_gather rmX4_gatherf [.ref a, .ref x, .ref y, .int (iI sign)] (I, R, J, AI, AJ, AR) (gQi g (fun (z : Int) (w : gS) => R = w.2.1 ∧ J = w.2.2.1 ∧ AJ = w.2.2.2.2.1 ∧ AR = w.2.2.2.2.2 ∧ (gInv g gh R AR (w.1) (w.2.2.2.1)) ∧ (∀ b, b ≠ a → (w.1) b = I b) ∧ (∀ b, b ≠ gh 0 a → (w.2.2.2.1) b = AI b) ∧ ((z = 1 ∧ isB ((w.2.2.2.1) (gh 0 a)) ((w.1) a 3).toInt.toNat Sg zM) ∨ (z = 0 ∧ bigP (gh 1 a) (fun t => Sg t ≠ 0))))) := sorry
def rmX4_copyKeyf : Room := { frames := 1, cells := 0, slots := 0, locals := 60 }
set_option maxHeartbeats 4000000 in
set_option maxRecDepth 100000 in
/-- fills a key with the keys of a row -/
theorem c_X4_copyKeyf (l : Launch) (g : gG) (gh : gGh) (I : gI) (R : gR) (J : gJ) (AI : gI) (AJ : gJ) (AR : gR) (a : Nat) (row : Int) (from_ : Int) (k : Nat) (zrow : zr row) (zfrom_ : zr from_) (hv : gInv g gh R AR I AI) (ha : gO g a 4) (h0 : 0 ≤ row) (h1 : row < (gh 1 a : Int)) (hk : gAr g k 9 5) (hk0 : gh 9 k = 0) (h2 : 0 ≤ from_) (h3 : from_ ≤ 4) : gMet l g yX4_copyKey wsX4_copyKey rmX4_copyKeyf [.ref a, .int (iI row), .int (iI from_), .ref k] (I, R, J, AI, AJ, AR) (gQv g (fun w : gS => I = w.1 ∧ R = w.2.1 ∧ J = w.2.2.1 ∧ AJ = w.2.2.2.2.1 ∧ AR = w.2.2.2.2.2 ∧ (∀ b, b ≠ k → (w.2.2.2.1) b = AI b) ∧ (gInv g gh R AR I (w.2.2.2.1)) ∧ ((w.2.2.2.1) k = va_cpy (AI (gh 0 a)) (AI k) (row * 6 + from_).toNat (0 : Int).toNat ((gh 2 a : Int) - from_).toNat))) := sorry
def rmX4_copyFromf : Room := { frames := 1, cells := 0, slots := 0, locals := 60 }
set_option maxHeartbeats 4000000 in
set_option maxRecDepth 100000 in
/-- a copy -/
theorem c_X4_copyFromf (l : Launch) (g : gG) (gh : gGh) (I : gI) (R : gR) (J : gJ) (AI : gI) (AJ : gJ) (AR : gR) (a : Nat) (o : Nat) (hv : gInv g gh R AR I AI) (ha : gO g a 4) (ho : gO g o 4) (h5 : gh 2 a = 5 → gh 2 o = 5) (hfz : gh 2 a = 5 → gh 42 0 = 1 → a ≠ gh 37 0) : gMet l g yX4_copyFrom wsX4_copyFrom rmX4_copyFromf [.ref a, .ref o] (I, R, J, AI, AJ, AR) (gQv g (fun w : gS => R = w.2.1 ∧ J = w.2.2.1 ∧ AJ = w.2.2.2.2.1 ∧ AR = w.2.2.2.2.2 ∧ (gInv g gh R AR (w.1) (w.2.2.2.1)) ∧ (∀ b, b ≠ a → (w.1) b = I b) ∧ (∀ b, b ≠ gh 0 a → (w.2.2.2.1) b = AI b) ∧ ((I o 3).toInt ≤ (gh 1 a : Int) → ((w.1) a 3).toInt = (I o 3).toInt ∧ rwA ((w.2.2.2.1) (gh 0 a)) (AI (gh 0 o)) (I o 3).toInt.toNat))) := sorry
def rmX4_amountOff : Room := { frames := 2, cells := 0, slots := 0, locals := 52 }
set_option maxHeartbeats 4000000 in
set_option maxRecDepth 100000 in
/-- the amount of a key -/
theorem c_X4_amountOff (l : Launch) (g : gG) (gh : gGh) (na : Nat) (t : Tup) (I : gI) (R : gR) (J : gJ) (AI : gI) (AJ : gJ) (AR : gR) (a : Nat) (k : Nat) (hv : gInv g gh R AR I AI) (ha : gO g a 4) (hk : gAr g k 9 5) (hn : (I a 3).toInt = (na : Int)) (hok : okB (AI (gh 0 a)) na) (h4 : gh 2 a = 4) (ht : ∀ j, j < 4 → AI k j = tg t j) : gMet l g yX4_amountOf wsX4_amountOf rmX4_amountOff [.ref a, .ref k] (I, R, J, AI, AJ, AR) (gQi g (fun (z : Int) (w : gS) => I = w.1 ∧ R = w.2.1 ∧ J = w.2.2.1 ∧ AI = w.2.2.2.1 ∧ AJ = w.2.2.2.2.1 ∧ AR = w.2.2.2.2.2 ∧ (z = (bS (AI (gh 0 a)) na t).toInt))) := sorry

end

section
def rmX0_holdsf : Room := { frames := 0, cells := 0, slots := 0, locals := 0 }
set_option maxHeartbeats 4000000 in
set_option maxRecDepth 100000 in
/-- whether the tests hold -/
theorem c_X0_holdsf (l : Launch) (g : gG) (gh : gGh) (n : Nat) (lc : LC) (t : Tup) (I : gI) (R : gR) (J : gJ) (AI : gI) (AJ : gJ) (AR : gR) (a : Nat) (o : Nat) (fr : Int) (zfr : zr fr) (hv : gInv g gh R AR I AI) (ha : gO g a 0) (ho : gAr g o 9 n) (hkd : (I a 0).toInt = 1) (hn : n ≤ 1440) (h2 : 0 ≤ fr) (h3 : fr + 4 ≤ (n : Int)) (hlc : lnC (I a) (AI (gh 3 a)) lc) (hk1 : lc.1 0 = 1) (ht : ∀ j, j < 4 → AI o (fr.toNat + j) = tg t j) : gMet l g yX0_holds wsX0_holds rmX0_holdsf [.ref a, .ref o, .int (iI fr)] (I, R, J, AI, AJ, AR) (gQi g (fun (z : Int) (w : gS) => I = w.1 ∧ R = w.2.1 ∧ J = w.2.2.1 ∧ AI = w.2.2.2.1 ∧ AJ = w.2.2.2.2.1 ∧ AR = w.2.2.2.2.2 ∧ (z = 0 ∨ z = 1) ∧ (tIz z (hldP lc t)))) := sorry
def rmX0_fillTermsf : Room := { frames := 0, cells := 0, slots := 0, locals := 0 }
set_option maxHeartbeats 4000000 in
set_option maxRecDepth 100000 in
/-- the terms -/
theorem c_X0_fillTermsf (l : Launch) (g : gG) (gh : gGh) (n : Nat) (lc : LC) (hh : Nat → Int32) (cw : Int) (I : gI) (R : gR) (J : gJ) (AI : gI) (AJ : gJ) (AR : gR) (a : Nat) (o : Nat) (fr : Int) (k : Nat) (zfr : zr fr) (hv : gInv g gh R AR I AI) (ha : gO g a 0) (ho : gAr g o 9 n) (hkd : (I a 0).toInt = 0 ∨ (I a 0).toInt = 2 ∨ (I a 0).toInt = 8) (hn : n ≤ 1440) (h2 : 0 ≤ fr) (h3 : fr + 4 ≤ (n : Int)) (hk : gAr g k 9 5) (hk0 : gh 9 k = 0) (hlc : lnC (I a) (AI (gh 3 a)) lc) (hk2 : lc.1 0 = 2 ∨ lc.1 0 = 3 ∨ lc.1 0 = 8) (hhh : ∀ j : Nat, (j : Int) < cw → AI o (fr.toNat + j) = hh j) (hcw : ∀ k : Nat, (k : Int) < lc.1 4 → lc.2 k 0 < cw) (hok : o ≠ k) : gMet l g yX0_fillTerms wsX0_fillTerms rmX0_fillTermsf [.ref a, .ref o, .int (iI fr), .ref k] (I, R, J, AI, AJ, AR) (gQv g (fun w : gS => I = w.1 ∧ R = w.2.1 ∧ J = w.2.2.1 ∧ AJ = w.2.2.2.2.1 ∧ AR = w.2.2.2.2.2 ∧ (gInv g gh R AR I (w.2.2.2.1)) ∧ (∀ b, b ≠ k → (w.2.2.2.1) b = AI b) ∧ ((∀ j : Nat, (j : Int) < lc.1 4 → (w.2.2.2.1) k j = trm lc hh j) ∧ ∀ j : Nat, lc.1 4 ≤ (j : Int) → (w.2.2.2.1) k j = AI k j))) := sorry
def rmX0_pairsAreAlikef : Room := { frames := 0, cells := 0, slots := 0, locals := 0 }
set_option maxHeartbeats 4000000 in
set_option maxRecDepth 100000 in
/-- whether the pairs are alike -/
theorem c_X0_pairsAreAlikef (l : Launch) (g : gG) (gh : gGh) (n n2 : Nat) (lc : LC) (t u : Tup) (I : gI) (R : gR) (J : gJ) (AI : gI) (AJ : gJ) (AR : gR) (a : Nat) (o : Nat) (fr : Int) (o2 : Nat) (fr2 : Int) (zfr : zr fr) (zfr2 : zr fr2) (hv : gInv g gh R AR I AI) (ha : gO g a 0) (ho : gAr g o 9 n) (hkd : (I a 0).toInt = 3) (hn : n ≤ 1440) (h2 : 0 ≤ fr) (h3 : fr + 4 ≤ (n : Int)) (ho2 : gAr g o2 9 n2) (hn2 : n2 ≤ 1440) (h4 : 0 ≤ fr2) (h5 : fr2 + 4 ≤ (n2 : Int)) (hlc : lnC (I a) (AI (gh 3 a)) lc) (hk3 : lc.1 0 = 3) (ht : ∀ j, j < 4 → AI o (fr.toNat + j) = tg t j) (hu : ∀ j, j < 4 → AI o2 (fr2.toNat + j) = tg u j) : gMet l g yX0_pairsAreAlike wsX0_pairsAreAlike rmX0_pairsAreAlikef [.ref a, .ref o, .int (iI fr), .ref o2, .int (iI fr2)] (I, R, J, AI, AJ, AR) (gQi g (fun (z : Int) (w : gS) => I = w.1 ∧ R = w.2.1 ∧ J = w.2.2.1 ∧ AI = w.2.2.2.1 ∧ AJ = w.2.2.2.2.1 ∧ AR = w.2.2.2.2.2 ∧ (z = 0 ∨ z = 1) ∧ (tIz z (alk lc t u)))) := sorry

end

section
def rmX3_clearKeyf : Room := { frames := 0, cells := 0, slots := 0, locals := 0 }
set_option maxHeartbeats 4000000 in
set_option maxRecDepth 100000 in
/-- an empty key -/
theorem c_X3_clearKeyf (l : Launch) (g : gG) (gh : gGh) (I : gI) (R : gR) (J : gJ) (AI : gI) (AJ : gJ) (AR : gR) (a : Nat) (hv : gInv g gh R AR I AI) (ha : gO g a 3) : gMet l g yX3_clearKey wsX3_clearKey rmX3_clearKeyf [.ref a] (I, R, J, AI, AJ, AR) (gQv g (fun w : gS => I = w.1 ∧ R = w.2.1 ∧ J = w.2.2.1 ∧ AJ = w.2.2.2.2.1 ∧ AR = w.2.2.2.2.2 ∧ (gInv g gh R AR I (w.2.2.2.1)) ∧ (∀ b, b ≠ gh 30 0 → (w.2.2.2.1) b = AI b) ∧ (∀ j, j < 5 → (w.2.2.2.1) (gh 30 0) j = 0))) := sorry
def rmX3_selectf : Room := { frames := 2, cells := 0, slots := 0, locals := 84 }
set_option maxHeartbeats 4000000 in
set_option maxRecDepth 100000 in
/-- a select -/
theorem c_X3_selectf (l : Launch) (g : gG) (gh : gGh) (lc : LC) (n : Nat) (I : gI) (R : gR) (J : gJ) (AI : gI) (AJ : gJ) (AR : gR) (a : Nat) (ln : Nat) (inr : Nat) (out : Nat) (hv : gInv g gh R AR I AI) (ha : gO g a 3) (hln : gO g ln 0) (hin : gO g inr 4) (hout : gO g out 4) (h4 : gh 2 out = 4) (hkd : (I ln 0).toInt = 1) (hlc : lnC (I ln) (AI (gh 3 ln)) lc) (hk1 : lc.1 0 = 1) (hne : inr ≠ out) (h5 : gh 2 inr = 4) (hnx : (I inr 3).toInt = (n : Int)) (hA : okB (AI (gh 0 inr)) n) (hl0 : (I out 3).toInt = 0) (hn9 : (n : Int) ≤ (gh 1 out : Int)) : gMet l g yX3_select wsX3_select rmX3_selectf [.ref a, .ref ln, .ref inr, .ref out] (I, R, J, AI, AJ, AR) (gQi g (fun (z : Int) (w : gS) => R = w.2.1 ∧ J = w.2.2.1 ∧ AJ = w.2.2.2.2.1 ∧ AR = w.2.2.2.2.2 ∧ (gInv g gh R AR (w.1) (w.2.2.2.1)) ∧ (rF g I (w.1)) ∧ (-4 ≤ z ∧ z ≤ 0) ∧ (kI out I (w.1)) ∧ (kA gh out AI (w.2.2.2.1)) ∧ (z = 0 ∧ isB ((w.2.2.2.1) (gh 0 out)) ((w.1) out 3).toInt.toNat (sR (vK lc) (vA lc) (AI (gh 0 inr)) n s0T) zM ∧ ((w.1) out 3).toInt ≤ (n : Int)))) := sorry
def rmX3_distinctf : Room := { frames := 2, cells := 0, slots := 0, locals := 84 }
set_option maxHeartbeats 4000000 in
set_option maxRecDepth 100000 in
/-- a distinct -/
theorem c_X3_distinctf (l : Launch) (g : gG) (gh : gGh) (lc : LC) (n : Nat) (I : gI) (R : gR) (J : gJ) (AI : gI) (AJ : gJ) (AR : gR) (a : Nat) (inr : Nat) (out : Nat) (hv : gInv g gh R AR I AI) (ha : gO g a 3) (hin : gO g inr 4) (hout : gO g out 4) (h4 : gh 2 out = 4) (hk6 : lc.1 0 = 6) (hne : inr ≠ out) (h5 : gh 2 inr = 4) (hnx : (I inr 3).toInt = (n : Int)) (hA : okB (AI (gh 0 inr)) n) (hl0 : (I out 3).toInt = 0) (hn9 : (n : Int) ≤ (gh 1 out : Int)) : gMet l g yX3_distinct wsX3_distinct rmX3_distinctf [.ref a, .ref inr, .ref out] (I, R, J, AI, AJ, AR) (gQi g (fun (z : Int) (w : gS) => R = w.2.1 ∧ J = w.2.2.1 ∧ AJ = w.2.2.2.2.1 ∧ AR = w.2.2.2.2.2 ∧ (gInv g gh R AR (w.1) (w.2.2.2.1)) ∧ (rF g I (w.1)) ∧ (-4 ≤ z ∧ z ≤ 0) ∧ (kI out I (w.1)) ∧ (kA gh out AI (w.2.2.2.1)) ∧ (z = 0 ∧ isB ((w.2.2.2.1) (gh 0 out)) ((w.1) out 3).toInt.toNat (sR (vK lc) (vA lc) (AI (gh 0 inr)) n s0T) zM ∧ ((w.1) out 3).toInt ≤ (n : Int)))) := sorry
def rmX3_projectf : Room := { frames := 3, cells := 0, slots := 0, locals := 108 }
set_option maxHeartbeats 4000000 in
set_option maxRecDepth 100000 in
/-- a project -/
theorem c_X3_projectf (l : Launch) (g : gG) (gh : gGh) (lc : LC) (n : Nat) (I : gI) (R : gR) (J : gJ) (AI : gI) (AJ : gJ) (AR : gR) (a : Nat) (ln : Nat) (inr : Nat) (out : Nat) (hv : gInv g gh R AR I AI) (ha : gO g a 3) (hln : gO g ln 0) (hin : gO g inr 4) (hout : gO g out 4) (h4 : gh 2 out = 4) (hkd : (I ln 0).toInt = 2) (hlc : lnC (I ln) (AI (gh 3 ln)) lc) (hk2 : lc.1 0 = 2) (hp4 : 0 ≤ lc.1 4) (hp3 : ∀ k : Nat, (k : Int) < lc.1 4 → lc.2 k 0 < 4) (hne : inr ≠ out) (h5 : gh 2 inr = 4) (hnx : (I inr 3).toInt = (n : Int)) (hA : okB (AI (gh 0 inr)) n) (hl0 : (I out 3).toInt = 0) (hn9 : (n : Int) ≤ (gh 1 out : Int)) : gMet l g yX3_project wsX3_project rmX3_projectf [.ref a, .ref ln, .ref inr, .ref out] (I, R, J, AI, AJ, AR) (gQi g (fun (z : Int) (w : gS) => R = w.2.1 ∧ J = w.2.2.1 ∧ AJ = w.2.2.2.2.1 ∧ AR = w.2.2.2.2.2 ∧ (gInv g gh R AR (w.1) (w.2.2.2.1)) ∧ (rF g I (w.1)) ∧ (-4 ≤ z ∧ z ≤ 0) ∧ (kI out I (w.1)) ∧ (kA gh out AI (w.2.2.2.1)) ∧ (z = 0 ∧ isB ((w.2.2.2.1) (gh 0 out)) ((w.1) out 3).toInt.toNat (sR (vK lc) (vA lc) (AI (gh 0 inr)) n s0T) zM ∧ ((w.1) out 3).toInt ≤ (n : Int)))) := sorry

end

section
def rmX3_fillJoinedf : Room := { frames := 1, cells := 0, slots := 0, locals := 22 }
set_option maxHeartbeats 4000000 in
set_option maxRecDepth 100000 in
/-- the columns of a joined tuple -/
theorem c_X3_fillJoinedf (l : Launch) (g : gG) (gh : gGh) (lc : LC) (t u : Tup) (I : gI) (R : gR) (J : gJ) (AI : gI) (AJ : gJ) (AR : gR) (a : Nat) (ln : Nat) (inr : Nat) (i0 : Int) (inb : Nat) (j0 : Int) (zi0 : zr i0) (zj0 : zr j0) (hv : gInv g gh R AR I AI) (ha : gO g a 3) (hln : gO g ln 0) (hin : gO g inr 4) (hinb : gO g inb 4) (h0 : 0 ≤ i0 ∧ i0 < (gh 1 inr : Int)) (h1 : 0 ≤ j0 ∧ j0 < (gh 1 inb : Int)) (hlc : lnC (I ln) (AI (gh 3 ln)) lc) (hk3 : lc.1 0 = 3) (hjo : jOK lc) (ht : ∀ j, j < 4 → AI (gh 0 inr) ((i0 * 6).toNat + j) = tg t j) (hu : ∀ j, j < 4 → AI (gh 0 inb) ((j0 * 6).toNat + j) = tg u j) (hkz : ∀ j : Nat, (lc.1 5).toNat + jc lc (lc.1 6).toNat ≤ j → j < 5 → AI (gh 30 0) j = 0) : gMet l g yX3_fillJoined wsX3_fillJoined rmX3_fillJoinedf [.ref a, .ref ln, .ref inr, .int (iI i0), .ref inb, .int (iI j0)] (I, R, J, AI, AJ, AR) (gQv g (fun w : gS => I = w.1 ∧ R = w.2.1 ∧ J = w.2.2.1 ∧ AJ = w.2.2.2.2.1 ∧ AR = w.2.2.2.2.2 ∧ (gInv g gh R AR I (w.2.2.2.1)) ∧ (∀ b, b ≠ gh 30 0 → (w.2.2.2.1) b = AI b) ∧ (∀ j, j < 4 → (w.2.2.2.1) (gh 30 0) j = tg (jn lc t u) j) ∧ (∀ j : Nat, (lc.1 5).toNat + jc lc (lc.1 6).toNat ≤ j → j < 5 → (w.2.2.2.1) (gh 30 0) j = 0))) := sorry
def rmX3_joinf : Room := { frames := 3, cells := 0, slots := 0, locals := 108 }
set_option maxHeartbeats 4000000 in
set_option maxRecDepth 100000 in
/-- a join -/
theorem c_X3_joinf (l : Launch) (g : gG) (gh : gGh) (lc : LC) (n my : Nat) (I : gI) (R : gR) (J : gJ) (AI : gI) (AJ : gJ) (AR : gR) (a : Nat) (ln : Nat) (inr : Nat) (inb : Nat) (out : Nat) (hv : gInv g gh R AR I AI) (ha : gO g a 3) (hln : gO g ln 0) (hin : gO g inr 4) (hinb : gO g inb 4) (hout : gO g out 4) (h4 : gh 2 out = 4) (hkd : (I ln 0).toInt = 3) (hlc : lnC (I ln) (AI (gh 3 ln)) lc) (hk3 : lc.1 0 = 3) (hjo : jOK lc) (hne : inr ≠ out) (h5 : gh 2 inr = 4) (hnx : (I inr 3).toInt = (n : Int)) (hA : okB (AI (gh 0 inr)) n) (hne2 : inb ≠ out) (h6 : gh 2 inb = 4) (hny : (I inb 3).toInt = (my : Int)) (hB : okB (AI (gh 0 inb)) my) (zx : zB (lc.1 5) (AI (gh 0 inr)) n) (zy : zB (lc.1 6) (AI (gh 0 inb)) my) (hl0 : (I out 3).toInt = 0) (hlm : gh 1 out = 120) : gMet l g yX3_join wsX3_join rmX3_joinf [.ref a, .ref ln, .ref inr, .ref inb, .ref out] (I, R, J, AI, AJ, AR) (gQi g (fun (z : Int) (w : gS) => R = w.2.1 ∧ J = w.2.2.1 ∧ AJ = w.2.2.2.2.1 ∧ AR = w.2.2.2.2.2 ∧ (gInv g gh R AR (w.1) (w.2.2.2.1)) ∧ (rF g I (w.1)) ∧ (-4 ≤ z ∧ z ≤ 0) ∧ (kI out I (w.1)) ∧ (kA gh out AI (w.2.2.2.1)) ∧ ((z = 0 ∧ ¬ 1500 < pJ lc (AI (gh 0 inr)) (AI (gh 0 inb)) my n ∧ isB ((w.2.2.2.1) (gh 0 out)) ((w.1) out 3).toInt.toNat (sJ lc (AI (gh 0 inr)) (AI (gh 0 inb)) my n) zM ∧ ((w.1) out 3).toInt ≤ 120) ∨ (z = -3 ∧ (1500 < pJ lc (AI (gh 0 inr)) (AI (gh 0 inb)) my n ∨ bigP 120 (fun t => sJ lc (AI (gh 0 inr)) (AI (gh 0 inb)) my n t ≠ 0)))))) := sorry

end

section
def rmX3_foldf : Room := { frames := 1, cells := 0, slots := 0, locals := 23 }
set_option maxHeartbeats 4000000 in
set_option maxRecDepth 100000 in
/-- the fold of a group -/
theorem c_X3_foldf (l : Launch) (g : gG) (gh : gGh) (lc : LC) (I : gI) (R : gR) (J : gJ) (AI : gI) (AJ : gJ) (AR : gR) (fd : Int) (out : Nat) (row : Int) (val : Int) (n : Int) (zfd : zr fd) (zrow : zr row) (zval : zr val) (zn : zr n) (hv : gInv g gh R AR I AI) (hout : gO g out 4) (h4 : gh 2 out = 4) (h0 : 0 ≤ row ∧ row < (gh 1 out : Int)) (h4 : gh 2 out = 4) (hfd : fd = 16 + lc.1 9) (hf9 : 0 ≤ lc.1 9 ∧ lc.1 9 ≤ 3) : gMet l g yX3_fold wsX3_fold rmX3_foldf [.int (iI fd), .ref out, .int (iI row), .int (iI val), .int (iI n)] (I, R, J, AI, AJ, AR) (gQv g (fun w : gS => I = w.1 ∧ R = w.2.1 ∧ J = w.2.2.1 ∧ AJ = w.2.2.2.2.1 ∧ AR = w.2.2.2.2.2 ∧ (gInv g gh R AR I (w.2.2.2.1)) ∧ (fldP lc (AI (gh 0 out)) ((w.2.2.2.1) (gh 0 out)) row.toNat (iI val) (iI n)) ∧ (∀ b, b ≠ gh 0 out → (w.2.2.2.1) b = AI b))) := sorry
def rmX3_groupf : Room := { frames := 2, cells := 0, slots := 0, locals := 84 }
set_option maxHeartbeats 4000000 in
set_option maxRecDepth 100000 in
/-- a group -/
theorem c_X3_groupf (l : Launch) (g : gG) (gh : gGh) (lc : LC) (n : Nat) (I : gI) (R : gR) (J : gJ) (AI : gI) (AJ : gJ) (AR : gR) (a : Nat) (ln : Nat) (inr : Nat) (out : Nat) (hv : gInv g gh R AR I AI) (ha : gO g a 3) (hln : gO g ln 0) (hin : gO g inr 4) (hout : gO g out 4) (h4 : gh 2 out = 4) (hkd : (I ln 0).toInt = 7) (hlc : lnC (I ln) (AI (gh 3 ln)) lc) (hk7 : lc.1 0 = 7) (hg9 : 0 ≤ lc.1 9 ∧ lc.1 9 ≤ 3) (hg10 : 0 ≤ lc.1 10 ∧ lc.1 10 ≤ 3) (hp4 : 0 ≤ lc.1 4 ∧ lc.1 4 ≤ 3) (hne : inr ≠ out) (h5 : gh 2 inr = 4) (hnx : (I inr 3).toInt = (n : Int)) (hA : okB (AI (gh 0 inr)) n) (hl0 : (I out 3).toInt = 0) (hn9 : (n : Int) ≤ (gh 1 out : Int)) : gMet l g yX3_group wsX3_group rmX3_groupf [.ref a, .ref ln, .ref inr, .ref out] (I, R, J, AI, AJ, AR) (gQi g (fun (z : Int) (w : gS) => R = w.2.1 ∧ J = w.2.2.1 ∧ AJ = w.2.2.2.2.1 ∧ AR = w.2.2.2.2.2 ∧ (gInv g gh R AR (w.1) (w.2.2.2.1)) ∧ (rF g I (w.1)) ∧ (-4 ≤ z ∧ z ≤ 0) ∧ (kI out I (w.1)) ∧ (kA gh out AI (w.2.2.2.1)) ∧ (z = 0 ∧ isB ((w.2.2.2.1) (gh 0 out)) ((w.1) out 3).toInt.toNat (sG lc (AI (gh 0 inr)) n) zM ∧ ((w.1) out 3).toInt ≤ (n : Int)))) := sorry

end

section
def rmX3_arrivef : Room := { frames := 2, cells := 0, slots := 0, locals := 84 }
set_option maxHeartbeats 4000000 in
set_option maxRecDepth 100000 in
/-- a tuple comes to a ring -/
theorem c_X3_arrivef (l : Launch) (g : gG) (gh : gGh) (t : Tup) (I : gI) (R : gR) (J : gJ) (AI : gI) (AJ : gJ) (AR : gR) (a : Nat) (out : Nat) (row : Int) (rd : Int) (zrow : zr row) (zrd : zr rd) (hv : gInv g gh R AR I AI) (ha : gO g a 3) (hout : gO g out 4) (h4 : gh 2 out = 4) (hlm : gh 1 out = 120) (ht : ∀ j, j < 4 → AI (gh 30 0) j = tg t j) (hrw : 0 ≤ row) (hat : atW (AI (gh 0 out)) (I out 3).toInt.toNat row.toNat t) : gMet l g yX3_arrive wsX3_arrive rmX3_arrivef [.ref a, .ref out, .int (iI row), .int (iI rd)] (I, R, J, AI, AJ, AR) (gQi g (fun (z : Int) (w : gS) => R = w.2.1 ∧ J = w.2.2.1 ∧ AJ = w.2.2.2.2.1 ∧ AR = w.2.2.2.2.2 ∧ (gInv g gh R AR (w.1) (w.2.2.2.1)) ∧ (rF g I (w.1)) ∧ (z = 0 ∨ z = 1) ∧ (kI out I (w.1)) ∧ (kA gh out AI (w.2.2.2.1)) ∧ ((z = 0 ∧ (gh 1 out : Int) ≤ (I out 3).toInt ∧ (w.2.2.2.1) (gh 32 0) = AI (gh 32 0)) ∨ (z = 1 ∧ (I out 3).toInt < (gh 1 out : Int) ∧ ((w.1) out 3).toInt = (I out 3).toInt + 1 ∧ insW (AI (gh 0 out)) ((w.2.2.2.1) (gh 0 out)) row.toNat (I out 3).toInt.toNat t 1 (iI rd) ∧ (∀ j : Nat, (j : Int) < 4 * (I out 3).toInt → (w.2.2.2.1) (gh 32 0) j = AI (gh 32 0) j) ∧ arT ((w.2.2.2.1) (gh 32 0)) (I out 3).toInt.toNat = t)) ∧ ((w.2.2.2.1) (gh 30 0) = AI (gh 30 0) ∧ (w.2.2.2.1) (gh 31 0) = AI (gh 31 0)))) := sorry
def rmX3_goOnf : Room := { frames := 3, cells := 0, slots := 0, locals := 108 }
set_option maxHeartbeats 4000000 in
set_option maxRecDepth 100000 in
/-- what comes of one tuple -/
theorem c_X3_goOnf (l : Launch) (g : gG) (gh : gGh) (lc : LC) (my a9 : Nat) (Ps Qs : Tup → Prop) (Ms : Tup → Int32) (Tk : Tup) (I : gI) (R : gR) (J : gJ) (AI : gI) (AJ : gJ) (AR : gR) (a : Nat) (ln : Nat) (ar : Int) (inb : Nat) (out : Nat) (rd : Int) (zar : zr ar) (zrd : zr rd) (hv : gInv g gh R AR I AI) (ha : gO g a 3) (hln : gO g ln 0) (hinb : gO g inb 4) (hout : gO g out 4) (h4 : gh 2 out = 4) (hkd : (I ln 0).toInt = 8 ∨ (I ln 0).toInt = 0) (hlm : gh 1 out = 120) (h0 : 0 ≤ ar ∧ ar ≤ 119) (hlc : lnC (I ln) (AI (gh 3 ln)) lc) (hk8 : lc.1 0 = 8) (hro : rOK lc) (hne2 : inb ≠ out) (h6 : gh 2 inb = 4) (hny : (I inb 3).toInt = (my : Int)) (hTk : arT (AI (gh 32 0)) ar.toNat = Tk) (hrg : rgI (AI (gh 0 out)) (AI (gh 32 0)) (I out 3).toInt.toNat a9 Ps Qs Ms (iI rd)) (hkz : ∀ j : Nat, lc.1 4 ≤ (j : Int) → j < 5 → AI (gh 30 0) j = 0) (har : ar < (I out 3).toInt) : gMet l g yX3_goOn wsX3_goOn rmX3_goOnf [.ref a, .ref ln, .int (iI ar), .ref inb, .ref out, .int (iI rd)] (I, R, J, AI, AJ, AR) (gQi g (fun (z : Int) (w : gS) => R = w.2.1 ∧ J = w.2.2.1 ∧ AJ = w.2.2.2.2.1 ∧ AR = w.2.2.2.2.2 ∧ (gInv g gh R AR (w.1) (w.2.2.2.1)) ∧ (rF g I (w.1)) ∧ (-4 ≤ z ∧ z ≤ 0) ∧ (kI out I (w.1)) ∧ (kA gh out AI (w.2.2.2.1)) ∧ ((z = 0 ∧ rgI ((w.2.2.2.1) (gh 0 out)) ((w.2.2.2.1) (gh 32 0)) ((w.1) out 3).toInt.toNat a9 Ps (fun s => Qs s ∨ rGo lc (AI (gh 0 inb)) my Tk s) Ms (iI rd) ∧ (I out 3).toInt ≤ ((w.1) out 3).toInt ∧ (40 < rd → ((w.1) out 3).toInt = (I out 3).toInt)) ∨ (z = -3 ∧ rd ≤ 40 ∧ bigP 120 (fun s => Ps s ∨ Qs s ∨ rGo lc (AI (gh 0 inb)) my Tk s)) ∨ (z = -4 ∧ 40 < rd ∧ ∃ s, ¬ (Ps s ∨ Qs s) ∧ rGo lc (AI (gh 0 inb)) my Tk s)) ∧ ((∀ j : Nat, lc.1 4 ≤ (j : Int) → j < 5 → (w.2.2.2.1) (gh 30 0) j = 0) ∧ ∀ i : Nat, (i : Int) < 4 * (I out 3).toInt → (w.2.2.2.1) (gh 32 0) i = AI (gh 32 0) i))) := sorry

end

section
def rmX3_ringf : Room := { frames := 4, cells := 0, slots := 0, locals := 136 }
set_option maxHeartbeats 8000000 in
set_option maxRecDepth 100000 in
/-- a ring -/
theorem c_X3_ringf (l : Launch) (g : gG) (gh : gGh) (lc : LC) (n my : Nat) (I : gI) (R : gR) (J : gJ) (AI : gI) (AJ : gJ) (AR : gR) (a : Nat) (ln : Nat) (inr : Nat) (inb : Nat) (out : Nat) (hv : gInv g gh R AR I AI) (ha : gO g a 3) (hln : gO g ln 0) (hin : gO g inr 4) (hinb : gO g inb 4) (hout : gO g out 4) (h4 : gh 2 out = 4) (hkd : (I ln 0).toInt = 8 ∨ (I ln 0).toInt = 0) (hlm : gh 1 out = 120) (hlc : lnC (I ln) (AI (gh 3 ln)) lc) (hk8 : lc.1 0 = 8) (hro : rOK lc) (hne : inr ≠ out) (h5 : gh 2 inr = 4) (hnx : (I inr 3).toInt = (n : Int)) (hA : okB (AI (gh 0 inr)) n) (hne2 : inb ≠ out) (h6 : gh 2 inb = 4) (hny : (I inb 3).toInt = (my : Int)) (hB : okB (AI (gh 0 inb)) my) (zx : zB (lc.1 5) (AI (gh 0 inr)) n) (hl0 : (I out 3).toInt = 0) (hn9 : n ≤ 120) : gMet l g yX3_ring wsX3_ring rmX3_ringf [.ref a, .ref ln, .ref inr, .ref inb, .ref out] (I, R, J, AI, AJ, AR) (gQi g (fun (z : Int) (w : gS) => R = w.2.1 ∧ J = w.2.2.1 ∧ AJ = w.2.2.2.2.1 ∧ AR = w.2.2.2.2.2 ∧ (gInv g gh R AR (w.1) (w.2.2.2.1)) ∧ (rF g I (w.1)) ∧ (-4 ≤ z ∧ z ≤ 0) ∧ (kI out I (w.1)) ∧ (kA gh out AI (w.2.2.2.1)) ∧ (rgP lc (AI (gh 0 inr)) n (AI (gh 0 inb)) my z ((w.2.2.2.1) (gh 0 out)) ((w.1) out 3).toInt.toNat))) := sorry

end

section
def rmX3_reckonf : Room := { frames := 5, cells := 0, slots := 0, locals := 165 }
set_option maxHeartbeats 4000000 in
set_option maxRecDepth 100000 in
/-- a view of its relations -/
theorem c_X3_reckonf (l : Launch) (g : gG) (gh : gGh) (lc : LC) (r9 : Nat) (cl : Nat → Int) (I : gI) (R : gR) (J : gJ) (AI : gI) (AJ : gJ) (AR : gR) (a : Nat) (ln : Nat) (bags : Nat) (out : Nat) (hv : gInv g gh R AR I AI) (ha : gO g a 3) (hln : gO g ln 0) (hout : gO g out 4) (h4 : gh 2 out = 4) (hb : isRA g gh AR bags 16 120 4) (hlm : gh 1 out = 120) (hlc : lnC (I ln) (AI (gh 3 ln)) lc) (hcK : cOK lc r9 cl) (hr9 : r9 ≤ 16) (hbg : ∀ q, q < r9 → bgOK (rfC gh AR I AI bags) cl q) (hno : ∀ q, q < r9 → rob AR bags q ≠ out) : gMet l g yX3_reckon wsX3_reckon rmX3_reckonf [.ref a, .ref ln, .ref bags, .ref out] (I, R, J, AI, AJ, AR) (gQi g (fun (z : Int) (w : gS) => R = w.2.1 ∧ J = w.2.2.1 ∧ AJ = w.2.2.2.2.1 ∧ AR = w.2.2.2.2.2 ∧ (gInv g gh R AR (w.1) (w.2.2.2.1)) ∧ (rF g I (w.1)) ∧ (-4 ≤ z ∧ z ≤ 0) ∧ (kI out I (w.1)) ∧ (kA gh out AI (w.2.2.2.1)) ∧ (vwP lc (rfC gh AR I AI bags) z ((w.2.2.2.1) (gh 0 out)) ((w.1) out 3).toInt.toNat))) := sorry

end

section
def rmX6_fallsBelowZerof : Room := { frames := 3, cells := 0, slots := 0, locals := 83 }
set_option maxHeartbeats 4000000 in
set_option maxRecDepth 100000 in
/-- an amount below zero -/
theorem c_X6_fallsBelowZerof (l : Launch) (g : gG) (gh : gGh) (pA bA nA : Nat) (nb : Nat) (I : gI) (R : gR) (J : gJ) (AI : gI) (AJ : gJ) (AR : gR) (x : Nat) (ch : Nat) (sg : Int) (zsg : zr sg) (hv : gInv g gh R AR I AI) (hx : xS g gh R AR x pA bA nA) (hch : gO g ch 4) (h5 : gh 2 ch = 5) (hnb : (I ch 3).toInt = (nb : Int)) (hFb : ∀ i, i < nb → okB ((rfC gh AR I AI bA) ((AI (gh 0 ch)) (6 * i)).toInt.toNat).2 ((rfC gh AR I AI bA) ((AI (gh 0 ch)) (6 * i)).toInt.toNat).1) : gMet l g yX6_fallsBelowZero wsX6_fallsBelowZero rmX6_fallsBelowZerof [.ref x, .ref ch, .int (iI sg)] (I, R, J, AI, AJ, AR) (gQi g (fun (z : Int) (w : gS) => I = w.1 ∧ R = w.2.1 ∧ J = w.2.2.1 ∧ AJ = w.2.2.2.2.1 ∧ AR = w.2.2.2.2.2 ∧ (gInv g gh R AR I (w.2.2.2.1)) ∧ (z = 0 ∨ z = 1) ∧ (∀ b, b ≠ gh 29 0 → (w.2.2.2.1) b = AI b) ∧ (tIz z (∃ i, i < nb ∧ blw (AI (gh 0 ch)) (rfC gh AR I AI bA) sg i)))) := sorry
def rmX6_pickChangesf : Room := { frames := 2, cells := 0, slots := 0, locals := 84 }
set_option maxHeartbeats 4000000 in
set_option maxRecDepth 100000 in
/-- the changes of a table -/
theorem c_X6_pickChangesf (l : Launch) (g : gG) (gh : gGh) (pA bA nA : Nat) (nb : Nat) (I : gI) (R : gR) (J : gJ) (AI : gI) (AJ : gJ) (AR : gR) (x : Nat) (ch : Nat) (tb : Int) (ztb : zr tb) (hv : gInv g gh R AR I AI) (hx : xS g gh R AR x pA bA nA) (hch : gO g ch 4) (h5 : gh 2 ch = 5) (hnb : (I ch 3).toInt = (nb : Int)) (hbt : btO (AI (gh 0 ch)) nb) (hc39 : ch ≠ gh 39 0) (hc40 : gh 1 ch = 40) : gMet l g yX6_pickChanges wsX6_pickChanges rmX6_pickChangesf [.ref x, .ref ch, .int (iI tb)] (I, R, J, AI, AJ, AR) (gQv g (fun w : gS => R = w.2.1 ∧ J = w.2.2.1 ∧ AJ = w.2.2.2.2.1 ∧ AR = w.2.2.2.2.2 ∧ (gInv g gh R AR (w.1) (w.2.2.2.1)) ∧ (rF g I (w.1)) ∧ (∀ b, b ≠ gh 39 0 → (w.1) b = I b) ∧ (∀ b, b ≠ gh 0 (gh 39 0) → b ≠ gh 29 0 → (w.2.2.2.1) b = AI b) ∧ (isB ((w.2.2.2.1) (gh 0 (gh 39 0))) ((w.1) (gh 39 0) 3).toInt.toNat (fun t => cS (AI (gh 0 ch)) tb nb t) zM ∧ 0 ≤ ((w.1) (gh 39 0) 3).toInt))) := sorry

end

section
def rmX6_reckonNextf : Room := { frames := 6, cells := 0, slots := 0, locals := 190 }
set_option maxHeartbeats 4000000 in
set_option maxRecDepth 100000 in
/-- all relations as they were behind the changes -/
theorem c_X6_reckonNextf (l : Launch) (g : gG) (gh : gGh) (pA bA nA : Nat) (nb nr : Nat) (cc : Nat → LC) (cl : Nat → Int) (I : gI) (R : gR) (J : gJ) (AI : gI) (AJ : gJ) (AR : gR) (x : Nat) (ch : Nat) (sg : Int) (zsg : zr sg) (hv : gInv g gh R AR I AI) (hx : xS g gh R AR x pA bA nA) (hch : gO g ch 4) (h5 : gh 2 ch = 5) (hnb : (I ch 3).toInt = (nb : Int)) (hbt : btO (AI (gh 0 ch)) nb) (hc39 : ch ≠ gh 39 0) (hc40 : gh 1 ch = 40) (hlen : (I pA 1).toInt = (nr : Int)) (htb2 : 0 ≤ (I pA 2).toInt ∧ (I pA 2).toInt ≤ (nr : Int) ∧ nr ≤ 16) (hln : ∀ r, r < nr → lnC (I (rob AR (gh 6 pA) r)) (AI (gh 3 (rob AR (gh 6 pA) r))) (cc r)) (hcK : ∀ r : Nat, r < nr → (I pA 2).toInt ≤ (r : Int) → cOK (cc r) r cl ∧ cZ (cc r) r cl) (hbg : ∀ r, r < nr → bgOK (rfC gh AR I AI bA) cl r) (hbz : btZ cl (AI (gh 0 ch)) nb) (htb : ∀ i, i < nb → 0 ≤ ((AI (gh 0 ch)) (6 * i)).toInt ∧ ((AI (gh 0 ch)) (6 * i)).toInt < (I pA 2).toInt) (hDn : rsD AR nA 16) (hDx : rsX AR bA 16 nA 16) (hchn : ∀ r, r < 16 → rob AR nA r ≠ ch) : gMet l g yX6_reckonNext wsX6_reckonNext rmX6_reckonNextf [.ref x, .ref ch, .int (iI sg)] (I, R, J, AI, AJ, AR) (gQi g (fun (z : Int) (w : gS) => R = w.2.1 ∧ J = w.2.2.1 ∧ AJ = w.2.2.2.2.1 ∧ AR = w.2.2.2.2.2 ∧ (gInv g gh R AR (w.1) (w.2.2.2.1)) ∧ (rF g I (w.1)) ∧ (-4 ≤ z ∧ z ≤ 0) ∧ (nIf gh AR nA I (w.1)) ∧ (nAf gh AR nA AI (w.2.2.2.1)) ∧ (rnP (I pA 2).toInt nr cc (∃ i, i < nb ∧ blw (AI (gh 0 ch)) (rfC gh AR I AI bA) sg i) (tbS (AI (gh 0 ch)) nb (rfC gh AR I AI bA) sg) z (rfC gh AR (w.1) (w.2.2.2.1) nA)) ∧ (z = 0 → stA (I pA 2).toInt cc (tbS (AI (gh 0 ch)) nb (rfC gh AR I AI bA) sg) cl (rfC gh AR (w.1) (w.2.2.2.1) nA) nr))) := sorry

end

section
def rmX6_takeNextf : Room := { frames := 3, cells := 0, slots := 0, locals := 113 }
set_option maxHeartbeats 4000000 in
set_option maxRecDepth 100000 in
/-- takes the next bags -/
theorem c_X6_takeNextf (l : Launch) (g : gG) (gh : gGh) (pA bA nA : Nat) (nr : Nat) (cl : Nat → Int) (I : gI) (R : gR) (J : gJ) (AI : gI) (AJ : gJ) (AR : gR) (x : Nat) (hv : gInv g gh R AR I AI) (hx : xS g gh R AR x pA bA nA) (hlen : (I pA 1).toInt = (nr : Int)) (hnr : nr ≤ 16) (hbg : ∀ r, r < nr → bgOK (rfC gh AR I AI bA) cl r) (hbn : ∀ r, r < nr → bgOK (rfC gh AR I AI nA) cl r) (hDm : rsD AR (gh 35 0) 16) : gMet l g yX6_takeNext wsX6_takeNext rmX6_takeNextf [.ref x] (I, R, J, AI, AJ, AR) (gQv g (fun w : gS => J = w.2.2.1 ∧ AJ = w.2.2.2.2.1 ∧ AR = w.2.2.2.2.2 ∧ (gInv g gh (w.2.1) AR (w.1) (w.2.2.2.1)) ∧ (rF g I (w.1)) ∧ (xS g gh (w.2.1) AR x pA nA bA) ∧ (∀ b k, b ≠ x ∨ (k ≠ 5 ∧ k ≠ 6) → (w.2.1) b k = R b k) ∧ (∀ b, (∀ r, r < 16 → rob AR (gh 35 0) r ≠ b) → (w.1) b = I b) ∧ (∀ b, (∀ r, r < 16 → gh 0 (rob AR (gh 35 0) r) ≠ b) → (w.2.2.2.1) b = AI b) ∧ (∀ r, r < nr → mvQ gh AR I AI bA nA (w.1) (w.2.2.2.1) r))) := sorry

end

section
def rmX6_rememberf : Room := { frames := 2, cells := 0, slots := 0, locals := 81 }
set_option maxHeartbeats 4000000 in
set_option maxRecDepth 100000 in
/-- remembers a batch -/
theorem c_X6_rememberf (l : Launch) (g : gG) (gh : gGh) (pA bA nA : Nat) (nb : Nat) (I : gI) (R : gR) (J : gJ) (AI : gI) (AJ : gJ) (AR : gR) (x : Nat) (ch : Nat) (hv : gInv g gh R AR I AI) (hx : xS g gh R AR x pA bA nA) (hch : gO g ch 4) (h5 : gh 2 ch = 5) (hnb : (I ch 3).toInt = (nb : Int)) (hnb4 : nb ≤ 40) : gMet l g yX6_remember wsX6_remember rmX6_rememberf [.ref x, .ref ch] (I, R, J, AI, AJ, AR) (gQv g (fun w : gS => R = w.2.1 ∧ J = w.2.2.1 ∧ AJ = w.2.2.2.2.1 ∧ AR = w.2.2.2.2.2 ∧ (gInv g gh R AR (w.1) (w.2.2.2.1)) ∧ (xF g x I (w.1)) ∧ (∀ b j, b ≠ x ∨ (j ≠ 14 ∧ j ≠ 15) → b ≠ rob AR (gh 36 0) (I x 14).toInt.toNat → (w.1) b j = I b j) ∧ (∀ b, b ≠ gh 0 (rob AR (gh 36 0) (I x 14).toInt.toNat) → (w.2.2.2.1) b = AI b) ∧ (((w.1) x 14).toInt = ((I x 14).toInt + 1) % 8 ∧ ((I x 15).toInt < 8 → ((w.1) x 15).toInt = (I x 15).toInt + 1) ∧ ((I x 15).toInt = 8 → ((w.1) x 15).toInt = 8)) ∧ (((w.1) (rob AR (gh 36 0) (I x 14).toInt.toNat) 3).toInt = (nb : Int) ∧ rwA ((w.2.2.2.1) (gh 0 (rob AR (gh 36 0) (I x 14).toInt.toNat))) (AI (gh 0 ch)) nb))) := sorry

end

section
def rmX6_movedInViewsf : Room := { frames := 0, cells := 0, slots := 0, locals := 0 }
set_option maxHeartbeats 4000000 in
set_option maxRecDepth 100000 in
/-- what moved in views -/
theorem c_X6_movedInViewsf (l : Launch) (g : gG) (gh : gGh) (pA bA nA : Nat) (nr : Nat) (I : gI) (R : gR) (J : gJ) (AI : gI) (AJ : gJ) (AR : gR) (x : Nat) (hv : gInv g gh R AR I AI) (hx : xS g gh R AR x pA bA nA) (hlen : (I pA 1).toInt = (nr : Int)) (htb2 : 0 ≤ (I pA 2).toInt ∧ (I pA 2).toInt ≤ (nr : Int) ∧ nr ≤ 16) : gMet l g yX6_movedInViews wsX6_movedInViews rmX6_movedInViewsf [.ref x] (I, R, J, AI, AJ, AR) (gQi g (fun (z : Int) (w : gS) => I = w.1 ∧ R = w.2.1 ∧ J = w.2.2.1 ∧ AI = w.2.2.2.1 ∧ AJ = w.2.2.2.2.1 ∧ AR = w.2.2.2.2.2 ∧ (0 ≤ z ∧ z ≤ 3840) ∧ (z = smL (lnR AR I (gh 35 0)) (I pA 2).toInt.toNat (nr - (I pA 2).toInt.toNat)))) := sorry

end

section
def rmX6_isRelationf : Room := { frames := 0, cells := 0, slots := 0, locals := 0 }
set_option maxHeartbeats 4000000 in
set_option maxRecDepth 100000 in
/-- a relation -/
theorem c_X6_isRelationf (l : Launch) (g : gG) (gh : gGh) (pA bA nA : Nat) (I : gI) (R : gR) (J : gJ) (AI : gI) (AJ : gJ) (AR : gR) (x : Nat) (rel : Int) (zrel : zr rel) (hv : gInv g gh R AR I AI) (hx : xS g gh R AR x pA bA nA) : gMet l g yX6_isRelation wsX6_isRelation rmX6_isRelationf [.ref x, .int (iI rel)] (I, R, J, AI, AJ, AR) (gQi g (fun (z : Int) (w : gS) => I = w.1 ∧ R = w.2.1 ∧ J = w.2.2.1 ∧ AI = w.2.2.2.1 ∧ AJ = w.2.2.2.2.1 ∧ AR = w.2.2.2.2.2 ∧ ((z = 0 ∨ z = 1) ∧ (z = 1 → 0 ≤ rel ∧ rel < (I pA 1).toInt ∧ rel ≤ 15)) ∧ (z = 0 → rel < 0 ∨ (I pA 1).toInt ≤ rel))) := sorry

end

section
/-- what an undone batch leaves -/
def cmU (gh : gGh) (AR : gR) (x bA nA nr : Nat) (I AI : gI) (Fn : RF) (I' AI' : gI) : Prop :=
  (∀ r, r < nr → rfC gh AR I' AI' nA r = Fn r) ∧ (∀ r, r < nr → isB (rfC gh AR I' AI' (gh 35 0) r).2 (rfC gh AR I' AI' (gh 35 0) r).1 (fun t => bS (Fn r).2 (Fn r).1 t + iI (-1) * bS (rfC gh AR I AI bA r).2 (rfC gh AR I AI bA r).1 t) zM) ∧
  (∀ k, k < 8 → rfC gh AR I' AI' (gh 36 0) k = rfC gh AR I AI (gh 36 0) k) ∧ ((I' x 14).toInt = ((I x 14).toInt + 7) % 8 ∧ (I' x 15).toInt = (I x 15).toInt - 1 ∧ I' x 16 = I x 16 ∧ I' x 17 = I x 17) ∧
  I' (gh 37 0) = I (gh 37 0) ∧ AI' (gh 0 (gh 37 0)) = AI (gh 0 (gh 37 0)) ∧ I' (gh 38 0) = I (gh 38 0)
section Undo
variable {g : gG} {gh : gGh} {R AR : gR} {I I0 I1 I2 AI AI1 AI2 Iq AIq : gI} {x pA bA nA nr r : Nat}
theorem gl_o (hv : gInv g gh R AR Iq AIq) (hp : gO g pA 2) (hr : r < 16) : gO g (rob AR (gh 6 pA) r) 0 := sorry
theorem un_x (hv : gInv g gh R AR Iq AIq) (hx : xS g gh R AR x pA bA nA) (fN : nIf gh AR nA I0 I1) (t1 : ∀ b, (∀ r, r < 16 → rob AR (gh 35 0) r ≠ b) → I2 b = I1 b) : I2 x = I0 x := sorry
theorem un_15 (hv : gInv g gh R AR Iq AIq) (hx : xS g gh R AR x pA bA nA) (fN : nIf gh AR nA I0 I1) (t1 : ∀ b, (∀ r, r < 16 → rob AR (gh 35 0) r ≠ b) → I2 b = I1 b) : (I2 x 15).toInt = (I0 x 15).toInt := sorry
theorem un_yes (hv : gInv g gh R AR Iq AIq) (hx : xS g gh R AR x pA bA nA) (hD : xD gh AR bA nA) (hn : nr ≤ 16) (wx : ∀ b j, b ≠ x ∨ (j ≠ 14 ∧ j ≠ 15) → I0 b j = I b j) (w14 : (I0 x 14).toInt = ((I x 14).toInt + 7) % 8) (w15 : (I0 x 15).toInt = (I x 15).toInt - 1) (fN : nIf gh AR nA I0 I1) (fM : nAf gh AR nA AI AI1)
    (t1 : ∀ b, (∀ r, r < 16 → rob AR (gh 35 0) r ≠ b) → I2 b = I1 b) (t2 : ∀ b, (∀ r, r < 16 → gh 0 (rob AR (gh 35 0) r) ≠ b) → AI2 b = AI1 b) (t3 : ∀ r, r < nr → mvQ gh AR I1 AI1 bA nA I2 AI2 r) : cmU gh AR x bA nA nr I AI (rfC gh AR I1 AI1 nA) I2 AI2 := sorry
end Undo
section CmS1
variable {g : gG} {gh : gGh} {R AR : gR} {I I1 I2 AI AI1 AI2 Iq AIq : gI} {x pA bA nA : Nat}
theorem cmS_1 (hv : gInv g gh R AR Iq AIq) (hx : xS g gh R AR x pA bA nA) (hD : xD gh AR bA nA) (h : cmS gh AR x bA I AI I1 AI1) (fi : ∀ b, b ≠ gh 40 0 → I2 b = I1 b) (fa : ∀ b, b ≠ gh 0 (gh 40 0) → AI2 b = AI1 b) : cmS gh AR x bA I AI I2 AI2 := sorry
end CmS1


end

section
def rmX6_sizef : Room := { frames := 1, cells := 0, slots := 0, locals := 21 }
set_option maxHeartbeats 4000000 in
set_option maxRecDepth 100000 in
/-- size -/
theorem c_X6_sizef (l : Launch) (g : gG) (gh : gGh) (pA bA nA : Nat) (nr : Nat) (I : gI) (R : gR) (J : gJ) (AI : gI) (AJ : gJ) (AR : gR) (x : Nat) (rel : Int) (zrel : zr rel) (hv : gInv g gh R AR I AI) (hx : xS g gh R AR x pA bA nA) (hlen : (I pA 1).toInt = (nr : Int)) : gMet l g yX6_size wsX6_size rmX6_sizef [.ref x, .int (iI rel)] (I, R, J, AI, AJ, AR) (gQi g (fun (z : Int) (w : gS) => I = w.1 ∧ R = w.2.1 ∧ J = w.2.2.1 ∧ AI = w.2.2.2.1 ∧ AJ = w.2.2.2.2.1 ∧ AR = w.2.2.2.2.2 ∧ (((rel < 0 ∨ (nr : Int) ≤ rel) ∧ z = -1) ∨ ((0 ≤ rel ∧ rel < (nr : Int)) ∧ z = (((rfC gh AR I AI bA rel.toNat).1 : Nat) : Int))))) := sorry
def rmX6_movedf : Room := { frames := 1, cells := 0, slots := 0, locals := 21 }
set_option maxHeartbeats 4000000 in
set_option maxRecDepth 100000 in
/-- moved -/
theorem c_X6_movedf (l : Launch) (g : gG) (gh : gGh) (pA bA nA : Nat) (nr : Nat) (I : gI) (R : gR) (J : gJ) (AI : gI) (AJ : gJ) (AR : gR) (x : Nat) (rel : Int) (zrel : zr rel) (hv : gInv g gh R AR I AI) (hx : xS g gh R AR x pA bA nA) (hlen : (I pA 1).toInt = (nr : Int)) : gMet l g yX6_moved wsX6_moved rmX6_movedf [.ref x, .int (iI rel)] (I, R, J, AI, AJ, AR) (gQi g (fun (z : Int) (w : gS) => I = w.1 ∧ R = w.2.1 ∧ J = w.2.2.1 ∧ AI = w.2.2.2.1 ∧ AJ = w.2.2.2.2.1 ∧ AR = w.2.2.2.2.2 ∧ (((rel < 0 ∨ (nr : Int) ≤ rel) ∧ z = -1) ∨ ((0 ≤ rel ∧ rel < (nr : Int)) ∧ z = (((rfC gh AR I AI (gh 35 0) rel.toNat).1 : Nat) : Int))))) := sorry

end

section
def rmX6_cameTof : Room := { frames := 0, cells := 0, slots := 0, locals := 0 }
set_option maxHeartbeats 4000000 in
set_option maxRecDepth 100000 in
/-- what came to a line -/
theorem c_X6_cameTof (l : Launch) (g : gG) (gh : gGh) (pA bA nA : Nat) (I : gI) (R : gR) (J : gJ) (AI : gI) (AJ : gJ) (AR : gR) (x : Nat) (ln : Nat) (hv : gInv g gh R AR I AI) (hx : xS g gh R AR x pA bA nA) (hln : gO g ln 0) : gMet l g yX6_cameTo wsX6_cameTo rmX6_cameTof [.ref x, .ref ln] (I, R, J, AI, AJ, AR) (gQi g (fun (z : Int) (w : gS) => I = w.1 ∧ R = w.2.1 ∧ J = w.2.2.1 ∧ AI = w.2.2.2.1 ∧ AJ = w.2.2.2.2.1 ∧ AR = w.2.2.2.2.2 ∧ (0 ≤ z ∧ z ≤ 480) ∧ (z = (if (I ln 3).toInt = -1 then 0 else (((rfC gh AR I AI (gh 35 0) (I ln 3).toInt.toNat).1 : Nat) : Int)) + (if (I ln 4).toInt = -1 then 0 else (((rfC gh AR I AI (gh 35 0) (I ln 4).toInt.toNat).1 : Nat) : Int))))) := sorry
def rmX6_camef : Room := { frames := 1, cells := 0, slots := 0, locals := 22 }
set_option maxHeartbeats 4000000 in
set_option maxRecDepth 100000 in
/-- came -/
theorem c_X6_camef (l : Launch) (g : gG) (gh : gGh) (pA bA nA : Nat) (nr : Nat) (cc : Nat → LC) (I : gI) (R : gR) (J : gJ) (AI : gI) (AJ : gJ) (AR : gR) (x : Nat) (rel : Int) (zrel : zr rel) (hv : gInv g gh R AR I AI) (hx : xS g gh R AR x pA bA nA) (hlen : (I pA 1).toInt = (nr : Int)) (htb2 : 0 ≤ (I pA 2).toInt ∧ (I pA 2).toInt ≤ (nr : Int) ∧ nr ≤ 16) (hln : ∀ r, r < nr → lnC (I (rob AR (gh 6 pA) r)) (AI (gh 3 (rob AR (gh 6 pA) r))) (cc r)) : gMet l g yX6_came wsX6_came rmX6_camef [.ref x, .int (iI rel)] (I, R, J, AI, AJ, AR) (gQi g (fun (z : Int) (w : gS) => I = w.1 ∧ R = w.2.1 ∧ J = w.2.2.1 ∧ AI = w.2.2.2.1 ∧ AJ = w.2.2.2.2.1 ∧ AR = w.2.2.2.2.2 ∧ ((((rel < 0 ∨ (nr : Int) ≤ rel) ∨ rel < (I pA 2).toInt) ∧ z = -1) ∨ ((0 ≤ rel ∧ rel < (nr : Int)) ∧ (I pA 2).toInt ≤ rel ∧ z = (if (cc rel.toNat).1 2 = -1 then (0 : Int) else (((rfC gh AR I AI (gh 35 0) ((cc rel.toNat).1 2).toNat).1 : Nat) : Int)) + (if (cc rel.toNat).1 3 = -1 then 0 else (((rfC gh AR I AI (gh 35 0) ((cc rel.toNat).1 3).toNat).1 : Nat) : Int)))))) := sorry
def rmX6_tuplesOfViewsf : Room := { frames := 0, cells := 0, slots := 0, locals := 0 }
set_option maxHeartbeats 4000000 in
set_option maxRecDepth 100000 in
/-- the tuples of views -/
theorem c_X6_tuplesOfViewsf (l : Launch) (g : gG) (gh : gGh) (pA bA nA : Nat) (nr : Nat) (I : gI) (R : gR) (J : gJ) (AI : gI) (AJ : gJ) (AR : gR) (x : Nat) (hv : gInv g gh R AR I AI) (hx : xS g gh R AR x pA bA nA) (hlen : (I pA 1).toInt = (nr : Int)) (htb2 : 0 ≤ (I pA 2).toInt ∧ (I pA 2).toInt ≤ (nr : Int) ∧ nr ≤ 16) : gMet l g yX6_tuplesOfViews wsX6_tuplesOfViews rmX6_tuplesOfViewsf [.ref x] (I, R, J, AI, AJ, AR) (gQi g (fun (z : Int) (w : gS) => I = w.1 ∧ R = w.2.1 ∧ J = w.2.2.1 ∧ AI = w.2.2.2.1 ∧ AJ = w.2.2.2.2.1 ∧ AR = w.2.2.2.2.2 ∧ (0 ≤ z ∧ z ≤ 3840) ∧ (z = smL (fun r : Nat => (((rfC gh AR I AI bA r).1 : Nat) : Int)) (I pA 2).toInt.toNat (nr - (I pA 2).toInt.toNat)))) := sorry
def rmX6_cameToViewsf : Room := { frames := 1, cells := 0, slots := 0, locals := 22 }
set_option maxHeartbeats 4000000 in
set_option maxRecDepth 100000 in
/-- what came to views -/
theorem c_X6_cameToViewsf (l : Launch) (g : gG) (gh : gGh) (pA bA nA : Nat) (nr : Nat) (cc : Nat → LC) (I : gI) (R : gR) (J : gJ) (AI : gI) (AJ : gJ) (AR : gR) (x : Nat) (hv : gInv g gh R AR I AI) (hx : xS g gh R AR x pA bA nA) (hlen : (I pA 1).toInt = (nr : Int)) (htb2 : 0 ≤ (I pA 2).toInt ∧ (I pA 2).toInt ≤ (nr : Int) ∧ nr ≤ 16) (hln : ∀ r, r < nr → lnC (I (rob AR (gh 6 pA) r)) (AI (gh 3 (rob AR (gh 6 pA) r))) (cc r)) : gMet l g yX6_cameToViews wsX6_cameToViews rmX6_cameToViewsf [.ref x] (I, R, J, AI, AJ, AR) (gQi g (fun (z : Int) (w : gS) => I = w.1 ∧ R = w.2.1 ∧ J = w.2.2.1 ∧ AI = w.2.2.2.1 ∧ AJ = w.2.2.2.2.1 ∧ AR = w.2.2.2.2.2 ∧ (0 ≤ z ∧ z ≤ 7680) ∧ (z = smL (fun r : Nat => (if (cc r).1 2 = -1 then (0 : Int) else (((rfC gh AR I AI (gh 35 0) ((cc r).1 2).toNat).1 : Nat) : Int)) + (if (cc r).1 3 = -1 then 0 else (((rfC gh AR I AI (gh 35 0) ((cc r).1 3).toNat).1 : Nat) : Int))) (I pA 2).toInt.toNat (nr - (I pA 2).toInt.toNat)))) := sorry

end

section
def rmX6_toldf : Room := { frames := 2, cells := 0, slots := 0, locals := 44 }
set_option maxHeartbeats 4000000 in
set_option maxRecDepth 100000 in
/-- told -/
theorem c_X6_toldf (l : Launch) (g : gG) (gh : gGh) (pA bA nA : Nat) (nr : Nat) (cc : Nat → LC) (I : gI) (R : gR) (J : gJ) (AI : gI) (AJ : gJ) (AR : gR) (x : Nat) (wh : Int) (zwh : zr wh) (hv : gInv g gh R AR I AI) (hx : xS g gh R AR x pA bA nA) (hlen : (I pA 1).toInt = (nr : Int)) (htb2 : 0 ≤ (I pA 2).toInt ∧ (I pA 2).toInt ≤ (nr : Int) ∧ nr ≤ 16) (hln : ∀ r, r < nr → lnC (I (rob AR (gh 6 pA) r)) (AI (gh 3 (rob AR (gh 6 pA) r))) (cc r)) : gMet l g yX6_told wsX6_told rmX6_toldf [.ref x, .int (iI wh)] (I, R, J, AI, AJ, AR) (gQi g (fun (z : Int) (w : gS) => I = w.1 ∧ R = w.2.1 ∧ J = w.2.2.1 ∧ AI = w.2.2.2.1 ∧ AJ = w.2.2.2.2.1 ∧ AR = w.2.2.2.2.2 ∧ ((wh = 0 ∧ z = (I pA 2).toInt) ∨ (wh = 1 ∧ z = (nr : Int) - (I pA 2).toInt) ∨ (wh = 2 ∧ iI z = I x 16) ∨ (wh = 3 ∧ iI z = I x 17) ∨ (wh = 4 ∧ z = (I x 15).toInt) ∨ (wh = 5 ∧ z = (I (gh 37 0) 3).toInt) ∨ (wh = 6 ∧ z = smL (fun r : Nat => (((rfC gh AR I AI bA r).1 : Nat) : Int)) (I pA 2).toInt.toNat (nr - (I pA 2).toInt.toNat)) ∨ (wh = 7 ∧ z = smL (lnR AR I (gh 35 0)) (I pA 2).toInt.toNat (nr - (I pA 2).toInt.toNat)) ∨ (wh = 8 ∧ z = smL (fun r : Nat => (if (cc r).1 2 = -1 then (0 : Int) else (((rfC gh AR I AI (gh 35 0) ((cc r).1 2).toNat).1 : Nat) : Int)) + (if (cc r).1 3 = -1 then 0 else (((rfC gh AR I AI (gh 35 0) ((cc r).1 3).toNat).1 : Nat) : Int))) (I pA 2).toInt.toNat (nr - (I pA 2).toInt.toNat)) ∨ (wh = 9 ∧ z = (I x 1).toInt) ∨ ((wh < 0 ∨ 9 < wh) ∧ z = -1)))) := sorry

end

section
def rmX6_setKeyf : Room := { frames := 0, cells := 0, slots := 0, locals := 0 }
set_option maxHeartbeats 4000000 in
set_option maxRecDepth 100000 in
/-- a key -/
theorem c_X6_setKeyf (l : Launch) (g : gG) (gh : gGh) (pA bA nA : Nat) (I : gI) (R : gR) (J : gJ) (AI : gI) (AJ : gJ) (AR : gR) (x : Nat) (cols : Int) (ca : Int) (cb : Int) (c3 : Int) (c4 : Int) (zcols : zr cols) (zca : zr ca) (zcb : zr cb) (zc3 : zr c3) (zc4 : zr c4) (hv : gInv g gh R AR I AI) (hx : xS g gh R AR x pA bA nA) : gMet l g yX6_setKey wsX6_setKey rmX6_setKeyf [.ref x, .int (iI cols), .int (iI ca), .int (iI cb), .int (iI c3), .int (iI c4)] (I, R, J, AI, AJ, AR) (gQv g (fun w : gS => I = w.1 ∧ R = w.2.1 ∧ J = w.2.2.1 ∧ AJ = w.2.2.2.2.1 ∧ AR = w.2.2.2.2.2 ∧ (gInv g gh R AR I (w.2.2.2.1)) ∧ (∀ b, b ≠ gh 29 0 → (w.2.2.2.1) b = AI b) ∧ (∀ j, j < 4 → (w.2.2.2.1) (gh 29 0) j = tg (kyT cols ca cb c3 c4) j))) := sorry
def rmX6_isRingf : Room := { frames := 1, cells := 0, slots := 0, locals := 21 }
set_option maxHeartbeats 4000000 in
set_option maxRecDepth 100000 in
/-- a ring -/
theorem c_X6_isRingf (l : Launch) (g : gG) (gh : gGh) (pA bA nA : Nat) (nr : Nat) (cc : Nat → LC) (I : gI) (R : gR) (J : gJ) (AI : gI) (AJ : gJ) (AR : gR) (x : Nat) (rel : Int) (zrel : zr rel) (hv : gInv g gh R AR I AI) (hx : xS g gh R AR x pA bA nA) (hlen : (I pA 1).toInt = (nr : Int)) (hln : ∀ r, r < nr → lnC (I (rob AR (gh 6 pA) r)) (AI (gh 3 (rob AR (gh 6 pA) r))) (cc r)) : gMet l g yX6_isRing wsX6_isRing rmX6_isRingf [.ref x, .int (iI rel)] (I, R, J, AI, AJ, AR) (gQi g (fun (z : Int) (w : gS) => I = w.1 ∧ R = w.2.1 ∧ J = w.2.2.1 ∧ AI = w.2.2.2.1 ∧ AJ = w.2.2.2.2.1 ∧ AR = w.2.2.2.2.2 ∧ ((z = 0 ∨ z = 1) ∧ (z = 1 → 0 ≤ rel ∧ rel < (I pA 1).toInt ∧ rel ≤ 15)) ∧ (tIz z ((0 ≤ rel ∧ rel < (nr : Int)) ∧ (cc rel.toNat).1 0 = 8)))) := sorry

end
