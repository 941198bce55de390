section
def rmX7_endg : Room := { frames := 1, cells := 0, slots := 0, locals := 22 }
set_option maxHeartbeats 4000000 in
set_option maxRecDepth 100000 in
/-- cuts the tape -/
theorem c_X7_endg (l : Launch) (g : gG) (gh : gGh) (T : Nat → Int32) (I : gI) (R : gR) (J : gJ) (AI : gI) (AJ : gJ) (AR : gR) (mo : Nat) (n : Int) (zn : zr n) (hv : mInv g gh R I AI) (hm : gO g mo 7) (hT : AI (gh 50 0) = T) : gMet l g yX7_end tsX7_end rmX7_endg [.ref mo, .int (iI n)] (I, R, J, AI, AJ, AR) (gQi g (fun (z : Int) (w : gS) => R = w.2.1 ∧ J = w.2.2.1 ∧ AI = w.2.2.2.1 ∧ AJ = w.2.2.2.2.1 ∧ AR = w.2.2.2.2.2 ∧ (mInv g gh R (w.1) AI) ∧ (((w.1) mo 2).toInt = (I mo 2).toInt ∧ ((w.1) mo 14).toInt = (I mo 14).toInt) ∧ (((n < 0 ∨ (I mo 16).toInt < n) ∧ z = -1 ∧ ((w.1) mo 16).toInt = (I mo 16).toInt) ∨ (0 ≤ n ∧ n ≤ (I mo 16).toInt ∧ z = n ∧ ((w.1) mo 16).toInt = n)) ∧ ((w.1) mo 8 = I mo 8 ∧ (w.1) mo 9 = I mo 9 ∧ (w.1) mo 10 = I mo 10))) := sorry
def rmX7_pendingg : Room := { frames := 1, cells := 0, slots := 0, locals := 22 }
set_option maxHeartbeats 4000000 in
set_option maxRecDepth 100000 in
/-- pending -/
theorem c_X7_pendingg (l : Launch) (g : gG) (gh : gGh) (T : Nat → Int32) (I : gI) (R : gR) (J : gJ) (AI : gI) (AJ : gJ) (AR : gR) (mo : Nat) (ip : Int) (wh : Int) (zip : zr ip) (zwh : zr wh) (hv : mInv g gh R I AI) (hm : gO g mo 7) (hT : AI (gh 50 0) = T) : gMet l g yX7_pending tsX7_pending rmX7_pendingg [.ref mo, .int (iI ip), .int (iI wh)] (I, R, J, AI, AJ, AR) (gQi g (fun (z : Int) (w : gS) => R = w.2.1 ∧ J = w.2.2.1 ∧ AI = w.2.2.2.1 ∧ AJ = w.2.2.2.2.1 ∧ AR = w.2.2.2.2.2 ∧ (mInv g gh R (w.1) AI) ∧ (nF mo I (w.1)) ∧ ((w.1) mo 8 = I mo 8 ∧ (w.1) mo 9 = I mo 9 ∧ (w.1) mo 10 = I mo 10))) := sorry
def rmX7_cancelg : Room := { frames := 0, cells := 0, slots := 0, locals := 0 }
set_option maxHeartbeats 4000000 in
set_option maxRecDepth 100000 in
/-- cancel -/
theorem c_X7_cancelg (l : Launch) (g : gG) (gh : gGh) (T : Nat → Int32) (I : gI) (R : gR) (J : gJ) (AI : gI) (AJ : gJ) (AR : gR) (mo : Nat) (hv : mInv g gh R I AI) (hm : gO g mo 7) (hT : AI (gh 50 0) = T) : gMet l g yX7_cancel tsX7_cancel rmX7_cancelg [.ref mo] (I, R, J, AI, AJ, AR) (gQi g (fun (z : Int) (w : gS) => R = w.2.1 ∧ J = w.2.2.1 ∧ AI = w.2.2.2.1 ∧ AJ = w.2.2.2.2.1 ∧ AR = w.2.2.2.2.2 ∧ (mInv g gh R (w.1) AI) ∧ (mF mo I (w.1)) ∧ (z = (I mo 14).toInt) ∧ (((w.1) mo 14).toInt = 0) ∧ ((w.1) mo 8 = I mo 8 ∧ (w.1) mo 9 = I mo 9 ∧ (w.1) mo 10 = I mo 10))) := sorry
def rmX7_sizeg : Room := { frames := 2, cells := 0, slots := 0, locals := 43 }
set_option maxHeartbeats 4000000 in
set_option maxRecDepth 100000 in
/-- size -/
theorem c_X7_sizeg (l : Launch) (g : gG) (gh : gGh) (T : Nat → Int32) (nr : Nat) (I : gI) (R : gR) (J : gJ) (AI : gI) (AJ : gJ) (AR : gR) (mo : Nat) (rr : Int) (zrr : zr rr) (hv : mInv g gh R I AI) (hm : gO g mo 7) (hT : AI (gh 50 0) = T) (hmr : (I mo 2).toInt = (nr : Int)) : gMet l g yX7_size tsX7_size rmX7_sizeg [.ref mo, .int (iI rr)] (I, R, J, AI, AJ, AR) (gQi g (fun (z : Int) (w : gS) => R = w.2.1 ∧ J = w.2.2.1 ∧ AI = w.2.2.2.1 ∧ AJ = w.2.2.2.2.1 ∧ AR = w.2.2.2.2.2 ∧ (mInv g gh R (w.1) AI) ∧ (nF mo I (w.1)) ∧ (((rr < 0 ∨ (nr : Int) ≤ rr) ∧ z = -1) ∨ ((0 ≤ rr ∧ rr < (nr : Int)) ∧ z = (((rfM gh AI 0 rr.toNat).1 : Nat) : Int))) ∧ ((w.1) mo 8 = I mo 8 ∧ (w.1) mo 9 = I mo 9 ∧ (w.1) mo 10 = I mo 10))) := sorry
def rmX7_atg : Room := { frames := 3, cells := 0, slots := 0, locals := 65 }
set_option maxHeartbeats 4000000 in
set_option maxRecDepth 100000 in
/-- at -/
theorem c_X7_atg (l : Launch) (g : gG) (gh : gGh) (T : Nat → Int32) (nr : Nat) (I : gI) (R : gR) (J : gJ) (AI : gI) (AJ : gJ) (AR : gR) (mo : Nat) (rr : Int) (ip : Int) (wh : Int) (zrr : zr rr) (zip : zr ip) (zwh : zr wh) (hv : mInv g gh R I AI) (hm : gO g mo 7) (hT : AI (gh 50 0) = T) (hmr : (I mo 2).toInt = (nr : Int)) : gMet l g yX7_at tsX7_at rmX7_atg [.ref mo, .int (iI rr), .int (iI ip), .int (iI wh)] (I, R, J, AI, AJ, AR) (gQi g (fun (z : Int) (w : gS) => R = w.2.1 ∧ J = w.2.2.1 ∧ AI = w.2.2.2.1 ∧ AJ = w.2.2.2.2.1 ∧ AR = w.2.2.2.2.2 ∧ (mInv g gh R (w.1) AI) ∧ (nF mo I (w.1)) ∧ ((((w.1) mo 17).toInt = 1 ∧ z = 0 ∧ ¬ (tdM T nr rr wh ∧ 0 ≤ ip ∧ ip < (((rfM gh AI 0 rr.toNat).1 : Nat) : Int))) ∨ (((w.1) mo 17).toInt = 0 ∧ (tdM T nr rr wh ∧ 0 ≤ ip ∧ ip < (((rfM gh AI 0 rr.toNat).1 : Nat) : Int)) ∧ z = ((rfM gh AI 0 rr.toNat).2 (6 * ip.toNat + wh.toNat)).toInt)) ∧ ((w.1) mo 8 = I mo 8 ∧ (w.1) mo 9 = I mo 9 ∧ (w.1) mo 10 = I mo 10))) := sorry
def rmX7_countg : Room := { frames := 2, cells := 0, slots := 0, locals := 52 }
set_option maxHeartbeats 4000000 in
set_option maxRecDepth 100000 in
/-- count -/
theorem c_X7_countg (l : Launch) (g : gG) (gh : gGh) (T : Nat → Int32) (nr : Nat) (cl : Nat → Int) (I : gI) (R : gR) (J : gJ) (AI : gI) (AJ : gJ) (AR : gR) (mo : Nat) (rr : Int) (a1 : Int) (b1 : Int) (c1 : Int) (d1 : Int) (zrr : zr rr) (za1 : zr a1) (zb1 : zr b1) (zc1 : zr c1) (zd1 : zr d1) (hv : mInv g gh R I AI) (hm : gO g mo 7) (hT : AI (gh 50 0) = T) (hmr : (I mo 2).toInt = (nr : Int)) (hbg : ∀ r : Nat, r < nr → bgOK (rfM gh AI 0) cl r) : gMet l g yX7_count tsX7_count rmX7_countg [.ref mo, .int (iI rr), .int (iI a1), .int (iI b1), .int (iI c1), .int (iI d1)] (I, R, J, AI, AJ, AR) (gQi g (fun (z : Int) (w : gS) => R = w.2.1 ∧ J = w.2.2.1 ∧ AJ = w.2.2.2.2.1 ∧ AR = w.2.2.2.2.2 ∧ (mInv g gh R (w.1) (w.2.2.2.1)) ∧ ((w.2.2.2.1) (gh 50 0) = T) ∧ (nF mo I (w.1)) ∧ (((rr < 0 ∨ (nr : Int) ≤ rr) ∧ ((w.1) mo 17).toInt = 1 ∧ z = 0) ∨ ((0 ≤ rr ∧ rr < (nr : Int)) ∧ ((w.1) mo 17).toInt = 0 ∧ z = (bS (rfM gh AI 0 rr.toNat).2 (rfM gh AI 0 rr.toNat).1 (kyT (tI T (40 * rr + 1)) a1 b1 c1 d1)).toInt)) ∧ ((w.1) mo 8 = I mo 8 ∧ (w.1) mo 9 = I mo 9 ∧ (w.1) mo 10 = I mo 10) ∧ (∀ b, b ≠ gh 77 0 → (w.2.2.2.1) b = AI b))) := sorry
def rmX7_totalg : Room := { frames := 2, cells := 0, slots := 0, locals := 43 }
set_option maxHeartbeats 4000000 in
set_option maxRecDepth 100000 in
/-- total -/
theorem c_X7_totalg (l : Launch) (g : gG) (gh : gGh) (T : Nat → Int32) (nr : Nat) (I : gI) (R : gR) (J : gJ) (AI : gI) (AJ : gJ) (AR : gR) (mo : Nat) (rr : Int) (zrr : zr rr) (hv : mInv g gh R I AI) (hm : gO g mo 7) (hT : AI (gh 50 0) = T) (hmr : (I mo 2).toInt = (nr : Int)) : gMet l g yX7_total tsX7_total rmX7_totalg [.ref mo, .int (iI rr)] (I, R, J, AI, AJ, AR) (gQi g (fun (z : Int) (w : gS) => R = w.2.1 ∧ J = w.2.2.1 ∧ AI = w.2.2.2.1 ∧ AJ = w.2.2.2.2.1 ∧ AR = w.2.2.2.2.2 ∧ (mInv g gh R (w.1) AI) ∧ (nF mo I (w.1)) ∧ (((rr < 0 ∨ (nr : Int) ≤ rr) ∧ ((w.1) mo 17).toInt = 1 ∧ z = 0) ∨ ((0 ≤ rr ∧ rr < (nr : Int)) ∧ ((w.1) mo 17).toInt = 0 ∧ iI z = smA (rfM gh AI 0 rr.toNat).2 (rfM gh AI 0 rr.toNat).1)) ∧ ((w.1) mo 8 = I mo 8 ∧ (w.1) mo 9 = I mo 9 ∧ (w.1) mo 10 = I mo 10))) := sorry
def rmX7_movedg : Room := { frames := 2, cells := 0, slots := 0, locals := 54 }
set_option maxHeartbeats 4000000 in
set_option maxRecDepth 100000 in
/-- moved -/
theorem c_X7_movedg (l : Launch) (g : gG) (gh : gGh) (T : Nat → Int32) (nr : Nat) (cl : Nat → Int) (I : gI) (R : gR) (J : gJ) (AI : gI) (AJ : gJ) (AR : gR) (mo : Nat) (rr : Int) (zrr : zr rr) (hv : mInv g gh R I AI) (hm : gO g mo 7) (hT : AI (gh 50 0) = T) (hmr : (I mo 2).toInt = (nr : Int)) (hbg : ∀ r : Nat, r < nr → bgOK (rfM gh AI 0) cl r) (hb9 : ∀ r : Nat, r < nr → bgOK (rfM gh AI 9) cl r) : gMet l g yX7_moved tsX7_moved rmX7_movedg [.ref mo, .int (iI rr)] (I, R, J, AI, AJ, AR) (gQi g (fun (z : Int) (w : gS) => R = w.2.1 ∧ J = w.2.2.1 ∧ AJ = w.2.2.2.2.1 ∧ AR = w.2.2.2.2.2 ∧ (mInv g gh R (w.1) (w.2.2.2.1)) ∧ ((w.2.2.2.1) (gh 50 0) = T) ∧ (nF mo I (w.1)) ∧ (((rr < 0 ∨ (nr : Int) ≤ rr) ∧ z = -1) ∨ ((0 ≤ rr ∧ rr < (nr : Int)) ∧ z = ((bgN (mvF gh AI rr.toNat) : Nat) : Int))) ∧ (∀ b, b ≠ gh 81 0 → (w.2.2.2.1) b = AI b) ∧ ((w.1) mo 8 = I mo 8 ∧ (w.1) mo 9 = I mo 9 ∧ (w.1) mo 10 = I mo 10))) := sorry
def rmX7_movedAtg : Room := { frames := 3, cells := 0, slots := 0, locals := 65 }
set_option maxHeartbeats 4000000 in
set_option maxRecDepth 100000 in
/-- movedAt -/
theorem c_X7_movedAtg (l : Launch) (g : gG) (gh : gGh) (T : Nat → Int32) (nr : Nat) (cl : Nat → Int) (I : gI) (R : gR) (J : gJ) (AI : gI) (AJ : gJ) (AR : gR) (mo : Nat) (rr : Int) (ip : Int) (wh : Int) (zrr : zr rr) (zip : zr ip) (zwh : zr wh) (hv : mInv g gh R I AI) (hm : gO g mo 7) (hT : AI (gh 50 0) = T) (hmr : (I mo 2).toInt = (nr : Int)) (hbg : ∀ r : Nat, r < nr → bgOK (rfM gh AI 0) cl r) (hb9 : ∀ r : Nat, r < nr → bgOK (rfM gh AI 9) cl r) : gMet l g yX7_movedAt tsX7_movedAt rmX7_movedAtg [.ref mo, .int (iI rr), .int (iI ip), .int (iI wh)] (I, R, J, AI, AJ, AR) (gQi g (fun (z : Int) (w : gS) => R = w.2.1 ∧ J = w.2.2.1 ∧ AJ = w.2.2.2.2.1 ∧ AR = w.2.2.2.2.2 ∧ (mInv g gh R (w.1) (w.2.2.2.1)) ∧ ((w.2.2.2.1) (gh 50 0) = T) ∧ (nF mo I (w.1)) ∧ ((((w.1) mo 17).toInt = 1 ∧ z = 0 ∧ ¬ (tdM T nr rr wh ∧ 0 ≤ ip ∧ ip < ((bgN (mvF gh AI rr.toNat) : Nat) : Int))) ∨ (((w.1) mo 17).toInt = 0 ∧ (tdM T nr rr wh ∧ 0 ≤ ip ∧ ip < ((bgN (mvF gh AI rr.toNat) : Nat) : Int)) ∧ ∃ f : Nat → Int32, isB f (bgN (mvF gh AI rr.toNat)) (mvF gh AI rr.toNat) zM ∧ z = (f (6 * ip.toNat + wh.toNat)).toInt)) ∧ (∀ b, b ≠ gh 81 0 → (w.2.2.2.1) b = AI b) ∧ ((w.1) mo 8 = I mo 8 ∧ (w.1) mo 9 = I mo 9 ∧ (w.1) mo 10 = I mo 10))) := sorry
def rmX7_cameg : Room := { frames := 3, cells := 0, slots := 0, locals := 76 }
set_option maxHeartbeats 4000000 in
set_option maxRecDepth 100000 in
/-- came -/
theorem c_X7_cameg (l : Launch) (g : gG) (gh : gGh) (T : Nat → Int32) (tbs : Int) (nr : Nat) (cc : Nat → LC) (cl : Nat → Int) (I : gI) (R : gR) (J : gJ) (AI : gI) (AJ : gJ) (AR : gR) (mo : Nat) (rr : Int) (zrr : zr rr) (hv : mInv g gh R I AI) (hm : gO g mo 7) (hT : AI (gh 50 0) = T) (hmr : (I mo 2).toInt = (nr : Int)) (hpl : plM9 T tbs nr cc cl) (hbg : ∀ r : Nat, r < nr → bgOK (rfM gh AI 0) cl r) (hb9 : ∀ r : Nat, r < nr → bgOK (rfM gh AI 9) cl r) : gMet l g yX7_came tsX7_came rmX7_cameg [.ref mo, .int (iI rr)] (I, R, J, AI, AJ, AR) (gQi g (fun (z : Int) (w : gS) => R = w.2.1 ∧ J = w.2.2.1 ∧ AJ = w.2.2.2.2.1 ∧ AR = w.2.2.2.2.2 ∧ (mInv g gh R (w.1) (w.2.2.2.1)) ∧ ((w.2.2.2.1) (gh 50 0) = T) ∧ (nF mo I (w.1)) ∧ ((((rr < 0 ∨ (nr : Int) ≤ rr) ∨ tI T (40 * rr) = 0) ∧ z = -1) ∨ (((0 ≤ rr ∧ rr < (nr : Int)) ∧ tI T (40 * rr) ≠ 0) ∧ z = ((bgN (mvF gh AI ((cc rr.toNat).1 2).toNat) : Nat) : Int) + (if (cc rr.toNat).1 3 < 0 then 0 else ((bgN (mvF gh AI ((cc rr.toNat).1 3).toNat) : Nat) : Int)))) ∧ (∀ b, b ≠ gh 81 0 → (w.2.2.2.1) b = AI b) ∧ ((w.1) mo 8 = I mo 8 ∧ (w.1) mo 9 = I mo 9 ∧ (w.1) mo 10 = I mo 10))) := sorry
def rmX7_roundg : Room := { frames := 2, cells := 0, slots := 0, locals := 52 }
set_option maxHeartbeats 4000000 in
set_option maxRecDepth 100000 in
/-- round -/
theorem c_X7_roundg (l : Launch) (g : gG) (gh : gGh) (T : Nat → Int32) (nr : Nat) (cl : Nat → Int) (I : gI) (R : gR) (J : gJ) (AI : gI) (AJ : gJ) (AR : gR) (mo : Nat) (rr : Int) (a1 : Int) (b1 : Int) (c1 : Int) (d1 : Int) (zrr : zr rr) (za1 : zr a1) (zb1 : zr b1) (zc1 : zr c1) (zd1 : zr d1) (hv : mInv g gh R I AI) (hm : gO g mo 7) (hT : AI (gh 50 0) = T) (hmr : (I mo 2).toInt = (nr : Int)) (hbg : ∀ r : Nat, r < nr → bgOK (rfM gh AI 0) cl r) : gMet l g yX7_round tsX7_round rmX7_roundg [.ref mo, .int (iI rr), .int (iI a1), .int (iI b1), .int (iI c1), .int (iI d1)] (I, R, J, AI, AJ, AR) (gQi g (fun (z : Int) (w : gS) => R = w.2.1 ∧ J = w.2.2.1 ∧ AJ = w.2.2.2.2.1 ∧ AR = w.2.2.2.2.2 ∧ (mInv g gh R (w.1) (w.2.2.2.1)) ∧ ((w.2.2.2.1) (gh 50 0) = T) ∧ (nF mo I (w.1)) ∧ ((((rr < 0 ∨ (nr : Int) ≤ rr) ∨ tI T (40 * rr) ≠ 8) ∧ z = -1) ∨ (((0 ≤ rr ∧ rr < (nr : Int)) ∧ tI T (40 * rr) = 8) ∧ mkR (rfM gh AI 0 rr.toNat).2 (rfM gh AI 0 rr.toNat).1 (kyT (tI T (40 * rr + 1)) a1 b1 c1 d1) z)) ∧ ((w.1) mo 8 = I mo 8 ∧ (w.1) mo 9 = I mo 9 ∧ (w.1) mo 10 = I mo 10) ∧ (∀ b, b ≠ gh 77 0 → (w.2.2.2.1) b = AI b))) := sorry
def rmX7_roundsg : Room := { frames := 2, cells := 0, slots := 0, locals := 43 }
set_option maxHeartbeats 4000000 in
set_option maxRecDepth 100000 in
/-- rounds -/
theorem c_X7_roundsg (l : Launch) (g : gG) (gh : gGh) (T : Nat → Int32) (nr : Nat) (I : gI) (R : gR) (J : gJ) (AI : gI) (AJ : gJ) (AR : gR) (mo : Nat) (rr : Int) (zrr : zr rr) (hv : mInv g gh R I AI) (hm : gO g mo 7) (hT : AI (gh 50 0) = T) (hmr : (I mo 2).toInt = (nr : Int)) : gMet l g yX7_rounds tsX7_rounds rmX7_roundsg [.ref mo, .int (iI rr)] (I, R, J, AI, AJ, AR) (gQi g (fun (z : Int) (w : gS) => R = w.2.1 ∧ J = w.2.2.1 ∧ AI = w.2.2.2.1 ∧ AJ = w.2.2.2.2.1 ∧ AR = w.2.2.2.2.2 ∧ (mInv g gh R (w.1) AI) ∧ (nF mo I (w.1)) ∧ ((((rr < 0 ∨ (nr : Int) ≤ rr) ∨ tI T (40 * rr) ≠ 8) ∧ z = -1) ∨ (((0 ≤ rr ∧ rr < (nr : Int)) ∧ tI T (40 * rr) = 8) ∧ z = (AI (gh 79 0) rr.toNat).toInt)) ∧ ((w.1) mo 8 = I mo 8 ∧ (w.1) mo 9 = I mo 9 ∧ (w.1) mo 10 = I mo 10))) := sorry
def rmX7_ofg : Room := { frames := 18, cells := 0, slots := 0, locals := 396 }
set_option maxHeartbeats 4000000 in
set_option maxRecDepth 100000 in
/-- of -/
theorem c_X7_ofg (l : Launch) (g : gG) (gh : gGh) (T : Nat → Int32) (I : gI) (R : gR) (J : gJ) (AI : gI) (AJ : gJ) (AR : gR) (mo : Nat) (rr : Int) (wh : Int) (zrr : zr rr) (zwh : zr wh) (hv : mInv g gh R I AI) (hm : gO g mo 7) (hT : AI (gh 50 0) = T) : gMet l g yX7_of tsX7_of rmX7_ofg [.ref mo, .int (iI rr), .int (iI wh)] (I, R, J, AI, AJ, AR) (gQi g (fun (z : Int) (w : gS) => R = w.2.1 ∧ J = w.2.2.1 ∧ AI = w.2.2.2.1 ∧ AJ = w.2.2.2.2.1 ∧ AR = w.2.2.2.2.2 ∧ (mInv g gh R (w.1) AI) ∧ (nF mo I (w.1)) ∧ ((w.1) mo 8 = I mo 8 ∧ (w.1) mo 9 = I mo 9 ∧ (w.1) mo 10 = I mo 10))) := sorry
def rmX7_column_g : Room := { frames := 2, cells := 0, slots := 0, locals := 43 }
set_option maxHeartbeats 4000000 in
set_option maxRecDepth 100000 in
/-- column -/
theorem c_X7_column_g (l : Launch) (g : gG) (gh : gGh) (T : Nat → Int32) (nr : Nat) (I : gI) (R : gR) (J : gJ) (AI : gI) (AJ : gJ) (AR : gR) (mo : Nat) (rr : Int) (cl : Int) (wh : Int) (zrr : zr rr) (zcl : zr cl) (zwh : zr wh) (hv : mInv g gh R I AI) (hm : gO g mo 7) (hT : AI (gh 50 0) = T) (hmr : (I mo 2).toInt = (nr : Int)) : gMet l g yX7_column_ tsX7_column_ rmX7_column_g [.ref mo, .int (iI rr), .int (iI cl), .int (iI wh)] (I, R, J, AI, AJ, AR) (gQi g (fun (z : Int) (w : gS) => R = w.2.1 ∧ J = w.2.2.1 ∧ AI = w.2.2.2.1 ∧ AJ = w.2.2.2.2.1 ∧ AR = w.2.2.2.2.2 ∧ (mInv g gh R (w.1) AI) ∧ (nF mo I (w.1)) ∧ ((((w.1) mo 17).toInt = 1 ∧ z = 0 ∧ ¬ clM T nr (rfM gh AI 0 rr.toNat).1 rr cl wh) ∨ (((w.1) mo 17).toInt = 0 ∧ clM T nr (rfM gh AI 0 rr.toNat).1 rr cl wh ∧ clP (rfM gh AI 0 rr.toNat).2 (rfM gh AI 0 rr.toNat).1 cl wh z)) ∧ ((w.1) mo 8 = I mo 8 ∧ (w.1) mo 9 = I mo 9 ∧ (w.1) mo 10 = I mo 10))) := sorry
def rmX7_toldg : Room := { frames := 3, cells := 0, slots := 0, locals := 76 }
set_option maxHeartbeats 4000000 in
set_option maxRecDepth 100000 in
/-- told -/
theorem c_X7_toldg (l : Launch) (g : gG) (gh : gGh) (T : Nat → Int32) (tbs : Int) (nr : Nat) (cc : Nat → LC) (cl : Nat → Int) (I : gI) (R : gR) (J : gJ) (AI : gI) (AJ : gJ) (AR : gR) (mo : Nat) (wh : Int) (zwh : zr wh) (hv : mInv g gh R I AI) (hm : gO g mo 7) (hT : AI (gh 50 0) = T) (hmr : (I mo 2).toInt = (nr : Int)) (hpl : plM9 T tbs nr cc cl) (hbg : ∀ r : Nat, r < nr → bgOK (rfM gh AI 0) cl r) (hb9 : ∀ r : Nat, r < nr → bgOK (rfM gh AI 9) cl r) : gMet l g yX7_told tsX7_told rmX7_toldg [.ref mo, .int (iI wh)] (I, R, J, AI, AJ, AR) (gQi g (fun (z : Int) (w : gS) => R = w.2.1 ∧ J = w.2.2.1 ∧ AJ = w.2.2.2.2.1 ∧ AR = w.2.2.2.2.2 ∧ (mInv g gh R (w.1) (w.2.2.2.1)) ∧ ((w.2.2.2.1) (gh 50 0) = T) ∧ (nF mo I (w.1)) ∧ (wh = 9 → z = (I mo 16).toInt) ∧ ((wh = 0 ∧ z = tbs) ∨ (wh = 1 ∧ z = (nr : Int) - tbs) ∨ (wh = 2 ∧ iI z = I mo 9) ∨ (wh = 3 ∧ iI z = I mo 10) ∨ (wh = 4 ∧ z = (I mo 8).toInt) ∨ (wh = 5 ∧ z = (I mo 14).toInt) ∨ (wh = 6 ∧ z = smL (fun r => (((rfM gh AI 0 r).1 : Nat) : Int)) tbs.toNat (nr - tbs.toNat)) ∨ (wh = 7 ∧ z = smL (fun r => ((bgN (mvF gh AI r) : Nat) : Int)) tbs.toNat (nr - tbs.toNat)) ∨ (wh = 8 ∧ z = smL (ctF gh AI cc) tbs.toNat (nr - tbs.toNat)) ∨ (wh = 9 ∧ z = (I mo 16).toInt) ∨ ((wh < 0 ∨ 9 < wh) ∧ z = -1)) ∧ (∀ b, b ≠ gh 81 0 → (w.2.2.2.1) b = AI b) ∧ ((w.1) mo 8 = I mo 8 ∧ (w.1) mo 9 = I mo 9 ∧ (w.1) mo 10 = I mo 10))) := sorry
def rmX7_differsg : Room := { frames := 6, cells := 0, slots := 0, locals := 159 }
set_option maxHeartbeats 4000000 in
set_option maxRecDepth 100000 in
/-- differs -/
theorem c_X7_differsg (l : Launch) (g : gG) (gh : gGh) (T : Nat → Int32) (tbs : Int) (nr : Nat) (cc : Nat → LC) (cl : Nat → Int) (I : gI) (R : gR) (J : gJ) (AI : gI) (AJ : gJ) (AR : gR) (mo : Nat) (rr : Int) (zrr : zr rr) (hv : mInv g gh R I AI) (hm : gO g mo 7) (hT : AI (gh 50 0) = T) (hmr : (I mo 2).toInt = (nr : Int)) (hpl : plM9 T tbs nr cc cl) (hbg : ∀ r : Nat, r < nr → bgOK (rfM gh AI 0) cl r) (hvw0 : ∀ r : Nat, r < nr → tbs ≤ (r : Int) → vwP (cc r) (rfM gh AI 0) 0 (rfM gh AI 0 r).2 (rfM gh AI 0 r).1) : gMet l g yX7_differs tsX7_differs rmX7_differsg [.ref mo, .int (iI rr)] (I, R, J, AI, AJ, AR) (gQi g (fun (z : Int) (w : gS) => R = w.2.1 ∧ J = w.2.2.1 ∧ AJ = w.2.2.2.2.1 ∧ AR = w.2.2.2.2.2 ∧ (mInv g gh R (w.1) (w.2.2.2.1)) ∧ ((w.2.2.2.1) (gh 50 0) = T) ∧ (nF mo I (w.1)) ∧ (((rr < 0 ∨ (nr : Int) ≤ rr) ∧ z = -1 ∧ (w.2.2.2.1) = AI) ∨ ((0 ≤ rr ∧ rr < (nr : Int)) ∧ z = 0 ∧ sdK gh AI (w.2.2.2.1) ∧ noZ gh AI (w.2.2.2.1))) ∧ ((w.1) mo 8 = I mo 8 ∧ (w.1) mo 9 = I mo 9 ∧ (w.1) mo 10 = I mo 10))) := sorry

end

section
def rmX7_changeg : Room := { frames := 2, cells := 0, slots := 0, locals := 43 }
set_option maxHeartbeats 4000000 in
set_option maxRecDepth 100000 in
/-- a change -/
theorem c_X7_changeg (l : Launch) (g : gG) (gh : gGh) (T : Nat → Int32) (I : gI) (R : gR) (J : gJ) (AI : gI) (AJ : gJ) (AR : gR) (mo : Nat) (tb : Int) (a1 : Int) (b1 : Int) (c1 : Int) (d1 : Int) (n : Int) (ztb : zr tb) (za1 : zr a1) (zb1 : zr b1) (zc1 : zr c1) (zd1 : zr d1) (zn : zr n) (hv : mInv g gh R I AI) (hm : gO g mo 7) (hT : AI (gh 50 0) = T) (h61 : gh 9 (gh 61 0) = 5) (h62 : gh 9 (gh 62 0) = 5) (h63 : gh 9 (gh 63 0) = 5) : gMet l g yX7_change tsX7_change rmX7_changeg [.ref mo, .int (iI tb), .int (iI a1), .int (iI b1), .int (iI c1), .int (iI d1), .int (iI n)] (I, R, J, AI, AJ, AR) (gQi g (fun (z : Int) (w : gS) => R = w.2.1 ∧ J = w.2.2.1 ∧ AJ = w.2.2.2.2.1 ∧ AR = w.2.2.2.2.2 ∧ (mInv g gh R (w.1) (w.2.2.2.1)) ∧ ((w.2.2.2.1) (gh 50 0) = T) ∧ (mF mo I (w.1)) ∧ (chR (I mo 2).toInt (tI T (40 * tb)) tb n z (I mo 14).toInt ((w.1) mo 14).toInt (AI (gh 61 0)) (AI (gh 62 0)) (AI (gh 63 0)) ((w.2.2.2.1) (gh 61 0)) ((w.2.2.2.1) (gh 62 0)) ((w.2.2.2.1) (gh 63 0)) (cky tb a1 b1 c1 d1 (tI T (40 * tb + 1)))) ∧ ((w.1) mo 8 = I mo 8 ∧ (w.1) mo 9 = I mo 9 ∧ (w.1) mo 10 = I mo 10) ∧ (∀ b, b ≠ gh 61 0 → b ≠ gh 62 0 → b ≠ gh 63 0 → b ≠ gh 77 0 → (w.2.2.2.1) b = AI b))) := sorry

end

section
/-! the class: a column's values, gathered as a bag of one column -/
def vT8 (v : Int32) : Tup := (v, 0, 0, 0)
def kC9 (c : Nat) (t : Tup) : Tup := vT8 (tg t c)
abbrev one9 : Tup → Int32 → Int32 := fun _ _ => 1
def vN8 (f : Nat → Int32) (c : Nat) : Nat → Tup → Nat
  | 0, _ => 0
  | i + 1, t => vN8 f c i t + (if t = vT8 (f (6 * i + c)) then 1 else 0)
def cvG (f : Nat → Int32) (c i : Nat) (h : Nat → Int32) (len : Int) : Prop := isB h len.toNat (fun t => iI (vN8 f c i t : Int)) zM ∧ len = ((unC f c i : Nat) : Int)
section Col8
variable {f h h' K : Nat → Int32} {c i n : Nat} {len len' z v : Int} {t : Tup}
theorem vN_le : ∀ i, vN8 f c i t ≤ i := sorry
theorem vN_y : ∀ i, 0 < vN8 f c i t → ∃ q, q < i ∧ t = vT8 (f (6 * q + c)) := sorry
theorem vN_p : ∀ i q, q < i → t = vT8 (f (6 * q + c)) → 0 < vN8 f c i t := sorry
theorem vT_i {a b : Int32} (e : vT8 a = vT8 b) : a = b := sorry
theorem unC_le : ∀ i, unC f c i ≤ i := sorry
theorem vN_0 (hi : i ≤ 120) : iI (vN8 f c i t : Int) = 0 ↔ vN8 f c i t = 0 := sorry
theorem cv_0 : cvG f c 0 h 0 := sorry
theorem cv_s (hi : i < 120) (g : cvG f c i h len) (hK : ∀ k, k < 4 → K k = tg (vT8 (f (6 * i + c))) k) (a : addP 4 240 h h' len len' (rk K 0) 1 z) : cvG f c (i + 1) h' len' := sorry
theorem cv_at (hn : n ≤ 120) (g : cvG f c n h len) {j : Nat} (hj : (j : Int) < len) : ∃ q, q < n ∧ tup h j = vT8 (f (6 * q + c)) ∧ h (6 * j) = f (6 * q + c) := sorry
theorem cv_in (hn : n ≤ 120) (g : cvG f c n h len) {q : Nat} (hq : q < n) : ∃ j : Nat, (j : Int) < len ∧ tup h j = vT8 (f (6 * q + c)) := sorry
theorem vT_lt {a b : Int32} (e : tc (vT8 a) (vT8 b) = -1) : a.toInt < b.toInt := sorry
theorem cv_le (hn : n ≤ 120) (g : cvG f c n h len) (h0 : 0 < len) : leL f c n (h 0).toInt := sorry
theorem cv_mo (hn : n ≤ 120) (g : cvG f c n h len) (h0 : 0 < len) : moL f c n (h (6 * (len - 1).toNat)).toInt := sorry
theorem cv_n0 (hn : n ≤ 120) (g : cvG f c n h len) : 0 < len ↔ 0 < n := sorry
/-! least, most and how many are determined -/
theorem leL_u {v w : Int} (a : leL f c n v) (b : leL f c n w) : v = w := sorry
theorem moL_u {v w : Int} (a : moL f c n v) (b : moL f c n w) : v = w := sorry
theorem unC_c (e : ∀ q, q < n → f (6 * q + c) = h (6 * q + c)) : ∀ i, i ≤ n → unC f c i = unC h c i := sorry
theorem leL_c (e : ∀ q, q < n → f (6 * q + c) = h (6 * q + c)) (a : leL f c n v) : leL h c n v := sorry
theorem moL_c (e : ∀ q, q < n → f (6 * q + c) = h (6 * q + c)) (a : moL f c n v) : moL h c n v := sorry
/-! what column answers: where it may, and what -/
def clX (nr n : Nat) (cols rel col wh : Int) : Prop := (0 ≤ rel ∧ rel < (nr : Int)) ∧ (0 ≤ col ∧ col < cols) ∧ (0 ≤ wh ∧ wh ≤ 2) ∧ (wh = 2 ∨ 0 < n)
theorem ky_0 : ∀ j, j < 4 → tg (kyT 1 0 0 0 0) j = 0 := sorry
theorem vT_k {w : Int32} : ∀ k, k < 4 → tg (vT8 w) k = if k = 0 then w else 0 := sorry
theorem clP_v {wh : Int} {col : Int} (hn : n ≤ 120) (g : cvG f col.toNat n h len) (h0 : 0 < len) {rw' : Int} (hr : (wh = 0 ∧ rw' = 0) ∨ (wh = 1 ∧ rw' = len - 1)) (hz : z = (h (rw' * 6 + 0).toNat).toInt) : clP f n col wh z := sorry
theorem clP_2 {wh : Int} {col : Int} (g : cvG f col.toNat n h len) (hw : wh = 2) (hz : z = len) : clP f n col wh z := sorry
/-- both answer alike -/
theorem clP_u {n' : Nat} {wh col z' : Int} (e : n = n' ∧ rwA f h n) (hc : 0 ≤ col ∧ col < 6) (a : clP f n col wh z) (b : clP h n' col wh z') : z = z' := sorry
end Col8


end

section
def rmX6_endg : Room := { frames := 0, cells := 0, slots := 0, locals := 0 }
set_option maxHeartbeats 4000000 in
set_option maxRecDepth 100000 in
/-- cuts the tape -/
theorem c_X6_endg (l : Launch) (g : gG) (gh : gGh) (pA bA nA : Nat) (I : gI) (R : gR) (J : gJ) (AI : gI) (AJ : gJ) (AR : gR) (x : Nat) (n : Int) (zn : zr n) (hv : gInv g gh R AR I AI) (hx : xS g gh R AR x pA bA nA) : gMet l g yX6_end wsX6_end rmX6_endg [.ref x, .int (iI n)] (I, R, J, AI, AJ, AR) (gQi g (fun (z : Int) (w : gS) => R = w.2.1 ∧ J = w.2.2.1 ∧ AI = w.2.2.2.1 ∧ AJ = w.2.2.2.2.1 ∧ AR = w.2.2.2.2.2 ∧ (gInv g gh R AR (w.1) AI) ∧ (∀ b, b ≠ x → (w.1) b = I b) ∧ (((n < 0 ∨ (I x 1).toInt < n) ∧ z = -1 ∧ ((w.1) x 1).toInt = (I x 1).toInt) ∨ (0 ≤ n ∧ n ≤ (I x 1).toInt ∧ z = n ∧ ((w.1) x 1).toInt = n)) ∧ (∀ j, j ≠ 1 → (w.1) x j = I x j))) := sorry
def rmX6_cancelg : Room := { frames := 0, cells := 0, slots := 0, locals := 0 }
set_option maxHeartbeats 4000000 in
set_option maxRecDepth 100000 in
/-- empties the batch -/
theorem c_X6_cancelg (l : Launch) (g : gG) (gh : gGh) (pA bA nA : Nat) (I : gI) (R : gR) (J : gJ) (AI : gI) (AJ : gJ) (AR : gR) (x : Nat) (hv : gInv g gh R AR I AI) (hx : xS g gh R AR x pA bA nA) (h37 : gh 42 0 ≠ 1) : gMet l g yX6_cancel wsX6_cancel rmX6_cancelg [.ref x] (I, R, J, AI, AJ, AR) (gQi g (fun (z : Int) (w : gS) => R = w.2.1 ∧ J = w.2.2.1 ∧ AI = w.2.2.2.1 ∧ AJ = w.2.2.2.2.1 ∧ AR = w.2.2.2.2.2 ∧ (gInv g gh R AR (w.1) AI) ∧ (rF g I (w.1)) ∧ (z = (I (gh 37 0) 3).toInt) ∧ (((w.1) (gh 37 0) 3).toInt = 0) ∧ (∀ b, b ≠ gh 37 0 → (w.1) b = I b))) := sorry
def rmX6_roundg : Room := { frames := 2, cells := 0, slots := 0, locals := 52 }
set_option maxHeartbeats 4000000 in
set_option maxRecDepth 100000 in
/-- round -/
theorem c_X6_roundg (l : Launch) (g : gG) (gh : gGh) (pA bA nA : Nat) (nr : Nat) (cc : Nat → LC) (cl : Nat → Int) (I : gI) (R : gR) (J : gJ) (AI : gI) (AJ : gJ) (AR : gR) (x : Nat) (rel : Int) (ca : Int) (cb : Int) (c3 : Int) (c4 : Int) (zrel : zr rel) (zca : zr ca) (zcb : zr cb) (zc3 : zr c3) (zc4 : zr c4) (hv : gInv g gh R AR I AI) (hx : xS g gh R AR x pA bA nA) (hlen : (I pA 1).toInt = (nr : Int)) (hln : ∀ r, r < nr → lnC (I (rob AR (gh 6 pA) r)) (AI (gh 3 (rob AR (gh 6 pA) r))) (cc r)) (hbg : ∀ r, r < nr → bgOK (rfC gh AR I AI bA) cl r) : gMet l g yX6_round wsX6_round rmX6_roundg [.ref x, .int (iI rel), .int (iI ca), .int (iI cb), .int (iI c3), .int (iI c4)] (I, R, J, AI, AJ, AR) (gQi g (fun (z : Int) (w : gS) => I = w.1 ∧ R = w.2.1 ∧ J = w.2.2.1 ∧ AJ = w.2.2.2.2.1 ∧ AR = w.2.2.2.2.2 ∧ (gInv g gh R AR I (w.2.2.2.1)) ∧ ((¬ ((0 ≤ rel ∧ rel < (nr : Int)) ∧ (cc rel.toNat).1 0 = 8) ∧ z = -1) ∨ (((0 ≤ rel ∧ rel < (nr : Int)) ∧ (cc rel.toNat).1 0 = 8) ∧ mkR (rfC gh AR I AI bA rel.toNat).2 (rfC gh AR I AI bA rel.toNat).1 (kyT ((cc rel.toNat).1 1) ca cb c3 c4) z)) ∧ (∀ b, b ≠ gh 29 0 → (w.2.2.2.1) b = AI b))) := sorry
def rmX6_countg : Room := { frames := 6, cells := 1, slots := 6, locals := 82 }
set_option maxHeartbeats 4000000 in
set_option maxRecDepth 100000 in
/-- count -/
theorem c_X6_countg (l : Launch) (g : gG) (gh : gGh) (pA bA nA : Nat) (nr : Nat) (cc : Nat → LC) (cl : Nat → Int) (I : gI) (R : gR) (J : gJ) (AI : gI) (AJ : gJ) (AR : gR) (x : Nat) (rel : Int) (ca : Int) (cb : Int) (c3 : Int) (c4 : Int) (zrel : zr rel) (zca : zr ca) (zcb : zr cb) (zc3 : zr c3) (zc4 : zr c4) (hv : gInv g gh R AR I AI) (hx : xS g gh R AR x pA bA nA) (hlen : (I pA 1).toInt = (nr : Int)) (hln : ∀ r, r < nr → lnC (I (rob AR (gh 6 pA) r)) (AI (gh 3 (rob AR (gh 6 pA) r))) (cc r)) (hbg : ∀ r, r < nr → bgOK (rfC gh AR I AI bA) cl r) (hst : l.stackTraces = false) : gMetX l g yX6_count tsX6_count rmX6_countg [.ref x, .int (iI rel), .int (iI ca), .int (iI cb), .int (iI c3), .int (iI c4)] (I, R, J, AI, AJ, AR) (gQi g (fun (z : Int) (w : gS) => I = w.1 ∧ R = w.2.1 ∧ J = w.2.2.1 ∧ AJ = w.2.2.2.2.1 ∧ AR = w.2.2.2.2.2 ∧ (gInv g gh R AR I (w.2.2.2.1)) ∧ (∀ b, b ≠ gh 29 0 → (w.2.2.2.1) b = AI b) ∧ ((0 ≤ rel ∧ rel < (nr : Int)) ∧ z = (bS (rfC gh AR I AI bA rel.toNat).2 (rfC gh AR I AI bA rel.toNat).1 (kyT ((cc rel.toNat).1 1) ca cb c3 c4)).toInt))) (fun w : gS => I = w.1 ∧ R = w.2.1 ∧ J = w.2.2.1 ∧ AJ = w.2.2.2.2.1 ∧ AR = w.2.2.2.2.2 ∧ (gInv g gh R AR I (w.2.2.2.1)) ∧ (∀ b, b ≠ gh 29 0 → (w.2.2.2.1) b = AI b) ∧ (rel < 0 ∨ (nr : Int) ≤ rel)) := sorry
def rmL_countg : Room := { frames := 7, cells := 1, slots := 6, locals := 107 }
set_option maxHeartbeats 4000000 in
set_option maxRecDepth 100000 in
/-- count, caught -/
theorem c_L_countg (l : Launch) (g : gG) (gh : gGh) (pA bA nA : Nat) (nr : Nat) (cc : Nat → LC) (cl : Nat → Int) (I : gI) (R : gR) (J : gJ) (AI : gI) (AJ : gJ) (AR : gR) (x : Nat) (rel : Int) (ca : Int) (cb : Int) (c3 : Int) (c4 : Int) (ou : Nat) (zrel : zr rel) (zca : zr ca) (zcb : zr cb) (zc3 : zr c3) (zc4 : zr c4) (hv : gInv g gh R AR I AI) (hx : xS g gh R AR x pA bA nA) (hou : gAr g ou 10 1) (hlen : (I pA 1).toInt = (nr : Int)) (hln : ∀ r, r < nr → lnC (I (rob AR (gh 6 pA) r)) (AI (gh 3 (rob AR (gh 6 pA) r))) (cc r)) (hbg : ∀ r, r < nr → bgOK (rfC gh AR I AI bA) cl r) (hst : l.stackTraces = false) : gMetX l g yL_count tsL_count rmL_countg [.ref x, .int (iI rel), .int (iI ca), .int (iI cb), .int (iI c3), .int (iI c4), .ref ou] (I, R, J, AI, AJ, AR) (gQi g (fun (z : Int) (w : gS) => I = w.1 ∧ R = w.2.1 ∧ J = w.2.2.1 ∧ AR = w.2.2.2.2.2 ∧ (gInv g gh R AR I (w.2.2.2.1)) ∧ (z = 0 ∨ z = 1) ∧ ((z = 0 ∧ ∃ v9 : Int, ((0 ≤ rel ∧ rel < (nr : Int)) ∧ v9 = (bS (rfC gh AR I AI bA rel.toNat).2 (rfC gh AR I AI bA rel.toNat).1 (kyT ((cc rel.toNat).1 1) ca cb c3 c4)).toInt) ∧ zr v9 ∧ (w.2.2.2.2.1) ou 0 = (iI v9).toInt64) ∨ (z = 1 ∧ (rel < 0 ∨ (nr : Int) ≤ rel))) ∧ (∀ b, b ≠ ou → (w.2.2.2.2.1) b = AJ b) ∧ (∀ b, b ≠ gh 29 0 → (w.2.2.2.1) b = AI b))) (fun _ : gS => False) := sorry
def rmX6_gatherValuesg : Room := { frames := 3, cells := 0, slots := 0, locals := 108 }
set_option maxHeartbeats 4000000 in
set_option maxRecDepth 100000 in
/-- the values of a column -/
theorem c_X6_gatherValuesg (l : Launch) (g : gG) (gh : gGh) (pA bA nA : Nat) (I : gI) (R : gR) (J : gJ) (AI : gI) (AJ : gJ) (AR : gR) (x : Nat) (ch : Nat) (col : Int) (zcol : zr col) (hv : gInv g gh R AR I AI) (hx : xS g gh R AR x pA bA nA) (hch : gO g ch 4) (h0 : 0 ≤ col ∧ col ≤ 5) : gMet l g yX6_gatherValues wsX6_gatherValues rmX6_gatherValuesg [.ref x, .ref ch, .int (iI col)] (I, R, J, AI, AJ, AR) (gQv g (fun w : gS => R = w.2.1 ∧ J = w.2.2.1 ∧ AJ = w.2.2.2.2.1 ∧ AR = w.2.2.2.2.2 ∧ (gInv g gh R AR (w.1) (w.2.2.2.1)) ∧ (rF g I (w.1)) ∧ (∀ b, b ≠ gh 40 0 → (w.1) b = I b) ∧ (∀ b, b ≠ gh 29 0 → b ≠ gh 0 (gh 40 0) → (w.2.2.2.1) b = AI b))) := sorry
def rmX6_columng : Room := { frames := 6, cells := 1, slots := 6, locals := 131 }
set_option maxHeartbeats 4000000 in
set_option maxRecDepth 100000 in
/-- column -/
theorem c_X6_columng (l : Launch) (g : gG) (gh : gGh) (pA bA nA : Nat) (I : gI) (R : gR) (J : gJ) (AI : gI) (AJ : gJ) (AR : gR) (x : Nat) (rel : Int) (col : Int) (wh : Int) (zrel : zr rel) (zcol : zr col) (zwh : zr wh) (hv : gInv g gh R AR I AI) (hx : xS g gh R AR x pA bA nA) (hst : l.stackTraces = false) : gMetX l g yX6_column tsX6_column rmX6_columng [.ref x, .int (iI rel), .int (iI col), .int (iI wh)] (I, R, J, AI, AJ, AR) (gQi g (fun (z : Int) (w : gS) => R = w.2.1 ∧ J = w.2.2.1 ∧ AJ = w.2.2.2.2.1 ∧ AR = w.2.2.2.2.2 ∧ (gInv g gh R AR (w.1) (w.2.2.2.1)) ∧ (rF g I (w.1)) ∧ (∀ b, b ≠ gh 40 0 → (w.1) b = I b) ∧ (∀ b, b ≠ gh 29 0 → b ≠ gh 0 (gh 40 0) → (w.2.2.2.1) b = AI b))) (fun w : gS => R = w.2.1 ∧ J = w.2.2.1 ∧ AJ = w.2.2.2.2.1 ∧ AR = w.2.2.2.2.2 ∧ (gInv g gh R AR (w.1) (w.2.2.2.1)) ∧ (rF g I (w.1)) ∧ (∀ b, b ≠ gh 40 0 → (w.1) b = I b) ∧ (∀ b, b ≠ gh 29 0 → b ≠ gh 0 (gh 40 0) → (w.2.2.2.1) b = AI b)) := sorry
def rmL_columng : Room := { frames := 7, cells := 1, slots := 6, locals := 154 }
set_option maxHeartbeats 4000000 in
set_option maxRecDepth 100000 in
/-- column, caught -/
theorem c_L_columng (l : Launch) (g : gG) (gh : gGh) (pA bA nA : Nat) (I : gI) (R : gR) (J : gJ) (AI : gI) (AJ : gJ) (AR : gR) (x : Nat) (rel : Int) (col : Int) (wh : Int) (ou : Nat) (zrel : zr rel) (zcol : zr col) (zwh : zr wh) (hv : gInv g gh R AR I AI) (hx : xS g gh R AR x pA bA nA) (hou : gAr g ou 10 1) (hst : l.stackTraces = false) : gMetX l g yL_column tsL_column rmL_columng [.ref x, .int (iI rel), .int (iI col), .int (iI wh), .ref ou] (I, R, J, AI, AJ, AR) (gQi g (fun (z : Int) (w : gS) => R = w.2.1 ∧ J = w.2.2.1 ∧ AR = w.2.2.2.2.2 ∧ (gInv g gh R AR (w.1) (w.2.2.2.1)) ∧ (rF g I (w.1)) ∧ (z = 0 ∨ z = 1) ∧ (∀ b, b ≠ gh 40 0 → (w.1) b = I b) ∧ (∀ b, b ≠ gh 29 0 → b ≠ gh 0 (gh 40 0) → (w.2.2.2.1) b = AI b))) (fun _ : gS => False) := sorry

end

section
def rmX6_gatherValuesh : Room := { frames := 3, cells := 0, slots := 0, locals := 108 }
set_option maxHeartbeats 4000000 in
set_option maxRecDepth 100000 in
/-- the values of a column -/
theorem c_X6_gatherValuesh (l : Launch) (g : gG) (gh : gGh) (pA bA nA : Nat) (I : gI) (R : gR) (J : gJ) (AI : gI) (AJ : gJ) (AR : gR) (x : Nat) (ch : Nat) (col : Int) (zcol : zr col) (hv : gInv g gh R AR I AI) (hx : xS g gh R AR x pA bA nA) (hch : gO g ch 4) (h0 : 0 ≤ col ∧ col ≤ 5) (hne : ch ≠ gh 40 0) (hn1 : (I ch 3).toInt ≤ 120) (hc4 : col ≤ 3) : gMet l g yX6_gatherValues wsX6_gatherValues rmX6_gatherValuesh [.ref x, .ref ch, .int (iI col)] (I, R, J, AI, AJ, AR) (gQv g (fun w : gS => R = w.2.1 ∧ J = w.2.2.1 ∧ AJ = w.2.2.2.2.1 ∧ AR = w.2.2.2.2.2 ∧ (gInv g gh R AR (w.1) (w.2.2.2.1)) ∧ (rF g I (w.1)) ∧ (∀ b, b ≠ gh 40 0 → (w.1) b = I b) ∧ (∀ b, b ≠ gh 29 0 → b ≠ gh 0 (gh 40 0) → (w.2.2.2.1) b = AI b) ∧ (cvG (AI (gh 0 ch)) col.toNat (I ch 3).toInt.toNat ((w.2.2.2.1) (gh 0 (gh 40 0))) ((w.1) (gh 40 0) 3).toInt))) := sorry
def rmX6_columnh : Room := { frames := 6, cells := 1, slots := 6, locals := 131 }
set_option maxHeartbeats 4000000 in
set_option maxRecDepth 100000 in
/-- column -/
theorem c_X6_columnh (l : Launch) (g : gG) (gh : gGh) (pA bA nA : Nat) (nr : Nat) (cc : Nat → LC) (cl : Nat → Int) (I : gI) (R : gR) (J : gJ) (AI : gI) (AJ : gJ) (AR : gR) (x : Nat) (rel : Int) (col : Int) (wh : Int) (zrel : zr rel) (zcol : zr col) (zwh : zr wh) (hv : gInv g gh R AR I AI) (hx : xS g gh R AR x pA bA nA) (hlen : (I pA 1).toInt = (nr : Int)) (hln : ∀ r, r < nr → lnC (I (rob AR (gh 6 pA) r)) (AI (gh 3 (rob AR (gh 6 pA) r))) (cc r)) (hbg : ∀ r, r < nr → bgOK (rfC gh AR I AI bA) cl r) (hst : l.stackTraces = false) : gMetX l g yX6_column tsX6_column rmX6_columnh [.ref x, .int (iI rel), .int (iI col), .int (iI wh)] (I, R, J, AI, AJ, AR) (gQi g (fun (z : Int) (w : gS) => R = w.2.1 ∧ J = w.2.2.1 ∧ AJ = w.2.2.2.2.1 ∧ AR = w.2.2.2.2.2 ∧ (gInv g gh R AR (w.1) (w.2.2.2.1)) ∧ (rF g I (w.1)) ∧ (∀ b, b ≠ gh 40 0 → (w.1) b = I b) ∧ (∀ b, b ≠ gh 29 0 → b ≠ gh 0 (gh 40 0) → (w.2.2.2.1) b = AI b) ∧ ((clX nr ((rfC gh AR I AI bA rel.toNat)).1 ((cc rel.toNat).1 1) rel col wh) ∧ clP ((rfC gh AR I AI bA rel.toNat)).2 ((rfC gh AR I AI bA rel.toNat)).1 col wh z))) (fun w : gS => R = w.2.1 ∧ J = w.2.2.1 ∧ AJ = w.2.2.2.2.1 ∧ AR = w.2.2.2.2.2 ∧ (gInv g gh R AR (w.1) (w.2.2.2.1)) ∧ (rF g I (w.1)) ∧ (∀ b, b ≠ gh 40 0 → (w.1) b = I b) ∧ (∀ b, b ≠ gh 29 0 → b ≠ gh 0 (gh 40 0) → (w.2.2.2.1) b = AI b) ∧ (¬ (clX nr ((rfC gh AR I AI bA rel.toNat)).1 ((cc rel.toNat).1 1) rel col wh))) := sorry
def rmL_columnh : Room := { frames := 7, cells := 1, slots := 6, locals := 154 }
set_option maxHeartbeats 4000000 in
set_option maxRecDepth 100000 in
/-- column, caught -/
theorem c_L_columnh (l : Launch) (g : gG) (gh : gGh) (pA bA nA : Nat) (nr : Nat) (cc : Nat → LC) (cl : Nat → Int) (I : gI) (R : gR) (J : gJ) (AI : gI) (AJ : gJ) (AR : gR) (x : Nat) (rel : Int) (col : Int) (wh : Int) (ou : Nat) (zrel : zr rel) (zcol : zr col) (zwh : zr wh) (hv : gInv g gh R AR I AI) (hx : xS g gh R AR x pA bA nA) (hou : gAr g ou 10 1) (hlen : (I pA 1).toInt = (nr : Int)) (hln : ∀ r, r < nr → lnC (I (rob AR (gh 6 pA) r)) (AI (gh 3 (rob AR (gh 6 pA) r))) (cc r)) (hbg : ∀ r, r < nr → bgOK (rfC gh AR I AI bA) cl r) (hst : l.stackTraces = false) : gMetX l g yL_column tsL_column rmL_columnh [.ref x, .int (iI rel), .int (iI col), .int (iI wh), .ref ou] (I, R, J, AI, AJ, AR) (gQi g (fun (z : Int) (w : gS) => R = w.2.1 ∧ J = w.2.2.1 ∧ AR = w.2.2.2.2.2 ∧ (gInv g gh R AR (w.1) (w.2.2.2.1)) ∧ (rF g I (w.1)) ∧ (z = 0 ∨ z = 1) ∧ (∀ b, b ≠ gh 40 0 → (w.1) b = I b) ∧ (∀ b, b ≠ gh 29 0 → b ≠ gh 0 (gh 40 0) → (w.2.2.2.1) b = AI b) ∧ ((z = 0 ∧ ∃ v9 : Int, ((clX nr ((rfC gh AR I AI bA rel.toNat)).1 ((cc rel.toNat).1 1) rel col wh) ∧ clP ((rfC gh AR I AI bA rel.toNat)).2 ((rfC gh AR I AI bA rel.toNat)).1 col wh v9) ∧ zr v9 ∧ (w.2.2.2.2.1) ou 0 = (iI v9).toInt64) ∨ (z = 1 ∧ (¬ (clX nr ((rfC gh AR I AI bA rel.toNat)).1 ((cc rel.toNat).1 1) rel col wh)))) ∧ (∀ b, b ≠ ou → (w.2.2.2.2.1) b = AJ b))) (fun _ : gS => False) := sorry

end

section
def rmX6_commitg : Room := { frames := 7, cells := 0, slots := 0, locals := 214 }
set_option maxHeartbeats 4000000 in
set_option maxRecDepth 100000 in
/-- commit -/
theorem c_X6_commitg (l : Launch) (g : gG) (gh : gGh) (pA bA nA : Nat) (nb nr : Nat) (cc : Nat → LC) (cl : Nat → Int) (I : gI) (R : gR) (J : gJ) (AI : gI) (AJ : gJ) (AR : gR) (x : Nat) (hv : gInv g gh R AR I AI) (hx : xS g gh R AR x pA bA nA) (h37 : gh 42 0 ≠ 1) (hnb : (I (gh 37 0) 3).toInt = (nb : Int)) (hbt : btO (AI (gh 0 (gh 37 0))) nb) (hlen : (I pA 1).toInt = (nr : Int)) (htb2 : 0 ≤ (I pA 2).toInt ∧ (I pA 2).toInt ≤ (nr : Int) ∧ nr ≤ 16) (hln : ∀ r, r < nr → lnC (I (rob AR (gh 6 pA) r)) (AI (gh 3 (rob AR (gh 6 pA) r))) (cc r)) (hcK : ∀ r : Nat, r < nr → (I pA 2).toInt ≤ (r : Int) → cOK (cc r) r cl ∧ cZ (cc r) r cl) (hbg : ∀ r, r < nr → bgOK (rfC gh AR I AI bA) cl r) (hbz : btZ cl (AI (gh 0 (gh 37 0))) nb) (htb : ∀ i, i < nb → 0 ≤ ((AI (gh 0 (gh 37 0))) (6 * i)).toInt ∧ ((AI (gh 0 (gh 37 0))) (6 * i)).toInt < (I pA 2).toInt) (hD : xD gh AR bA nA) : gMet l g yX6_commit wsX6_commit rmX6_commitg [.ref x] (I, R, J, AI, AJ, AR) (gQi g (fun (z : Int) (w : gS) => J = w.2.2.1 ∧ AJ = w.2.2.2.2.1 ∧ AR = w.2.2.2.2.2 ∧ (gInv g gh (w.2.1) AR (w.1) (w.2.2.2.1)) ∧ (xF g x I (w.1)) ∧ (∃ b1 n1, xS g gh (w.2.1) AR x pA b1 n1) ∧ (∀ b k, b ≠ x ∨ (k ≠ 5 ∧ k ≠ 6) → (w.2.1) b k = R b k) ∧ (((w.1) (gh 37 0) 3).toInt = 0) ∧ (∃ (code : Int) (Fn : RF), rnP (I pA 2).toInt nr cc (∃ i, i < nb ∧ blw (AI (gh 0 (gh 37 0))) (rfC gh AR I AI bA) 1 i) (tbS (AI (gh 0 (gh 37 0))) nb (rfC gh AR I AI bA) 1) code Fn ∧ (code = 0 → stA (I pA 2).toInt cc (tbS (AI (gh 0 (gh 37 0))) nb (rfC gh AR I AI bA) 1) cl Fn nr) ∧ ((code ≠ 0 ∧ z = code ∧ xS g gh (w.2.1) AR x pA bA nA ∧ cmS gh AR x bA I AI (w.1) (w.2.2.2.1) ∧ (w.1) x 14 = I x 14 ∧ (w.1) x 15 = I x 15 ∧ (w.1) x 16 = I x 16 ∧ (w.1) x 17 = I x 17 + 1) ∨ (code = 0 ∧ xS g gh (w.2.1) AR x pA nA bA ∧ cmY gh AR x bA nA nr (I pA 2).toInt I AI nb Fn z (w.1) (w.2.2.2.1)))) ∧ ((w.1) (gh 38 0) 3 = I (gh 38 0) 3) ∧ (∀ y, gO g y 0 → (w.2.2.2.1) (gh 3 y) = AI (gh 3 y)))) := sorry
def rmX6_wouldg : Room := { frames := 7, cells := 0, slots := 0, locals := 214 }
set_option maxHeartbeats 4000000 in
set_option maxRecDepth 100000 in
/-- would -/
theorem c_X6_wouldg (l : Launch) (g : gG) (gh : gGh) (pA bA nA : Nat) (nb nr : Nat) (cc : Nat → LC) (cl : Nat → Int) (I : gI) (R : gR) (J : gJ) (AI : gI) (AJ : gJ) (AR : gR) (x : Nat) (rel : Int) (zrel : zr rel) (hv : gInv g gh R AR I AI) (hx : xS g gh R AR x pA bA nA) (hnb : (I (gh 37 0) 3).toInt = (nb : Int)) (hbt : btO (AI (gh 0 (gh 37 0))) nb) (hlen : (I pA 1).toInt = (nr : Int)) (htb2 : 0 ≤ (I pA 2).toInt ∧ (I pA 2).toInt ≤ (nr : Int) ∧ nr ≤ 16) (hln : ∀ r, r < nr → lnC (I (rob AR (gh 6 pA) r)) (AI (gh 3 (rob AR (gh 6 pA) r))) (cc r)) (hcK : ∀ r : Nat, r < nr → (I pA 2).toInt ≤ (r : Int) → cOK (cc r) r cl ∧ cZ (cc r) r cl) (hbg : ∀ r, r < nr → bgOK (rfC gh AR I AI bA) cl r) (hbz : btZ cl (AI (gh 0 (gh 37 0))) nb) (htb : ∀ i, i < nb → 0 ≤ ((AI (gh 0 (gh 37 0))) (6 * i)).toInt ∧ ((AI (gh 0 (gh 37 0))) (6 * i)).toInt < (I pA 2).toInt) (hD : xD gh AR bA nA) : gMet l g yX6_would wsX6_would rmX6_wouldg [.ref x, .int (iI rel)] (I, R, J, AI, AJ, AR) (gQi g (fun (z : Int) (w : gS) => R = w.2.1 ∧ J = w.2.2.1 ∧ AJ = w.2.2.2.2.1 ∧ AR = w.2.2.2.2.2 ∧ (gInv g gh R AR (w.1) (w.2.2.2.1)) ∧ (rF g I (w.1)) ∧ (((rel < 0 ∨ (nr : Int) ≤ rel) ∧ z = -1) ∨ ((0 ≤ rel ∧ rel < (nr : Int)) ∧ ∃ (code : Int) (Fn : RF), rnP (I pA 2).toInt nr cc (∃ i, i < nb ∧ blw (AI (gh 0 (gh 37 0))) (rfC gh AR I AI bA) 1 i) (tbS (AI (gh 0 (gh 37 0))) nb (rfC gh AR I AI bA) 1) code Fn ∧ (code ≠ 0 → z = code) ∧ (code = 0 → z = (((Fn rel.toNat).1 : Nat) : Int)))) ∧ (cmS gh AR x bA I AI (w.1) (w.2.2.2.1) ∧ (w.1) x = I x ∧ (w.1) (gh 37 0) = I (gh 37 0) ∧ (w.2.2.2.1) (gh 0 (gh 37 0)) = AI (gh 0 (gh 37 0)) ∧ (w.1) (gh 38 0) = I (gh 38 0)) ∧ (∀ y, gO g y 0 → (w.2.2.2.1) (gh 3 y) = AI (gh 3 y)))) := sorry
def rmX6_undog : Room := { frames := 7, cells := 0, slots := 0, locals := 214 }
set_option maxHeartbeats 4000000 in
set_option maxRecDepth 100000 in
/-- undo -/
theorem c_X6_undog (l : Launch) (g : gG) (gh : gGh) (pA bA nA : Nat) (nb nr : Nat) (cc : Nat → LC) (cl : Nat → Int) (I : gI) (R : gR) (J : gJ) (AI : gI) (AJ : gJ) (AR : gR) (x : Nat) (hv : gInv g gh R AR I AI) (hx : xS g gh R AR x pA bA nA) (hnb : (I (rob AR (gh 36 0) (((I x 14).toInt + 7) % 8).toNat) 3).toInt = (nb : Int)) (hbt : 0 < (I x 15).toInt → (btO (AI (gh 0 (rob AR (gh 36 0) (((I x 14).toInt + 7) % 8).toNat))) nb)) (hlen : (I pA 1).toInt = (nr : Int)) (htb2 : 0 ≤ (I pA 2).toInt ∧ (I pA 2).toInt ≤ (nr : Int) ∧ nr ≤ 16) (hln : ∀ r, r < nr → lnC (I (rob AR (gh 6 pA) r)) (AI (gh 3 (rob AR (gh 6 pA) r))) (cc r)) (hcK : ∀ r : Nat, r < nr → (I pA 2).toInt ≤ (r : Int) → cOK (cc r) r cl ∧ cZ (cc r) r cl) (hbg : ∀ r, r < nr → bgOK (rfC gh AR I AI bA) cl r) (hbz : 0 < (I x 15).toInt → (btZ cl (AI (gh 0 (rob AR (gh 36 0) (((I x 14).toInt + 7) % 8).toNat))) nb)) (htb : 0 < (I x 15).toInt → (∀ i, i < nb → 0 ≤ ((AI (gh 0 (rob AR (gh 36 0) (((I x 14).toInt + 7) % 8).toNat))) (6 * i)).toInt ∧ ((AI (gh 0 (rob AR (gh 36 0) (((I x 14).toInt + 7) % 8).toNat))) (6 * i)).toInt < (I pA 2).toInt)) (hD : xD gh AR bA nA) (hok : 0 < (I x 15).toInt → (∃ F : RF, rnP (I pA 2).toInt nr cc (∃ i, i < nb ∧ blw (AI (gh 0 (rob AR (gh 36 0) (((I x 14).toInt + 7) % 8).toNat))) (rfC gh AR I AI bA) (-1) i) (tbS (AI (gh 0 (rob AR (gh 36 0) (((I x 14).toInt + 7) % 8).toNat))) nb (rfC gh AR I AI bA) (-1)) 0 F)) : gMet l g yX6_undo wsX6_undo rmX6_undog [.ref x] (I, R, J, AI, AJ, AR) (gQi g (fun (z : Int) (w : gS) => J = w.2.2.1 ∧ AJ = w.2.2.2.2.1 ∧ AR = w.2.2.2.2.2 ∧ (gInv g gh (w.2.1) AR (w.1) (w.2.2.2.1)) ∧ (xF g x I (w.1)) ∧ (∃ b1 n1, xS g gh (w.2.1) AR x pA b1 n1) ∧ (∀ b k, b ≠ x ∨ (k ≠ 5 ∧ k ≠ 6) → (w.2.1) b k = R b k) ∧ (-1 ≤ z ∧ z ≤ 8) ∧ (((I x 15).toInt = 0 ∧ z = -1 ∧ (w.1) = I ∧ (w.2.2.2.1) = AI ∧ (w.2.1) = R) ∨ (0 < (I x 15).toInt ∧ z = (I x 15).toInt - 1 ∧ xS g gh (w.2.1) AR x pA nA bA ∧ ∃ Fn : RF, rnP (I pA 2).toInt nr cc (∃ i, i < nb ∧ blw (AI (gh 0 (rob AR (gh 36 0) (((I x 14).toInt + 7) % 8).toNat))) (rfC gh AR I AI bA) (-1) i) (tbS (AI (gh 0 (rob AR (gh 36 0) (((I x 14).toInt + 7) % 8).toNat))) nb (rfC gh AR I AI bA) (-1)) 0 Fn ∧ cmU gh AR x bA nA nr I AI Fn (w.1) (w.2.2.2.1))) ∧ (∀ y, gO g y 0 → (w.2.2.2.1) (gh 3 y) = AI (gh 3 y)))) := sorry
def rmX6_differsg : Room := { frames := 7, cells := 0, slots := 0, locals := 214 }
set_option maxHeartbeats 4000000 in
set_option maxRecDepth 100000 in
/-- differs -/
theorem c_X6_differsg (l : Launch) (g : gG) (gh : gGh) (pA bA nA : Nat) (nr : Nat) (cc : Nat → LC) (cl : Nat → Int) (I : gI) (R : gR) (J : gJ) (AI : gI) (AJ : gJ) (AR : gR) (x : Nat) (rel : Int) (zrel : zr rel) (hv : gInv g gh R AR I AI) (hx : xS g gh R AR x pA bA nA) (hlen : (I pA 1).toInt = (nr : Int)) (htb2 : 0 ≤ (I pA 2).toInt ∧ (I pA 2).toInt ≤ (nr : Int) ∧ nr ≤ 16) (hln : ∀ r, r < nr → lnC (I (rob AR (gh 6 pA) r)) (AI (gh 3 (rob AR (gh 6 pA) r))) (cc r)) (hcK : ∀ r : Nat, r < nr → (I pA 2).toInt ≤ (r : Int) → cOK (cc r) r cl ∧ cZ (cc r) r cl) (hbg : ∀ r, r < nr → bgOK (rfC gh AR I AI bA) cl r) (hD : xD gh AR bA nA) (hn0 : (I (gh 38 0) 3).toInt = 0) (hok : ∃ F : RF, rnP (I pA 2).toInt nr cc (∃ i, i < 0 ∧ blw (AI (gh 0 (gh 38 0))) (rfC gh AR I AI bA) 1 i) (tbS (AI (gh 0 (gh 38 0))) 0 (rfC gh AR I AI bA) 1) 0 F) : gMet l g yX6_differs wsX6_differs rmX6_differsg [.ref x, .int (iI rel)] (I, R, J, AI, AJ, AR) (gQi g (fun (z : Int) (w : gS) => R = w.2.1 ∧ J = w.2.2.1 ∧ AJ = w.2.2.2.2.1 ∧ AR = w.2.2.2.2.2 ∧ (gInv g gh R AR (w.1) (w.2.2.2.1)) ∧ (rF g I (w.1)) ∧ (((rel < 0 ∨ (nr : Int) ≤ rel) ∧ z = -1) ∨ ((0 ≤ rel ∧ rel < (nr : Int)) ∧ ∃ Fn : RF, rnP (I pA 2).toInt nr cc (∃ i, i < 0 ∧ blw (AI (gh 0 (gh 38 0))) (rfC gh AR I AI bA) 1 i) (tbS (AI (gh 0 (gh 38 0))) 0 (rfC gh AR I AI bA) 1) 0 Fn ∧ ∃ (f : Nat → Int32) (k : Nat), isB f k (fun t => bS (Fn rel.toNat).2 (Fn rel.toNat).1 t + iI (-1) * bS ((rfC gh AR I AI bA) rel.toNat).2 ((rfC gh AR I AI bA) rel.toNat).1 t) zM ∧ z = (k : Int))) ∧ (cmS gh AR x bA I AI (w.1) (w.2.2.2.1) ∧ (w.1) x = I x ∧ (w.1) (gh 37 0) = I (gh 37 0) ∧ (w.2.2.2.1) (gh 0 (gh 37 0)) = AI (gh 0 (gh 37 0)) ∧ (w.1) (gh 38 0) = I (gh 38 0)) ∧ (∀ y, gO g y 0 → (w.2.2.2.1) (gh 3 y) = AI (gh 3 y)))) := sorry

end

section
/-! the engine's state on both sides, as the law keeps it: a side is its relations and the rounds of its rings -/
abbrev SR8 : Type := Nat → (Nat × (Nat → Int32)) × Int32
def sF8 (s : SR8) : RF := fun r => (s r).1
def sM8 (s : SR8) : Nat → Int32 := fun r => (s r).2
def oS8 (F : RF) (r : Nat) : Tup → Int32 := fun t => bS (F r).2 (F r).1 t
def rG8 (tbs : Int) (cl : Nat → Int) (f : Nat → Int32) (i : Nat) : Prop := f (6 * i + 5) ≠ 0 ∧ zT (cl (f (6 * i)).toInt.toNat) (btu f i) ∧ 0 ≤ (f (6 * i)).toInt ∧ (f (6 * i)).toInt < tbs
/-- a batch -/
def bG8 (tbs : Int) (cl : Nat → Int) (f : Nat → Int32) (n : Nat) : Prop := srt 5 f (n : Int) ∧ ∀ i, i < n → rG8 tbs cl f i
/-- good relations: tables never below 0, views as reckoned -/
def gF8 (tbs : Int) (cc : Nat → LC) (cl : Nat → Int) (nr : Nat) (F : RF) : Prop := stA tbs cc (oS8 F) cl F nr ∧ ∀ r : Nat, (r : Int) < tbs → ∀ t, 0 ≤ (oS8 F r t).toInt
def gd8 (tbs : Int) (cc : Nat → LC) (cl : Nat → Int) (nr : Nat) (s : SR8) : Prop := gF8 tbs cc cl nr (sF8 s) ∧ rdA tbs cc (sF8 s) (sM8 s) nr
/-- a batch leads from one to the next -/
def st8 (tbs : Int) (cl : Nat → Int) (F F' : RF) (h : Nat × (Nat → Int32)) : Prop := bG8 tbs cl h.2 h.1 ∧ ∀ r : Nat, (r : Int) < tbs → ∀ t, oS8 F' r t = oS8 F r t + cS h.2 (r : Int) h.1 t
def nx8 (S : Int → SR8) (u k : Int) : SR8 := if k + 1 = u then S 0 else S (2 + k)
def eS8 (tbs : Int) (nr : Nat) (cc : Nat → LC) (cl : Nat → Int) (N H : RF) (S : Int → SR8) (e u : Int) : Prop :=
  ((0 ≤ e ∧ e < 8) ∧ 0 ≤ u ∧ u ≤ 8) ∧ (∀ r, r < nr → rfA N (sF8 (S 0)) r) ∧ gd8 tbs cc cl nr (S 0) ∧
  ∀ k : Int, 0 ≤ k → k < u → gd8 tbs cc cl nr (S (1 + k)) ∧ st8 tbs cl (sF8 (S (1 + k))) (sF8 (nx8 S u k)) (H ((e + 8 - u + k) % 8).toNat)
section ES8
variable {tbs sg : Int} {nr n nb q r : Nat} {cc : Nat → LC} {cl : Nat → Int} {F F' N N' H H' F0 F1 : RF} {S S' : Int → SR8} {s s' : SR8} {e u e' u' z z' : Int} {f f' : Nat → Int32} {T T' : Nat → Tup → Int32} {bl bl' : Prop} {h h' : Nat × (Nat → Int32)} {t : Tup}
/-! batches -/
theorem bG_o (h : bG8 tbs cl f n) : btO f n := sorry
theorem bG_z (h : bG8 tbs cl f n) : btZ cl f n := sorry
theorem bG_t (h : bG8 tbs cl f n) : ∀ i, i < n → 0 ≤ (f (6 * i)).toInt ∧ (f (6 * i)).toInt < tbs := sorry
theorem bG_0 : bG8 tbs cl f 0 := sorry
theorem rG_m {i i' : Nat} (h : rG8 tbs cl f i) (a : ∀ t, t < 6 → f' (6 * i' + t) = f (6 * i + t)) : rG8 tbs cl f' i' := sorry
theorem srt_c {K : Nat} (hK : K ≤ 6) (h : srt K f (n : Int)) (e : ∀ j, j < 6 * n → f' j = f j) : srt K f' (n : Int) := sorry
theorem bG_c (h : bG8 tbs cl f n) (e : ∀ j, j < 6 * n → f' j = f j) : bG8 tbs cl f' n := sorry
theorem ch_G {u : Nat → Int} {tb n z len len1 a b c d : Int} (hcl : ∀ r : Nat, (r : Int) < tbs → 1 ≤ cl r) (h0 : 0 ≤ len) (hG : ∀ i : Nat, (i : Int) < len → rG8 tbs cl f i) (eu : 0 ≤ tb → tb < tbs → u = cky tb a b c d (cl tb.toNat)) (q : chP tbs tb n z len len1 f f' u) : ∀ i : Nat, (i : Int) < len1 → rG8 tbs cl f' i := sorry
/-! sums -/
theorem i1_m (x : Int32) : iI 1 * x = x := sorry
theorem in_m (x : Int32) : iI (-1) * x = -x := sorry
theorem oS_c (h : rfA F F' r) : oS8 F r = oS8 F' r := sorry
theorem tb_1 : tbS f n F 1 r = fun t => oS8 F r t + cS f (r : Int) n t := sorry
theorem tb_m : tbS f n F (-1) r = fun t => oS8 F r t - cS f (r : Int) n t := sorry
theorem tb_c (h : rfA F F' r) : tbS f n F sg r = tbS f n F' sg r := sorry
theorem bl_at {i : Nat} : blw f F sg i ↔ (oS8 F (f (6 * i)).toInt.toNat (btu f i) + iI sg * f (6 * i + 5)).toInt < 0 := sorry
theorem bl_c (hG : bG8 tbs cl f n) (ht : tbs ≤ (nr : Int)) (h : ∀ r, r < nr → rfA F F' r) : (∃ i, i < n ∧ blw f F sg i) ↔ ∃ i, i < n ∧ blw f F' sg i := sorry
theorem cS_i (hG : bG8 tbs cl f n) {i : Nat} (hi : i < n) : cS f (((f (6 * i)).toInt.toNat : Nat) : Int) n (btu f i) = f (6 * i + 5) := sorry
theorem bl_no (hG : bG8 tbs cl f n) (h : ¬ ∃ i, i < n ∧ blw f F 1 i) (h0 : 0 ≤ (oS8 F r t).toInt) : 0 ≤ (oS8 F r t + cS f (r : Int) n t).toInt := sorry
/-! congruence -/
theorem stP_T (e : (q : Int) < tbs → T' q = T q) (h : stP tbs cc T F q) : stP tbs cc T' F q := sorry
theorem stF_T (e : (q : Int) < tbs → T' q = T q) (h : stF tbs cc T F q z) : stF tbs cc T' F q z := sorry
theorem stA_T (e : ∀ q, q < nr → (q : Int) < tbs → T' q = T q) (h : stA tbs cc T cl F nr) : stA tbs cc T' cl F nr := sorry
theorem rnP_T (hb : bl' ↔ bl) (e : ∀ q, q < nr → (q : Int) < tbs → T' q = T q) (h : rnP tbs nr cc bl T z F) : rnP tbs nr cc bl' T' z F := sorry
theorem rn_all (h : rnP tbs nr cc bl T 0 F) : ¬ bl ∧ ∀ q, q < nr → stP tbs cc T F q := sorry
theorem rn_of (hb : ¬ bl) (h : ∀ q, q < nr → stP tbs cc T F q) : rnP tbs nr cc bl T 0 F := sorry
theorem st_tbS (h : stP tbs cc T F q) (hq : (q : Int) < tbs) : oS8 F q = T q := sorry
theorem oS_e (e : F' r = F r) : oS8 F' r = oS8 F r := sorry
theorem gF8_c (hl : cLt tbs nr cc) (ht : tbs ≤ (nr : Int)) (e : ∀ r, r < nr → F' r = F r) (h : gF8 tbs cc cl nr F) : gF8 tbs cc cl nr F' := sorry
theorem gd_c (hl : cLt tbs nr cc) (ht : tbs ≤ (nr : Int)) (h16 : nr ≤ 16) (e : ∀ r, r < 16 → s' r = s r) (h : gd8 tbs cc cl nr s) : gd8 tbs cc cl nr s' := sorry
theorem st_c (ht : tbs ≤ (nr : Int)) (h16 : nr ≤ 16) (e0 : ∀ r, r < 16 → F r = N r) (e1 : ∀ r, r < 16 → F' r = N' r) (eh : h'.1 = h.1 ∧ ∀ j, j < 6 * h.1 → h'.2 j = h.2 j) (k : st8 tbs cl N N' h) : st8 tbs cl F F' h' := sorry
def sE8 (s' s : SR8) : Prop := ∀ r, r < 16 → s' r = s r
def hE8 (h' h : Nat × (Nat → Int32)) : Prop := h'.1 = h.1 ∧ ∀ j, j < 6 * h.1 → h'.2 j = h.2 j
theorem hE_r : hE8 h h := sorry
theorem sE_f (h : sE8 s' s) : ∀ r, r < 16 → sF8 s' r = sF8 s r := sorry
/-- nothing of it has changed -/
theorem eS_c (hl : cLt tbs nr cc) (ht : tbs ≤ (nr : Int)) (h16 : nr ≤ 16) (h : eS8 tbs nr cc cl N H S e u) (eN : ∀ r, r < nr → N' r = N r) (eH : ∀ k, k < 8 → H' k = H k) (eS : ∀ sd : Int, 0 ≤ sd → sd ≤ 8 → sE8 (S' sd) (S sd)) (ee : e' = e) (eu : u' = u) : eS8 tbs nr cc cl N' H' S' e' u' := sorry
/-- what a batch makes of good relations is good -/
theorem cm_gd (hG : bG8 tbs cl f nb) (h0 : gF8 tbs cc cl nr F0) (a : rnP tbs nr cc (∃ i, i < nb ∧ blw f F0 1 i) (tbS f nb F0 1) 0 F1) (b : stA tbs cc (tbS f nb F0 1) cl F1 nr) (ht : tbs ≤ (nr : Int)) : gF8 tbs cc cl nr F1 ∧ ∀ r : Nat, (r : Int) < tbs → ∀ t, oS8 F1 r t = oS8 F0 r t + cS f (r : Int) nb t := sorry
/-- both sides answer alike, and go on alike -/
theorem cm_u (hl : cLt tbs nr cc) (ht : tbs ≤ (nr : Int)) (hG : bG8 tbs cl f nb) (hN : ∀ r, r < nr → rfA N F0 r) (a : rnP tbs nr cc (∃ i, i < nb ∧ blw f N sg i) (tbS f nb N sg) z F) (b : rnP tbs nr cc (∃ i, i < nb ∧ blw f F0 sg i) (tbS f nb F0 sg) z' F') : z = z' ∧ (z = 0 → ∀ q, q < nr → rfA F F' q) := sorry
/-- a commit that is taken -/
theorem eS_cm (hl : cLt tbs nr cc) (ht : tbs ≤ (nr : Int)) (h16 : nr ≤ 16) (h : eS8 tbs nr cc cl N H S e u) (hG : bG8 tbs cl f nb) {s1 : SR8} (a : rnP tbs nr cc (∃ i, i < nb ∧ blw f N 1 i) (tbS f nb N 1) 0 F) (b : rnP tbs nr cc (∃ i, i < nb ∧ blw f (sF8 (S 0)) 1 i) (tbS f nb (sF8 (S 0)) 1) 0 (sF8 s1)) (c : stA tbs cc (tbS f nb (sF8 (S 0)) 1) cl (sF8 s1) nr) (d : rdA tbs cc (sF8 s1) (sM8 s1) nr)
    (eN : ∀ r, r < nr → N' r = F r) (eH : ∀ k, k < 8 → k ≠ e.toNat → H' k = H k) (eH1 : (H' e.toNat).1 = nb ∧ ∀ j, j < 6 * nb → (H' e.toNat).2 j = f j) (e0 : sE8 (S' 0) s1) (ee : e' = (e + 1) % 8)
    (hb : (u < 8 ∧ u' = u + 1 ∧ (∀ j : Int, 0 ≤ j → j < u → sE8 (S' (1 + j)) (S (1 + j))) ∧ sE8 (S' (1 + u)) (S 0)) ∨ (u = 8 ∧ u' = 8 ∧ (∀ j : Int, 0 ≤ j → j < 7 → sE8 (S' (1 + j)) (S (2 + j))) ∧ sE8 (S' 8) (S 0))) : eS8 tbs nr cc cl N' H' S' e' u' := sorry
/-- the last step can be taken back -/
theorem eS_un (ht : tbs ≤ (nr : Int)) (h16 : nr ≤ 16) (h : eS8 tbs nr cc cl N H S e u) (hu : 0 < u) (eh : h' = H ((e + 7) % 8).toNat) : bG8 tbs cl h'.2 h'.1 ∧ rnP tbs nr cc (∃ i, i < h'.1 ∧ blw h'.2 N (-1) i) (tbS h'.2 h'.1 N (-1)) 0 (sF8 (S u)) := sorry
/-- it is taken back -/
theorem eS_ud (hl : cLt tbs nr cc) (ht : tbs ≤ (nr : Int)) (h16 : nr ≤ 16) (h : eS8 tbs nr cc cl N H S e u) (hu : 0 < u) (eh : h' = H ((e + 7) % 8).toNat) (a : rnP tbs nr cc (∃ i, i < h'.1 ∧ blw h'.2 N (-1) i) (tbS h'.2 h'.1 N (-1)) 0 F)
    (eN : ∀ r, r < nr → N' r = F r) (eH : ∀ k, k < 8 → H' k = H k) (e0 : sE8 (S' 0) (S u)) (eS : ∀ sd : Int, 1 ≤ sd → sd ≤ 8 → sE8 (S' sd) (S sd)) (ee : e' = (e + 7) % 8) (eu : u' = u - 1) : eS8 tbs nr cc cl N' H' S' e' u' := sorry
/-- nothing asked, nothing changes -/
theorem eS_df (ht : tbs ≤ (nr : Int)) (h : eS8 tbs nr cc cl N H S e u) : rnP tbs nr cc (∃ i, i < 0 ∧ blw f N 1 i) (tbS f 0 N 1) 0 (sF8 (S 0)) := sorry
/-! all empty -/
theorem is_0 {M : Tup → Int32} {S0 : Tup → Int32} (h : ∀ t, S0 t = 0) : isB f 0 S0 M := sorry
theorem oS_0 (h : (F r).1 = 0) : oS8 F r t = 0 := sorry
theorem sJ_0 {c : LC} {x y : Nat → Int32} {m n : Nat} (h : n = 0) : sJ c x y m n = s0T := sorry
theorem vw_0 {c : LC} (hc : cOK c r cl) (hF : ∀ q, q < r → (F q).1 = 0) : vwP c F 0 f 0 := sorry
theorem rd_0 {c : LC} {x y g : Nat → Int32} {n m : Nat} (hn : n = 0) : rgY c x n y m 0 g 0 := sorry
theorem gd_0 (hc : ∀ r : Nat, r < nr → tbs ≤ (r : Int) → cOK (cc r) r cl ∧ cZ (cc r) r cl) (ht : tbs ≤ (nr : Int)) (h : ∀ r, r < nr → (s r).1.1 = 0 ∧ (s r).2 = 0) : gd8 tbs cc cl nr s := sorry
/-- behind a plan that is taken -/
theorem eS_0 (hc : ∀ r : Nat, r < nr → tbs ≤ (r : Int) → cOK (cc r) r cl ∧ cZ (cc r) r cl) (ht : tbs ≤ (nr : Int)) (he : 0 ≤ e ∧ e < 8) (hN : ∀ r, r < nr → (N r).1 = 0) (hS : ∀ r, r < nr → (S 0 r).1.1 = 0 ∧ (S 0 r).2 = 0) (hu : u = 0) : eS8 tbs nr cc cl N H S e u := sorry
/-! what the last change moved -/
def mv8 (s s9 : SR8) (r : Nat) : Tup → Int32 := mvS (sF8 s r).2 (sF8 s r).1 (sF8 s9 r).2 (sF8 s9 r).1
theorem mv_at {s9 : SR8} : mv8 s s9 r = fun t => oS8 (sF8 s) r t + iI (-1) * oS8 (sF8 s9) r t := sorry
theorem mv_e {s9 s9' : SR8} (h0 : sE8 s' s) (h9 : sE8 s9' s9) (hr : r < 16) : mv8 s' s9' r = mv8 s s9 r := sorry
theorem mv_c {s9 : SR8} (h0 : rfA F (sF8 s) r) (h9 : rfA N (sF8 s9) r) : (fun t => bS (F r).2 (F r).1 t + iI (-1) * bS (N r).2 (N r).1 t) = mv8 s s9 r := sorry
theorem mv_0 {s9 : SR8} (h0 : (s r).1.1 = 0) (h9 : (s9 r).1.1 = 0) : isB f 0 (mv8 s s9 r) zM := sorry
/-- differs: nothing -/
theorem df_k {k : Nat} (h0 : rfA F F' r) (h1 : rfA N F' r) (h : isB f k (fun t => bS (F r).2 (F r).1 t + iI (-1) * bS (N r).2 (N r).1 t) zM) : k = 0 := sorry
end ES8


end

section
/-! what the law keeps of the engine over both systems: the plans are alike (lP8), the bags, the history, the numbers (lQ8), the batch (lB8) -/
def lP8 (g : gG) (I : gI) (AR : gR) (AI : gI) (pA nr : Nat) (tbs : Int) (cc : Nat → LC) (cl : Nat → Int) : Prop :=
  (I pA 1).toInt = (nr : Int) ∧ (I pA 2).toInt = tbs ∧ (0 ≤ tbs ∧ tbs ≤ (nr : Int) ∧ nr ≤ 16) ∧
  (∀ r, r < nr → lnC (I (rob AR (hG (gZ g) 6 pA) r)) (AI (hG (gZ g) 3 (rob AR (hG (gZ g) 6 pA) r))) (cc r)) ∧
  ((I (gZ g + 205) 2).toInt = (nr : Int) ∧ plM9 (AI (gZ g + 206)) tbs nr cc cl) ∧
  ∀ r : Nat, r < nr → tI (AI (gZ g + 206)) (40 * (r : Int) + 1) = cl r ∧ (1 ≤ cl r ∧ cl r ≤ 4) ∧ (cc r).1 1 = cl r ∧ tI (AI (gZ g + 206)) (40 * (r : Int)) = (cc r).1 0
def lQ8 (g : gG) (I : gI) (AR : gR) (AI : gI) (bA nA nr : Nat) (tbs : Int) (cc : Nat → LC) (cl : Nat → Int) : Prop :=
  eS8 tbs nr cc cl (rfC (hG (gZ g)) AR I AI bA) (rfC (hG (gZ g)) AR I AI (hG (gZ g) 36 0)) (rsM (hGm (gZ g)) AI) (I (gZ g + 0) 14).toInt (I (gZ g + 0) 15).toInt ∧
  ((I (gZ g + 0) 15).toInt = (I (gZ g + 205) 8).toInt ∧ I (gZ g + 0) 16 = I (gZ g + 205) 9 ∧ I (gZ g + 0) 17 = I (gZ g + 205) 10) ∧
  (∀ r, r < nr → isB (rfC (hG (gZ g)) AR I AI (hG (gZ g) 35 0) r).2 (rfC (hG (gZ g)) AR I AI (hG (gZ g) 35 0) r).1 (mv8 (rsM (hGm (gZ g)) AI 0) (rsM (hGm (gZ g)) AI 9) r) zM ∧ bgOK (rfM (hGm (gZ g)) AI 9) cl r) ∧
  xD (hG (gZ g)) AR bA nA ∧ (I (hG (gZ g) 38 0) 3).toInt = 0
def lB8 (g : gG) (I AI : gI) (tbs : Int) (cl : Nat → Int) : Prop := bG8 tbs cl (AI (gZ g + 180)) (I (gZ g + 179) 3).toInt.toNat
def lE8 (g : gG) (I : gI) (AR : gR) (AI : gI) (pA bA nA : Nat) : Prop :=
  ∃ (nr : Nat) (tbs : Int) (cc : Nat → LC) (cl : Nat → Int), lP8 g I AR AI pA nr tbs cc cl ∧ lQ8 g I AR AI bA nA nr tbs cc cl ∧ lB8 g I AI tbs cl
section LE8
variable {g : gG} {M : gI × gI} {I AI I1 AI1 I2 AI2 I0 AI0 : gI} {R R1 R2 AR : gR} {pA bA nA nr nb q : Nat} {tbs : Int} {cc : Nat → LC} {cl : Nat → Int}
/-! the class does not touch the reference -/
theorem e_t5 (hv1 : gInv (gW g M) (ghF 0 (hG (gZ g))) R AR I1 AI1) {o : Nat} (ho : t9 o = 5) : AI1 (gZ g + o) = M.2 (gZ g + o) := sorry
theorem e_mo (hOK : gOK g) (hv1 : gInv (gW g M) (ghF 0 (hG (gZ g))) R AR I1 AI1) : I1 (gZ g + 205) = M.1 (gZ g + 205) := sorry
theorem e_rs (hv1 : gInv (gW g (I, AI)) (ghF 0 (hG (gZ g))) R AR I1 AI1) : rsM (hGm (gZ g)) AI1 = rsM (hGm (gZ g)) AI := sorry
theorem e_rf (hv1 : gInv (gW g (I, AI)) (ghF 0 (hG (gZ g))) R AR I1 AI1) : rfM (hGm (gZ g)) AI1 = rfM (hGm (gZ g)) AI := sorry
/-! the reference does not touch the class -/
theorem e_n1 (h : mInv (gW g (I1, AI1)) (hGm (gZ g)) R2 I2 AI2) : ∀ b c, gO (gW g (I2, AI2)) b c → c ≠ 7 → I2 b = I1 b := sorry
theorem e_n2 (h : mInv (gW g (I1, AI1)) (hGm (gZ g)) R2 I2 AI2) : ∀ b n, hG (gZ g) 9 b = n → n ≠ 5 → AI2 b = AI1 b := sorry
theorem e_n2c (h : mInv (gW g (I1, AI1)) (hGc (gZ g)) R2 I2 AI2) : ∀ b n, hG (gZ g) 9 b = n → n ≠ 5 → AI2 b = AI1 b := sorry
/-! rows of Rows -/
theorem e_35 (hv : gInv (gW g M) (ghF 0 (hG (gZ g))) R AR I0 AI0) (hx : gO (gW g M) (gZ g + 0) 6) : isRA (gW g M) (hG (gZ g)) AR (hG (gZ g) 35 0) 16 240 4 := sorry
theorem e_36 (hv : gInv (gW g M) (ghF 0 (hG (gZ g))) R AR I0 AI0) (hx : gO (gW g M) (gZ g + 0) 6) : isRA (gW g M) (hG (gZ g)) AR (hG (gZ g) 36 0) 8 40 5 := sorry
theorem e_14 (hv : gInv (gW g M) (ghF 0 (hG (gZ g))) R AR I0 AI0) (hx : gO (gW g M) (gZ g + 0) 6) : 0 ≤ (I0 (gZ g + 0) 14).toInt ∧ (I0 (gZ g + 0) 14).toInt ≤ 7 := sorry
theorem e_len (hv : gInv (gW g M) (ghF 0 (hG (gZ g))) R AR I0 AI0) {o : Nat} (ho : gO (gW g M) o 4) : 0 ≤ (I0 o 3).toInt := sorry
theorem e_c1 (hv : gInv (gW g M) (ghF 0 (hG (gZ g))) R AR I0 AI0) {o : Nat} (ho : gO (gW g M) o 4) : hG (gZ g) 9 (hG (gZ g) 0 o) = 1 := sorry
theorem e_c2 (hv : gInv (gW g M) (ghF 0 (hG (gZ g))) R AR I0 AI0) {y : Nat} (hy : gO (gW g M) y 0) : hG (gZ g) 9 (hG (gZ g) 3 y) = 2 := sorry
theorem e_0i (hv : gInv (gW g M) (ghF 0 (hG (gZ g))) R AR I0 AI0) {o o' : Nat} (ho : gO (gW g M) o 4) (ho' : gO (gW g M) o' 4) (h : o ≠ o') : hG (gZ g) 0 o ≠ hG (gZ g) 0 o' := sorry
theorem e_38 (hv : gInv (gW g M) (ghF 0 (hG (gZ g))) R AR I0 AI0) (hx : gO (gW g M) (gZ g + 0) 6) : gO (gW g M) (hG (gZ g) 38 0) 4 ∧ hG (gZ g) 1 (hG (gZ g) 38 0) = 40 ∧ hG (gZ g) 2 (hG (gZ g) 38 0) = 5 := sorry
theorem e_40 (hv : gInv (gW g M) (ghF 0 (hG (gZ g))) R AR I0 AI0) (hx : gO (gW g M) (gZ g + 0) 6) : gO (gW g M) (hG (gZ g) 40 0) 4 ∧ hG (gZ g) 1 (hG (gZ g) 40 0) = 240 ∧ hG (gZ g) 2 (hG (gZ g) 40 0) = 4 := sorry
/-- all Rows stay but o -/
theorem cS_of (hv : gInv (gW g M) (ghF 0 (hG (gZ g))) R AR I0 AI0) (hx : xS (gW g M) (hG (gZ g)) R1 AR (gZ g + 0) pA bA nA) {o : Nat} (ho : gO (gW g M) o 4) (n1 : ∀ i, i < 16 → rob AR bA i ≠ o) (n2 : ∀ i, i < 16 → rob AR (hG (gZ g) 35 0) i ≠ o) (n3 : ∀ i, i < 8 → rob AR (hG (gZ g) 36 0) i ≠ o)
    (fi : ∀ b, gO (gW g M) b 4 → b ≠ o → I1 b = I b) (fa : ∀ b, hG (gZ g) 9 b = 1 → b ≠ hG (gZ g) 0 o → AI1 b = AI b) : cmS (hG (gZ g)) AR (gZ g + 0) bA I AI I1 AI1 := sorry
theorem cS_37 (hv : gInv (gW g M) (ghF 0 (hG (gZ g))) R AR I0 AI0) (hx : xS (gW g M) (hG (gZ g)) R1 AR (gZ g + 0) pA bA nA) (ho : gO (gW g M) (gZ g + 179) 4) (fi : ∀ b, gO (gW g M) b 4 → b ≠ gZ g + 179 → I1 b = I b) (fa : ∀ b, hG (gZ g) 9 b = 1 → b ≠ gZ g + 180 → AI1 b = AI b) : cmS (hG (gZ g)) AR (gZ g + 0) bA I AI I1 AI1 := sorry
theorem cS_40 (hv : gInv (gW g M) (ghF 0 (hG (gZ g))) R AR I0 AI0) (hx : xS (gW g M) (hG (gZ g)) R1 AR (gZ g + 0) pA bA nA) (hD : xD (hG (gZ g)) AR bA nA) (fi : ∀ b, gO (gW g M) b 4 → b ≠ hG (gZ g) 40 0 → I1 b = I b) (fa : ∀ b, hG (gZ g) 9 b = 1 → b ≠ hG (gZ g) 0 (hG (gZ g) 40 0) → AI1 b = AI b) : cmS (hG (gZ g)) AR (gZ g + 0) bA I AI I1 AI1 := sorry
theorem cS_r : cmS (hG (gZ g)) AR (gZ g + 0) bA I AI I AI := sorry
theorem cS_29 (hv : gInv (gW g M) (ghF 0 (hG (gZ g))) R AR I0 AI0) (hx : xS (gW g M) (hG (gZ g)) R1 AR (gZ g + 0) pA bA nA) (fa : ∀ b, hG (gZ g) 9 b = 1 → AI1 b = AI b) : cmS (hG (gZ g)) AR (gZ g + 0) bA I AI I AI1 := sorry
/-- over the reference's call -/
theorem cS_m (hv : gInv (gW g M) (ghF 0 (hG (gZ g))) R AR I0 AI0) (hx : xS (gW g M) (hG (gZ g)) R1 AR (gZ g + 0) pA bA nA) (n1 : ∀ b c, gO (gW g (I2, AI2)) b c → c ≠ 7 → I2 b = I1 b) (n2 : ∀ b n, hG (gZ g) 9 b = n → n ≠ 5 → AI2 b = AI1 b) : cmS (hG (gZ g)) AR (gZ g + 0) bA I1 AI1 I2 AI2 := sorry
/-! what the calls want -/
theorem e_hcK (h : lP8 g I AR AI pA nr tbs cc cl) : ∀ r : Nat, r < nr → tbs ≤ (r : Int) → cOK (cc r) r cl ∧ cZ (cc r) r cl := sorry
theorem e_cLt (h : lP8 g I AR AI pA nr tbs cc cl) : cLt tbs nr cc := sorry
theorem e_gd (h : lQ8 g I AR AI bA nA nr tbs cc cl) : gd8 tbs cc cl nr (rsM (hGm (gZ g)) AI 0) := sorry
theorem e_bgC (h : lQ8 g I AR AI bA nA nr tbs cc cl) : ∀ r, r < nr → bgOK (rfC (hG (gZ g)) AR I AI bA) cl r := sorry
theorem m_bg (hv1 : gInv (gW g (I, AI)) (ghF 0 (hG (gZ g))) R AR I1 AI1) (h : lQ8 g I AR AI bA nA nr tbs cc cl) : ∀ r, r < nr → bgOK (rfM (hGm (gZ g)) AI1 0) cl r := sorry
theorem m_ps (hv1 : gInv (gW g (I, AI)) (ghF 0 (hG (gZ g))) R AR I1 AI1) (h : lQ8 g I AR AI bA nA nr tbs cc cl) : ∀ r : Nat, (r : Int) < tbs → ∀ t, 0 ≤ (bS (rfM (hGm (gZ g)) AI1 0 r).2 (rfM (hGm (gZ g)) AI1 0 r).1 t).toInt := sorry
theorem m_b9 (hv1 : gInv (gW g (I, AI)) (ghF 0 (hG (gZ g))) R AR I1 AI1) (h : lQ8 g I AR AI bA nA nr tbs cc cl) : ∀ r, r < nr → bgOK (rfM (hGm (gZ g)) AI1 9) cl r := sorry
theorem m_vw (hv1 : gInv (gW g (I, AI)) (ghF 0 (hG (gZ g))) R AR I1 AI1) (h : lQ8 g I AR AI bA nA nr tbs cc cl) : ∀ r : Nat, r < nr → tbs ≤ (r : Int) → vwP (cc r) (rfM (hGm (gZ g)) AI1 0) 0 (rfM (hGm (gZ g)) AI1 0 r).2 (rfM (hGm (gZ g)) AI1 0 r).1 := sorry
theorem m_pl (hv1 : gInv (gW g (I, AI)) (ghF 0 (hG (gZ g))) R AR I1 AI1) (h : lP8 g I AR AI pA nr tbs cc cl) : plM9 (AI1 (hGm (gZ g) 50 0)) tbs nr cc cl := sorry
theorem m_mr (hOK : gOK g) (hv1 : gInv (gW g (I, AI)) (ghF 0 (hG (gZ g))) R AR I1 AI1) (h : lP8 g I AR AI pA nr tbs cc cl) : (I1 (gZ g + 205) 2).toInt = (nr : Int) := sorry
theorem m_bt (hv1 : gInv (gW g (I, AI)) (ghF 0 (hG (gZ g))) R AR I1 AI1) (h : lB8 g I AI tbs cl) (h0 : 0 ≤ (I (gZ g + 179) 3).toInt) (hr : ∀ i : Nat, (i : Int) < (I (gZ g + 179) 3).toInt → rwE (AI (gZ g + 180)) (AI (gZ g + 212)) (AI (gZ g + 213)) (AI (gZ g + 214)) i) : btM9 (hGm (gZ g)) AI1 (AI (gZ g + 180)) (I (gZ g + 179) 3).toInt.toNat tbs cl := sorry
/-! a call that leaves the engine as it was -/
theorem lP_k (hOK : gOK g) (hv0 : gInv (gW g (I, AI)) (ghF 0 (hG (gZ g))) R1 AR I1 AI1) (hp : gO (gW g (I, AI)) pA 2) (h : lP8 g I AR AI pA nr tbs cc cl) (fI : ∀ b c, gO (gW g (I, AI)) b c → c ≠ 4 → c ≠ 6 → I1 b = I b) (fA : ∀ y, gO (gW g (I, AI)) y 0 → AI1 (hG (gZ g) 3 y) = AI (hG (gZ g) 3 y))
    (n1 : ∀ b c, gO (gW g (I2, AI2)) b c → c ≠ 7 → I2 b = I1 b) (n2 : ∀ b n, hG (gZ g) 9 b = n → n ≠ 5 → AI2 b = AI1 b) (ht : AI2 (gZ g + 206) = AI1 (gZ g + 206)) (h2 : (I2 (gZ g + 205) 2).toInt = (I1 (gZ g + 205) 2).toInt) : lP8 g I2 AR AI2 pA nr tbs cc cl := sorry
theorem lQ_k (hOK : gOK g) (hv0 : gInv (gW g (I, AI)) (ghF 0 (hG (gZ g))) R1 AR I1 AI1) (hx : xS (gW g (I, AI)) (hG (gZ g)) R1 AR (gZ g + 0) pA bA nA) (hP : lP8 g I AR AI pA nr tbs cc cl) (h : lQ8 g I AR AI bA nA nr tbs cc cl) (fS : cmS (hG (gZ g)) AR (gZ g + 0) bA I AI I1 AI1) (fx : I1 (gZ g + 0) 14 = I (gZ g + 0) 14 ∧ I1 (gZ g + 0) 15 = I (gZ g + 0) 15) (f38 : I1 (hG (gZ g) 38 0) 3 = I (hG (gZ g) 38 0) 3)
    (n1 : ∀ b c, gO (gW g (I2, AI2)) b c → c ≠ 7 → I2 b = I1 b) (n2 : ∀ b n, hG (gZ g) 9 b = n → n ≠ 5 → AI2 b = AI1 b) (hs : ∀ sd : Int, 0 ≤ sd → sd ≤ 9 → sE8 (rsM (hGm (gZ g)) AI2 sd) (rsM (hGm (gZ g)) AI1 sd)) (h8 : I2 (gZ g + 205) 8 = I1 (gZ g + 205) 8) (hn : I2 (gZ g + 0) 16 = I2 (gZ g + 205) 9 ∧ I2 (gZ g + 0) 17 = I2 (gZ g + 205) 10) : lQ8 g I2 AR AI2 bA nA nr tbs cc cl := sorry
theorem lE_k (hOK : gOK g) (hv0 : gInv (gW g (I, AI)) (ghF 0 (hG (gZ g))) R1 AR I1 AI1) (hx : xS (gW g (I, AI)) (hG (gZ g)) R1 AR (gZ g + 0) pA bA nA) (h : lE8 g I AR AI pA bA nA) (fI : ∀ b c, gO (gW g (I, AI)) b c → c ≠ 4 → c ≠ 6 → I1 b = I b) (fA : ∀ y, gO (gW g (I, AI)) y 0 → AI1 (hG (gZ g) 3 y) = AI (hG (gZ g) 3 y)) (fS : cmS (hG (gZ g)) AR (gZ g + 0) bA I AI I1 AI1) (fx : ∀ j, j ≠ 1 → I1 (gZ g + 0) j = I (gZ g + 0) j) (f38 : I1 (hG (gZ g) 38 0) 3 = I (hG (gZ g) 38 0) 3)
    (n1 : ∀ b c, gO (gW g (I2, AI2)) b c → c ≠ 7 → I2 b = I1 b) (n2 : ∀ b n, hG (gZ g) 9 b = n → n ≠ 5 → AI2 b = AI1 b) (ht : AI2 (gZ g + 206) = AI1 (gZ g + 206)) (h2 : (I2 (gZ g + 205) 2).toInt = (I1 (gZ g + 205) 2).toInt)
    (hs : ∀ sd : Int, 0 ≤ sd → sd ≤ 9 → sE8 (rsM (hGm (gZ g)) AI2 sd) (rsM (hGm (gZ g)) AI1 sd)) (h8 : I2 (gZ g + 205) 8 = I1 (gZ g + 205) 8 ∧ I2 (gZ g + 205) 9 = I1 (gZ g + 205) 9 ∧ I2 (gZ g + 205) 10 = I1 (gZ g + 205) 10) (hb : ∀ tbs cl, lB8 g I AI tbs cl → lB8 g I2 AI2 tbs cl) : lE8 g I2 AR AI2 pA bA nA := sorry
/-! the sides over a call of the reference -/
theorem s_all {A B : gI} (h : A = B) : ∀ sd : Int, 0 ≤ sd → sd ≤ 9 → sE8 (rsM (hGm (gZ g)) A sd) (rsM (hGm (gZ g)) B sd) := sorry
theorem s_sdK (h : sdK (hGm (gZ g)) AI1 AI2) : ∀ sd : Int, 0 ≤ sd → sd ≤ 9 → sE8 (rsM (hGm (gZ g)) AI2 sd) (rsM (hGm (gZ g)) AI1 sd) := sorry
theorem s_g (h : ∀ b, b ≠ gZ g + 212 → b ≠ gZ g + 213 → b ≠ gZ g + 214 → b ≠ gZ g + 217 → b ≠ gZ g + 221 → AI2 b = AI1 b) : ∀ sd : Int, 0 ≤ sd → sd ≤ 9 → sE8 (rsM (hGm (gZ g)) AI2 sd) (rsM (hGm (gZ g)) AI1 sd) := sorry
/-! the batch -/
theorem lB_k (e1 : I2 (gZ g + 179) 3 = I (gZ g + 179) 3) (e2 : AI2 (gZ g + 180) = AI (gZ g + 180)) : ∀ tbs cl, lB8 g I AI tbs cl → lB8 g I2 AI2 tbs cl := sorry
theorem lB_0 (e : (I2 (gZ g + 179) 3).toInt = 0) : lB8 g I2 AI2 tbs cl := sorry
theorem lB_ch {f f' : Nat → Int32} {u : Nat → Int} {tb n z len len1 a b c d : Int} {clp : Nat → Int} (hP : lP8 g I AR AI pA nr tbs cc cl) (h : bG8 tbs cl f len.toNat) (h0 : 0 ≤ len) (hc : ∀ r : Nat, r < nr → tI (AI (gZ g + 206)) (40 * (r : Int) + 1) = clp r) (eu : u = cky tb a b c d (clp tb.toNat)) (q : chP tbs tb n z len len1 f f' u) (hs : srt 5 f' len1) (h1 : 0 ≤ len1) : bG8 tbs cl f' len1.toNat := sorry
/-! commit -/
theorem lE_cm (hOK : gOK g) (hv : gInv (gW g (I, AI)) (ghF 0 (hG (gZ g))) R AR I AI) (hx : xS (gW g (I, AI)) (hG (gZ g)) R AR (gZ g + 0) pA bA nA) (hv0 : gInv (gW g (I, AI)) (ghF 0 (hG (gZ g))) R1 AR I1 AI1) (hP : lP8 g I AR AI pA nr tbs cc cl) (hQ : lQ8 g I AR AI bA nA nr tbs cc cl) (hB : lB8 g I AI tbs cl) {v1 v2 : Int}
    (f38 : I1 (hG (gZ g) 38 0) 3 = I (hG (gZ g) 38 0) 3)
    (c : ∃ (code : Int) (Fn : RF), rnP tbs nr cc (∃ i, i < (I (gZ g + 179) 3).toInt.toNat ∧ blw (AI (gZ g + 180)) (rfC (hG (gZ g)) AR I AI bA) 1 i) (tbS (AI (gZ g + 180)) (I (gZ g + 179) 3).toInt.toNat (rfC (hG (gZ g)) AR I AI bA) 1) code Fn ∧ (code = 0 → stA tbs cc (tbS (AI (gZ g + 180)) (I (gZ g + 179) 3).toInt.toNat (rfC (hG (gZ g)) AR I AI bA) 1) cl Fn nr) ∧
      ((code ≠ 0 ∧ v1 = code ∧ xS (gW g (I, AI)) (hG (gZ g)) R1 AR (gZ g + 0) pA bA nA ∧ cmS (hG (gZ g)) AR (gZ g + 0) bA I AI I1 AI1 ∧ I1 (gZ g + 0) 14 = I (gZ g + 0) 14 ∧ I1 (gZ g + 0) 15 = I (gZ g + 0) 15 ∧ I1 (gZ g + 0) 16 = I (gZ g + 0) 16 ∧ I1 (gZ g + 0) 17 = I (gZ g + 0) 17 + 1) ∨
        (code = 0 ∧ xS (gW g (I, AI)) (hG (gZ g)) R1 AR (gZ g + 0) pA nA bA ∧ cmY (hG (gZ g)) AR (gZ g + 0) bA nA nr tbs I AI (I (gZ g + 179) 3).toInt.toNat Fn v1 I1 AI1)))
    (n1 : ∀ b c, gO (gW g (I2, AI2)) b c → c ≠ 7 → I2 b = I1 b) (n2 : ∀ b n, hG (gZ g) 9 b = n → n ≠ 5 → AI2 b = AI1 b)
    (m : (v2 < 0 ∧ drP (hGm (gZ g)) AI1 tbs nr cc cl (AI (gZ g + 180)) (I (gZ g + 179) 3).toInt.toNat v2 AI2 ∧ I2 (gZ g + 205) 8 = I1 (gZ g + 205) 8 ∧ I2 (gZ g + 205) 9 = I1 (gZ g + 205) 9 ∧ I2 (gZ g + 205) 10 = I1 (gZ g + 205) 10 + 1) ∨
      (∃ A1 : gI, drP (hGm (gZ g)) AI1 tbs nr cc cl (AI (gZ g + 180)) (I (gZ g + 179) 3).toInt.toNat 0 A1 ∧ cmM (hGm (gZ g)) AI1 A1 AI2 (I1 (gZ g + 205) 8).toInt (I2 (gZ g + 205) 8).toInt ∧ I2 (gZ g + 205) 9 = I1 (gZ g + 205) 9 + 1 ∧ I2 (gZ g + 205) 10 = I1 (gZ g + 205) 10 ∧ noY (hGm (gZ g)) AI1 AI2 ∧ v2 = smL (fun r => ((bgN (mvF (hGm (gZ g)) AI2 r) : Nat) : Int)) tbs.toNat (nr - tbs.toNat))) :
    v1 = v2 ∧ ∃ b1 n1, xS (gW g (I, AI)) (hG (gZ g)) R1 AR (gZ g + 0) pA b1 n1 ∧ lQ8 g I2 AR AI2 b1 n1 nr tbs cc cl := sorry
/-! undo -/
theorem lE_un (hOK : gOK g) (hv0 : gInv (gW g (I, AI)) (ghF 0 (hG (gZ g))) R1 AR I1 AI1) (hx : xS (gW g (I, AI)) (hG (gZ g)) R AR (gZ g + 0) pA bA nA) (hP : lP8 g I AR AI pA nr tbs cc cl) (hQ : lQ8 g I AR AI bA nA nr tbs cc cl) {Fn : RF} (hu : 0 < (I (gZ g + 0) 15).toInt) (x1 : xS (gW g (I, AI)) (hG (gZ g)) R1 AR (gZ g + 0) pA nA bA)
    (c1 : rnP tbs nr cc (∃ i, i < (rfC (hG (gZ g)) AR I AI (hG (gZ g) 36 0) (((I (gZ g + 0) 14).toInt + 7) % 8).toNat).1 ∧ blw (rfC (hG (gZ g)) AR I AI (hG (gZ g) 36 0) (((I (gZ g + 0) 14).toInt + 7) % 8).toNat).2 (rfC (hG (gZ g)) AR I AI bA) (-1) i) (tbS (rfC (hG (gZ g)) AR I AI (hG (gZ g) 36 0) (((I (gZ g + 0) 14).toInt + 7) % 8).toNat).2 (rfC (hG (gZ g)) AR I AI (hG (gZ g) 36 0) (((I (gZ g + 0) 14).toInt + 7) % 8).toNat).1 (rfC (hG (gZ g)) AR I AI bA) (-1)) 0 Fn)
    (c2 : cmU (hG (gZ g)) AR (gZ g + 0) bA nA nr I AI Fn I1 AI1) (n1 : ∀ b c, gO (gW g (I2, AI2)) b c → c ≠ 7 → I2 b = I1 b) (n2 : ∀ b n, hG (gZ g) 9 b = n → n ≠ 5 → AI2 b = AI1 b)
    (m : unM (hGm (gZ g)) AI1 AI2 ((I1 (gZ g + 205) 8).toInt - 1)) (m8 : (I2 (gZ g + 205) 8).toInt = (I1 (gZ g + 205) 8).toInt - 1) (m9 : I2 (gZ g + 205) 9 = I1 (gZ g + 205) 9 ∧ I2 (gZ g + 205) 10 = I1 (gZ g + 205) 10) : lQ8 g I2 AR AI2 nA bA nr tbs cc cl := sorry
/-! would and differs: alike -/
theorem lE_wd (hv0 : gInv (gW g (I, AI)) (ghF 0 (hG (gZ g))) R1 AR I1 AI1) (hP : lP8 g I AR AI pA nr tbs cc cl) (hQ : lQ8 g I AR AI bA nA nr tbs cc cl) (hB : lB8 g I AI tbs cl) {rel z1 z2 : Int}
    (c : ((rel < 0 ∨ (nr : Int) ≤ rel) ∧ z1 = -1) ∨ ((0 ≤ rel ∧ rel < (nr : Int)) ∧ ∃ (code : Int) (Fn : RF), rnP tbs nr cc (∃ i, i < (I (gZ g + 179) 3).toInt.toNat ∧ blw (AI (gZ g + 180)) (rfC (hG (gZ g)) AR I AI bA) 1 i) (tbS (AI (gZ g + 180)) (I (gZ g + 179) 3).toInt.toNat (rfC (hG (gZ g)) AR I AI bA) 1) code Fn ∧ (code ≠ 0 → z1 = code) ∧ (code = 0 → z1 = (((Fn rel.toNat).1 : Nat) : Int))))
    (m : ((rel < 0 ∨ (nr : Int) ≤ rel) ∧ z2 = -1 ∧ AI2 = AI1) ∨ (0 ≤ rel ∧ rel < (nr : Int) ∧ ∃ code : Int, drP (hGm (gZ g)) AI1 tbs nr cc cl (AI (gZ g + 180)) (I (gZ g + 179) 3).toInt.toNat code AI2 ∧ ((code = 0 ∧ z2 = (((rfM (hGm (gZ g)) AI2 10 rel.toNat).1 : Nat) : Int)) ∨ (code ≠ 0 ∧ z2 = code)))) : z1 = z2 := sorry
/-! plan -/
theorem lE_pl (hOK : gOK g) (hv0 : gInv (gW g (I, AI)) (ghF 0 (hG (gZ g))) R1 AR I1 AI1) (hx : xS (gW g (I, AI)) (hG (gZ g)) R AR (gZ g + 0) pA bA nA) (hx1 : xS (gW g (I, AI)) (hG (gZ g)) R1 AR (gZ g + 0) q bA nA) (hD : xD (hG (gZ g)) AR bA nA) (h38 : (I (hG (gZ g) 38 0) 3).toInt = 0) {b : tTx} {n : Nat} {J1 : gJ}
    (p1 : pLn (hG (gZ g)) AR I1 J1 q b n (sPlF b n).1 (sPlF b n).2.1 (sPlF b n).2.2.1 ∧ (I1 q 2).toInt = (sPlF b n).2.2.2)
    (pc : rowsC (hG (gZ g)) AR I1 AI1 q b n (sPlF b n).1 (sPlF b n).2.1 (sPlF b n).2.2.1 ∧ (∀ r, r < 16 → (I1 (rob AR bA r) 3).toInt = 0 ∧ (I1 (rob AR (hG (gZ g) 35 0) r) 3).toInt = 0) ∧ (∀ o, gO (gW g (I, AI)) o 4 → (∀ r, r < 16 → rob AR bA r ≠ o) → (∀ r, r < 16 → rob AR (hG (gZ g) 35 0) r ≠ o) → o ≠ hG (gZ g) 37 0 → I1 o = I o) ∧ (∀ o, hG (gZ g) 9 o = 1 → AI1 o = AI o) ∧ (I1 (gZ g + 0) 15).toInt = 0 ∧ (I1 (gZ g + 0) 16).toInt = 0 ∧ (I1 (gZ g + 0) 17).toInt = 0)
    (n1 : ∀ b c, gO (gW g (I2, AI2)) b c → c ≠ 7 → I2 b = I1 b) (n2 : ∀ b n, hG (gZ g) 9 b = n → n ≠ 5 → AI2 b = AI1 b)
    (p2 : (I2 (gZ g + 205) 2).toInt = ((sPlF b n).1 : Int) ∧ (∀ r : Nat, r < (sPlF b n).1 → tI (AI2 (hGm (gZ g) 50 0)) (40 * (r : Int) + 1) = (sPlF b n).2.2.1 r ∧ tI (AI2 (hGm (gZ g) 50 0)) (40 * (r : Int)) = kdT b n ((sPlF b n).2.1 r)))
    (pn : (∀ j : Nat, j < 176 → AI2 (hGm (gZ g) 57 0) j = 0) ∧ (∀ j : Nat, j < 16 → AI2 (hGm (gZ g) 79 0) j = 0) ∧ (I2 (gZ g + 205) 8).toInt = 0 ∧ (I2 (gZ g + 205) 9).toInt = 0 ∧ (I2 (gZ g + 205) 10).toInt = 0 ∧ plR b n (AI2 (hGm (gZ g) 50 0))) (b0 : (I1 (gZ g + 179) 3).toInt = 0) (h179 : gO (gW g (I, AI)) (gZ g + 179) 4) : lE8 g I2 AR AI2 q bA nA := sorry
/-- a plan that is refused -/
theorem lE_pn (hOK : gOK g) (hv0 : gInv (gW g (I, AI)) (ghF 0 (hG (gZ g))) R1 AR I1 AI1) (hx : xS (gW g (I, AI)) (hG (gZ g)) R1 AR (gZ g + 0) pA bA nA) (h : lE8 g I AR AI pA bA nA) (ep : I1 pA = I pA) (ey : ∀ y, gO (gW g (I, AI)) y 0 → hG (gZ g) 4 y = pA → I1 y = I y)
    (pc : (∀ o, gO (gW g (I, AI)) o 4 → I1 o = I o) ∧ (∀ o, hG (gZ g) 9 o = 1 → AI1 o = AI o) ∧ (∀ k, k ≠ 1 → I1 (gZ g + 0) k = I (gZ g + 0) k) ∧ ∀ y, gO (gW g (I, AI)) y 0 → hG (gZ g) 4 y = pA → AI1 (hG (gZ g) 3 y) = AI (hG (gZ g) 3 y))
    (n1 : ∀ b c, gO (gW g (I2, AI2)) b c → c ≠ 7 → I2 b = I1 b) (n2 : ∀ b n, hG (gZ g) 9 b = n → n ≠ 5 → AI2 b = AI1 b) (ht : AI2 (gZ g + 206) = AI1 (gZ g + 206)) (h2 : (I2 (gZ g + 205) 2).toInt = (I1 (gZ g + 205) 2).toInt)
    (pn : AI2 (hGm (gZ g) 57 0) = AI1 (hGm (gZ g) 57 0) ∧ AI2 (hGm (gZ g) 79 0) = AI1 (hGm (gZ g) 79 0) ∧ I2 (gZ g + 205) 8 = I1 (gZ g + 205) 8 ∧ I2 (gZ g + 205) 9 = I1 (gZ g + 205) 9 ∧ I2 (gZ g + 205) 10 = I1 (gZ g + 205) 10) (h56 : AI2 (hGm (gZ g) 56 0) = AI1 (hGm (gZ g) 56 0)) (h179 : gO (gW g (I, AI)) (gZ g + 179) 4) : lE8 g I2 AR AI2 pA bA nA := sorry
end LE8


end

section
/-! what a call of the class leaves of its engine -/
def kC8 (g : gG) (AR : gR) (bA : Nat) (I AI I1 AI1 : gI) : Prop :=
  (∀ y, gO (gW g (I, AI)) y 0 → AI1 (hG (gZ g) 3 y) = AI (hG (gZ g) 3 y)) ∧ cmS (hG (gZ g)) AR (gZ g + 0) bA I AI I1 AI1 ∧ (∀ j, j ≠ 1 → I1 (gZ g + 0) j = I (gZ g + 0) j) ∧ I1 (hG (gZ g) 38 0) 3 = I (hG (gZ g) 38 0) 3
section KC8
variable {g : gG} {I AI I1 AI1 I2 AI2 I0 AI0 : gI} {R R1 R2 AR : gR} {pA bA nA : Nat}
theorem kC_r : kC8 g AR bA I AI I AI := sorry
theorem c29_0 : hG (gZ g) 9 (gZ g + 187) = 0 := sorry
theorem kC_x (hv : gInv (gW g (I, AI)) (ghF 0 (hG (gZ g))) R AR I0 AI0) (hx : xS (gW g (I, AI)) (hG (gZ g)) R1 AR (gZ g + 0) pA bA nA) (f1 : ∀ b, b ≠ gZ g + 0 → I1 b = I b) (f2 : ∀ j, j ≠ 1 → I1 (gZ g + 0) j = I (gZ g + 0) j) : kC8 g AR bA I AI I1 AI := sorry
theorem kC_29 (hv : gInv (gW g (I, AI)) (ghF 0 (hG (gZ g))) R AR I0 AI0) (hx : xS (gW g (I, AI)) (hG (gZ g)) R1 AR (gZ g + 0) pA bA nA) (f3 : ∀ b, b ≠ gZ g + 187 → AI1 b = AI b) : kC8 g AR bA I AI I AI1 := sorry
theorem kC_37 (hv : gInv (gW g (I, AI)) (ghF 0 (hG (gZ g))) R AR I0 AI0) (hx : xS (gW g (I, AI)) (hG (gZ g)) R1 AR (gZ g + 0) pA bA nA) (hD : xD (hG (gZ g)) AR bA nA) (ho : gO (gW g (I, AI)) (gZ g + 179) 4) (f1 : ∀ b, b ≠ gZ g + 179 → I1 b = I b) (f3 : ∀ b, b ≠ gZ g + 187 → b ≠ gZ g + 180 → AI1 b = AI b) : kC8 g AR bA I AI I1 AI1 := sorry
theorem kC_40 (hv : gInv (gW g (I, AI)) (ghF 0 (hG (gZ g))) R AR I0 AI0) (hx : xS (gW g (I, AI)) (hG (gZ g)) R1 AR (gZ g + 0) pA bA nA) (hD : xD (hG (gZ g)) AR bA nA) (f1 : ∀ b, b ≠ hG (gZ g) 40 0 → I1 b = I b) (f3 : ∀ b, b ≠ gZ g + 187 → b ≠ hG (gZ g) 0 (hG (gZ g) 40 0) → AI1 b = AI b) : kC8 g AR bA I AI I1 AI1 := sorry
theorem kC_w (fA : ∀ y, gO (gW g (I, AI)) y 0 → AI1 (hG (gZ g) 3 y) = AI (hG (gZ g) 3 y)) (fS : cmS (hG (gZ g)) AR (gZ g + 0) bA I AI I1 AI1) (fx : I1 (gZ g + 0) = I (gZ g + 0)) (f38 : I1 (hG (gZ g) 38 0) = I (hG (gZ g) 38 0)) : kC8 g AR bA I AI I1 AI1 := sorry
/-- the engine over a call of both that leaves it as it was -/
theorem lE_k8 (hOK : gOK g) (hv0 : gInv (gW g (I, AI)) (ghF 0 (hG (gZ g))) R1 AR I1 AI1) (hx : xS (gW g (I, AI)) (hG (gZ g)) R1 AR (gZ g + 0) pA bA nA) (h : lE8 g I AR AI pA bA nA) (fI : ∀ b c, gO (gW g (I, AI)) b c → c ≠ 4 → c ≠ 6 → I1 b = I b) (k : kC8 g AR bA I AI I1 AI1) (hmv2 : mInv (gW g (I1, AI1)) (hGm (gZ g)) R2 I2 AI2) (ht : AI2 (gZ g + 206) = AI1 (gZ g + 206)) (h2 : (I2 (gZ g + 205) 2).toInt = (I1 (gZ g + 205) 2).toInt)
    (hs : ∀ sd : Int, 0 ≤ sd → sd ≤ 9 → sE8 (rsM (hGm (gZ g)) AI2 sd) (rsM (hGm (gZ g)) AI1 sd)) (h8 : I2 (gZ g + 205) 8 = I1 (gZ g + 205) 8 ∧ I2 (gZ g + 205) 9 = I1 (gZ g + 205) 9 ∧ I2 (gZ g + 205) 10 = I1 (gZ g + 205) 10) (hb : ∀ tbs cl, lB8 g I AI tbs cl → lB8 g I2 AI2 tbs cl) : lE8 g I2 AR AI2 pA bA nA := sorry
/-- the batch over such a call -/
theorem lB_m (hOK : gOK g) (hv1 : gInv (gW g (I, AI)) (hG (gZ g)) R AR I1 AI1) (hmv2 : mInv (gW g (I1, AI1)) (hGm (gZ g)) R2 I2 AI2) : ∀ tbs cl, lB8 g I AI tbs cl → lB8 g I2 AI2 tbs cl := sorry
theorem lB_m0 (hOK : gOK g) (hmv2 : mInv (gW g (I1, AI1)) (hGm (gZ g)) R2 I2 AI2) (b0 : (I1 (gZ g + 179) 3).toInt = 0) : ∀ tbs cl, lB8 g I AI tbs cl → lB8 g I2 AI2 tbs cl := sorry
/-- both have been fed -/
theorem lE_fd (hOK : gOK g) (hv : gInv (gW g (I, AI)) (ghF 0 (hG (gZ g))) R AR I AI) (hx : xS (gW g (I, AI)) (hG (gZ g)) R AR (gZ g + 0) pA bA nA) (h : lE8 g I AR AI pA bA nA) (e1 : ∀ b, b ≠ gZ g + 0 → b ≠ gZ g + 205 → I2 b = I b) (e2 : ∀ j, j ≠ 1 → I2 (gZ g + 0) j = I (gZ g + 0) j) (e3 : ∀ j, j ≠ 16 → j ≠ 17 → I2 (gZ g + 205) j = I (gZ g + 205) j) (e4 : ∀ b, b ≠ gZ g + 1 → b ≠ gZ g + 215 → AI2 b = AI b) : lE8 g I2 AR AI2 pA bA nA := sorry
end KC8


end

section
/-! the engine at the start -/
section St8
variable {g : gG}
theorem s_rob {b n j : Nat} (h : ∀ j, j < n → cA 341 b j = some (b + 1 + 2 * j) ∧ kT (b + 1 + 2 * j) = 4 ∧ b + 1 + 2 * j < 223) (hj : j < n) : rob (wA g 341) (gZ g + b) j = gZ g + (b + 1 + 2 * j) := sorry
theorem s_xD : xD (hG (gZ g)) (wA g 341) (gZ g + 80) (gZ g + 113) := sorry
theorem s_E8 : lE8 g (wI g 341) (wA g 341) zA (gZ g + 42) (gZ g + 80) (gZ g + 113) := sorry
end St8


end
