def rmX6_differsf : Room := { frames := 7, cells := 0, slots := 0, locals := 214 }
set_option maxHeartbeats 4000000 in
set_option maxRecDepth 100000 in
/-- differs -/
theorem c_X6_differsf (l : Launch) (g : gG) (gh : gGh) (pA bA nA : Nat) (nr : Nat) (cc : Nat → LC) (cl : Nat → Int) (I : gI) (R : gR) (J : gJ) (AI : gI) (AJ : gJ) (AR : gR) (x : Nat) (rel : Int) (zrel : zr rel) (hv : gInv g gh R AR I AI) (hx : xS g gh R AR x pA bA nA) (hlen : (I pA 1).toInt = (nr : Int)) (htb2 : 0 ≤ (I pA 2).toInt ∧ (I pA 2).toInt ≤ (nr : Int) ∧ nr ≤ 16) (hln : ∀ r, r < nr → lnC (I (rob AR (gh 6 pA) r)) (AI (gh 3 (rob AR (gh 6 pA) r))) (cc r)) (hcK : ∀ r : Nat, r < nr → (I pA 2).toInt ≤ (r : Int) → cOK (cc r) r cl ∧ cZ (cc r) r cl) (hbg : ∀ r, r < nr → bgOK (rfC gh AR I AI bA) cl r) (hD : xD gh AR bA nA) (hn0 : (I (gh 38 0) 3).toInt = 0) (hok : ∃ F : RF, rnP (I pA 2).toInt nr cc (∃ i, i < 0 ∧ blw (AI (gh 0 (gh 38 0))) (rfC gh AR I AI bA) 1 i) (tbS (AI (gh 0 (gh 38 0))) 0 (rfC gh AR I AI bA) 1) 0 F) : gMet l g yX6_differs wsX6_differs rmX6_differsf [.ref x, .int (iI rel)] (I, R, J, AI, AJ, AR) (gQi g (fun (z : Int) (w : gS) => R = w.2.1 ∧ J = w.2.2.1 ∧ AJ = w.2.2.2.2.1 ∧ AR = w.2.2.2.2.2 ∧ (gInv g gh R AR (w.1) (w.2.2.2.1)) ∧ (rF g I (w.1)) ∧ (((rel < 0 ∨ (nr : Int) ≤ rel) ∧ z = -1) ∨ ((0 ≤ rel ∧ rel < (nr : Int)) ∧ ∃ Fn : RF, rnP (I pA 2).toInt nr cc (∃ i, i < 0 ∧ blw (AI (gh 0 (gh 38 0))) (rfC gh AR I AI bA) 1 i) (tbS (AI (gh 0 (gh 38 0))) 0 (rfC gh AR I AI bA) 1) 0 Fn ∧ ∃ (f : Nat → Int32) (k : Nat), isB f k (fun t => bS (Fn rel.toNat).2 (Fn rel.toNat).1 t + iI (-1) * bS ((rfC gh AR I AI bA) rel.toNat).2 ((rfC gh AR I AI bA) rel.toNat).1 t) zM ∧ z = (k : Int))) ∧ (cmS gh AR x bA I AI (w.1) (w.2.2.2.1) ∧ (w.1) x = I x ∧ (w.1) (gh 37 0) = I (gh 37 0) ∧ (w.2.2.2.1) (gh 0 (gh 37 0)) = AI (gh 0 (gh 37 0)) ∧ (w.1) (gh 38 0) = I (gh 38 0)))) := by
  refine gStart (cc := cX6_differs) (maxL := 2) (ret := (some (.int))) (by decide) rfl (Nat.le_of_ble_eq_true rfl) ?_
  intro p e s m below meth c ls F hr hlk hH hz hS hl
  have hl : lv_has ls 2 [(0, .ref x), (1, .int (iI rel))] := hl
  have hS : va_S (gA g) s.heap s.heap [] := hS
  obtain ⟨H, hHe⟩ : ∃ H : Heap, H = s.heap := ⟨_, rfl⟩
  obtain ⟨locs, hlo⟩ : ∃ k : List Loc, k = [] := ⟨_, rfl⟩
  have hH : gH g I R J AI AJ AR H := by rw [hHe]; exact hH
  have hS : va_S (gA g) s.heap H locs := by rw [hHe, hlo]; exact hS
  suffices hw : W p l e rmX6_differsf s m ([.ref x, .int (iI rel)] : List Value).toArray below meth c H locs 0 0 (MQ below (gQi g (fun (z : Int) (w : gS) => R = w.2.1 ∧ J = w.2.2.1 ∧ AJ = w.2.2.2.2.1 ∧ AR = w.2.2.2.2.2 ∧ (gInv g gh R AR (w.1) (w.2.2.2.1)) ∧ (rF g I (w.1)) ∧ (((rel < 0 ∨ (nr : Int) ≤ rel) ∧ z = -1) ∨ ((0 ≤ rel ∧ rel < (nr : Int)) ∧ ∃ Fn : RF, rnP (I pA 2).toInt nr cc (∃ i, i < 0 ∧ blw (AI (gh 0 (gh 38 0))) (rfC gh AR I AI bA) 1 i) (tbS (AI (gh 0 (gh 38 0))) 0 (rfC gh AR I AI bA) 1) 0 Fn ∧ ∃ (f : Nat → Int32) (k : Nat), isB f k (fun t => bS (Fn rel.toNat).2 (Fn rel.toNat).1 t + iI (-1) * bS ((rfC gh AR I AI bA) rel.toNat).2 ((rfC gh AR I AI bA) rel.toNat).1 t) zM ∧ z = (k : Int))) ∧ (cmS gh AR x bA I AI (w.1) (w.2.2.2.1) ∧ (w.1) x = I x ∧ (w.1) (gh 37 0) = I (gh 37 0) ∧ (w.2.2.2.1) (gh 0 (gh 37 0)) = AI (gh 0 (gh 37 0)) ∧ (w.1) (gh 38 0) = I (gh 38 0)))) ([.ref x, .int (iI rel)] : List Value).toArray s 0 0 (gA g)) (F0 m 0 ls []) by
    rw [hHe, hlo] at hw; exact hw
  clear hHe hlo
  have rf : rF g I I := rF_r
  have h37g := gR_x8 hv hx.1
  have h39g := gR_x10 hv hx.1
  have h38g := gR_x9 hv hx.1
  have h16g := gI_x hv hx.1
  have hc39 : gh 37 0 ≠ gh 39 0 := fun e9 => by have q9 := h37g.2.2.2; rw [e9, h39g.2.2.2] at q9; exact absurd q9 (by decide)
  have hnn := hx.2.2.2.2.2.2
  have h35g := (gR_x7 hv hx.1).2
  have h36g := (gR_x13 hv hx.1).2
  have hx0 := hx
  have hv00 := hv
  have h40g := gR_x11 hv hx.1
  have hc38 : gh 38 0 ≠ gh 39 0 := fun e9 => by have q9 := h38g.2.2.2; rw [e9, h39g.2.2.2] at q9; exact absurd q9 (by decide)
  have iX6 : ∀ w ∈ u_ws RX6 TX6 18, w ∈ wsX6_differs := (by decide +kernel)
  have iX4 : ∀ w ∈ u_ws RX4 TX4 4, w ∈ wsX6_differs := (by decide +kernel)
  have k57 : Cond.fieldLink RX6 57 (TX6 9).1 (TX6 9).2.1 (TX6 9).2.2.1 ∈ wsX6_differs := List.mem_of_getElem? (i := 1) rfl
  have k63 : Cond.fieldLink RX6 63 (TX6 11).1 (TX6 11).2.1 (TX6 11).2.2.1 ∈ wsX6_differs := List.mem_of_getElem? (i := 2) rfl
  have k42 : Cond.fieldLink RX6 42 (TX6 6).1 (TX6 6).2.1 (TX6 6).2.2.1 ∈ wsX6_differs := List.mem_of_getElem? (i := 3) rfl
  have k38 : Cond.fieldLink RX6 38 (TX6 5).1 (TX6 5).2.1 (TX6 5).2.2.1 ∈ wsX6_differs := List.mem_of_getElem? (i := 4) rfl
  have k99 : Cond.fieldLink RX6 99 (TX4 3).1 (TX4 3).2.1 (TX4 3).2.2.1 ∈ wsX6_differs := List.mem_of_getElem? (i := 5) rfl
  refine lv_aload_n F.1 F.2.1 dX6_differs_0 rfl (lv_at hl 0 rfl) ?_
  refine lv_iload_n F.1 F.2.1 dX6_differs_1 rfl (lv_at hl 1 rfl) ?_
  have b_1 := gI_x hv hx.1
  refine g_calli (g_runV (As := [.int (iI rel)]) (rest := []) (ci := 6) F hl.1 hH hS hz (c_X6_isRelationf l g gh pA bA nA I R J AI AJ AR x rel zrel hv hx) (cwV 1 F.2.2.2.2.1 gX6_differs_X6_isRelation rfl rfl rfl hdX6_isRelation ⟨Nat.le_of_ble_eq_true rfl, Nat.le_of_ble_eq_true rfl⟩) hx.1 (by decide) rfl rfl rfl (Nat.le_of_ble_eq_true rfl) dX6_differs_2 ⟨Nat.zero_le _, Nat.zero_le _⟩) hS (fun v_8 I_2 R_3 J_4 AI_5 AJ_6 AR_7 H locs zv_8 hp_9 hH hS => ?_)
  dsimp only at hp_9
  obtain ⟨rfl, rfl, rfl, rfl, rfl, rfl, q_10, qir⟩ := hp_9
  refine z_if_ne (tgt := 10) F dX6_differs_5 (by decide) zv_8 (fun c_11 => ?_) (fun c_11 => ?_)
  · refine lv_aload_n F.1 F.2.1 dX6_differs_10 rfl (lv_at hl 0 rfl) ?_
    refine lv_aload_n F.1 F.2.1 dX6_differs_11 rfl (lv_at hl 0 rfl) ?_
    obtain ⟨r_12a, r_12b, r_12c, r_12d⟩ := gR_x9 hv hx.1
    refine g_getR (ci := 6) (k := 9) F hH rfl (by decide) iX6 hx.1 (by decide) rfl (b := gh 38 0) r_12a k57 dX6_differs_12 ?_
    refine z_iconst F dX6_differs_15 ?_
    obtain ⟨b_13a, b_13b, b_13c, b_13d, b_13e, b_13f, b_13g, b_13h⟩ := gI_rows hv r_12b
    refine g_calli (g_runV (As := [.ref (gh 38 0), .int (iI 1)]) (rest := []) (ci := 6) F hl.1 hH hS hz (c_X6_reckonNextf l g gh pA bA nA 0 nr cc cl I R J AI AJ AR x (gh 38 0) 1 ⟨by decide, by decide⟩ hv hx r_12b (by omega) (by omega) ⟨fun i j _ hj => absurd hj (by omega), fun i hi => absurd hi (Nat.not_lt_zero i)⟩ hc38 h38g.2.2.1 (by omega) (by omega) hln hcK hbg (fun i hi => absurd hi (Nat.not_lt_zero i)) (fun i hi => absurd hi (Nat.not_lt_zero i)) hD.2.1 hD.2.2.1 (fun r hr => ra_ne1 hnn h38g.2.2.1 h38g.2.2.2 (Or.inr (by decide)) hr)) (cwV 2 F.2.2.2.2.1 gX6_differs_X6_reckonNext rfl rfl rfl hdX6_reckonNext ⟨Nat.le_of_ble_eq_true rfl, Nat.le_of_ble_eq_true rfl⟩) hx.1 (by decide) rfl rfl rfl (Nat.le_of_ble_eq_true rfl) dX6_differs_16 ⟨Nat.zero_le _, Nat.zero_le _⟩) hS (fun v_20 I_14 R_15 J_16 AI_17 AJ_18 AR_19 H locs zv_20 hp_21 hH hS => ?_)
    dsimp only at hp_21
    obtain ⟨rfl, rfl, rfl, rfl, hv, rfq, q_22, nIq, nAq, qrn, qst⟩ := hp_21
    have rf := rF_t rf rfq
    have u_23p : I_14 pA = I pA := rf pA 2 hx.2.2.1 (by decide)
    have u_23p1 : (I_14 pA 1).toInt = (I pA 1).toInt := by rw [u_23p]
    have u_23p2 : (I_14 pA 2).toInt = (I pA 2).toInt := by rw [u_23p]
    have e37I : I_14 (gh 37 0) = I (gh 37 0) := nIq _ hc39 (fun r hr => isRA_37 hnn hr)
    have e37A : AI_17 (gh 0 (gh 37 0)) = AI (gh 0 (gh 37 0)) := nAf_o nAq hv hx.1 h37g.2.1 hnn hc39 (fun r hr => isRA_37 hnn hr)
    have eX : I_14 x = I x := nIq x (gO_ne hx.1 h39g.2.1 (by decide)) (fun r hr => (gO_ne hx.1 (isRA_o hnn hr).2.1 (by decide)).symm)
    have e38 : I_14 (gh 38 0) = I (gh 38 0) := nIq _ hc38 (fun r hr => ra_ne1 hnn h38g.2.2.1 h38g.2.2.2 (Or.inr (by decide)) hr)
    have hcs := cmS_n hv hx hD nIq nAq
    obtain ⟨F9, hok9⟩ := hok
    have hz0 := (rnP_u (cLt_of hcK) hok9 qrn).1
    rw [← hz0] at qrn qst
    have hst9 := qst rfl
    have hcs0 := hcs
    refine lv_pop F.1 F.2.1 dX6_differs_19 rfl ?_
    refine lv_aload_n F.1 F.2.1 dX6_differs_20 rfl (lv_at hl 0 rfl) ?_
    obtain ⟨r_24a, r_24b, r_24c, r_24d⟩ := gR_x11 hv hx.1
    refine g_getR (ci := 6) (k := 11) F hH rfl (by decide) iX6 hx.1 (by decide) rfl (b := gh 40 0) r_24a k63 dX6_differs_21 ?_
    refine lv_aload_n F.1 F.2.1 dX6_differs_24 rfl (lv_at hl 0 rfl) ?_
    refine g_getR (ci := 6) (k := 6) F hH rfl (by decide) iX6 hx.1 (by decide) rfl (b := nA) hx.2.2.2.2.2.1 k42 dX6_differs_25 ?_
    refine lv_iload_n F.1 F.2.1 dX6_differs_28 rfl (lv_at hl 1 rfl) ?_
    have hx29 : 0 ≤ rel ∧ rel < ((16 : Nat) : Int) ∧ rel ≤ 2147483647 := ⟨by omega, by omega, by omega⟩
    obtain ⟨y_25, y_25a, y_25b, y_25c, y_25d, y_25e⟩ := hx.2.2.2.2.2.2.2 (rel).toNat (by omega)
    refine g_aldR F hH hx.2.2.2.2.2.2.1 hx29.1 hx29.2.1 hx29.2.2 (b := y_25) y_25a dX6_differs_29 ?_
    refine lv_aload_n F.1 F.2.1 dX6_differs_30 rfl (lv_at hl 0 rfl) ?_
    refine g_getR (ci := 6) (k := 5) F hH rfl (by decide) iX6 hx.1 (by decide) rfl (b := bA) hx.2.2.2.1 k38 dX6_differs_31 ?_
    refine lv_iload_n F.1 F.2.1 dX6_differs_34 rfl (lv_at hl 1 rfl) ?_
    have hx35 : 0 ≤ rel ∧ rel < ((16 : Nat) : Int) ∧ rel ≤ 2147483647 := ⟨by omega, by omega, by omega⟩
    obtain ⟨y_26, y_26a, y_26b, y_26c, y_26d, y_26e⟩ := hx.2.2.2.2.1.2 (rel).toNat (by omega)
    refine g_aldR F hH hx.2.2.2.2.1.1 hx35.1 hx35.2.1 hx35.2.2 (b := y_26) y_26a dX6_differs_35 ?_
    refine z_iconst F dX6_differs_36 ?_
    have rn : rob AR nA rel.toNat = y_25 := rob_e y_25a
    have sn : y_25 ≠ gh 40 0 := fun e9 => by have q9 := y_25c; rw [e9, h40g.2.2.1] at q9; exact absurd q9 (by decide)
    have ln : (I_14 y_25 3).toInt = (((I_14 y_25 3).toInt.toNat : Nat) : Int) := by have q9 := (gI_rows hv y_25b).2.2.1; omega
    have rb : rob AR bA rel.toNat = y_26 := rob_e y_26a
    have sb : y_26 ≠ gh 40 0 := fun e9 => by have q9 := y_26c; rw [e9, h40g.2.2.1] at q9; exact absurd q9 (by decide)
    have lb : (I_14 y_26 3).toInt = (((I_14 y_26 3).toInt.toNat : Nat) : Int) := by have q9 := (gI_rows hv y_26b).2.2.1; omega
    have on_ : okB (AI_17 (gh 0 y_25)) (I_14 y_25 3).toInt.toNat := by have q9 := (hst9 rel.toNat (by omega)).2.1; unfold rfC at q9; rw [rn] at q9; exact q9
    have ob_ : okB (AI_17 (gh 0 y_26)) (I_14 y_26 3).toInt.toNat := by have q9 := (hbg rel.toNat (by omega)).1; rw [← hcs.1 rel.toNat (by omega)] at q9; unfold rfC at q9; rw [rb] at q9; exact q9
    obtain ⟨b_27a, b_27b, b_27c, b_27d, b_27e, b_27f, b_27g, b_27h⟩ := gI_rows hv r_24b
    obtain ⟨b_28a, b_28b, b_28c, b_28d, b_28e, b_28f, b_28g, b_28h⟩ := gI_rows hv y_25b
    obtain ⟨b_29a, b_29b, b_29c, b_29d, b_29e, b_29f, b_29g, b_29h⟩ := gI_rows hv y_26b
    refine g_calli (g_runV (As := [.ref y_25, .ref y_26, .int (iI ((-1)))]) (rest := []) (ci := 4) F hl.1 hH hS hz (c_X4_gatherf l g gh ((I_14 y_25 3).toInt.toNat) ((I_14 y_26 3).toInt.toNat) (fun t => bS (AI_17 (gh 0 y_25)) (I_14 y_25 3).toInt.toNat t + iI (-1) * bS (AI_17 (gh 0 y_26)) (I_14 y_26 3).toInt.toNat t) I_14 R J AI_17 AJ AR (gh 40 0) y_25 y_26 (-1) ⟨by decide, by decide⟩ hv r_24b y_25b y_26b (by omega) (by omega) sn sb (by omega) ln lb on_ ob_ (fun _ => rfl)) (cwV 3 F.2.2.2.2.1 gX6_differs_X4_gather rfl rfl rfl hdX4_gather ⟨Nat.le_of_ble_eq_true rfl, Nat.le_of_ble_eq_true rfl⟩) r_24b (by decide) rfl rfl rfl (Nat.le_of_ble_eq_true rfl) dX6_differs_37 ⟨Nat.zero_le _, Nat.zero_le _⟩) hS (fun v_36 I_30 R_31 J_32 AI_33 AJ_34 AR_35 H locs zv_36 hp_37 hH hS => ?_)
    dsimp only at hp_37
    obtain ⟨rfl, rfl, rfl, rfl, hv, q_38, q_39, qga⟩ := hp_37
    have rf := rF_t rf (rF_o r_24b q_38)
    have u_40p : I_30 pA = I pA := rf pA 2 hx.2.2.1 (by decide)
    have u_40p1 : (I_30 pA 1).toInt = (I pA 1).toInt := by rw [u_40p]
    have u_40p2 : (I_30 pA 2).toInt = (I pA 2).toInt := by rw [u_40p]
    have ga9 := (qga.resolve_right (fun h => by have q8 := ga_cnt on_ ob_ h.2; rw [h40g.2.2.1] at q8; have q7 := (gI_rows hv y_25b).2.2.2.1; rw [q_38 _ sn, y_25c] at q7; have q6 := (gI_rows hv y_26b).2.2.2.1; rw [q_38 _ sb, y_26c] at q6; omega)).2
    have hl0 := (gI_rows hv h40g.2.1).2.2.1
    have hcs := cmS_1 hv hx hD hcs q_38 q_39
    have eX := (q_38 x (gO_ne hx.1 h40g.2.1 (by decide))).trans eX
    have e37I := (q_38 (gh 37 0) (fun e9 => by have q9 := h37g.2.2.2; rw [e9, h40g.2.2.2] at q9; exact absurd q9 (by decide))).trans e37I
    have e38 := (q_38 (gh 38 0) (fun e9 => by have q9 := h38g.2.2.2; rw [e9, h40g.2.2.2] at q9; exact absurd q9 (by decide))).trans e38
    have e37A := (q_39 _ (cells_ne hv h40g.2.1 h37g.2.1 (fun e9 => by have q9 := h37g.2.2.2; rw [e9, h40g.2.2.2] at q9; exact absurd q9 (by decide)))).trans e37A
    refine lv_pop F.1 F.2.1 dX6_differs_40 rfl ?_
    refine lv_aload_n F.1 F.2.1 dX6_differs_41 rfl (lv_at hl 0 rfl) ?_
    refine g_getR (ci := 6) (k := 11) F hH rfl (by decide) iX6 hx.1 (by decide) rfl (b := gh 40 0) r_24a k63 dX6_differs_42 ?_
    refine g_getI (ci := 4) (k := 3) F hH rfl (by decide) iX4 r_24b (by decide) rfl k99 dX6_differs_45 ?_
    obtain ⟨b_41a, b_41b, b_41c, b_41d, b_41e, b_41f, b_41g, b_41h⟩ := gI_rows hv r_24b
    exact g_iret F hr hlk hH hS hz (zr_t _) ⟨rfl, rfl, rfl, rfl, hv, rf, Or.inr ⟨by omega, _, qrn, _, _, by
        have q9 := ga9
        have eb : (rfC gh AR I AI bA) rel.toNat = ((I_14 y_26 3).toInt.toNat, AI_17 (gh 0 y_26)) := by rw [← hcs0.1 rel.toNat (by omega)]; unfold rfC; rw [rb]
        have en : rfC gh AR I_14 AI_17 nA rel.toNat = ((I_14 y_25 3).toInt.toNat, AI_17 (gh 0 y_25)) := by unfold rfC; rw [rn]
        rw [eb, en]; exact q9, by (try dsimp only); omega⟩, ⟨hcs, eX, e37I, e37A, e38⟩⟩ dX6_differs_48
  · refine z_iconst F dX6_differs_8 ?_
    exact g_iret F hr hlk hH hS hz ⟨by decide, by decide⟩ ⟨rfl, rfl, rfl, rfl, hv, rf, Or.inl ⟨by have q9 := qir (by omega); omega, rfl⟩, ⟨⟨fun _ _ => rfl, fun _ _ => rfl, fun _ _ => rfl⟩, rfl, rfl, rfl, rfl⟩⟩ dX6_differs_9
