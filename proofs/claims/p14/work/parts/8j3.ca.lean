def rmX6_endg : Room := { frames := 0, cells := 0, slots := 0, locals := 0 }
set_option maxHeartbeats 4000000 in
set_option maxRecDepth 100000 in
/-- cuts the tape -/
theorem c_X6_endg (l : Launch) (g : gG) (gh : gGh) (pA bA nA : Nat) (I : gI) (R : gR) (J : gJ) (AI : gI) (AJ : gJ) (AR : gR) (x : Nat) (n : Int) (zn : zr n) (hv : gInv g gh R AR I AI) (hx : xS g gh R AR x pA bA nA) : gMet l g yX6_end wsX6_end rmX6_endg [.ref x, .int (iI n)] (I, R, J, AI, AJ, AR) (gQi g (fun (z : Int) (w : gS) => R = w.2.1 ∧ J = w.2.2.1 ∧ AI = w.2.2.2.1 ∧ AJ = w.2.2.2.2.1 ∧ AR = w.2.2.2.2.2 ∧ (gInv g gh R AR (w.1) AI) ∧ (∀ b, b ≠ x → (w.1) b = I b) ∧ (((n < 0 ∨ (I x 1).toInt < n) ∧ z = -1 ∧ ((w.1) x 1).toInt = (I x 1).toInt) ∨ (0 ≤ n ∧ n ≤ (I x 1).toInt ∧ z = n ∧ ((w.1) x 1).toInt = n)) ∧ (∀ j, j ≠ 1 → (w.1) x j = I x j))) := by
  refine gStart (cc := cX6_end) (maxL := 2) (ret := (some (.int))) (by decide) rfl (Nat.le_of_ble_eq_true rfl) ?_
  intro p e s m below meth c ls F hr hlk hH hz hS hl
  have hl : lv_has ls 2 [(0, .ref x), (1, .int (iI n))] := hl
  have hS : va_S (gA g) s.heap s.heap [] := hS
  obtain ⟨H, hHe⟩ : ∃ H : Heap, H = s.heap := ⟨_, rfl⟩
  obtain ⟨locs, hlo⟩ : ∃ k : List Loc, k = [] := ⟨_, rfl⟩
  have hH : gH g I R J AI AJ AR H := by rw [hHe]; exact hH
  have hS : va_S (gA g) s.heap H locs := by rw [hHe, hlo]; exact hS
  suffices hw : W p l e rmX6_endg s m ([.ref x, .int (iI n)] : List Value).toArray below meth c H locs 0 0 (MQ below (gQi g (fun (z : Int) (w : gS) => R = w.2.1 ∧ J = w.2.2.1 ∧ AI = w.2.2.2.1 ∧ AJ = w.2.2.2.2.1 ∧ AR = w.2.2.2.2.2 ∧ (gInv g gh R AR (w.1) AI) ∧ (∀ b, b ≠ x → (w.1) b = I b) ∧ (((n < 0 ∨ (I x 1).toInt < n) ∧ z = -1 ∧ ((w.1) x 1).toInt = (I x 1).toInt) ∨ (0 ≤ n ∧ n ≤ (I x 1).toInt ∧ z = n ∧ ((w.1) x 1).toInt = n)) ∧ (∀ j, j ≠ 1 → (w.1) x j = I x j))) ([.ref x, .int (iI n)] : List Value).toArray s 0 0 (gA g)) (F0 m 0 ls []) by
    rw [hHe, hlo] at hw; exact hw
  clear hHe hlo
  have iX6 : ∀ w ∈ u_ws RX6 TX6 18, w ∈ wsX6_end := (by decide +kernel)
  have k77 : Cond.fieldLink RX6 77 (TX6 1).1 (TX6 1).2.1 (TX6 1).2.2.1 ∈ wsX6_end := List.mem_of_getElem? (i := 1) rfl
  refine lv_iload_n F.1 F.2.1 dX6_end_0 rfl (lv_at hl 1 rfl) ?_
  refine z_if_lt (tgt := 12) F dX6_end_1 (by decide) zn (fun c_1 => ?_) (fun c_1 => ?_)
  · refine z_iconst F dX6_end_12 ?_
    exact g_iret F hr hlk hH hS hz ⟨by decide, by decide⟩ ⟨rfl, rfl, rfl, rfl, rfl, hv, fun _ _ => rfl, by first | omega | rfl | (dsimp only; omega), (fun _ _ => rfl)⟩ dX6_end_13
  · refine lv_iload_n F.1 F.2.1 dX6_end_4 rfl (lv_at hl 1 rfl) ?_
    refine lv_aload_n F.1 F.2.1 dX6_end_5 rfl (lv_at hl 0 rfl) ?_
    refine g_getI (ci := 6) (k := 1) F hH rfl (by decide) iX6 hx.1 (by decide) rfl k77 dX6_end_6 ?_
    have b_2 := gI_x hv hx.1
    refine z_icmp_le (tgt := 14) F dX6_end_9 (by decide) zn (zr_t _) (fun c_3 => ?_) (fun c_3 => ?_)
    · refine lv_aload_n F.1 F.2.1 dX6_end_14 rfl (lv_at hl 0 rfl) ?_
      refine lv_iload_n F.1 F.2.1 dX6_end_15 rfl (lv_at hl 1 rfl) ?_
      refine g_putI (ci := 6) (k := 1) F hH hS rfl (by decide) iX6 hx.1 (by decide) tyX6 tyX6_ok nmX6 rfl rfl rfl k77 dX6_end_16 (fun H locs hH hS => ?_)
      obtain ⟨I_4, eI_4⟩ : ∃ qQ, qQ = gup2 I x 1 (iI (n)) := ⟨_, rfl⟩
      rw [← eI_4] at hH
      have kI_4 : ∀ b, b ≠ x → I_4 b = I b := fun b hb => by rw [eI_4]; exact funext fun j => gup2_a _ _ hb
      have w_5 : (I_4 x 1).toInt = n := by rw [eI_4, gup2_s]; exact iI_val ⟨by omega, by omega⟩
      have hv : gInv g gh R AR I_4 AI := by rw [eI_4]; exact gInv_x1 hv hx.1 (by omega) (by omega)
      have w_5_14 : (I_4 x 14).toInt = (I x 14).toInt := by rw [eI_4, gup2_k _ _ (by decide)]
      have w_5_15 : (I_4 x 15).toInt = (I x 15).toInt := by rw [eI_4, gup2_k _ _ (by decide)]
      refine lv_iload_n F.1 F.2.1 dX6_end_19 rfl (lv_at hl 1 rfl) ?_
      exact g_iret F hr hlk hH hS hz zn ⟨rfl, rfl, rfl, rfl, rfl, hv, fun b hb => kI_4 b hb, by first | omega | rfl | (dsimp only; omega), (fun j hj => by (try dsimp only); rw [eI_4]; exact gup2_k _ _ hj)⟩ dX6_end_20
    · refine z_iconst F dX6_end_12 ?_
      exact g_iret F hr hlk hH hS hz ⟨by decide, by decide⟩ ⟨rfl, rfl, rfl, rfl, rfl, hv, fun _ _ => rfl, by first | omega | rfl | (dsimp only; omega), (fun _ _ => rfl)⟩ dX6_end_13

def rmX6_cancelg : Room := { frames := 0, cells := 0, slots := 0, locals := 0 }
set_option maxHeartbeats 4000000 in
set_option maxRecDepth 100000 in
/-- empties the batch -/
theorem c_X6_cancelg (l : Launch) (g : gG) (gh : gGh) (pA bA nA : Nat) (I : gI) (R : gR) (J : gJ) (AI : gI) (AJ : gJ) (AR : gR) (x : Nat) (hv : gInv g gh R AR I AI) (hx : xS g gh R AR x pA bA nA) (h37 : gh 42 0 ≠ 1) : gMet l g yX6_cancel wsX6_cancel rmX6_cancelg [.ref x] (I, R, J, AI, AJ, AR) (gQi g (fun (z : Int) (w : gS) => R = w.2.1 ∧ J = w.2.2.1 ∧ AI = w.2.2.2.1 ∧ AJ = w.2.2.2.2.1 ∧ AR = w.2.2.2.2.2 ∧ (gInv g gh R AR (w.1) AI) ∧ (rF g I (w.1)) ∧ (z = (I (gh 37 0) 3).toInt) ∧ (((w.1) (gh 37 0) 3).toInt = 0) ∧ (∀ b, b ≠ gh 37 0 → (w.1) b = I b))) := by
  refine gStart (cc := cX6_cancel) (maxL := 2) (ret := (some (.int))) (by decide) rfl (Nat.le_of_ble_eq_true rfl) ?_
  intro p e s m below meth c ls F hr hlk hH hz hS hl
  have hl : lv_has ls 2 [(0, .ref x)] := hl
  have hS : va_S (gA g) s.heap s.heap [] := hS
  obtain ⟨H, hHe⟩ : ∃ H : Heap, H = s.heap := ⟨_, rfl⟩
  obtain ⟨locs, hlo⟩ : ∃ k : List Loc, k = [] := ⟨_, rfl⟩
  have hH : gH g I R J AI AJ AR H := by rw [hHe]; exact hH
  have hS : va_S (gA g) s.heap H locs := by rw [hHe, hlo]; exact hS
  suffices hw : W p l e rmX6_cancelg s m ([.ref x] : List Value).toArray below meth c H locs 0 0 (MQ below (gQi g (fun (z : Int) (w : gS) => R = w.2.1 ∧ J = w.2.2.1 ∧ AI = w.2.2.2.1 ∧ AJ = w.2.2.2.2.1 ∧ AR = w.2.2.2.2.2 ∧ (gInv g gh R AR (w.1) AI) ∧ (rF g I (w.1)) ∧ (z = (I (gh 37 0) 3).toInt) ∧ (((w.1) (gh 37 0) 3).toInt = 0) ∧ (∀ b, b ≠ gh 37 0 → (w.1) b = I b))) ([.ref x] : List Value).toArray s 0 0 (gA g)) (F0 m 0 ls []) by
    rw [hHe, hlo] at hw; exact hw
  clear hHe hlo
  have rf : rF g I I := rF_r
  have iX6 : ∀ w ∈ u_ws RX6 TX6 18, w ∈ wsX6_cancel := (by decide +kernel)
  have iX4 : ∀ w ∈ u_ws RX4 TX4 4, w ∈ wsX6_cancel := (by decide +kernel)
  have k53 : Cond.fieldLink RX6 53 (TX6 8).1 (TX6 8).2.1 (TX6 8).2.2.1 ∈ wsX6_cancel := List.mem_of_getElem? (i := 1) rfl
  have k99 : Cond.fieldLink RX6 99 (TX4 3).1 (TX4 3).2.1 (TX4 3).2.2.1 ∈ wsX6_cancel := List.mem_of_getElem? (i := 2) rfl
  refine lv_aload_n F.1 F.2.1 dX6_cancel_0 rfl (lv_at hl 0 rfl) ?_
  obtain ⟨r_1a, r_1b, r_1c, r_1d⟩ := gR_x8 hv hx.1
  refine g_getR (ci := 6) (k := 8) F hH rfl (by decide) iX6 hx.1 (by decide) rfl (b := gh 37 0) r_1a k53 dX6_cancel_1 ?_
  refine g_getI (ci := 4) (k := 3) F hH rfl (by decide) iX4 r_1b (by decide) rfl k99 dX6_cancel_4 ?_
  obtain ⟨b_2a, b_2b, b_2c, b_2d, b_2e, b_2f, b_2g, b_2h⟩ := gI_rows hv r_1b
  refine lv_istore_n (lv' := [(1, .int (iI ((I (gh 37 0) 3).toInt))), (0, .ref x)]) F.1 F.2.1 dX6_cancel_7 rfl hl (by decide) rfl (fun ls hl => ?_)
  refine lv_aload_n F.1 F.2.1 dX6_cancel_8 rfl (lv_at hl 1 rfl) ?_
  refine g_getR (ci := 6) (k := 8) F hH rfl (by decide) iX6 hx.1 (by decide) rfl (b := gh 37 0) r_1a k53 dX6_cancel_9 ?_
  refine z_iconst F dX6_cancel_12 ?_
  refine g_putI (ci := 4) (k := 3) F hH hS rfl (by decide) iX4 r_1b (by decide) tyX4 tyX4_ok nmX4 rfl rfl rfl k99 dX6_cancel_13 (fun H locs hH hS => ?_)
  obtain ⟨I_3, eI_3⟩ : ∃ qQ, qQ = gup2 I (gh 37 0) 3 (iI (0)) := ⟨_, rfl⟩
  rw [← eI_3] at hH
  have kI_3 : ∀ b, b ≠ (gh 37 0) → I_3 b = I b := fun b hb => by rw [eI_3]; exact funext fun j => gup2_a _ _ hb
  have w_4 : (I_3 (gh 37 0) 3).toInt = 0 := by rw [eI_3, gup2_s]; exact iI_val ⟨by omega, by omega⟩
  have hv : gInv g gh R AR I_3 AI := by rw [eI_3]; exact gInv_len hv r_1b (by omega) (by omega) (by first | exact hfz | omega)
  have rf := rF_t rf (rF_o r_1b kI_3)
  refine lv_iload_n F.1 F.2.1 dX6_cancel_16 rfl (lv_at hl 0 rfl) ?_
  exact g_iret F hr hlk hH hS hz (zr_t _) ⟨rfl, rfl, rfl, rfl, rfl, hv, rf, by first | omega | rfl | (dsimp only; omega), by first | omega | rfl | (dsimp only; omega), fun b hb => kI_3 b hb⟩ dX6_cancel_17

def rmX6_roundg : Room := { frames := 2, cells := 0, slots := 0, locals := 52 }
set_option maxHeartbeats 4000000 in
set_option maxRecDepth 100000 in
/-- round -/
theorem c_X6_roundg (l : Launch) (g : gG) (gh : gGh) (pA bA nA : Nat) (nr : Nat) (cc : Nat → LC) (cl : Nat → Int) (I : gI) (R : gR) (J : gJ) (AI : gI) (AJ : gJ) (AR : gR) (x : Nat) (rel : Int) (ca : Int) (cb : Int) (c3 : Int) (c4 : Int) (zrel : zr rel) (zca : zr ca) (zcb : zr cb) (zc3 : zr c3) (zc4 : zr c4) (hv : gInv g gh R AR I AI) (hx : xS g gh R AR x pA bA nA) (hlen : (I pA 1).toInt = (nr : Int)) (hln : ∀ r, r < nr → lnC (I (rob AR (gh 6 pA) r)) (AI (gh 3 (rob AR (gh 6 pA) r))) (cc r)) (hbg : ∀ r, r < nr → bgOK (rfC gh AR I AI bA) cl r) : gMet l g yX6_round wsX6_round rmX6_roundg [.ref x, .int (iI rel), .int (iI ca), .int (iI cb), .int (iI c3), .int (iI c4)] (I, R, J, AI, AJ, AR) (gQi g (fun (z : Int) (w : gS) => I = w.1 ∧ R = w.2.1 ∧ J = w.2.2.1 ∧ AJ = w.2.2.2.2.1 ∧ AR = w.2.2.2.2.2 ∧ (gInv g gh R AR I (w.2.2.2.1)) ∧ ((¬ ((0 ≤ rel ∧ rel < (nr : Int)) ∧ (cc rel.toNat).1 0 = 8) ∧ z = -1) ∨ (((0 ≤ rel ∧ rel < (nr : Int)) ∧ (cc rel.toNat).1 0 = 8) ∧ mkR (rfC gh AR I AI bA rel.toNat).2 (rfC gh AR I AI bA rel.toNat).1 (kyT ((cc rel.toNat).1 1) ca cb c3 c4) z)) ∧ (∀ b, b ≠ gh 29 0 → (w.2.2.2.1) b = AI b))) := by
  refine gStart (cc := cX6_round) (maxL := 7) (ret := (some (.int))) (by decide) rfl (Nat.le_of_ble_eq_true rfl) ?_
  intro p e s m below meth c ls F hr hlk hH hz hS hl
  have hl : lv_has ls 7 [(0, .ref x), (1, .int (iI rel)), (2, .int (iI ca)), (3, .int (iI cb)), (4, .int (iI c3)), (5, .int (iI c4))] := hl
  have hS : va_S (gA g) s.heap s.heap [] := hS
  obtain ⟨H, hHe⟩ : ∃ H : Heap, H = s.heap := ⟨_, rfl⟩
  obtain ⟨locs, hlo⟩ : ∃ k : List Loc, k = [] := ⟨_, rfl⟩
  have hH : gH g I R J AI AJ AR H := by rw [hHe]; exact hH
  have hS : va_S (gA g) s.heap H locs := by rw [hHe, hlo]; exact hS
  suffices hw : W p l e rmX6_roundg s m ([.ref x, .int (iI rel), .int (iI ca), .int (iI cb), .int (iI c3), .int (iI c4)] : List Value).toArray below meth c H locs 0 0 (MQ below (gQi g (fun (z : Int) (w : gS) => I = w.1 ∧ R = w.2.1 ∧ J = w.2.2.1 ∧ AJ = w.2.2.2.2.1 ∧ AR = w.2.2.2.2.2 ∧ (gInv g gh R AR I (w.2.2.2.1)) ∧ ((¬ ((0 ≤ rel ∧ rel < (nr : Int)) ∧ (cc rel.toNat).1 0 = 8) ∧ z = -1) ∨ (((0 ≤ rel ∧ rel < (nr : Int)) ∧ (cc rel.toNat).1 0 = 8) ∧ mkR (rfC gh AR I AI bA rel.toNat).2 (rfC gh AR I AI bA rel.toNat).1 (kyT ((cc rel.toNat).1 1) ca cb c3 c4) z)) ∧ (∀ b, b ≠ gh 29 0 → (w.2.2.2.1) b = AI b))) ([.ref x, .int (iI rel), .int (iI ca), .int (iI cb), .int (iI c3), .int (iI c4)] : List Value).toArray s 0 0 (gA g)) (F0 m 0 ls []) by
    rw [hHe, hlo] at hw; exact hw
  clear hHe hlo
  have iX6 : ∀ w ∈ u_ws RX6 TX6 18, w ∈ wsX6_round := (by decide +kernel)
  have iX2 : ∀ w ∈ u_ws RX2 TX2 3, w ∈ wsX6_round := (by decide +kernel)
  have iX0 : ∀ w ∈ u_ws RX0 TX0 15, w ∈ wsX6_round := (by decide +kernel)
  have k23 : Cond.fieldLink RX6 23 (TX6 3).1 (TX6 3).2.1 (TX6 3).2.2.1 ∈ wsX6_round := List.mem_of_getElem? (i := 1) rfl
  have k113 : Cond.fieldLink RX6 113 (TX2 0).1 (TX2 0).2.1 (TX2 0).2.2.1 ∈ wsX6_round := List.mem_of_getElem? (i := 2) rfl
  have k125 : Cond.fieldLink RX6 125 (TX0 2).1 (TX0 2).2.1 (TX0 2).2.2.1 ∈ wsX6_round := List.mem_of_getElem? (i := 3) rfl
  have k38 : Cond.fieldLink RX6 38 (TX6 5).1 (TX6 5).2.1 (TX6 5).2.2.1 ∈ wsX6_round := List.mem_of_getElem? (i := 4) rfl
  have k66 : Cond.fieldLink RX6 66 (TX6 12).1 (TX6 12).2.1 (TX6 12).2.2.1 ∈ wsX6_round := List.mem_of_getElem? (i := 5) rfl
  refine lv_aload_n F.1 F.2.1 dX6_round_0 rfl (lv_at hl 0 rfl) ?_
  refine lv_iload_n F.1 F.2.1 dX6_round_1 rfl (lv_at hl 1 rfl) ?_
  have b_1 := gI_x hv hx.1
  refine g_calli (g_runV (As := [.int (iI rel)]) (rest := []) (ci := 6) F hl.1 hH hS hz (c_X6_isRingf l g gh pA bA nA nr cc I R J AI AJ AR x rel zrel hv hx (by omega) hln) (cwV 1 F.2.2.2.2.1 gX6_round_X6_isRing rfl rfl rfl hdX6_isRing ⟨Nat.le_of_ble_eq_true rfl, Nat.le_of_ble_eq_true rfl⟩) hx.1 (by decide) rfl rfl rfl (Nat.le_of_ble_eq_true rfl) dX6_round_2 ⟨Nat.zero_le _, Nat.zero_le _⟩) hS (fun v_8 I_2 R_3 J_4 AI_5 AJ_6 AR_7 H locs zv_8 hp_9 hH hS => ?_)
  dsimp only at hp_9
  obtain ⟨rfl, rfl, rfl, rfl, rfl, rfl, q_10, qrg⟩ := hp_9
  refine z_if_ne (tgt := 10) F dX6_round_5 (by decide) zv_8 (fun c_11 => ?_) (fun c_11 => ?_)
  · refine lv_aload_n F.1 F.2.1 dX6_round_10 rfl (lv_at hl 0 rfl) ?_
    refine lv_aload_n F.1 F.2.1 dX6_round_11 rfl (lv_at hl 0 rfl) ?_
    refine g_getR (ci := 6) (k := 3) F hH rfl (by decide) iX6 hx.1 (by decide) rfl (b := pA) hx.2.1 k23 dX6_round_12 ?_
    obtain ⟨r_12a, r_12b⟩ := gR_lines hv hx.2.2.1
    refine g_getR (ci := 2) (k := 0) F hH rfl (by decide) iX2 hx.2.2.1 (by decide) rfl (b := gh 6 pA) r_12a k113 dX6_round_15 ?_
    refine lv_iload_n F.1 F.2.1 dX6_round_18 rfl (lv_at hl 1 rfl) ?_
    have hx19 : 0 ≤ rel ∧ rel < ((16 : Nat) : Int) ∧ rel ≤ 2147483647 := ⟨by omega, by omega, by omega⟩
    obtain ⟨y_13, y_13a, y_13b, y_13c, y_13d⟩ := gA_lines hv hx.2.2.1 (z := rel) (by omega) (by omega)
    refine g_aldL F hH r_12b hx19.1 hx19.2.1 hx19.2.2 (b := y_13) y_13a dX6_round_19 ?_
    have hl9 := (hln rel.toNat (by omega)).1
    rw [rob_e y_13a] at hl9
    refine g_getI (ci := 0) (k := 2) F hH rfl (by decide) iX0 y_13b (by decide) rfl k125 dX6_round_20 ?_
    have b_14 := gI_line hv y_13b
    unfold vLineI at b_14
    refine lv_iload_n F.1 F.2.1 dX6_round_23 rfl (lv_at hl 2 rfl) ?_
    refine lv_iload_n F.1 F.2.1 dX6_round_24 rfl (lv_at hl 3 rfl) ?_
    refine lv_iload F.1 F.2.1 dX6_round_25 (lv_at hl 4 rfl) ?_
    refine lv_iload F.1 F.2.1 dX6_round_27 (lv_at hl 5 rfl) ?_
    refine g_callv (g_runV (As := [.int (iI ((I y_13 2).toInt)), .int (iI ca), .int (iI cb), .int (iI c3), .int (iI c4)]) (rest := []) (ci := 6) F hl.1 hH hS hz (c_X6_setKeyf l g gh pA bA nA I R J AI AJ AR x ((I y_13 2).toInt) ca cb c3 c4 (zr_t _) zca zcb zc3 zc4 hv hx) (cwV 5 F.2.2.2.2.1 gX6_round_X6_setKey rfl rfl rfl hdX6_setKey ⟨Nat.le_of_ble_eq_true rfl, Nat.le_of_ble_eq_true rfl⟩) hx.1 (by decide) rfl rfl rfl (Nat.le_of_ble_eq_true rfl) dX6_round_29 ⟨Nat.zero_le _, Nat.zero_le _⟩) hS (fun I_15 R_16 J_17 AI_18 AJ_19 AR_20 H locs hp_21 hH hS => ?_)
    dsimp only at hp_21
    obtain ⟨rfl, rfl, rfl, rfl, rfl, hv, fKq, qky⟩ := hp_21
    refine lv_aload_n F.1 F.2.1 dX6_round_32 rfl (lv_at hl 0 rfl) ?_
    refine g_getR (ci := 6) (k := 5) F hH rfl (by decide) iX6 hx.1 (by decide) rfl (b := bA) hx.2.2.2.1 k38 dX6_round_33 ?_
    refine lv_iload_n F.1 F.2.1 dX6_round_36 rfl (lv_at hl 1 rfl) ?_
    have hx37 : 0 ≤ rel ∧ rel < ((16 : Nat) : Int) ∧ rel ≤ 2147483647 := ⟨by omega, by omega, by omega⟩
    obtain ⟨y_22, y_22a, y_22b, y_22c, y_22d, y_22e⟩ := hx.2.2.2.2.1.2 (rel).toNat (by omega)
    refine g_aldR F hH hx.2.2.2.2.1.1 hx37.1 hx37.2.1 hx37.2.2 (b := y_22) y_22a dX6_round_37 ?_
    have hbk : AI_18 (gh 0 y_22) = AI (gh 0 y_22) := fKq _ (fun q => by have q9 := (hv.1 _ y_22b).1.2.2.1; rw [q, ro29 hv hx.1] at q9; exact absurd q9 (by decide))
    have eF : rfC gh AR I AI bA rel.toNat = ((I y_22 3).toInt.toNat, AI (gh 0 y_22)) := by unfold rfC; rw [rob_e y_22a]
    have hbg9 := hbg rel.toNat (by omega)
    unfold bgOK at hbg9
    rw [eF] at hbg9
    have hrl := gI_rows hv y_22b
    refine lv_aload_n F.1 F.2.1 dX6_round_38 rfl (lv_at hl 0 rfl) ?_
    obtain ⟨r_23a, r_23b⟩ := gR_x12 hv hx.1
    refine g_getR (ci := 6) (k := 12) F hH rfl (by decide) iX6 hx.1 (by decide) rfl (b := gh 29 0) r_23a k66 dX6_round_39 ?_
    obtain ⟨b_24a, b_24b, b_24c, b_24d, b_24e, b_24f, b_24g, b_24h⟩ := gI_rows hv y_22b
    refine g_calli (g_runV (As := [.ref (gh 29 0)]) (rest := []) (ci := 4) F hl.1 hH hS hz (c_X4_findf l g gh I R J AI_18 AJ AR y_22 (gh 29 0) hv y_22b r_23b) (cwV 1 F.2.2.2.2.1 gX6_round_X4_find rfl rfl rfl hdX4_find ⟨Nat.le_of_ble_eq_true rfl, Nat.le_of_ble_eq_true rfl⟩) y_22b (by decide) rfl rfl rfl (Nat.le_of_ble_eq_true rfl) dX6_round_42 ⟨Nat.zero_le _, Nat.zero_le _⟩) hS (fun v_31 I_25 R_26 J_27 AI_28 AJ_29 AR_30 H locs zv_31 hp_32 hH hS => ?_)
    dsimp only at hp_32
    obtain ⟨rfl, rfl, rfl, rfl, rfl, rfl, q_33, qf⟩ := hp_32
    rw [hbk] at qf
    have h4y : gh 2 y_22 = 4 := by first | exact y_22d | exact y_22c
    rw [h4y, show (I y_22 3).toInt = (((I y_22 3).toInt.toNat : Nat) : Int) by omega] at qf
    refine lv_istore (lv' := [(6, .int (iI v_31)), (0, .ref x), (1, .int (iI rel)), (2, .int (iI ca)), (3, .int (iI cb)), (4, .int (iI c3)), (5, .int (iI c4))]) F.1 F.2.1 dX6_round_45 hl (by decide) rfl (fun ls hl => ?_)
    refine lv_iload F.1 F.2.1 dX6_round_47 (lv_at hl 0 rfl) ?_
    refine z_if_ge (tgt := 56) F dX6_round_49 (by decide) zv_31 (fun c_34 => ?_) (fun c_34 => ?_)
    · refine lv_aload_n F.1 F.2.1 dX6_round_56 rfl (lv_at hl 1 rfl) ?_
      refine g_getR (ci := 6) (k := 5) F hH rfl (by decide) iX6 hx.1 (by decide) rfl (b := bA) hx.2.2.2.1 k38 dX6_round_57 ?_
      refine lv_iload_n F.1 F.2.1 dX6_round_60 rfl (lv_at hl 2 rfl) ?_
      have hx61 : 0 ≤ rel ∧ rel < ((16 : Nat) : Int) ∧ rel ≤ 2147483647 := ⟨by omega, by omega, by omega⟩
      obtain ⟨y_35, y_35a, y_35b, y_35c, y_35d, y_35e⟩ := hx.2.2.2.2.1.2 (rel).toNat (by omega)
      refine g_aldR F hH hx.2.2.2.2.1.1 hx61.1 hx61.2.1 hx61.2.2 (b := y_35) y_35a dX6_round_61 ?_
      have eyy : y_35 = y_22 := Option.some.inj (y_35a.symm.trans y_22a)
      refine lv_iload F.1 F.2.1 dX6_round_62 (lv_at hl 0 rfl) ?_
      refine z_iconst F dX6_round_64 ?_
      obtain ⟨b_36a, b_36b, b_36c, b_36d, b_36e, b_36f, b_36g, b_36h⟩ := gI_rows hv y_35b
      refine g_calli (g_runV (As := [.int (iI v_31), .int (iI 5)]) (rest := []) (ci := 4) F hl.1 hH hS hz (c_X4_cell l g gh I R J AI_18 AJ AR y_35 v_31 5 zv_31 ⟨by decide, by decide⟩ hv y_35b (by omega) (by omega) (by omega) (by omega)) (cwV 2 F.2.2.2.2.1 gX6_round_X4_cell rfl rfl rfl hdX4_cell ⟨Nat.le_of_ble_eq_true rfl, Nat.le_of_ble_eq_true rfl⟩) y_35b (by decide) rfl rfl rfl (Nat.le_of_ble_eq_true rfl) dX6_round_65 ⟨Nat.zero_le _, Nat.zero_le _⟩) hS (fun v_43 I_37 R_38 J_39 AI_40 AJ_41 AR_42 H locs zv_43 hp_44 hH hS => ?_)
      dsimp only at hp_44
      obtain ⟨rfl, rfl, rfl, rfl, rfl, rfl, qce⟩ := hp_44
      rw [eyy, hbk] at qce
      exact g_iret F hr hlk hH hS hz zv_43 ⟨rfl, rfl, rfl, rfl, rfl, hv, Or.inr ⟨tIz_1 qrg (by omega), by rw [eF]; exact Or.inl ⟨_, (fd_y (key_tu (fun j hj => by rw [qky j hj, hl9.2.1])) qf (by omega)).1, (fd_y (key_tu (fun j hj => by rw [qky j hj, hl9.2.1])) qf (by omega)).2, by (try dsimp only); rw [qce]; congr 2; omega⟩⟩, fun b hb => fKq b hb⟩ dX6_round_68
    · refine z_iconst F dX6_round_52 ?_
      refine z_goto (tgt := 68) F dX6_round_53 (by decide) ?_
      exact g_iret F hr hlk hH hS hz ⟨by decide, by decide⟩ ⟨rfl, rfl, rfl, rfl, rfl, hv, Or.inr ⟨tIz_1 qrg (by omega), by rw [eF]; exact Or.inr ⟨atW_n (fd_n hbg9.1.1 (key_tu (fun j hj => by rw [qky j hj, hl9.2.1])) qf (by omega)), rfl⟩⟩, fun b hb => fKq b hb⟩ dX6_round_68
  · refine z_iconst F dX6_round_8 ?_
    exact g_iret F hr hlk hH hS hz ⟨by decide, by decide⟩ ⟨rfl, rfl, rfl, rfl, rfl, hv, Or.inl ⟨tIz_0 qrg (by omega), rfl⟩, fun _ _ => rfl⟩ dX6_round_9

def rmX6_countg : Room := { frames := 6, cells := 1, slots := 6, locals := 82 }
set_option maxHeartbeats 4000000 in
set_option maxRecDepth 100000 in
/-- count -/
theorem c_X6_countg (l : Launch) (g : gG) (gh : gGh) (pA bA nA : Nat) (nr : Nat) (cc : Nat → LC) (cl : Nat → Int) (I : gI) (R : gR) (J : gJ) (AI : gI) (AJ : gJ) (AR : gR) (x : Nat) (rel : Int) (ca : Int) (cb : Int) (c3 : Int) (c4 : Int) (zrel : zr rel) (zca : zr ca) (zcb : zr cb) (zc3 : zr c3) (zc4 : zr c4) (hv : gInv g gh R AR I AI) (hx : xS g gh R AR x pA bA nA) (hlen : (I pA 1).toInt = (nr : Int)) (hln : ∀ r, r < nr → lnC (I (rob AR (gh 6 pA) r)) (AI (gh 3 (rob AR (gh 6 pA) r))) (cc r)) (hbg : ∀ r, r < nr → bgOK (rfC gh AR I AI bA) cl r) (hst : l.stackTraces = false) : gMetX l g yX6_count tsX6_count rmX6_countg [.ref x, .int (iI rel), .int (iI ca), .int (iI cb), .int (iI c3), .int (iI c4)] (I, R, J, AI, AJ, AR) (gQi g (fun (z : Int) (w : gS) => I = w.1 ∧ R = w.2.1 ∧ J = w.2.2.1 ∧ AJ = w.2.2.2.2.1 ∧ AR = w.2.2.2.2.2 ∧ (gInv g gh R AR I (w.2.2.2.1)) ∧ (∀ b, b ≠ gh 29 0 → (w.2.2.2.1) b = AI b) ∧ ((0 ≤ rel ∧ rel < (nr : Int)) ∧ z = (bS (rfC gh AR I AI bA rel.toNat).2 (rfC gh AR I AI bA rel.toNat).1 (kyT ((cc rel.toNat).1 1) ca cb c3 c4)).toInt))) (fun w : gS => I = w.1 ∧ R = w.2.1 ∧ J = w.2.2.1 ∧ AJ = w.2.2.2.2.1 ∧ AR = w.2.2.2.2.2 ∧ (gInv g gh R AR I (w.2.2.2.1)) ∧ (∀ b, b ≠ gh 29 0 → (w.2.2.2.1) b = AI b) ∧ (rel < 0 ∨ (nr : Int) ≤ rel)) := by
  refine gStartX (cc := cX6_count) (maxL := 6) (ret := (some (.int))) (by decide) rfl (Nat.le_of_ble_eq_true rfl) ?_
  intro p e s m below meth c ls F hr hlk hH hz hS hxt hTh hl
  have hl : lv_has ls 6 [(0, .ref x), (1, .int (iI rel)), (2, .int (iI ca)), (3, .int (iI cb)), (4, .int (iI c3)), (5, .int (iI c4))] := hl
  have hS : va_S (gA g) s.heap s.heap [] := hS
  obtain ⟨H, hHe⟩ : ∃ H : Heap, H = s.heap := ⟨_, rfl⟩
  obtain ⟨locs, hlo⟩ : ∃ k : List Loc, k = [] := ⟨_, rfl⟩
  have hH : gH g I R J AI AJ AR H := by rw [hHe]; exact hH
  have hS : va_S (gA g) s.heap H locs := by rw [hHe, hlo]; exact hS
  suffices hw : W p l e rmX6_countg s m ([.ref x, .int (iI rel), .int (iI ca), .int (iI cb), .int (iI c3), .int (iI c4)] : List Value).toArray below meth c H locs 0 0 (vx_MQ below (gQi g (fun (z : Int) (w : gS) => I = w.1 ∧ R = w.2.1 ∧ J = w.2.2.1 ∧ AJ = w.2.2.2.2.1 ∧ AR = w.2.2.2.2.2 ∧ (gInv g gh R AR I (w.2.2.2.1)) ∧ (∀ b, b ≠ gh 29 0 → (w.2.2.2.1) b = AI b) ∧ ((0 ≤ rel ∧ rel < (nr : Int)) ∧ z = (bS (rfC gh AR I AI bA rel.toNat).2 (rfC gh AR I AI bA rel.toNat).1 (kyT ((cc rel.toNat).1 1) ca cb c3 c4)).toInt))) (vx_X (fun w : gS => I = w.1 ∧ R = w.2.1 ∧ J = w.2.2.1 ∧ AJ = w.2.2.2.2.1 ∧ AR = w.2.2.2.2.2 ∧ (gInv g gh R AR I (w.2.2.2.1)) ∧ (∀ b, b ≠ gh 29 0 → (w.2.2.2.1) b = AI b) ∧ (rel < 0 ∨ (nr : Int) ≤ rel)) (gBX g) (gA g)) ([.ref x, .int (iI rel), .int (iI ca), .int (iI cb), .int (iI c3), .int (iI c4)] : List Value).toArray s 1 6 (gA g)) (F0 m 0 ls []) by
    rw [hHe, hlo] at hw; exact hw
  clear hHe hlo
  have iX6 : ∀ w ∈ u_ws RX6 TX6 18, w ∈ tsX6_count := fun w h => List.mem_cons_of_mem _ (inTB6 w h)
  have iX2 : ∀ w ∈ u_ws RX2 TX2 3, w ∈ tsX6_count := fun w h => List.mem_cons_of_mem _ (inTB2 w h)
  have iX0 : ∀ w ∈ u_ws RX0 TX0 15, w ∈ tsX6_count := fun w h => List.mem_cons_of_mem _ (inTB0 w h)
  have k23 : Cond.fieldLink RX6 23 (TX6 3).1 (TX6 3).2.1 (TX6 3).2.2.1 ∈ tsX6_count := List.mem_cons_of_mem _ (TBm (tk1 (List.mem_of_getElem? (i := 233) rfl)) rfl)
  have k113 : Cond.fieldLink RX6 113 (TX2 0).1 (TX2 0).2.1 (TX2 0).2.2.1 ∈ tsX6_count := List.mem_cons_of_mem _ (TBm (tk1 (List.mem_of_getElem? (i := 156) rfl)) rfl)
  have k125 : Cond.fieldLink RX6 125 (TX0 2).1 (TX0 2).2.1 (TX0 2).2.2.1 ∈ tsX6_count := List.mem_cons_of_mem _ (TBm (tk1 (List.mem_of_getElem? (i := 86) rfl)) rfl)
  have k38 : Cond.fieldLink RX6 38 (TX6 5).1 (TX6 5).2.1 (TX6 5).2.2.1 ∈ tsX6_count := List.mem_cons_of_mem _ (TBm (tk1 (List.mem_of_getElem? (i := 235) rfl)) rfl)
  have k66 : Cond.fieldLink RX6 66 (TX6 12).1 (TX6 12).2.1 (TX6 12).2.2.1 ∈ tsX6_count := List.mem_cons_of_mem _ (TBm (tk2 (List.mem_of_getElem? (i := 2) rfl)) rfl)
  refine lv_aload_n F.1 F.2.1 dX6_count_0 rfl (lv_at hl 0 rfl) ?_
  refine lv_iload_n F.1 F.2.1 dX6_count_1 rfl (lv_at hl 1 rfl) ?_
  have b_1 := gI_x hv hx.1
  refine g_calli (g_runV (As := [.int (iI rel)]) (rest := []) (ci := 6) F hl.1 hH hS hz (c_X6_isRelationf l g gh pA bA nA I R J AI AJ AR x rel zrel hv hx) (cwV 1 F.2.2.2.2.1 (good_up gTB_X6_count_X6_isRelation) rfl rfl rfl hdX6_isRelation ⟨Nat.le_of_ble_eq_true rfl, Nat.le_of_ble_eq_true rfl⟩) hx.1 (by decide) rfl rfl rfl (Nat.le_of_ble_eq_true rfl) dX6_count_2 ⟨Nat.zero_le _, Nat.zero_le _⟩) hS (fun v_8 I_2 R_3 J_4 AI_5 AJ_6 AR_7 H locs zv_8 hp_9 hH hS => ?_)
  dsimp only at hp_9
  obtain ⟨rfl, rfl, rfl, rfl, rfl, rfl, q_10, qir⟩ := hp_9
  refine z_if_ne (tgt := 18) F dX6_count_5 (by decide) zv_8 (fun c_11 => ?_) (fun c_11 => ?_)
  · refine lv_aload_n F.1 F.2.1 dX6_count_18 rfl (lv_at hl 0 rfl) ?_
    refine lv_aload_n F.1 F.2.1 dX6_count_19 rfl (lv_at hl 0 rfl) ?_
    refine g_getR (ci := 6) (k := 3) F hH rfl (by decide) iX6 hx.1 (by decide) rfl (b := pA) hx.2.1 k23 dX6_count_20 ?_
    obtain ⟨r_12a, r_12b⟩ := gR_lines hv hx.2.2.1
    refine g_getR (ci := 2) (k := 0) F hH rfl (by decide) iX2 hx.2.2.1 (by decide) rfl (b := gh 6 pA) r_12a k113 dX6_count_23 ?_
    refine lv_iload_n F.1 F.2.1 dX6_count_26 rfl (lv_at hl 1 rfl) ?_
    have hx27 : 0 ≤ rel ∧ rel < ((16 : Nat) : Int) ∧ rel ≤ 2147483647 := ⟨by omega, by omega, by omega⟩
    obtain ⟨y_13, y_13a, y_13b, y_13c, y_13d⟩ := gA_lines hv hx.2.2.1 (z := rel) (by omega) (by omega)
    refine g_aldL F hH r_12b hx27.1 hx27.2.1 hx27.2.2 (b := y_13) y_13a dX6_count_27 ?_
    have hl9 := (hln rel.toNat (by omega)).1
    rw [rob_e y_13a] at hl9
    refine g_getI (ci := 0) (k := 2) F hH rfl (by decide) iX0 y_13b (by decide) rfl k125 dX6_count_28 ?_
    have b_14 := gI_line hv y_13b
    unfold vLineI at b_14
    refine lv_iload_n F.1 F.2.1 dX6_count_31 rfl (lv_at hl 2 rfl) ?_
    refine lv_iload_n F.1 F.2.1 dX6_count_32 rfl (lv_at hl 3 rfl) ?_
    refine lv_iload F.1 F.2.1 dX6_count_33 (lv_at hl 4 rfl) ?_
    refine lv_iload F.1 F.2.1 dX6_count_35 (lv_at hl 5 rfl) ?_
    refine g_callv (g_runV (As := [.int (iI ((I y_13 2).toInt)), .int (iI ca), .int (iI cb), .int (iI c3), .int (iI c4)]) (rest := []) (ci := 6) F hl.1 hH hS hz (c_X6_setKeyf l g gh pA bA nA I R J AI AJ AR x ((I y_13 2).toInt) ca cb c3 c4 (zr_t _) zca zcb zc3 zc4 hv hx) (cwV 5 F.2.2.2.2.1 (good_up gTB_X6_count_X6_setKey) rfl rfl rfl hdX6_setKey ⟨Nat.le_of_ble_eq_true rfl, Nat.le_of_ble_eq_true rfl⟩) hx.1 (by decide) rfl rfl rfl (Nat.le_of_ble_eq_true rfl) dX6_count_37 ⟨Nat.zero_le _, Nat.zero_le _⟩) hS (fun I_15 R_16 J_17 AI_18 AJ_19 AR_20 H locs hp_21 hH hS => ?_)
    dsimp only at hp_21
    obtain ⟨rfl, rfl, rfl, rfl, rfl, hv, fKq, qky⟩ := hp_21
    refine lv_aload_n F.1 F.2.1 dX6_count_40 rfl (lv_at hl 0 rfl) ?_
    refine g_getR (ci := 6) (k := 5) F hH rfl (by decide) iX6 hx.1 (by decide) rfl (b := bA) hx.2.2.2.1 k38 dX6_count_41 ?_
    refine lv_iload_n F.1 F.2.1 dX6_count_44 rfl (lv_at hl 1 rfl) ?_
    have hx45 : 0 ≤ rel ∧ rel < ((16 : Nat) : Int) ∧ rel ≤ 2147483647 := ⟨by omega, by omega, by omega⟩
    obtain ⟨y_22, y_22a, y_22b, y_22c, y_22d, y_22e⟩ := hx.2.2.2.2.1.2 (rel).toNat (by omega)
    refine g_aldR F hH hx.2.2.2.2.1.1 hx45.1 hx45.2.1 hx45.2.2 (b := y_22) y_22a dX6_count_45 ?_
    have hbk : AI_18 (gh 0 y_22) = AI (gh 0 y_22) := fKq _ (fun q => by have q9 := (hv.1 _ y_22b).1.2.2.1; rw [q, ro29 hv hx.1] at q9; exact absurd q9 (by decide))
    have eF : rfC gh AR I AI bA rel.toNat = ((I y_22 3).toInt.toNat, AI (gh 0 y_22)) := by unfold rfC; rw [rob_e y_22a]
    have hbg9 := hbg rel.toNat (by omega)
    unfold bgOK at hbg9
    rw [eF] at hbg9
    have hrl := gI_rows hv y_22b
    have h4y : gh 2 y_22 = 4 := y_22d
    refine lv_aload_n F.1 F.2.1 dX6_count_46 rfl (lv_at hl 0 rfl) ?_
    obtain ⟨r_23a, r_23b⟩ := gR_x12 hv hx.1
    refine g_getR (ci := 6) (k := 12) F hH rfl (by decide) iX6 hx.1 (by decide) rfl (b := gh 29 0) r_23a k66 dX6_count_47 ?_
    obtain ⟨b_24a, b_24b, b_24c, b_24d, b_24e, b_24f, b_24g, b_24h⟩ := gI_rows hv y_22b
    refine g_calli (g_runV (As := [.ref (gh 29 0)]) (rest := []) (ci := 4) F hl.1 hH hS hz (c_X4_amountOff l g gh ((I y_22 3).toInt.toNat) (kyT ((cc rel.toNat).1 1) ca cb c3 c4) I R J AI_18 AJ AR y_22 (gh 29 0) hv y_22b r_23b (by omega) (by rw [hbk]; exact hbg9.1) h4y (fun j hj => by rw [qky j hj, hl9.2.1])) (cwV 1 F.2.2.2.2.1 (good_up gTB_X6_count_X4_amountOf) rfl rfl rfl hdX4_amountOf ⟨Nat.le_of_ble_eq_true rfl, Nat.le_of_ble_eq_true rfl⟩) y_22b (by decide) rfl rfl rfl (Nat.le_of_ble_eq_true rfl) dX6_count_50 ⟨Nat.zero_le _, Nat.zero_le _⟩) hS (fun v_31 I_25 R_26 J_27 AI_28 AJ_29 AR_30 H locs zv_31 hp_32 hH hS => ?_)
    dsimp only at hp_32
    obtain ⟨rfl, rfl, rfl, rfl, rfl, rfl, qao⟩ := hp_32
    rw [hbk] at qao
    exact g_iretX F hr hlk hH hS hz zv_31 ⟨rfl, rfl, rfl, rfl, rfl, hv, fun b hb => fKq b hb, ⟨by omega, by (try dsimp only); rw [eF]; exact qao⟩⟩ (by decide) (by decide) dX6_count_53
  · exact g_throw F hTh hst hH hS hz hxt hlk hl.1 (i := 4) rfl (fun w h => List.mem_cons_of_mem _ h) dX6_count_8 dX6_count_11 dX6_count_12 dX6_count_14 dX6_count_17 (Nat.le_of_ble_eq_true rfl) (Nat.le_of_ble_eq_true rfl) (Nat.le_refl _) (Nat.le_refl _) ⟨rfl, rfl, rfl, rfl, rfl, hv, fun _ _ => rfl, (by have h9 := qir (by omega); omega)⟩

def rmL_countg : Room := { frames := 7, cells := 1, slots := 6, locals := 107 }
set_option maxHeartbeats 4000000 in
set_option maxRecDepth 100000 in
/-- count, caught -/
theorem c_L_countg (l : Launch) (g : gG) (gh : gGh) (pA bA nA : Nat) (nr : Nat) (cc : Nat → LC) (cl : Nat → Int) (I : gI) (R : gR) (J : gJ) (AI : gI) (AJ : gJ) (AR : gR) (x : Nat) (rel : Int) (ca : Int) (cb : Int) (c3 : Int) (c4 : Int) (ou : Nat) (zrel : zr rel) (zca : zr ca) (zcb : zr cb) (zc3 : zr c3) (zc4 : zr c4) (hv : gInv g gh R AR I AI) (hx : xS g gh R AR x pA bA nA) (hou : gAr g ou 10 1) (hlen : (I pA 1).toInt = (nr : Int)) (hln : ∀ r, r < nr → lnC (I (rob AR (gh 6 pA) r)) (AI (gh 3 (rob AR (gh 6 pA) r))) (cc r)) (hbg : ∀ r, r < nr → bgOK (rfC gh AR I AI bA) cl r) (hst : l.stackTraces = false) : gMetX l g yL_count tsL_count rmL_countg [.ref x, .int (iI rel), .int (iI ca), .int (iI cb), .int (iI c3), .int (iI c4), .ref ou] (I, R, J, AI, AJ, AR) (gQi g (fun (z : Int) (w : gS) => I = w.1 ∧ R = w.2.1 ∧ J = w.2.2.1 ∧ AR = w.2.2.2.2.2 ∧ (gInv g gh R AR I (w.2.2.2.1)) ∧ (z = 0 ∨ z = 1) ∧ ((z = 0 ∧ ∃ v9 : Int, ((0 ≤ rel ∧ rel < (nr : Int)) ∧ v9 = (bS (rfC gh AR I AI bA rel.toNat).2 (rfC gh AR I AI bA rel.toNat).1 (kyT ((cc rel.toNat).1 1) ca cb c3 c4)).toInt) ∧ zr v9 ∧ (w.2.2.2.2.1) ou 0 = (iI v9).toInt64) ∨ (z = 1 ∧ (rel < 0 ∨ (nr : Int) ≤ rel))) ∧ (∀ b, b ≠ ou → (w.2.2.2.2.1) b = AJ b) ∧ (∀ b, b ≠ gh 29 0 → (w.2.2.2.1) b = AI b))) (fun _ : gS => False) := by
  refine gStartW (cc := cL_count) (maxL := 8) (ret := (some (.int))) (by decide) rfl (Nat.le_of_ble_eq_true rfl) ?_
  intro p e s m below meth c ls F hr hlk hH hz hS hxt hTh hl
  have hl : lv_has ls 8 [(0, .ref x), (1, .int (iI rel)), (2, .int (iI ca)), (3, .int (iI cb)), (4, .int (iI c3)), (5, .int (iI c4)), (6, .ref ou)] := hl
  have hS : va_S (gA g) s.heap s.heap [] := hS
  obtain ⟨H, hHe⟩ : ∃ H : Heap, H = s.heap := ⟨_, rfl⟩
  obtain ⟨locs, hlo⟩ : ∃ k : List Loc, k = [] := ⟨_, rfl⟩
  have hH : gH g I R J AI AJ AR H := by rw [hHe]; exact hH
  have hS : va_S (gA g) s.heap H locs := by rw [hHe, hlo]; exact hS
  suffices hw : W p l e rmL_countg s m ([.ref x, .int (iI rel), .int (iI ca), .int (iI cb), .int (iI c3), .int (iI c4), .ref ou] : List Value).toArray below meth c H locs 0 0 (vx_MQ below (gQi g (fun (z : Int) (w : gS) => I = w.1 ∧ R = w.2.1 ∧ J = w.2.2.1 ∧ AR = w.2.2.2.2.2 ∧ (gInv g gh R AR I (w.2.2.2.1)) ∧ (z = 0 ∨ z = 1) ∧ ((z = 0 ∧ ∃ v9 : Int, ((0 ≤ rel ∧ rel < (nr : Int)) ∧ v9 = (bS (rfC gh AR I AI bA rel.toNat).2 (rfC gh AR I AI bA rel.toNat).1 (kyT ((cc rel.toNat).1 1) ca cb c3 c4)).toInt) ∧ zr v9 ∧ (w.2.2.2.2.1) ou 0 = (iI v9).toInt64) ∨ (z = 1 ∧ (rel < 0 ∨ (nr : Int) ≤ rel))) ∧ (∀ b, b ≠ ou → (w.2.2.2.2.1) b = AJ b) ∧ (∀ b, b ≠ gh 29 0 → (w.2.2.2.1) b = AI b))) (vx_X (fun _ : gS => False) (gBX g) (gA g)) ([.ref x, .int (iI rel), .int (iI ca), .int (iI cb), .int (iI c3), .int (iI c4), .ref ou] : List Value).toArray s 1 6 (gA g)) (F0 m 0 ls []) by
    rw [hHe, hlo] at hw; exact hw
  clear hHe hlo
  refine lv_aload F.1 F.2.1 dL_count_0 (lv_at hl 6 rfl) ?_
  refine z_iconst F dL_count_2 ?_
  refine lv_aload_n F.1 F.2.1 dL_count_3 rfl (lv_at hl 0 rfl) ?_
  refine lv_iload_n F.1 F.2.1 dL_count_4 rfl (lv_at hl 1 rfl) ?_
  refine lv_iload_n F.1 F.2.1 dL_count_5 rfl (lv_at hl 2 rfl) ?_
  refine lv_iload_n F.1 F.2.1 dL_count_6 rfl (lv_at hl 3 rfl) ?_
  refine lv_iload F.1 F.2.1 dL_count_7 (lv_at hl 4 rfl) ?_
  refine lv_iload F.1 F.2.1 dL_count_9 (lv_at hl 5 rfl) ?_
  refine g_calliX (g_runVX (As := [.int (iI rel), .int (iI ca), .int (iI cb), .int (iI c3), .int (iI c4)]) (rest := [.int (iI 0), .ref ou]) (ci := 6) F hTh hl.1 hH hS hz (c_X6_countg l g gh pA bA nA nr cc cl I R J AI AJ AR x rel ca cb c3 c4 zrel zca zcb zc3 zc4 hv hx hlen hln hbg hst) (cwV 5 F.2.2.2.2.1 (good_up gTB_L_count_X6_count) rfl rfl rfl hdX6_count ⟨Nat.le_of_ble_eq_true rfl, Nat.le_of_ble_eq_true rfl⟩) hx.1 (by decide) rfl rfl rfl (Nat.le_of_ble_eq_true rfl) dL_count_11 ⟨Nat.le_refl _, Nat.le_refl _⟩) hS (fun ce9 q9 I_1 R_2 J_3 AI_4 AJ_5 AR_6 H locs hp hH hS h1 h2 h3 => ?_) (fun z I_1 R_2 J_3 AI_4 AJ_5 AR_6 H locs zz hp hH hS => ?_)
  · dsimp only at hp
    obtain ⟨rfl, rfl, rfl, rfl, rfl, hv, fA29, qtx⟩ := hp
    refine g_catch F hTh hxt (by decide) (by decide) (List.mem_cons_of_mem _ (TBm (tk4 (List.mem_of_getElem? (i := 151) rfl)) rfl)) h1 h2 h3 ?_
    refine lv_astore (lv' := [(7, .ref q9), (0, .ref x), (1, .int (iI rel)), (2, .int (iI ca)), (3, .int (iI cb)), (4, .int (iI c3)), (5, .int (iI c4)), (6, .ref ou)]) F.1 F.2.1 dL_count_19 hl (by decide) rfl (fun ls hl => ?_)
    refine z_iconst F dL_count_21 ?_
    exact g_iretX F hr hlk hH hS hz ⟨by decide, by decide⟩ ⟨rfl, rfl, rfl, rfl, hv, by first | omega | rfl | (dsimp only; omega), Or.inr ⟨rfl, qtx⟩, (fun _ _ => rfl), fA29⟩ (by decide) (by decide) dL_count_22
  dsimp only at hp
  obtain ⟨rfl, rfl, rfl, rfl, rfl, hv, fA29, qtv⟩ := hp
  refine lv_i2l F.1 F.2.1 dL_count_14 rfl ?_
  refine lv_topl (fun j_7 ej_7 => ?_)
  have hx15 : 0 ≤ (0 : Int) ∧ (0 : Int) < ((1 : Nat) : Int) ∧ (0 : Int) ≤ 2147483647 := ⟨by omega, by omega, by omega⟩
  refine g_last F hH hS hou hx15.1 hx15.2.1 hx15.2.2 dL_count_15 (fun H locs hH hS => ?_)
  obtain ⟨AJ_8, eAJ_8⟩ : ∃ qQ, qQ = gup2 AJ ou ((0 : Int)).toNat (j_7) := ⟨_, rfl⟩
  rw [← eAJ_8] at hH
  have kAJ_8 : ∀ b, b ≠ ou → AJ_8 b = AJ b := fun b hb => by rw [eAJ_8]; exact funext fun j => gup2_a _ _ hb
  refine z_goto (tgt := 23) F dL_count_16 (by decide) ?_
  refine z_iconst F dL_count_23 ?_
  exact g_iretX F hr hlk hH hS hz ⟨by decide, by decide⟩ ⟨rfl, rfl, rfl, rfl, hv, by first | omega | rfl | (dsimp only; omega), Or.inl ⟨rfl, _, qtv, zz, by (try dsimp only); rw [eAJ_8, gup2_e _ _ (by decide), ej_7]⟩, kAJ_8, fA29⟩ (by decide) (by decide) dL_count_24

def rmX6_gatherValuesg : Room := { frames := 3, cells := 0, slots := 0, locals := 108 }
set_option maxHeartbeats 4000000 in
set_option maxRecDepth 100000 in
/-- the values of a column -/
theorem c_X6_gatherValuesg (l : Launch) (g : gG) (gh : gGh) (pA bA nA : Nat) (I : gI) (R : gR) (J : gJ) (AI : gI) (AJ : gJ) (AR : gR) (x : Nat) (ch : Nat) (col : Int) (zcol : zr col) (hv : gInv g gh R AR I AI) (hx : xS g gh R AR x pA bA nA) (hch : gO g ch 4) (h0 : 0 ≤ col ∧ col ≤ 5) : gMet l g yX6_gatherValues wsX6_gatherValues rmX6_gatherValuesg [.ref x, .ref ch, .int (iI col)] (I, R, J, AI, AJ, AR) (gQv g (fun w : gS => R = w.2.1 ∧ J = w.2.2.1 ∧ AJ = w.2.2.2.2.1 ∧ AR = w.2.2.2.2.2 ∧ (gInv g gh R AR (w.1) (w.2.2.2.1)) ∧ (rF g I (w.1)) ∧ (∀ b, b ≠ gh 40 0 → (w.1) b = I b) ∧ (∀ b, b ≠ gh 29 0 → b ≠ gh 0 (gh 40 0) → (w.2.2.2.1) b = AI b))) := by
  refine gStart (cc := cX6_gatherValues) (maxL := 4) (ret := none) (by decide) rfl (Nat.le_of_ble_eq_true rfl) ?_
  intro p e s m below meth c ls F hr hlk hH hz hS hl
  have hl : lv_has ls 4 [(0, .ref x), (1, .ref ch), (2, .int (iI col))] := hl
  have hS : va_S (gA g) s.heap s.heap [] := hS
  obtain ⟨H, hHe⟩ : ∃ H : Heap, H = s.heap := ⟨_, rfl⟩
  obtain ⟨locs, hlo⟩ : ∃ k : List Loc, k = [] := ⟨_, rfl⟩
  have hH : gH g I R J AI AJ AR H := by rw [hHe]; exact hH
  have hS : va_S (gA g) s.heap H locs := by rw [hHe, hlo]; exact hS
  suffices hw : W p l e rmX6_gatherValuesg s m ([.ref x, .ref ch, .int (iI col)] : List Value).toArray below meth c H locs 0 0 (MQ below (gQv g (fun w : gS => R = w.2.1 ∧ J = w.2.2.1 ∧ AJ = w.2.2.2.2.1 ∧ AR = w.2.2.2.2.2 ∧ (gInv g gh R AR (w.1) (w.2.2.2.1)) ∧ (rF g I (w.1)) ∧ (∀ b, b ≠ gh 40 0 → (w.1) b = I b) ∧ (∀ b, b ≠ gh 29 0 → b ≠ gh 0 (gh 40 0) → (w.2.2.2.1) b = AI b))) ([.ref x, .ref ch, .int (iI col)] : List Value).toArray s 0 0 (gA g)) (F0 m 0 ls []) by
    rw [hHe, hlo] at hw; exact hw
  clear hHe hlo
  have rf : rF g I I := rF_r
  have fAw : ∀ b, b ≠ gh 29 0 → b ≠ gh 0 (gh 40 0) → AI b = AI b := fun _ _ _ => rfl
  have iX6 : ∀ w ∈ u_ws RX6 TX6 18, w ∈ wsX6_gatherValues := (by decide +kernel)
  have iX4 : ∀ w ∈ u_ws RX4 TX4 4, w ∈ wsX6_gatherValues := (by decide +kernel)
  have k63 : Cond.fieldLink RX6 63 (TX6 11).1 (TX6 11).2.1 (TX6 11).2.2.1 ∈ wsX6_gatherValues := List.mem_of_getElem? (i := 1) rfl
  have k99 : Cond.fieldLink RX6 99 (TX4 3).1 (TX4 3).2.1 (TX4 3).2.2.1 ∈ wsX6_gatherValues := List.mem_of_getElem? (i := 2) rfl
  have k66 : Cond.fieldLink RX6 66 (TX6 12).1 (TX6 12).2.1 (TX6 12).2.2.1 ∈ wsX6_gatherValues := List.mem_of_getElem? (i := 3) rfl
  refine lv_aload_n F.1 F.2.1 dX6_gatherValues_0 rfl (lv_at hl 0 rfl) ?_
  obtain ⟨r_1a, r_1b, r_1c, r_1d⟩ := gR_x11 hv hx.1
  refine g_getR (ci := 6) (k := 11) F hH rfl (by decide) iX6 hx.1 (by decide) rfl (b := gh 40 0) r_1a k63 dX6_gatherValues_1 ?_
  refine z_iconst F dX6_gatherValues_4 ?_
  refine g_putI (ci := 4) (k := 3) F hH hS rfl (by decide) iX4 r_1b (by decide) tyX4 tyX4_ok nmX4 rfl rfl rfl k99 dX6_gatherValues_5 (fun H locs hH hS => ?_)
  obtain ⟨I_2, eI_2⟩ : ∃ qQ, qQ = gup2 I (gh 40 0) 3 (iI (0)) := ⟨_, rfl⟩
  rw [← eI_2] at hH
  have kI_2 : ∀ b, b ≠ (gh 40 0) → I_2 b = I b := fun b hb => by rw [eI_2]; exact funext fun j => gup2_a _ _ hb
  have w_3 : (I_2 (gh 40 0) 3).toInt = 0 := by rw [eI_2, gup2_s]; exact iI_val ⟨by omega, by omega⟩
  have hv : gInv g gh R AR I_2 AI := by rw [eI_2]; exact gInv_len hv r_1b (by omega) (by omega) (by first | exact hfz | omega)
  have rf := rF_t rf (rF_o r_1b kI_2)
  refine lv_aload_n F.1 F.2.1 dX6_gatherValues_8 rfl (lv_at hl 0 rfl) ?_
  refine z_iconst F dX6_gatherValues_9 ?_
  refine z_iconst F dX6_gatherValues_10 ?_
  refine z_iconst F dX6_gatherValues_11 ?_
  refine z_iconst F dX6_gatherValues_12 ?_
  refine z_iconst F dX6_gatherValues_13 ?_
  have b_4 := gI_x hv hx.1
  refine g_callv (g_runV (As := [.int (iI 1), .int (iI 0), .int (iI 0), .int (iI 0), .int (iI 0)]) (rest := []) (ci := 6) F hl.1 hH hS hz (c_X6_setKeyf l g gh pA bA nA I_2 R J AI AJ AR x 1 0 0 0 0 ⟨by decide, by decide⟩ ⟨by decide, by decide⟩ ⟨by decide, by decide⟩ ⟨by decide, by decide⟩ ⟨by decide, by decide⟩ hv hx) (cwV 5 F.2.2.2.2.1 gX6_gatherValues_X6_setKey rfl rfl rfl hdX6_setKey ⟨Nat.le_of_ble_eq_true rfl, Nat.le_of_ble_eq_true rfl⟩) hx.1 (by decide) rfl rfl rfl (Nat.le_of_ble_eq_true rfl) dX6_gatherValues_14 ⟨Nat.zero_le _, Nat.zero_le _⟩) hS (fun I_5 R_6 J_7 AI_8 AJ_9 AR_10 H locs hp_11 hH hS => ?_)
  dsimp only at hp_11
  obtain ⟨rfl, rfl, rfl, rfl, rfl, hv, fKq, qky⟩ := hp_11
  have fAw : ∀ b, b ≠ gh 29 0 → b ≠ gh 0 (gh 40 0) → AI_8 b = AI b := fun b h1 h2 => (fKq b h1).trans (fAw b h1 h2)
  refine z_iconst F dX6_gatherValues_17 ?_
  refine lv_istore_n (lv' := [(3, .int (iI 0)), (0, .ref x), (1, .ref ch), (2, .int (iI col))]) F.1 F.2.1 dX6_gatherValues_18 rfl hl (by decide) rfl (fun ls hl => ?_)
  have cut_19_13 : ∀ (NN : Nat) (i : Int) (I_12 : gI) (AI_13 : gI) (H : Heap) (locs : List Loc) (ls : Array Slot), zr i → (gInv g gh R AR I_12 AI_13) → (rF g I I_12) → (0 ≤ i ∧ i ≤ 240) → (∀ b, b ≠ gh 40 0 → I_12 b = I b) → (∀ b, b ≠ gh 29 0 → b ≠ gh 0 (gh 40 0) → AI_13 b = AI b) → (240 - i) < ((NN : Nat) : Int) → gH g I_12 R J AI_13 AJ AR H → va_S (gA g) s.heap H locs → lv_has ls 4 [(3, .int (iI i)), (0, .ref x), (1, .ref ch), (2, .int (iI col))] → W p l e rmX6_gatherValuesg s m ([.ref x, .ref ch, .int (iI col)] : List Value).toArray below meth c H locs 0 0 (MQ below (gQv g (fun w : gS => R = w.2.1 ∧ J = w.2.2.1 ∧ AJ = w.2.2.2.2.1 ∧ AR = w.2.2.2.2.2 ∧ (gInv g gh R AR (w.1) (w.2.2.2.1)) ∧ (rF g I (w.1)) ∧ (∀ b, b ≠ gh 40 0 → (w.1) b = I b) ∧ (∀ b, b ≠ gh 29 0 → b ≠ gh 0 (gh 40 0) → (w.2.2.2.1) b = AI b))) ([.ref x, .ref ch, .int (iI col)] : List Value).toArray s 0 0 (gA g)) (F0 m 19 ls []) := by
    intro NN19
    induction NN19 with
    | zero =>
      intro i I_12 AI_13 H locs ls zi hv rf hi fIw fAw hm19 hH hS hl
      exact absurd hm19 (by omega)
    | succ NN19 ih19 =>
      intro i I_12 AI_13 H locs ls zi hv rf hi fIw fAw hm19 hH hS hl
      refine lv_iload_n F.1 F.2.1 dX6_gatherValues_19 rfl (lv_at hl 0 rfl) ?_
      refine lv_aload_n F.1 F.2.1 dX6_gatherValues_20 rfl (lv_at hl 2 rfl) ?_
      refine g_getI (ci := 4) (k := 3) F hH rfl (by decide) iX4 hch (by decide) rfl k99 dX6_gatherValues_21 ?_
      obtain ⟨b_15a, b_15b, b_15c, b_15d, b_15e, b_15f, b_15g, b_15h⟩ := gI_rows hv hch
      refine z_icmp_ge (tgt := 58) F dX6_gatherValues_24 (by decide) zi (zr_t _) (fun c_16 => ?_) (fun c_16 => ?_)
      · exact g_vret F hr hlk hH hS hz ⟨rfl, rfl, rfl, rfl, hv, rf, fun b hb => fIw b hb, fAw⟩ dX6_gatherValues_58
      · refine lv_aload_n F.1 F.2.1 dX6_gatherValues_27 rfl (lv_at hl 1 rfl) ?_
        obtain ⟨r_17a, r_17b⟩ := gR_x12 hv hx.1
        refine g_getR (ci := 6) (k := 12) F hH rfl (by decide) iX6 hx.1 (by decide) rfl (b := gh 29 0) r_17a k66 dX6_gatherValues_28 ?_
        refine z_iconst F dX6_gatherValues_31 ?_
        refine lv_aload_n F.1 F.2.1 dX6_gatherValues_32 rfl (lv_at hl 2 rfl) ?_
        refine lv_iload_n F.1 F.2.1 dX6_gatherValues_33 rfl (lv_at hl 0 rfl) ?_
        refine lv_iload_n F.1 F.2.1 dX6_gatherValues_34 rfl (lv_at hl 3 rfl) ?_
        refine g_calli (g_runV (As := [.int (iI i), .int (iI col)]) (rest := [.int (iI 0), .ref (gh 29 0)]) (ci := 4) F hl.1 hH hS hz (c_X4_cell l g gh I_12 R J AI_13 AJ AR ch i col zi zcol hv hch (by omega) (by omega) (by omega) (by omega)) (cwV 2 F.2.2.2.2.1 gX6_gatherValues_X4_cell rfl rfl rfl hdX4_cell ⟨Nat.le_of_ble_eq_true rfl, Nat.le_of_ble_eq_true rfl⟩) hch (by decide) rfl rfl rfl (Nat.le_of_ble_eq_true rfl) dX6_gatherValues_35 ⟨Nat.zero_le _, Nat.zero_le _⟩) hS (fun v_24 I_18 R_19 J_20 AI_21 AJ_22 AR_23 H locs zv_24 hp_25 hH hS => ?_)
        dsimp only at hp_25
        obtain ⟨rfl, rfl, rfl, rfl, rfl, rfl, q_26⟩ := hp_25
        have hx38 : 0 ≤ (0 : Int) ∧ (0 : Int) < ((5 : Nat) : Int) ∧ (0 : Int) ≤ 2147483647 := ⟨by omega, by omega, by omega⟩
        refine g_iast F hH hS r_17b hx38.1 hx38.2.1 hx38.2.2 dX6_gatherValues_38 (fun H locs hH hS => ?_)
        obtain ⟨AI_27, eAI_27⟩ : ∃ qQ, qQ = gup2 AI_13 (gh 29 0) ((0 : Int)).toNat (iI (v_24)) := ⟨_, rfl⟩
        rw [← eAI_27] at hH
        have kAI_27 : ∀ b, b ≠ (gh 29 0) → AI_27 b = AI_13 b := fun b hb => by rw [eAI_27]; exact funext fun j => gup2_a _ _ hb
        have hv : gInv g gh R AR I_12 AI_27 := gInv_plain hv (ro29 hv hx.1) kAI_27
        have fAw : ∀ b, b ≠ gh 29 0 → b ≠ gh 0 (gh 40 0) → AI_27 b = AI b := fun b h1 h2 => (kAI_27 b h1).trans (fAw b h1 h2)
        refine lv_aload_n F.1 F.2.1 dX6_gatherValues_39 rfl (lv_at hl 1 rfl) ?_
        refine g_getR (ci := 6) (k := 11) F hH rfl (by decide) iX6 hx.1 (by decide) rfl (b := gh 40 0) r_1a k63 dX6_gatherValues_40 ?_
        refine lv_aload_n F.1 F.2.1 dX6_gatherValues_43 rfl (lv_at hl 1 rfl) ?_
        refine g_getR (ci := 6) (k := 12) F hH rfl (by decide) iX6 hx.1 (by decide) rfl (b := gh 29 0) r_17a k66 dX6_gatherValues_44 ?_
        refine z_iconst F dX6_gatherValues_47 ?_
        obtain ⟨b_28a, b_28b, b_28c, b_28d, b_28e, b_28f, b_28g, b_28h⟩ := gI_rows hv r_1b
        refine g_calli (g_runV (As := [.ref (gh 29 0), .int (iI 1)]) (rest := []) (ci := 4) F hl.1 hH hS hz (c_X4_addAmountf l g gh I_12 R J AI_27 AJ AR (gh 40 0) (gh 29 0) 1 ⟨by decide, by decide⟩ hv r_1b r_17b (ro29 hv hx.1) (fun h => absurd h (by omega)) (by first | exact hfz | omega)) (cwV 2 F.2.2.2.2.1 gX6_gatherValues_X4_addAmount rfl rfl rfl hdX4_addAmount ⟨Nat.le_of_ble_eq_true rfl, Nat.le_of_ble_eq_true rfl⟩) r_1b (by decide) rfl rfl rfl (Nat.le_of_ble_eq_true rfl) dX6_gatherValues_48 ⟨Nat.zero_le _, Nat.zero_le _⟩) hS (fun v_35 I_29 R_30 J_31 AI_32 AJ_33 AR_34 H locs zv_35 hp_36 hH hS => ?_)
        dsimp only at hp_36
        obtain ⟨rfl, rfl, rfl, rfl, hv, q_37, q_38, q_39⟩ := hp_36
        have rf := rF_t rf (rF_o r_1b q_37)
        have u_40p : I_29 pA = I pA := rf pA 2 hx.2.2.1 (by decide)
        have u_40p1 : (I_29 pA 1).toInt = (I pA 1).toInt := by rw [u_40p]
        have u_40p2 : (I_29 pA 2).toInt = (I pA 2).toInt := by rw [u_40p]
        have fAw : ∀ b, b ≠ gh 29 0 → b ≠ gh 0 (gh 40 0) → AI_32 b = AI b := fun b h1 h2 => (q_38 b h2).trans (fAw b h1 h2)
        refine lv_pop F.1 F.2.1 dX6_gatherValues_51 rfl ?_
        refine z_iinc (lv' := [(3, .int (iI (i + 1))), (0, .ref x), (1, .ref ch), (2, .int (iI col))]) F dX6_gatherValues_52 hl (k := 0) rfl (by decide) rfl (fun ls hl => ?_)
        refine z_goto (tgt := 19) F dX6_gatherValues_55 (by decide) ?_
        exact ih19 (i + 1) I_29 AI_32 H locs ls ⟨by omega, by omega⟩ hv rf (by omega) (fun b hb => (q_37 b hb).trans (fIw b hb)) fAw (by omega) hH hS (lv_sub hl [0, 1, 2, 3] rfl)
  exact cut_19_13 (((240 - 0) + 1 : Int).toNat) 0 I_2 AI_8 H locs ls ⟨by decide, by decide⟩ hv rf (by omega) (fun b hb => kI_2 b hb) fAw (by omega) hH hS (lv_sub hl [0, 1, 2, 3] rfl)

def rmX6_columng : Room := { frames := 6, cells := 1, slots := 6, locals := 131 }
set_option maxHeartbeats 4000000 in
set_option maxRecDepth 100000 in
/-- column -/
theorem c_X6_columng (l : Launch) (g : gG) (gh : gGh) (pA bA nA : Nat) (I : gI) (R : gR) (J : gJ) (AI : gI) (AJ : gJ) (AR : gR) (x : Nat) (rel : Int) (col : Int) (wh : Int) (zrel : zr rel) (zcol : zr col) (zwh : zr wh) (hv : gInv g gh R AR I AI) (hx : xS g gh R AR x pA bA nA) (hst : l.stackTraces = false) : gMetX l g yX6_column tsX6_column rmX6_columng [.ref x, .int (iI rel), .int (iI col), .int (iI wh)] (I, R, J, AI, AJ, AR) (gQi g (fun (z : Int) (w : gS) => R = w.2.1 ∧ J = w.2.2.1 ∧ AJ = w.2.2.2.2.1 ∧ AR = w.2.2.2.2.2 ∧ (gInv g gh R AR (w.1) (w.2.2.2.1)) ∧ (rF g I (w.1)) ∧ (∀ b, b ≠ gh 40 0 → (w.1) b = I b) ∧ (∀ b, b ≠ gh 29 0 → b ≠ gh 0 (gh 40 0) → (w.2.2.2.1) b = AI b))) (fun w : gS => R = w.2.1 ∧ J = w.2.2.1 ∧ AJ = w.2.2.2.2.1 ∧ AR = w.2.2.2.2.2 ∧ (gInv g gh R AR (w.1) (w.2.2.2.1)) ∧ (rF g I (w.1)) ∧ (∀ b, b ≠ gh 40 0 → (w.1) b = I b) ∧ (∀ b, b ≠ gh 29 0 → b ≠ gh 0 (gh 40 0) → (w.2.2.2.1) b = AI b)) := by
  refine gStartX (cc := cX6_column) (maxL := 4) (ret := (some (.int))) (by decide) rfl (Nat.le_of_ble_eq_true rfl) ?_
  intro p e s m below meth c ls F hr hlk hH hz hS hxt hTh hl
  have hl : lv_has ls 4 [(0, .ref x), (1, .int (iI rel)), (2, .int (iI col)), (3, .int (iI wh))] := hl
  have hS : va_S (gA g) s.heap s.heap [] := hS
  obtain ⟨H, hHe⟩ : ∃ H : Heap, H = s.heap := ⟨_, rfl⟩
  obtain ⟨locs, hlo⟩ : ∃ k : List Loc, k = [] := ⟨_, rfl⟩
  have hH : gH g I R J AI AJ AR H := by rw [hHe]; exact hH
  have hS : va_S (gA g) s.heap H locs := by rw [hHe, hlo]; exact hS
  suffices hw : W p l e rmX6_columng s m ([.ref x, .int (iI rel), .int (iI col), .int (iI wh)] : List Value).toArray below meth c H locs 0 0 (vx_MQ below (gQi g (fun (z : Int) (w : gS) => R = w.2.1 ∧ J = w.2.2.1 ∧ AJ = w.2.2.2.2.1 ∧ AR = w.2.2.2.2.2 ∧ (gInv g gh R AR (w.1) (w.2.2.2.1)) ∧ (rF g I (w.1)) ∧ (∀ b, b ≠ gh 40 0 → (w.1) b = I b) ∧ (∀ b, b ≠ gh 29 0 → b ≠ gh 0 (gh 40 0) → (w.2.2.2.1) b = AI b))) (vx_X (fun w : gS => R = w.2.1 ∧ J = w.2.2.1 ∧ AJ = w.2.2.2.2.1 ∧ AR = w.2.2.2.2.2 ∧ (gInv g gh R AR (w.1) (w.2.2.2.1)) ∧ (rF g I (w.1)) ∧ (∀ b, b ≠ gh 40 0 → (w.1) b = I b) ∧ (∀ b, b ≠ gh 29 0 → b ≠ gh 0 (gh 40 0) → (w.2.2.2.1) b = AI b)) (gBX g) (gA g)) ([.ref x, .int (iI rel), .int (iI col), .int (iI wh)] : List Value).toArray s 1 6 (gA g)) (F0 m 0 ls []) by
    rw [hHe, hlo] at hw; exact hw
  clear hHe hlo
  have rf : rF g I I := rF_r
  have iX6 : ∀ w ∈ u_ws RX6 TX6 18, w ∈ tsX6_column := fun w h => List.mem_cons_of_mem _ (inTB6 w h)
  have iX4 : ∀ w ∈ u_ws RX4 TX4 4, w ∈ tsX6_column := fun w h => List.mem_cons_of_mem _ (inTB4 w h)
  have iX2 : ∀ w ∈ u_ws RX2 TX2 3, w ∈ tsX6_column := fun w h => List.mem_cons_of_mem _ (inTB2 w h)
  have iX0 : ∀ w ∈ u_ws RX0 TX0 15, w ∈ tsX6_column := fun w h => List.mem_cons_of_mem _ (inTB0 w h)
  have k23 : Cond.fieldLink RX6 23 (TX6 3).1 (TX6 3).2.1 (TX6 3).2.2.1 ∈ tsX6_column := List.mem_cons_of_mem _ (TBm (tk1 (List.mem_of_getElem? (i := 233) rfl)) rfl)
  have k113 : Cond.fieldLink RX6 113 (TX2 0).1 (TX2 0).2.1 (TX2 0).2.2.1 ∈ tsX6_column := List.mem_cons_of_mem _ (TBm (tk1 (List.mem_of_getElem? (i := 156) rfl)) rfl)
  have k125 : Cond.fieldLink RX6 125 (TX0 2).1 (TX0 2).2.1 (TX0 2).2.2.1 ∈ tsX6_column := List.mem_cons_of_mem _ (TBm (tk1 (List.mem_of_getElem? (i := 86) rfl)) rfl)
  have k38 : Cond.fieldLink RX6 38 (TX6 5).1 (TX6 5).2.1 (TX6 5).2.2.1 ∈ tsX6_column := List.mem_cons_of_mem _ (TBm (tk1 (List.mem_of_getElem? (i := 235) rfl)) rfl)
  have k63 : Cond.fieldLink RX6 63 (TX6 11).1 (TX6 11).2.1 (TX6 11).2.2.1 ∈ tsX6_column := List.mem_cons_of_mem _ (TBm (tk2 (List.mem_of_getElem? (i := 1) rfl)) rfl)
  have k99 : Cond.fieldLink RX6 99 (TX4 3).1 (TX4 3).2.1 (TX4 3).2.2.1 ∈ tsX6_column := List.mem_cons_of_mem _ (TBm (tk1 (List.mem_of_getElem? (i := 217) rfl)) rfl)
  refine lv_aload_n F.1 F.2.1 dX6_column_0 rfl (lv_at hl 0 rfl) ?_
  refine lv_iload_n F.1 F.2.1 dX6_column_1 rfl (lv_at hl 1 rfl) ?_
  have b_1 := gI_x hv hx.1
  refine g_calli (g_runV (As := [.int (iI rel)]) (rest := []) (ci := 6) F hl.1 hH hS hz (c_X6_isRelationf l g gh pA bA nA I R J AI AJ AR x rel zrel hv hx) (cwV 1 F.2.2.2.2.1 (good_up gTB_X6_column_X6_isRelation) rfl rfl rfl hdX6_isRelation ⟨Nat.le_of_ble_eq_true rfl, Nat.le_of_ble_eq_true rfl⟩) hx.1 (by decide) rfl rfl rfl (Nat.le_of_ble_eq_true rfl) dX6_column_2 ⟨Nat.zero_le _, Nat.zero_le _⟩) hS (fun v_8 I_2 R_3 J_4 AI_5 AJ_6 AR_7 H locs zv_8 hp_9 hH hS => ?_)
  dsimp only at hp_9
  obtain ⟨rfl, rfl, rfl, rfl, rfl, rfl, q_10, q_11⟩ := hp_9
  refine z_if_ne (tgt := 18) F dX6_column_5 (by decide) zv_8 (fun c_12 => ?_) (fun c_12 => ?_)
  · refine lv_iload_n F.1 F.2.1 dX6_column_18 rfl (lv_at hl 2 rfl) ?_
    refine z_if_lt (tgt := 47) F dX6_column_19 (by decide) zcol (fun c_13 => ?_) (fun c_13 => ?_)
    · exact g_throw F hTh hst hH hS hz hxt hlk hl.1 (i := 3) rfl (fun w h => List.mem_cons_of_mem _ h) dX6_column_47 dX6_column_50 dX6_column_51 dX6_column_53 dX6_column_56 (Nat.le_of_ble_eq_true rfl) (Nat.le_of_ble_eq_true rfl) (Nat.le_refl _) (Nat.le_refl _) ⟨rfl, rfl, rfl, rfl, hv, rf, (fun _ _ => rfl), (fun _ _ _ => rfl)⟩
    · refine lv_iload_n F.1 F.2.1 dX6_column_22 rfl (lv_at hl 2 rfl) ?_
      refine lv_aload_n F.1 F.2.1 dX6_column_23 rfl (lv_at hl 0 rfl) ?_
      refine g_getR (ci := 6) (k := 3) F hH rfl (by decide) iX6 hx.1 (by decide) rfl (b := pA) hx.2.1 k23 dX6_column_24 ?_
      obtain ⟨r_14a, r_14b⟩ := gR_lines hv hx.2.2.1
      refine g_getR (ci := 2) (k := 0) F hH rfl (by decide) iX2 hx.2.2.1 (by decide) rfl (b := gh 6 pA) r_14a k113 dX6_column_27 ?_
      refine lv_iload_n F.1 F.2.1 dX6_column_30 rfl (lv_at hl 1 rfl) ?_
      have hx31 : 0 ≤ rel ∧ rel < ((16 : Nat) : Int) ∧ rel ≤ 2147483647 := ⟨by omega, by omega, by omega⟩
      obtain ⟨y_15, y_15a, y_15b, y_15c, y_15d⟩ := gA_lines hv hx.2.2.1 (z := rel) (by omega) (by omega)
      refine g_aldL F hH r_14b hx31.1 hx31.2.1 hx31.2.2 (b := y_15) y_15a dX6_column_31 ?_
      refine g_getI (ci := 0) (k := 2) F hH rfl (by decide) iX0 y_15b (by decide) rfl k125 dX6_column_32 ?_
      have b_16 := gI_line hv y_15b
      unfold vLineI at b_16
      have hc4 : (I y_15 2).toInt ≤ 4 := by have q := (hv.2.2.1 y_15 y_15b).2.2.2; rw [y_15c] at q; exact q (by omega)
      refine z_icmp_ge (tgt := 47) F dX6_column_35 (by decide) zcol (zr_t _) (fun c_17 => ?_) (fun c_17 => ?_)
      · exact g_throw F hTh hst hH hS hz hxt hlk hl.1 (i := 3) rfl (fun w h => List.mem_cons_of_mem _ h) dX6_column_47 dX6_column_50 dX6_column_51 dX6_column_53 dX6_column_56 (Nat.le_of_ble_eq_true rfl) (Nat.le_of_ble_eq_true rfl) (Nat.le_refl _) (Nat.le_refl _) ⟨rfl, rfl, rfl, rfl, hv, rf, (fun _ _ => rfl), (fun _ _ _ => rfl)⟩
      · refine lv_iload_n F.1 F.2.1 dX6_column_38 rfl (lv_at hl 3 rfl) ?_
        refine z_if_lt (tgt := 47) F dX6_column_39 (by decide) zwh (fun c_18 => ?_) (fun c_18 => ?_)
        · exact g_throw F hTh hst hH hS hz hxt hlk hl.1 (i := 3) rfl (fun w h => List.mem_cons_of_mem _ h) dX6_column_47 dX6_column_50 dX6_column_51 dX6_column_53 dX6_column_56 (Nat.le_of_ble_eq_true rfl) (Nat.le_of_ble_eq_true rfl) (Nat.le_refl _) (Nat.le_refl _) ⟨rfl, rfl, rfl, rfl, hv, rf, (fun _ _ => rfl), (fun _ _ _ => rfl)⟩
        · refine lv_iload_n F.1 F.2.1 dX6_column_42 rfl (lv_at hl 3 rfl) ?_
          refine z_iconst F dX6_column_43 ?_
          refine z_icmp_le (tgt := 57) F dX6_column_44 (by decide) zwh ⟨by decide, by decide⟩ (fun c_19 => ?_) (fun c_19 => ?_)
          · refine lv_aload_n F.1 F.2.1 dX6_column_57 rfl (lv_at hl 0 rfl) ?_
            refine lv_aload_n F.1 F.2.1 dX6_column_58 rfl (lv_at hl 0 rfl) ?_
            refine g_getR (ci := 6) (k := 5) F hH rfl (by decide) iX6 hx.1 (by decide) rfl (b := bA) hx.2.2.2.1 k38 dX6_column_59 ?_
            refine lv_iload_n F.1 F.2.1 dX6_column_62 rfl (lv_at hl 1 rfl) ?_
            have hx63 : 0 ≤ rel ∧ rel < ((16 : Nat) : Int) ∧ rel ≤ 2147483647 := ⟨by omega, by omega, by omega⟩
            obtain ⟨y_20, y_20a, y_20b, y_20c, y_20d, y_20e⟩ := hx.2.2.2.2.1.2 (rel).toNat (by omega)
            refine g_aldR F hH hx.2.2.2.2.1.1 hx63.1 hx63.2.1 hx63.2.2 (b := y_20) y_20a dX6_column_63 ?_
            refine lv_iload_n F.1 F.2.1 dX6_column_64 rfl (lv_at hl 2 rfl) ?_
            obtain ⟨b_21a, b_21b, b_21c, b_21d, b_21e, b_21f, b_21g, b_21h⟩ := gI_rows hv y_20b
            refine g_callv (g_runV (As := [.ref y_20, .int (iI col)]) (rest := []) (ci := 6) F hl.1 hH hS hz (c_X6_gatherValuesg l g gh pA bA nA I R J AI AJ AR x y_20 col zcol hv hx y_20b (by omega)) (cwV 2 F.2.2.2.2.1 (good_up gTB_X6_column_X6_gatherValues) rfl rfl rfl hdX6_gatherValues ⟨Nat.le_of_ble_eq_true rfl, Nat.le_of_ble_eq_true rfl⟩) hx.1 (by decide) rfl rfl rfl (Nat.le_of_ble_eq_true rfl) dX6_column_65 ⟨Nat.zero_le _, Nat.zero_le _⟩) hS (fun I_22 R_23 J_24 AI_25 AJ_26 AR_27 H locs hp_28 hH hS => ?_)
            dsimp only at hp_28
            obtain ⟨rfl, rfl, rfl, rfl, hv, rfq, fIq9, fAq9⟩ := hp_28
            have rf := rF_t rf rfq
            have u_29p : I_22 pA = I pA := rf pA 2 hx.2.2.1 (by decide)
            have u_29p1 : (I_22 pA 1).toInt = (I pA 1).toInt := by rw [u_29p]
            have u_29p2 : (I_22 pA 2).toInt = (I pA 2).toInt := by rw [u_29p]
            refine lv_iload_n F.1 F.2.1 dX6_column_68 rfl (lv_at hl 3 rfl) ?_
            refine z_iconst F dX6_column_69 ?_
            refine z_icmp_ne (tgt := 81) F dX6_column_70 (by decide) zwh ⟨by decide, by decide⟩ (fun c_30 => ?_) (fun c_30 => ?_)
            · refine lv_aload_n F.1 F.2.1 dX6_column_81 rfl (lv_at hl 0 rfl) ?_
              obtain ⟨r_31a, r_31b, r_31c, r_31d⟩ := gR_x11 hv hx.1
              refine g_getR (ci := 6) (k := 11) F hH rfl (by decide) iX6 hx.1 (by decide) rfl (b := gh 40 0) r_31a k63 dX6_column_82 ?_
              refine g_getI (ci := 4) (k := 3) F hH rfl (by decide) iX4 r_31b (by decide) rfl k99 dX6_column_85 ?_
              obtain ⟨b_32a, b_32b, b_32c, b_32d, b_32e, b_32f, b_32g, b_32h⟩ := gI_rows hv r_31b
              refine z_if_ne (tgt := 101) F dX6_column_88 (by decide) (zr_t _) (fun c_33 => ?_) (fun c_33 => ?_)
              · refine lv_aload_n F.1 F.2.1 dX6_column_101 rfl (lv_at hl 0 rfl) ?_
                refine g_getR (ci := 6) (k := 11) F hH rfl (by decide) iX6 hx.1 (by decide) rfl (b := gh 40 0) r_31a k63 dX6_column_102 ?_
                have cut_122_33 : ∀ (rw : Int) (H : Heap) (locs : List Loc) (ls : Array Slot), zr rw → (0 ≤ rw ∧ rw < 240) → gH g I_22 R J AI_25 AJ AR H → va_S (gA g) s.heap H locs → lv_has ls 4 [(0, .ref x), (1, .int (iI rel)), (2, .int (iI col)), (3, .int (iI wh))] → W p l e rmX6_columng s m ([.ref x, .int (iI rel), .int (iI col), .int (iI wh)] : List Value).toArray below meth c H locs 0 0 (vx_MQ below (gQi g (fun (z : Int) (w : gS) => R = w.2.1 ∧ J = w.2.2.1 ∧ AJ = w.2.2.2.2.1 ∧ AR = w.2.2.2.2.2 ∧ (gInv g gh R AR (w.1) (w.2.2.2.1)) ∧ (rF g I (w.1)) ∧ (∀ b, b ≠ gh 40 0 → (w.1) b = I b) ∧ (∀ b, b ≠ gh 29 0 → b ≠ gh 0 (gh 40 0) → (w.2.2.2.1) b = AI b))) (vx_X (fun w : gS => R = w.2.1 ∧ J = w.2.2.1 ∧ AJ = w.2.2.2.2.1 ∧ AR = w.2.2.2.2.2 ∧ (gInv g gh R AR (w.1) (w.2.2.2.1)) ∧ (rF g I (w.1)) ∧ (∀ b, b ≠ gh 40 0 → (w.1) b = I b) ∧ (∀ b, b ≠ gh 29 0 → b ≠ gh 0 (gh 40 0) → (w.2.2.2.1) b = AI b)) (gBX g) (gA g)) ([.ref x, .int (iI rel), .int (iI col), .int (iI wh)] : List Value).toArray s 1 6 (gA g)) (F0 m 122 ls [.int (iI rw), .ref (gh 40 0)]) := by
                  intro rw H locs ls zrw hrw hH hS hl
                  refine z_iconst F dX6_column_122 ?_
                  refine g_calli (g_runV (As := [.int (iI rw), .int (iI 0)]) (rest := []) (ci := 4) F hl.1 hH hS hz (c_X4_cell l g gh I_22 R J AI_25 AJ AR (gh 40 0) rw 0 zrw ⟨by decide, by decide⟩ hv r_31b (by omega) (by omega) (by omega) (by omega)) (cwV 2 F.2.2.2.2.1 (good_up gTB_X6_column_X4_cell) rfl rfl rfl hdX4_cell ⟨Nat.le_of_ble_eq_true rfl, Nat.le_of_ble_eq_true rfl⟩) r_31b (by decide) rfl rfl rfl (Nat.le_of_ble_eq_true rfl) dX6_column_123 ⟨Nat.zero_le _, Nat.zero_le _⟩) hS (fun v_41 I_35 R_36 J_37 AI_38 AJ_39 AR_40 H locs zv_41 hp_42 hH hS => ?_)
                  dsimp only at hp_42
                  obtain ⟨rfl, rfl, rfl, rfl, rfl, rfl, q_43⟩ := hp_42
                  exact g_iretX F hr hlk hH hS hz zv_41 ⟨rfl, rfl, rfl, rfl, hv, rf, fIq9, fAq9⟩ (by decide) (by decide) dX6_column_126
                refine lv_iload_n F.1 F.2.1 dX6_column_105 rfl (lv_at hl 3 rfl) ?_
                refine z_if_ne (tgt := 113) F dX6_column_106 (by decide) zwh (fun c_44 => ?_) (fun c_44 => ?_)
                · refine lv_aload_n F.1 F.2.1 dX6_column_113 rfl (lv_at hl 0 rfl) ?_
                  refine g_getR (ci := 6) (k := 11) F hH rfl (by decide) iX6 hx.1 (by decide) rfl (b := gh 40 0) r_31a k63 dX6_column_114 ?_
                  refine g_getI (ci := 4) (k := 3) F hH rfl (by decide) iX4 r_31b (by decide) rfl k99 dX6_column_117 ?_
                  refine z_iconst F dX6_column_120 ?_
                  refine z_isub F dX6_column_121 ?_
                  exact cut_122_33 (((I_22 (gh 40 0) 3).toInt) - 1) H locs ls ⟨by omega, by omega⟩ (by omega) hH hS (lv_sub hl [0, 1, 2, 3] rfl)
                · refine z_iconst F dX6_column_109 ?_
                  refine z_goto (tgt := 122) F dX6_column_110 (by decide) ?_
                  exact cut_122_33 0 H locs ls ⟨by decide, by decide⟩ (by omega) hH hS (lv_sub hl [0, 1, 2, 3] rfl)
              · exact g_throw F hTh hst hH hS hz hxt hlk hl.1 (i := 6) rfl (fun w h => List.mem_cons_of_mem _ h) dX6_column_91 dX6_column_94 dX6_column_95 dX6_column_97 dX6_column_100 (Nat.le_of_ble_eq_true rfl) (Nat.le_of_ble_eq_true rfl) (Nat.le_refl _) (Nat.le_refl _) ⟨rfl, rfl, rfl, rfl, hv, rf, fIq9, fAq9⟩
            · refine lv_aload_n F.1 F.2.1 dX6_column_73 rfl (lv_at hl 0 rfl) ?_
              obtain ⟨r_45a, r_45b, r_45c, r_45d⟩ := gR_x11 hv hx.1
              refine g_getR (ci := 6) (k := 11) F hH rfl (by decide) iX6 hx.1 (by decide) rfl (b := gh 40 0) r_45a k63 dX6_column_74 ?_
              refine g_getI (ci := 4) (k := 3) F hH rfl (by decide) iX4 r_45b (by decide) rfl k99 dX6_column_77 ?_
              obtain ⟨b_46a, b_46b, b_46c, b_46d, b_46e, b_46f, b_46g, b_46h⟩ := gI_rows hv r_45b
              exact g_iretX F hr hlk hH hS hz (zr_t _) ⟨rfl, rfl, rfl, rfl, hv, rf, fIq9, fAq9⟩ (by decide) (by decide) dX6_column_80
          · exact g_throw F hTh hst hH hS hz hxt hlk hl.1 (i := 3) rfl (fun w h => List.mem_cons_of_mem _ h) dX6_column_47 dX6_column_50 dX6_column_51 dX6_column_53 dX6_column_56 (Nat.le_of_ble_eq_true rfl) (Nat.le_of_ble_eq_true rfl) (Nat.le_refl _) (Nat.le_refl _) ⟨rfl, rfl, rfl, rfl, hv, rf, (fun _ _ => rfl), (fun _ _ _ => rfl)⟩
  · exact g_throw F hTh hst hH hS hz hxt hlk hl.1 (i := 4) rfl (fun w h => List.mem_cons_of_mem _ h) dX6_column_8 dX6_column_11 dX6_column_12 dX6_column_14 dX6_column_17 (Nat.le_of_ble_eq_true rfl) (Nat.le_of_ble_eq_true rfl) (Nat.le_refl _) (Nat.le_refl _) ⟨rfl, rfl, rfl, rfl, hv, rf, (fun _ _ => rfl), (fun _ _ _ => rfl)⟩

def rmL_columng : Room := { frames := 7, cells := 1, slots := 6, locals := 154 }
set_option maxHeartbeats 4000000 in
set_option maxRecDepth 100000 in
/-- column, caught -/
theorem c_L_columng (l : Launch) (g : gG) (gh : gGh) (pA bA nA : Nat) (I : gI) (R : gR) (J : gJ) (AI : gI) (AJ : gJ) (AR : gR) (x : Nat) (rel : Int) (col : Int) (wh : Int) (ou : Nat) (zrel : zr rel) (zcol : zr col) (zwh : zr wh) (hv : gInv g gh R AR I AI) (hx : xS g gh R AR x pA bA nA) (hou : gAr g ou 10 1) (hst : l.stackTraces = false) : gMetX l g yL_column tsL_column rmL_columng [.ref x, .int (iI rel), .int (iI col), .int (iI wh), .ref ou] (I, R, J, AI, AJ, AR) (gQi g (fun (z : Int) (w : gS) => R = w.2.1 ∧ J = w.2.2.1 ∧ AR = w.2.2.2.2.2 ∧ (gInv g gh R AR (w.1) (w.2.2.2.1)) ∧ (rF g I (w.1)) ∧ (z = 0 ∨ z = 1) ∧ (∀ b, b ≠ gh 40 0 → (w.1) b = I b) ∧ (∀ b, b ≠ gh 29 0 → b ≠ gh 0 (gh 40 0) → (w.2.2.2.1) b = AI b))) (fun _ : gS => False) := by
  refine gStartW (cc := cL_column) (maxL := 6) (ret := (some (.int))) (by decide) rfl (Nat.le_of_ble_eq_true rfl) ?_
  intro p e s m below meth c ls F hr hlk hH hz hS hxt hTh hl
  have hl : lv_has ls 6 [(0, .ref x), (1, .int (iI rel)), (2, .int (iI col)), (3, .int (iI wh)), (4, .ref ou)] := hl
  have hS : va_S (gA g) s.heap s.heap [] := hS
  obtain ⟨H, hHe⟩ : ∃ H : Heap, H = s.heap := ⟨_, rfl⟩
  obtain ⟨locs, hlo⟩ : ∃ k : List Loc, k = [] := ⟨_, rfl⟩
  have hH : gH g I R J AI AJ AR H := by rw [hHe]; exact hH
  have hS : va_S (gA g) s.heap H locs := by rw [hHe, hlo]; exact hS
  suffices hw : W p l e rmL_columng s m ([.ref x, .int (iI rel), .int (iI col), .int (iI wh), .ref ou] : List Value).toArray below meth c H locs 0 0 (vx_MQ below (gQi g (fun (z : Int) (w : gS) => R = w.2.1 ∧ J = w.2.2.1 ∧ AR = w.2.2.2.2.2 ∧ (gInv g gh R AR (w.1) (w.2.2.2.1)) ∧ (rF g I (w.1)) ∧ (z = 0 ∨ z = 1) ∧ (∀ b, b ≠ gh 40 0 → (w.1) b = I b) ∧ (∀ b, b ≠ gh 29 0 → b ≠ gh 0 (gh 40 0) → (w.2.2.2.1) b = AI b))) (vx_X (fun _ : gS => False) (gBX g) (gA g)) ([.ref x, .int (iI rel), .int (iI col), .int (iI wh), .ref ou] : List Value).toArray s 1 6 (gA g)) (F0 m 0 ls []) by
    rw [hHe, hlo] at hw; exact hw
  clear hHe hlo
  have rf : rF g I I := rF_r
  refine lv_aload F.1 F.2.1 dL_column_0 (lv_at hl 4 rfl) ?_
  refine z_iconst F dL_column_2 ?_
  refine lv_aload_n F.1 F.2.1 dL_column_3 rfl (lv_at hl 0 rfl) ?_
  refine lv_iload_n F.1 F.2.1 dL_column_4 rfl (lv_at hl 1 rfl) ?_
  refine lv_iload_n F.1 F.2.1 dL_column_5 rfl (lv_at hl 2 rfl) ?_
  refine lv_iload_n F.1 F.2.1 dL_column_6 rfl (lv_at hl 3 rfl) ?_
  refine g_calliX (g_runVX (As := [.int (iI rel), .int (iI col), .int (iI wh)]) (rest := [.int (iI 0), .ref ou]) (ci := 6) F hTh hl.1 hH hS hz (c_X6_columng l g gh pA bA nA I R J AI AJ AR x rel col wh zrel zcol zwh hv hx  hst) (cwV 3 F.2.2.2.2.1 (good_up gTB_L_column_X6_column) rfl rfl rfl hdX6_column ⟨Nat.le_of_ble_eq_true rfl, Nat.le_of_ble_eq_true rfl⟩) hx.1 (by decide) rfl rfl rfl (Nat.le_of_ble_eq_true rfl) dL_column_7 ⟨Nat.le_refl _, Nat.le_refl _⟩) hS (fun ce9 q9 I_1 R_2 J_3 AI_4 AJ_5 AR_6 H locs hp hH hS h1 h2 h3 => ?_) (fun z I_1 R_2 J_3 AI_4 AJ_5 AR_6 H locs zz hp hH hS => ?_)
  · dsimp only at hp
    obtain ⟨rfl, rfl, rfl, rfl, hv, rfq, fIq9, fAq9⟩ := hp
    have rf := rF_t rf rfq
    refine g_catch F hTh hxt (by decide) (by decide) (List.mem_cons_of_mem _ (TBm (tk4 (List.mem_of_getElem? (i := 151) rfl)) rfl)) h1 h2 h3 ?_
    refine lv_astore (lv' := [(5, .ref q9), (0, .ref x), (1, .int (iI rel)), (2, .int (iI col)), (3, .int (iI wh)), (4, .ref ou)]) F.1 F.2.1 dL_column_15 hl (by decide) rfl (fun ls hl => ?_)
    refine z_iconst F dL_column_17 ?_
    exact g_iretX F hr hlk hH hS hz ⟨by decide, by decide⟩ ⟨rfl, rfl, rfl, hv, rf, by first | omega | rfl | (dsimp only; omega), fIq9, fAq9⟩ (by decide) (by decide) dL_column_18
  dsimp only at hp
  obtain ⟨rfl, rfl, rfl, rfl, hv, rfq, fIq9, fAq9⟩ := hp
  have rf := rF_t rf rfq
  have u_7p : I_1 pA = I pA := rf pA 2 hx.2.2.1 (by decide)
  have u_7p1 : (I_1 pA 1).toInt = (I pA 1).toInt := by rw [u_7p]
  have u_7p2 : (I_1 pA 2).toInt = (I pA 2).toInt := by rw [u_7p]
  refine lv_i2l F.1 F.2.1 dL_column_10 rfl ?_
  refine lv_topl (fun j_8 ej_8 => ?_)
  have hx11 : 0 ≤ (0 : Int) ∧ (0 : Int) < ((1 : Nat) : Int) ∧ (0 : Int) ≤ 2147483647 := ⟨by omega, by omega, by omega⟩
  refine g_last F hH hS hou hx11.1 hx11.2.1 hx11.2.2 dL_column_11 (fun H locs hH hS => ?_)
  obtain ⟨AJ_9, eAJ_9⟩ : ∃ qQ, qQ = gup2 AJ ou ((0 : Int)).toNat (j_8) := ⟨_, rfl⟩
  rw [← eAJ_9] at hH
  have kAJ_9 : ∀ b, b ≠ ou → AJ_9 b = AJ b := fun b hb => by rw [eAJ_9]; exact funext fun j => gup2_a _ _ hb
  refine z_goto (tgt := 19) F dL_column_12 (by decide) ?_
  refine z_iconst F dL_column_19 ?_
  exact g_iretX F hr hlk hH hS hz ⟨by decide, by decide⟩ ⟨rfl, rfl, rfl, hv, rf, by first | omega | rfl | (dsimp only; omega), fIq9, fAq9⟩ (by decide) (by decide) dL_column_20
