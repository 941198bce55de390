def rmX6_toldf : Room := { frames := 2, cells := 0, slots := 0, locals := 44 }
set_option maxHeartbeats 4000000 in
set_option maxRecDepth 100000 in
/-- told -/
theorem c_X6_toldf (l : Launch) (g : gG) (gh : gGh) (pA bA nA : Nat) (nr : Nat) (cc : Nat → LC) (I : gI) (R : gR) (J : gJ) (AI : gI) (AJ : gJ) (AR : gR) (x : Nat) (wh : Int) (zwh : zr wh) (hv : gInv g gh R AR I AI) (hx : xS g gh R AR x pA bA nA) (hlen : (I pA 1).toInt = (nr : Int)) (htb2 : 0 ≤ (I pA 2).toInt ∧ (I pA 2).toInt ≤ (nr : Int) ∧ nr ≤ 16) (hln : ∀ r, r < nr → lnC (I (rob AR (gh 6 pA) r)) (AI (gh 3 (rob AR (gh 6 pA) r))) (cc r)) : gMet l g yX6_told wsX6_told rmX6_toldf [.ref x, .int (iI wh)] (I, R, J, AI, AJ, AR) (gQi g (fun (z : Int) (w : gS) => I = w.1 ∧ R = w.2.1 ∧ J = w.2.2.1 ∧ AI = w.2.2.2.1 ∧ AJ = w.2.2.2.2.1 ∧ AR = w.2.2.2.2.2 ∧ ((wh = 0 ∧ z = (I pA 2).toInt) ∨ (wh = 1 ∧ z = (nr : Int) - (I pA 2).toInt) ∨ (wh = 2 ∧ iI z = I x 16) ∨ (wh = 3 ∧ iI z = I x 17) ∨ (wh = 4 ∧ z = (I x 15).toInt) ∨ (wh = 5 ∧ z = (I (gh 37 0) 3).toInt) ∨ (wh = 6 ∧ z = smL (fun r : Nat => (((rfC gh AR I AI bA r).1 : Nat) : Int)) (I pA 2).toInt.toNat (nr - (I pA 2).toInt.toNat)) ∨ (wh = 7 ∧ z = smL (lnR AR I (gh 35 0)) (I pA 2).toInt.toNat (nr - (I pA 2).toInt.toNat)) ∨ (wh = 8 ∧ z = smL (fun r : Nat => (if (cc r).1 2 = -1 then (0 : Int) else (((rfC gh AR I AI (gh 35 0) ((cc r).1 2).toNat).1 : Nat) : Int)) + (if (cc r).1 3 = -1 then 0 else (((rfC gh AR I AI (gh 35 0) ((cc r).1 3).toNat).1 : Nat) : Int))) (I pA 2).toInt.toNat (nr - (I pA 2).toInt.toNat)) ∨ (wh = 9 ∧ z = (I x 1).toInt) ∨ ((wh < 0 ∨ 9 < wh) ∧ z = -1)))) := by
  refine gStart (cc := cX6_told) (maxL := 2) (ret := (some (.int))) (by decide) rfl (Nat.le_of_ble_eq_true rfl) ?_
  intro p e s m below meth c ls F hr hlk hH hz hS hl
  have hl : lv_has ls 2 [(0, .ref x), (1, .int (iI wh))] := hl
  have hS : va_S (gA g) s.heap s.heap [] := hS
  obtain ⟨H, hHe⟩ : ∃ H : Heap, H = s.heap := ⟨_, rfl⟩
  obtain ⟨locs, hlo⟩ : ∃ k : List Loc, k = [] := ⟨_, rfl⟩
  have hH : gH g I R J AI AJ AR H := by rw [hHe]; exact hH
  have hS : va_S (gA g) s.heap H locs := by rw [hHe, hlo]; exact hS
  suffices hw : W p l e rmX6_toldf s m ([.ref x, .int (iI wh)] : List Value).toArray below meth c H locs 0 0 (MQ below (gQi g (fun (z : Int) (w : gS) => I = w.1 ∧ R = w.2.1 ∧ J = w.2.2.1 ∧ AI = w.2.2.2.1 ∧ AJ = w.2.2.2.2.1 ∧ AR = w.2.2.2.2.2 ∧ ((wh = 0 ∧ z = (I pA 2).toInt) ∨ (wh = 1 ∧ z = (nr : Int) - (I pA 2).toInt) ∨ (wh = 2 ∧ iI z = I x 16) ∨ (wh = 3 ∧ iI z = I x 17) ∨ (wh = 4 ∧ z = (I x 15).toInt) ∨ (wh = 5 ∧ z = (I (gh 37 0) 3).toInt) ∨ (wh = 6 ∧ z = smL (fun r : Nat => (((rfC gh AR I AI bA r).1 : Nat) : Int)) (I pA 2).toInt.toNat (nr - (I pA 2).toInt.toNat)) ∨ (wh = 7 ∧ z = smL (lnR AR I (gh 35 0)) (I pA 2).toInt.toNat (nr - (I pA 2).toInt.toNat)) ∨ (wh = 8 ∧ z = smL (fun r : Nat => (if (cc r).1 2 = -1 then (0 : Int) else (((rfC gh AR I AI (gh 35 0) ((cc r).1 2).toNat).1 : Nat) : Int)) + (if (cc r).1 3 = -1 then 0 else (((rfC gh AR I AI (gh 35 0) ((cc r).1 3).toNat).1 : Nat) : Int))) (I pA 2).toInt.toNat (nr - (I pA 2).toInt.toNat)) ∨ (wh = 9 ∧ z = (I x 1).toInt) ∨ ((wh < 0 ∨ 9 < wh) ∧ z = -1)))) ([.ref x, .int (iI wh)] : List Value).toArray s 0 0 (gA g)) (F0 m 0 ls []) by
    rw [hHe, hlo] at hw; exact hw
  clear hHe hlo
  have iX6 : ∀ w ∈ u_ws RX6 TX6 18, w ∈ wsX6_told := (by decide +kernel)
  have iX4 : ∀ w ∈ u_ws RX4 TX4 4, w ∈ wsX6_told := (by decide +kernel)
  have iX2 : ∀ w ∈ u_ws RX2 TX2 3, w ∈ wsX6_told := (by decide +kernel)
  have k23 : Cond.fieldLink RX6 23 (TX6 3).1 (TX6 3).2.1 (TX6 3).2.2.1 ∈ wsX6_told := List.mem_of_getElem? (i := 1) rfl
  have k122 : Cond.fieldLink RX6 122 (TX2 2).1 (TX2 2).2.1 (TX2 2).2.2.1 ∈ wsX6_told := List.mem_of_getElem? (i := 2) rfl
  have k96 : Cond.fieldLink RX6 96 (TX2 1).1 (TX2 1).2.1 (TX2 1).2.2.1 ∈ wsX6_told := List.mem_of_getElem? (i := 3) rfl
  have k103 : Cond.fieldLink RX6 103 (TX6 16).1 (TX6 16).2.1 (TX6 16).2.2.1 ∈ wsX6_told := List.mem_of_getElem? (i := 4) rfl
  have k106 : Cond.fieldLink RX6 106 (TX6 17).1 (TX6 17).2.1 (TX6 17).2.2.1 ∈ wsX6_told := List.mem_of_getElem? (i := 5) rfl
  have k100 : Cond.fieldLink RX6 100 (TX6 15).1 (TX6 15).2.1 (TX6 15).2.2.1 ∈ wsX6_told := List.mem_of_getElem? (i := 6) rfl
  have k53 : Cond.fieldLink RX6 53 (TX6 8).1 (TX6 8).2.1 (TX6 8).2.2.1 ∈ wsX6_told := List.mem_of_getElem? (i := 7) rfl
  have k99 : Cond.fieldLink RX6 99 (TX4 3).1 (TX4 3).2.1 (TX4 3).2.2.1 ∈ wsX6_told := List.mem_of_getElem? (i := 8) rfl
  have k77 : Cond.fieldLink RX6 77 (TX6 1).1 (TX6 1).2.1 (TX6 1).2.2.1 ∈ wsX6_told := List.mem_of_getElem? (i := 9) rfl
  refine lv_iload_n F.1 F.2.1 dX6_told_0 rfl (lv_at hl 1 rfl) ?_
  have ec_1 : (iI wh).toInt = wh := iI_val zwh
  by_cases c_1 : wh < 0 ∨ 9 < wh
  · refine lv_tableOut (tgt := 123) F.1 F.2.1 dX6_told_1 (by rw [ec_1]; exact c_1) (by decide) ?_
    refine z_iconst F dX6_told_123 ?_
    exact g_iret F hr hlk hH hS hz ⟨by decide, by decide⟩ ⟨rfl, rfl, rfl, rfl, rfl, rfl, Or.inr (Or.inr (Or.inr (Or.inr (Or.inr (Or.inr (Or.inr (Or.inr (Or.inr (Or.inr (⟨by omega, rfl⟩))))))))))⟩ dX6_told_124
  by_cases c_1_0 : wh = 0
  · refine lv_tableIn (tgt := 56) (off := 55) F.1 F.2.1 dX6_told_1 (by rw [ec_1]; omega) (by rw [ec_1]; omega) (by rw [ec_1, c_1_0]; rfl) (by decide) ?_
    refine lv_aload_n F.1 F.2.1 dX6_told_56 rfl (lv_at hl 0 rfl) ?_
    refine g_getR (ci := 6) (k := 3) F hH rfl (by decide) iX6 hx.1 (by decide) rfl (b := pA) hx.2.1 k23 dX6_told_57 ?_
    refine g_getI (ci := 2) (k := 2) F hH rfl (by decide) iX2 hx.2.2.1 (by decide) rfl k122 dX6_told_60 ?_
    have b_2 := gI_plan hv hx.2.2.1
    exact g_iret F hr hlk hH hS hz (zr_t _) ⟨rfl, rfl, rfl, rfl, rfl, rfl, Or.inl ⟨by omega, by omega⟩⟩ dX6_told_63
  by_cases c_1_1 : wh = 1
  · refine lv_tableIn (tgt := 64) (off := 63) F.1 F.2.1 dX6_told_1 (by rw [ec_1]; omega) (by rw [ec_1]; omega) (by rw [ec_1, c_1_1]; rfl) (by decide) ?_
    refine lv_aload_n F.1 F.2.1 dX6_told_64 rfl (lv_at hl 0 rfl) ?_
    refine g_getR (ci := 6) (k := 3) F hH rfl (by decide) iX6 hx.1 (by decide) rfl (b := pA) hx.2.1 k23 dX6_told_65 ?_
    refine g_getI (ci := 2) (k := 1) F hH rfl (by decide) iX2 hx.2.2.1 (by decide) rfl k96 dX6_told_68 ?_
    have b_3 := gI_plan hv hx.2.2.1
    refine lv_aload_n F.1 F.2.1 dX6_told_71 rfl (lv_at hl 0 rfl) ?_
    refine g_getR (ci := 6) (k := 3) F hH rfl (by decide) iX6 hx.1 (by decide) rfl (b := pA) hx.2.1 k23 dX6_told_72 ?_
    refine g_getI (ci := 2) (k := 2) F hH rfl (by decide) iX2 hx.2.2.1 (by decide) rfl k122 dX6_told_75 ?_
    refine z_isub F dX6_told_78 ?_
    exact g_iret F hr hlk hH hS hz ⟨by omega, by omega⟩ ⟨rfl, rfl, rfl, rfl, rfl, rfl, Or.inr (Or.inl ⟨by omega, by omega⟩)⟩ dX6_told_79
  by_cases c_1_2 : wh = 2
  · refine lv_tableIn (tgt := 80) (off := 79) F.1 F.2.1 dX6_told_1 (by rw [ec_1]; omega) (by rw [ec_1]; omega) (by rw [ec_1, c_1_2]; rfl) (by decide) ?_
    refine lv_aload_n F.1 F.2.1 dX6_told_80 rfl (lv_at hl 0 rfl) ?_
    refine g_getI (ci := 6) (k := 16) F hH rfl (by decide) iX6 hx.1 (by decide) rfl k103 dX6_told_81 ?_
    refine z_norm (fun v_4 zv_4 ev_4 => ?_)
    exact g_iret F hr hlk hH hS hz zv_4 ⟨rfl, rfl, rfl, rfl, rfl, rfl, Or.inr (Or.inr (Or.inl ⟨by omega, by rw [ev_4, iI_self]⟩))⟩ dX6_told_84
  by_cases c_1_3 : wh = 3
  · refine lv_tableIn (tgt := 85) (off := 84) F.1 F.2.1 dX6_told_1 (by rw [ec_1]; omega) (by rw [ec_1]; omega) (by rw [ec_1, c_1_3]; rfl) (by decide) ?_
    refine lv_aload_n F.1 F.2.1 dX6_told_85 rfl (lv_at hl 0 rfl) ?_
    refine g_getI (ci := 6) (k := 17) F hH rfl (by decide) iX6 hx.1 (by decide) rfl k106 dX6_told_86 ?_
    refine z_norm (fun v_5 zv_5 ev_5 => ?_)
    exact g_iret F hr hlk hH hS hz zv_5 ⟨rfl, rfl, rfl, rfl, rfl, rfl, Or.inr (Or.inr (Or.inr (Or.inl ⟨by omega, by rw [ev_5, iI_self]⟩)))⟩ dX6_told_89
  by_cases c_1_4 : wh = 4
  · refine lv_tableIn (tgt := 90) (off := 89) F.1 F.2.1 dX6_told_1 (by rw [ec_1]; omega) (by rw [ec_1]; omega) (by rw [ec_1, c_1_4]; rfl) (by decide) ?_
    refine lv_aload_n F.1 F.2.1 dX6_told_90 rfl (lv_at hl 0 rfl) ?_
    refine g_getI (ci := 6) (k := 15) F hH rfl (by decide) iX6 hx.1 (by decide) rfl k100 dX6_told_91 ?_
    have b_6 := gI_x hv hx.1
    exact g_iret F hr hlk hH hS hz (zr_t _) ⟨rfl, rfl, rfl, rfl, rfl, rfl, Or.inr (Or.inr (Or.inr (Or.inr (Or.inl ⟨by omega, by omega⟩))))⟩ dX6_told_94
  by_cases c_1_5 : wh = 5
  · refine lv_tableIn (tgt := 95) (off := 94) F.1 F.2.1 dX6_told_1 (by rw [ec_1]; omega) (by rw [ec_1]; omega) (by rw [ec_1, c_1_5]; rfl) (by decide) ?_
    refine lv_aload_n F.1 F.2.1 dX6_told_95 rfl (lv_at hl 0 rfl) ?_
    obtain ⟨r_7a, r_7b, r_7c, r_7d⟩ := gR_x8 hv hx.1
    refine g_getR (ci := 6) (k := 8) F hH rfl (by decide) iX6 hx.1 (by decide) rfl (b := gh 37 0) r_7a k53 dX6_told_96 ?_
    refine g_getI (ci := 4) (k := 3) F hH rfl (by decide) iX4 r_7b (by decide) rfl k99 dX6_told_99 ?_
    obtain ⟨b_8a, b_8b, b_8c, b_8d, b_8e, b_8f, b_8g, b_8h⟩ := gI_rows hv r_7b
    exact g_iret F hr hlk hH hS hz (zr_t _) ⟨rfl, rfl, rfl, rfl, rfl, rfl, Or.inr (Or.inr (Or.inr (Or.inr (Or.inr (Or.inl ⟨by omega, by omega⟩)))))⟩ dX6_told_102
  by_cases c_1_6 : wh = 6
  · refine lv_tableIn (tgt := 103) (off := 102) F.1 F.2.1 dX6_told_1 (by rw [ec_1]; omega) (by rw [ec_1]; omega) (by rw [ec_1, c_1_6]; rfl) (by decide) ?_
    refine lv_aload_n F.1 F.2.1 dX6_told_103 rfl (lv_at hl 0 rfl) ?_
    have b_9 := gI_x hv hx.1
    refine g_calli (g_runV (As := []) (rest := []) (ci := 6) F hl.1 hH hS hz (c_X6_tuplesOfViewsf l g gh pA bA nA nr I R J AI AJ AR x hv hx (by omega) htb2) (cwV 0 F.2.2.2.2.1 gX6_told_X6_tuplesOfViews rfl rfl rfl hdX6_tuplesOfViews ⟨Nat.le_of_ble_eq_true rfl, Nat.le_of_ble_eq_true rfl⟩) hx.1 (by decide) rfl rfl rfl (Nat.le_of_ble_eq_true rfl) dX6_told_104 ⟨Nat.zero_le _, Nat.zero_le _⟩) hS (fun v_16 I_10 R_11 J_12 AI_13 AJ_14 AR_15 H locs zv_16 hp_17 hH hS => ?_)
    dsimp only at hp_17
    obtain ⟨rfl, rfl, rfl, rfl, rfl, rfl, q_18, qsm⟩ := hp_17
    exact g_iret F hr hlk hH hS hz zv_16 ⟨rfl, rfl, rfl, rfl, rfl, rfl, Or.inr (Or.inr (Or.inr (Or.inr (Or.inr (Or.inr (Or.inl ⟨by omega, qsm⟩))))))⟩ dX6_told_107
  by_cases c_1_7 : wh = 7
  · refine lv_tableIn (tgt := 108) (off := 107) F.1 F.2.1 dX6_told_1 (by rw [ec_1]; omega) (by rw [ec_1]; omega) (by rw [ec_1, c_1_7]; rfl) (by decide) ?_
    refine lv_aload_n F.1 F.2.1 dX6_told_108 rfl (lv_at hl 0 rfl) ?_
    have b_19 := gI_x hv hx.1
    refine g_calli (g_runV (As := []) (rest := []) (ci := 6) F hl.1 hH hS hz (c_X6_movedInViewsf l g gh pA bA nA nr I R J AI AJ AR x hv hx (by omega) htb2) (cwV 0 F.2.2.2.2.1 gX6_told_X6_movedInViews rfl rfl rfl hdX6_movedInViews ⟨Nat.le_of_ble_eq_true rfl, Nat.le_of_ble_eq_true rfl⟩) hx.1 (by decide) rfl rfl rfl (Nat.le_of_ble_eq_true rfl) dX6_told_109 ⟨Nat.zero_le _, Nat.zero_le _⟩) hS (fun v_26 I_20 R_21 J_22 AI_23 AJ_24 AR_25 H locs zv_26 hp_27 hH hS => ?_)
    dsimp only at hp_27
    obtain ⟨rfl, rfl, rfl, rfl, rfl, rfl, q_28, qsm⟩ := hp_27
    exact g_iret F hr hlk hH hS hz zv_26 ⟨rfl, rfl, rfl, rfl, rfl, rfl, Or.inr (Or.inr (Or.inr (Or.inr (Or.inr (Or.inr (Or.inr (Or.inl ⟨by omega, qsm⟩)))))))⟩ dX6_told_112
  by_cases c_1_8 : wh = 8
  · refine lv_tableIn (tgt := 113) (off := 112) F.1 F.2.1 dX6_told_1 (by rw [ec_1]; omega) (by rw [ec_1]; omega) (by rw [ec_1, c_1_8]; rfl) (by decide) ?_
    refine lv_aload_n F.1 F.2.1 dX6_told_113 rfl (lv_at hl 0 rfl) ?_
    have b_29 := gI_x hv hx.1
    refine g_calli (g_runV (As := []) (rest := []) (ci := 6) F hl.1 hH hS hz (c_X6_cameToViewsf l g gh pA bA nA nr cc I R J AI AJ AR x hv hx (by omega) htb2 hln) (cwV 0 F.2.2.2.2.1 gX6_told_X6_cameToViews rfl rfl rfl hdX6_cameToViews ⟨Nat.le_of_ble_eq_true rfl, Nat.le_of_ble_eq_true rfl⟩) hx.1 (by decide) rfl rfl rfl (Nat.le_of_ble_eq_true rfl) dX6_told_114 ⟨Nat.zero_le _, Nat.zero_le _⟩) hS (fun v_36 I_30 R_31 J_32 AI_33 AJ_34 AR_35 H locs zv_36 hp_37 hH hS => ?_)
    dsimp only at hp_37
    obtain ⟨rfl, rfl, rfl, rfl, rfl, rfl, q_38, qsm⟩ := hp_37
    exact g_iret F hr hlk hH hS hz zv_36 ⟨rfl, rfl, rfl, rfl, rfl, rfl, Or.inr (Or.inr (Or.inr (Or.inr (Or.inr (Or.inr (Or.inr (Or.inr (Or.inl ⟨by omega, qsm⟩))))))))⟩ dX6_told_117
  have c_1_9 : wh = 9 := by omega
  refine lv_tableIn (tgt := 118) (off := 117) F.1 F.2.1 dX6_told_1 (by rw [ec_1]; omega) (by rw [ec_1]; omega) (by rw [ec_1, c_1_9]; rfl) (by decide) ?_
  refine lv_aload_n F.1 F.2.1 dX6_told_118 rfl (lv_at hl 0 rfl) ?_
  refine g_getI (ci := 6) (k := 1) F hH rfl (by decide) iX6 hx.1 (by decide) rfl k77 dX6_told_119 ?_
  have b_39 := gI_x hv hx.1
  exact g_iret F hr hlk hH hS hz (zr_t _) ⟨rfl, rfl, rfl, rfl, rfl, rfl, Or.inr (Or.inr (Or.inr (Or.inr (Or.inr (Or.inr (Or.inr (Or.inr (Or.inr (Or.inl ⟨by omega, by omega⟩)))))))))⟩ dX6_told_122
