def rmX2_keepLineg : Room := { frames := 2, cells := 0, slots := 0, locals := 62 }
set_option maxHeartbeats 4000000 in
set_option maxRecDepth 100000 in
/-- the line behind the others is kept -/
theorem c_X2_keepLineg (l : Launch) (g : gG) (gh : gGh) (ln : Nat) (I : gI) (R : gR) (J : gJ) (AI : gI) (AJ : gJ) (AR : gR) (a : Nat) (hv : gInv g gh R AR I AI) (ha : gO g a 2) (h0 : (I a 1).toInt ≤ 15) (h1 : (I a 2).toInt ≤ 15) (hc : ∀ b, gO g b 0 → gh 4 b = a → (gh 5 b : Int) = (I a 1).toInt → (I b 2).toInt ≤ 4) (hln : AR (gh 6 a) (I a 1).toInt.toNat = some ln) : gMet l g yX2_keepLine wsX2_keepLine rmX2_keepLineg [.ref a] (I, R, J, AI, AJ, AR) (gQv g (fun w : gS => R = w.2.1 ∧ J = w.2.2.1 ∧ AI = w.2.2.2.1 ∧ AJ = w.2.2.2.2.1 ∧ AR = w.2.2.2.2.2 ∧ (gInv g gh R AR (w.1) AI) ∧ (((w.1) a 1).toInt = (I a 1).toInt + 1) ∧ (((w.1) a 2).toInt ≤ (I a 2).toInt + 1) ∧ (∀ b c, gO g b c → c ≠ 0 → c ≠ 2 → (w.1) b = I b) ∧ (∀ b j, j ≠ 13 → j ≠ 14 → gO g b 0 → (w.1) b j = I b j) ∧ (pIm (I ln 0).toInt ((w.1) a 2).toInt ((I a 2).toInt + 1)) ∧ (pNm (I ln 0).toInt ((w.1) a 2).toInt (I a 2).toInt) ∧ (∀ b, b ≠ a → b ≠ ln → (w.1) b = I b))) := by
  refine gStart (cc := cX2_keepLine) (maxL := 2) (ret := none) (by decide) rfl (Nat.le_of_ble_eq_true rfl) ?_
  intro p e s m below meth c ls F hr hlk hH hz hS hl
  have hl : lv_has ls 2 [(0, .ref a)] := hl
  have hS : va_S (gA g) s.heap s.heap [] := hS
  obtain ⟨H, hHe⟩ : ∃ H : Heap, H = s.heap := ⟨_, rfl⟩
  obtain ⟨locs, hlo⟩ : ∃ k : List Loc, k = [] := ⟨_, rfl⟩
  have hH : gH g I R J AI AJ AR H := by rw [hHe]; exact hH
  have hS : va_S (gA g) s.heap H locs := by rw [hHe, hlo]; exact hS
  suffices hw : W p l e rmX2_keepLineg s m ([.ref a] : List Value).toArray below meth c H locs 0 0 (MQ below (gQv g (fun w : gS => R = w.2.1 ∧ J = w.2.2.1 ∧ AI = w.2.2.2.1 ∧ AJ = w.2.2.2.2.1 ∧ AR = w.2.2.2.2.2 ∧ (gInv g gh R AR (w.1) AI) ∧ (((w.1) a 1).toInt = (I a 1).toInt + 1) ∧ (((w.1) a 2).toInt ≤ (I a 2).toInt + 1) ∧ (∀ b c, gO g b c → c ≠ 0 → c ≠ 2 → (w.1) b = I b) ∧ (∀ b j, j ≠ 13 → j ≠ 14 → gO g b 0 → (w.1) b j = I b j) ∧ (pIm (I ln 0).toInt ((w.1) a 2).toInt ((I a 2).toInt + 1)) ∧ (pNm (I ln 0).toInt ((w.1) a 2).toInt (I a 2).toInt) ∧ (∀ b, b ≠ a → b ≠ ln → (w.1) b = I b))) ([.ref a] : List Value).toArray s 0 0 (gA g)) (F0 m 0 ls []) by
    rw [hHe, hlo] at hw; exact hw
  clear hHe hlo
  have iX2 : ∀ w ∈ u_ws RX2 TX2 3, w ∈ wsX2_keepLine := (by decide +kernel)
  have iX0 : ∀ w ∈ u_ws RX0 TX0 15, w ∈ wsX2_keepLine := (by decide +kernel)
  have k11 : Cond.fieldLink RX2 11 (TX2 0).1 (TX2 0).2.1 (TX2 0).2.2.1 ∈ wsX2_keepLine := List.mem_of_getElem? (i := 1) rfl
  have k18 : Cond.fieldLink RX2 18 (TX2 1).1 (TX2 1).2.1 (TX2 1).2.2.1 ∈ wsX2_keepLine := List.mem_of_getElem? (i := 2) rfl
  have k29 : Cond.fieldLink RX2 29 (TX0 0).1 (TX0 0).2.1 (TX0 0).2.2.1 ∈ wsX2_keepLine := List.mem_of_getElem? (i := 3) rfl
  have k32 : Cond.fieldLink RX2 32 (TX2 2).1 (TX2 2).2.1 (TX2 2).2.2.1 ∈ wsX2_keepLine := List.mem_of_getElem? (i := 4) rfl
  have k35 : Cond.fieldLink RX2 35 (TX0 3).1 (TX0 3).2.1 (TX0 3).2.2.1 ∈ wsX2_keepLine := List.mem_of_getElem? (i := 5) rfl
  have k42 : Cond.fieldLink RX2 42 (TX0 4).1 (TX0 4).2.1 (TX0 4).2.2.1 ∈ wsX2_keepLine := List.mem_of_getElem? (i := 6) rfl
  refine lv_aload_n F.1 F.2.1 dX2_keepLine_0 rfl (lv_at hl 0 rfl) ?_
  obtain ⟨r_1a, r_1b⟩ := gR_lines hv ha
  refine g_getR (ci := 2) (k := 0) F hH rfl (by decide) iX2 ha (by decide) rfl (b := gh 6 a) r_1a k11 dX2_keepLine_1 ?_
  refine lv_aload_n F.1 F.2.1 dX2_keepLine_4 rfl (lv_at hl 0 rfl) ?_
  refine g_getI (ci := 2) (k := 1) F hH rfl (by decide) iX2 ha (by decide) rfl k18 dX2_keepLine_5 ?_
  have b_2 := gI_plan hv ha
  have hx8 : 0 ≤ ((I a 1).toInt) ∧ ((I a 1).toInt) < ((16 : Nat) : Int) ∧ ((I a 1).toInt) ≤ 2147483647 := ⟨by omega, by omega, by omega⟩
  obtain ⟨y_3, y_3a, y_3b, y_3c, y_3d⟩ := gA_lines hv ha (z := (I a 1).toInt) (by omega) (by omega)
  refine g_aldL F hH r_1b hx8.1 hx8.2.1 hx8.2.2 (b := y_3) y_3a dX2_keepLine_8 ?_
  have eyl : y_3 = ln := Option.some.inj (y_3a.symm.trans hln)
  have ekl : (I ln 0).toInt = (I y_3 0).toInt := by rw [eyl]
  refine lv_astore_n (lv' := [(1, .ref y_3), (0, .ref a)]) F.1 F.2.1 dX2_keepLine_9 rfl hl (by decide) rfl (fun ls hl => ?_)
  refine lv_aload_n F.1 F.2.1 dX2_keepLine_10 rfl (lv_at hl 0 rfl) ?_
  refine g_getI (ci := 0) (k := 0) F hH rfl (by decide) iX0 y_3b (by decide) rfl k29 dX2_keepLine_11 ?_
  have b_4 := gI_line hv y_3b
  unfold vLineI at b_4
  refine z_if_ne (tgt := 27) F dX2_keepLine_14 (by decide) (zr_t _) (fun c_5 => ?_) (fun c_5 => ?_)
  · have t1 : ∀ b j, j ≠ 13 → j ≠ 14 → gO g b 0 → I b j = I b j := fun _ _ _ _ _ => rfl
    have t2 : I a 1 = I a 1 := rfl
    have t3 : (I a 2).toInt ≤ (I a 2).toInt + 1 := by omega
    have t4 : ∀ b c, gO g b c → c ≠ 0 → c ≠ 2 → I b = I b := fun _ _ _ _ _ => rfl
    have t6 : (I a 2).toInt = (I a 2).toInt + 0 := by omega
    have t7 : ∀ b, b ≠ a → b ≠ ln → I b = I b := fun b h _ => rfl
    refine lv_aload_n F.1 F.2.1 dX2_keepLine_27 rfl (lv_at hl 1 rfl) ?_
    refine lv_aload_n F.1 F.2.1 dX2_keepLine_28 rfl (lv_at hl 0 rfl) ?_
    refine lv_aload_n F.1 F.2.1 dX2_keepLine_29 rfl (lv_at hl 0 rfl) ?_
    refine g_getI (ci := 0) (k := 3) F hH rfl (by decide) iX0 y_3b (by decide) rfl k35 dX2_keepLine_30 ?_
    refine g_callv (g_runV (As := [.ref y_3, .int (iI ((I y_3 3).toInt))]) (rest := []) (ci := 2) F hl.1 hH hS hz (c_X2_hang l g gh I R J AI AJ AR a y_3 ((I y_3 3).toInt) (zr_t _) hv ha y_3b (by omega)) (cwV 2 F.2.2.2.2.1 gX2_keepLine_X2_hang rfl rfl rfl hdX2_hang ⟨Nat.le_of_ble_eq_true rfl, Nat.le_of_ble_eq_true rfl⟩) ha (by decide) rfl rfl rfl (Nat.le_of_ble_eq_true rfl) dX2_keepLine_33 ⟨Nat.zero_le _, Nat.zero_le _⟩) hS (fun I_6 R_7 J_8 AI_9 AJ_10 AR_11 H locs hp_12 hH hS => ?_)
    dsimp only at hp_12
    obtain ⟨rfl, rfl, rfl, rfl, rfl, hv, f33, g33⟩ := hp_12
    have t1 : ∀ b j, j ≠ 13 → j ≠ 14 → gO g b 0 → I_6 b j = I b j := fun b j h1 h2 hb => (f33 b j h1 h2).trans (t1 b j h1 h2 hb)
    have t2 : I_6 a 1 = I a 1 := (f33 a 1 (by decide) (by decide)).trans t2
    have t3 : (I_6 a 2).toInt ≤ (I a 2).toInt + 1 := by rw [f33 a 2 (by decide) (by decide)]; exact t3
    have t4 : ∀ b c, gO g b c → c ≠ 0 → c ≠ 2 → I_6 b = I b := fun b c hb h0 h2 => (g33 b (gO_ne hb y_3b h0)).trans (t4 b c hb h0 h2)
    have t6 : (I_6 a 2).toInt = (I a 2).toInt + 0 := by rw [f33 a 2 (by decide) (by decide)]; exact t6
    have t7 : ∀ b, b ≠ a → b ≠ ln → I_6 b = I b := fun b h h2 => (g33 b (by rw [eyl]; exact h2)).trans (t7 b h h2)
    refine lv_aload_n F.1 F.2.1 dX2_keepLine_36 rfl (lv_at hl 1 rfl) ?_
    refine lv_aload_n F.1 F.2.1 dX2_keepLine_37 rfl (lv_at hl 0 rfl) ?_
    refine lv_aload_n F.1 F.2.1 dX2_keepLine_38 rfl (lv_at hl 0 rfl) ?_
    refine g_getI (ci := 0) (k := 4) F hH rfl (by decide) iX0 y_3b (by decide) rfl k42 dX2_keepLine_39 ?_
    have b_13 := gI_line hv y_3b
    unfold vLineI at b_13
    have b_14 := gI_plan hv ha
    refine g_callv (g_runV (As := [.ref y_3, .int (iI ((I_6 y_3 4).toInt))]) (rest := []) (ci := 2) F hl.1 hH hS hz (c_X2_hang l g gh I_6 R J AI AJ AR a y_3 ((I_6 y_3 4).toInt) (zr_t _) hv ha y_3b (by omega)) (cwV 2 F.2.2.2.2.1 gX2_keepLine_X2_hang rfl rfl rfl hdX2_hang ⟨Nat.le_of_ble_eq_true rfl, Nat.le_of_ble_eq_true rfl⟩) ha (by decide) rfl rfl rfl (Nat.le_of_ble_eq_true rfl) dX2_keepLine_42 ⟨Nat.zero_le _, Nat.zero_le _⟩) hS (fun I_15 R_16 J_17 AI_18 AJ_19 AR_20 H locs hp_21 hH hS => ?_)
    dsimp only at hp_21
    obtain ⟨rfl, rfl, rfl, rfl, rfl, hv, f42, g42⟩ := hp_21
    have t1 : ∀ b j, j ≠ 13 → j ≠ 14 → gO g b 0 → I_15 b j = I b j := fun b j h1 h2 hb => (f42 b j h1 h2).trans (t1 b j h1 h2 hb)
    have t2 : I_15 a 1 = I a 1 := (f42 a 1 (by decide) (by decide)).trans t2
    have t3 : (I_15 a 2).toInt ≤ (I a 2).toInt + 1 := by rw [f42 a 2 (by decide) (by decide)]; exact t3
    have t4 : ∀ b c, gO g b c → c ≠ 0 → c ≠ 2 → I_15 b = I b := fun b c hb h0 h2 => (g42 b (gO_ne hb y_3b h0)).trans (t4 b c hb h0 h2)
    have t6 : (I_15 a 2).toInt = (I a 2).toInt + 0 := by rw [f42 a 2 (by decide) (by decide)]; exact t6
    have t7 : ∀ b, b ≠ a → b ≠ ln → I_15 b = I b := fun b h h2 => (g42 b (by rw [eyl]; exact h2)).trans (t7 b h h2)
    refine lv_aload_n F.1 F.2.1 dX2_keepLine_45 rfl (lv_at hl 1 rfl) ?_
    refine lv_dup F.1 F.2.1 dX2_keepLine_46 rfl ?_
    refine g_getI (ci := 2) (k := 1) F hH rfl (by decide) iX2 ha (by decide) rfl k18 dX2_keepLine_47 ?_
    have b_22 := gI_plan hv ha
    refine z_iconst F dX2_keepLine_50 ?_
    refine z_iadd F dX2_keepLine_51 ?_
    refine g_putI (ci := 2) (k := 1) F hH hS rfl (by decide) iX2 ha (by decide) tyX2 tyX2_ok nmX2 rfl rfl rfl k18 dX2_keepLine_52 (fun H locs hH hS => ?_)
    obtain ⟨I_23, eI_23⟩ : ∃ qQ, qQ = gup2 I_15 a 1 (iI (((I_15 a 1).toInt) + 1)) := ⟨_, rfl⟩
    rw [← eI_23] at hH
    have kI_23 : ∀ b, b ≠ a → I_23 b = I_15 b := fun b hb => by rw [eI_23]; exact funext fun j => gup2_a _ _ hb
    have s1 : (I_15 a 1).toInt = (I a 1).toInt := by rw [t2]
    have e1 : (I_23 a 1).toInt = (I a 1).toInt + 1 := by rw [eI_23, gup2_s, iI_val ⟨by omega, by omega⟩]; omega
    have e2 : (I_23 a 2).toInt ≤ (I a 2).toInt + 1 := by rw [eI_23, gup2_k _ _ (by decide)]; exact t3
    have t5 : ∀ b c, gO g b c → c ≠ 0 → c ≠ 2 → I_23 b = I b := fun b c hb h0 h2 => (kI_23 b (gO_ne hb ha h2)).trans (t4 b c hb h0 h2)
    have hv : gInv g gh R AR I_23 AI := by
      rw [eI_23]
      refine gInv_planLen hv ha (by omega) (by omega) (fun b hb h4 hlt => ?_)
      by_cases hq : (gh 5 b : Int) < (I_15 a 1).toInt
      · exact (hv.2.2.1 b hb).2.2.2 (by rw [h4]; exact hq)
      · rw [t1 b 2 (by decide) (by decide) hb]; exact hc b hb h4 (by omega)
    have t6 : (I_23 a 2).toInt = (I a 2).toInt + 0 := by rw [eI_23, gup2_k _ _ (by decide)]; exact t6
    have t1 : ∀ b j, j ≠ 13 → j ≠ 14 → gO g b 0 → I_23 b j = I b j := fun b j h1 h2 hb => (congrFun (kI_23 b (gO_ne hb ha (by decide))) j).trans (t1 b j h1 h2 hb)
    have t7 : ∀ b, b ≠ a → b ≠ ln → I_23 b = I b := fun b h h2 => (kI_23 b h).trans (t7 b h h2)
    exact g_vret F hr hlk hH hS hz ⟨rfl, rfl, rfl, rfl, rfl, hv, e1, e2, t5, t1, by (try dsimp only); first | exact pIm_n (by omega) | exact pIm_y (by omega), by (try dsimp only); first | exact (fun h => by omega) | exact (fun h => absurd (by omega) h), t7⟩ dX2_keepLine_55
  · refine lv_aload_n F.1 F.2.1 dX2_keepLine_17 rfl (lv_at hl 1 rfl) ?_
    refine lv_dup F.1 F.2.1 dX2_keepLine_18 rfl ?_
    refine g_getI (ci := 2) (k := 2) F hH rfl (by decide) iX2 ha (by decide) rfl k32 dX2_keepLine_19 ?_
    refine z_iconst F dX2_keepLine_22 ?_
    refine z_iadd F dX2_keepLine_23 ?_
    refine g_putI (ci := 2) (k := 2) F hH hS rfl (by decide) iX2 ha (by decide) tyX2 tyX2_ok nmX2 rfl rfl rfl k32 dX2_keepLine_24 (fun H locs hH hS => ?_)
    obtain ⟨I_24, eI_24⟩ : ∃ qQ, qQ = gup2 I a 2 (iI (((I a 2).toInt) + 1)) := ⟨_, rfl⟩
    rw [← eI_24] at hH
    have kI_24 : ∀ b, b ≠ a → I_24 b = I b := fun b hb => by rw [eI_24]; exact funext fun j => gup2_a _ _ hb
    have w_25 : (I_24 a 2).toInt = ((I a 2).toInt) + 1 := by rw [eI_24, gup2_s]; exact iI_val ⟨by omega, by omega⟩
    have hv : gInv g gh R AR I_24 AI := by rw [eI_24]; exact gInv_planTab hv ha (by omega) (by omega)
    have w_25_k : I_24 a 1 = I a 1 := by rw [eI_24]; exact gup2_k _ _ (by decide)
    have t1 : ∀ b j, j ≠ 13 → j ≠ 14 → gO g b 0 → I_24 b j = I b j := fun b j _ _ hb => congrFun (kI_24 b (gO_ne hb ha (by decide))) j
    have t2 : I_24 a 1 = I a 1 := by rw [eI_24]; exact gup2_k _ _ (by decide)
    have t3 : (I_24 a 2).toInt ≤ (I a 2).toInt + 1 := by omega
    have t4 : ∀ b c, gO g b c → c ≠ 0 → c ≠ 2 → I_24 b = I b := fun b c hb _ h2 => kI_24 b (gO_ne hb ha h2)
    have t6 : (I_24 a 2).toInt = (I a 2).toInt + 1 := by omega
    have t7 : ∀ b, b ≠ a → b ≠ ln → I_24 b = I b := fun b h _ => kI_24 b h
    refine lv_aload_n F.1 F.2.1 dX2_keepLine_27 rfl (lv_at hl 1 rfl) ?_
    refine lv_aload_n F.1 F.2.1 dX2_keepLine_28 rfl (lv_at hl 0 rfl) ?_
    refine lv_aload_n F.1 F.2.1 dX2_keepLine_29 rfl (lv_at hl 0 rfl) ?_
    refine g_getI (ci := 0) (k := 3) F hH rfl (by decide) iX0 y_3b (by decide) rfl k35 dX2_keepLine_30 ?_
    have b_26 := gI_line hv y_3b
    unfold vLineI at b_26
    have b_27 := gI_plan hv ha
    refine g_callv (g_runV (As := [.ref y_3, .int (iI ((I_24 y_3 3).toInt))]) (rest := []) (ci := 2) F hl.1 hH hS hz (c_X2_hang l g gh I_24 R J AI AJ AR a y_3 ((I_24 y_3 3).toInt) (zr_t _) hv ha y_3b (by omega)) (cwV 2 F.2.2.2.2.1 gX2_keepLine_X2_hang rfl rfl rfl hdX2_hang ⟨Nat.le_of_ble_eq_true rfl, Nat.le_of_ble_eq_true rfl⟩) ha (by decide) rfl rfl rfl (Nat.le_of_ble_eq_true rfl) dX2_keepLine_33 ⟨Nat.zero_le _, Nat.zero_le _⟩) hS (fun I_28 R_29 J_30 AI_31 AJ_32 AR_33 H locs hp_34 hH hS => ?_)
    dsimp only at hp_34
    obtain ⟨rfl, rfl, rfl, rfl, rfl, hv, f33, g33⟩ := hp_34
    have t1 : ∀ b j, j ≠ 13 → j ≠ 14 → gO g b 0 → I_28 b j = I b j := fun b j h1 h2 hb => (f33 b j h1 h2).trans (t1 b j h1 h2 hb)
    have t2 : I_28 a 1 = I a 1 := (f33 a 1 (by decide) (by decide)).trans t2
    have t3 : (I_28 a 2).toInt ≤ (I a 2).toInt + 1 := by rw [f33 a 2 (by decide) (by decide)]; exact t3
    have t4 : ∀ b c, gO g b c → c ≠ 0 → c ≠ 2 → I_28 b = I b := fun b c hb h0 h2 => (g33 b (gO_ne hb y_3b h0)).trans (t4 b c hb h0 h2)
    have t6 : (I_28 a 2).toInt = (I a 2).toInt + 1 := by rw [f33 a 2 (by decide) (by decide)]; exact t6
    have t7 : ∀ b, b ≠ a → b ≠ ln → I_28 b = I b := fun b h h2 => (g33 b (by rw [eyl]; exact h2)).trans (t7 b h h2)
    refine lv_aload_n F.1 F.2.1 dX2_keepLine_36 rfl (lv_at hl 1 rfl) ?_
    refine lv_aload_n F.1 F.2.1 dX2_keepLine_37 rfl (lv_at hl 0 rfl) ?_
    refine lv_aload_n F.1 F.2.1 dX2_keepLine_38 rfl (lv_at hl 0 rfl) ?_
    refine g_getI (ci := 0) (k := 4) F hH rfl (by decide) iX0 y_3b (by decide) rfl k42 dX2_keepLine_39 ?_
    have b_35 := gI_line hv y_3b
    unfold vLineI at b_35
    have b_36 := gI_plan hv ha
    refine g_callv (g_runV (As := [.ref y_3, .int (iI ((I_28 y_3 4).toInt))]) (rest := []) (ci := 2) F hl.1 hH hS hz (c_X2_hang l g gh I_28 R J AI AJ AR a y_3 ((I_28 y_3 4).toInt) (zr_t _) hv ha y_3b (by omega)) (cwV 2 F.2.2.2.2.1 gX2_keepLine_X2_hang rfl rfl rfl hdX2_hang ⟨Nat.le_of_ble_eq_true rfl, Nat.le_of_ble_eq_true rfl⟩) ha (by decide) rfl rfl rfl (Nat.le_of_ble_eq_true rfl) dX2_keepLine_42 ⟨Nat.zero_le _, Nat.zero_le _⟩) hS (fun I_37 R_38 J_39 AI_40 AJ_41 AR_42 H locs hp_43 hH hS => ?_)
    dsimp only at hp_43
    obtain ⟨rfl, rfl, rfl, rfl, rfl, hv, f42, g42⟩ := hp_43
    have t1 : ∀ b j, j ≠ 13 → j ≠ 14 → gO g b 0 → I_37 b j = I b j := fun b j h1 h2 hb => (f42 b j h1 h2).trans (t1 b j h1 h2 hb)
    have t2 : I_37 a 1 = I a 1 := (f42 a 1 (by decide) (by decide)).trans t2
    have t3 : (I_37 a 2).toInt ≤ (I a 2).toInt + 1 := by rw [f42 a 2 (by decide) (by decide)]; exact t3
    have t4 : ∀ b c, gO g b c → c ≠ 0 → c ≠ 2 → I_37 b = I b := fun b c hb h0 h2 => (g42 b (gO_ne hb y_3b h0)).trans (t4 b c hb h0 h2)
    have t6 : (I_37 a 2).toInt = (I a 2).toInt + 1 := by rw [f42 a 2 (by decide) (by decide)]; exact t6
    have t7 : ∀ b, b ≠ a → b ≠ ln → I_37 b = I b := fun b h h2 => (g42 b (by rw [eyl]; exact h2)).trans (t7 b h h2)
    refine lv_aload_n F.1 F.2.1 dX2_keepLine_45 rfl (lv_at hl 1 rfl) ?_
    refine lv_dup F.1 F.2.1 dX2_keepLine_46 rfl ?_
    refine g_getI (ci := 2) (k := 1) F hH rfl (by decide) iX2 ha (by decide) rfl k18 dX2_keepLine_47 ?_
    have b_44 := gI_plan hv ha
    refine z_iconst F dX2_keepLine_50 ?_
    refine z_iadd F dX2_keepLine_51 ?_
    refine g_putI (ci := 2) (k := 1) F hH hS rfl (by decide) iX2 ha (by decide) tyX2 tyX2_ok nmX2 rfl rfl rfl k18 dX2_keepLine_52 (fun H locs hH hS => ?_)
    obtain ⟨I_45, eI_45⟩ : ∃ qQ, qQ = gup2 I_37 a 1 (iI (((I_37 a 1).toInt) + 1)) := ⟨_, rfl⟩
    rw [← eI_45] at hH
    have kI_45 : ∀ b, b ≠ a → I_45 b = I_37 b := fun b hb => by rw [eI_45]; exact funext fun j => gup2_a _ _ hb
    have s1 : (I_37 a 1).toInt = (I a 1).toInt := by rw [t2]
    have e1 : (I_45 a 1).toInt = (I a 1).toInt + 1 := by rw [eI_45, gup2_s, iI_val ⟨by omega, by omega⟩]; omega
    have e2 : (I_45 a 2).toInt ≤ (I a 2).toInt + 1 := by rw [eI_45, gup2_k _ _ (by decide)]; exact t3
    have t5 : ∀ b c, gO g b c → c ≠ 0 → c ≠ 2 → I_45 b = I b := fun b c hb h0 h2 => (kI_45 b (gO_ne hb ha h2)).trans (t4 b c hb h0 h2)
    have hv : gInv g gh R AR I_45 AI := by
      rw [eI_45]
      refine gInv_planLen hv ha (by omega) (by omega) (fun b hb h4 hlt => ?_)
      by_cases hq : (gh 5 b : Int) < (I_37 a 1).toInt
      · exact (hv.2.2.1 b hb).2.2.2 (by rw [h4]; exact hq)
      · rw [t1 b 2 (by decide) (by decide) hb]; exact hc b hb h4 (by omega)
    have t6 : (I_45 a 2).toInt = (I a 2).toInt + 1 := by rw [eI_45, gup2_k _ _ (by decide)]; exact t6
    have t1 : ∀ b j, j ≠ 13 → j ≠ 14 → gO g b 0 → I_45 b j = I b j := fun b j h1 h2 hb => (congrFun (kI_45 b (gO_ne hb ha (by decide))) j).trans (t1 b j h1 h2 hb)
    have t7 : ∀ b, b ≠ a → b ≠ ln → I_45 b = I b := fun b h h2 => (kI_45 b h).trans (t7 b h h2)
    exact g_vret F hr hlk hH hS hz ⟨rfl, rfl, rfl, rfl, rfl, hv, e1, e2, t5, t1, by (try dsimp only); first | exact pIm_n (by omega) | exact pIm_y (by omega), by (try dsimp only); first | exact (fun h => by omega) | exact (fun h => absurd (by omega) h), t7⟩ dX2_keepLine_55
