def rmX7_setsg : Room := { frames := 0, cells := 0, slots := 0, locals := 0 }
set_option maxHeartbeats 4000000 in
set_option maxRecDepth 100000 in
/-- a number of the row -/
theorem c_X7_setsg (l : Launch) (g : gG) (gh : gGh) (T : Nat → Int32) (M : Int) (I : gI) (R : gR) (J : gJ) (AI : gI) (AJ : gJ) (AR : gR) (mo : Nat) (wh : Int) (va : Int) (zwh : zr wh) (zva : zr va) (hv : mInv g gh R I AI) (hm : gO g mo 7) (hT : AI (gh 50 0) = T) (hM : (I mo 24).toInt = 0 → (I mo 5).toInt ≤ 15) (hMM : (I mo 5).toInt = M) (hw : 0 ≤ wh ∧ wh ≤ 5) : gMet l g yX7_sets tsX7_sets rmX7_setsg [.ref mo, .int (iI wh), .int (iI va)] (I, R, J, AI, AJ, AR) (gQv g (fun w : gS => I = w.1 ∧ R = w.2.1 ∧ J = w.2.2.1 ∧ AJ = w.2.2.2.2.1 ∧ AR = w.2.2.2.2.2 ∧ (mInv g gh R I (w.2.2.2.1)) ∧ ((w.2.2.2.1) (gh 50 0) = T) ∧ ((I mo 24).toInt = 0 → s1 (AI (gh 53 0)) ((w.2.2.2.1) (gh 53 0)) (40 * M + wh) va) ∧ (∀ b, b ≠ gh 53 0 → (w.2.2.2.1) b = AI b))) := by
  refine gStart (cc := cX7_sets) (maxL := 3) (ret := none) (by decide) rfl (Nat.le_of_ble_eq_true rfl) ?_
  intro p e s m below meth c ls F hr hlk hH hz hS hl
  have hl : lv_has ls 3 [(0, .ref mo), (1, .int (iI wh)), (2, .int (iI va))] := hl
  have hS : va_S (gA g) s.heap s.heap [] := hS
  obtain ⟨H, hHe⟩ : ∃ H : Heap, H = s.heap := ⟨_, rfl⟩
  obtain ⟨locs, hlo⟩ : ∃ k : List Loc, k = [] := ⟨_, rfl⟩
  have hH : gH g I R J AI AJ AR H := by rw [hHe]; exact hH
  have hS : va_S (gA g) s.heap H locs := by rw [hHe, hlo]; exact hS
  suffices hw : W p l e rmX7_setsg s m ([.ref mo, .int (iI wh), .int (iI va)] : List Value).toArray below meth c H locs 0 0 (MQ below (gQv g (fun w : gS => I = w.1 ∧ R = w.2.1 ∧ J = w.2.2.1 ∧ AJ = w.2.2.2.2.1 ∧ AR = w.2.2.2.2.2 ∧ (mInv g gh R I (w.2.2.2.1)) ∧ ((w.2.2.2.1) (gh 50 0) = T) ∧ ((I mo 24).toInt = 0 → s1 (AI (gh 53 0)) ((w.2.2.2.1) (gh 53 0)) (40 * M + wh) va) ∧ (∀ b, b ≠ gh 53 0 → (w.2.2.2.1) b = AI b))) ([.ref mo, .int (iI wh), .int (iI va)] : List Value).toArray s 0 0 (gA g)) (F0 m 0 ls []) by
    rw [hHe, hlo] at hw; exact hw
  clear hHe hlo
  have hb0 := mJ hv hm
  unfold mNum1 at hb0
  have iX7 : ∀ w ∈ u_ws RX7 TX7 32, w ∈ tsX7_sets := fun w h => List.mem_cons_of_mem _ (inTB7 w h)
  have k81 : Cond.fieldLink RX7 81 (TX7 24).1 (TX7 24).2.1 (TX7 24).2.2.1 ∈ tsX7_sets := List.mem_cons_of_mem _ fl_81
  have k17 : Cond.fieldLink RX7 17 (TX7 3).1 (TX7 3).2.1 (TX7 3).2.2.1 ∈ tsX7_sets := List.mem_cons_of_mem _ fl_17
  have k184 : Cond.fieldLink RX7 184 (TX7 5).1 (TX7 5).2.1 (TX7 5).2.2.1 ∈ tsX7_sets := List.mem_cons_of_mem _ fl_184
  refine lv_aload_n F.1 F.2.1 dX7_sets_0 rfl (lv_at hl 0 rfl) ?_
  refine g_getI (ci := 7) (k := 24) F hH rfl (by decide) iX7 hm (by decide) rfl k81 dX7_sets_1 ?_
  have b_1 := mJ hv hm
  unfold mNum1 at b_1
  refine z_if_ne (tgt := 22) F dX7_sets_4 (by decide) (zr_t _) (fun c_2 => ?_) (fun c_2 => ?_)
  · exact g_vret F hr hlk hH hS hz ⟨rfl, rfl, rfl, rfl, rfl, hv, hT, fun hf => by first | exact absurd hf (by omega) | (rw [← hMM]; exact s1_mk (by omega) zva rfl), fun _ _ => rfl⟩ dX7_sets_22
  · refine lv_aload_n F.1 F.2.1 dX7_sets_7 rfl (lv_at hl 0 rfl) ?_
    obtain ⟨r_3a, r_3b⟩ : R mo 3 = some (gh 53 0) ∧ gAr g (gh 53 0) 9 640 := mR hv hm (q := (3, 640)) (by decide)
    refine g_getR (ci := 7) (k := 3) F hH rfl (by decide) iX7 hm (by decide) rfl (b := gh 53 0) r_3a k17 dX7_sets_8 ?_
    refine z_bipush F dX7_sets_11 (by decide) ?_
    refine lv_aload_n F.1 F.2.1 dX7_sets_13 rfl (lv_at hl 0 rfl) ?_
    refine g_getI (ci := 7) (k := 5) F hH rfl (by decide) iX7 hm (by decide) rfl k184 dX7_sets_14 ?_
    refine z_imul F dX7_sets_17 ?_
    refine lv_iload_n F.1 F.2.1 dX7_sets_18 rfl (lv_at hl 1 rfl) ?_
    refine z_iadd F dX7_sets_19 ?_
    refine lv_iload_n F.1 F.2.1 dX7_sets_20 rfl (lv_at hl 2 rfl) ?_
    have hx21 : 0 ≤ ((40 * ((I mo 5).toInt)) + wh) ∧ ((40 * ((I mo 5).toInt)) + wh) < ((640 : Nat) : Int) ∧ ((40 * ((I mo 5).toInt)) + wh) ≤ 2147483647 := ⟨by omega, by omega, by omega⟩
    refine g_iast F hH hS r_3b hx21.1 hx21.2.1 hx21.2.2 dX7_sets_21 (fun H locs hH hS => ?_)
    obtain ⟨AI_4, eAI_4⟩ : ∃ qQ, qQ = gup2 AI (gh 53 0) (((40 * ((I mo 5).toInt)) + wh)).toNat (iI (va)) := ⟨_, rfl⟩
    rw [← eAI_4] at hH
    have kAI_4 : ∀ b, b ≠ (gh 53 0) → AI_4 b = AI b := fun b hb => by rw [eAI_4]; exact funext fun j => gup2_a _ _ hb
    have t_5 : AI_4 (gh 50 0) = AI (gh 50 0) := mK hv hm (p := (0, 640)) (q := (3, 640)) (by decide) (by decide) (by decide) kAI_4
    have hv : mInv g gh R I AI_4 := mInv_read hv hm eAI_4 (by omega)
    have hT : AI_4 (gh 50 0) = T := t_5.trans hT
    exact g_vret F hr hlk hH hS hz ⟨rfl, rfl, rfl, rfl, rfl, hv, hT, fun hf => by first | exact absurd hf (by omega) | (rw [← hMM]; exact s1_mk (by omega) zva eAI_4), fun b hb => kAI_4 b hb⟩ dX7_sets_22

def rmX7_setsPartg : Room := { frames := 0, cells := 0, slots := 0, locals := 0 }
set_option maxHeartbeats 4000000 in
set_option maxRecDepth 100000 in
/-- a part of the row -/
theorem c_X7_setsPartg (l : Launch) (g : gG) (gh : gGh) (T : Nat → Int32) (M : Int) (I : gI) (R : gR) (J : gJ) (AI : gI) (AJ : gJ) (AR : gR) (mo : Nat) (kp : Int) (a1 : Int) (b1 : Int) (c1 : Int) (d1 : Int) (zkp : zr kp) (za1 : zr a1) (zb1 : zr b1) (zc1 : zr c1) (zd1 : zr d1) (hv : mInv g gh R I AI) (hm : gO g mo 7) (hT : AI (gh 50 0) = T) (hM : (I mo 24).toInt = 0 → (I mo 5).toInt ≤ 15) (hMM : (I mo 5).toInt = M) (hkp : (I mo 24).toInt = 0 → 0 ≤ kp ∧ kp ≤ 7) : gMet l g yX7_setsPart tsX7_setsPart rmX7_setsPartg [.ref mo, .int (iI kp), .int (iI a1), .int (iI b1), .int (iI c1), .int (iI d1)] (I, R, J, AI, AJ, AR) (gQv g (fun w : gS => I = w.1 ∧ R = w.2.1 ∧ J = w.2.2.1 ∧ AJ = w.2.2.2.2.1 ∧ AR = w.2.2.2.2.2 ∧ (mInv g gh R I (w.2.2.2.1)) ∧ ((w.2.2.2.1) (gh 50 0) = T) ∧ ((I mo 24).toInt = 0 → sP (AI (gh 53 0)) ((w.2.2.2.1) (gh 53 0)) M kp a1 b1 c1 d1) ∧ (∀ b, b ≠ gh 53 0 → (w.2.2.2.1) b = AI b))) := by
  refine gStart (cc := cX7_setsPart) (maxL := 7) (ret := none) (by decide) rfl (Nat.le_of_ble_eq_true rfl) ?_
  intro p e s m below meth c ls F hr hlk hH hz hS hl
  have hl : lv_has ls 7 [(0, .ref mo), (1, .int (iI kp)), (2, .int (iI a1)), (3, .int (iI b1)), (4, .int (iI c1)), (5, .int (iI d1))] := hl
  have hS : va_S (gA g) s.heap s.heap [] := hS
  obtain ⟨H, hHe⟩ : ∃ H : Heap, H = s.heap := ⟨_, rfl⟩
  obtain ⟨locs, hlo⟩ : ∃ k : List Loc, k = [] := ⟨_, rfl⟩
  have hH : gH g I R J AI AJ AR H := by rw [hHe]; exact hH
  have hS : va_S (gA g) s.heap H locs := by rw [hHe, hlo]; exact hS
  suffices hw : W p l e rmX7_setsPartg s m ([.ref mo, .int (iI kp), .int (iI a1), .int (iI b1), .int (iI c1), .int (iI d1)] : List Value).toArray below meth c H locs 0 0 (MQ below (gQv g (fun w : gS => I = w.1 ∧ R = w.2.1 ∧ J = w.2.2.1 ∧ AJ = w.2.2.2.2.1 ∧ AR = w.2.2.2.2.2 ∧ (mInv g gh R I (w.2.2.2.1)) ∧ ((w.2.2.2.1) (gh 50 0) = T) ∧ ((I mo 24).toInt = 0 → sP (AI (gh 53 0)) ((w.2.2.2.1) (gh 53 0)) M kp a1 b1 c1 d1) ∧ (∀ b, b ≠ gh 53 0 → (w.2.2.2.1) b = AI b))) ([.ref mo, .int (iI kp), .int (iI a1), .int (iI b1), .int (iI c1), .int (iI d1)] : List Value).toArray s 0 0 (gA g)) (F0 m 0 ls []) by
    rw [hHe, hlo] at hw; exact hw
  clear hHe hlo
  have hb0 := mJ hv hm
  unfold mNum1 at hb0
  have iX7 : ∀ w ∈ u_ws RX7 TX7 32, w ∈ tsX7_setsPart := fun w h => List.mem_cons_of_mem _ (inTB7 w h)
  have k81 : Cond.fieldLink RX7 81 (TX7 24).1 (TX7 24).2.1 (TX7 24).2.2.1 ∈ tsX7_setsPart := List.mem_cons_of_mem _ fl_81
  have k184 : Cond.fieldLink RX7 184 (TX7 5).1 (TX7 5).2.1 (TX7 5).2.2.1 ∈ tsX7_setsPart := List.mem_cons_of_mem _ fl_184
  have k17 : Cond.fieldLink RX7 17 (TX7 3).1 (TX7 3).2.1 (TX7 3).2.2.1 ∈ tsX7_setsPart := List.mem_cons_of_mem _ fl_17
  refine lv_aload_n F.1 F.2.1 dX7_setsPart_0 rfl (lv_at hl 0 rfl) ?_
  refine g_getI (ci := 7) (k := 24) F hH rfl (by decide) iX7 hm (by decide) rfl k81 dX7_setsPart_1 ?_
  have b_1 := mJ hv hm
  unfold mNum1 at b_1
  refine z_if_le (tgt := 8) F dX7_setsPart_4 (by decide) (zr_t _) (fun c_2 => ?_) (fun c_2 => ?_)
  · refine z_bipush F dX7_setsPart_8 (by decide) ?_
    refine lv_aload_n F.1 F.2.1 dX7_setsPart_10 rfl (lv_at hl 0 rfl) ?_
    refine g_getI (ci := 7) (k := 5) F hH rfl (by decide) iX7 hm (by decide) rfl k184 dX7_setsPart_11 ?_
    refine z_imul F dX7_setsPart_14 ?_
    refine z_bipush F dX7_setsPart_15 (by decide) ?_
    refine z_iadd F dX7_setsPart_17 ?_
    refine z_iconst F dX7_setsPart_18 ?_
    refine lv_iload_n F.1 F.2.1 dX7_setsPart_19 rfl (lv_at hl 1 rfl) ?_
    refine z_imul F dX7_setsPart_20 ?_
    refine z_iadd F dX7_setsPart_21 ?_
    refine lv_istore (lv' := [(6, .int (iI (((40 * ((I mo 5).toInt)) + 6) + (4 * kp)))), (0, .ref mo), (1, .int (iI kp)), (2, .int (iI a1)), (3, .int (iI b1)), (4, .int (iI c1)), (5, .int (iI d1))]) F.1 F.2.1 dX7_setsPart_22 hl (by decide) rfl (fun ls hl => ?_)
    refine lv_aload_n F.1 F.2.1 dX7_setsPart_24 rfl (lv_at hl 1 rfl) ?_
    obtain ⟨r_3a, r_3b⟩ : R mo 3 = some (gh 53 0) ∧ gAr g (gh 53 0) 9 640 := mR hv hm (q := (3, 640)) (by decide)
    refine g_getR (ci := 7) (k := 3) F hH rfl (by decide) iX7 hm (by decide) rfl (b := gh 53 0) r_3a k17 dX7_setsPart_25 ?_
    refine lv_iload F.1 F.2.1 dX7_setsPart_28 (lv_at hl 0 rfl) ?_
    refine lv_iload_n F.1 F.2.1 dX7_setsPart_30 rfl (lv_at hl 3 rfl) ?_
    have hx31 : 0 ≤ (((40 * ((I mo 5).toInt)) + 6) + (4 * kp)) ∧ (((40 * ((I mo 5).toInt)) + 6) + (4 * kp)) < ((640 : Nat) : Int) ∧ (((40 * ((I mo 5).toInt)) + 6) + (4 * kp)) ≤ 2147483647 := ⟨by omega, by omega, by omega⟩
    refine g_iast F hH hS r_3b hx31.1 hx31.2.1 hx31.2.2 dX7_setsPart_31 (fun H locs hH hS => ?_)
    obtain ⟨AI_4, eAI_4⟩ : ∃ qQ, qQ = gup2 AI (gh 53 0) ((((40 * ((I mo 5).toInt)) + 6) + (4 * kp))).toNat (iI (a1)) := ⟨_, rfl⟩
    rw [← eAI_4] at hH
    have kAI_4 : ∀ b, b ≠ (gh 53 0) → AI_4 b = AI b := fun b hb => by rw [eAI_4]; exact funext fun j => gup2_a _ _ hb
    have t_5 : AI_4 (gh 50 0) = AI (gh 50 0) := mK hv hm (p := (0, 640)) (q := (3, 640)) (by decide) (by decide) (by decide) kAI_4
    have hv : mInv g gh R I AI_4 := mInv_read hv hm eAI_4 (by omega)
    have hT : AI_4 (gh 50 0) = T := t_5.trans hT
    refine lv_aload_n F.1 F.2.1 dX7_setsPart_32 rfl (lv_at hl 1 rfl) ?_
    refine g_getR (ci := 7) (k := 3) F hH rfl (by decide) iX7 hm (by decide) rfl (b := gh 53 0) r_3a k17 dX7_setsPart_33 ?_
    refine lv_iload F.1 F.2.1 dX7_setsPart_36 (lv_at hl 0 rfl) ?_
    refine z_iconst F dX7_setsPart_38 ?_
    refine z_iadd F dX7_setsPart_39 ?_
    refine lv_iload_n F.1 F.2.1 dX7_setsPart_40 rfl (lv_at hl 4 rfl) ?_
    have hx41 : 0 ≤ ((((40 * ((I mo 5).toInt)) + 6) + (4 * kp)) + 1) ∧ ((((40 * ((I mo 5).toInt)) + 6) + (4 * kp)) + 1) < ((640 : Nat) : Int) ∧ ((((40 * ((I mo 5).toInt)) + 6) + (4 * kp)) + 1) ≤ 2147483647 := ⟨by omega, by omega, by omega⟩
    refine g_iast F hH hS r_3b hx41.1 hx41.2.1 hx41.2.2 dX7_setsPart_41 (fun H locs hH hS => ?_)
    obtain ⟨AI_6, eAI_6⟩ : ∃ qQ, qQ = gup2 AI_4 (gh 53 0) (((((40 * ((I mo 5).toInt)) + 6) + (4 * kp)) + 1)).toNat (iI (b1)) := ⟨_, rfl⟩
    rw [← eAI_6] at hH
    have kAI_6 : ∀ b, b ≠ (gh 53 0) → AI_6 b = AI_4 b := fun b hb => by rw [eAI_6]; exact funext fun j => gup2_a _ _ hb
    have t_7 : AI_6 (gh 50 0) = AI_4 (gh 50 0) := mK hv hm (p := (0, 640)) (q := (3, 640)) (by decide) (by decide) (by decide) kAI_6
    have hv : mInv g gh R I AI_6 := mInv_read hv hm eAI_6 (by omega)
    have hT : AI_6 (gh 50 0) = T := t_7.trans hT
    refine lv_aload_n F.1 F.2.1 dX7_setsPart_42 rfl (lv_at hl 1 rfl) ?_
    refine g_getR (ci := 7) (k := 3) F hH rfl (by decide) iX7 hm (by decide) rfl (b := gh 53 0) r_3a k17 dX7_setsPart_43 ?_
    refine lv_iload F.1 F.2.1 dX7_setsPart_46 (lv_at hl 0 rfl) ?_
    refine z_iconst F dX7_setsPart_48 ?_
    refine z_iadd F dX7_setsPart_49 ?_
    refine lv_iload F.1 F.2.1 dX7_setsPart_50 (lv_at hl 5 rfl) ?_
    have hx52 : 0 ≤ ((((40 * ((I mo 5).toInt)) + 6) + (4 * kp)) + 2) ∧ ((((40 * ((I mo 5).toInt)) + 6) + (4 * kp)) + 2) < ((640 : Nat) : Int) ∧ ((((40 * ((I mo 5).toInt)) + 6) + (4 * kp)) + 2) ≤ 2147483647 := ⟨by omega, by omega, by omega⟩
    refine g_iast F hH hS r_3b hx52.1 hx52.2.1 hx52.2.2 dX7_setsPart_52 (fun H locs hH hS => ?_)
    obtain ⟨AI_8, eAI_8⟩ : ∃ qQ, qQ = gup2 AI_6 (gh 53 0) (((((40 * ((I mo 5).toInt)) + 6) + (4 * kp)) + 2)).toNat (iI (c1)) := ⟨_, rfl⟩
    rw [← eAI_8] at hH
    have kAI_8 : ∀ b, b ≠ (gh 53 0) → AI_8 b = AI_6 b := fun b hb => by rw [eAI_8]; exact funext fun j => gup2_a _ _ hb
    have t_9 : AI_8 (gh 50 0) = AI_6 (gh 50 0) := mK hv hm (p := (0, 640)) (q := (3, 640)) (by decide) (by decide) (by decide) kAI_8
    have hv : mInv g gh R I AI_8 := mInv_read hv hm eAI_8 (by omega)
    have hT : AI_8 (gh 50 0) = T := t_9.trans hT
    refine lv_aload_n F.1 F.2.1 dX7_setsPart_53 rfl (lv_at hl 1 rfl) ?_
    refine g_getR (ci := 7) (k := 3) F hH rfl (by decide) iX7 hm (by decide) rfl (b := gh 53 0) r_3a k17 dX7_setsPart_54 ?_
    refine lv_iload F.1 F.2.1 dX7_setsPart_57 (lv_at hl 0 rfl) ?_
    refine z_iconst F dX7_setsPart_59 ?_
    refine z_iadd F dX7_setsPart_60 ?_
    refine lv_iload F.1 F.2.1 dX7_setsPart_61 (lv_at hl 6 rfl) ?_
    have hx63 : 0 ≤ ((((40 * ((I mo 5).toInt)) + 6) + (4 * kp)) + 3) ∧ ((((40 * ((I mo 5).toInt)) + 6) + (4 * kp)) + 3) < ((640 : Nat) : Int) ∧ ((((40 * ((I mo 5).toInt)) + 6) + (4 * kp)) + 3) ≤ 2147483647 := ⟨by omega, by omega, by omega⟩
    refine g_iast F hH hS r_3b hx63.1 hx63.2.1 hx63.2.2 dX7_setsPart_63 (fun H locs hH hS => ?_)
    obtain ⟨AI_10, eAI_10⟩ : ∃ qQ, qQ = gup2 AI_8 (gh 53 0) (((((40 * ((I mo 5).toInt)) + 6) + (4 * kp)) + 3)).toNat (iI (d1)) := ⟨_, rfl⟩
    rw [← eAI_10] at hH
    have kAI_10 : ∀ b, b ≠ (gh 53 0) → AI_10 b = AI_8 b := fun b hb => by rw [eAI_10]; exact funext fun j => gup2_a _ _ hb
    have t_11 : AI_10 (gh 50 0) = AI_8 (gh 50 0) := mK hv hm (p := (0, 640)) (q := (3, 640)) (by decide) (by decide) (by decide) kAI_10
    have hv : mInv g gh R I AI_10 := mInv_read hv hm eAI_10 (by omega)
    have hT : AI_10 (gh 50 0) = T := t_11.trans hT
    exact g_vret F hr hlk hH hS hz ⟨rfl, rfl, rfl, rfl, rfl, hv, hT, fun hf => by first | exact absurd hf (by omega) | exact sP_mk (by omega) (by omega) za1 zb1 zc1 zd1 (by omega) eAI_4 eAI_6 eAI_8 eAI_10, fun b hb => (((kAI_10 b hb).trans (kAI_8 b hb)).trans (kAI_6 b hb)).trans (kAI_4 b hb)⟩ dX7_setsPart_64
  · exact g_vret F hr hlk hH hS hz ⟨rfl, rfl, rfl, rfl, rfl, hv, hT, fun hf => by first | exact absurd hf (by omega) | exact sP_mk (by omega) (by omega) za1 zb1 zc1 zd1 (by omega) rfl rfl rfl rfl, fun _ _ => rfl⟩ dX7_setsPart_7

def rmX7_headerg : Room := { frames := 1, cells := 0, slots := 0, locals := 22 }
set_option maxHeartbeats 4000000 in
set_option maxRecDepth 100000 in
/-- the header of the row -/
theorem c_X7_headerg (l : Launch) (g : gG) (gh : gGh) (T : Nat → Int32) (M : Int) (I : gI) (R : gR) (J : gJ) (AI : gI) (AJ : gJ) (AR : gR) (mo : Nat) (kd : Int) (cl : Int) (on : Int) (ot : Int) (ps : Int) (zkd : zr kd) (zcl : zr cl) (zon : zr on) (zot : zr ot) (zps : zr ps) (hv : mInv g gh R I AI) (hm : gO g mo 7) (hT : AI (gh 50 0) = T) (hM : (I mo 24).toInt = 0 → (I mo 5).toInt ≤ 15) (hMM : (I mo 5).toInt = M) : gMet l g yX7_header tsX7_header rmX7_headerg [.ref mo, .int (iI kd), .int (iI cl), .int (iI on), .int (iI ot), .int (iI ps)] (I, R, J, AI, AJ, AR) (gQv g (fun w : gS => I = w.1 ∧ R = w.2.1 ∧ J = w.2.2.1 ∧ AJ = w.2.2.2.2.1 ∧ AR = w.2.2.2.2.2 ∧ (mInv g gh R I (w.2.2.2.1)) ∧ ((w.2.2.2.1) (gh 50 0) = T) ∧ ((I mo 24).toInt = 0 → hP (AI (gh 53 0)) ((w.2.2.2.1) (gh 53 0)) M kd cl on ot ps) ∧ (∀ b, b ≠ gh 53 0 → (w.2.2.2.1) b = AI b))) := by
  refine gStart (cc := cX7_header) (maxL := 6) (ret := none) (by decide) rfl (Nat.le_of_ble_eq_true rfl) ?_
  intro p e s m below meth c ls F hr hlk hH hz hS hl
  have hl : lv_has ls 6 [(0, .ref mo), (1, .int (iI kd)), (2, .int (iI cl)), (3, .int (iI on)), (4, .int (iI ot)), (5, .int (iI ps))] := hl
  have hS : va_S (gA g) s.heap s.heap [] := hS
  obtain ⟨H, hHe⟩ : ∃ H : Heap, H = s.heap := ⟨_, rfl⟩
  obtain ⟨locs, hlo⟩ : ∃ k : List Loc, k = [] := ⟨_, rfl⟩
  have hH : gH g I R J AI AJ AR H := by rw [hHe]; exact hH
  have hS : va_S (gA g) s.heap H locs := by rw [hHe, hlo]; exact hS
  suffices hw : W p l e rmX7_headerg s m ([.ref mo, .int (iI kd), .int (iI cl), .int (iI on), .int (iI ot), .int (iI ps)] : List Value).toArray below meth c H locs 0 0 (MQ below (gQv g (fun w : gS => I = w.1 ∧ R = w.2.1 ∧ J = w.2.2.1 ∧ AJ = w.2.2.2.2.1 ∧ AR = w.2.2.2.2.2 ∧ (mInv g gh R I (w.2.2.2.1)) ∧ ((w.2.2.2.1) (gh 50 0) = T) ∧ ((I mo 24).toInt = 0 → hP (AI (gh 53 0)) ((w.2.2.2.1) (gh 53 0)) M kd cl on ot ps) ∧ (∀ b, b ≠ gh 53 0 → (w.2.2.2.1) b = AI b))) ([.ref mo, .int (iI kd), .int (iI cl), .int (iI on), .int (iI ot), .int (iI ps)] : List Value).toArray s 0 0 (gA g)) (F0 m 0 ls []) by
    rw [hHe, hlo] at hw; exact hw
  clear hHe hlo
  have hb0 := mJ hv hm
  unfold mNum1 at hb0
  refine lv_aload_n F.1 F.2.1 dX7_header_0 rfl (lv_at hl 0 rfl) ?_
  refine z_iconst F dX7_header_1 ?_
  refine lv_iload_n F.1 F.2.1 dX7_header_2 rfl (lv_at hl 1 rfl) ?_
  have b_1 := mJ hv hm
  unfold mNum1 at b_1
  refine g_callv (g_runV (As := [.int (iI 0), .int (iI kd)]) (rest := []) (ci := 7) F hl.1 hH hS hz (c_X7_setsg l g gh T M I R J AI AJ AR mo 0 kd ⟨by decide, by decide⟩ zkd hv hm hT (by omega) (by omega) (by omega)) (cwV 2 F.2.2.2.2.1 (good_up gT_X7_sets) rfl rfl rfl hdX7_sets ⟨Nat.le_of_ble_eq_true rfl, Nat.le_of_ble_eq_true rfl⟩) hm (by decide) rfl rfl rfl (Nat.le_of_ble_eq_true rfl) dX7_header_3 ⟨Nat.zero_le _, Nat.zero_le _⟩) hS (fun I_2 R_3 J_4 AI_5 AJ_6 AR_7 H locs hp_8 hH hS => ?_)
  dsimp only at hp_8
  obtain ⟨rfl, rfl, rfl, rfl, rfl, hv, hT, g1, q_9⟩ := hp_8
  refine lv_aload_n F.1 F.2.1 dX7_header_6 rfl (lv_at hl 0 rfl) ?_
  refine z_iconst F dX7_header_7 ?_
  refine lv_iload_n F.1 F.2.1 dX7_header_8 rfl (lv_at hl 2 rfl) ?_
  refine g_callv (g_runV (As := [.int (iI 1), .int (iI cl)]) (rest := []) (ci := 7) F hl.1 hH hS hz (c_X7_setsg l g gh T M I R J AI_5 AJ AR mo 1 cl ⟨by decide, by decide⟩ zcl hv hm hT (by omega) (by omega) (by omega)) (cwV 2 F.2.2.2.2.1 (good_up gT_X7_sets) rfl rfl rfl hdX7_sets ⟨Nat.le_of_ble_eq_true rfl, Nat.le_of_ble_eq_true rfl⟩) hm (by decide) rfl rfl rfl (Nat.le_of_ble_eq_true rfl) dX7_header_9 ⟨Nat.zero_le _, Nat.zero_le _⟩) hS (fun I_10 R_11 J_12 AI_13 AJ_14 AR_15 H locs hp_16 hH hS => ?_)
  dsimp only at hp_16
  obtain ⟨rfl, rfl, rfl, rfl, rfl, hv, hT, g2, q_17⟩ := hp_16
  refine lv_aload_n F.1 F.2.1 dX7_header_12 rfl (lv_at hl 0 rfl) ?_
  refine z_iconst F dX7_header_13 ?_
  refine lv_iload_n F.1 F.2.1 dX7_header_14 rfl (lv_at hl 3 rfl) ?_
  refine g_callv (g_runV (As := [.int (iI 2), .int (iI on)]) (rest := []) (ci := 7) F hl.1 hH hS hz (c_X7_setsg l g gh T M I R J AI_13 AJ AR mo 2 on ⟨by decide, by decide⟩ zon hv hm hT (by omega) (by omega) (by omega)) (cwV 2 F.2.2.2.2.1 (good_up gT_X7_sets) rfl rfl rfl hdX7_sets ⟨Nat.le_of_ble_eq_true rfl, Nat.le_of_ble_eq_true rfl⟩) hm (by decide) rfl rfl rfl (Nat.le_of_ble_eq_true rfl) dX7_header_15 ⟨Nat.zero_le _, Nat.zero_le _⟩) hS (fun I_18 R_19 J_20 AI_21 AJ_22 AR_23 H locs hp_24 hH hS => ?_)
  dsimp only at hp_24
  obtain ⟨rfl, rfl, rfl, rfl, rfl, hv, hT, g3, q_25⟩ := hp_24
  refine lv_aload_n F.1 F.2.1 dX7_header_18 rfl (lv_at hl 0 rfl) ?_
  refine z_iconst F dX7_header_19 ?_
  refine lv_iload F.1 F.2.1 dX7_header_20 (lv_at hl 4 rfl) ?_
  refine g_callv (g_runV (As := [.int (iI 3), .int (iI ot)]) (rest := []) (ci := 7) F hl.1 hH hS hz (c_X7_setsg l g gh T M I R J AI_21 AJ AR mo 3 ot ⟨by decide, by decide⟩ zot hv hm hT (by omega) (by omega) (by omega)) (cwV 2 F.2.2.2.2.1 (good_up gT_X7_sets) rfl rfl rfl hdX7_sets ⟨Nat.le_of_ble_eq_true rfl, Nat.le_of_ble_eq_true rfl⟩) hm (by decide) rfl rfl rfl (Nat.le_of_ble_eq_true rfl) dX7_header_22 ⟨Nat.zero_le _, Nat.zero_le _⟩) hS (fun I_26 R_27 J_28 AI_29 AJ_30 AR_31 H locs hp_32 hH hS => ?_)
  dsimp only at hp_32
  obtain ⟨rfl, rfl, rfl, rfl, rfl, hv, hT, g4, q_33⟩ := hp_32
  refine lv_aload_n F.1 F.2.1 dX7_header_25 rfl (lv_at hl 0 rfl) ?_
  refine z_iconst F dX7_header_26 ?_
  refine lv_iload F.1 F.2.1 dX7_header_27 (lv_at hl 5 rfl) ?_
  refine g_callv (g_runV (As := [.int (iI 4), .int (iI ps)]) (rest := []) (ci := 7) F hl.1 hH hS hz (c_X7_setsg l g gh T M I R J AI_29 AJ AR mo 4 ps ⟨by decide, by decide⟩ zps hv hm hT (by omega) (by omega) (by omega)) (cwV 2 F.2.2.2.2.1 (good_up gT_X7_sets) rfl rfl rfl hdX7_sets ⟨Nat.le_of_ble_eq_true rfl, Nat.le_of_ble_eq_true rfl⟩) hm (by decide) rfl rfl rfl (Nat.le_of_ble_eq_true rfl) dX7_header_29 ⟨Nat.zero_le _, Nat.zero_le _⟩) hS (fun I_34 R_35 J_36 AI_37 AJ_38 AR_39 H locs hp_40 hH hS => ?_)
  dsimp only at hp_40
  obtain ⟨rfl, rfl, rfl, rfl, rfl, hv, hT, g5, q_41⟩ := hp_40
  exact g_vret F hr hlk hH hS hz ⟨rfl, rfl, rfl, rfl, rfl, hv, hT, fun hf => hP_mk (by omega) (g1 hf) (g2 hf) (g3 hf) (g4 hf) (g5 hf), fun b hb => ((((q_41 b hb).trans (q_33 b hb)).trans (q_25 b hb)).trans (q_17 b hb)).trans (q_9 b hb)⟩ dX7_header_32
