section
def rmX7_setsg : Room := { frames := 0, cells := 0, slots := 0, locals := 0 }
set_option maxHeartbeats 4000000 in
set_option maxRecDepth 100000 in
/-- a number of the row -/
theorem c_X7_setsg (l : Launch) (g : gG) (gh : gGh) (T : Nat → Int32) (M : Int) (I : gI) (R : gR) (J : gJ) (AI : gI) (AJ : gJ) (AR : gR) (mo : Nat) (wh : Int) (va : Int) (zwh : zr wh) (zva : zr va) (hv : mInv g gh R I AI) (hm : gO g mo 7) (hT : AI (gh 50 0) = T) (hM : (I mo 24).toInt = 0 → (I mo 5).toInt ≤ 15) (hMM : (I mo 5).toInt = M) (hw : 0 ≤ wh ∧ wh ≤ 5) : gMet l g yX7_sets tsX7_sets rmX7_setsg [.ref mo, .int (iI wh), .int (iI va)] (I, R, J, AI, AJ, AR) (gQv g (fun w : gS => I = w.1 ∧ R = w.2.1 ∧ J = w.2.2.1 ∧ AJ = w.2.2.2.2.1 ∧ AR = w.2.2.2.2.2 ∧ (mInv g gh R I (w.2.2.2.1)) ∧ ((w.2.2.2.1) (gh 50 0) = T) ∧ ((I mo 24).toInt = 0 → s1 (AI (gh 53 0)) ((w.2.2.2.1) (gh 53 0)) (40 * M + wh) va) ∧ (∀ b, b ≠ gh 53 0 → (w.2.2.2.1) b = AI b))) := by
  refine gStart (cc := cX7_sets) (maxL := 3) (ret := none) (by decide) rfl (Nat.le_of_ble_eq_true rfl) ?_
  intro p e s m below meth c ls F hr hlk hH hz hS hl
  have hl : lv_has ls 3 [(0, .ref mo), (1, .int (iI wh)), (2, .int (iI va))] := hl
  have hS : va_S (gA g) s.heap s.heap [] := hS
  obtain ⟨H, hHe⟩ : ∃ H : Heap, H = s.heap := ⟨_, rfl⟩
  obtain ⟨locs, hlo⟩ : ∃ k : List Loc, k = [] := ⟨_, rfl⟩
  have hH : gH g I R J AI AJ AR H := by rw [hHe]; exact hH
  have hS : va_S (gA g) s.heap H locs := by rw [hHe, hlo]; exact hS
  suffices hw : W p l e rmX7_setsg s m ([.ref mo, .int (iI wh), .int (iI va)] : List Value).toArray below meth c H locs 0 0 (MQ below (gQv g (fun w : gS => I = w.1 ∧ R = w.2.1 ∧ J = w.2.2.1 ∧ AJ = w.2.2.2.2.1 ∧ AR = w.2.2.2.2.2 ∧ (mInv g gh R I (w.2.2.2.1)) ∧ ((w.2.2.2.1) (gh 50 0) = T) ∧ ((I mo 24).toInt = 0 → s1 (AI (gh 53 0)) ((w.2.2.2.1) (gh 53 0)) (40 * M + wh) va) ∧ (∀ b, b ≠ gh 53 0 → (w.2.2.2.1) b = AI b))) ([.ref mo, .int (iI wh), .int (iI va)] : List Value).toArray s 0 0 (gA g)) (F0 m 0 ls []) by
    rw [hHe, hlo] at hw; exact hw
  clear hHe hlo
  have hb0 := mJ hv hm
  unfold mNum1 at hb0
  have iX7 : ∀ w ∈ u_ws RX7 TX7 32, w ∈ tsX7_sets := fun w h => List.mem_cons_of_mem _ (inTB7 w h)
  have k81 : Cond.fieldLink RX7 81 (TX7 24).1 (TX7 24).2.1 (TX7 24).2.2.1 ∈ tsX7_sets := List.mem_cons_of_mem _ fl_81
  have k17 : Cond.fieldLink RX7 17 (TX7 3).1 (TX7 3).2.1 (TX7 3).2.2.1 ∈ tsX7_sets := List.mem_cons_of_mem _ fl_17
  have k184 : Cond.fieldLink RX7 184 (TX7 5).1 (TX7 5).2.1 (TX7 5).2.2.1 ∈ tsX7_sets := List.mem_cons_of_mem _ fl_184
  refine lv_aload_n F.1 F.2.1 dX7_sets_0 rfl (lv_at hl 0 rfl) ?_
  refine g_getI (ci := 7) (k := 24) F hH rfl (by decide) iX7 hm (by decide) rfl k81 dX7_sets_1 ?_
  have b_1 := mJ hv hm
  unfold mNum1 at b_1
  refine z_if_ne (tgt := 22) F dX7_sets_4 (by decide) (zr_t _) (fun c_2 => ?_) (fun c_2 => ?_)
  · exact g_vret F hr hlk hH hS hz ⟨rfl, rfl, rfl, rfl, rfl, hv, hT, fun hf => by first | exact absurd hf (by omega) | (rw [← hMM]; exact s1_mk (by omega) zva rfl), fun _ _ => rfl⟩ dX7_sets_22
  · refine lv_aload_n F.1 F.2.1 dX7_sets_7 rfl (lv_at hl 0 rfl) ?_
    obtain ⟨r_3a, r_3b⟩ : R mo 3 = some (gh 53 0) ∧ gAr g (gh 53 0) 9 640 := mR hv hm (q := (3, 640)) (by decide)
    refine g_getR (ci := 7) (k := 3) F hH rfl (by decide) iX7 hm (by decide) rfl (b := gh 53 0) r_3a k17 dX7_sets_8 ?_
    refine z_bipush F dX7_sets_11 (by decide) ?_
    refine lv_aload_n F.1 F.2.1 dX7_sets_13 rfl (lv_at hl 0 rfl) ?_
    refine g_getI (ci := 7) (k := 5) F hH rfl (by decide) iX7 hm (by decide) rfl k184 dX7_sets_14 ?_
    refine z_imul F dX7_sets_17 ?_
    refine lv_iload_n F.1 F.2.1 dX7_sets_18 rfl (lv_at hl 1 rfl) ?_
    refine z_iadd F dX7_sets_19 ?_
    refine lv_iload_n F.1 F.2.1 dX7_sets_20 rfl (lv_at hl 2 rfl) ?_
    have hx21 : 0 ≤ ((40 * ((I mo 5).toInt)) + wh) ∧ ((40 * ((I mo 5).toInt)) + wh) < ((640 : Nat) : Int) ∧ ((40 * ((I mo 5).toInt)) + wh) ≤ 2147483647 := ⟨by omega, by omega, by omega⟩
    refine g_iast F hH hS r_3b hx21.1 hx21.2.1 hx21.2.2 dX7_sets_21 (fun H locs hH hS => ?_)
    obtain ⟨AI_4, eAI_4⟩ : ∃ qQ, qQ = gup2 AI (gh 53 0) (((40 * ((I mo 5).toInt)) + wh)).toNat (iI (va)) := ⟨_, rfl⟩
    rw [← eAI_4] at hH
    have kAI_4 : ∀ b, b ≠ (gh 53 0) → AI_4 b = AI b := fun b hb => by rw [eAI_4]; exact funext fun j => gup2_a _ _ hb
    have t_5 : AI_4 (gh 50 0) = AI (gh 50 0) := mK hv hm (p := (0, 640)) (q := (3, 640)) (by decide) (by decide) (by decide) kAI_4
    have hv : mInv g gh R I AI_4 := mInv_read hv hm eAI_4 (by omega)
    have hT : AI_4 (gh 50 0) = T := t_5.trans hT
    exact g_vret F hr hlk hH hS hz ⟨rfl, rfl, rfl, rfl, rfl, hv, hT, fun hf => by first | exact absurd hf (by omega) | (rw [← hMM]; exact s1_mk (by omega) zva eAI_4), fun b hb => kAI_4 b hb⟩ dX7_sets_22

def rmX7_setsPartg : Room := { frames := 0, cells := 0, slots := 0, locals := 0 }
set_option maxHeartbeats 4000000 in
set_option maxRecDepth 100000 in
/-- a part of the row -/
theorem c_X7_setsPartg (l : Launch) (g : gG) (gh : gGh) (T : Nat → Int32) (M : Int) (I : gI) (R : gR) (J : gJ) (AI : gI) (AJ : gJ) (AR : gR) (mo : Nat) (kp : Int) (a1 : Int) (b1 : Int) (c1 : Int) (d1 : Int) (zkp : zr kp) (za1 : zr a1) (zb1 : zr b1) (zc1 : zr c1) (zd1 : zr d1) (hv : mInv g gh R I AI) (hm : gO g mo 7) (hT : AI (gh 50 0) = T) (hM : (I mo 24).toInt = 0 → (I mo 5).toInt ≤ 15) (hMM : (I mo 5).toInt = M) (hkp : (I mo 24).toInt = 0 → 0 ≤ kp ∧ kp ≤ 7) : gMet l g yX7_setsPart tsX7_setsPart rmX7_setsPartg [.ref mo, .int (iI kp), .int (iI a1), .int (iI b1), .int (iI c1), .int (iI d1)] (I, R, J, AI, AJ, AR) (gQv g (fun w : gS => I = w.1 ∧ R = w.2.1 ∧ J = w.2.2.1 ∧ AJ = w.2.2.2.2.1 ∧ AR = w.2.2.2.2.2 ∧ (mInv g gh R I (w.2.2.2.1)) ∧ ((w.2.2.2.1) (gh 50 0) = T) ∧ ((I mo 24).toInt = 0 → sP (AI (gh 53 0)) ((w.2.2.2.1) (gh 53 0)) M kp a1 b1 c1 d1) ∧ (∀ b, b ≠ gh 53 0 → (w.2.2.2.1) b = AI b))) := by
  refine gStart (cc := cX7_setsPart) (maxL := 7) (ret := none) (by decide) rfl (Nat.le_of_ble_eq_true rfl) ?_
  intro p e s m below meth c ls F hr hlk hH hz hS hl
  have hl : lv_has ls 7 [(0, .ref mo), (1, .int (iI kp)), (2, .int (iI a1)), (3, .int (iI b1)), (4, .int (iI c1)), (5, .int (iI d1))] := hl
  have hS : va_S (gA g) s.heap s.heap [] := hS
  obtain ⟨H, hHe⟩ : ∃ H : Heap, H = s.heap := ⟨_, rfl⟩
  obtain ⟨locs, hlo⟩ : ∃ k : List Loc, k = [] := ⟨_, rfl⟩
  have hH : gH g I R J AI AJ AR H := by rw [hHe]; exact hH
  have hS : va_S (gA g) s.heap H locs := by rw [hHe, hlo]; exact hS
  suffices hw : W p l e rmX7_setsPartg s m ([.ref mo, .int (iI kp), .int (iI a1), .int (iI b1), .int (iI c1), .int (iI d1)] : List Value).toArray below meth c H locs 0 0 (MQ below (gQv g (fun w : gS => I = w.1 ∧ R = w.2.1 ∧ J = w.2.2.1 ∧ AJ = w.2.2.2.2.1 ∧ AR = w.2.2.2.2.2 ∧ (mInv g gh R I (w.2.2.2.1)) ∧ ((w.2.2.2.1) (gh 50 0) = T) ∧ ((I mo 24).toInt = 0 → sP (AI (gh 53 0)) ((w.2.2.2.1) (gh 53 0)) M kp a1 b1 c1 d1) ∧ (∀ b, b ≠ gh 53 0 → (w.2.2.2.1) b = AI b))) ([.ref mo, .int (iI kp), .int (iI a1), .int (iI b1), .int (iI c1), .int (iI d1)] : List Value).toArray s 0 0 (gA g)) (F0 m 0 ls []) by
    rw [hHe, hlo] at hw; exact hw
  clear hHe hlo
  have hb0 := mJ hv hm
  unfold mNum1 at hb0
  have iX7 : ∀ w ∈ u_ws RX7 TX7 32, w ∈ tsX7_setsPart := fun w h => List.mem_cons_of_mem _ (inTB7 w h)
  have k81 : Cond.fieldLink RX7 81 (TX7 24).1 (TX7 24).2.1 (TX7 24).2.2.1 ∈ tsX7_setsPart := List.mem_cons_of_mem _ fl_81
  have k184 : Cond.fieldLink RX7 184 (TX7 5).1 (TX7 5).2.1 (TX7 5).2.2.1 ∈ tsX7_setsPart := List.mem_cons_of_mem _ fl_184
  have k17 : Cond.fieldLink RX7 17 (TX7 3).1 (TX7 3).2.1 (TX7 3).2.2.1 ∈ tsX7_setsPart := List.mem_cons_of_mem _ fl_17
  refine lv_aload_n F.1 F.2.1 dX7_setsPart_0 rfl (lv_at hl 0 rfl) ?_
  refine g_getI (ci := 7) (k := 24) F hH rfl (by decide) iX7 hm (by decide) rfl k81 dX7_setsPart_1 ?_
  have b_1 := mJ hv hm
  unfold mNum1 at b_1
  refine z_if_le (tgt := 8) F dX7_setsPart_4 (by decide) (zr_t _) (fun c_2 => ?_) (fun c_2 => ?_)
  · refine z_bipush F dX7_setsPart_8 (by decide) ?_
    refine lv_aload_n F.1 F.2.1 dX7_setsPart_10 rfl (lv_at hl 0 rfl) ?_
    refine g_getI (ci := 7) (k := 5) F hH rfl (by decide) iX7 hm (by decide) rfl k184 dX7_setsPart_11 ?_
    refine z_imul F dX7_setsPart_14 ?_
    refine z_bipush F dX7_setsPart_15 (by decide) ?_
    refine z_iadd F dX7_setsPart_17 ?_
    refine z_iconst F dX7_setsPart_18 ?_
    refine lv_iload_n F.1 F.2.1 dX7_setsPart_19 rfl (lv_at hl 1 rfl) ?_
    refine z_imul F dX7_setsPart_20 ?_
    refine z_iadd F dX7_setsPart_21 ?_
    refine lv_istore (lv' := [(6, .int (iI (((40 * ((I mo 5).toInt)) + 6) + (4 * kp)))), (0, .ref mo), (1, .int (iI kp)), (2, .int (iI a1)), (3, .int (iI b1)), (4, .int (iI c1)), (5, .int (iI d1))]) F.1 F.2.1 dX7_setsPart_22 hl (by decide) rfl (fun ls hl => ?_)
    refine lv_aload_n F.1 F.2.1 dX7_setsPart_24 rfl (lv_at hl 1 rfl) ?_
    obtain ⟨r_3a, r_3b⟩ : R mo 3 = some (gh 53 0) ∧ gAr g (gh 53 0) 9 640 := mR hv hm (q := (3, 640)) (by decide)
    refine g_getR (ci := 7) (k := 3) F hH rfl (by decide) iX7 hm (by decide) rfl (b := gh 53 0) r_3a k17 dX7_setsPart_25 ?_
    refine lv_iload F.1 F.2.1 dX7_setsPart_28 (lv_at hl 0 rfl) ?_
    refine lv_iload_n F.1 F.2.1 dX7_setsPart_30 rfl (lv_at hl 3 rfl) ?_
    have hx31 : 0 ≤ (((40 * ((I mo 5).toInt)) + 6) + (4 * kp)) ∧ (((40 * ((I mo 5).toInt)) + 6) + (4 * kp)) < ((640 : Nat) : Int) ∧ (((40 * ((I mo 5).toInt)) + 6) + (4 * kp)) ≤ 2147483647 := ⟨by omega, by omega, by omega⟩
    refine g_iast F hH hS r_3b hx31.1 hx31.2.1 hx31.2.2 dX7_setsPart_31 (fun H locs hH hS => ?_)
    obtain ⟨AI_4, eAI_4⟩ : ∃ qQ, qQ = gup2 AI (gh 53 0) ((((40 * ((I mo 5).toInt)) + 6) + (4 * kp))).toNat (iI (a1)) := ⟨_, rfl⟩
    rw [← eAI_4] at hH
    have kAI_4 : ∀ b, b ≠ (gh 53 0) → AI_4 b = AI b := fun b hb => by rw [eAI_4]; exact funext fun j => gup2_a _ _ hb
    have t_5 : AI_4 (gh 50 0) = AI (gh 50 0) := mK hv hm (p := (0, 640)) (q := (3, 640)) (by decide) (by decide) (by decide) kAI_4
    have hv : mInv g gh R I AI_4 := mInv_read hv hm eAI_4 (by omega)
    have hT : AI_4 (gh 50 0) = T := t_5.trans hT
    refine lv_aload_n F.1 F.2.1 dX7_setsPart_32 rfl (lv_at hl 1 rfl) ?_
    refine g_getR (ci := 7) (k := 3) F hH rfl (by decide) iX7 hm (by decide) rfl (b := gh 53 0) r_3a k17 dX7_setsPart_33 ?_
    refine lv_iload F.1 F.2.1 dX7_setsPart_36 (lv_at hl 0 rfl) ?_
    refine z_iconst F dX7_setsPart_38 ?_
    refine z_iadd F dX7_setsPart_39 ?_
    refine lv_iload_n F.1 F.2.1 dX7_setsPart_40 rfl (lv_at hl 4 rfl) ?_
    have hx41 : 0 ≤ ((((40 * ((I mo 5).toInt)) + 6) + (4 * kp)) + 1) ∧ ((((40 * ((I mo 5).toInt)) + 6) + (4 * kp)) + 1) < ((640 : Nat) : Int) ∧ ((((40 * ((I mo 5).toInt)) + 6) + (4 * kp)) + 1) ≤ 2147483647 := ⟨by omega, by omega, by omega⟩
    refine g_iast F hH hS r_3b hx41.1 hx41.2.1 hx41.2.2 dX7_setsPart_41 (fun H locs hH hS => ?_)
    obtain ⟨AI_6, eAI_6⟩ : ∃ qQ, qQ = gup2 AI_4 (gh 53 0) (((((40 * ((I mo 5).toInt)) + 6) + (4 * kp)) + 1)).toNat (iI (b1)) := ⟨_, rfl⟩
    rw [← eAI_6] at hH
    have kAI_6 : ∀ b, b ≠ (gh 53 0) → AI_6 b = AI_4 b := fun b hb => by rw [eAI_6]; exact funext fun j => gup2_a _ _ hb
    have t_7 : AI_6 (gh 50 0) = AI_4 (gh 50 0) := mK hv hm (p := (0, 640)) (q := (3, 640)) (by decide) (by decide) (by decide) kAI_6
    have hv : mInv g gh R I AI_6 := mInv_read hv hm eAI_6 (by omega)
    have hT : AI_6 (gh 50 0) = T := t_7.trans hT
    refine lv_aload_n F.1 F.2.1 dX7_setsPart_42 rfl (lv_at hl 1 rfl) ?_
    refine g_getR (ci := 7) (k := 3) F hH rfl (by decide) iX7 hm (by decide) rfl (b := gh 53 0) r_3a k17 dX7_setsPart_43 ?_
    refine lv_iload F.1 F.2.1 dX7_setsPart_46 (lv_at hl 0 rfl) ?_
    refine z_iconst F dX7_setsPart_48 ?_
    refine z_iadd F dX7_setsPart_49 ?_
    refine lv_iload F.1 F.2.1 dX7_setsPart_50 (lv_at hl 5 rfl) ?_
    have hx52 : 0 ≤ ((((40 * ((I mo 5).toInt)) + 6) + (4 * kp)) + 2) ∧ ((((40 * ((I mo 5).toInt)) + 6) + (4 * kp)) + 2) < ((640 : Nat) : Int) ∧ ((((40 * ((I mo 5).toInt)) + 6) + (4 * kp)) + 2) ≤ 2147483647 := ⟨by omega, by omega, by omega⟩
    refine g_iast F hH hS r_3b hx52.1 hx52.2.1 hx52.2.2 dX7_setsPart_52 (fun H locs hH hS => ?_)
    obtain ⟨AI_8, eAI_8⟩ : ∃ qQ, qQ = gup2 AI_6 (gh 53 0) (((((40 * ((I mo 5).toInt)) + 6) + (4 * kp)) + 2)).toNat (iI (c1)) := ⟨_, rfl⟩
    rw [← eAI_8] at hH
    have kAI_8 : ∀ b, b ≠ (gh 53 0) → AI_8 b = AI_6 b := fun b hb => by rw [eAI_8]; exact funext fun j => gup2_a _ _ hb
    have t_9 : AI_8 (gh 50 0) = AI_6 (gh 50 0) := mK hv hm (p := (0, 640)) (q := (3, 640)) (by decide) (by decide) (by decide) kAI_8
    have hv : mInv g gh R I AI_8 := mInv_read hv hm eAI_8 (by omega)
    have hT : AI_8 (gh 50 0) = T := t_9.trans hT
    refine lv_aload_n F.1 F.2.1 dX7_setsPart_53 rfl (lv_at hl 1 rfl) ?_
    refine g_getR (ci := 7) (k := 3) F hH rfl (by decide) iX7 hm (by decide) rfl (b := gh 53 0) r_3a k17 dX7_setsPart_54 ?_
    refine lv_iload F.1 F.2.1 dX7_setsPart_57 (lv_at hl 0 rfl) ?_
    refine z_iconst F dX7_setsPart_59 ?_
    refine z_iadd F dX7_setsPart_60 ?_
    refine lv_iload F.1 F.2.1 dX7_setsPart_61 (lv_at hl 6 rfl) ?_
    have hx63 : 0 ≤ ((((40 * ((I mo 5).toInt)) + 6) + (4 * kp)) + 3) ∧ ((((40 * ((I mo 5).toInt)) + 6) + (4 * kp)) + 3) < ((640 : Nat) : Int) ∧ ((((40 * ((I mo 5).toInt)) + 6) + (4 * kp)) + 3) ≤ 2147483647 := ⟨by omega, by omega, by omega⟩
    refine g_iast F hH hS r_3b hx63.1 hx63.2.1 hx63.2.2 dX7_setsPart_63 (fun H locs hH hS => ?_)
    obtain ⟨AI_10, eAI_10⟩ : ∃ qQ, qQ = gup2 AI_8 (gh 53 0) (((((40 * ((I mo 5).toInt)) + 6) + (4 * kp)) + 3)).toNat (iI (d1)) := ⟨_, rfl⟩
    rw [← eAI_10] at hH
    have kAI_10 : ∀ b, b ≠ (gh 53 0) → AI_10 b = AI_8 b := fun b hb => by rw [eAI_10]; exact funext fun j => gup2_a _ _ hb
    have t_11 : AI_10 (gh 50 0) = AI_8 (gh 50 0) := mK hv hm (p := (0, 640)) (q := (3, 640)) (by decide) (by decide) (by decide) kAI_10
    have hv : mInv g gh R I AI_10 := mInv_read hv hm eAI_10 (by omega)
    have hT : AI_10 (gh 50 0) = T := t_11.trans hT
    exact g_vret F hr hlk hH hS hz ⟨rfl, rfl, rfl, rfl, rfl, hv, hT, fun hf => by first | exact absurd hf (by omega) | exact sP_mk (by omega) (by omega) za1 zb1 zc1 zd1 (by omega) eAI_4 eAI_6 eAI_8 eAI_10, fun b hb => (((kAI_10 b hb).trans (kAI_8 b hb)).trans (kAI_6 b hb)).trans (kAI_4 b hb)⟩ dX7_setsPart_64
  · exact g_vret F hr hlk hH hS hz ⟨rfl, rfl, rfl, rfl, rfl, hv, hT, fun hf => by first | exact absurd hf (by omega) | exact sP_mk (by omega) (by omega) za1 zb1 zc1 zd1 (by omega) rfl rfl rfl rfl, fun _ _ => rfl⟩ dX7_setsPart_7

def rmX7_headerg : Room := { frames := 1, cells := 0, slots := 0, locals := 22 }
set_option maxHeartbeats 4000000 in
set_option maxRecDepth 100000 in
/-- the header of the row -/
theorem c_X7_headerg (l : Launch) (g : gG) (gh : gGh) (T : Nat → Int32) (M : Int) (I : gI) (R : gR) (J : gJ) (AI : gI) (AJ : gJ) (AR : gR) (mo : Nat) (kd : Int) (cl : Int) (on : Int) (ot : Int) (ps : Int) (zkd : zr kd) (zcl : zr cl) (zon : zr on) (zot : zr ot) (zps : zr ps) (hv : mInv g gh R I AI) (hm : gO g mo 7) (hT : AI (gh 50 0) = T) (hM : (I mo 24).toInt = 0 → (I mo 5).toInt ≤ 15) (hMM : (I mo 5).toInt = M) : gMet l g yX7_header tsX7_header rmX7_headerg [.ref mo, .int (iI kd), .int (iI cl), .int (iI on), .int (iI ot), .int (iI ps)] (I, R, J, AI, AJ, AR) (gQv g (fun w : gS => I = w.1 ∧ R = w.2.1 ∧ J = w.2.2.1 ∧ AJ = w.2.2.2.2.1 ∧ AR = w.2.2.2.2.2 ∧ (mInv g gh R I (w.2.2.2.1)) ∧ ((w.2.2.2.1) (gh 50 0) = T) ∧ ((I mo 24).toInt = 0 → hP (AI (gh 53 0)) ((w.2.2.2.1) (gh 53 0)) M kd cl on ot ps) ∧ (∀ b, b ≠ gh 53 0 → (w.2.2.2.1) b = AI b))) := by
  refine gStart (cc := cX7_header) (maxL := 6) (ret := none) (by decide) rfl (Nat.le_of_ble_eq_true rfl) ?_
  intro p e s m below meth c ls F hr hlk hH hz hS hl
  have hl : lv_has ls 6 [(0, .ref mo), (1, .int (iI kd)), (2, .int (iI cl)), (3, .int (iI on)), (4, .int (iI ot)), (5, .int (iI ps))] := hl
  have hS : va_S (gA g) s.heap s.heap [] := hS
  obtain ⟨H, hHe⟩ : ∃ H : Heap, H = s.heap := ⟨_, rfl⟩
  obtain ⟨locs, hlo⟩ : ∃ k : List Loc, k = [] := ⟨_, rfl⟩
  have hH : gH g I R J AI AJ AR H := by rw [hHe]; exact hH
  have hS : va_S (gA g) s.heap H locs := by rw [hHe, hlo]; exact hS
  suffices hw : W p l e rmX7_headerg s m ([.ref mo, .int (iI kd), .int (iI cl), .int (iI on), .int (iI ot), .int (iI ps)] : List Value).toArray below meth c H locs 0 0 (MQ below (gQv g (fun w : gS => I = w.1 ∧ R = w.2.1 ∧ J = w.2.2.1 ∧ AJ = w.2.2.2.2.1 ∧ AR = w.2.2.2.2.2 ∧ (mInv g gh R I (w.2.2.2.1)) ∧ ((w.2.2.2.1) (gh 50 0) = T) ∧ ((I mo 24).toInt = 0 → hP (AI (gh 53 0)) ((w.2.2.2.1) (gh 53 0)) M kd cl on ot ps) ∧ (∀ b, b ≠ gh 53 0 → (w.2.2.2.1) b = AI b))) ([.ref mo, .int (iI kd), .int (iI cl), .int (iI on), .int (iI ot), .int (iI ps)] : List Value).toArray s 0 0 (gA g)) (F0 m 0 ls []) by
    rw [hHe, hlo] at hw; exact hw
  clear hHe hlo
  have hb0 := mJ hv hm
  unfold mNum1 at hb0
  refine lv_aload_n F.1 F.2.1 dX7_header_0 rfl (lv_at hl 0 rfl) ?_
  refine z_iconst F dX7_header_1 ?_
  refine lv_iload_n F.1 F.2.1 dX7_header_2 rfl (lv_at hl 1 rfl) ?_
  have b_1 := mJ hv hm
  unfold mNum1 at b_1
  refine g_callv (g_runV (As := [.int (iI 0), .int (iI kd)]) (rest := []) (ci := 7) F hl.1 hH hS hz (c_X7_setsg l g gh T M I R J AI AJ AR mo 0 kd ⟨by decide, by decide⟩ zkd hv hm hT (by omega) (by omega) (by omega)) (cwV 2 F.2.2.2.2.1 (good_up gT_X7_sets) rfl rfl rfl hdX7_sets ⟨Nat.le_of_ble_eq_true rfl, Nat.le_of_ble_eq_true rfl⟩) hm (by decide) rfl rfl rfl (Nat.le_of_ble_eq_true rfl) dX7_header_3 ⟨Nat.zero_le _, Nat.zero_le _⟩) hS (fun I_2 R_3 J_4 AI_5 AJ_6 AR_7 H locs hp_8 hH hS => ?_)
  dsimp only at hp_8
  obtain ⟨rfl, rfl, rfl, rfl, rfl, hv, hT, g1, q_9⟩ := hp_8
  refine lv_aload_n F.1 F.2.1 dX7_header_6 rfl (lv_at hl 0 rfl) ?_
  refine z_iconst F dX7_header_7 ?_
  refine lv_iload_n F.1 F.2.1 dX7_header_8 rfl (lv_at hl 2 rfl) ?_
  refine g_callv (g_runV (As := [.int (iI 1), .int (iI cl)]) (rest := []) (ci := 7) F hl.1 hH hS hz (c_X7_setsg l g gh T M I R J AI_5 AJ AR mo 1 cl ⟨by decide, by decide⟩ zcl hv hm hT (by omega) (by omega) (by omega)) (cwV 2 F.2.2.2.2.1 (good_up gT_X7_sets) rfl rfl rfl hdX7_sets ⟨Nat.le_of_ble_eq_true rfl, Nat.le_of_ble_eq_true rfl⟩) hm (by decide) rfl rfl rfl (Nat.le_of_ble_eq_true rfl) dX7_header_9 ⟨Nat.zero_le _, Nat.zero_le _⟩) hS (fun I_10 R_11 J_12 AI_13 AJ_14 AR_15 H locs hp_16 hH hS => ?_)
  dsimp only at hp_16
  obtain ⟨rfl, rfl, rfl, rfl, rfl, hv, hT, g2, q_17⟩ := hp_16
  refine lv_aload_n F.1 F.2.1 dX7_header_12 rfl (lv_at hl 0 rfl) ?_
  refine z_iconst F dX7_header_13 ?_
  refine lv_iload_n F.1 F.2.1 dX7_header_14 rfl (lv_at hl 3 rfl) ?_
  refine g_callv (g_runV (As := [.int (iI 2), .int (iI on)]) (rest := []) (ci := 7) F hl.1 hH hS hz (c_X7_setsg l g gh T M I R J AI_13 AJ AR mo 2 on ⟨by decide, by decide⟩ zon hv hm hT (by omega) (by omega) (by omega)) (cwV 2 F.2.2.2.2.1 (good_up gT_X7_sets) rfl rfl rfl hdX7_sets ⟨Nat.le_of_ble_eq_true rfl, Nat.le_of_ble_eq_true rfl⟩) hm (by decide) rfl rfl rfl (Nat.le_of_ble_eq_true rfl) dX7_header_15 ⟨Nat.zero_le _, Nat.zero_le _⟩) hS (fun I_18 R_19 J_20 AI_21 AJ_22 AR_23 H locs hp_24 hH hS => ?_)
  dsimp only at hp_24
  obtain ⟨rfl, rfl, rfl, rfl, rfl, hv, hT, g3, q_25⟩ := hp_24
  refine lv_aload_n F.1 F.2.1 dX7_header_18 rfl (lv_at hl 0 rfl) ?_
  refine z_iconst F dX7_header_19 ?_
  refine lv_iload F.1 F.2.1 dX7_header_20 (lv_at hl 4 rfl) ?_
  refine g_callv (g_runV (As := [.int (iI 3), .int (iI ot)]) (rest := []) (ci := 7) F hl.1 hH hS hz (c_X7_setsg l g gh T M I R J AI_21 AJ AR mo 3 ot ⟨by decide, by decide⟩ zot hv hm hT (by omega) (by omega) (by omega)) (cwV 2 F.2.2.2.2.1 (good_up gT_X7_sets) rfl rfl rfl hdX7_sets ⟨Nat.le_of_ble_eq_true rfl, Nat.le_of_ble_eq_true rfl⟩) hm (by decide) rfl rfl rfl (Nat.le_of_ble_eq_true rfl) dX7_header_22 ⟨Nat.zero_le _, Nat.zero_le _⟩) hS (fun I_26 R_27 J_28 AI_29 AJ_30 AR_31 H locs hp_32 hH hS => ?_)
  dsimp only at hp_32
  obtain ⟨rfl, rfl, rfl, rfl, rfl, hv, hT, g4, q_33⟩ := hp_32
  refine lv_aload_n F.1 F.2.1 dX7_header_25 rfl (lv_at hl 0 rfl) ?_
  refine z_iconst F dX7_header_26 ?_
  refine lv_iload F.1 F.2.1 dX7_header_27 (lv_at hl 5 rfl) ?_
  refine g_callv (g_runV (As := [.int (iI 4), .int (iI ps)]) (rest := []) (ci := 7) F hl.1 hH hS hz (c_X7_setsg l g gh T M I R J AI_29 AJ AR mo 4 ps ⟨by decide, by decide⟩ zps hv hm hT (by omega) (by omega) (by omega)) (cwV 2 F.2.2.2.2.1 (good_up gT_X7_sets) rfl rfl rfl hdX7_sets ⟨Nat.le_of_ble_eq_true rfl, Nat.le_of_ble_eq_true rfl⟩) hm (by decide) rfl rfl rfl (Nat.le_of_ble_eq_true rfl) dX7_header_29 ⟨Nat.zero_le _, Nat.zero_le _⟩) hS (fun I_34 R_35 J_36 AI_37 AJ_38 AR_39 H locs hp_40 hH hS => ?_)
  dsimp only at hp_40
  obtain ⟨rfl, rfl, rfl, rfl, rfl, hv, hT, g5, q_41⟩ := hp_40
  exact g_vret F hr hlk hH hS hz ⟨rfl, rfl, rfl, rfl, rfl, hv, hT, fun hf => hP_mk (by omega) (g1 hf) (g2 hf) (g3 hf) (g4 hf) (g5 hf), fun b hb => ((((q_41 b hb).trans (q_33 b hb)).trans (q_25 b hb)).trans (q_17 b hb)).trans (q_9 b hb)⟩ dX7_header_32
end
section
def rmX7_relationg : Room := { frames := 7, cells := 0, slots := 0, locals := 149 }
set_option maxHeartbeats 4000000 in
set_option maxRecDepth 100000 in
/-- a relation -/
theorem c_X7_relationg (l : Launch) (g : gG) (gh : gGh) (T : Nat → Int32) (b : tTx) (nn nr : Nat) (nt : Nat → Nat) (cc : Nat → Int) (f : Int) (h : Nat) (I : gI) (R : gR) (J : gJ) (AI : gI) (AJ : gJ) (AR : gR) (mo : Nat) (hv : mInv g gh R I AI) (hm : gO g mo 7) (hT : AI (gh 50 0) = T) (hE : (I mo 20).toInt ≤ 936) (h65 : gh 9 (gh 65 0) ≠ 5) (hbM : ∀ k : Nat, k < nn → ((gM g).2 (gh 65 0) k).toInt = b k % 256) (hr7 : ∀ k : Nat, -128 ≤ b k ∧ b k ≤ 127) (hsz : (I mo 18).toInt = (nn : Int)) (hn9 : nn ≤ 900) (hm5 : (I mo 5).toInt = (nr : Int)) (hQ : mQ gh I J AI AJ mo b nn nr nt cc f h) : gMet l g yX7_relation tsX7_relation rmX7_relationg [.ref mo] (I, R, J, AI, AJ, AR) (gQi g (fun (z : Int) (w : gS) => R = w.2.1 ∧ AI = w.2.2.2.1 ∧ AJ = w.2.2.2.2.1 ∧ AR = w.2.2.2.2.2 ∧ (mInv g gh R (w.1) AI) ∧ (qF mo I (w.1)) ∧ (((w.1) mo 20).toInt ≤ 936 ∧ (I mo 24).toInt ≤ ((w.1) mo 24).toInt) ∧ (0 ≤ z ∧ z ≤ 15 ∧ (((w.1) mo 24).toInt = 0 → z < (I mo 5).toInt)) ∧ (mQ gh (w.1) (w.2.2.1) AI AJ mo b nn nr nt cc (thn (f, h, 0) (fun t _ => sRl b nn nr nt cc t)).1 (thn (f, h, 0) (fun t _ => sRl b nn nr nt cc t)).2.1) ∧ (pRv z nr cc (thn (f, h, 0) (fun t _ => sRl b nn nr nt cc t))) ∧ (pIm (thn (f, h, 0) (fun t _ => sRl b nn nr nt cc t)).1 z (pFd b nn nt nr h)) ∧ (∀ b, b ≠ mo → (w.2.2.1) b = J b))) := by
  refine gStart (cc := cX7_relation) (maxL := 2) (ret := (some (.int))) (by decide) rfl (Nat.le_of_ble_eq_true rfl) ?_
  intro p e s m below meth c ls F hr hlk hH hz hS hl
  have hl : lv_has ls 2 [(0, .ref mo)] := hl
  have hS : va_S (gA g) s.heap s.heap [] := hS
  obtain ⟨H, hHe⟩ : ∃ H : Heap, H = s.heap := ⟨_, rfl⟩
  obtain ⟨locs, hlo⟩ : ∃ k : List Loc, k = [] := ⟨_, rfl⟩
  have hH : gH g I R J AI AJ AR H := by rw [hHe]; exact hH
  have hS : va_S (gA g) s.heap H locs := by rw [hHe, hlo]; exact hS
  suffices hw : W p l e rmX7_relationg s m ([.ref mo] : List Value).toArray below meth c H locs 0 0 (MQ below (gQi g (fun (z : Int) (w : gS) => R = w.2.1 ∧ AI = w.2.2.2.1 ∧ AJ = w.2.2.2.2.1 ∧ AR = w.2.2.2.2.2 ∧ (mInv g gh R (w.1) AI) ∧ (qF mo I (w.1)) ∧ (((w.1) mo 20).toInt ≤ 936 ∧ (I mo 24).toInt ≤ ((w.1) mo 24).toInt) ∧ (0 ≤ z ∧ z ≤ 15 ∧ (((w.1) mo 24).toInt = 0 → z < (I mo 5).toInt)) ∧ (mQ gh (w.1) (w.2.2.1) AI AJ mo b nn nr nt cc (thn (f, h, 0) (fun t _ => sRl b nn nr nt cc t)).1 (thn (f, h, 0) (fun t _ => sRl b nn nr nt cc t)).2.1) ∧ (pRv z nr cc (thn (f, h, 0) (fun t _ => sRl b nn nr nt cc t))) ∧ (pIm (thn (f, h, 0) (fun t _ => sRl b nn nr nt cc t)).1 z (pFd b nn nt nr h)) ∧ (∀ b, b ≠ mo → (w.2.2.1) b = J b))) ([.ref mo] : List Value).toArray s 0 0 (gA g)) (F0 m 0 ls []) by
    rw [hHe, hlo] at hw; exact hw
  clear hHe hlo
  have pf : qF mo I I := qF_r
  have hb0 := mJ hv hm
  unfold mNum1 at hb0
  have fJm : ∀ b, b ≠ mo → J b = J b := fun _ _ => rfl
  have iX7 : ∀ w ∈ u_ws RX7 TX7 32, w ∈ tsX7_relation := fun w h => List.mem_cons_of_mem _ (inTB7 w h)
  have k81 : Cond.fieldLink RX7 81 (TX7 24).1 (TX7 24).2.1 (TX7 24).2.2.1 ∈ tsX7_relation := List.mem_cons_of_mem _ fl_81
  have k94 : Cond.fieldLink RX7 94 (TX7 21).1 (TX7 21).2.1 (TX7 21).2.2.1 ∈ tsX7_relation := List.mem_cons_of_mem _ fl_94
  have k111 : Cond.fieldLink RX7 111 (TX7 22).1 (TX7 22).2.1 (TX7 22).2.2.1 ∈ tsX7_relation := List.mem_cons_of_mem _ fl_111
  have hf0 := mQ_p hQ
  by_cases q0 : f = 0
  · have hQ := mQ_ok hQ q0
    have hz0 := mQ_0 hQ rfl
    refine lv_aload_n F.1 F.2.1 dX7_relation_0 rfl (lv_at hl 0 rfl) ?_
    refine g_getI (ci := 7) (k := 24) F hH rfl (by decide) iX7 hm (by decide) rfl k81 dX7_relation_1 ?_
    have b_1 := mJ hv hm
    unfold mNum1 at b_1
    refine z_if_ne (tgt := 27) F dX7_relation_4 (by decide) (zr_t _) (fun c_2 => ?_) (fun c_2 => ?_)
    · exact absurd (mQ_0 hQ rfl) (by omega)
    · refine lv_aload_n F.1 F.2.1 dX7_relation_7 rfl (lv_at hl 0 rfl) ?_
      refine g_getI (ci := 7) (k := 21) F hH rfl (by decide) iX7 hm (by decide) rfl k94 dX7_relation_8 ?_
      refine z_iconst F dX7_relation_11 ?_
      refine z_icmp_ne (tgt := 22) F dX7_relation_12 (by decide) (zr_t _) ⟨by decide, by decide⟩ (fun c_3 => ?_) (fun c_3 => ?_)
      · have t_4 : pK b nn h ≠ 3 := mQ_kn hQ rfl (c := 2) rfl (by omega)
        refine lv_aload_n F.1 F.2.1 dX7_relation_22 rfl (lv_at hl 0 rfl) ?_
        refine z_iconst F dX7_relation_23 ?_
        refine g_callv (g_runV (As := [.int (iI 1)]) (rest := []) (ci := 7) F hl.1 hH hS hz (c_X7_wrongf l g gh T b nn nr nt cc 0 h I R J AI AJ AR mo 1 ⟨by decide, by decide⟩ hv hm hT (by omega) h65 hbM hr7 (by omega) hn9 (by omega) hQ) (cwV 1 F.2.2.2.2.1 (good_up gT_X7_wrong) rfl rfl rfl hdX7_wrong ⟨Nat.le_of_ble_eq_true rfl, Nat.le_of_ble_eq_true rfl⟩) hm (by decide) rfl rfl rfl (Nat.le_of_ble_eq_true rfl) dX7_relation_24 ⟨Nat.zero_le _, Nat.zero_le _⟩) hS (fun I_5 R_6 J_7 AI_8 AJ_9 AR_10 H locs hp_11 hH hS => ?_)
        dsimp only at hp_11
        obtain ⟨r_12, er_12⟩ : ∃ qQ : pR, qQ = thn (0, h, 0) (fun t _ => (1, t, 0)) := ⟨_, rfl⟩
        rw [← er_12] at hp_11
        obtain ⟨rfl, rfl, rfl, rfl, rfl, hv, pfq, q_13, hQ⟩ := hp_11
        have pf := qF_t pf pfq
        have u_14_2 : (I_5 mo 2).toInt = (I mo 2).toInt := by rw [pf 2 (by decide) (by decide) (by decide) (by decide) (by decide)]
        have u_14_5 : (I_5 mo 5).toInt = (I mo 5).toInt := by rw [pf 5 (by decide) (by decide) (by decide) (by decide) (by decide)]
        have u_14_14 : (I_5 mo 14).toInt = (I mo 14).toInt := by rw [pf 14 (by decide) (by decide) (by decide) (by decide) (by decide)]
        have u_14_16 : (I_5 mo 16).toInt = (I mo 16).toInt := by rw [pf 16 (by decide) (by decide) (by decide) (by decide) (by decide)]
        have u_14_18 : (I_5 mo 18).toInt = (I mo 18).toInt := by rw [pf 18 (by decide) (by decide) (by decide) (by decide) (by decide)]
        have er_12 : r_12 = (1, h, 0) := er_12
        have hQ : mQ gh I_5 J AI AJ mo b nn nr nt cc 1 h := by rw [er_12] at hQ; exact hQ
        have q9_r_12 : (1 : Int) ≠ 0 := by omega
        have g9_r_12 := mQ_f hQ q9_r_12
        refine lv_aload_n F.1 F.2.1 dX7_relation_27 rfl (lv_at hl 0 rfl) ?_
        refine g_getI (ci := 7) (k := 24) F hH rfl (by decide) iX7 hm (by decide) rfl k81 dX7_relation_28 ?_
        have b_15 := mJ hv hm
        unfold mNum1 at b_15
        refine z_if_le (tgt := 38) F dX7_relation_31 (by decide) (zr_t _) (fun c_16 => ?_) (fun c_16 => ?_)
        · exact absurd (mQ_z hQ (by omega)) (by omega)
        · refine z_iconst F dX7_relation_34 ?_
          refine z_goto (tgt := 46) F dX7_relation_35 (by decide) ?_
          refine lv_istore_n (lv' := [(1, .int (iI ((-1)))), (0, .ref mo)]) F.1 F.2.1 dX7_relation_46 rfl hl (by decide) rfl (fun ls hl => ?_)
          refine lv_iload_n F.1 F.2.1 dX7_relation_47 rfl (lv_at hl 0 rfl) ?_
          refine z_if_ge (tgt := 56) F dX7_relation_48 (by decide) ⟨by decide, by decide⟩ (fun c_17 => ?_) (fun c_17 => ?_)
          · exact absurd trivial (by omega)
          · refine lv_aload_n F.1 F.2.1 dX7_relation_51 rfl (lv_at hl 1 rfl) ?_
            refine z_iconst F dX7_relation_52 ?_
            refine g_callv (g_runV (As := [.int (iI 3)]) (rest := []) (ci := 7) F hl.1 hH hS hz (c_X7_wrongf l g gh T b nn nr nt cc 1 h I_5 R J AI AJ AR mo 3 ⟨by decide, by decide⟩ hv hm hT (by omega) h65 hbM hr7 (by omega) hn9 (by omega) hQ) (cwV 1 F.2.2.2.2.1 (good_up gT_X7_wrong) rfl rfl rfl hdX7_wrong ⟨Nat.le_of_ble_eq_true rfl, Nat.le_of_ble_eq_true rfl⟩) hm (by decide) rfl rfl rfl (Nat.le_of_ble_eq_true rfl) dX7_relation_53 ⟨Nat.zero_le _, Nat.zero_le _⟩) hS (fun I_18 R_19 J_20 AI_21 AJ_22 AR_23 H locs hp_24 hH hS => ?_)
            dsimp only at hp_24
            obtain ⟨r_25, er_25⟩ : ∃ qQ : pR, qQ = thn (1, h, 0) (fun t _ => (3, t, 0)) := ⟨_, rfl⟩
            rw [← er_25] at hp_24
            obtain ⟨rfl, rfl, rfl, rfl, rfl, hv, pfq, q_26, hQ⟩ := hp_24
            have pf := qF_t pf pfq
            have u_27_2 : (I_18 mo 2).toInt = (I mo 2).toInt := by rw [pf 2 (by decide) (by decide) (by decide) (by decide) (by decide)]
            have u_27_5 : (I_18 mo 5).toInt = (I mo 5).toInt := by rw [pf 5 (by decide) (by decide) (by decide) (by decide) (by decide)]
            have u_27_14 : (I_18 mo 14).toInt = (I mo 14).toInt := by rw [pf 14 (by decide) (by decide) (by decide) (by decide) (by decide)]
            have u_27_16 : (I_18 mo 16).toInt = (I mo 16).toInt := by rw [pf 16 (by decide) (by decide) (by decide) (by decide) (by decide)]
            have u_27_18 : (I_18 mo 18).toInt = (I mo 18).toInt := by rw [pf 18 (by decide) (by decide) (by decide) (by decide) (by decide)]
            rw [thn_b (by omega)] at er_25
            have hQ : mQ gh I_18 J AI AJ mo b nn nr nt cc 1 h := by rw [er_25] at hQ; exact hQ
            refine lv_aload_n F.1 F.2.1 dX7_relation_56 rfl (lv_at hl 1 rfl) ?_
            have b_28 := mJ hv hm
            unfold mNum1 at b_28
            refine g_callv (g_runV (As := []) (rest := []) (ci := 7) F hl.1 hH hS hz (c_X7_nextf l g gh T b nn (tNd b nn (tPs b nn h)) I_18 R J AI AJ AR mo hv hm hT (by omega) (mTp hv h65 hbM) hr7 (by omega) (by omega) (mQ_e0 hQ) tNd_le.1) (cwV 0 F.2.2.2.2.1 (good_up gT_X7_next) rfl rfl rfl hdX7_next ⟨Nat.le_of_ble_eq_true rfl, Nat.le_of_ble_eq_true rfl⟩) hm (by decide) rfl rfl rfl (Nat.le_of_ble_eq_true rfl) dX7_relation_57 ⟨Nat.zero_le _, Nat.zero_le _⟩) hS (fun I_29 R_30 J_31 AI_32 AJ_33 AR_34 H locs hp_35 hH hS => ?_)
            dsimp only at hp_35
            obtain ⟨rfl, rfl, rfl, rfl, hv, pfq, q_36, nx4, nxa, nxb, fjq⟩ := hp_35
            have pf := qF_t pf pfq
            have u_37_2 : (I_29 mo 2).toInt = (I mo 2).toInt := by rw [pf 2 (by decide) (by decide) (by decide) (by decide) (by decide)]
            have u_37_5 : (I_29 mo 5).toInt = (I mo 5).toInt := by rw [pf 5 (by decide) (by decide) (by decide) (by decide) (by decide)]
            have u_37_14 : (I_29 mo 14).toInt = (I mo 14).toInt := by rw [pf 14 (by decide) (by decide) (by decide) (by decide) (by decide)]
            have u_37_16 : (I_29 mo 16).toInt = (I mo 16).toInt := by rw [pf 16 (by decide) (by decide) (by decide) (by decide) (by decide)]
            have u_37_18 : (I_29 mo 18).toInt = (I mo 18).toInt := by rw [pf 18 (by decide) (by decide) (by decide) (by decide) (by decide)]
            have hQ : mQ gh I_29 J_31 AI AJ mo b nn nr nt cc 1 h := by have q9 := mQ_nx hQ nx4 nxa; rw [thn_b (by omega)] at q9; exact q9
            clear nxa nxb
            have fJm : ∀ b, b ≠ mo → J_31 b = J b := fun b hb => (fjq b hb).trans (fJm b hb)
            refine lv_iload_n F.1 F.2.1 dX7_relation_60 rfl (lv_at hl 0 rfl) ?_
            refine z_if_ge (tgt := 68) F dX7_relation_61 (by decide) ⟨by decide, by decide⟩ (fun c_38 => ?_) (fun c_38 => ?_)
            · exact absurd trivial (by omega)
            · refine z_iconst F dX7_relation_64 ?_
              refine z_goto (tgt := 69) F dX7_relation_65 (by decide) ?_
              have hfin : thn (f, h, 0) (fun t _ => sRl b nn nr nt cc t) = (1, h, 0) := by
                refine (thn_k q0).trans ?_
                show sRl b nn nr nt cc h = _
                unfold sRl
                repeat (first | with_reducible rfl | refine ite_y (by omega) ?_ | refine ite_n (by omega) ?_ | refine ite_y (pRf_0 (by omega) (by omega)) ?_ | refine ite_n (fun e9 => absurd (pRf_i e9) (by omega)) ?_ | exact pr_e (pRf_1 (by omega)) (by omega) (by omega) | exact pr_e (pRf_3 (by omega) (by omega)) (by omega) (by omega) | exact pr_e (by omega) (by omega) (by omega) | refine ite_y (pCf_ok (by omega) (by omega)) ?_ | refine ite_n (fun e9 => absurd (pCf_0 e9) (by omega)) ?_ | exact pr_e (pCf_no (by omega)) (by omega) (by omega) | exact pr_e (pCf_big (by omega) (by omega)) (by omega) (by omega))
              exact g_iret F hr hlk hH hS hz ⟨by decide, by decide⟩ ⟨rfl, rfl, rfl, rfl, hv, pf, by first | omega | rfl | (dsimp only; omega), by first | omega | rfl | (dsimp only; omega), by (try dsimp only); rw [hfin]; exact hQ, by (try dsimp only); rw [hfin]; first | exact pRv_n (by omega) | exact pRv_y (by omega) (by omega) (by unfold cF; rw [← hfd]), by (try dsimp only); rw [hfin]; exact pIm_n (by omega), fJm⟩ dX7_relation_69
      · have t_39 := tkM_2 ((mQ_k hQ rfl).symm.trans (by omega))
        have t_39r := pV_r t_39
        refine lv_aload_n F.1 F.2.1 dX7_relation_15 rfl (lv_at hl 0 rfl) ?_
        refine g_calli (g_runV (As := []) (rest := []) (ci := 7) F hl.1 hH hS hz (c_X7_isReservedf l g gh T b nn nr nt cc 0 h I R J AI AJ AR mo hv hm hT h65 hbM hr7 (by omega) hn9 (by omega) hQ) (cwV 0 F.2.2.2.2.1 (good_up gT_X7_isReserved) rfl rfl rfl hdX7_isReserved ⟨Nat.le_of_ble_eq_true rfl, Nat.le_of_ble_eq_true rfl⟩) hm (by decide) rfl rfl rfl (Nat.le_of_ble_eq_true rfl) dX7_relation_16 ⟨Nat.zero_le _, Nat.zero_le _⟩) hS (fun v_46 I_40 R_41 J_42 AI_43 AJ_44 AR_45 H locs zv_46 hp_47 hH hS => ?_)
        dsimp only at hp_47
        obtain ⟨rfl, rfl, rfl, rfl, rfl, rfl, q_48, q_49⟩ := hp_47
        refine z_if_eq (tgt := 27) F dX7_relation_19 (by decide) zv_46 (fun c_50 => ?_) (fun c_50 => ?_)
        · have t_51 := tIz_0 q_49 (by omega)
          refine lv_aload_n F.1 F.2.1 dX7_relation_27 rfl (lv_at hl 0 rfl) ?_
          refine g_getI (ci := 7) (k := 24) F hH rfl (by decide) iX7 hm (by decide) rfl k81 dX7_relation_28 ?_
          refine z_if_le (tgt := 38) F dX7_relation_31 (by decide) (zr_t _) (fun c_52 => ?_) (fun c_52 => ?_)
          · refine lv_aload_n F.1 F.2.1 dX7_relation_38 rfl (lv_at hl 0 rfl) ?_
            refine lv_aload_n F.1 F.2.1 dX7_relation_39 rfl (lv_at hl 0 rfl) ?_
            refine g_getJ (ci := 7) (k := 22) F hH rfl (by decide) iX7 hm (by decide) rfl k111 dX7_relation_40 ?_
            refine lv_topl (fun j_53 ej_53 => ?_)
            have ew40 := ej_53
            refine g_calli (g_runV (As := [.long j_53]) (rest := []) (ci := 7) F hl.1 hH hS hz (c_X7_named l g gh T I R J AI AJ AR mo j_53 hv hm hT) (cwV 1 F.2.2.2.2.1 (good_up gT_X7_named) rfl rfl rfl hdX7_named ⟨Nat.le_of_ble_eq_true rfl, Nat.le_of_ble_eq_true rfl⟩) hm (by decide) rfl rfl rfl (Nat.le_of_ble_eq_true rfl) dX7_relation_43 ⟨Nat.zero_le _, Nat.zero_le _⟩) hS (fun v_60 I_54 R_55 J_56 AI_57 AJ_58 AR_59 H locs zv_60 hp_61 hH hS => ?_)
            dsimp only at hp_61
            obtain ⟨rfl, rfl, rfl, rfl, rfl, rfl, nma, nmb⟩ := hp_61
            have hfd : v_60 = pFd b nn nt nr h := mQ_fd hQ rfl (by omega) (by omega) ew40 nma nmb
            refine lv_istore_n (lv' := [(1, .int (iI v_60)), (0, .ref mo)]) F.1 F.2.1 dX7_relation_46 rfl hl (by decide) rfl (fun ls hl => ?_)
            refine lv_iload_n F.1 F.2.1 dX7_relation_47 rfl (lv_at hl 0 rfl) ?_
            refine z_if_ge (tgt := 56) F dX7_relation_48 (by decide) zv_60 (fun c_62 => ?_) (fun c_62 => ?_)
            · refine lv_aload_n F.1 F.2.1 dX7_relation_56 rfl (lv_at hl 1 rfl) ?_
              refine g_callv (g_runV (As := []) (rest := []) (ci := 7) F hl.1 hH hS hz (c_X7_nextf l g gh T b nn (tNd b nn (tPs b nn h)) I R J AI AJ AR mo hv hm hT (by omega) (mTp hv h65 hbM) hr7 (by omega) (by omega) (mQ_e0 hQ) tNd_le.1) (cwV 0 F.2.2.2.2.1 (good_up gT_X7_next) rfl rfl rfl hdX7_next ⟨Nat.le_of_ble_eq_true rfl, Nat.le_of_ble_eq_true rfl⟩) hm (by decide) rfl rfl rfl (Nat.le_of_ble_eq_true rfl) dX7_relation_57 ⟨Nat.zero_le _, Nat.zero_le _⟩) hS (fun I_63 R_64 J_65 AI_66 AJ_67 AR_68 H locs hp_69 hH hS => ?_)
              dsimp only at hp_69
              obtain ⟨rfl, rfl, rfl, rfl, hv, pfq, q_70, nx4, nxa, nxb, fjq⟩ := hp_69
              have pf := qF_t pf pfq
              have u_71_2 : (I_63 mo 2).toInt = (I mo 2).toInt := by rw [pf 2 (by decide) (by decide) (by decide) (by decide) (by decide)]
              have u_71_5 : (I_63 mo 5).toInt = (I mo 5).toInt := by rw [pf 5 (by decide) (by decide) (by decide) (by decide) (by decide)]
              have u_71_14 : (I_63 mo 14).toInt = (I mo 14).toInt := by rw [pf 14 (by decide) (by decide) (by decide) (by decide) (by decide)]
              have u_71_16 : (I_63 mo 16).toInt = (I mo 16).toInt := by rw [pf 16 (by decide) (by decide) (by decide) (by decide) (by decide)]
              have u_71_18 : (I_63 mo 18).toInt = (I mo 18).toInt := by rw [pf 18 (by decide) (by decide) (by decide) (by decide) (by decide)]
              have hQ : mQ gh I_63 J_65 AI AJ mo b nn nr nt cc 0 (h + 1) := mQ_nx hQ nx4 nxa
              clear nxa nxb
              have fJm : ∀ b, b ≠ mo → J_65 b = J b := fun b hb => (fjq b hb).trans (fJm b hb)
              refine lv_iload_n F.1 F.2.1 dX7_relation_60 rfl (lv_at hl 0 rfl) ?_
              refine z_if_ge (tgt := 68) F dX7_relation_61 (by decide) zv_60 (fun c_72 => ?_) (fun c_72 => ?_)
              · refine lv_iload_n F.1 F.2.1 dX7_relation_68 rfl (lv_at hl 0 rfl) ?_
                have hfin : thn (f, h, 0) (fun t _ => sRl b nn nr nt cc t) = (0, h + 1, cF b nn nr nt cc h) := by
                  refine (thn_k q0).trans ?_
                  show sRl b nn nr nt cc h = _
                  unfold sRl
                  repeat (first | with_reducible rfl | refine ite_y (by omega) ?_ | refine ite_n (by omega) ?_ | refine ite_y (pRf_0 (by omega) (by omega)) ?_ | refine ite_n (fun e9 => absurd (pRf_i e9) (by omega)) ?_ | exact pr_e (pRf_1 (by omega)) (by omega) (by omega) | exact pr_e (pRf_3 (by omega) (by omega)) (by omega) (by omega) | exact pr_e (by omega) (by omega) (by omega) | refine ite_y (pCf_ok (by omega) (by omega)) ?_ | refine ite_n (fun e9 => absurd (pCf_0 e9) (by omega)) ?_ | exact pr_e (pCf_no (by omega)) (by omega) (by omega) | exact pr_e (pCf_big (by omega) (by omega)) (by omega) (by omega))
                exact g_iret F hr hlk hH hS hz zv_60 ⟨rfl, rfl, rfl, rfl, hv, pf, by first | omega | rfl | (dsimp only; omega), by first | omega | rfl | (dsimp only; omega), by (try dsimp only); rw [hfin]; exact hQ, by (try dsimp only); rw [hfin]; first | exact pRv_n (by omega) | exact pRv_y (by omega) (by omega) (by unfold cF; rw [← hfd]), by (try dsimp only); rw [hfin]; exact pIm_y (by omega), fJm⟩ dX7_relation_69
              · exact absurd trivial (by omega)
            · refine lv_aload_n F.1 F.2.1 dX7_relation_51 rfl (lv_at hl 1 rfl) ?_
              refine z_iconst F dX7_relation_52 ?_
              refine g_callv (g_runV (As := [.int (iI 3)]) (rest := []) (ci := 7) F hl.1 hH hS hz (c_X7_wrongf l g gh T b nn nr nt cc 0 h I R J AI AJ AR mo 3 ⟨by decide, by decide⟩ hv hm hT (by omega) h65 hbM hr7 (by omega) hn9 (by omega) hQ) (cwV 1 F.2.2.2.2.1 (good_up gT_X7_wrong) rfl rfl rfl hdX7_wrong ⟨Nat.le_of_ble_eq_true rfl, Nat.le_of_ble_eq_true rfl⟩) hm (by decide) rfl rfl rfl (Nat.le_of_ble_eq_true rfl) dX7_relation_53 ⟨Nat.zero_le _, Nat.zero_le _⟩) hS (fun I_73 R_74 J_75 AI_76 AJ_77 AR_78 H locs hp_79 hH hS => ?_)
              dsimp only at hp_79
              obtain ⟨r_80, er_80⟩ : ∃ qQ : pR, qQ = thn (0, h, 0) (fun t _ => (3, t, 0)) := ⟨_, rfl⟩
              rw [← er_80] at hp_79
              obtain ⟨rfl, rfl, rfl, rfl, rfl, hv, pfq, q_81, hQ⟩ := hp_79
              have pf := qF_t pf pfq
              have u_82_2 : (I_73 mo 2).toInt = (I mo 2).toInt := by rw [pf 2 (by decide) (by decide) (by decide) (by decide) (by decide)]
              have u_82_5 : (I_73 mo 5).toInt = (I mo 5).toInt := by rw [pf 5 (by decide) (by decide) (by decide) (by decide) (by decide)]
              have u_82_14 : (I_73 mo 14).toInt = (I mo 14).toInt := by rw [pf 14 (by decide) (by decide) (by decide) (by decide) (by decide)]
              have u_82_16 : (I_73 mo 16).toInt = (I mo 16).toInt := by rw [pf 16 (by decide) (by decide) (by decide) (by decide) (by decide)]
              have u_82_18 : (I_73 mo 18).toInt = (I mo 18).toInt := by rw [pf 18 (by decide) (by decide) (by decide) (by decide) (by decide)]
              have er_80 : r_80 = (3, h, 0) := er_80
              have hQ : mQ gh I_73 J AI AJ mo b nn nr nt cc 3 h := by rw [er_80] at hQ; exact hQ
              have q9_r_80 : (3 : Int) ≠ 0 := by omega
              have g9_r_80 := mQ_f hQ q9_r_80
              refine lv_aload_n F.1 F.2.1 dX7_relation_56 rfl (lv_at hl 1 rfl) ?_
              have b_83 := mJ hv hm
              unfold mNum1 at b_83
              refine g_callv (g_runV (As := []) (rest := []) (ci := 7) F hl.1 hH hS hz (c_X7_nextf l g gh T b nn (tNd b nn (tPs b nn h)) I_73 R J AI AJ AR mo hv hm hT (by omega) (mTp hv h65 hbM) hr7 (by omega) (by omega) (mQ_e0 hQ) tNd_le.1) (cwV 0 F.2.2.2.2.1 (good_up gT_X7_next) rfl rfl rfl hdX7_next ⟨Nat.le_of_ble_eq_true rfl, Nat.le_of_ble_eq_true rfl⟩) hm (by decide) rfl rfl rfl (Nat.le_of_ble_eq_true rfl) dX7_relation_57 ⟨Nat.zero_le _, Nat.zero_le _⟩) hS (fun I_84 R_85 J_86 AI_87 AJ_88 AR_89 H locs hp_90 hH hS => ?_)
              dsimp only at hp_90
              obtain ⟨rfl, rfl, rfl, rfl, hv, pfq, q_91, nx4, nxa, nxb, fjq⟩ := hp_90
              have pf := qF_t pf pfq
              have u_92_2 : (I_84 mo 2).toInt = (I mo 2).toInt := by rw [pf 2 (by decide) (by decide) (by decide) (by decide) (by decide)]
              have u_92_5 : (I_84 mo 5).toInt = (I mo 5).toInt := by rw [pf 5 (by decide) (by decide) (by decide) (by decide) (by decide)]
              have u_92_14 : (I_84 mo 14).toInt = (I mo 14).toInt := by rw [pf 14 (by decide) (by decide) (by decide) (by decide) (by decide)]
              have u_92_16 : (I_84 mo 16).toInt = (I mo 16).toInt := by rw [pf 16 (by decide) (by decide) (by decide) (by decide) (by decide)]
              have u_92_18 : (I_84 mo 18).toInt = (I mo 18).toInt := by rw [pf 18 (by decide) (by decide) (by decide) (by decide) (by decide)]
              have hQ : mQ gh I_84 J_86 AI AJ mo b nn nr nt cc 3 h := by have q9 := mQ_nx hQ nx4 nxa; rw [thn_b (by omega)] at q9; exact q9
              clear nxa nxb
              have fJm : ∀ b, b ≠ mo → J_86 b = J b := fun b hb => (fjq b hb).trans (fJm b hb)
              refine lv_iload_n F.1 F.2.1 dX7_relation_60 rfl (lv_at hl 0 rfl) ?_
              refine z_if_ge (tgt := 68) F dX7_relation_61 (by decide) zv_60 (fun c_93 => ?_) (fun c_93 => ?_)
              · exact absurd trivial (by omega)
              · refine z_iconst F dX7_relation_64 ?_
                refine z_goto (tgt := 69) F dX7_relation_65 (by decide) ?_
                have hfin : thn (f, h, 0) (fun t _ => sRl b nn nr nt cc t) = (3, h, 0) := by
                  refine (thn_k q0).trans ?_
                  show sRl b nn nr nt cc h = _
                  unfold sRl
                  repeat (first | with_reducible rfl | refine ite_y (by omega) ?_ | refine ite_n (by omega) ?_ | refine ite_y (pRf_0 (by omega) (by omega)) ?_ | refine ite_n (fun e9 => absurd (pRf_i e9) (by omega)) ?_ | exact pr_e (pRf_1 (by omega)) (by omega) (by omega) | exact pr_e (pRf_3 (by omega) (by omega)) (by omega) (by omega) | exact pr_e (by omega) (by omega) (by omega) | refine ite_y (pCf_ok (by omega) (by omega)) ?_ | refine ite_n (fun e9 => absurd (pCf_0 e9) (by omega)) ?_ | exact pr_e (pCf_no (by omega)) (by omega) (by omega) | exact pr_e (pCf_big (by omega) (by omega)) (by omega) (by omega))
                exact g_iret F hr hlk hH hS hz ⟨by decide, by decide⟩ ⟨rfl, rfl, rfl, rfl, hv, pf, by first | omega | rfl | (dsimp only; omega), by first | omega | rfl | (dsimp only; omega), by (try dsimp only); rw [hfin]; exact hQ, by (try dsimp only); rw [hfin]; first | exact pRv_n (by omega) | exact pRv_y (by omega) (by omega) (by unfold cF; rw [← hfd]), by (try dsimp only); rw [hfin]; exact pIm_n (by omega), fJm⟩ dX7_relation_69
          · exact absurd trivial (by omega)
        · have t_94 := tIz_1 q_49 (by omega)
          refine lv_aload_n F.1 F.2.1 dX7_relation_22 rfl (lv_at hl 0 rfl) ?_
          refine z_iconst F dX7_relation_23 ?_
          refine g_callv (g_runV (As := [.int (iI 1)]) (rest := []) (ci := 7) F hl.1 hH hS hz (c_X7_wrongf l g gh T b nn nr nt cc 0 h I R J AI AJ AR mo 1 ⟨by decide, by decide⟩ hv hm hT (by omega) h65 hbM hr7 (by omega) hn9 (by omega) hQ) (cwV 1 F.2.2.2.2.1 (good_up gT_X7_wrong) rfl rfl rfl hdX7_wrong ⟨Nat.le_of_ble_eq_true rfl, Nat.le_of_ble_eq_true rfl⟩) hm (by decide) rfl rfl rfl (Nat.le_of_ble_eq_true rfl) dX7_relation_24 ⟨Nat.zero_le _, Nat.zero_le _⟩) hS (fun I_95 R_96 J_97 AI_98 AJ_99 AR_100 H locs hp_101 hH hS => ?_)
          dsimp only at hp_101
          obtain ⟨r_102, er_102⟩ : ∃ qQ : pR, qQ = thn (0, h, 0) (fun t _ => (1, t, 0)) := ⟨_, rfl⟩
          rw [← er_102] at hp_101
          obtain ⟨rfl, rfl, rfl, rfl, rfl, hv, pfq, q_103, hQ⟩ := hp_101
          have pf := qF_t pf pfq
          have u_104_2 : (I_95 mo 2).toInt = (I mo 2).toInt := by rw [pf 2 (by decide) (by decide) (by decide) (by decide) (by decide)]
          have u_104_5 : (I_95 mo 5).toInt = (I mo 5).toInt := by rw [pf 5 (by decide) (by decide) (by decide) (by decide) (by decide)]
          have u_104_14 : (I_95 mo 14).toInt = (I mo 14).toInt := by rw [pf 14 (by decide) (by decide) (by decide) (by decide) (by decide)]
          have u_104_16 : (I_95 mo 16).toInt = (I mo 16).toInt := by rw [pf 16 (by decide) (by decide) (by decide) (by decide) (by decide)]
          have u_104_18 : (I_95 mo 18).toInt = (I mo 18).toInt := by rw [pf 18 (by decide) (by decide) (by decide) (by decide) (by decide)]
          have er_102 : r_102 = (1, h, 0) := er_102
          have hQ : mQ gh I_95 J AI AJ mo b nn nr nt cc 1 h := by rw [er_102] at hQ; exact hQ
          have q9_r_102 : (1 : Int) ≠ 0 := by omega
          have g9_r_102 := mQ_f hQ q9_r_102
          refine lv_aload_n F.1 F.2.1 dX7_relation_27 rfl (lv_at hl 0 rfl) ?_
          refine g_getI (ci := 7) (k := 24) F hH rfl (by decide) iX7 hm (by decide) rfl k81 dX7_relation_28 ?_
          have b_105 := mJ hv hm
          unfold mNum1 at b_105
          refine z_if_le (tgt := 38) F dX7_relation_31 (by decide) (zr_t _) (fun c_106 => ?_) (fun c_106 => ?_)
          · exact absurd (mQ_z hQ (by omega)) (by omega)
          · refine z_iconst F dX7_relation_34 ?_
            refine z_goto (tgt := 46) F dX7_relation_35 (by decide) ?_
            refine lv_istore_n (lv' := [(1, .int (iI ((-1)))), (0, .ref mo)]) F.1 F.2.1 dX7_relation_46 rfl hl (by decide) rfl (fun ls hl => ?_)
            refine lv_iload_n F.1 F.2.1 dX7_relation_47 rfl (lv_at hl 0 rfl) ?_
            refine z_if_ge (tgt := 56) F dX7_relation_48 (by decide) ⟨by decide, by decide⟩ (fun c_107 => ?_) (fun c_107 => ?_)
            · exact absurd trivial (by omega)
            · refine lv_aload_n F.1 F.2.1 dX7_relation_51 rfl (lv_at hl 1 rfl) ?_
              refine z_iconst F dX7_relation_52 ?_
              refine g_callv (g_runV (As := [.int (iI 3)]) (rest := []) (ci := 7) F hl.1 hH hS hz (c_X7_wrongf l g gh T b nn nr nt cc 1 h I_95 R J AI AJ AR mo 3 ⟨by decide, by decide⟩ hv hm hT (by omega) h65 hbM hr7 (by omega) hn9 (by omega) hQ) (cwV 1 F.2.2.2.2.1 (good_up gT_X7_wrong) rfl rfl rfl hdX7_wrong ⟨Nat.le_of_ble_eq_true rfl, Nat.le_of_ble_eq_true rfl⟩) hm (by decide) rfl rfl rfl (Nat.le_of_ble_eq_true rfl) dX7_relation_53 ⟨Nat.zero_le _, Nat.zero_le _⟩) hS (fun I_108 R_109 J_110 AI_111 AJ_112 AR_113 H locs hp_114 hH hS => ?_)
              dsimp only at hp_114
              obtain ⟨r_115, er_115⟩ : ∃ qQ : pR, qQ = thn (1, h, 0) (fun t _ => (3, t, 0)) := ⟨_, rfl⟩
              rw [← er_115] at hp_114
              obtain ⟨rfl, rfl, rfl, rfl, rfl, hv, pfq, q_116, hQ⟩ := hp_114
              have pf := qF_t pf pfq
              have u_117_2 : (I_108 mo 2).toInt = (I mo 2).toInt := by rw [pf 2 (by decide) (by decide) (by decide) (by decide) (by decide)]
              have u_117_5 : (I_108 mo 5).toInt = (I mo 5).toInt := by rw [pf 5 (by decide) (by decide) (by decide) (by decide) (by decide)]
              have u_117_14 : (I_108 mo 14).toInt = (I mo 14).toInt := by rw [pf 14 (by decide) (by decide) (by decide) (by decide) (by decide)]
              have u_117_16 : (I_108 mo 16).toInt = (I mo 16).toInt := by rw [pf 16 (by decide) (by decide) (by decide) (by decide) (by decide)]
              have u_117_18 : (I_108 mo 18).toInt = (I mo 18).toInt := by rw [pf 18 (by decide) (by decide) (by decide) (by decide) (by decide)]
              rw [thn_b (by omega)] at er_115
              have hQ : mQ gh I_108 J AI AJ mo b nn nr nt cc 1 h := by rw [er_115] at hQ; exact hQ
              refine lv_aload_n F.1 F.2.1 dX7_relation_56 rfl (lv_at hl 1 rfl) ?_
              have b_118 := mJ hv hm
              unfold mNum1 at b_118
              refine g_callv (g_runV (As := []) (rest := []) (ci := 7) F hl.1 hH hS hz (c_X7_nextf l g gh T b nn (tNd b nn (tPs b nn h)) I_108 R J AI AJ AR mo hv hm hT (by omega) (mTp hv h65 hbM) hr7 (by omega) (by omega) (mQ_e0 hQ) tNd_le.1) (cwV 0 F.2.2.2.2.1 (good_up gT_X7_next) rfl rfl rfl hdX7_next ⟨Nat.le_of_ble_eq_true rfl, Nat.le_of_ble_eq_true rfl⟩) hm (by decide) rfl rfl rfl (Nat.le_of_ble_eq_true rfl) dX7_relation_57 ⟨Nat.zero_le _, Nat.zero_le _⟩) hS (fun I_119 R_120 J_121 AI_122 AJ_123 AR_124 H locs hp_125 hH hS => ?_)
              dsimp only at hp_125
              obtain ⟨rfl, rfl, rfl, rfl, hv, pfq, q_126, nx4, nxa, nxb, fjq⟩ := hp_125
              have pf := qF_t pf pfq
              have u_127_2 : (I_119 mo 2).toInt = (I mo 2).toInt := by rw [pf 2 (by decide) (by decide) (by decide) (by decide) (by decide)]
              have u_127_5 : (I_119 mo 5).toInt = (I mo 5).toInt := by rw [pf 5 (by decide) (by decide) (by decide) (by decide) (by decide)]
              have u_127_14 : (I_119 mo 14).toInt = (I mo 14).toInt := by rw [pf 14 (by decide) (by decide) (by decide) (by decide) (by decide)]
              have u_127_16 : (I_119 mo 16).toInt = (I mo 16).toInt := by rw [pf 16 (by decide) (by decide) (by decide) (by decide) (by decide)]
              have u_127_18 : (I_119 mo 18).toInt = (I mo 18).toInt := by rw [pf 18 (by decide) (by decide) (by decide) (by decide) (by decide)]
              have hQ : mQ gh I_119 J_121 AI AJ mo b nn nr nt cc 1 h := by have q9 := mQ_nx hQ nx4 nxa; rw [thn_b (by omega)] at q9; exact q9
              clear nxa nxb
              have fJm : ∀ b, b ≠ mo → J_121 b = J b := fun b hb => (fjq b hb).trans (fJm b hb)
              refine lv_iload_n F.1 F.2.1 dX7_relation_60 rfl (lv_at hl 0 rfl) ?_
              refine z_if_ge (tgt := 68) F dX7_relation_61 (by decide) ⟨by decide, by decide⟩ (fun c_128 => ?_) (fun c_128 => ?_)
              · exact absurd trivial (by omega)
              · refine z_iconst F dX7_relation_64 ?_
                refine z_goto (tgt := 69) F dX7_relation_65 (by decide) ?_
                have hfin : thn (f, h, 0) (fun t _ => sRl b nn nr nt cc t) = (1, h, 0) := by
                  refine (thn_k q0).trans ?_
                  show sRl b nn nr nt cc h = _
                  unfold sRl
                  repeat (first | with_reducible rfl | refine ite_y (by omega) ?_ | refine ite_n (by omega) ?_ | refine ite_y (pRf_0 (by omega) (by omega)) ?_ | refine ite_n (fun e9 => absurd (pRf_i e9) (by omega)) ?_ | exact pr_e (pRf_1 (by omega)) (by omega) (by omega) | exact pr_e (pRf_3 (by omega) (by omega)) (by omega) (by omega) | exact pr_e (by omega) (by omega) (by omega) | refine ite_y (pCf_ok (by omega) (by omega)) ?_ | refine ite_n (fun e9 => absurd (pCf_0 e9) (by omega)) ?_ | exact pr_e (pCf_no (by omega)) (by omega) (by omega) | exact pr_e (pCf_big (by omega) (by omega)) (by omega) (by omega))
                exact g_iret F hr hlk hH hS hz ⟨by decide, by decide⟩ ⟨rfl, rfl, rfl, rfl, hv, pf, by first | omega | rfl | (dsimp only; omega), by first | omega | rfl | (dsimp only; omega), by (try dsimp only); rw [hfin]; exact hQ, by (try dsimp only); rw [hfin]; first | exact pRv_n (by omega) | exact pRv_y (by omega) (by omega) (by unfold cF; rw [← hfd]), by (try dsimp only); rw [hfin]; exact pIm_n (by omega), fJm⟩ dX7_relation_69
  · have hf1 := mQ_f hQ q0
    refine lv_aload_n F.1 F.2.1 dX7_relation_0 rfl (lv_at hl 0 rfl) ?_
    refine g_getI (ci := 7) (k := 24) F hH rfl (by decide) iX7 hm (by decide) rfl k81 dX7_relation_1 ?_
    have b_129 := mJ hv hm
    unfold mNum1 at b_129
    refine z_if_ne (tgt := 27) F dX7_relation_4 (by decide) (zr_t _) (fun c_130 => ?_) (fun c_130 => ?_)
    · refine lv_aload_n F.1 F.2.1 dX7_relation_27 rfl (lv_at hl 0 rfl) ?_
      refine g_getI (ci := 7) (k := 24) F hH rfl (by decide) iX7 hm (by decide) rfl k81 dX7_relation_28 ?_
      refine z_if_le (tgt := 38) F dX7_relation_31 (by decide) (zr_t _) (fun c_131 => ?_) (fun c_131 => ?_)
      · exact absurd (mQ_f hQ (by omega)) (by have := mQ_p hQ; omega)
      · refine z_iconst F dX7_relation_34 ?_
        refine z_goto (tgt := 46) F dX7_relation_35 (by decide) ?_
        refine lv_istore_n (lv' := [(1, .int (iI ((-1)))), (0, .ref mo)]) F.1 F.2.1 dX7_relation_46 rfl hl (by decide) rfl (fun ls hl => ?_)
        refine lv_iload_n F.1 F.2.1 dX7_relation_47 rfl (lv_at hl 0 rfl) ?_
        refine z_if_ge (tgt := 56) F dX7_relation_48 (by decide) ⟨by decide, by decide⟩ (fun c_132 => ?_) (fun c_132 => ?_)
        · exact absurd trivial (by omega)
        · refine lv_aload_n F.1 F.2.1 dX7_relation_51 rfl (lv_at hl 1 rfl) ?_
          refine z_iconst F dX7_relation_52 ?_
          refine g_callv (g_runV (As := [.int (iI 3)]) (rest := []) (ci := 7) F hl.1 hH hS hz (c_X7_wrongf l g gh T b nn nr nt cc f h I R J AI AJ AR mo 3 ⟨by decide, by decide⟩ hv hm hT (by omega) h65 hbM hr7 (by omega) hn9 (by omega) hQ) (cwV 1 F.2.2.2.2.1 (good_up gT_X7_wrong) rfl rfl rfl hdX7_wrong ⟨Nat.le_of_ble_eq_true rfl, Nat.le_of_ble_eq_true rfl⟩) hm (by decide) rfl rfl rfl (Nat.le_of_ble_eq_true rfl) dX7_relation_53 ⟨Nat.zero_le _, Nat.zero_le _⟩) hS (fun I_133 R_134 J_135 AI_136 AJ_137 AR_138 H locs hp_139 hH hS => ?_)
          dsimp only at hp_139
          obtain ⟨r_140, er_140⟩ : ∃ qQ : pR, qQ = thn (f, h, 0) (fun t _ => (3, t, 0)) := ⟨_, rfl⟩
          rw [← er_140] at hp_139
          obtain ⟨rfl, rfl, rfl, rfl, rfl, hv, pfq, q_141, hQ⟩ := hp_139
          have pf := qF_t pf pfq
          have u_142_2 : (I_133 mo 2).toInt = (I mo 2).toInt := by rw [pf 2 (by decide) (by decide) (by decide) (by decide) (by decide)]
          have u_142_5 : (I_133 mo 5).toInt = (I mo 5).toInt := by rw [pf 5 (by decide) (by decide) (by decide) (by decide) (by decide)]
          have u_142_14 : (I_133 mo 14).toInt = (I mo 14).toInt := by rw [pf 14 (by decide) (by decide) (by decide) (by decide) (by decide)]
          have u_142_16 : (I_133 mo 16).toInt = (I mo 16).toInt := by rw [pf 16 (by decide) (by decide) (by decide) (by decide) (by decide)]
          have u_142_18 : (I_133 mo 18).toInt = (I mo 18).toInt := by rw [pf 18 (by decide) (by decide) (by decide) (by decide) (by decide)]
          rw [thn_b (by omega)] at er_140
          have hQ : mQ gh I_133 J AI AJ mo b nn nr nt cc f h := by rw [er_140] at hQ; exact hQ
          refine lv_aload_n F.1 F.2.1 dX7_relation_56 rfl (lv_at hl 1 rfl) ?_
          have b_143 := mJ hv hm
          unfold mNum1 at b_143
          refine g_callv (g_runV (As := []) (rest := []) (ci := 7) F hl.1 hH hS hz (c_X7_nextf l g gh T b nn (tNd b nn (tPs b nn h)) I_133 R J AI AJ AR mo hv hm hT (by omega) (mTp hv h65 hbM) hr7 (by omega) (by omega) (mQ_e0 hQ) tNd_le.1) (cwV 0 F.2.2.2.2.1 (good_up gT_X7_next) rfl rfl rfl hdX7_next ⟨Nat.le_of_ble_eq_true rfl, Nat.le_of_ble_eq_true rfl⟩) hm (by decide) rfl rfl rfl (Nat.le_of_ble_eq_true rfl) dX7_relation_57 ⟨Nat.zero_le _, Nat.zero_le _⟩) hS (fun I_144 R_145 J_146 AI_147 AJ_148 AR_149 H locs hp_150 hH hS => ?_)
          dsimp only at hp_150
          obtain ⟨rfl, rfl, rfl, rfl, hv, pfq, q_151, nx4, nxa, nxb, fjq⟩ := hp_150
          have pf := qF_t pf pfq
          have u_152_2 : (I_144 mo 2).toInt = (I mo 2).toInt := by rw [pf 2 (by decide) (by decide) (by decide) (by decide) (by decide)]
          have u_152_5 : (I_144 mo 5).toInt = (I mo 5).toInt := by rw [pf 5 (by decide) (by decide) (by decide) (by decide) (by decide)]
          have u_152_14 : (I_144 mo 14).toInt = (I mo 14).toInt := by rw [pf 14 (by decide) (by decide) (by decide) (by decide) (by decide)]
          have u_152_16 : (I_144 mo 16).toInt = (I mo 16).toInt := by rw [pf 16 (by decide) (by decide) (by decide) (by decide) (by decide)]
          have u_152_18 : (I_144 mo 18).toInt = (I mo 18).toInt := by rw [pf 18 (by decide) (by decide) (by decide) (by decide) (by decide)]
          have hQ : mQ gh I_144 J_146 AI AJ mo b nn nr nt cc f h := by have q9 := mQ_nx hQ nx4 nxa; rw [thn_b (by omega)] at q9; exact q9
          clear nxa nxb
          have fJm : ∀ b, b ≠ mo → J_146 b = J b := fun b hb => (fjq b hb).trans (fJm b hb)
          refine lv_iload_n F.1 F.2.1 dX7_relation_60 rfl (lv_at hl 0 rfl) ?_
          refine z_if_ge (tgt := 68) F dX7_relation_61 (by decide) ⟨by decide, by decide⟩ (fun c_153 => ?_) (fun c_153 => ?_)
          · exact absurd trivial (by omega)
          · refine z_iconst F dX7_relation_64 ?_
            refine z_goto (tgt := 69) F dX7_relation_65 (by decide) ?_
            have hfin : thn (f, h, 0) (fun t _ => sRl b nn nr nt cc t) = (f, h, 0) := thn_b q0
            exact g_iret F hr hlk hH hS hz ⟨by decide, by decide⟩ ⟨rfl, rfl, rfl, rfl, hv, pf, by first | omega | rfl | (dsimp only; omega), by first | omega | rfl | (dsimp only; omega), by (try dsimp only); rw [hfin]; exact hQ, by (try dsimp only); rw [hfin]; first | exact pRv_n (by omega) | exact pRv_y (by omega) (by omega) (by unfold cF; rw [← hfd]), by (try dsimp only); rw [hfin]; exact pIm_n (by omega), fJm⟩ dX7_relation_69
    · exact absurd (mQ_z hQ (by omega)) (by omega)
end
