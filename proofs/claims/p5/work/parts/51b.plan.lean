def rmX7_plan : Room := { frames := 10, cells := 0, slots := 0, locals := 219 }
theorem hdX7_plan : yX7_plan.cls = RX7 ∧ yX7_plan.cls ≠ "java/lang/invoke/MethodHandle" ∧ yX7_plan.cls ≠ "java/lang/invoke/VarHandle" ∧ (parseMethodDescriptor yX7_plan.desc).map (fun d => d.parameters.length) = some 0 := by decide +kernel
set_option maxHeartbeats 4000000 in
set_option maxRecDepth 100000 in
/-- a tape read -/
theorem c_X7_plan (l : Launch) (g : gG) (gh : gGh) (T : Nat → Int32) (I : gI) (R : gR) (J : gJ) (AI : gI) (AJ : gJ) (AR : gR) (mo : Nat) (hv : mInv g gh R I AI) (hm : gO g mo 7) (hT : AI (gh 50 0) = T) : gMet l g yX7_plan tsX7_plan rmX7_plan [.ref mo] (I, R, J, AI, AJ, AR) (gQi g (fun (z : Int) (w : gS) => R = w.2.1 ∧ AR = w.2.2.2.2.2 ∧ (mInv g gh R (w.1) (w.2.2.2.1)) ∧ (((w.1) mo 16).toInt = 0))) := by
  refine gStart (cc := cX7_plan) (maxL := 3) (ret := (some (.int))) (by decide) rfl (Nat.le_of_ble_eq_true rfl) ?_
  intro p e s m below meth c ls F hr hlk hH hz hS hl
  have hl : lv_has ls 3 [(0, .ref mo)] := hl
  have hS : va_S (gA g) s.heap s.heap [] := hS
  obtain ⟨H, hHe⟩ : ∃ H : Heap, H = s.heap := ⟨_, rfl⟩
  obtain ⟨locs, hlo⟩ : ∃ k : List Loc, k = [] := ⟨_, rfl⟩
  have hH : gH g I R J AI AJ AR H := by rw [hHe]; exact hH
  have hS : va_S (gA g) s.heap H locs := by rw [hHe, hlo]; exact hS
  suffices hw : W p l e rmX7_plan s m ([.ref mo] : List Value).toArray below meth c H locs 0 0 (MQ below (gQi g (fun (z : Int) (w : gS) => R = w.2.1 ∧ AR = w.2.2.2.2.2 ∧ (mInv g gh R (w.1) (w.2.2.2.1)) ∧ (((w.1) mo 16).toInt = 0))) ([.ref mo] : List Value).toArray s 0 0 (gA g)) (F0 m 0 ls []) by
    rw [hHe, hlo] at hw; exact hw
  clear hHe hlo
  have hb0 := mJ hv hm
  unfold mNum1 at hb0
  have iX7 : ∀ w ∈ u_ws RX7 TX7 32, w ∈ tsX7_plan := fun w h => List.mem_cons_of_mem _ (inTB7 w h)
  have k60 : Cond.fieldLink RX7 60 (TX7 17).1 (TX7 17).2.1 (TX7 17).2.2.1 ∈ tsX7_plan := List.mem_cons_of_mem _ fl_60
  have k71 : Cond.fieldLink RX7 71 (TX7 16).1 (TX7 16).2.1 (TX7 16).2.2.1 ∈ tsX7_plan := List.mem_cons_of_mem _ fl_71
  have k78 : Cond.fieldLink RX7 78 (TX7 18).1 (TX7 18).2.1 (TX7 18).2.2.1 ∈ tsX7_plan := List.mem_cons_of_mem _ fl_78
  have k184 : Cond.fieldLink RX7 184 (TX7 5).1 (TX7 5).2.1 (TX7 5).2.2.1 ∈ tsX7_plan := List.mem_cons_of_mem _ fl_184
  have k81 : Cond.fieldLink RX7 81 (TX7 24).1 (TX7 24).2.1 (TX7 24).2.2.1 ∈ tsX7_plan := List.mem_cons_of_mem _ fl_81
  have k84 : Cond.fieldLink RX7 84 (TX7 20).1 (TX7 20).2.1 (TX7 20).2.2.1 ∈ tsX7_plan := List.mem_cons_of_mem _ fl_84
  have k94 : Cond.fieldLink RX7 94 (TX7 21).1 (TX7 21).2.1 (TX7 21).2.2.1 ∈ tsX7_plan := List.mem_cons_of_mem _ fl_94
  have k64 : Cond.fieldLink RX7 64 (TX7 2).1 (TX7 2).2.1 (TX7 2).2.2.1 ∈ tsX7_plan := List.mem_cons_of_mem _ fl_64
  have k7 : Cond.fieldLink RX7 7 (TX7 0).1 (TX7 0).2.1 (TX7 0).2.2.1 ∈ tsX7_plan := List.mem_cons_of_mem _ fl_7
  have k17 : Cond.fieldLink RX7 17 (TX7 3).1 (TX7 3).2.1 (TX7 3).2.2.1 ∈ tsX7_plan := List.mem_cons_of_mem _ fl_17
  have k13 : Cond.fieldLink RX7 13 (TX7 1).1 (TX7 1).2.1 (TX7 1).2.2.1 ∈ tsX7_plan := List.mem_cons_of_mem _ fl_13
  have k20 : Cond.fieldLink RX7 20 (TX7 4).1 (TX7 4).2.1 (TX7 4).2.2.1 ∈ tsX7_plan := List.mem_cons_of_mem _ fl_20
  have k27 : Cond.fieldLink RX7 27 (TX7 7).1 (TX7 7).2.1 (TX7 7).2.2.1 ∈ tsX7_plan := List.mem_cons_of_mem _ fl_27
  have k51 : Cond.fieldLink RX7 51 (TX7 29).1 (TX7 29).2.1 (TX7 29).2.2.1 ∈ tsX7_plan := List.mem_cons_of_mem _ fl_51
  have k257 : Cond.fieldLink RX7 257 (TX7 8).1 (TX7 8).2.1 (TX7 8).2.2.1 ∈ tsX7_plan := List.mem_cons_of_mem _ fl_257
  have k260 : Cond.fieldLink RX7 260 (TX7 9).1 (TX7 9).2.1 (TX7 9).2.2.1 ∈ tsX7_plan := List.mem_cons_of_mem _ fl_260
  have k263 : Cond.fieldLink RX7 263 (TX7 10).1 (TX7 10).2.1 (TX7 10).2.2.1 ∈ tsX7_plan := List.mem_cons_of_mem _ fl_263
  have k266 : Cond.fieldLink RX7 266 (TX7 14).1 (TX7 14).2.1 (TX7 14).2.2.1 ∈ tsX7_plan := List.mem_cons_of_mem _ fl_266
  refine lv_aload_n F.1 F.2.1 dX7_plan_0 rfl (lv_at hl 0 rfl) ?_
  refine z_iconst F dX7_plan_1 ?_
  refine g_putI (ci := 7) (k := 17) F hH hS rfl (by decide) iX7 hm (by decide) tyX7 tyX7_ok nmX7 rfl rfl rfl k60 dX7_plan_2 (fun H locs hH hS => ?_)
  obtain ⟨I_1, eI_1⟩ : ∃ qQ, qQ = gup2 I mo 17 (iI (0)) := ⟨_, rfl⟩
  rw [← eI_1] at hH
  have kI_1 : ∀ b, b ≠ mo → I_1 b = I b := fun b hb => by rw [eI_1]; exact funext fun j => gup2_a _ _ hb
  have w_2 : (I_1 mo 17).toInt = 0 := by rw [eI_1, gup2_s]; exact iI_val ⟨by decide, by decide⟩
  have hv : mInv g gh R I_1 AI := by rw [eI_1]; exact mP17 hv hm
  have w_2_k2 : (I_1 mo 2).toInt = (I mo 2).toInt := by rw [eI_1, gup2_k _ _ (by decide)]
  have w_2_k5 : (I_1 mo 5).toInt = (I mo 5).toInt := by rw [eI_1, gup2_k _ _ (by decide)]
  have w_2_k14 : (I_1 mo 14).toInt = (I mo 14).toInt := by rw [eI_1, gup2_k _ _ (by decide)]
  have w_2_k16 : (I_1 mo 16).toInt = (I mo 16).toInt := by rw [eI_1, gup2_k _ _ (by decide)]
  have w_2_k18 : (I_1 mo 18).toInt = (I mo 18).toInt := by rw [eI_1, gup2_k _ _ (by decide)]
  have w_2_k20 : (I_1 mo 20).toInt = (I mo 20).toInt := by rw [eI_1, gup2_k _ _ (by decide)]
  have w_2_k24 : (I_1 mo 24).toInt = (I mo 24).toInt := by rw [eI_1, gup2_k _ _ (by decide)]
  refine lv_aload_n F.1 F.2.1 dX7_plan_5 rfl (lv_at hl 0 rfl) ?_
  refine lv_aload_n F.1 F.2.1 dX7_plan_6 rfl (lv_at hl 0 rfl) ?_
  refine g_getI (ci := 7) (k := 16) F hH rfl (by decide) iX7 hm (by decide) rfl k71 dX7_plan_7 ?_
  have b_3 := mJ hv hm
  unfold mNum1 at b_3
  refine g_putI (ci := 7) (k := 18) F hH hS rfl (by decide) iX7 hm (by decide) tyX7 tyX7_ok nmX7 rfl rfl rfl k78 dX7_plan_10 (fun H locs hH hS => ?_)
  obtain ⟨I_4, eI_4⟩ : ∃ qQ, qQ = gup2 I_1 mo 18 (iI ((I_1 mo 16).toInt)) := ⟨_, rfl⟩
  rw [← eI_4] at hH
  have kI_4 : ∀ b, b ≠ mo → I_4 b = I_1 b := fun b hb => by rw [eI_4]; exact funext fun j => gup2_a _ _ hb
  have w_5 : (I_4 mo 18).toInt = (I_1 mo 16).toInt := by rw [eI_4, gup2_s]; exact iI_val (zr_t _)
  have hv : mInv g gh R I_4 AI := by rw [eI_4]; exact mP18 hv hm (by omega) (by omega)
  have w_5_k2 : (I_4 mo 2).toInt = (I_1 mo 2).toInt := by rw [eI_4, gup2_k _ _ (by decide)]
  have w_5_k5 : (I_4 mo 5).toInt = (I_1 mo 5).toInt := by rw [eI_4, gup2_k _ _ (by decide)]
  have w_5_k14 : (I_4 mo 14).toInt = (I_1 mo 14).toInt := by rw [eI_4, gup2_k _ _ (by decide)]
  have w_5_k16 : (I_4 mo 16).toInt = (I_1 mo 16).toInt := by rw [eI_4, gup2_k _ _ (by decide)]
  have w_5_k20 : (I_4 mo 20).toInt = (I_1 mo 20).toInt := by rw [eI_4, gup2_k _ _ (by decide)]
  have w_5_k24 : (I_4 mo 24).toInt = (I_1 mo 24).toInt := by rw [eI_4, gup2_k _ _ (by decide)]
  refine lv_aload_n F.1 F.2.1 dX7_plan_13 rfl (lv_at hl 0 rfl) ?_
  refine z_iconst F dX7_plan_14 ?_
  refine g_putI (ci := 7) (k := 16) F hH hS rfl (by decide) iX7 hm (by decide) tyX7 tyX7_ok nmX7 rfl rfl rfl k71 dX7_plan_15 (fun H locs hH hS => ?_)
  obtain ⟨I_6, eI_6⟩ : ∃ qQ, qQ = gup2 I_4 mo 16 (iI (0)) := ⟨_, rfl⟩
  rw [← eI_6] at hH
  have kI_6 : ∀ b, b ≠ mo → I_6 b = I_4 b := fun b hb => by rw [eI_6]; exact funext fun j => gup2_a _ _ hb
  have w_7 : (I_6 mo 16).toInt = 0 := by rw [eI_6, gup2_s]; exact iI_val ⟨by decide, by decide⟩
  have hv : mInv g gh R I_6 AI := by rw [eI_6]; exact mP16 hv hm (by omega) (by omega)
  have w_7_k2 : (I_6 mo 2).toInt = (I_4 mo 2).toInt := by rw [eI_6, gup2_k _ _ (by decide)]
  have w_7_k5 : (I_6 mo 5).toInt = (I_4 mo 5).toInt := by rw [eI_6, gup2_k _ _ (by decide)]
  have w_7_k14 : (I_6 mo 14).toInt = (I_4 mo 14).toInt := by rw [eI_6, gup2_k _ _ (by decide)]
  have w_7_k18 : (I_6 mo 18).toInt = (I_4 mo 18).toInt := by rw [eI_6, gup2_k _ _ (by decide)]
  have w_7_k20 : (I_6 mo 20).toInt = (I_4 mo 20).toInt := by rw [eI_6, gup2_k _ _ (by decide)]
  have w_7_k24 : (I_6 mo 24).toInt = (I_4 mo 24).toInt := by rw [eI_6, gup2_k _ _ (by decide)]
  refine lv_aload_n F.1 F.2.1 dX7_plan_18 rfl (lv_at hl 0 rfl) ?_
  refine g_getI (ci := 7) (k := 18) F hH rfl (by decide) iX7 hm (by decide) rfl k78 dX7_plan_19 ?_
  have b_8 := mJ hv hm
  unfold mNum1 at b_8
  refine z_sipush F dX7_plan_22 (by decide) ?_
  refine z_icmp_le (tgt := 30) F dX7_plan_25 (by decide) (zr_t _) ⟨by decide, by decide⟩ (fun c_9 => ?_) (fun c_9 => ?_)
  · refine lv_aload_n F.1 F.2.1 dX7_plan_30 rfl (lv_at hl 0 rfl) ?_
    refine z_iconst F dX7_plan_31 ?_
    refine g_putI (ci := 7) (k := 5) F hH hS rfl (by decide) iX7 hm (by decide) tyX7 tyX7_ok nmX7 rfl rfl rfl k184 dX7_plan_32 (fun H locs hH hS => ?_)
    obtain ⟨I_10, eI_10⟩ : ∃ qQ, qQ = gup2 I_6 mo 5 (iI (0)) := ⟨_, rfl⟩
    rw [← eI_10] at hH
    have kI_10 : ∀ b, b ≠ mo → I_10 b = I_6 b := fun b hb => by rw [eI_10]; exact funext fun j => gup2_a _ _ hb
    have hv : mInv g gh R I_10 AI := by rw [eI_10]; exact mP5_0 hv hm
    have kq5 : (I_10 mo 5).toInt = 0 := by rw [eI_10, gup2_s]; exact iI_val ⟨by decide, by decide⟩
    have kq2 : (I_10 mo 2).toInt = (I_6 mo 2).toInt := by rw [eI_10, gup2_k _ _ (by decide)]
    have kq14 : (I_10 mo 14).toInt = (I_6 mo 14).toInt := by rw [eI_10, gup2_k _ _ (by decide)]
    have kq16 : (I_10 mo 16).toInt = (I_6 mo 16).toInt := by rw [eI_10, gup2_k _ _ (by decide)]
    have kq18 : (I_10 mo 18).toInt = (I_6 mo 18).toInt := by rw [eI_10, gup2_k _ _ (by decide)]
    have kq20 : (I_10 mo 20).toInt = (I_6 mo 20).toInt := by rw [eI_10, gup2_k _ _ (by decide)]
    have kq24 : (I_10 mo 24).toInt = (I_6 mo 24).toInt := by rw [eI_10, gup2_k _ _ (by decide)]
    refine lv_aload_n F.1 F.2.1 dX7_plan_35 rfl (lv_at hl 0 rfl) ?_
    refine z_iconst F dX7_plan_36 ?_
    refine g_putI (ci := 7) (k := 24) F hH hS rfl (by decide) iX7 hm (by decide) tyX7 tyX7_ok nmX7 rfl rfl rfl k81 dX7_plan_37 (fun H locs hH hS => ?_)
    obtain ⟨I_11, eI_11⟩ : ∃ qQ, qQ = gup2 I_10 mo 24 (iI (0)) := ⟨_, rfl⟩
    rw [← eI_11] at hH
    have kI_11 : ∀ b, b ≠ mo → I_11 b = I_10 b := fun b hb => by rw [eI_11]; exact funext fun j => gup2_a _ _ hb
    have w_12 : (I_11 mo 24).toInt = 0 := by rw [eI_11, gup2_s]; exact iI_val ⟨by decide, by decide⟩
    have hv : mInv g gh R I_11 AI := by rw [eI_11]; exact mP24 hv hm (by omega) (by omega)
    have w_12_k2 : (I_11 mo 2).toInt = (I_10 mo 2).toInt := by rw [eI_11, gup2_k _ _ (by decide)]
    have w_12_k5 : (I_11 mo 5).toInt = (I_10 mo 5).toInt := by rw [eI_11, gup2_k _ _ (by decide)]
    have w_12_k14 : (I_11 mo 14).toInt = (I_10 mo 14).toInt := by rw [eI_11, gup2_k _ _ (by decide)]
    have w_12_k16 : (I_11 mo 16).toInt = (I_10 mo 16).toInt := by rw [eI_11, gup2_k _ _ (by decide)]
    have w_12_k18 : (I_11 mo 18).toInt = (I_10 mo 18).toInt := by rw [eI_11, gup2_k _ _ (by decide)]
    have w_12_k20 : (I_11 mo 20).toInt = (I_10 mo 20).toInt := by rw [eI_11, gup2_k _ _ (by decide)]
    refine lv_aload_n F.1 F.2.1 dX7_plan_40 rfl (lv_at hl 0 rfl) ?_
    refine z_iconst F dX7_plan_41 ?_
    refine g_putI (ci := 7) (k := 20) F hH hS rfl (by decide) iX7 hm (by decide) tyX7 tyX7_ok nmX7 rfl rfl rfl k84 dX7_plan_42 (fun H locs hH hS => ?_)
    obtain ⟨I_13, eI_13⟩ : ∃ qQ, qQ = gup2 I_11 mo 20 (iI (0)) := ⟨_, rfl⟩
    rw [← eI_13] at hH
    have kI_13 : ∀ b, b ≠ mo → I_13 b = I_11 b := fun b hb => by rw [eI_13]; exact funext fun j => gup2_a _ _ hb
    have w_14 : (I_13 mo 20).toInt = 0 := by rw [eI_13, gup2_s]; exact iI_val ⟨by decide, by decide⟩
    have hv : mInv g gh R I_13 AI := by rw [eI_13]; exact mP20 hv hm (by omega) (by omega)
    have w_14_k2 : (I_13 mo 2).toInt = (I_11 mo 2).toInt := by rw [eI_13, gup2_k _ _ (by decide)]
    have w_14_k5 : (I_13 mo 5).toInt = (I_11 mo 5).toInt := by rw [eI_13, gup2_k _ _ (by decide)]
    have w_14_k14 : (I_13 mo 14).toInt = (I_11 mo 14).toInt := by rw [eI_13, gup2_k _ _ (by decide)]
    have w_14_k16 : (I_13 mo 16).toInt = (I_11 mo 16).toInt := by rw [eI_13, gup2_k _ _ (by decide)]
    have w_14_k18 : (I_13 mo 18).toInt = (I_11 mo 18).toInt := by rw [eI_13, gup2_k _ _ (by decide)]
    have w_14_k24 : (I_13 mo 24).toInt = (I_11 mo 24).toInt := by rw [eI_13, gup2_k _ _ (by decide)]
    refine z_iconst F dX7_plan_45 ?_
    refine lv_istore_n (lv' := [(1, .int (iI 0)), (0, .ref mo)]) F.1 F.2.1 dX7_plan_46 rfl hl (by decide) rfl (fun ls hl => ?_)
    refine lv_aload_n F.1 F.2.1 dX7_plan_47 rfl (lv_at hl 1 rfl) ?_
    have b_15 := mJ hv hm
    unfold mNum1 at b_15
    refine g_callv (g_runV (As := []) (rest := []) (ci := 7) F hl.1 hH hS hz (c_X7_next l g gh T I_13 R J AI AJ AR mo hv hm hT (by omega)) (cwV 0 F.2.2.2.2.1 (good_up gT_X7_next) rfl rfl rfl hdX7_next ⟨Nat.le_of_ble_eq_true rfl, Nat.le_of_ble_eq_true rfl⟩) hm (by decide) rfl rfl rfl (Nat.le_of_ble_eq_true rfl) dX7_plan_48 ⟨Nat.zero_le _, Nat.zero_le _⟩) hS (fun I_16 R_17 J_18 AI_19 AJ_20 AR_21 H locs hp_22 hH hS => ?_)
    dsimp only at hp_22
    obtain ⟨rfl, rfl, rfl, rfl, hv, pfq, q_23, q_24⟩ := hp_22
    have t2_w := congrArg Int32.toInt (pfq 2 (by decide) (by decide) (by decide) (by decide) (by decide))
    have t5_w := congrArg Int32.toInt (pfq 5 (by decide) (by decide) (by decide) (by decide) (by decide))
    have t14_w := congrArg Int32.toInt (pfq 14 (by decide) (by decide) (by decide) (by decide) (by decide))
    have t16_w := congrArg Int32.toInt (pfq 16 (by decide) (by decide) (by decide) (by decide) (by decide))
    have t18_w := congrArg Int32.toInt (pfq 18 (by decide) (by decide) (by decide) (by decide) (by decide))
    have cut_131_28 : ∀ (bx : Int) (I_25 : gI) (J_26 : gJ) (AI_27 : gI) (AJ_28 : gJ) (H : Heap) (locs : List Loc) (ls : Array Slot), zr bx → (mInv g gh R I_25 AI_27) → (AI_27 (gh 50 0) = T) → ((I_25 mo 16).toInt = 0) → gH g I_25 R J_26 AI_27 AJ_28 AR H → va_S (gA g) s.heap H locs → lv_has ls 3 [(1, .int (iI bx)), (0, .ref mo)] → W p l e rmX7_plan s m ([.ref mo] : List Value).toArray below meth c H locs 0 0 (MQ below (gQi g (fun (z : Int) (w : gS) => R = w.2.1 ∧ AR = w.2.2.2.2.2 ∧ (mInv g gh R (w.1) (w.2.2.2.1)) ∧ (((w.1) mo 16).toInt = 0))) ([.ref mo] : List Value).toArray s 0 0 (gA g)) (F0 m 131 ls []) := by
      intro bx I_25 J_26 AI_27 AJ_28 H locs ls zbx hv hT h131 hH hS hl
      refine lv_aload_n F.1 F.2.1 dX7_plan_131 rfl (lv_at hl 1 rfl) ?_
      refine g_getI (ci := 7) (k := 24) F hH rfl (by decide) iX7 hm (by decide) rfl k81 dX7_plan_132 ?_
      have b_30 := mJ hv hm
      unfold mNum1 at b_30
      refine z_if_le (tgt := 146) F dX7_plan_135 (by decide) (zr_t _) (fun c_31 => ?_) (fun c_31 => ?_)
      · have hJ := mJ hv hm
        unfold mNum1 at hJ
        obtain ⟨M9, eM9⟩ : ∃ q, q = (I_25 mo 5).toInt := ⟨_, rfl⟩
        have h169 : (I_25 mo 16).toInt = 0 := by omega
        refine lv_aload_n F.1 F.2.1 dX7_plan_146 rfl (lv_at hl 1 rfl) ?_
        refine lv_aload_n F.1 F.2.1 dX7_plan_147 rfl (lv_at hl 1 rfl) ?_
        refine g_getI (ci := 7) (k := 5) F hH rfl (by decide) iX7 hm (by decide) rfl k184 dX7_plan_148 ?_
        refine g_putI (ci := 7) (k := 2) F hH hS rfl (by decide) iX7 hm (by decide) tyX7 tyX7_ok nmX7 rfl rfl rfl k64 dX7_plan_151 (fun H locs hH hS => ?_)
        obtain ⟨I_32, eI_32⟩ : ∃ qQ, qQ = gup2 I_25 mo 2 (iI ((I_25 mo 5).toInt)) := ⟨_, rfl⟩
        rw [← eI_32] at hH
        have kI_32 : ∀ b, b ≠ mo → I_32 b = I_25 b := fun b hb => by rw [eI_32]; exact funext fun j => gup2_a _ _ hb
        have hN := mI hv hm
        have hR9 : ∀ r : Int, 0 ≤ r → r < (I_25 mo 5).toInt → rowOK (AI_27 (gh 53 0)) r := fun r h0 h1 => mRead hv hm h0 h1
        obtain ⟨Iv, eIv⟩ : ∃ q, q = gup2 I_25 mo 2 (iI 0) := ⟨_, rfl⟩
        have hv : mInv g gh R Iv AI_27 := by rw [eIv]; exact mP2_0 hv hm
        have h2v : (Iv mo 2).toInt = 0 := by rw [eIv, gup2_s]; exact iI_val ⟨by decide, by decide⟩
        have h5v : (Iv mo 5).toInt = M9 := by rw [eIv, gup2_k _ _ (by decide)]; exact eM9.symm
        refine z_iconst F dX7_plan_154 ?_
        refine lv_istore_n (lv' := [(2, .int (iI 0)), (1, .int (iI bx)), (0, .ref mo)]) F.1 F.2.1 dX7_plan_155 rfl hl (by decide) rfl (fun ls hl => ?_)
        have cut_156_33 : ∀ (NN : Nat) (i : Int) (AI_33 : gI) (H : Heap) (locs : List Loc) (ls : Array Slot), zr i → (0 ≤ i ∧ i ≤ 640) → (mInv g gh R Iv AI_33) → (∀ y : Int, 0 ≤ y → y < i → tI (AI_33 (gh 50 0)) y = tI (AI_33 (gh 53 0)) y) → (640 - i) < ((NN : Nat) : Int) → gH g I_32 R J_26 AI_33 AJ_28 AR H → va_S (gA g) s.heap H locs → lv_has ls 3 [(2, .int (iI i)), (1, .int (iI bx)), (0, .ref mo)] → W p l e rmX7_plan s m ([.ref mo] : List Value).toArray below meth c H locs 0 0 (MQ below (gQi g (fun (z : Int) (w : gS) => R = w.2.1 ∧ AR = w.2.2.2.2.2 ∧ (mInv g gh R (w.1) (w.2.2.2.1)) ∧ (((w.1) mo 16).toInt = 0))) ([.ref mo] : List Value).toArray s 0 0 (gA g)) (F0 m 156 ls []) := by
          intro NN156
          induction NN156 with
          | zero =>
            intro i AI_33 H locs ls zi hi hv hcp hm156 hH hS hl
            exact absurd hm156 (by omega)
          | succ NN156 ih156 =>
            intro i AI_33 H locs ls zi hi hv hcp hm156 hH hS hl
            refine lv_iload_n F.1 F.2.1 dX7_plan_156 rfl (lv_at hl 0 rfl) ?_
            refine z_sipush F dX7_plan_157 (by decide) ?_
            refine z_icmp_ge (tgt := 181) F dX7_plan_160 (by decide) zi ⟨by decide, by decide⟩ (fun c_35 => ?_) (fun c_35 => ?_)
            · have hrs : ∀ r : Int, 0 ≤ r → r < M9 → rowOK (AI_33 (gh 50 0)) r := fun r h0 h1 => rowOK_c h0 (fun z a b => hcp z a (by omega)) (mRead hv hm h0 (by omega))
              refine z_iconst F dX7_plan_181 ?_
              refine lv_istore_n (lv' := [(2, .int (iI 0)), (1, .int (iI bx)), (0, .ref mo)]) F.1 F.2.1 dX7_plan_182 rfl hl (by decide) rfl (fun ls hl => ?_)
              have cut_183_36 : ∀ (NN : Nat) (i2 : Int) (AJ_36 : gJ) (H : Heap) (locs : List Loc) (ls : Array Slot), zr i2 → (0 ≤ i2 ∧ i2 ≤ 16) → (16 - i2) < ((NN : Nat) : Int) → gH g I_32 R J_26 AI_33 AJ_36 AR H → va_S (gA g) s.heap H locs → lv_has ls 3 [(2, .int (iI i2)), (1, .int (iI bx)), (0, .ref mo)] → W p l e rmX7_plan s m ([.ref mo] : List Value).toArray below meth c H locs 0 0 (MQ below (gQi g (fun (z : Int) (w : gS) => R = w.2.1 ∧ AR = w.2.2.2.2.2 ∧ (mInv g gh R (w.1) (w.2.2.2.1)) ∧ (((w.1) mo 16).toInt = 0))) ([.ref mo] : List Value).toArray s 0 0 (gA g)) (F0 m 183 ls []) := by
                intro NN183
                induction NN183 with
                | zero =>
                  intro i2 AJ_36 H locs ls zi2 hi2 hm183 hH hS hl
                  exact absurd hm183 (by omega)
                | succ NN183 ih183 =>
                  intro i2 AJ_36 H locs ls zi2 hi2 hm183 hH hS hl
                  refine lv_iload_n F.1 F.2.1 dX7_plan_183 rfl (lv_at hl 0 rfl) ?_
                  refine z_bipush F dX7_plan_184 (by decide) ?_
                  refine z_icmp_ge (tgt := 207) F dX7_plan_186 (by decide) zi2 ⟨by decide, by decide⟩ (fun c_38 => ?_) (fun c_38 => ?_)
                  · refine z_iconst F dX7_plan_207 ?_
                    refine lv_istore_n (lv' := [(2, .int (iI 0)), (1, .int (iI bx)), (0, .ref mo)]) F.1 F.2.1 dX7_plan_208 rfl hl (by decide) rfl (fun ls hl => ?_)
                    have cut_209_39 : ∀ (NN : Nat) (i3 : Int) (AI_39 : gI) (H : Heap) (locs : List Loc) (ls : Array Slot), zr i3 → (0 ≤ i3 ∧ i3 ≤ 176) → (mInv g gh R Iv AI_39) → (∀ r : Int, 0 ≤ r → r < M9 → rowOK (AI_39 (gh 50 0)) r) → (176 - i3) < ((NN : Nat) : Int) → gH g I_32 R J_26 AI_39 AJ_36 AR H → va_S (gA g) s.heap H locs → lv_has ls 3 [(2, .int (iI i3)), (1, .int (iI bx)), (0, .ref mo)] → W p l e rmX7_plan s m ([.ref mo] : List Value).toArray below meth c H locs 0 0 (MQ below (gQi g (fun (z : Int) (w : gS) => R = w.2.1 ∧ AR = w.2.2.2.2.2 ∧ (mInv g gh R (w.1) (w.2.2.2.1)) ∧ (((w.1) mo 16).toInt = 0))) ([.ref mo] : List Value).toArray s 0 0 (gA g)) (F0 m 209 ls []) := by
                      intro NN209
                      induction NN209 with
                      | zero =>
                        intro i3 AI_39 H locs ls zi3 hi3 hv hrs hm209 hH hS hl
                        exact absurd hm209 (by omega)
                      | succ NN209 ih209 =>
                        intro i3 AI_39 H locs ls zi3 hi3 hv hrs hm209 hH hS hl
                        refine lv_iload_n F.1 F.2.1 dX7_plan_209 rfl (lv_at hl 0 rfl) ?_
                        refine z_sipush F dX7_plan_210 (by decide) ?_
                        refine z_icmp_ge (tgt := 229) F dX7_plan_213 (by decide) zi3 ⟨by decide, by decide⟩ (fun c_41 => ?_) (fun c_41 => ?_)
                        · refine z_iconst F dX7_plan_229 ?_
                          refine lv_istore_n (lv' := [(2, .int (iI 0)), (1, .int (iI bx)), (0, .ref mo)]) F.1 F.2.1 dX7_plan_230 rfl hl (by decide) rfl (fun ls hl => ?_)
                          have cut_231_42 : ∀ (NN : Nat) (i4 : Int) (AI_42 : gI) (H : Heap) (locs : List Loc) (ls : Array Slot), zr i4 → (0 ≤ i4 ∧ i4 ≤ 16) → (mInv g gh R Iv AI_42) → (∀ r : Int, 0 ≤ r → r < M9 → rowOK (AI_42 (gh 50 0)) r) → (16 - i4) < ((NN : Nat) : Int) → gH g I_32 R J_26 AI_42 AJ_36 AR H → va_S (gA g) s.heap H locs → lv_has ls 3 [(2, .int (iI i4)), (1, .int (iI bx)), (0, .ref mo)] → W p l e rmX7_plan s m ([.ref mo] : List Value).toArray below meth c H locs 0 0 (MQ below (gQi g (fun (z : Int) (w : gS) => R = w.2.1 ∧ AR = w.2.2.2.2.2 ∧ (mInv g gh R (w.1) (w.2.2.2.1)) ∧ (((w.1) mo 16).toInt = 0))) ([.ref mo] : List Value).toArray s 0 0 (gA g)) (F0 m 231 ls []) := by
                            intro NN231
                            induction NN231 with
                            | zero =>
                              intro i4 AI_42 H locs ls zi4 hi4 hv hrs hm231 hH hS hl
                              exact absurd hm231 (by omega)
                            | succ NN231 ih231 =>
                              intro i4 AI_42 H locs ls zi4 hi4 hv hrs hm231 hH hS hl
                              refine lv_iload_n F.1 F.2.1 dX7_plan_231 rfl (lv_at hl 0 rfl) ?_
                              refine z_bipush F dX7_plan_232 (by decide) ?_
                              refine z_icmp_ge (tgt := 252) F dX7_plan_234 (by decide) zi4 ⟨by decide, by decide⟩ (fun c_44 => ?_) (fun c_44 => ?_)
                              · refine lv_aload_n F.1 F.2.1 dX7_plan_252 rfl (lv_at hl 2 rfl) ?_
                                refine z_iconst F dX7_plan_253 ?_
                                refine g_putI (ci := 7) (k := 8) F hH hS rfl (by decide) iX7 hm (by decide) tyX7 tyX7_ok nmX7 rfl rfl rfl k257 dX7_plan_254 (fun H locs hH hS => ?_)
                                obtain ⟨I_45, eI_45⟩ : ∃ qQ, qQ = gup2 I_32 mo 8 (iI (0)) := ⟨_, rfl⟩
                                rw [← eI_45] at hH
                                have kI_45 : ∀ b, b ≠ mo → I_45 b = I_32 b := fun b hb => by rw [eI_45]; exact funext fun j => gup2_a _ _ hb
                                refine lv_aload_n F.1 F.2.1 dX7_plan_257 rfl (lv_at hl 2 rfl) ?_
                                refine z_iconst F dX7_plan_258 ?_
                                refine g_putI (ci := 7) (k := 9) F hH hS rfl (by decide) iX7 hm (by decide) tyX7 tyX7_ok nmX7 rfl rfl rfl k260 dX7_plan_259 (fun H locs hH hS => ?_)
                                obtain ⟨I_46, eI_46⟩ : ∃ qQ, qQ = gup2 I_45 mo 9 (iI (0)) := ⟨_, rfl⟩
                                rw [← eI_46] at hH
                                have kI_46 : ∀ b, b ≠ mo → I_46 b = I_45 b := fun b hb => by rw [eI_46]; exact funext fun j => gup2_a _ _ hb
                                refine lv_aload_n F.1 F.2.1 dX7_plan_262 rfl (lv_at hl 2 rfl) ?_
                                refine z_iconst F dX7_plan_263 ?_
                                refine g_putI (ci := 7) (k := 10) F hH hS rfl (by decide) iX7 hm (by decide) tyX7 tyX7_ok nmX7 rfl rfl rfl k263 dX7_plan_264 (fun H locs hH hS => ?_)
                                obtain ⟨I_47, eI_47⟩ : ∃ qQ, qQ = gup2 I_46 mo 10 (iI (0)) := ⟨_, rfl⟩
                                rw [← eI_47] at hH
                                have kI_47 : ∀ b, b ≠ mo → I_47 b = I_46 b := fun b hb => by rw [eI_47]; exact funext fun j => gup2_a _ _ hb
                                refine lv_aload_n F.1 F.2.1 dX7_plan_267 rfl (lv_at hl 2 rfl) ?_
                                refine z_iconst F dX7_plan_268 ?_
                                refine g_putI (ci := 7) (k := 14) F hH hS rfl (by decide) iX7 hm (by decide) tyX7 tyX7_ok nmX7 rfl rfl rfl k266 dX7_plan_269 (fun H locs hH hS => ?_)
                                obtain ⟨I_48, eI_48⟩ : ∃ qQ, qQ = gup2 I_47 mo 14 (iI (0)) := ⟨_, rfl⟩
                                rw [← eI_48] at hH
                                have kI_48 : ∀ b, b ≠ mo → I_48 b = I_47 b := fun b hb => by rw [eI_48]; exact funext fun j => gup2_a _ _ hb
                                obtain ⟨hv, ht16⟩ := mPlan hv hm hN eIv eM9 (I' := I_48) (by rw [eI_48, eI_47, eI_46, eI_45, eI_32, eM9]) hrs
                                refine lv_aload_n F.1 F.2.1 dX7_plan_272 rfl (lv_at hl 2 rfl) ?_
                                refine g_getI (ci := 7) (k := 2) F hH rfl (by decide) iX7 hm (by decide) rfl k64 dX7_plan_273 ?_
                                have b_49 := mJ hv hm
                                unfold mNum1 at b_49
                                exact g_iret F hr hlk hH hS hz (zr_t _) ⟨rfl, rfl, hv, by first | omega | rfl | (dsimp only; omega)⟩ dX7_plan_276
                              · refine lv_aload_n F.1 F.2.1 dX7_plan_237 rfl (lv_at hl 2 rfl) ?_
                                obtain ⟨r_50a, r_50b⟩ : R mo 29 = some (gh 79 0) ∧ gAr g (gh 79 0) 9 176 := mR hv hm (q := (29, 176)) (by decide)
                                refine g_getR (ci := 7) (k := 29) F hH rfl (by decide) iX7 hm (by decide) rfl (b := gh 79 0) r_50a k51 dX7_plan_238 ?_
                                refine z_iconst F dX7_plan_241 ?_
                                refine lv_iload_n F.1 F.2.1 dX7_plan_242 rfl (lv_at hl 0 rfl) ?_
                                refine z_iadd F dX7_plan_243 ?_
                                refine z_iconst F dX7_plan_244 ?_
                                have hx245 : 0 ≤ (0 + i4) ∧ (0 + i4) < ((176 : Nat) : Int) ∧ (0 + i4) ≤ 2147483647 := ⟨by omega, by omega, by omega⟩
                                refine g_iast F hH hS r_50b hx245.1 hx245.2.1 hx245.2.2 dX7_plan_245 (fun H locs hH hS => ?_)
                                obtain ⟨AI_51, eAI_51⟩ : ∃ qQ, qQ = gup2 AI_42 (gh 79 0) ((0 + i4)).toNat (iI (0)) := ⟨_, rfl⟩
                                rw [← eAI_51] at hH
                                have kAI_51 : ∀ b, b ≠ (gh 79 0) → AI_51 b = AI_42 b := fun b hb => by rw [eAI_51]; exact funext fun j => gup2_a _ _ hb
                                have t50 : AI_51 (gh 50 0) = AI_42 (gh 50 0) := mK hv hm (p := (0, 640)) (q := (29, 176)) (by decide) (by decide) (by decide) kAI_51
                                have hv : mInv g gh R Iv AI_51 := mInv_a hv hm (q := (29, 176)) (by decide) (by decide) kAI_51
                                have hrs : ∀ r : Int, 0 ≤ r → r < M9 → rowOK (AI_51 (gh 50 0)) r := by rw [t50]; exact hrs
                                refine z_iinc (lv' := [(2, .int (iI (i4 + 1))), (1, .int (iI bx)), (0, .ref mo)]) F dX7_plan_246 hl (k := 0) rfl (by decide) rfl (fun ls hl => ?_)
                                refine z_goto (tgt := 231) F dX7_plan_249 (by decide) ?_
                                exact ih231 (i4 + 1) AI_51 H locs ls ⟨by omega, by omega⟩ (by omega) hv hrs (by omega) hH hS (lv_sub hl [0, 1, 2] rfl)
                          exact cut_231_42 (((16 - 0) + 1 : Int).toNat) 0 AI_39 H locs ls ⟨by decide, by decide⟩ (by omega) hv hrs (by omega) hH hS (lv_sub hl [0, 1, 2] rfl)
                        · refine lv_aload_n F.1 F.2.1 dX7_plan_216 rfl (lv_at hl 2 rfl) ?_
                          obtain ⟨r_52a, r_52b⟩ : R mo 7 = some (gh 57 0) ∧ gAr g (gh 57 0) 9 176 := mR hv hm (q := (7, 176)) (by decide)
                          refine g_getR (ci := 7) (k := 7) F hH rfl (by decide) iX7 hm (by decide) rfl (b := gh 57 0) r_52a k27 dX7_plan_217 ?_
                          refine lv_iload_n F.1 F.2.1 dX7_plan_220 rfl (lv_at hl 0 rfl) ?_
                          refine z_iconst F dX7_plan_221 ?_
                          have hx222 : 0 ≤ i3 ∧ i3 < ((176 : Nat) : Int) ∧ i3 ≤ 2147483647 := ⟨by omega, by omega, by omega⟩
                          refine g_iast F hH hS r_52b hx222.1 hx222.2.1 hx222.2.2 dX7_plan_222 (fun H locs hH hS => ?_)
                          obtain ⟨AI_53, eAI_53⟩ : ∃ qQ, qQ = gup2 AI_39 (gh 57 0) (i3).toNat (iI (0)) := ⟨_, rfl⟩
                          rw [← eAI_53] at hH
                          have kAI_53 : ∀ b, b ≠ (gh 57 0) → AI_53 b = AI_39 b := fun b hb => by rw [eAI_53]; exact funext fun j => gup2_a _ _ hb
                          have t50 : AI_53 (gh 50 0) = AI_39 (gh 50 0) := mK hv hm (p := (0, 640)) (q := (7, 176)) (by decide) (by decide) (by decide) kAI_53
                          have hv : mInv g gh R Iv AI_53 := mInv_sizes1 hv hm eAI_53 (by omega) (by omega)
                          have hrs : ∀ r : Int, 0 ≤ r → r < M9 → rowOK (AI_53 (gh 50 0)) r := by rw [t50]; exact hrs
                          refine z_iinc (lv' := [(2, .int (iI (i3 + 1))), (1, .int (iI bx)), (0, .ref mo)]) F dX7_plan_223 hl (k := 0) rfl (by decide) rfl (fun ls hl => ?_)
                          refine z_goto (tgt := 209) F dX7_plan_226 (by decide) ?_
                          exact ih209 (i3 + 1) AI_53 H locs ls ⟨by omega, by omega⟩ (by omega) hv hrs (by omega) hH hS (lv_sub hl [0, 1, 2] rfl)
                    exact cut_209_39 (((176 - 0) + 1 : Int).toNat) 0 AI_33 H locs ls ⟨by decide, by decide⟩ (by omega) hv hrs (by omega) hH hS (lv_sub hl [0, 1, 2] rfl)
                  · refine lv_aload_n F.1 F.2.1 dX7_plan_189 rfl (lv_at hl 2 rfl) ?_
                    refine g_getR (ci := 7) (k := 1) F hH rfl (by decide) iX7 hm (by decide) rfl (b := gh 51 0) (hv.1 mo hm).2.2.1.1 k13 dX7_plan_190 ?_
                    refine lv_iload_n F.1 F.2.1 dX7_plan_193 rfl (lv_at hl 0 rfl) ?_
                    refine lv_aload_n F.1 F.2.1 dX7_plan_194 rfl (lv_at hl 2 rfl) ?_
                    refine g_getR (ci := 7) (k := 4) F hH rfl (by decide) iX7 hm (by decide) rfl (b := gh 54 0) (hv.1 mo hm).2.2.2.1 k20 dX7_plan_195 ?_
                    refine lv_iload_n F.1 F.2.1 dX7_plan_198 rfl (lv_at hl 0 rfl) ?_
                    have hx199 : 0 ≤ i2 ∧ i2 < ((16 : Nat) : Int) ∧ i2 ≤ 2147483647 := ⟨by omega, by omega, by omega⟩
                    refine g_lald F hH (hv.1 mo hm).2.2.2.2 hx199.1 hx199.2.1 hx199.2.2 dX7_plan_199 ?_
                    refine lv_topl (fun j_54 ej_54 => ?_)
                    have hx200 : 0 ≤ i2 ∧ i2 < ((16 : Nat) : Int) ∧ i2 ≤ 2147483647 := ⟨by omega, by omega, by omega⟩
                    refine g_last F hH hS (hv.1 mo hm).2.2.1.2 hx200.1 hx200.2.1 hx200.2.2 dX7_plan_200 (fun H locs hH hS => ?_)
                    obtain ⟨AJ_55, eAJ_55⟩ : ∃ qQ, qQ = gup2 AJ_36 (gh 51 0) (i2).toNat (j_54) := ⟨_, rfl⟩
                    rw [← eAJ_55] at hH
                    have kAJ_55 : ∀ b, b ≠ (gh 51 0) → AJ_55 b = AJ_36 b := fun b hb => by rw [eAJ_55]; exact funext fun j => gup2_a _ _ hb
                    refine z_iinc (lv' := [(2, .int (iI (i2 + 1))), (1, .int (iI bx)), (0, .ref mo)]) F dX7_plan_201 hl (k := 0) rfl (by decide) rfl (fun ls hl => ?_)
                    refine z_goto (tgt := 183) F dX7_plan_204 (by decide) ?_
                    exact ih183 (i2 + 1) AJ_55 H locs ls ⟨by omega, by omega⟩ (by omega) (by omega) hH hS (lv_sub hl [0, 1, 2] rfl)
              exact cut_183_36 (((16 - 0) + 1 : Int).toNat) 0 AJ_28 H locs ls ⟨by decide, by decide⟩ (by omega) (by omega) hH hS (lv_sub hl [0, 1, 2] rfl)
            · refine lv_aload_n F.1 F.2.1 dX7_plan_163 rfl (lv_at hl 2 rfl) ?_
              obtain ⟨r_56a, r_56b⟩ : R mo 0 = some (gh 50 0) ∧ gAr g (gh 50 0) 9 640 := mR hv hm (q := (0, 640)) (by decide)
              refine g_getR (ci := 7) (k := 0) F hH rfl (by decide) iX7 hm (by decide) rfl (b := gh 50 0) r_56a k7 dX7_plan_164 ?_
              refine lv_iload_n F.1 F.2.1 dX7_plan_167 rfl (lv_at hl 0 rfl) ?_
              refine lv_aload_n F.1 F.2.1 dX7_plan_168 rfl (lv_at hl 2 rfl) ?_
              obtain ⟨r_57a, r_57b⟩ : R mo 3 = some (gh 53 0) ∧ gAr g (gh 53 0) 9 640 := mR hv hm (q := (3, 640)) (by decide)
              refine g_getR (ci := 7) (k := 3) F hH rfl (by decide) iX7 hm (by decide) rfl (b := gh 53 0) r_57a k17 dX7_plan_169 ?_
              refine lv_iload_n F.1 F.2.1 dX7_plan_172 rfl (lv_at hl 0 rfl) ?_
              have hx173 : 0 ≤ i ∧ i < ((640 : Nat) : Int) ∧ i ≤ 2147483647 := ⟨by omega, by omega, by omega⟩
              refine g_iald F hH r_57b hx173.1 hx173.2.1 hx173.2.2 dX7_plan_173 ?_
              refine z_name (fun v_58 ev_58 => ?_)
              have zv_58 : zr v_58 := by rw [ev_58]; exact zr_t _
              have hx174 : 0 ≤ i ∧ i < ((640 : Nat) : Int) ∧ i ≤ 2147483647 := ⟨by omega, by omega, by omega⟩
              refine g_iast F hH hS r_56b hx174.1 hx174.2.1 hx174.2.2 dX7_plan_174 (fun H locs hH hS => ?_)
              obtain ⟨AI_59, eAI_59⟩ : ∃ qQ, qQ = gup2 AI_33 (gh 50 0) (i).toNat (iI (v_58)) := ⟨_, rfl⟩
              rw [← eAI_59] at hH
              have kAI_59 : ∀ b, b ≠ (gh 50 0) → AI_59 b = AI_33 b := fun b hb => by rw [eAI_59]; exact funext fun j => gup2_a _ _ hb
              have hcp2 := mCp hv hm (by omega) eAI_59 ev_58 hcp
              have hv : mInv g gh R Iv AI_59 := mInv_told0 hv hm h2v eAI_59
              refine z_iinc (lv' := [(2, .int (iI (i + 1))), (1, .int (iI bx)), (0, .ref mo)]) F dX7_plan_175 hl (k := 0) rfl (by decide) rfl (fun ls hl => ?_)
              refine z_goto (tgt := 156) F dX7_plan_178 (by decide) ?_
              exact ih156 (i + 1) AI_59 H locs ls ⟨by omega, by omega⟩ (by omega) hv (by first | exact hcp2 | exact (fun y h0 h1 => absurd h1 (by omega))) (by omega) hH hS (lv_sub hl [0, 1, 2] rfl)
        exact cut_156_33 (((640 - 0) + 1 : Int).toNat) 0 AI_27 H locs ls ⟨by decide, by decide⟩ (by omega) hv (by first | exact hcp2 | exact (fun y h0 h1 => absurd h1 (by omega))) (by omega) hH hS (lv_sub hl [0, 1, 2] rfl)
      · refine z_bipush F dX7_plan_138 (by decide) ?_
        refine lv_aload_n F.1 F.2.1 dX7_plan_140 rfl (lv_at hl 1 rfl) ?_
        refine g_getI (ci := 7) (k := 24) F hH rfl (by decide) iX7 hm (by decide) rfl k81 dX7_plan_141 ?_
        refine z_isub F dX7_plan_144 ?_
        exact g_iret F hr hlk hH hS hz ⟨by omega, by omega⟩ ⟨rfl, rfl, hv, by first | omega | rfl | (dsimp only; omega)⟩ dX7_plan_145
    refine lv_aload_n F.1 F.2.1 dX7_plan_51 rfl (lv_at hl 1 rfl) ?_
    refine g_getI (ci := 7) (k := 24) F hH rfl (by decide) iX7 hm (by decide) rfl k81 dX7_plan_52 ?_
    have b_60 := mJ hv hm
    unfold mNum1 at b_60
    refine z_if_ne (tgt := 131) F dX7_plan_55 (by decide) (zr_t _) (fun c_61 => ?_) (fun c_61 => ?_)
    · exact cut_131_28 0 I_16 J_18 AI AJ H locs ls ⟨by decide, by decide⟩ hv hT (by omega) hH hS (lv_sub hl [0, 1] rfl)
    · have cut_58_65 : ∀ (NN : Nat) (bh : Int) (I_62 : gI) (J_63 : gJ) (AI_64 : gI) (AJ_65 : gJ) (H : Heap) (locs : List Loc) (ls : Array Slot), zr bh → (mInv g gh R I_62 AI_64) → (AI_64 (gh 50 0) = T) → ((I_62 mo 20).toInt ≤ 936 ∧ (I_62 mo 24).toInt = 0 ∧ (I_62 mo 16).toInt = 0 ∧ (bh = 0 ∨ bh = 1)) → (bh = 0 → ∀ r : Int, 0 ≤ r → r < (I_62 mo 5).toInt → tI (AI_64 (gh 53 0)) (40 * r) = 0) → ((17 - (I_62 mo 5).toInt).toNat : Int) < ((NN : Nat) : Int) → gH g I_62 R J_63 AI_64 AJ_65 AR H → va_S (gA g) s.heap H locs → lv_has ls 3 [(1, .int (iI bh)), (0, .ref mo)] → W p l e rmX7_plan s m ([.ref mo] : List Value).toArray below meth c H locs 0 0 (MQ below (gQi g (fun (z : Int) (w : gS) => R = w.2.1 ∧ AR = w.2.2.2.2.2 ∧ (mInv g gh R (w.1) (w.2.2.2.1)) ∧ (((w.1) mo 16).toInt = 0))) ([.ref mo] : List Value).toArray s 0 0 (gA g)) (F0 m 58 ls []) := by
        intro NN58
        induction NN58 with
        | zero =>
          intro bh I_62 J_63 AI_64 AJ_65 H locs ls zbh hv hT hx vw hm58 hH hS hl
          exact absurd hm58 (by omega)
        | succ NN58 ih58 =>
          intro bh I_62 J_63 AI_64 AJ_65 H locs ls zbh hv hT hx vw hm58 hH hS hl
          obtain ⟨m0, em0⟩ : ∃ q, q = (I_62 mo 5).toInt := ⟨_, rfl⟩
          refine lv_aload_n F.1 F.2.1 dX7_plan_58 rfl (lv_at hl 1 rfl) ?_
          refine g_getI (ci := 7) (k := 21) F hH rfl (by decide) iX7 hm (by decide) rfl k94 dX7_plan_59 ?_
          have b_67 := mJ hv hm
          unfold mNum1 at b_67
          refine z_if_eq (tgt := 131) F dX7_plan_62 (by decide) (zr_t _) (fun c_68 => ?_) (fun c_68 => ?_)
          · exact cut_131_28 bh I_62 J_63 AI_64 AJ_65 H locs ls zbh hv hT (by omega) hH hS (lv_sub hl [0, 1] rfl)
          · have cut_105_72 : ∀ (b2 : Int) (I_69 : gI) (J_70 : gJ) (AI_71 : gI) (AJ_72 : gJ) (H : Heap) (locs : List Loc) (ls : Array Slot), zr b2 → (mInv g gh R I_69 AI_71) → (AI_71 (gh 50 0) = T) → ((I_69 mo 20).toInt ≤ 936 ∧ (I_69 mo 16).toInt = 0 ∧ (I_69 mo 5).toInt = m0 ∧ (b2 = 0 ∨ b2 = 1)) → ((I_69 mo 24).toInt = 0 → m0 ≤ 15 ∧ (b2 = 0 → ∀ r : Int, 0 ≤ r → r < m0 + 1 → tI (AI_71 (gh 53 0)) (40 * r) = 0)) → ((I_69 mo 24).toInt = 0 → (I_69 mo 21).toInt = 4 → (I_69 mo 23).toInt = 59 → rowOK (AI_71 (gh 53 0)) m0) → gH g I_69 R J_70 AI_71 AJ_72 AR H → va_S (gA g) s.heap H locs → lv_has ls 3 [(1, .int (iI b2)), (0, .ref mo)] → W p l e rmX7_plan s m ([.ref mo] : List Value).toArray below meth c H locs 0 0 (MQ below (gQi g (fun (z : Int) (w : gS) => R = w.2.1 ∧ AR = w.2.2.2.2.2 ∧ (mInv g gh R (w.1) (w.2.2.2.1)) ∧ (((w.1) mo 16).toInt = 0))) ([.ref mo] : List Value).toArray s 0 0 (gA g)) (F0 m 105 ls []) := by
              intro b2 I_69 J_70 AI_71 AJ_72 H locs ls zb2 hv hT h105 h105k h105r hH hS hl
              refine lv_aload_n F.1 F.2.1 dX7_plan_105 rfl (lv_at hl 1 rfl) ?_
              refine z_bipush F dX7_plan_106 (by decide) ?_
              have b_74 := mJ hv hm
              unfold mNum1 at b_74
              refine g_callv (g_runV (As := [.int (iI 59)]) (rest := []) (ci := 7) F hl.1 hH hS hz (c_X7_mustSign l g gh T I_69 R J_70 AI_71 AJ_72 AR mo 59 ⟨by decide, by decide⟩ hv hm hT (by omega)) (cwV 1 F.2.2.2.2.1 (good_up gT_X7_mustSign) rfl rfl rfl hdX7_mustSign ⟨Nat.le_of_ble_eq_true rfl, Nat.le_of_ble_eq_true rfl⟩) hm (by decide) rfl rfl rfl (Nat.le_of_ble_eq_true rfl) dX7_plan_108 ⟨Nat.zero_le _, Nat.zero_le _⟩) hS (fun I_75 R_76 J_77 AI_78 AJ_79 AR_80 H locs hp_81 hH hS => ?_)
              dsimp only at hp_81
              obtain ⟨rfl, rfl, rfl, rfl, hv, pfq, q_82, q_83⟩ := hp_81
              have t2_w := congrArg Int32.toInt (pfq 2 (by decide) (by decide) (by decide) (by decide) (by decide))
              have t5_w := congrArg Int32.toInt (pfq 5 (by decide) (by decide) (by decide) (by decide) (by decide))
              have t14_w := congrArg Int32.toInt (pfq 14 (by decide) (by decide) (by decide) (by decide) (by decide))
              have t16_w := congrArg Int32.toInt (pfq 16 (by decide) (by decide) (by decide) (by decide) (by decide))
              have t18_w := congrArg Int32.toInt (pfq 18 (by decide) (by decide) (by decide) (by decide) (by decide))
              refine lv_aload_n F.1 F.2.1 dX7_plan_111 rfl (lv_at hl 1 rfl) ?_
              refine g_getI (ci := 7) (k := 24) F hH rfl (by decide) iX7 hm (by decide) rfl k81 dX7_plan_112 ?_
              have b_84 := mJ hv hm
              unfold mNum1 at b_84
              refine z_if_ne (tgt := 51) F dX7_plan_115 (by decide) (zr_t _) (fun c_85 => ?_) (fun c_85 => ?_)
              · refine lv_aload_n F.1 F.2.1 dX7_plan_51 rfl (lv_at hl 1 rfl) ?_
                refine g_getI (ci := 7) (k := 24) F hH rfl (by decide) iX7 hm (by decide) rfl k81 dX7_plan_52 ?_
                refine z_if_ne (tgt := 131) F dX7_plan_55 (by decide) (zr_t _) (fun c_86 => ?_) (fun c_86 => ?_)
                · exact cut_131_28 b2 I_75 J_77 AI_71 AJ_72 H locs ls zb2 hv hT (by omega) hH hS (lv_sub hl [0, 1] rfl)
                · exact absurd trivial (by omega)
              · refine lv_aload_n F.1 F.2.1 dX7_plan_118 rfl (lv_at hl 1 rfl) ?_
                refine lv_dup F.1 F.2.1 dX7_plan_119 rfl ?_
                refine g_getI (ci := 7) (k := 5) F hH rfl (by decide) iX7 hm (by decide) rfl k184 dX7_plan_120 ?_
                refine z_iconst F dX7_plan_123 ?_
                refine z_iadd F dX7_plan_124 ?_
                refine g_putI (ci := 7) (k := 5) F hH hS rfl (by decide) iX7 hm (by decide) tyX7 tyX7_ok nmX7 rfl rfl rfl k184 dX7_plan_125 (fun H locs hH hS => ?_)
                obtain ⟨I_87, eI_87⟩ : ∃ qQ, qQ = gup2 I_75 mo 5 (iI (((I_75 mo 5).toInt) + 1)) := ⟨_, rfl⟩
                rw [← eI_87] at hH
                have kI_87 : ∀ b, b ≠ mo → I_87 b = I_75 b := fun b hb => by rw [eI_87]; exact funext fun j => gup2_a _ _ hb
                have hv : mInv g gh R I_87 AI_71 := by rw [eI_87]; exact mP5 hv hm rfl (by omega) (by rw [show (I_75 mo 5).toInt = m0 by omega]; exact h105r (by omega) (by omega) (by omega))
                have kq5 : (I_87 mo 5).toInt = m0 + 1 := by rw [eI_87, gup2_s, iI_val ⟨by omega, by omega⟩]; omega
                have kq2 : (I_87 mo 2).toInt = (I_75 mo 2).toInt := by rw [eI_87, gup2_k _ _ (by decide)]
                have kq14 : (I_87 mo 14).toInt = (I_75 mo 14).toInt := by rw [eI_87, gup2_k _ _ (by decide)]
                have kq16 : (I_87 mo 16).toInt = (I_75 mo 16).toInt := by rw [eI_87, gup2_k _ _ (by decide)]
                have kq18 : (I_87 mo 18).toInt = (I_75 mo 18).toInt := by rw [eI_87, gup2_k _ _ (by decide)]
                have kq20 : (I_87 mo 20).toInt = (I_75 mo 20).toInt := by rw [eI_87, gup2_k _ _ (by decide)]
                have kq24 : (I_87 mo 24).toInt = (I_75 mo 24).toInt := by rw [eI_87, gup2_k _ _ (by decide)]
                refine z_goto (tgt := 51) F dX7_plan_128 (by decide) ?_
                refine lv_aload_n F.1 F.2.1 dX7_plan_51 rfl (lv_at hl 1 rfl) ?_
                refine g_getI (ci := 7) (k := 24) F hH rfl (by decide) iX7 hm (by decide) rfl k81 dX7_plan_52 ?_
                have b_88 := mJ hv hm
                unfold mNum1 at b_88
                refine z_if_ne (tgt := 131) F dX7_plan_55 (by decide) (zr_t _) (fun c_89 => ?_) (fun c_89 => ?_)
                · exact cut_131_28 b2 I_87 J_77 AI_71 AJ_72 H locs ls zb2 hv hT (by omega) hH hS (lv_sub hl [0, 1] rfl)
                · exact ih58 b2 I_87 J_77 AI_71 AJ_72 H locs ls zb2 hv hT (by omega) (by first | exact (fun _ r h0 h1 => absurd h1 (by omega)) | exact (fun hb r h0 h1 => (h105k (by omega)).2 hb r h0 (by omega))) (by omega) hH hS (lv_sub hl [0, 1] rfl)
            refine lv_aload_n F.1 F.2.1 dX7_plan_65 rfl (lv_at hl 1 rfl) ?_
            refine va_ldcS F.1 F.2.1 F.2.2.2.1 (F.2.2.2.2.2.2.1 7 _ rfl).1 dX7_plan_66 ?_
            refine g_calli (g_runV (As := [.ref (gSK g 7)]) (rest := []) (ci := 7) F hl.1 hH hS hz (c_X7_isWord l g gh T 7 _ I_62 R J_63 AI_64 AJ_65 AR mo hv hm hT (rfl : sTab[7]? = some _)) (cwV 1 F.2.2.2.2.1 (good_up gT_X7_isWord) rfl rfl rfl hdX7_isWord ⟨Nat.le_of_ble_eq_true rfl, Nat.le_of_ble_eq_true rfl⟩) hm (by decide) rfl rfl rfl (Nat.le_of_ble_eq_true rfl) dX7_plan_68 ⟨Nat.zero_le _, Nat.zero_le _⟩) hS (fun v_96 I_90 R_91 J_92 AI_93 AJ_94 AR_95 H locs zv_96 hp_97 hH hS => ?_)
            dsimp only at hp_97
            obtain ⟨rfl, rfl, rfl, rfl, rfl, rfl, q_98⟩ := hp_97
            refine z_if_eq (tgt := 82) F dX7_plan_71 (by decide) zv_96 (fun c_99 => ?_) (fun c_99 => ?_)
            · refine lv_aload_n F.1 F.2.1 dX7_plan_82 rfl (lv_at hl 1 rfl) ?_
              refine va_ldcS F.1 F.2.1 F.2.2.2.1 (F.2.2.2.2.2.2.1 8 _ rfl).1 dX7_plan_83 ?_
              refine g_calli (g_runV (As := [.ref (gSK g 8)]) (rest := []) (ci := 7) F hl.1 hH hS hz (c_X7_isWord l g gh T 8 _ I_62 R J_63 AI_64 AJ_65 AR mo hv hm hT (rfl : sTab[8]? = some _)) (cwV 1 F.2.2.2.2.1 (good_up gT_X7_isWord) rfl rfl rfl hdX7_isWord ⟨Nat.le_of_ble_eq_true rfl, Nat.le_of_ble_eq_true rfl⟩) hm (by decide) rfl rfl rfl (Nat.le_of_ble_eq_true rfl) dX7_plan_85 ⟨Nat.zero_le _, Nat.zero_le _⟩) hS (fun v_106 I_100 R_101 J_102 AI_103 AJ_104 AR_105 H locs zv_106 hp_107 hH hS => ?_)
              dsimp only at hp_107
              obtain ⟨rfl, rfl, rfl, rfl, rfl, rfl, q_108⟩ := hp_107
              refine z_if_eq (tgt := 100) F dX7_plan_88 (by decide) zv_106 (fun c_109 => ?_) (fun c_109 => ?_)
              · refine lv_aload_n F.1 F.2.1 dX7_plan_100 rfl (lv_at hl 1 rfl) ?_
                refine z_iconst F dX7_plan_101 ?_
                refine g_callv (g_runV (As := [.int (iI 1)]) (rest := []) (ci := 7) F hl.1 hH hS hz (c_X7_wrong l g gh T I_62 R J_63 AI_64 AJ_65 AR mo 1 ⟨by decide, by decide⟩ hv hm hT (by omega)) (cwV 1 F.2.2.2.2.1 (good_up gT_X7_wrong) rfl rfl rfl hdX7_wrong ⟨Nat.le_of_ble_eq_true rfl, Nat.le_of_ble_eq_true rfl⟩) hm (by decide) rfl rfl rfl (Nat.le_of_ble_eq_true rfl) dX7_plan_102 ⟨Nat.zero_le _, Nat.zero_le _⟩) hS (fun I_110 R_111 J_112 AI_113 AJ_114 AR_115 H locs hp_116 hH hS => ?_)
                dsimp only at hp_116
                obtain ⟨rfl, rfl, rfl, rfl, rfl, hv, pfq, q_117⟩ := hp_116
                have t2_w := congrArg Int32.toInt (pfq 2 (by decide) (by decide) (by decide) (by decide) (by decide))
                have t5_w := congrArg Int32.toInt (pfq 5 (by decide) (by decide) (by decide) (by decide) (by decide))
                have t14_w := congrArg Int32.toInt (pfq 14 (by decide) (by decide) (by decide) (by decide) (by decide))
                have t16_w := congrArg Int32.toInt (pfq 16 (by decide) (by decide) (by decide) (by decide) (by decide))
                have t18_w := congrArg Int32.toInt (pfq 18 (by decide) (by decide) (by decide) (by decide) (by decide))
                exact cut_105_72 bh I_110 J_63 AI_64 AJ_65 H locs ls zbh hv hT (by omega) (by first | exact (fun hf => absurd hf (by omega)) | exact (fun hf => ⟨by omega, fun _ => (hk0 (by omega)).2.2⟩) | exact (fun hf => ⟨by omega, fun h => absurd h (by omega)⟩)) (by first | exact hrow | exact (fun hf => absurd hf (by omega))) hH hS (lv_sub hl [0, 1] rfl)
              · refine z_iconst F dX7_plan_91 ?_
                refine lv_istore_n (lv' := [(1, .int (iI 1)), (0, .ref mo)]) F.1 F.2.1 dX7_plan_92 rfl hl (by decide) rfl (fun ls hl => ?_)
                refine lv_aload_n F.1 F.2.1 dX7_plan_93 rfl (lv_at hl 1 rfl) ?_
                refine g_callv (g_runV (As := []) (rest := []) (ci := 7) F hl.1 hH hS hz (c_X7_viewTold l g gh T m0 I_62 R J_63 AI_64 AJ_65 AR mo hv hm hT (by omega) (by omega)) (cwV 0 F.2.2.2.2.1 (good_up gT_X7_viewTold) rfl rfl rfl hdX7_viewTold ⟨Nat.le_of_ble_eq_true rfl, Nat.le_of_ble_eq_true rfl⟩) hm (by decide) rfl rfl rfl (Nat.le_of_ble_eq_true rfl) dX7_plan_94 ⟨Nat.zero_le _, Nat.zero_le _⟩) hS (fun I_118 R_119 J_120 AI_121 AJ_122 AR_123 H locs hp_124 hH hS => ?_)
                dsimp only at hp_124
                obtain ⟨rfl, rfl, hv, hT, pfq, q_125, hrow, q_126, hk1⟩ := hp_124
                have t2_w := congrArg Int32.toInt (pfq 2 (by decide) (by decide) (by decide) (by decide) (by decide))
                have t5_w := congrArg Int32.toInt (pfq 5 (by decide) (by decide) (by decide) (by decide) (by decide))
                have t14_w := congrArg Int32.toInt (pfq 14 (by decide) (by decide) (by decide) (by decide) (by decide))
                have t16_w := congrArg Int32.toInt (pfq 16 (by decide) (by decide) (by decide) (by decide) (by decide))
                have t18_w := congrArg Int32.toInt (pfq 18 (by decide) (by decide) (by decide) (by decide) (by decide))
                refine z_goto (tgt := 105) F dX7_plan_97 (by decide) ?_
                exact cut_105_72 1 I_118 J_120 AI_121 AJ_122 H locs ls ⟨by decide, by decide⟩ hv hT (by omega) (by first | exact (fun hf => absurd hf (by omega)) | exact (fun hf => ⟨by omega, fun _ => (hk0 (by omega)).2.2⟩) | exact (fun hf => ⟨by omega, fun h => absurd h (by omega)⟩)) (by first | exact hrow | exact (fun hf => absurd hf (by omega))) hH hS (lv_sub hl [0, 1] rfl)
            · refine lv_aload_n F.1 F.2.1 dX7_plan_74 rfl (lv_at hl 1 rfl) ?_
              refine lv_iload_n F.1 F.2.1 dX7_plan_75 rfl (lv_at hl 0 rfl) ?_
              refine g_callv (g_runV (As := [.int (iI bh)]) (rest := []) (ci := 7) F hl.1 hH hS hz (c_X7_tableTold l g gh T m0 I_62 R J_63 AI_64 AJ_65 AR mo bh zbh hv hm hT (by omega) (by omega) (by omega) (fun hb r h0 h1 => vw hb r h0 (by omega))) (cwV 1 F.2.2.2.2.1 (good_up gT_X7_tableTold) rfl rfl rfl hdX7_tableTold ⟨Nat.le_of_ble_eq_true rfl, Nat.le_of_ble_eq_true rfl⟩) hm (by decide) rfl rfl rfl (Nat.le_of_ble_eq_true rfl) dX7_plan_76 ⟨Nat.zero_le _, Nat.zero_le _⟩) hS (fun I_127 R_128 J_129 AI_130 AJ_131 AR_132 H locs hp_133 hH hS => ?_)
              dsimp only at hp_133
              obtain ⟨rfl, rfl, hv, hT, pfq, q_134, hrow, hk0⟩ := hp_133
              have t2_w := congrArg Int32.toInt (pfq 2 (by decide) (by decide) (by decide) (by decide) (by decide))
              have t5_w := congrArg Int32.toInt (pfq 5 (by decide) (by decide) (by decide) (by decide) (by decide))
              have t14_w := congrArg Int32.toInt (pfq 14 (by decide) (by decide) (by decide) (by decide) (by decide))
              have t16_w := congrArg Int32.toInt (pfq 16 (by decide) (by decide) (by decide) (by decide) (by decide))
              have t18_w := congrArg Int32.toInt (pfq 18 (by decide) (by decide) (by decide) (by decide) (by decide))
              refine z_goto (tgt := 105) F dX7_plan_79 (by decide) ?_
              exact cut_105_72 bh I_127 J_129 AI_130 AJ_131 H locs ls zbh hv hT (by omega) (by first | exact (fun hf => absurd hf (by omega)) | exact (fun hf => ⟨by omega, fun _ => (hk0 (by omega)).2.2⟩) | exact (fun hf => ⟨by omega, fun h => absurd h (by omega)⟩)) (by first | exact hrow | exact (fun hf => absurd hf (by omega))) hH hS (lv_sub hl [0, 1] rfl)
      exact cut_58_65 ((((17 - (I_16 mo 5).toInt).toNat : Int) + 1 : Int).toNat) 0 I_16 J_18 AI AJ H locs ls ⟨by decide, by decide⟩ hv hT (by omega) (by first | exact (fun _ r h0 h1 => absurd h1 (by omega)) | exact (fun hb r h0 h1 => (h105k (by omega)).2 hb r h0 (by omega))) (by omega) hH hS (lv_sub hl [0, 1] rfl)
  · refine z_iconst F dX7_plan_28 ?_
    exact g_iret F hr hlk hH hS hz ⟨by decide, by decide⟩ ⟨rfl, rfl, hv, by first | omega | rfl | (dsimp only; omega)⟩ dX7_plan_29
