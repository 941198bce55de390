def rmX6_pending : Room := { frames := 6, cells := 1, slots := 6, locals := 82 }
theorem hdX6_pending : yX6_pending.cls = RX6 ∧ yX6_pending.cls ≠ "java/lang/invoke/MethodHandle" ∧ yX6_pending.cls ≠ "java/lang/invoke/VarHandle" ∧ (parseMethodDescriptor yX6_pending.desc).map (fun d => d.parameters.length) = some 2 := by decide +kernel
set_option maxHeartbeats 4000000 in
set_option maxRecDepth 100000 in
/-- a change of the batch -/
theorem c_X6_pending (l : Launch) (g : gG) (gh : gGh) (pA bA nA : Nat) (I : gI) (R : gR) (J : gJ) (AI : gI) (AJ : gJ) (AR : gR) (x : Nat) (i : Int) (pl : Int) (zi : zr i) (zpl : zr pl) (hv : gInv g gh R AR I AI) (hx : xS g gh R AR x pA bA nA) (hst : l.stackTraces = false) : gMetX l g yX6_pending tsX6_pending rmX6_pending [.ref x, .int (iI i), .int (iI pl)] (I, R, J, AI, AJ, AR) (gQi g (fun (z : Int) (w : gS) => I = w.1 ∧ R = w.2.1 ∧ J = w.2.2.1 ∧ AI = w.2.2.2.1 ∧ AJ = w.2.2.2.2.1 ∧ AR = w.2.2.2.2.2)) (fun w : gS => I = w.1 ∧ R = w.2.1 ∧ J = w.2.2.1 ∧ AI = w.2.2.2.1 ∧ AJ = w.2.2.2.2.1 ∧ AR = w.2.2.2.2.2) := by
  refine gStartX (cc := cX6_pending) (maxL := 4) (ret := (some (.int))) (by decide) rfl (Nat.le_of_ble_eq_true rfl) ?_
  intro p e s m below meth c ls F hr hlk hH hz hS hxt hTh hl
  have hl : lv_has ls 4 [(0, .ref x), (1, .int (iI i)), (2, .int (iI pl))] := hl
  have hS : va_S (gA g) s.heap s.heap [] := hS
  obtain ⟨H, hHe⟩ : ∃ H : Heap, H = s.heap := ⟨_, rfl⟩
  obtain ⟨locs, hlo⟩ : ∃ k : List Loc, k = [] := ⟨_, rfl⟩
  have hH : gH g I R J AI AJ AR H := by rw [hHe]; exact hH
  have hS : va_S (gA g) s.heap H locs := by rw [hHe, hlo]; exact hS
  suffices hw : W p l e rmX6_pending s m ([.ref x, .int (iI i), .int (iI pl)] : List Value).toArray below meth c H locs 0 0 (vx_MQ below (gQi g (fun (z : Int) (w : gS) => I = w.1 ∧ R = w.2.1 ∧ J = w.2.2.1 ∧ AI = w.2.2.2.1 ∧ AJ = w.2.2.2.2.1 ∧ AR = w.2.2.2.2.2)) (vx_X (fun w : gS => I = w.1 ∧ R = w.2.1 ∧ J = w.2.2.1 ∧ AI = w.2.2.2.1 ∧ AJ = w.2.2.2.2.1 ∧ AR = w.2.2.2.2.2) (gBX g) (gA g)) ([.ref x, .int (iI i), .int (iI pl)] : List Value).toArray s 1 6 (gA g)) (F0 m 0 ls []) by
    rw [hHe, hlo] at hw; exact hw
  clear hHe hlo
  have iX6 : ∀ w ∈ u_ws RX6 TX6 18, w ∈ tsX6_pending := fun w h => List.mem_cons_of_mem _ (inTB6 w h)
  have iX4 : ∀ w ∈ u_ws RX4 TX4 4, w ∈ tsX6_pending := fun w h => List.mem_cons_of_mem _ (inTB4 w h)
  have iX2 : ∀ w ∈ u_ws RX2 TX2 3, w ∈ tsX6_pending := fun w h => List.mem_cons_of_mem _ (inTB2 w h)
  have iX0 : ∀ w ∈ u_ws RX0 TX0 15, w ∈ tsX6_pending := fun w h => List.mem_cons_of_mem _ (inTB0 w h)
  have k53 : Cond.fieldLink RX6 53 (TX6 8).1 (TX6 8).2.1 (TX6 8).2.2.1 ∈ tsX6_pending := List.mem_cons_of_mem _ (TBm (tk1 (List.mem_of_getElem? (i := 238) rfl)) rfl)
  have k99 : Cond.fieldLink RX6 99 (TX4 3).1 (TX4 3).2.1 (TX4 3).2.2.1 ∈ tsX6_pending := List.mem_cons_of_mem _ (TBm (tk1 (List.mem_of_getElem? (i := 217) rfl)) rfl)
  have k23 : Cond.fieldLink RX6 23 (TX6 3).1 (TX6 3).2.1 (TX6 3).2.2.1 ∈ tsX6_pending := List.mem_cons_of_mem _ (TBm (tk1 (List.mem_of_getElem? (i := 233) rfl)) rfl)
  have k113 : Cond.fieldLink RX6 113 (TX2 0).1 (TX2 0).2.1 (TX2 0).2.2.1 ∈ tsX6_pending := List.mem_cons_of_mem _ (TBm (tk1 (List.mem_of_getElem? (i := 156) rfl)) rfl)
  have k125 : Cond.fieldLink RX6 125 (TX0 2).1 (TX0 2).2.1 (TX0 2).2.2.1 ∈ tsX6_pending := List.mem_cons_of_mem _ (TBm (tk1 (List.mem_of_getElem? (i := 86) rfl)) rfl)
  refine lv_iload_n F.1 F.2.1 dX6_pending_0 rfl (lv_at hl 1 rfl) ?_
  refine z_iconst F dX6_pending_1 ?_
  refine z_icmp_ne (tgt := 13) F dX6_pending_2 (by decide) zi ⟨by decide, by decide⟩ (fun c_1 => ?_) (fun c_1 => ?_)
  · refine lv_iload_n F.1 F.2.1 dX6_pending_13 rfl (lv_at hl 1 rfl) ?_
    refine z_if_lt (tgt := 37) F dX6_pending_14 (by decide) zi (fun c_2 => ?_) (fun c_2 => ?_)
    · exact g_throw F hTh hst hH hS hz hxt hlk hl.1 (i := 2) rfl (fun w h => List.mem_cons_of_mem _ h) dX6_pending_37 dX6_pending_40 dX6_pending_41 dX6_pending_43 dX6_pending_46 (Nat.le_of_ble_eq_true rfl) (Nat.le_of_ble_eq_true rfl) (Nat.le_refl _) (Nat.le_refl _) ⟨rfl, rfl, rfl, rfl, rfl, rfl⟩
    · refine lv_iload_n F.1 F.2.1 dX6_pending_17 rfl (lv_at hl 1 rfl) ?_
      refine lv_aload_n F.1 F.2.1 dX6_pending_18 rfl (lv_at hl 0 rfl) ?_
      obtain ⟨r_3a, r_3b, r_3c, r_3d⟩ := gR_x8 hv hx.1
      refine g_getR (ci := 6) (k := 8) F hH rfl (by decide) iX6 hx.1 (by decide) rfl (b := gh 37 0) r_3a k53 dX6_pending_19 ?_
      refine g_getI (ci := 4) (k := 3) F hH rfl (by decide) iX4 r_3b (by decide) rfl k99 dX6_pending_22 ?_
      obtain ⟨b_4a, b_4b, b_4c, b_4d, b_4e, b_4f, b_4g, b_4h⟩ := gI_rows hv r_3b
      refine z_icmp_ge (tgt := 37) F dX6_pending_25 (by decide) zi (zr_t _) (fun c_5 => ?_) (fun c_5 => ?_)
      · exact g_throw F hTh hst hH hS hz hxt hlk hl.1 (i := 2) rfl (fun w h => List.mem_cons_of_mem _ h) dX6_pending_37 dX6_pending_40 dX6_pending_41 dX6_pending_43 dX6_pending_46 (Nat.le_of_ble_eq_true rfl) (Nat.le_of_ble_eq_true rfl) (Nat.le_refl _) (Nat.le_refl _) ⟨rfl, rfl, rfl, rfl, rfl, rfl⟩
      · refine lv_iload_n F.1 F.2.1 dX6_pending_28 rfl (lv_at hl 2 rfl) ?_
        refine z_if_lt (tgt := 37) F dX6_pending_29 (by decide) zpl (fun c_6 => ?_) (fun c_6 => ?_)
        · exact g_throw F hTh hst hH hS hz hxt hlk hl.1 (i := 2) rfl (fun w h => List.mem_cons_of_mem _ h) dX6_pending_37 dX6_pending_40 dX6_pending_41 dX6_pending_43 dX6_pending_46 (Nat.le_of_ble_eq_true rfl) (Nat.le_of_ble_eq_true rfl) (Nat.le_refl _) (Nat.le_refl _) ⟨rfl, rfl, rfl, rfl, rfl, rfl⟩
        · refine lv_iload_n F.1 F.2.1 dX6_pending_32 rfl (lv_at hl 2 rfl) ?_
          refine z_iconst F dX6_pending_33 ?_
          refine z_icmp_le (tgt := 47) F dX6_pending_34 (by decide) zpl ⟨by decide, by decide⟩ (fun c_7 => ?_) (fun c_7 => ?_)
          · refine lv_aload_n F.1 F.2.1 dX6_pending_47 rfl (lv_at hl 0 rfl) ?_
            refine g_getR (ci := 6) (k := 3) F hH rfl (by decide) iX6 hx.1 (by decide) rfl (b := pA) hx.2.1 k23 dX6_pending_48 ?_
            obtain ⟨r_8a, r_8b⟩ := gR_lines hv hx.2.2.1
            refine g_getR (ci := 2) (k := 0) F hH rfl (by decide) iX2 hx.2.2.1 (by decide) rfl (b := gh 6 pA) r_8a k113 dX6_pending_51 ?_
            refine lv_aload_n F.1 F.2.1 dX6_pending_54 rfl (lv_at hl 0 rfl) ?_
            refine g_getR (ci := 6) (k := 8) F hH rfl (by decide) iX6 hx.1 (by decide) rfl (b := gh 37 0) r_3a k53 dX6_pending_55 ?_
            refine lv_iload_n F.1 F.2.1 dX6_pending_58 rfl (lv_at hl 1 rfl) ?_
            refine z_iconst F dX6_pending_59 ?_
            refine g_calli (g_runV (As := [.int (iI i), .int (iI 0)]) (rest := [.ref (gh 6 pA)]) (ci := 4) F hl.1 hH hS hz (c_X4_cell l g gh I R J AI AJ AR (gh 37 0) i 0 zi ⟨by decide, by decide⟩ hv r_3b (by omega) (by omega) (by omega) (by omega)) (cwV 2 F.2.2.2.2.1 (good_up gTB_X6_pending_X4_cell) rfl rfl rfl hdX4_cell ⟨Nat.le_of_ble_eq_true rfl, Nat.le_of_ble_eq_true rfl⟩) r_3b (by decide) rfl rfl rfl (Nat.le_of_ble_eq_true rfl) dX6_pending_60 ⟨Nat.zero_le _, Nat.zero_le _⟩) hS (fun v_15 I_9 R_10 J_11 AI_12 AJ_13 AR_14 H locs zv_15 hp_16 hH hS => ?_)
            dsimp only at hp_16
            obtain ⟨rfl, rfl, rfl, rfl, rfl, rfl, qc⟩ := hp_16
            have hc5 := hv.2.1 (gh 37 0) r_3b r_3d i.toNat (by omega)
            rw [show 6 * i.toNat = (i * 6 + 0).toNat from by omega, ← qc] at hc5
            have hx63 : 0 ≤ v_15 ∧ v_15 < ((16 : Nat) : Int) ∧ v_15 ≤ 2147483647 := ⟨by omega, by omega, by omega⟩
            obtain ⟨y_17, y_17a, y_17b, y_17c, y_17d⟩ := gA_lines hv hx.2.2.1 (z := v_15) (by omega) (by omega)
            refine g_aldL F hH r_8b hx63.1 hx63.2.1 hx63.2.2 (b := y_17) y_17a dX6_pending_63 ?_
            refine g_getI (ci := 0) (k := 2) F hH rfl (by decide) iX0 y_17b (by decide) rfl k125 dX6_pending_64 ?_
            have b_18 := gI_line hv y_17b
            unfold vLineI at b_18
            refine lv_istore_n (lv' := [(3, .int (iI ((I y_17 2).toInt))), (0, .ref x), (1, .int (iI i)), (2, .int (iI pl))]) F.1 F.2.1 dX6_pending_67 rfl hl (by decide) rfl (fun ls hl => ?_)
            refine lv_iload_n F.1 F.2.1 dX6_pending_68 rfl (lv_at hl 3 rfl) ?_
            refine lv_iload_n F.1 F.2.1 dX6_pending_69 rfl (lv_at hl 0 rfl) ?_
            refine z_icmp_le (tgt := 88) F dX6_pending_70 (by decide) zpl (zr_t _) (fun c_19 => ?_) (fun c_19 => ?_)
            · refine lv_aload_n F.1 F.2.1 dX6_pending_88 rfl (lv_at hl 1 rfl) ?_
              refine g_getR (ci := 6) (k := 8) F hH rfl (by decide) iX6 hx.1 (by decide) rfl (b := gh 37 0) r_3a k53 dX6_pending_89 ?_
              refine lv_iload_n F.1 F.2.1 dX6_pending_92 rfl (lv_at hl 2 rfl) ?_
              refine lv_iload_n F.1 F.2.1 dX6_pending_93 rfl (lv_at hl 3 rfl) ?_
              refine g_calli (g_runV (As := [.int (iI i), .int (iI pl)]) (rest := []) (ci := 4) F hl.1 hH hS hz (c_X4_cell l g gh I R J AI AJ AR (gh 37 0) i pl zi zpl hv r_3b (by omega) (by omega) (by omega) (by omega)) (cwV 2 F.2.2.2.2.1 (good_up gTB_X6_pending_X4_cell) rfl rfl rfl hdX4_cell ⟨Nat.le_of_ble_eq_true rfl, Nat.le_of_ble_eq_true rfl⟩) r_3b (by decide) rfl rfl rfl (Nat.le_of_ble_eq_true rfl) dX6_pending_94 ⟨Nat.zero_le _, Nat.zero_le _⟩) hS (fun v_26 I_20 R_21 J_22 AI_23 AJ_24 AR_25 H locs zv_26 hp_27 hH hS => ?_)
              dsimp only at hp_27
              obtain ⟨rfl, rfl, rfl, rfl, rfl, rfl, q_28⟩ := hp_27
              exact g_iretX F hr hlk hH hS hz zv_26 ⟨rfl, rfl, rfl, rfl, rfl, rfl⟩ (by decide) (by decide) dX6_pending_97
            · refine lv_iload_n F.1 F.2.1 dX6_pending_73 rfl (lv_at hl 3 rfl) ?_
              refine z_iconst F dX6_pending_74 ?_
              refine z_icmp_ge (tgt := 88) F dX6_pending_75 (by decide) zpl ⟨by decide, by decide⟩ (fun c_29 => ?_) (fun c_29 => ?_)
              · refine lv_aload_n F.1 F.2.1 dX6_pending_88 rfl (lv_at hl 1 rfl) ?_
                refine g_getR (ci := 6) (k := 8) F hH rfl (by decide) iX6 hx.1 (by decide) rfl (b := gh 37 0) r_3a k53 dX6_pending_89 ?_
                refine lv_iload_n F.1 F.2.1 dX6_pending_92 rfl (lv_at hl 2 rfl) ?_
                refine lv_iload_n F.1 F.2.1 dX6_pending_93 rfl (lv_at hl 3 rfl) ?_
                refine g_calli (g_runV (As := [.int (iI i), .int (iI pl)]) (rest := []) (ci := 4) F hl.1 hH hS hz (c_X4_cell l g gh I R J AI AJ AR (gh 37 0) i pl zi zpl hv r_3b (by omega) (by omega) (by omega) (by omega)) (cwV 2 F.2.2.2.2.1 (good_up gTB_X6_pending_X4_cell) rfl rfl rfl hdX4_cell ⟨Nat.le_of_ble_eq_true rfl, Nat.le_of_ble_eq_true rfl⟩) r_3b (by decide) rfl rfl rfl (Nat.le_of_ble_eq_true rfl) dX6_pending_94 ⟨Nat.zero_le _, Nat.zero_le _⟩) hS (fun v_36 I_30 R_31 J_32 AI_33 AJ_34 AR_35 H locs zv_36 hp_37 hH hS => ?_)
                dsimp only at hp_37
                obtain ⟨rfl, rfl, rfl, rfl, rfl, rfl, q_38⟩ := hp_37
                exact g_iretX F hr hlk hH hS hz zv_36 ⟨rfl, rfl, rfl, rfl, rfl, rfl⟩ (by decide) (by decide) dX6_pending_97
              · exact g_throw F hTh hst hH hS hz hxt hlk hl.1 (i := 3) rfl (fun w h => List.mem_cons_of_mem _ h) dX6_pending_78 dX6_pending_81 dX6_pending_82 dX6_pending_84 dX6_pending_87 (Nat.le_of_ble_eq_true rfl) (Nat.le_of_ble_eq_true rfl) (Nat.le_refl _) (Nat.le_refl _) ⟨rfl, rfl, rfl, rfl, rfl, rfl⟩
          · exact g_throw F hTh hst hH hS hz hxt hlk hl.1 (i := 2) rfl (fun w h => List.mem_cons_of_mem _ h) dX6_pending_37 dX6_pending_40 dX6_pending_41 dX6_pending_43 dX6_pending_46 (Nat.le_of_ble_eq_true rfl) (Nat.le_of_ble_eq_true rfl) (Nat.le_refl _) (Nat.le_refl _) ⟨rfl, rfl, rfl, rfl, rfl, rfl⟩
  · refine lv_aload_n F.1 F.2.1 dX6_pending_5 rfl (lv_at hl 0 rfl) ?_
    obtain ⟨r_39a, r_39b, r_39c, r_39d⟩ := gR_x8 hv hx.1
    refine g_getR (ci := 6) (k := 8) F hH rfl (by decide) iX6 hx.1 (by decide) rfl (b := gh 37 0) r_39a k53 dX6_pending_6 ?_
    refine g_getI (ci := 4) (k := 3) F hH rfl (by decide) iX4 r_39b (by decide) rfl k99 dX6_pending_9 ?_
    obtain ⟨b_40a, b_40b, b_40c, b_40d, b_40e, b_40f, b_40g, b_40h⟩ := gI_rows hv r_39b
    exact g_iretX F hr hlk hH hS hz (zr_t _) ⟨rfl, rfl, rfl, rfl, rfl, rfl⟩ (by decide) (by decide) dX6_pending_12

theorem hdX6_tupleCell : yX6_tupleCell.cls = RX6 ∧ yX6_tupleCell.cls ≠ "java/lang/invoke/MethodHandle" ∧ yX6_tupleCell.cls ≠ "java/lang/invoke/VarHandle" ∧ (parseMethodDescriptor yX6_tupleCell.desc).map (fun d => d.parameters.length) = some 4 := by decide +kernel
theorem hdX6_at : yX6_at.cls = RX6 ∧ yX6_at.cls ≠ "java/lang/invoke/MethodHandle" ∧ yX6_at.cls ≠ "java/lang/invoke/VarHandle" ∧ (parseMethodDescriptor yX6_at.desc).map (fun d => d.parameters.length) = some 3 := by decide +kernel
theorem hdX6_movedAt : yX6_movedAt.cls = RX6 ∧ yX6_movedAt.cls ≠ "java/lang/invoke/MethodHandle" ∧ yX6_movedAt.cls ≠ "java/lang/invoke/VarHandle" ∧ (parseMethodDescriptor yX6_movedAt.desc).map (fun d => d.parameters.length) = some 3 := by decide +kernel
theorem hdX6_count : yX6_count.cls = RX6 ∧ yX6_count.cls ≠ "java/lang/invoke/MethodHandle" ∧ yX6_count.cls ≠ "java/lang/invoke/VarHandle" ∧ (parseMethodDescriptor yX6_count.desc).map (fun d => d.parameters.length) = some 5 := by decide +kernel
theorem hdX6_total : yX6_total.cls = RX6 ∧ yX6_total.cls ≠ "java/lang/invoke/MethodHandle" ∧ yX6_total.cls ≠ "java/lang/invoke/VarHandle" ∧ (parseMethodDescriptor yX6_total.desc).map (fun d => d.parameters.length) = some 1 := by decide +kernel
theorem hdX6_column : yX6_column.cls = RX6 ∧ yX6_column.cls ≠ "java/lang/invoke/MethodHandle" ∧ yX6_column.cls ≠ "java/lang/invoke/VarHandle" ∧ (parseMethodDescriptor yX6_column.desc).map (fun d => d.parameters.length) = some 3 := by decide +kernel