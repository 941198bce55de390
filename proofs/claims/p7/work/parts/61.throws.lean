def rmX6_pending : Room := { frames := 6, cells := 1, slots := 6, locals := 82 }
theorem hdX6_pending : yX6_pending.cls = RX6 ∧ yX6_pending.cls ≠ "java/lang/invoke/MethodHandle" ∧ yX6_pending.cls ≠ "java/lang/invoke/VarHandle" ∧ (parseMethodDescriptor yX6_pending.desc).map (fun d => d.parameters.length) = some 2 := by decide +kernel
set_option maxHeartbeats 4000000 in
set_option maxRecDepth 100000 in
/-- a change of the batch -/
theorem c_X6_pending (l : Launch) (g : gG) (gh : gGh) (pA bA nA : Nat) (I : gI) (R : gR) (J : gJ) (AI : gI) (AJ : gJ) (AR : gR) (x : Nat) (i : Int) (pl : Int) (zi : zr i) (zpl : zr pl) (hv : gInv g gh R AR I AI) (hx : xS g gh R AR x pA bA nA) (hst : l.stackTraces = false) : gMetX l g yX6_pending tsX6_pending rmX6_pending [.ref x, .int (iI i), .int (iI pl)] (I, R, J, AI, AJ, AR) (gQi g (fun (z : Int) (w : gS) => I = w.1 ∧ R = w.2.1 ∧ J = w.2.2.1 ∧ AI = w.2.2.2.1 ∧ AJ = w.2.2.2.2.1 ∧ AR = w.2.2.2.2.2)) (fun w : gS => I = w.1 ∧ R = w.2.1 ∧ J = w.2.2.1 ∧ AI = w.2.2.2.1 ∧ AJ = w.2.2.2.2.1 ∧ AR = w.2.2.2.2.2) := by
  refine gStartX (cc := cX6_pending) (maxL := 4) (ret := (some (.int))) (by decide) rfl (Nat.le_of_ble_eq_true rfl) ?_
  intro p e s m below meth c ls F hr hlk hH hz hS hxt hTh hl
  have hl : lv_has ls 4 [(0, .ref x), (1, .int (iI i)), (2, .int (iI pl))] := hl
  have hS : va_S (gA g) s.heap s.heap [] := hS
  obtain ⟨H, hHe⟩ : ∃ H : Heap, H = s.heap := ⟨_, rfl⟩
  obtain ⟨locs, hlo⟩ : ∃ k : List Loc, k = [] := ⟨_, rfl⟩
  have hH : gH g I R J AI AJ AR H := by rw [hHe]; exact hH
  have hS : va_S (gA g) s.heap H locs := by rw [hHe, hlo]; exact hS
  suffices hw : W p l e rmX6_pending s m ([.ref x, .int (iI i), .int (iI pl)] : List Value).toArray below meth c H locs 0 0 (vx_MQ below (gQi g (fun (z : Int) (w : gS) => I = w.1 ∧ R = w.2.1 ∧ J = w.2.2.1 ∧ AI = w.2.2.2.1 ∧ AJ = w.2.2.2.2.1 ∧ AR = w.2.2.2.2.2)) (vx_X (fun w : gS => I = w.1 ∧ R = w.2.1 ∧ J = w.2.2.1 ∧ AI = w.2.2.2.1 ∧ AJ = w.2.2.2.2.1 ∧ AR = w.2.2.2.2.2) (gBX g) (gA g)) ([.ref x, .int (iI i), .int (iI pl)] : List Value).toArray s 1 6 (gA g)) (F0 m 0 ls []) by
    rw [hHe, hlo] at hw; exact hw
  clear hHe hlo
  have iX6 : ∀ w ∈ u_ws RX6 TX6 18, w ∈ tsX6_pending := fun w h => List.mem_cons_of_mem _ (inTB6 w h)
  have iX4 : ∀ w ∈ u_ws RX4 TX4 4, w ∈ tsX6_pending := fun w h => List.mem_cons_of_mem _ (inTB4 w h)
  have iX2 : ∀ w ∈ u_ws RX2 TX2 3, w ∈ tsX6_pending := fun w h => List.mem_cons_of_mem _ (inTB2 w h)
  have iX0 : ∀ w ∈ u_ws RX0 TX0 15, w ∈ tsX6_pending := fun w h => List.mem_cons_of_mem _ (inTB0 w h)
  have k53 : Cond.fieldLink RX6 53 (TX6 8).1 (TX6 8).2.1 (TX6 8).2.2.1 ∈ tsX6_pending := List.mem_cons_of_mem _ (TBm (tk1 (List.mem_of_getElem? (i := 238) rfl)) rfl)
  have k99 : Cond.fieldLink RX6 99 (TX4 3).1 (TX4 3).2.1 (TX4 3).2.2.1 ∈ tsX6_pending := List.mem_cons_of_mem _ (TBm (tk1 (List.mem_of_getElem? (i := 217) rfl)) rfl)
  have k23 : Cond.fieldLink RX6 23 (TX6 3).1 (TX6 3).2.1 (TX6 3).2.2.1 ∈ tsX6_pending := List.mem_cons_of_mem _ (TBm (tk1 (List.mem_of_getElem? (i := 233) rfl)) rfl)
  have k113 : Cond.fieldLink RX6 113 (TX2 0).1 (TX2 0).2.1 (TX2 0).2.2.1 ∈ tsX6_pending := List.mem_cons_of_mem _ (TBm (tk1 (List.mem_of_getElem? (i := 156) rfl)) rfl)
  have k125 : Cond.fieldLink RX6 125 (TX0 2).1 (TX0 2).2.1 (TX0 2).2.2.1 ∈ tsX6_pending := List.mem_cons_of_mem _ (TBm (tk1 (List.mem_of_getElem? (i := 86) rfl)) rfl)
  refine lv_iload_n F.1 F.2.1 dX6_pending_0 rfl (lv_at hl 1 rfl) ?_
  refine z_iconst F dX6_pending_1 ?_
  refine z_icmp_ne (tgt := 13) F dX6_pending_2 (by decide) zi ⟨by decide, by decide⟩ (fun c_1 => ?_) (fun c_1 => ?_)
  · refine lv_iload_n F.1 F.2.1 dX6_pending_13 rfl (lv_at hl 1 rfl) ?_
    refine z_if_lt (tgt := 37) F dX6_pending_14 (by decide) zi (fun c_2 => ?_) (fun c_2 => ?_)
    · exact g_throw F hTh hst hH hS hz hxt hlk hl.1 (i := 2) rfl (fun w h => List.mem_cons_of_mem _ h) dX6_pending_37 dX6_pending_40 dX6_pending_41 dX6_pending_43 dX6_pending_46 (Nat.le_of_ble_eq_true rfl) (Nat.le_of_ble_eq_true rfl) (Nat.le_refl _) (Nat.le_refl _) ⟨rfl, rfl, rfl, rfl, rfl, rfl⟩
    · refine lv_iload_n F.1 F.2.1 dX6_pending_17 rfl (lv_at hl 1 rfl) ?_
      refine lv_aload_n F.1 F.2.1 dX6_pending_18 rfl (lv_at hl 0 rfl) ?_
      obtain ⟨r_3a, r_3b, r_3c, r_3d⟩ := gR_x8 hv hx.1
      refine g_getR (ci := 6) (k := 8) F hH rfl (by decide) iX6 hx.1 (by decide) rfl (b := gh 37 0) r_3a k53 dX6_pending_19 ?_
      refine g_getI (ci := 4) (k := 3) F hH rfl (by decide) iX4 r_3b (by decide) rfl k99 dX6_pending_22 ?_
      obtain ⟨b_4a, b_4b, b_4c, b_4d, b_4e, b_4f, b_4g, b_4h⟩ := gI_rows hv r_3b
      refine z_icmp_ge (tgt := 37) F dX6_pending_25 (by decide) zi (zr_t _) (fun c_5 => ?_) (fun c_5 => ?_)
      · exact g_throw F hTh hst hH hS hz hxt hlk hl.1 (i := 2) rfl (fun w h => List.mem_cons_of_mem _ h) dX6_pending_37 dX6_pending_40 dX6_pending_41 dX6_pending_43 dX6_pending_46 (Nat.le_of_ble_eq_true rfl) (Nat.le_of_ble_eq_true rfl) (Nat.le_refl _) (Nat.le_refl _) ⟨rfl, rfl, rfl, rfl, rfl, rfl⟩
      · refine lv_iload_n F.1 F.2.1 dX6_pending_28 rfl (lv_at hl 2 rfl) ?_
        refine z_if_lt (tgt := 37) F dX6_pending_29 (by decide) zpl (fun c_6 => ?_) (fun c_6 => ?_)
        · exact g_throw F hTh hst hH hS hz hxt hlk hl.1 (i := 2) rfl (fun w h => List.mem_cons_of_mem _ h) dX6_pending_37 dX6_pending_40 dX6_pending_41 dX6_pending_43 dX6_pending_46 (Nat.le_of_ble_eq_true rfl) (Nat.le_of_ble_eq_true rfl) (Nat.le_refl _) (Nat.le_refl _) ⟨rfl, rfl, rfl, rfl, rfl, rfl⟩
        · refine lv_iload_n F.1 F.2.1 dX6_pending_32 rfl (lv_at hl 2 rfl) ?_
          refine z_iconst F dX6_pending_33 ?_
          refine z_icmp_le (tgt := 47) F dX6_pending_34 (by decide) zpl ⟨by decide, by decide⟩ (fun c_7 => ?_) (fun c_7 => ?_)
          · refine lv_aload_n F.1 F.2.1 dX6_pending_47 rfl (lv_at hl 0 rfl) ?_
            refine g_getR (ci := 6) (k := 3) F hH rfl (by decide) iX6 hx.1 (by decide) rfl (b := pA) hx.2.1 k23 dX6_pending_48 ?_
            obtain ⟨r_8a, r_8b⟩ := gR_lines hv hx.2.2.1
            refine g_getR (ci := 2) (k := 0) F hH rfl (by decide) iX2 hx.2.2.1 (by decide) rfl (b := gh 6 pA) r_8a k113 dX6_pending_51 ?_
            refine lv_aload_n F.1 F.2.1 dX6_pending_54 rfl (lv_at hl 0 rfl) ?_
            refine g_getR (ci := 6) (k := 8) F hH rfl (by decide) iX6 hx.1 (by decide) rfl (b := gh 37 0) r_3a k53 dX6_pending_55 ?_
            refine lv_iload_n F.1 F.2.1 dX6_pending_58 rfl (lv_at hl 1 rfl) ?_
            refine z_iconst F dX6_pending_59 ?_
            refine g_calli (g_runV (As := [.int (iI i), .int (iI 0)]) (rest := [.ref (gh 6 pA)]) (ci := 4) F hl.1 hH hS hz (c_X4_cell l g gh I R J AI AJ AR (gh 37 0) i 0 zi ⟨by decide, by decide⟩ hv r_3b (by omega) (by omega) (by omega) (by omega)) (cwV 2 F.2.2.2.2.1 (good_up gTB_X6_pending_X4_cell) rfl rfl rfl hdX4_cell ⟨Nat.le_of_ble_eq_true rfl, Nat.le_of_ble_eq_true rfl⟩) r_3b (by decide) rfl rfl rfl (Nat.le_of_ble_eq_true rfl) dX6_pending_60 ⟨Nat.zero_le _, Nat.zero_le _⟩) hS (fun v_15 I_9 R_10 J_11 AI_12 AJ_13 AR_14 H locs zv_15 hp_16 hH hS => ?_)
            dsimp only at hp_16
            obtain ⟨rfl, rfl, rfl, rfl, rfl, rfl, qc⟩ := hp_16
            have hc5 := hv.2.1 (gh 37 0) r_3b r_3d i.toNat (by omega)
            rw [show 6 * i.toNat = (i * 6 + 0).toNat from by omega, ← qc] at hc5
            have hx63 : 0 ≤ v_15 ∧ v_15 < ((16 : Nat) : Int) ∧ v_15 ≤ 2147483647 := ⟨by omega, by omega, by omega⟩
            obtain ⟨y_17, y_17a, y_17b, y_17c, y_17d⟩ := gA_lines hv hx.2.2.1 (z := v_15) (by omega) (by omega)
            refine g_aldL F hH r_8b hx63.1 hx63.2.1 hx63.2.2 (b := y_17) y_17a dX6_pending_63 ?_
            refine g_getI (ci := 0) (k := 2) F hH rfl (by decide) iX0 y_17b (by decide) rfl k125 dX6_pending_64 ?_
            have b_18 := gI_line hv y_17b
            unfold vLineI at b_18
            refine lv_istore_n (lv' := [(3, .int (iI ((I y_17 2).toInt))), (0, .ref x), (1, .int (iI i)), (2, .int (iI pl))]) F.1 F.2.1 dX6_pending_67 rfl hl (by decide) rfl (fun ls hl => ?_)
            refine lv_iload_n F.1 F.2.1 dX6_pending_68 rfl (lv_at hl 3 rfl) ?_
            refine lv_iload_n F.1 F.2.1 dX6_pending_69 rfl (lv_at hl 0 rfl) ?_
            refine z_icmp_le (tgt := 88) F dX6_pending_70 (by decide) zpl (zr_t _) (fun c_19 => ?_) (fun c_19 => ?_)
            · refine lv_aload_n F.1 F.2.1 dX6_pending_88 rfl (lv_at hl 1 rfl) ?_
              refine g_getR (ci := 6) (k := 8) F hH rfl (by decide) iX6 hx.1 (by decide) rfl (b := gh 37 0) r_3a k53 dX6_pending_89 ?_
              refine lv_iload_n F.1 F.2.1 dX6_pending_92 rfl (lv_at hl 2 rfl) ?_
              refine lv_iload_n F.1 F.2.1 dX6_pending_93 rfl (lv_at hl 3 rfl) ?_
              refine g_calli (g_runV (As := [.int (iI i), .int (iI pl)]) (rest := []) (ci := 4) F hl.1 hH hS hz (c_X4_cell l g gh I R J AI AJ AR (gh 37 0) i pl zi zpl hv r_3b (by omega) (by omega) (by omega) (by omega)) (cwV 2 F.2.2.2.2.1 (good_up gTB_X6_pending_X4_cell) rfl rfl rfl hdX4_cell ⟨Nat.le_of_ble_eq_true rfl, Nat.le_of_ble_eq_true rfl⟩) r_3b (by decide) rfl rfl rfl (Nat.le_of_ble_eq_true rfl) dX6_pending_94 ⟨Nat.zero_le _, Nat.zero_le _⟩) hS (fun v_26 I_20 R_21 J_22 AI_23 AJ_24 AR_25 H locs zv_26 hp_27 hH hS => ?_)
              dsimp only at hp_27
              obtain ⟨rfl, rfl, rfl, rfl, rfl, rfl, q_28⟩ := hp_27
              exact g_iretX F hr hlk hH hS hz zv_26 ⟨rfl, rfl, rfl, rfl, rfl, rfl⟩ (by decide) (by decide) dX6_pending_97
            · refine lv_iload_n F.1 F.2.1 dX6_pending_73 rfl (lv_at hl 3 rfl) ?_
              refine z_iconst F dX6_pending_74 ?_
              refine z_icmp_ge (tgt := 88) F dX6_pending_75 (by decide) zpl ⟨by decide, by decide⟩ (fun c_29 => ?_) (fun c_29 => ?_)
              · refine lv_aload_n F.1 F.2.1 dX6_pending_88 rfl (lv_at hl 1 rfl) ?_
                refine g_getR (ci := 6) (k := 8) F hH rfl (by decide) iX6 hx.1 (by decide) rfl (b := gh 37 0) r_3a k53 dX6_pending_89 ?_
                refine lv_iload_n F.1 F.2.1 dX6_pending_92 rfl (lv_at hl 2 rfl) ?_
                refine lv_iload_n F.1 F.2.1 dX6_pending_93 rfl (lv_at hl 3 rfl) ?_
                refine g_calli (g_runV (As := [.int (iI i), .int (iI pl)]) (rest := []) (ci := 4) F hl.1 hH hS hz (c_X4_cell l g gh I R J AI AJ AR (gh 37 0) i pl zi zpl hv r_3b (by omega) (by omega) (by omega) (by omega)) (cwV 2 F.2.2.2.2.1 (good_up gTB_X6_pending_X4_cell) rfl rfl rfl hdX4_cell ⟨Nat.le_of_ble_eq_true rfl, Nat.le_of_ble_eq_true rfl⟩) r_3b (by decide) rfl rfl rfl (Nat.le_of_ble_eq_true rfl) dX6_pending_94 ⟨Nat.zero_le _, Nat.zero_le _⟩) hS (fun v_36 I_30 R_31 J_32 AI_33 AJ_34 AR_35 H locs zv_36 hp_37 hH hS => ?_)
                dsimp only at hp_37
                obtain ⟨rfl, rfl, rfl, rfl, rfl, rfl, q_38⟩ := hp_37
                exact g_iretX F hr hlk hH hS hz zv_36 ⟨rfl, rfl, rfl, rfl, rfl, rfl⟩ (by decide) (by decide) dX6_pending_97
              · exact g_throw F hTh hst hH hS hz hxt hlk hl.1 (i := 3) rfl (fun w h => List.mem_cons_of_mem _ h) dX6_pending_78 dX6_pending_81 dX6_pending_82 dX6_pending_84 dX6_pending_87 (Nat.le_of_ble_eq_true rfl) (Nat.le_of_ble_eq_true rfl) (Nat.le_refl _) (Nat.le_refl _) ⟨rfl, rfl, rfl, rfl, rfl, rfl⟩
          · exact g_throw F hTh hst hH hS hz hxt hlk hl.1 (i := 2) rfl (fun w h => List.mem_cons_of_mem _ h) dX6_pending_37 dX6_pending_40 dX6_pending_41 dX6_pending_43 dX6_pending_46 (Nat.le_of_ble_eq_true rfl) (Nat.le_of_ble_eq_true rfl) (Nat.le_refl _) (Nat.le_refl _) ⟨rfl, rfl, rfl, rfl, rfl, rfl⟩
  · refine lv_aload_n F.1 F.2.1 dX6_pending_5 rfl (lv_at hl 0 rfl) ?_
    obtain ⟨r_39a, r_39b, r_39c, r_39d⟩ := gR_x8 hv hx.1
    refine g_getR (ci := 6) (k := 8) F hH rfl (by decide) iX6 hx.1 (by decide) rfl (b := gh 37 0) r_39a k53 dX6_pending_6 ?_
    refine g_getI (ci := 4) (k := 3) F hH rfl (by decide) iX4 r_39b (by decide) rfl k99 dX6_pending_9 ?_
    obtain ⟨b_40a, b_40b, b_40c, b_40d, b_40e, b_40f, b_40g, b_40h⟩ := gI_rows hv r_39b
    exact g_iretX F hr hlk hH hS hz (zr_t _) ⟨rfl, rfl, rfl, rfl, rfl, rfl⟩ (by decide) (by decide) dX6_pending_12

def rmX6_tupleCell : Room := { frames := 6, cells := 1, slots := 6, locals := 82 }
theorem hdX6_tupleCell : yX6_tupleCell.cls = RX6 ∧ yX6_tupleCell.cls ≠ "java/lang/invoke/MethodHandle" ∧ yX6_tupleCell.cls ≠ "java/lang/invoke/VarHandle" ∧ (parseMethodDescriptor yX6_tupleCell.desc).map (fun d => d.parameters.length) = some 4 := by decide +kernel
set_option maxHeartbeats 4000000 in
set_option maxRecDepth 100000 in
/-- a cell of a tuple -/
theorem c_X6_tupleCell (l : Launch) (g : gG) (gh : gGh) (I : gI) (R : gR) (J : gJ) (AI : gI) (AJ : gJ) (AR : gR) (a : Nat) (cl : Int) (row : Int) (place : Int) (zcl : zr cl) (zrow : zr row) (zplace : zr place) (hv : gInv g gh R AR I AI) (ha : gO g a 4) (hcl : cl ≤ 6) (hst : l.stackTraces = false) : gMetX l g yX6_tupleCell tsX6_tupleCell rmX6_tupleCell [.ref a, .int (iI cl), .int (iI row), .int (iI place)] (I, R, J, AI, AJ, AR) (gQi g (fun (z : Int) (w : gS) => I = w.1 ∧ R = w.2.1 ∧ J = w.2.2.1 ∧ AI = w.2.2.2.1 ∧ AJ = w.2.2.2.2.1 ∧ AR = w.2.2.2.2.2)) (fun w : gS => I = w.1 ∧ R = w.2.1 ∧ J = w.2.2.1 ∧ AI = w.2.2.2.1 ∧ AJ = w.2.2.2.2.1 ∧ AR = w.2.2.2.2.2) := by
  refine gStartX (cc := cX6_tupleCell) (maxL := 4) (ret := (some (.int))) (by decide) rfl (Nat.le_of_ble_eq_true rfl) ?_
  intro p e s m below meth c ls F hr hlk hH hz hS hxt hTh hl
  have hl : lv_has ls 4 [(0, .ref a), (1, .int (iI cl)), (2, .int (iI row)), (3, .int (iI place))] := hl
  have hS : va_S (gA g) s.heap s.heap [] := hS
  obtain ⟨H, hHe⟩ : ∃ H : Heap, H = s.heap := ⟨_, rfl⟩
  obtain ⟨locs, hlo⟩ : ∃ k : List Loc, k = [] := ⟨_, rfl⟩
  have hH : gH g I R J AI AJ AR H := by rw [hHe]; exact hH
  have hS : va_S (gA g) s.heap H locs := by rw [hHe, hlo]; exact hS
  suffices hw : W p l e rmX6_tupleCell s m ([.ref a, .int (iI cl), .int (iI row), .int (iI place)] : List Value).toArray below meth c H locs 0 0 (vx_MQ below (gQi g (fun (z : Int) (w : gS) => I = w.1 ∧ R = w.2.1 ∧ J = w.2.2.1 ∧ AI = w.2.2.2.1 ∧ AJ = w.2.2.2.2.1 ∧ AR = w.2.2.2.2.2)) (vx_X (fun w : gS => I = w.1 ∧ R = w.2.1 ∧ J = w.2.2.1 ∧ AI = w.2.2.2.1 ∧ AJ = w.2.2.2.2.1 ∧ AR = w.2.2.2.2.2) (gBX g) (gA g)) ([.ref a, .int (iI cl), .int (iI row), .int (iI place)] : List Value).toArray s 1 6 (gA g)) (F0 m 0 ls []) by
    rw [hHe, hlo] at hw; exact hw
  clear hHe hlo
  have iX4 : ∀ w ∈ u_ws RX4 TX4 4, w ∈ tsX6_tupleCell := fun w h => List.mem_cons_of_mem _ (inTB4 w h)
  have k99 : Cond.fieldLink RX6 99 (TX4 3).1 (TX4 3).2.1 (TX4 3).2.2.1 ∈ tsX6_tupleCell := List.mem_cons_of_mem _ (TBm (tk1 (List.mem_of_getElem? (i := 217) rfl)) rfl)
  refine lv_iload_n F.1 F.2.1 dX6_tupleCell_0 rfl (lv_at hl 2 rfl) ?_
  refine z_if_lt (tgt := 12) F dX6_tupleCell_1 (by decide) zrow (fun c_1 => ?_) (fun c_1 => ?_)
  · exact g_throw F hTh hst hH hS hz hxt hlk hl.1 (i := 5) rfl (fun w h => List.mem_cons_of_mem _ h) dX6_tupleCell_12 dX6_tupleCell_15 dX6_tupleCell_16 dX6_tupleCell_18 dX6_tupleCell_21 (Nat.le_of_ble_eq_true rfl) (Nat.le_of_ble_eq_true rfl) (Nat.le_refl _) (Nat.le_refl _) ⟨rfl, rfl, rfl, rfl, rfl, rfl⟩
  · refine lv_iload_n F.1 F.2.1 dX6_tupleCell_4 rfl (lv_at hl 2 rfl) ?_
    refine lv_aload_n F.1 F.2.1 dX6_tupleCell_5 rfl (lv_at hl 0 rfl) ?_
    refine g_getI (ci := 4) (k := 3) F hH rfl (by decide) iX4 ha (by decide) rfl k99 dX6_tupleCell_6 ?_
    obtain ⟨b_2a, b_2b, b_2c, b_2d, b_2e, b_2f, b_2g, b_2h⟩ := gI_rows hv ha
    refine z_icmp_lt (tgt := 22) F dX6_tupleCell_9 (by decide) zrow (zr_t _) (fun c_3 => ?_) (fun c_3 => ?_)
    · refine lv_iload_n F.1 F.2.1 dX6_tupleCell_22 rfl (lv_at hl 3 rfl) ?_
      refine z_iconst F dX6_tupleCell_23 ?_
      refine z_icmp_ne (tgt := 33) F dX6_tupleCell_24 (by decide) zplace ⟨by decide, by decide⟩ (fun c_4 => ?_) (fun c_4 => ?_)
      · refine lv_iload_n F.1 F.2.1 dX6_tupleCell_33 rfl (lv_at hl 3 rfl) ?_
        refine z_if_lt (tgt := 42) F dX6_tupleCell_34 (by decide) zplace (fun c_5 => ?_) (fun c_5 => ?_)
        · exact g_throw F hTh hst hH hS hz hxt hlk hl.1 (i := 3) rfl (fun w h => List.mem_cons_of_mem _ h) dX6_tupleCell_42 dX6_tupleCell_45 dX6_tupleCell_46 dX6_tupleCell_48 dX6_tupleCell_51 (Nat.le_of_ble_eq_true rfl) (Nat.le_of_ble_eq_true rfl) (Nat.le_refl _) (Nat.le_refl _) ⟨rfl, rfl, rfl, rfl, rfl, rfl⟩
        · refine lv_iload_n F.1 F.2.1 dX6_tupleCell_37 rfl (lv_at hl 3 rfl) ?_
          refine lv_iload_n F.1 F.2.1 dX6_tupleCell_38 rfl (lv_at hl 1 rfl) ?_
          refine z_icmp_lt (tgt := 52) F dX6_tupleCell_39 (by decide) zplace zcl (fun c_6 => ?_) (fun c_6 => ?_)
          · refine lv_aload_n F.1 F.2.1 dX6_tupleCell_52 rfl (lv_at hl 0 rfl) ?_
            refine lv_iload_n F.1 F.2.1 dX6_tupleCell_53 rfl (lv_at hl 2 rfl) ?_
            refine lv_iload_n F.1 F.2.1 dX6_tupleCell_54 rfl (lv_at hl 3 rfl) ?_
            refine g_calli (g_runV (As := [.int (iI row), .int (iI place)]) (rest := []) (ci := 4) F hl.1 hH hS hz (c_X4_cell l g gh I R J AI AJ AR a row place zrow zplace hv ha (by omega) (by omega) (by omega) (by omega)) (cwV 2 F.2.2.2.2.1 (good_up gTB_X6_tupleCell_X4_cell) rfl rfl rfl hdX4_cell ⟨Nat.le_of_ble_eq_true rfl, Nat.le_of_ble_eq_true rfl⟩) ha (by decide) rfl rfl rfl (Nat.le_of_ble_eq_true rfl) dX6_tupleCell_55 ⟨Nat.zero_le _, Nat.zero_le _⟩) hS (fun v_13 I_7 R_8 J_9 AI_10 AJ_11 AR_12 H locs zv_13 hp_14 hH hS => ?_)
            dsimp only at hp_14
            obtain ⟨rfl, rfl, rfl, rfl, rfl, rfl, q_15⟩ := hp_14
            exact g_iretX F hr hlk hH hS hz zv_13 ⟨rfl, rfl, rfl, rfl, rfl, rfl⟩ (by decide) (by decide) dX6_tupleCell_58
          · exact g_throw F hTh hst hH hS hz hxt hlk hl.1 (i := 3) rfl (fun w h => List.mem_cons_of_mem _ h) dX6_tupleCell_42 dX6_tupleCell_45 dX6_tupleCell_46 dX6_tupleCell_48 dX6_tupleCell_51 (Nat.le_of_ble_eq_true rfl) (Nat.le_of_ble_eq_true rfl) (Nat.le_refl _) (Nat.le_refl _) ⟨rfl, rfl, rfl, rfl, rfl, rfl⟩
      · refine lv_aload_n F.1 F.2.1 dX6_tupleCell_27 rfl (lv_at hl 0 rfl) ?_
        refine lv_iload_n F.1 F.2.1 dX6_tupleCell_28 rfl (lv_at hl 2 rfl) ?_
        refine g_calli (g_runV (As := [.int (iI row)]) (rest := []) (ci := 4) F hl.1 hH hS hz (c_X4_amount l g gh I R J AI AJ AR a row zrow hv ha (by omega) (by omega)) (cwV 1 F.2.2.2.2.1 (good_up gTB_X6_tupleCell_X4_amount) rfl rfl rfl hdX4_amount ⟨Nat.le_of_ble_eq_true rfl, Nat.le_of_ble_eq_true rfl⟩) ha (by decide) rfl rfl rfl (Nat.le_of_ble_eq_true rfl) dX6_tupleCell_29 ⟨Nat.zero_le _, Nat.zero_le _⟩) hS (fun v_22 I_16 R_17 J_18 AI_19 AJ_20 AR_21 H locs zv_22 hp_23 hH hS => ?_)
        dsimp only at hp_23
        obtain ⟨rfl, rfl, rfl, rfl, rfl, rfl, q_24⟩ := hp_23
        exact g_iretX F hr hlk hH hS hz zv_22 ⟨rfl, rfl, rfl, rfl, rfl, rfl⟩ (by decide) (by decide) dX6_tupleCell_32
    · exact g_throw F hTh hst hH hS hz hxt hlk hl.1 (i := 5) rfl (fun w h => List.mem_cons_of_mem _ h) dX6_tupleCell_12 dX6_tupleCell_15 dX6_tupleCell_16 dX6_tupleCell_18 dX6_tupleCell_21 (Nat.le_of_ble_eq_true rfl) (Nat.le_of_ble_eq_true rfl) (Nat.le_refl _) (Nat.le_refl _) ⟨rfl, rfl, rfl, rfl, rfl, rfl⟩

def rmX6_at : Room := { frames := 7, cells := 1, slots := 6, locals := 105 }
theorem hdX6_at : yX6_at.cls = RX6 ∧ yX6_at.cls ≠ "java/lang/invoke/MethodHandle" ∧ yX6_at.cls ≠ "java/lang/invoke/VarHandle" ∧ (parseMethodDescriptor yX6_at.desc).map (fun d => d.parameters.length) = some 3 := by decide +kernel
set_option maxHeartbeats 4000000 in
set_option maxRecDepth 100000 in
/-- at -/
theorem c_X6_at (l : Launch) (g : gG) (gh : gGh) (pA bA nA : Nat) (I : gI) (R : gR) (J : gJ) (AI : gI) (AJ : gJ) (AR : gR) (x : Nat) (rel : Int) (row : Int) (place : Int) (zrel : zr rel) (zrow : zr row) (zplace : zr place) (hv : gInv g gh R AR I AI) (hx : xS g gh R AR x pA bA nA) (hst : l.stackTraces = false) : gMetX l g yX6_at tsX6_at rmX6_at [.ref x, .int (iI rel), .int (iI row), .int (iI place)] (I, R, J, AI, AJ, AR) (gQi g (fun (z : Int) (w : gS) => I = w.1 ∧ R = w.2.1 ∧ J = w.2.2.1 ∧ AI = w.2.2.2.1 ∧ AJ = w.2.2.2.2.1 ∧ AR = w.2.2.2.2.2)) (fun w : gS => I = w.1 ∧ R = w.2.1 ∧ J = w.2.2.1 ∧ AI = w.2.2.2.1 ∧ AJ = w.2.2.2.2.1 ∧ AR = w.2.2.2.2.2) := by
  refine gStartX (cc := cX6_at) (maxL := 4) (ret := (some (.int))) (by decide) rfl (Nat.le_of_ble_eq_true rfl) ?_
  intro p e s m below meth c ls F hr hlk hH hz hS hxt hTh hl
  have hl : lv_has ls 4 [(0, .ref x), (1, .int (iI rel)), (2, .int (iI row)), (3, .int (iI place))] := hl
  have hS : va_S (gA g) s.heap s.heap [] := hS
  obtain ⟨H, hHe⟩ : ∃ H : Heap, H = s.heap := ⟨_, rfl⟩
  obtain ⟨locs, hlo⟩ : ∃ k : List Loc, k = [] := ⟨_, rfl⟩
  have hH : gH g I R J AI AJ AR H := by rw [hHe]; exact hH
  have hS : va_S (gA g) s.heap H locs := by rw [hHe, hlo]; exact hS
  suffices hw : W p l e rmX6_at s m ([.ref x, .int (iI rel), .int (iI row), .int (iI place)] : List Value).toArray below meth c H locs 0 0 (vx_MQ below (gQi g (fun (z : Int) (w : gS) => I = w.1 ∧ R = w.2.1 ∧ J = w.2.2.1 ∧ AI = w.2.2.2.1 ∧ AJ = w.2.2.2.2.1 ∧ AR = w.2.2.2.2.2)) (vx_X (fun w : gS => I = w.1 ∧ R = w.2.1 ∧ J = w.2.2.1 ∧ AI = w.2.2.2.1 ∧ AJ = w.2.2.2.2.1 ∧ AR = w.2.2.2.2.2) (gBX g) (gA g)) ([.ref x, .int (iI rel), .int (iI row), .int (iI place)] : List Value).toArray s 1 6 (gA g)) (F0 m 0 ls []) by
    rw [hHe, hlo] at hw; exact hw
  clear hHe hlo
  have iX6 : ∀ w ∈ u_ws RX6 TX6 18, w ∈ tsX6_at := fun w h => List.mem_cons_of_mem _ (inTB6 w h)
  have iX2 : ∀ w ∈ u_ws RX2 TX2 3, w ∈ tsX6_at := fun w h => List.mem_cons_of_mem _ (inTB2 w h)
  have iX0 : ∀ w ∈ u_ws RX0 TX0 15, w ∈ tsX6_at := fun w h => List.mem_cons_of_mem _ (inTB0 w h)
  have k38 : Cond.fieldLink RX6 38 (TX6 5).1 (TX6 5).2.1 (TX6 5).2.2.1 ∈ tsX6_at := List.mem_cons_of_mem _ (TBm (tk1 (List.mem_of_getElem? (i := 235) rfl)) rfl)
  have k23 : Cond.fieldLink RX6 23 (TX6 3).1 (TX6 3).2.1 (TX6 3).2.2.1 ∈ tsX6_at := List.mem_cons_of_mem _ (TBm (tk1 (List.mem_of_getElem? (i := 233) rfl)) rfl)
  have k113 : Cond.fieldLink RX6 113 (TX2 0).1 (TX2 0).2.1 (TX2 0).2.2.1 ∈ tsX6_at := List.mem_cons_of_mem _ (TBm (tk1 (List.mem_of_getElem? (i := 156) rfl)) rfl)
  have k125 : Cond.fieldLink RX6 125 (TX0 2).1 (TX0 2).2.1 (TX0 2).2.2.1 ∈ tsX6_at := List.mem_cons_of_mem _ (TBm (tk1 (List.mem_of_getElem? (i := 86) rfl)) rfl)
  refine lv_aload_n F.1 F.2.1 dX6_at_0 rfl (lv_at hl 0 rfl) ?_
  refine lv_iload_n F.1 F.2.1 dX6_at_1 rfl (lv_at hl 1 rfl) ?_
  have b_1 := gI_x hv hx.1
  refine g_calli (g_runV (As := [.int (iI rel)]) (rest := []) (ci := 6) F hl.1 hH hS hz (c_X6_isRelation l g gh pA bA nA I R J AI AJ AR x rel zrel hv hx) (cwV 1 F.2.2.2.2.1 (good_up gTB_X6_at_X6_isRelation) rfl rfl rfl hdX6_isRelation ⟨Nat.le_of_ble_eq_true rfl, Nat.le_of_ble_eq_true rfl⟩) hx.1 (by decide) rfl rfl rfl (Nat.le_of_ble_eq_true rfl) dX6_at_2 ⟨Nat.zero_le _, Nat.zero_le _⟩) hS (fun v_8 I_2 R_3 J_4 AI_5 AJ_6 AR_7 H locs zv_8 hp_9 hH hS => ?_)
  dsimp only at hp_9
  obtain ⟨rfl, rfl, rfl, rfl, rfl, rfl, q_10⟩ := hp_9
  refine z_if_ne (tgt := 18) F dX6_at_5 (by decide) zv_8 (fun c_11 => ?_) (fun c_11 => ?_)
  · refine lv_aload_n F.1 F.2.1 dX6_at_18 rfl (lv_at hl 0 rfl) ?_
    refine g_getR (ci := 6) (k := 5) F hH rfl (by decide) iX6 hx.1 (by decide) rfl (b := bA) hx.2.2.2.1 k38 dX6_at_19 ?_
    refine lv_iload_n F.1 F.2.1 dX6_at_22 rfl (lv_at hl 1 rfl) ?_
    have hx23 : 0 ≤ rel ∧ rel < ((16 : Nat) : Int) ∧ rel ≤ 2147483647 := ⟨by omega, by omega, by omega⟩
    obtain ⟨y_12, y_12a, y_12b, y_12c, y_12d, y_12e⟩ := hx.2.2.2.2.1.2 (rel).toNat (by omega)
    refine g_aldR F hH hx.2.2.2.2.1.1 hx23.1 hx23.2.1 hx23.2.2 (b := y_12) y_12a dX6_at_23 ?_
    refine lv_aload_n F.1 F.2.1 dX6_at_24 rfl (lv_at hl 0 rfl) ?_
    refine g_getR (ci := 6) (k := 3) F hH rfl (by decide) iX6 hx.1 (by decide) rfl (b := pA) hx.2.1 k23 dX6_at_25 ?_
    obtain ⟨r_13a, r_13b⟩ := gR_lines hv hx.2.2.1
    refine g_getR (ci := 2) (k := 0) F hH rfl (by decide) iX2 hx.2.2.1 (by decide) rfl (b := gh 6 pA) r_13a k113 dX6_at_28 ?_
    refine lv_iload_n F.1 F.2.1 dX6_at_31 rfl (lv_at hl 1 rfl) ?_
    have hx32 : 0 ≤ rel ∧ rel < ((16 : Nat) : Int) ∧ rel ≤ 2147483647 := ⟨by omega, by omega, by omega⟩
    obtain ⟨y_14, y_14a, y_14b, y_14c, y_14d⟩ := gA_lines hv hx.2.2.1 (z := rel) (by omega) (by omega)
    refine g_aldL F hH r_13b hx32.1 hx32.2.1 hx32.2.2 (b := y_14) y_14a dX6_at_32 ?_
    refine g_getI (ci := 0) (k := 2) F hH rfl (by decide) iX0 y_14b (by decide) rfl k125 dX6_at_33 ?_
    have b_15 := gI_line hv y_14b
    unfold vLineI at b_15
    have hc4 : (I y_14 2).toInt ≤ 4 := by have q := (hv.2.2.1 y_14 y_14b).2.2.2; rw [y_14c] at q; exact q (by omega)
    refine lv_iload_n F.1 F.2.1 dX6_at_36 rfl (lv_at hl 2 rfl) ?_
    refine lv_iload_n F.1 F.2.1 dX6_at_37 rfl (lv_at hl 3 rfl) ?_
    refine g_calliX (g_runSX (As := [.ref y_12, .int (iI ((I y_14 2).toInt)), .int (iI row), .int (iI place)]) (rest := []) F hTh hl.1 hH hS hz (c_X6_tupleCell l g gh I R J AI AJ AR y_12 ((I y_14 2).toInt) row place (zr_t _) zrow zplace hv y_12b (by omega) hst) (va_cwS 4 F.2.2.2.2.1 (good_up gTB_X6_at_X6_tupleCell) rfl rfl rfl hdX6_tupleCell.2 ⟨Nat.le_of_ble_eq_true rfl, Nat.le_of_ble_eq_true rfl⟩) rfl rfl (Nat.le_of_ble_eq_true rfl) dX6_at_38 ⟨Nat.le_refl _, Nat.le_refl _⟩) hS (fun ce9 q9 I2 R2 J2 AI2 AJ2 AR2 H locs hp hH hS h1 h2 h3 => ?_) (fun z I2 R2 J2 AI2 AJ2 AR2 H locs zz hp hH hS => ?_)
    · dsimp only at hp
      obtain ⟨rfl, rfl, rfl, rfl, rfl, rfl⟩ := hp
      exact g_outX F hH hS hz hxt hlk h1 h2 h3 ⟨rfl, rfl, rfl, rfl, rfl, rfl⟩ (by decide) (by decide)
    dsimp only at hp
    obtain ⟨rfl, rfl, rfl, rfl, rfl, rfl⟩ := hp
    exact g_iretX F hr hlk hH hS hz zz ⟨rfl, rfl, rfl, rfl, rfl, rfl⟩ (by decide) (by decide) dX6_at_41
  · exact g_throw F hTh hst hH hS hz hxt hlk hl.1 (i := 4) rfl (fun w h => List.mem_cons_of_mem _ h) dX6_at_8 dX6_at_11 dX6_at_12 dX6_at_14 dX6_at_17 (Nat.le_of_ble_eq_true rfl) (Nat.le_of_ble_eq_true rfl) (Nat.le_refl _) (Nat.le_refl _) ⟨rfl, rfl, rfl, rfl, rfl, rfl⟩

def rmX6_movedAt : Room := { frames := 7, cells := 1, slots := 6, locals := 105 }
theorem hdX6_movedAt : yX6_movedAt.cls = RX6 ∧ yX6_movedAt.cls ≠ "java/lang/invoke/MethodHandle" ∧ yX6_movedAt.cls ≠ "java/lang/invoke/VarHandle" ∧ (parseMethodDescriptor yX6_movedAt.desc).map (fun d => d.parameters.length) = some 3 := by decide +kernel
set_option maxHeartbeats 4000000 in
set_option maxRecDepth 100000 in
/-- movedAt -/
theorem c_X6_movedAt (l : Launch) (g : gG) (gh : gGh) (pA bA nA : Nat) (I : gI) (R : gR) (J : gJ) (AI : gI) (AJ : gJ) (AR : gR) (x : Nat) (rel : Int) (row : Int) (place : Int) (zrel : zr rel) (zrow : zr row) (zplace : zr place) (hv : gInv g gh R AR I AI) (hx : xS g gh R AR x pA bA nA) (hst : l.stackTraces = false) : gMetX l g yX6_movedAt tsX6_movedAt rmX6_movedAt [.ref x, .int (iI rel), .int (iI row), .int (iI place)] (I, R, J, AI, AJ, AR) (gQi g (fun (z : Int) (w : gS) => I = w.1 ∧ R = w.2.1 ∧ J = w.2.2.1 ∧ AI = w.2.2.2.1 ∧ AJ = w.2.2.2.2.1 ∧ AR = w.2.2.2.2.2)) (fun w : gS => I = w.1 ∧ R = w.2.1 ∧ J = w.2.2.1 ∧ AI = w.2.2.2.1 ∧ AJ = w.2.2.2.2.1 ∧ AR = w.2.2.2.2.2) := by
  refine gStartX (cc := cX6_movedAt) (maxL := 4) (ret := (some (.int))) (by decide) rfl (Nat.le_of_ble_eq_true rfl) ?_
  intro p e s m below meth c ls F hr hlk hH hz hS hxt hTh hl
  have hl : lv_has ls 4 [(0, .ref x), (1, .int (iI rel)), (2, .int (iI row)), (3, .int (iI place))] := hl
  have hS : va_S (gA g) s.heap s.heap [] := hS
  obtain ⟨H, hHe⟩ : ∃ H : Heap, H = s.heap := ⟨_, rfl⟩
  obtain ⟨locs, hlo⟩ : ∃ k : List Loc, k = [] := ⟨_, rfl⟩
  have hH : gH g I R J AI AJ AR H := by rw [hHe]; exact hH
  have hS : va_S (gA g) s.heap H locs := by rw [hHe, hlo]; exact hS
  suffices hw : W p l e rmX6_movedAt s m ([.ref x, .int (iI rel), .int (iI row), .int (iI place)] : List Value).toArray below meth c H locs 0 0 (vx_MQ below (gQi g (fun (z : Int) (w : gS) => I = w.1 ∧ R = w.2.1 ∧ J = w.2.2.1 ∧ AI = w.2.2.2.1 ∧ AJ = w.2.2.2.2.1 ∧ AR = w.2.2.2.2.2)) (vx_X (fun w : gS => I = w.1 ∧ R = w.2.1 ∧ J = w.2.2.1 ∧ AI = w.2.2.2.1 ∧ AJ = w.2.2.2.2.1 ∧ AR = w.2.2.2.2.2) (gBX g) (gA g)) ([.ref x, .int (iI rel), .int (iI row), .int (iI place)] : List Value).toArray s 1 6 (gA g)) (F0 m 0 ls []) by
    rw [hHe, hlo] at hw; exact hw
  clear hHe hlo
  have iX6 : ∀ w ∈ u_ws RX6 TX6 18, w ∈ tsX6_movedAt := fun w h => List.mem_cons_of_mem _ (inTB6 w h)
  have iX2 : ∀ w ∈ u_ws RX2 TX2 3, w ∈ tsX6_movedAt := fun w h => List.mem_cons_of_mem _ (inTB2 w h)
  have iX0 : ∀ w ∈ u_ws RX0 TX0 15, w ∈ tsX6_movedAt := fun w h => List.mem_cons_of_mem _ (inTB0 w h)
  have k45 : Cond.fieldLink RX6 45 (TX6 7).1 (TX6 7).2.1 (TX6 7).2.2.1 ∈ tsX6_movedAt := List.mem_cons_of_mem _ (TBm (tk1 (List.mem_of_getElem? (i := 237) rfl)) rfl)
  have k23 : Cond.fieldLink RX6 23 (TX6 3).1 (TX6 3).2.1 (TX6 3).2.2.1 ∈ tsX6_movedAt := List.mem_cons_of_mem _ (TBm (tk1 (List.mem_of_getElem? (i := 233) rfl)) rfl)
  have k113 : Cond.fieldLink RX6 113 (TX2 0).1 (TX2 0).2.1 (TX2 0).2.2.1 ∈ tsX6_movedAt := List.mem_cons_of_mem _ (TBm (tk1 (List.mem_of_getElem? (i := 156) rfl)) rfl)
  have k125 : Cond.fieldLink RX6 125 (TX0 2).1 (TX0 2).2.1 (TX0 2).2.2.1 ∈ tsX6_movedAt := List.mem_cons_of_mem _ (TBm (tk1 (List.mem_of_getElem? (i := 86) rfl)) rfl)
  refine lv_aload_n F.1 F.2.1 dX6_movedAt_0 rfl (lv_at hl 0 rfl) ?_
  refine lv_iload_n F.1 F.2.1 dX6_movedAt_1 rfl (lv_at hl 1 rfl) ?_
  have b_1 := gI_x hv hx.1
  refine g_calli (g_runV (As := [.int (iI rel)]) (rest := []) (ci := 6) F hl.1 hH hS hz (c_X6_isRelation l g gh pA bA nA I R J AI AJ AR x rel zrel hv hx) (cwV 1 F.2.2.2.2.1 (good_up gTB_X6_movedAt_X6_isRelation) rfl rfl rfl hdX6_isRelation ⟨Nat.le_of_ble_eq_true rfl, Nat.le_of_ble_eq_true rfl⟩) hx.1 (by decide) rfl rfl rfl (Nat.le_of_ble_eq_true rfl) dX6_movedAt_2 ⟨Nat.zero_le _, Nat.zero_le _⟩) hS (fun v_8 I_2 R_3 J_4 AI_5 AJ_6 AR_7 H locs zv_8 hp_9 hH hS => ?_)
  dsimp only at hp_9
  obtain ⟨rfl, rfl, rfl, rfl, rfl, rfl, q_10⟩ := hp_9
  refine z_if_ne (tgt := 18) F dX6_movedAt_5 (by decide) zv_8 (fun c_11 => ?_) (fun c_11 => ?_)
  · refine lv_aload_n F.1 F.2.1 dX6_movedAt_18 rfl (lv_at hl 0 rfl) ?_
    obtain ⟨r_12a, r_12b⟩ := gR_x7 hv hx.1
    refine g_getR (ci := 6) (k := 7) F hH rfl (by decide) iX6 hx.1 (by decide) rfl (b := gh 35 0) r_12a k45 dX6_movedAt_19 ?_
    refine lv_iload_n F.1 F.2.1 dX6_movedAt_22 rfl (lv_at hl 1 rfl) ?_
    have hx23 : 0 ≤ rel ∧ rel < ((16 : Nat) : Int) ∧ rel ≤ 2147483647 := ⟨by omega, by omega, by omega⟩
    obtain ⟨y_13, y_13a, y_13b, y_13c, y_13d, y_13e⟩ := r_12b.2 (rel).toNat (by omega)
    refine g_aldR F hH r_12b.1 hx23.1 hx23.2.1 hx23.2.2 (b := y_13) y_13a dX6_movedAt_23 ?_
    refine lv_aload_n F.1 F.2.1 dX6_movedAt_24 rfl (lv_at hl 0 rfl) ?_
    refine g_getR (ci := 6) (k := 3) F hH rfl (by decide) iX6 hx.1 (by decide) rfl (b := pA) hx.2.1 k23 dX6_movedAt_25 ?_
    obtain ⟨r_14a, r_14b⟩ := gR_lines hv hx.2.2.1
    refine g_getR (ci := 2) (k := 0) F hH rfl (by decide) iX2 hx.2.2.1 (by decide) rfl (b := gh 6 pA) r_14a k113 dX6_movedAt_28 ?_
    refine lv_iload_n F.1 F.2.1 dX6_movedAt_31 rfl (lv_at hl 1 rfl) ?_
    have hx32 : 0 ≤ rel ∧ rel < ((16 : Nat) : Int) ∧ rel ≤ 2147483647 := ⟨by omega, by omega, by omega⟩
    obtain ⟨y_15, y_15a, y_15b, y_15c, y_15d⟩ := gA_lines hv hx.2.2.1 (z := rel) (by omega) (by omega)
    refine g_aldL F hH r_14b hx32.1 hx32.2.1 hx32.2.2 (b := y_15) y_15a dX6_movedAt_32 ?_
    refine g_getI (ci := 0) (k := 2) F hH rfl (by decide) iX0 y_15b (by decide) rfl k125 dX6_movedAt_33 ?_
    have b_16 := gI_line hv y_15b
    unfold vLineI at b_16
    have hc4 : (I y_15 2).toInt ≤ 4 := by have q := (hv.2.2.1 y_15 y_15b).2.2.2; rw [y_15c] at q; exact q (by omega)
    refine lv_iload_n F.1 F.2.1 dX6_movedAt_36 rfl (lv_at hl 2 rfl) ?_
    refine lv_iload_n F.1 F.2.1 dX6_movedAt_37 rfl (lv_at hl 3 rfl) ?_
    refine g_calliX (g_runSX (As := [.ref y_13, .int (iI ((I y_15 2).toInt)), .int (iI row), .int (iI place)]) (rest := []) F hTh hl.1 hH hS hz (c_X6_tupleCell l g gh I R J AI AJ AR y_13 ((I y_15 2).toInt) row place (zr_t _) zrow zplace hv y_13b (by omega) hst) (va_cwS 4 F.2.2.2.2.1 (good_up gTB_X6_movedAt_X6_tupleCell) rfl rfl rfl hdX6_tupleCell.2 ⟨Nat.le_of_ble_eq_true rfl, Nat.le_of_ble_eq_true rfl⟩) rfl rfl (Nat.le_of_ble_eq_true rfl) dX6_movedAt_38 ⟨Nat.le_refl _, Nat.le_refl _⟩) hS (fun ce9 q9 I2 R2 J2 AI2 AJ2 AR2 H locs hp hH hS h1 h2 h3 => ?_) (fun z I2 R2 J2 AI2 AJ2 AR2 H locs zz hp hH hS => ?_)
    · dsimp only at hp
      obtain ⟨rfl, rfl, rfl, rfl, rfl, rfl⟩ := hp
      exact g_outX F hH hS hz hxt hlk h1 h2 h3 ⟨rfl, rfl, rfl, rfl, rfl, rfl⟩ (by decide) (by decide)
    dsimp only at hp
    obtain ⟨rfl, rfl, rfl, rfl, rfl, rfl⟩ := hp
    exact g_iretX F hr hlk hH hS hz zz ⟨rfl, rfl, rfl, rfl, rfl, rfl⟩ (by decide) (by decide) dX6_movedAt_41
  · exact g_throw F hTh hst hH hS hz hxt hlk hl.1 (i := 4) rfl (fun w h => List.mem_cons_of_mem _ h) dX6_movedAt_8 dX6_movedAt_11 dX6_movedAt_12 dX6_movedAt_14 dX6_movedAt_17 (Nat.le_of_ble_eq_true rfl) (Nat.le_of_ble_eq_true rfl) (Nat.le_refl _) (Nat.le_refl _) ⟨rfl, rfl, rfl, rfl, rfl, rfl⟩

def rmX6_count : Room := { frames := 6, cells := 1, slots := 6, locals := 82 }
theorem hdX6_count : yX6_count.cls = RX6 ∧ yX6_count.cls ≠ "java/lang/invoke/MethodHandle" ∧ yX6_count.cls ≠ "java/lang/invoke/VarHandle" ∧ (parseMethodDescriptor yX6_count.desc).map (fun d => d.parameters.length) = some 5 := by decide +kernel
set_option maxHeartbeats 4000000 in
set_option maxRecDepth 100000 in
/-- count -/
theorem c_X6_count (l : Launch) (g : gG) (gh : gGh) (pA bA nA : Nat) (I : gI) (R : gR) (J : gJ) (AI : gI) (AJ : gJ) (AR : gR) (x : Nat) (rel : Int) (ca : Int) (cb : Int) (c3 : Int) (c4 : Int) (zrel : zr rel) (zca : zr ca) (zcb : zr cb) (zc3 : zr c3) (zc4 : zr c4) (hv : gInv g gh R AR I AI) (hx : xS g gh R AR x pA bA nA) (hst : l.stackTraces = false) : gMetX l g yX6_count tsX6_count rmX6_count [.ref x, .int (iI rel), .int (iI ca), .int (iI cb), .int (iI c3), .int (iI c4)] (I, R, J, AI, AJ, AR) (gQi g (fun (z : Int) (w : gS) => I = w.1 ∧ R = w.2.1 ∧ J = w.2.2.1 ∧ AJ = w.2.2.2.2.1 ∧ AR = w.2.2.2.2.2 ∧ (gInv g gh R AR I (w.2.2.2.1)))) (fun w : gS => I = w.1 ∧ R = w.2.1 ∧ J = w.2.2.1 ∧ AJ = w.2.2.2.2.1 ∧ AR = w.2.2.2.2.2 ∧ (gInv g gh R AR I (w.2.2.2.1))) := by
  refine gStartX (cc := cX6_count) (maxL := 6) (ret := (some (.int))) (by decide) rfl (Nat.le_of_ble_eq_true rfl) ?_
  intro p e s m below meth c ls F hr hlk hH hz hS hxt hTh hl
  have hl : lv_has ls 6 [(0, .ref x), (1, .int (iI rel)), (2, .int (iI ca)), (3, .int (iI cb)), (4, .int (iI c3)), (5, .int (iI c4))] := hl
  have hS : va_S (gA g) s.heap s.heap [] := hS
  obtain ⟨H, hHe⟩ : ∃ H : Heap, H = s.heap := ⟨_, rfl⟩
  obtain ⟨locs, hlo⟩ : ∃ k : List Loc, k = [] := ⟨_, rfl⟩
  have hH : gH g I R J AI AJ AR H := by rw [hHe]; exact hH
  have hS : va_S (gA g) s.heap H locs := by rw [hHe, hlo]; exact hS
  suffices hw : W p l e rmX6_count s m ([.ref x, .int (iI rel), .int (iI ca), .int (iI cb), .int (iI c3), .int (iI c4)] : List Value).toArray below meth c H locs 0 0 (vx_MQ below (gQi g (fun (z : Int) (w : gS) => I = w.1 ∧ R = w.2.1 ∧ J = w.2.2.1 ∧ AJ = w.2.2.2.2.1 ∧ AR = w.2.2.2.2.2 ∧ (gInv g gh R AR I (w.2.2.2.1)))) (vx_X (fun w : gS => I = w.1 ∧ R = w.2.1 ∧ J = w.2.2.1 ∧ AJ = w.2.2.2.2.1 ∧ AR = w.2.2.2.2.2 ∧ (gInv g gh R AR I (w.2.2.2.1))) (gBX g) (gA g)) ([.ref x, .int (iI rel), .int (iI ca), .int (iI cb), .int (iI c3), .int (iI c4)] : List Value).toArray s 1 6 (gA g)) (F0 m 0 ls []) by
    rw [hHe, hlo] at hw; exact hw
  clear hHe hlo
  have iX6 : ∀ w ∈ u_ws RX6 TX6 18, w ∈ tsX6_count := fun w h => List.mem_cons_of_mem _ (inTB6 w h)
  have iX2 : ∀ w ∈ u_ws RX2 TX2 3, w ∈ tsX6_count := fun w h => List.mem_cons_of_mem _ (inTB2 w h)
  have iX0 : ∀ w ∈ u_ws RX0 TX0 15, w ∈ tsX6_count := fun w h => List.mem_cons_of_mem _ (inTB0 w h)
  have k23 : Cond.fieldLink RX6 23 (TX6 3).1 (TX6 3).2.1 (TX6 3).2.2.1 ∈ tsX6_count := List.mem_cons_of_mem _ (TBm (tk1 (List.mem_of_getElem? (i := 233) rfl)) rfl)
  have k113 : Cond.fieldLink RX6 113 (TX2 0).1 (TX2 0).2.1 (TX2 0).2.2.1 ∈ tsX6_count := List.mem_cons_of_mem _ (TBm (tk1 (List.mem_of_getElem? (i := 156) rfl)) rfl)
  have k125 : Cond.fieldLink RX6 125 (TX0 2).1 (TX0 2).2.1 (TX0 2).2.2.1 ∈ tsX6_count := List.mem_cons_of_mem _ (TBm (tk1 (List.mem_of_getElem? (i := 86) rfl)) rfl)
  have k38 : Cond.fieldLink RX6 38 (TX6 5).1 (TX6 5).2.1 (TX6 5).2.2.1 ∈ tsX6_count := List.mem_cons_of_mem _ (TBm (tk1 (List.mem_of_getElem? (i := 235) rfl)) rfl)
  have k66 : Cond.fieldLink RX6 66 (TX6 12).1 (TX6 12).2.1 (TX6 12).2.2.1 ∈ tsX6_count := List.mem_cons_of_mem _ (TBm (tk2 (List.mem_of_getElem? (i := 2) rfl)) rfl)
  refine lv_aload_n F.1 F.2.1 dX6_count_0 rfl (lv_at hl 0 rfl) ?_
  refine lv_iload_n F.1 F.2.1 dX6_count_1 rfl (lv_at hl 1 rfl) ?_
  have b_1 := gI_x hv hx.1
  refine g_calli (g_runV (As := [.int (iI rel)]) (rest := []) (ci := 6) F hl.1 hH hS hz (c_X6_isRelation l g gh pA bA nA I R J AI AJ AR x rel zrel hv hx) (cwV 1 F.2.2.2.2.1 (good_up gTB_X6_count_X6_isRelation) rfl rfl rfl hdX6_isRelation ⟨Nat.le_of_ble_eq_true rfl, Nat.le_of_ble_eq_true rfl⟩) hx.1 (by decide) rfl rfl rfl (Nat.le_of_ble_eq_true rfl) dX6_count_2 ⟨Nat.zero_le _, Nat.zero_le _⟩) hS (fun v_8 I_2 R_3 J_4 AI_5 AJ_6 AR_7 H locs zv_8 hp_9 hH hS => ?_)
  dsimp only at hp_9
  obtain ⟨rfl, rfl, rfl, rfl, rfl, rfl, q_10⟩ := hp_9
  refine z_if_ne (tgt := 18) F dX6_count_5 (by decide) zv_8 (fun c_11 => ?_) (fun c_11 => ?_)
  · refine lv_aload_n F.1 F.2.1 dX6_count_18 rfl (lv_at hl 0 rfl) ?_
    refine lv_aload_n F.1 F.2.1 dX6_count_19 rfl (lv_at hl 0 rfl) ?_
    refine g_getR (ci := 6) (k := 3) F hH rfl (by decide) iX6 hx.1 (by decide) rfl (b := pA) hx.2.1 k23 dX6_count_20 ?_
    obtain ⟨r_12a, r_12b⟩ := gR_lines hv hx.2.2.1
    refine g_getR (ci := 2) (k := 0) F hH rfl (by decide) iX2 hx.2.2.1 (by decide) rfl (b := gh 6 pA) r_12a k113 dX6_count_23 ?_
    refine lv_iload_n F.1 F.2.1 dX6_count_26 rfl (lv_at hl 1 rfl) ?_
    have hx27 : 0 ≤ rel ∧ rel < ((16 : Nat) : Int) ∧ rel ≤ 2147483647 := ⟨by omega, by omega, by omega⟩
    obtain ⟨y_13, y_13a, y_13b, y_13c, y_13d⟩ := gA_lines hv hx.2.2.1 (z := rel) (by omega) (by omega)
    refine g_aldL F hH r_12b hx27.1 hx27.2.1 hx27.2.2 (b := y_13) y_13a dX6_count_27 ?_
    refine g_getI (ci := 0) (k := 2) F hH rfl (by decide) iX0 y_13b (by decide) rfl k125 dX6_count_28 ?_
    have b_14 := gI_line hv y_13b
    unfold vLineI at b_14
    refine lv_iload_n F.1 F.2.1 dX6_count_31 rfl (lv_at hl 2 rfl) ?_
    refine lv_iload_n F.1 F.2.1 dX6_count_32 rfl (lv_at hl 3 rfl) ?_
    refine lv_iload F.1 F.2.1 dX6_count_33 (lv_at hl 4 rfl) ?_
    refine lv_iload F.1 F.2.1 dX6_count_35 (lv_at hl 5 rfl) ?_
    refine g_callv (g_runV (As := [.int (iI ((I y_13 2).toInt)), .int (iI ca), .int (iI cb), .int (iI c3), .int (iI c4)]) (rest := []) (ci := 6) F hl.1 hH hS hz (c_X6_setKey l g gh pA bA nA I R J AI AJ AR x ((I y_13 2).toInt) ca cb c3 c4 (zr_t _) zca zcb zc3 zc4 hv hx) (cwV 5 F.2.2.2.2.1 (good_up gTB_X6_count_X6_setKey) rfl rfl rfl hdX6_setKey ⟨Nat.le_of_ble_eq_true rfl, Nat.le_of_ble_eq_true rfl⟩) hx.1 (by decide) rfl rfl rfl (Nat.le_of_ble_eq_true rfl) dX6_count_37 ⟨Nat.zero_le _, Nat.zero_le _⟩) hS (fun I_15 R_16 J_17 AI_18 AJ_19 AR_20 H locs hp_21 hH hS => ?_)
    dsimp only at hp_21
    obtain ⟨rfl, rfl, rfl, rfl, rfl, hv⟩ := hp_21
    refine lv_aload_n F.1 F.2.1 dX6_count_40 rfl (lv_at hl 0 rfl) ?_
    refine g_getR (ci := 6) (k := 5) F hH rfl (by decide) iX6 hx.1 (by decide) rfl (b := bA) hx.2.2.2.1 k38 dX6_count_41 ?_
    refine lv_iload_n F.1 F.2.1 dX6_count_44 rfl (lv_at hl 1 rfl) ?_
    have hx45 : 0 ≤ rel ∧ rel < ((16 : Nat) : Int) ∧ rel ≤ 2147483647 := ⟨by omega, by omega, by omega⟩
    obtain ⟨y_22, y_22a, y_22b, y_22c, y_22d, y_22e⟩ := hx.2.2.2.2.1.2 (rel).toNat (by omega)
    refine g_aldR F hH hx.2.2.2.2.1.1 hx45.1 hx45.2.1 hx45.2.2 (b := y_22) y_22a dX6_count_45 ?_
    refine lv_aload_n F.1 F.2.1 dX6_count_46 rfl (lv_at hl 0 rfl) ?_
    obtain ⟨r_23a, r_23b⟩ := gR_x12 hv hx.1
    refine g_getR (ci := 6) (k := 12) F hH rfl (by decide) iX6 hx.1 (by decide) rfl (b := gh 29 0) r_23a k66 dX6_count_47 ?_
    obtain ⟨b_24a, b_24b, b_24c, b_24d, b_24e, b_24f, b_24g, b_24h⟩ := gI_rows hv y_22b
    refine g_calli (g_runV (As := [.ref (gh 29 0)]) (rest := []) (ci := 4) F hl.1 hH hS hz (c_X4_amountOf l g gh I R J AI_18 AJ AR y_22 (gh 29 0) hv y_22b r_23b) (cwV 1 F.2.2.2.2.1 (good_up gTB_X6_count_X4_amountOf) rfl rfl rfl hdX4_amountOf ⟨Nat.le_of_ble_eq_true rfl, Nat.le_of_ble_eq_true rfl⟩) y_22b (by decide) rfl rfl rfl (Nat.le_of_ble_eq_true rfl) dX6_count_50 ⟨Nat.zero_le _, Nat.zero_le _⟩) hS (fun v_31 I_25 R_26 J_27 AI_28 AJ_29 AR_30 H locs zv_31 hp_32 hH hS => ?_)
    dsimp only at hp_32
    obtain ⟨rfl, rfl, rfl, rfl, rfl, rfl⟩ := hp_32
    exact g_iretX F hr hlk hH hS hz zv_31 ⟨rfl, rfl, rfl, rfl, rfl, hv⟩ (by decide) (by decide) dX6_count_53
  · exact g_throw F hTh hst hH hS hz hxt hlk hl.1 (i := 4) rfl (fun w h => List.mem_cons_of_mem _ h) dX6_count_8 dX6_count_11 dX6_count_12 dX6_count_14 dX6_count_17 (Nat.le_of_ble_eq_true rfl) (Nat.le_of_ble_eq_true rfl) (Nat.le_refl _) (Nat.le_refl _) ⟨rfl, rfl, rfl, rfl, rfl, hv⟩

def rmX6_total : Room := { frames := 6, cells := 1, slots := 6, locals := 82 }
theorem hdX6_total : yX6_total.cls = RX6 ∧ yX6_total.cls ≠ "java/lang/invoke/MethodHandle" ∧ yX6_total.cls ≠ "java/lang/invoke/VarHandle" ∧ (parseMethodDescriptor yX6_total.desc).map (fun d => d.parameters.length) = some 1 := by decide +kernel
set_option maxHeartbeats 4000000 in
set_option maxRecDepth 100000 in
/-- total -/
theorem c_X6_total (l : Launch) (g : gG) (gh : gGh) (pA bA nA : Nat) (I : gI) (R : gR) (J : gJ) (AI : gI) (AJ : gJ) (AR : gR) (x : Nat) (rel : Int) (zrel : zr rel) (hv : gInv g gh R AR I AI) (hx : xS g gh R AR x pA bA nA) (hst : l.stackTraces = false) : gMetX l g yX6_total tsX6_total rmX6_total [.ref x, .int (iI rel)] (I, R, J, AI, AJ, AR) (gQi g (fun (z : Int) (w : gS) => I = w.1 ∧ R = w.2.1 ∧ J = w.2.2.1 ∧ AI = w.2.2.2.1 ∧ AJ = w.2.2.2.2.1 ∧ AR = w.2.2.2.2.2)) (fun w : gS => I = w.1 ∧ R = w.2.1 ∧ J = w.2.2.1 ∧ AI = w.2.2.2.1 ∧ AJ = w.2.2.2.2.1 ∧ AR = w.2.2.2.2.2) := by
  refine gStartX (cc := cX6_total) (maxL := 5) (ret := (some (.int))) (by decide) rfl (Nat.le_of_ble_eq_true rfl) ?_
  intro p e s m below meth c ls F hr hlk hH hz hS hxt hTh hl
  have hl : lv_has ls 5 [(0, .ref x), (1, .int (iI rel))] := hl
  have hS : va_S (gA g) s.heap s.heap [] := hS
  obtain ⟨H, hHe⟩ : ∃ H : Heap, H = s.heap := ⟨_, rfl⟩
  obtain ⟨locs, hlo⟩ : ∃ k : List Loc, k = [] := ⟨_, rfl⟩
  have hH : gH g I R J AI AJ AR H := by rw [hHe]; exact hH
  have hS : va_S (gA g) s.heap H locs := by rw [hHe, hlo]; exact hS
  suffices hw : W p l e rmX6_total s m ([.ref x, .int (iI rel)] : List Value).toArray below meth c H locs 0 0 (vx_MQ below (gQi g (fun (z : Int) (w : gS) => I = w.1 ∧ R = w.2.1 ∧ J = w.2.2.1 ∧ AI = w.2.2.2.1 ∧ AJ = w.2.2.2.2.1 ∧ AR = w.2.2.2.2.2)) (vx_X (fun w : gS => I = w.1 ∧ R = w.2.1 ∧ J = w.2.2.1 ∧ AI = w.2.2.2.1 ∧ AJ = w.2.2.2.2.1 ∧ AR = w.2.2.2.2.2) (gBX g) (gA g)) ([.ref x, .int (iI rel)] : List Value).toArray s 1 6 (gA g)) (F0 m 0 ls []) by
    rw [hHe, hlo] at hw; exact hw
  clear hHe hlo
  have iX6 : ∀ w ∈ u_ws RX6 TX6 18, w ∈ tsX6_total := fun w h => List.mem_cons_of_mem _ (inTB6 w h)
  have iX4 : ∀ w ∈ u_ws RX4 TX4 4, w ∈ tsX6_total := fun w h => List.mem_cons_of_mem _ (inTB4 w h)
  have k38 : Cond.fieldLink RX6 38 (TX6 5).1 (TX6 5).2.1 (TX6 5).2.2.1 ∈ tsX6_total := List.mem_cons_of_mem _ (TBm (tk1 (List.mem_of_getElem? (i := 235) rfl)) rfl)
  have k99 : Cond.fieldLink RX6 99 (TX4 3).1 (TX4 3).2.1 (TX4 3).2.2.1 ∈ tsX6_total := List.mem_cons_of_mem _ (TBm (tk1 (List.mem_of_getElem? (i := 217) rfl)) rfl)
  refine lv_aload_n F.1 F.2.1 dX6_total_0 rfl (lv_at hl 0 rfl) ?_
  refine lv_iload_n F.1 F.2.1 dX6_total_1 rfl (lv_at hl 1 rfl) ?_
  have b_1 := gI_x hv hx.1
  refine g_calli (g_runV (As := [.int (iI rel)]) (rest := []) (ci := 6) F hl.1 hH hS hz (c_X6_isRelation l g gh pA bA nA I R J AI AJ AR x rel zrel hv hx) (cwV 1 F.2.2.2.2.1 (good_up gTB_X6_total_X6_isRelation) rfl rfl rfl hdX6_isRelation ⟨Nat.le_of_ble_eq_true rfl, Nat.le_of_ble_eq_true rfl⟩) hx.1 (by decide) rfl rfl rfl (Nat.le_of_ble_eq_true rfl) dX6_total_2 ⟨Nat.zero_le _, Nat.zero_le _⟩) hS (fun v_8 I_2 R_3 J_4 AI_5 AJ_6 AR_7 H locs zv_8 hp_9 hH hS => ?_)
  dsimp only at hp_9
  obtain ⟨rfl, rfl, rfl, rfl, rfl, rfl, q_10⟩ := hp_9
  refine z_if_ne (tgt := 18) F dX6_total_5 (by decide) zv_8 (fun c_11 => ?_) (fun c_11 => ?_)
  · refine lv_aload_n F.1 F.2.1 dX6_total_18 rfl (lv_at hl 0 rfl) ?_
    refine g_getR (ci := 6) (k := 5) F hH rfl (by decide) iX6 hx.1 (by decide) rfl (b := bA) hx.2.2.2.1 k38 dX6_total_19 ?_
    refine lv_iload_n F.1 F.2.1 dX6_total_22 rfl (lv_at hl 1 rfl) ?_
    have hx23 : 0 ≤ rel ∧ rel < ((16 : Nat) : Int) ∧ rel ≤ 2147483647 := ⟨by omega, by omega, by omega⟩
    obtain ⟨y_12, y_12a, y_12b, y_12c, y_12d, y_12e⟩ := hx.2.2.2.2.1.2 (rel).toNat (by omega)
    refine g_aldR F hH hx.2.2.2.2.1.1 hx23.1 hx23.2.1 hx23.2.2 (b := y_12) y_12a dX6_total_23 ?_
    refine lv_astore_n (lv' := [(2, .ref y_12), (0, .ref x), (1, .int (iI rel))]) F.1 F.2.1 dX6_total_24 rfl hl (by decide) rfl (fun ls hl => ?_)
    refine z_iconst F dX6_total_25 ?_
    refine lv_istore_n (lv' := [(3, .int (iI 0)), (2, .ref y_12), (0, .ref x), (1, .int (iI rel))]) F.1 F.2.1 dX6_total_26 rfl hl (by decide) rfl (fun ls hl => ?_)
    refine z_iconst F dX6_total_27 ?_
    refine lv_istore (lv' := [(4, .int (iI 0)), (3, .int (iI 0)), (2, .ref y_12), (0, .ref x), (1, .int (iI rel))]) F.1 F.2.1 dX6_total_28 hl (by decide) rfl (fun ls hl => ?_)
    have cut_30_12 : ∀ (NN : Nat) (sm i : Int) (H : Heap) (locs : List Loc) (ls : Array Slot), zr sm → zr i → (0 ≤ i ∧ i ≤ 240) → (240 - i) < ((NN : Nat) : Int) → gH g I R J AI AJ AR H → va_S (gA g) s.heap H locs → lv_has ls 5 [(4, .int (iI i)), (3, .int (iI sm)), (2, .ref y_12), (0, .ref x), (1, .int (iI rel))] → W p l e rmX6_total s m ([.ref x, .int (iI rel)] : List Value).toArray below meth c H locs 0 0 (vx_MQ below (gQi g (fun (z : Int) (w : gS) => I = w.1 ∧ R = w.2.1 ∧ J = w.2.2.1 ∧ AI = w.2.2.2.1 ∧ AJ = w.2.2.2.2.1 ∧ AR = w.2.2.2.2.2)) (vx_X (fun w : gS => I = w.1 ∧ R = w.2.1 ∧ J = w.2.2.1 ∧ AI = w.2.2.2.1 ∧ AJ = w.2.2.2.2.1 ∧ AR = w.2.2.2.2.2) (gBX g) (gA g)) ([.ref x, .int (iI rel)] : List Value).toArray s 1 6 (gA g)) (F0 m 30 ls []) := by
      intro NN30
      induction NN30 with
      | zero =>
        intro sm i H locs ls zsm zi hi hm30 hH hS hl
        exact absurd hm30 (by omega)
      | succ NN30 ih30 =>
        intro sm i H locs ls zsm zi hi hm30 hH hS hl
        refine lv_iload F.1 F.2.1 dX6_total_30 (lv_at hl 0 rfl) ?_
        refine lv_aload_n F.1 F.2.1 dX6_total_32 rfl (lv_at hl 2 rfl) ?_
        refine g_getI (ci := 4) (k := 3) F hH rfl (by decide) iX4 y_12b (by decide) rfl k99 dX6_total_33 ?_
        obtain ⟨b_14a, b_14b, b_14c, b_14d, b_14e, b_14f, b_14g, b_14h⟩ := gI_rows hv y_12b
        refine z_icmp_ge (tgt := 54) F dX6_total_36 (by decide) zi (zr_t _) (fun c_15 => ?_) (fun c_15 => ?_)
        · refine lv_iload_n F.1 F.2.1 dX6_total_54 rfl (lv_at hl 1 rfl) ?_
          exact g_iretX F hr hlk hH hS hz zsm ⟨rfl, rfl, rfl, rfl, rfl, rfl⟩ (by decide) (by decide) dX6_total_55
        · refine lv_iload_n F.1 F.2.1 dX6_total_39 rfl (lv_at hl 1 rfl) ?_
          refine lv_aload_n F.1 F.2.1 dX6_total_40 rfl (lv_at hl 2 rfl) ?_
          refine lv_iload F.1 F.2.1 dX6_total_41 (lv_at hl 0 rfl) ?_
          refine g_calli (g_runV (As := [.int (iI i)]) (rest := [.int (iI sm)]) (ci := 4) F hl.1 hH hS hz (c_X4_amount l g gh I R J AI AJ AR y_12 i zi hv y_12b (by omega) (by omega)) (cwV 1 F.2.2.2.2.1 (good_up gTB_X6_total_X4_amount) rfl rfl rfl hdX4_amount ⟨Nat.le_of_ble_eq_true rfl, Nat.le_of_ble_eq_true rfl⟩) y_12b (by decide) rfl rfl rfl (Nat.le_of_ble_eq_true rfl) dX6_total_43 ⟨Nat.zero_le _, Nat.zero_le _⟩) hS (fun v_22 I_16 R_17 J_18 AI_19 AJ_20 AR_21 H locs zv_22 hp_23 hH hS => ?_)
          dsimp only at hp_23
          obtain ⟨rfl, rfl, rfl, rfl, rfl, rfl, q_24⟩ := hp_23
          refine z_iadd F dX6_total_46 ?_
          refine z_norm (fun v_25 zv_25 ev_25 => ?_)
          refine lv_istore_n (lv' := [(3, .int (iI v_25)), (4, .int (iI i)), (2, .ref y_12), (0, .ref x), (1, .int (iI rel))]) F.1 F.2.1 dX6_total_47 rfl hl (by decide) rfl (fun ls hl => ?_)
          refine z_iinc (lv' := [(4, .int (iI (i + 1))), (3, .int (iI v_25)), (2, .ref y_12), (0, .ref x), (1, .int (iI rel))]) F dX6_total_48 hl (k := 1) rfl (by decide) rfl (fun ls hl => ?_)
          refine z_goto (tgt := 30) F dX6_total_51 (by decide) ?_
          exact ih30 v_25 (i + 1) H locs ls zv_25 ⟨by omega, by omega⟩ (by omega) (by omega) hH hS (lv_sub hl [0, 1, 2, 3, 4] rfl)
    exact cut_30_12 (((240 - 0) + 1 : Int).toNat) 0 0 H locs ls ⟨by decide, by decide⟩ ⟨by decide, by decide⟩ (by omega) (by omega) hH hS (lv_sub hl [0, 1, 2, 3, 4] rfl)
  · exact g_throw F hTh hst hH hS hz hxt hlk hl.1 (i := 4) rfl (fun w h => List.mem_cons_of_mem _ h) dX6_total_8 dX6_total_11 dX6_total_12 dX6_total_14 dX6_total_17 (Nat.le_of_ble_eq_true rfl) (Nat.le_of_ble_eq_true rfl) (Nat.le_refl _) (Nat.le_refl _) ⟨rfl, rfl, rfl, rfl, rfl, rfl⟩

def rmX6_column : Room := { frames := 6, cells := 1, slots := 6, locals := 131 }
theorem hdX6_column : yX6_column.cls = RX6 ∧ yX6_column.cls ≠ "java/lang/invoke/MethodHandle" ∧ yX6_column.cls ≠ "java/lang/invoke/VarHandle" ∧ (parseMethodDescriptor yX6_column.desc).map (fun d => d.parameters.length) = some 3 := by decide +kernel
set_option maxHeartbeats 4000000 in
set_option maxRecDepth 100000 in
/-- column -/
theorem c_X6_column (l : Launch) (g : gG) (gh : gGh) (pA bA nA : Nat) (I : gI) (R : gR) (J : gJ) (AI : gI) (AJ : gJ) (AR : gR) (x : Nat) (rel : Int) (col : Int) (wh : Int) (zrel : zr rel) (zcol : zr col) (zwh : zr wh) (hv : gInv g gh R AR I AI) (hx : xS g gh R AR x pA bA nA) (hst : l.stackTraces = false) : gMetX l g yX6_column tsX6_column rmX6_column [.ref x, .int (iI rel), .int (iI col), .int (iI wh)] (I, R, J, AI, AJ, AR) (gQi g (fun (z : Int) (w : gS) => R = w.2.1 ∧ J = w.2.2.1 ∧ AJ = w.2.2.2.2.1 ∧ AR = w.2.2.2.2.2 ∧ (gInv g gh R AR (w.1) (w.2.2.2.1)) ∧ (rF g I (w.1)))) (fun w : gS => R = w.2.1 ∧ J = w.2.2.1 ∧ AJ = w.2.2.2.2.1 ∧ AR = w.2.2.2.2.2 ∧ (gInv g gh R AR (w.1) (w.2.2.2.1)) ∧ (rF g I (w.1))) := by
  refine gStartX (cc := cX6_column) (maxL := 4) (ret := (some (.int))) (by decide) rfl (Nat.le_of_ble_eq_true rfl) ?_
  intro p e s m below meth c ls F hr hlk hH hz hS hxt hTh hl
  have hl : lv_has ls 4 [(0, .ref x), (1, .int (iI rel)), (2, .int (iI col)), (3, .int (iI wh))] := hl
  have hS : va_S (gA g) s.heap s.heap [] := hS
  obtain ⟨H, hHe⟩ : ∃ H : Heap, H = s.heap := ⟨_, rfl⟩
  obtain ⟨locs, hlo⟩ : ∃ k : List Loc, k = [] := ⟨_, rfl⟩
  have hH : gH g I R J AI AJ AR H := by rw [hHe]; exact hH
  have hS : va_S (gA g) s.heap H locs := by rw [hHe, hlo]; exact hS
  suffices hw : W p l e rmX6_column s m ([.ref x, .int (iI rel), .int (iI col), .int (iI wh)] : List Value).toArray below meth c H locs 0 0 (vx_MQ below (gQi g (fun (z : Int) (w : gS) => R = w.2.1 ∧ J = w.2.2.1 ∧ AJ = w.2.2.2.2.1 ∧ AR = w.2.2.2.2.2 ∧ (gInv g gh R AR (w.1) (w.2.2.2.1)) ∧ (rF g I (w.1)))) (vx_X (fun w : gS => R = w.2.1 ∧ J = w.2.2.1 ∧ AJ = w.2.2.2.2.1 ∧ AR = w.2.2.2.2.2 ∧ (gInv g gh R AR (w.1) (w.2.2.2.1)) ∧ (rF g I (w.1))) (gBX g) (gA g)) ([.ref x, .int (iI rel), .int (iI col), .int (iI wh)] : List Value).toArray s 1 6 (gA g)) (F0 m 0 ls []) by
    rw [hHe, hlo] at hw; exact hw
  clear hHe hlo
  have rf : rF g I I := rF_r
  have iX6 : ∀ w ∈ u_ws RX6 TX6 18, w ∈ tsX6_column := fun w h => List.mem_cons_of_mem _ (inTB6 w h)
  have iX4 : ∀ w ∈ u_ws RX4 TX4 4, w ∈ tsX6_column := fun w h => List.mem_cons_of_mem _ (inTB4 w h)
  have iX2 : ∀ w ∈ u_ws RX2 TX2 3, w ∈ tsX6_column := fun w h => List.mem_cons_of_mem _ (inTB2 w h)
  have iX0 : ∀ w ∈ u_ws RX0 TX0 15, w ∈ tsX6_column := fun w h => List.mem_cons_of_mem _ (inTB0 w h)
  have k23 : Cond.fieldLink RX6 23 (TX6 3).1 (TX6 3).2.1 (TX6 3).2.2.1 ∈ tsX6_column := List.mem_cons_of_mem _ (TBm (tk1 (List.mem_of_getElem? (i := 233) rfl)) rfl)
  have k113 : Cond.fieldLink RX6 113 (TX2 0).1 (TX2 0).2.1 (TX2 0).2.2.1 ∈ tsX6_column := List.mem_cons_of_mem _ (TBm (tk1 (List.mem_of_getElem? (i := 156) rfl)) rfl)
  have k125 : Cond.fieldLink RX6 125 (TX0 2).1 (TX0 2).2.1 (TX0 2).2.2.1 ∈ tsX6_column := List.mem_cons_of_mem _ (TBm (tk1 (List.mem_of_getElem? (i := 86) rfl)) rfl)
  have k38 : Cond.fieldLink RX6 38 (TX6 5).1 (TX6 5).2.1 (TX6 5).2.2.1 ∈ tsX6_column := List.mem_cons_of_mem _ (TBm (tk1 (List.mem_of_getElem? (i := 235) rfl)) rfl)
  have k63 : Cond.fieldLink RX6 63 (TX6 11).1 (TX6 11).2.1 (TX6 11).2.2.1 ∈ tsX6_column := List.mem_cons_of_mem _ (TBm (tk2 (List.mem_of_getElem? (i := 1) rfl)) rfl)
  have k99 : Cond.fieldLink RX6 99 (TX4 3).1 (TX4 3).2.1 (TX4 3).2.2.1 ∈ tsX6_column := List.mem_cons_of_mem _ (TBm (tk1 (List.mem_of_getElem? (i := 217) rfl)) rfl)
  refine lv_aload_n F.1 F.2.1 dX6_column_0 rfl (lv_at hl 0 rfl) ?_
  refine lv_iload_n F.1 F.2.1 dX6_column_1 rfl (lv_at hl 1 rfl) ?_
  have b_1 := gI_x hv hx.1
  refine g_calli (g_runV (As := [.int (iI rel)]) (rest := []) (ci := 6) F hl.1 hH hS hz (c_X6_isRelation l g gh pA bA nA I R J AI AJ AR x rel zrel hv hx) (cwV 1 F.2.2.2.2.1 (good_up gTB_X6_column_X6_isRelation) rfl rfl rfl hdX6_isRelation ⟨Nat.le_of_ble_eq_true rfl, Nat.le_of_ble_eq_true rfl⟩) hx.1 (by decide) rfl rfl rfl (Nat.le_of_ble_eq_true rfl) dX6_column_2 ⟨Nat.zero_le _, Nat.zero_le _⟩) hS (fun v_8 I_2 R_3 J_4 AI_5 AJ_6 AR_7 H locs zv_8 hp_9 hH hS => ?_)
  dsimp only at hp_9
  obtain ⟨rfl, rfl, rfl, rfl, rfl, rfl, q_10⟩ := hp_9
  refine z_if_ne (tgt := 18) F dX6_column_5 (by decide) zv_8 (fun c_11 => ?_) (fun c_11 => ?_)
  · refine lv_iload_n F.1 F.2.1 dX6_column_18 rfl (lv_at hl 2 rfl) ?_
    refine z_if_lt (tgt := 47) F dX6_column_19 (by decide) zcol (fun c_12 => ?_) (fun c_12 => ?_)
    · exact g_throw F hTh hst hH hS hz hxt hlk hl.1 (i := 3) rfl (fun w h => List.mem_cons_of_mem _ h) dX6_column_47 dX6_column_50 dX6_column_51 dX6_column_53 dX6_column_56 (Nat.le_of_ble_eq_true rfl) (Nat.le_of_ble_eq_true rfl) (Nat.le_refl _) (Nat.le_refl _) ⟨rfl, rfl, rfl, rfl, hv, rf⟩
    · refine lv_iload_n F.1 F.2.1 dX6_column_22 rfl (lv_at hl 2 rfl) ?_
      refine lv_aload_n F.1 F.2.1 dX6_column_23 rfl (lv_at hl 0 rfl) ?_
      refine g_getR (ci := 6) (k := 3) F hH rfl (by decide) iX6 hx.1 (by decide) rfl (b := pA) hx.2.1 k23 dX6_column_24 ?_
      obtain ⟨r_13a, r_13b⟩ := gR_lines hv hx.2.2.1
      refine g_getR (ci := 2) (k := 0) F hH rfl (by decide) iX2 hx.2.2.1 (by decide) rfl (b := gh 6 pA) r_13a k113 dX6_column_27 ?_
      refine lv_iload_n F.1 F.2.1 dX6_column_30 rfl (lv_at hl 1 rfl) ?_
      have hx31 : 0 ≤ rel ∧ rel < ((16 : Nat) : Int) ∧ rel ≤ 2147483647 := ⟨by omega, by omega, by omega⟩
      obtain ⟨y_14, y_14a, y_14b, y_14c, y_14d⟩ := gA_lines hv hx.2.2.1 (z := rel) (by omega) (by omega)
      refine g_aldL F hH r_13b hx31.1 hx31.2.1 hx31.2.2 (b := y_14) y_14a dX6_column_31 ?_
      refine g_getI (ci := 0) (k := 2) F hH rfl (by decide) iX0 y_14b (by decide) rfl k125 dX6_column_32 ?_
      have b_15 := gI_line hv y_14b
      unfold vLineI at b_15
      have hc4 : (I y_14 2).toInt ≤ 4 := by have q := (hv.2.2.1 y_14 y_14b).2.2.2; rw [y_14c] at q; exact q (by omega)
      refine z_icmp_ge (tgt := 47) F dX6_column_35 (by decide) zcol (zr_t _) (fun c_16 => ?_) (fun c_16 => ?_)
      · exact g_throw F hTh hst hH hS hz hxt hlk hl.1 (i := 3) rfl (fun w h => List.mem_cons_of_mem _ h) dX6_column_47 dX6_column_50 dX6_column_51 dX6_column_53 dX6_column_56 (Nat.le_of_ble_eq_true rfl) (Nat.le_of_ble_eq_true rfl) (Nat.le_refl _) (Nat.le_refl _) ⟨rfl, rfl, rfl, rfl, hv, rf⟩
      · refine lv_iload_n F.1 F.2.1 dX6_column_38 rfl (lv_at hl 3 rfl) ?_
        refine z_if_lt (tgt := 47) F dX6_column_39 (by decide) zwh (fun c_17 => ?_) (fun c_17 => ?_)
        · exact g_throw F hTh hst hH hS hz hxt hlk hl.1 (i := 3) rfl (fun w h => List.mem_cons_of_mem _ h) dX6_column_47 dX6_column_50 dX6_column_51 dX6_column_53 dX6_column_56 (Nat.le_of_ble_eq_true rfl) (Nat.le_of_ble_eq_true rfl) (Nat.le_refl _) (Nat.le_refl _) ⟨rfl, rfl, rfl, rfl, hv, rf⟩
        · refine lv_iload_n F.1 F.2.1 dX6_column_42 rfl (lv_at hl 3 rfl) ?_
          refine z_iconst F dX6_column_43 ?_
          refine z_icmp_le (tgt := 57) F dX6_column_44 (by decide) zwh ⟨by decide, by decide⟩ (fun c_18 => ?_) (fun c_18 => ?_)
          · refine lv_aload_n F.1 F.2.1 dX6_column_57 rfl (lv_at hl 0 rfl) ?_
            refine lv_aload_n F.1 F.2.1 dX6_column_58 rfl (lv_at hl 0 rfl) ?_
            refine g_getR (ci := 6) (k := 5) F hH rfl (by decide) iX6 hx.1 (by decide) rfl (b := bA) hx.2.2.2.1 k38 dX6_column_59 ?_
            refine lv_iload_n F.1 F.2.1 dX6_column_62 rfl (lv_at hl 1 rfl) ?_
            have hx63 : 0 ≤ rel ∧ rel < ((16 : Nat) : Int) ∧ rel ≤ 2147483647 := ⟨by omega, by omega, by omega⟩
            obtain ⟨y_19, y_19a, y_19b, y_19c, y_19d, y_19e⟩ := hx.2.2.2.2.1.2 (rel).toNat (by omega)
            refine g_aldR F hH hx.2.2.2.2.1.1 hx63.1 hx63.2.1 hx63.2.2 (b := y_19) y_19a dX6_column_63 ?_
            refine lv_iload_n F.1 F.2.1 dX6_column_64 rfl (lv_at hl 2 rfl) ?_
            obtain ⟨b_20a, b_20b, b_20c, b_20d, b_20e, b_20f, b_20g, b_20h⟩ := gI_rows hv y_19b
            refine g_callv (g_runV (As := [.ref y_19, .int (iI col)]) (rest := []) (ci := 6) F hl.1 hH hS hz (c_X6_gatherValues l g gh pA bA nA I R J AI AJ AR x y_19 col zcol hv hx y_19b (by omega)) (cwV 2 F.2.2.2.2.1 (good_up gTB_X6_column_X6_gatherValues) rfl rfl rfl hdX6_gatherValues ⟨Nat.le_of_ble_eq_true rfl, Nat.le_of_ble_eq_true rfl⟩) hx.1 (by decide) rfl rfl rfl (Nat.le_of_ble_eq_true rfl) dX6_column_65 ⟨Nat.zero_le _, Nat.zero_le _⟩) hS (fun I_21 R_22 J_23 AI_24 AJ_25 AR_26 H locs hp_27 hH hS => ?_)
            dsimp only at hp_27
            obtain ⟨rfl, rfl, rfl, rfl, hv, rfq⟩ := hp_27
            have rf := rF_t rf rfq
            have u_28p : I_21 pA = I pA := rf pA 2 hx.2.2.1 (by decide)
            have u_28p1 : (I_21 pA 1).toInt = (I pA 1).toInt := by rw [u_28p]
            have u_28p2 : (I_21 pA 2).toInt = (I pA 2).toInt := by rw [u_28p]
            refine lv_iload_n F.1 F.2.1 dX6_column_68 rfl (lv_at hl 3 rfl) ?_
            refine z_iconst F dX6_column_69 ?_
            refine z_icmp_ne (tgt := 81) F dX6_column_70 (by decide) zwh ⟨by decide, by decide⟩ (fun c_29 => ?_) (fun c_29 => ?_)
            · refine lv_aload_n F.1 F.2.1 dX6_column_81 rfl (lv_at hl 0 rfl) ?_
              obtain ⟨r_30a, r_30b, r_30c, r_30d⟩ := gR_x11 hv hx.1
              refine g_getR (ci := 6) (k := 11) F hH rfl (by decide) iX6 hx.1 (by decide) rfl (b := gh 40 0) r_30a k63 dX6_column_82 ?_
              refine g_getI (ci := 4) (k := 3) F hH rfl (by decide) iX4 r_30b (by decide) rfl k99 dX6_column_85 ?_
              obtain ⟨b_31a, b_31b, b_31c, b_31d, b_31e, b_31f, b_31g, b_31h⟩ := gI_rows hv r_30b
              refine z_if_ne (tgt := 101) F dX6_column_88 (by decide) (zr_t _) (fun c_32 => ?_) (fun c_32 => ?_)
              · refine lv_aload_n F.1 F.2.1 dX6_column_101 rfl (lv_at hl 0 rfl) ?_
                refine g_getR (ci := 6) (k := 11) F hH rfl (by decide) iX6 hx.1 (by decide) rfl (b := gh 40 0) r_30a k63 dX6_column_102 ?_
                have cut_122_32 : ∀ (rw : Int) (H : Heap) (locs : List Loc) (ls : Array Slot), zr rw → (0 ≤ rw ∧ rw < 240) → gH g I_21 R J AI_24 AJ AR H → va_S (gA g) s.heap H locs → lv_has ls 4 [(0, .ref x), (1, .int (iI rel)), (2, .int (iI col)), (3, .int (iI wh))] → W p l e rmX6_column s m ([.ref x, .int (iI rel), .int (iI col), .int (iI wh)] : List Value).toArray below meth c H locs 0 0 (vx_MQ below (gQi g (fun (z : Int) (w : gS) => R = w.2.1 ∧ J = w.2.2.1 ∧ AJ = w.2.2.2.2.1 ∧ AR = w.2.2.2.2.2 ∧ (gInv g gh R AR (w.1) (w.2.2.2.1)) ∧ (rF g I (w.1)))) (vx_X (fun w : gS => R = w.2.1 ∧ J = w.2.2.1 ∧ AJ = w.2.2.2.2.1 ∧ AR = w.2.2.2.2.2 ∧ (gInv g gh R AR (w.1) (w.2.2.2.1)) ∧ (rF g I (w.1))) (gBX g) (gA g)) ([.ref x, .int (iI rel), .int (iI col), .int (iI wh)] : List Value).toArray s 1 6 (gA g)) (F0 m 122 ls [.int (iI rw), .ref (gh 40 0)]) := by
                  intro rw H locs ls zrw hrw hH hS hl
                  refine z_iconst F dX6_column_122 ?_
                  refine g_calli (g_runV (As := [.int (iI rw), .int (iI 0)]) (rest := []) (ci := 4) F hl.1 hH hS hz (c_X4_cell l g gh I_21 R J AI_24 AJ AR (gh 40 0) rw 0 zrw ⟨by decide, by decide⟩ hv r_30b (by omega) (by omega) (by omega) (by omega)) (cwV 2 F.2.2.2.2.1 (good_up gTB_X6_column_X4_cell) rfl rfl rfl hdX4_cell ⟨Nat.le_of_ble_eq_true rfl, Nat.le_of_ble_eq_true rfl⟩) r_30b (by decide) rfl rfl rfl (Nat.le_of_ble_eq_true rfl) dX6_column_123 ⟨Nat.zero_le _, Nat.zero_le _⟩) hS (fun v_40 I_34 R_35 J_36 AI_37 AJ_38 AR_39 H locs zv_40 hp_41 hH hS => ?_)
                  dsimp only at hp_41
                  obtain ⟨rfl, rfl, rfl, rfl, rfl, rfl, q_42⟩ := hp_41
                  exact g_iretX F hr hlk hH hS hz zv_40 ⟨rfl, rfl, rfl, rfl, hv, rf⟩ (by decide) (by decide) dX6_column_126
                refine lv_iload_n F.1 F.2.1 dX6_column_105 rfl (lv_at hl 3 rfl) ?_
                refine z_if_ne (tgt := 113) F dX6_column_106 (by decide) zwh (fun c_43 => ?_) (fun c_43 => ?_)
                · refine lv_aload_n F.1 F.2.1 dX6_column_113 rfl (lv_at hl 0 rfl) ?_
                  refine g_getR (ci := 6) (k := 11) F hH rfl (by decide) iX6 hx.1 (by decide) rfl (b := gh 40 0) r_30a k63 dX6_column_114 ?_
                  refine g_getI (ci := 4) (k := 3) F hH rfl (by decide) iX4 r_30b (by decide) rfl k99 dX6_column_117 ?_
                  refine z_iconst F dX6_column_120 ?_
                  refine z_isub F dX6_column_121 ?_
                  exact cut_122_32 (((I_21 (gh 40 0) 3).toInt) - 1) H locs ls ⟨by omega, by omega⟩ (by omega) hH hS (lv_sub hl [0, 1, 2, 3] rfl)
                · refine z_iconst F dX6_column_109 ?_
                  refine z_goto (tgt := 122) F dX6_column_110 (by decide) ?_
                  exact cut_122_32 0 H locs ls ⟨by decide, by decide⟩ (by omega) hH hS (lv_sub hl [0, 1, 2, 3] rfl)
              · exact g_throw F hTh hst hH hS hz hxt hlk hl.1 (i := 6) rfl (fun w h => List.mem_cons_of_mem _ h) dX6_column_91 dX6_column_94 dX6_column_95 dX6_column_97 dX6_column_100 (Nat.le_of_ble_eq_true rfl) (Nat.le_of_ble_eq_true rfl) (Nat.le_refl _) (Nat.le_refl _) ⟨rfl, rfl, rfl, rfl, hv, rf⟩
            · refine lv_aload_n F.1 F.2.1 dX6_column_73 rfl (lv_at hl 0 rfl) ?_
              obtain ⟨r_44a, r_44b, r_44c, r_44d⟩ := gR_x11 hv hx.1
              refine g_getR (ci := 6) (k := 11) F hH rfl (by decide) iX6 hx.1 (by decide) rfl (b := gh 40 0) r_44a k63 dX6_column_74 ?_
              refine g_getI (ci := 4) (k := 3) F hH rfl (by decide) iX4 r_44b (by decide) rfl k99 dX6_column_77 ?_
              obtain ⟨b_45a, b_45b, b_45c, b_45d, b_45e, b_45f, b_45g, b_45h⟩ := gI_rows hv r_44b
              exact g_iretX F hr hlk hH hS hz (zr_t _) ⟨rfl, rfl, rfl, rfl, hv, rf⟩ (by decide) (by decide) dX6_column_80
          · exact g_throw F hTh hst hH hS hz hxt hlk hl.1 (i := 3) rfl (fun w h => List.mem_cons_of_mem _ h) dX6_column_47 dX6_column_50 dX6_column_51 dX6_column_53 dX6_column_56 (Nat.le_of_ble_eq_true rfl) (Nat.le_of_ble_eq_true rfl) (Nat.le_refl _) (Nat.le_refl _) ⟨rfl, rfl, rfl, rfl, hv, rf⟩
  · exact g_throw F hTh hst hH hS hz hxt hlk hl.1 (i := 4) rfl (fun w h => List.mem_cons_of_mem _ h) dX6_column_8 dX6_column_11 dX6_column_12 dX6_column_14 dX6_column_17 (Nat.le_of_ble_eq_true rfl) (Nat.le_of_ble_eq_true rfl) (Nat.le_refl _) (Nat.le_refl _) ⟨rfl, rfl, rfl, rfl, hv, rf⟩
