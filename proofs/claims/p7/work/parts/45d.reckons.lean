def rmX7_reckons : Room := { frames := 5, cells := 0, slots := 0, locals := 130 }
theorem hdX7_reckons : yX7_reckons.cls = RX7 ∧ yX7_reckons.cls ≠ "java/lang/invoke/MethodHandle" ∧ yX7_reckons.cls ≠ "java/lang/invoke/VarHandle" ∧ (parseMethodDescriptor yX7_reckons.desc).map (fun d => d.parameters.length) = some 2 := by decide +kernel
set_option maxHeartbeats 4000000 in
set_option maxRecDepth 100000 in
/-- a view reckoned -/
theorem c_X7_reckons (l : Launch) (g : gG) (gh : gGh) (T : Nat → Int32) (I : gI) (R : gR) (J : gJ) (AI : gI) (AJ : gJ) (AR : gR) (mo : Nat) (sd : Int) (rr : Int) (zsd : zr sd) (zrr : zr rr) (hv : mInv g gh R I AI) (hm : gO g mo 7) (hT : AI (gh 50 0) = T) (hs : 0 ≤ sd ∧ sd ≤ 10) (hr0 : 0 ≤ rr ∧ rr < (I mo 2).toInt) (hk0 : tI T (40 * rr) ≠ 0) : gMet l g yX7_reckons tsX7_reckons rmX7_reckons [.ref mo, .int (iI sd), .int (iI rr)] (I, R, J, AI, AJ, AR) (gQi g (fun (z : Int) (w : gS) => R = w.2.1 ∧ J = w.2.2.1 ∧ AJ = w.2.2.2.2.1 ∧ AR = w.2.2.2.2.2 ∧ (mInv g gh R (w.1) (w.2.2.2.1)) ∧ ((w.2.2.2.1) (gh 50 0) = T) ∧ (wF mo I (w.1)))) := by
  refine gStart (cc := cX7_reckons) (maxL := 10) (ret := (some (.int))) (by decide) rfl (Nat.le_of_ble_eq_true rfl) ?_
  intro p e s m below meth c ls F hr hlk hH hz hS hl
  have hl : lv_has ls 10 [(0, .ref mo), (1, .int (iI sd)), (2, .int (iI rr))] := hl
  have hS : va_S (gA g) s.heap s.heap [] := hS
  obtain ⟨H, hHe⟩ : ∃ H : Heap, H = s.heap := ⟨_, rfl⟩
  obtain ⟨locs, hlo⟩ : ∃ k : List Loc, k = [] := ⟨_, rfl⟩
  have hH : gH g I R J AI AJ AR H := by rw [hHe]; exact hH
  have hS : va_S (gA g) s.heap H locs := by rw [hHe, hlo]; exact hS
  suffices hw : W p l e rmX7_reckons s m ([.ref mo, .int (iI sd), .int (iI rr)] : List Value).toArray below meth c H locs 0 0 (MQ below (gQi g (fun (z : Int) (w : gS) => R = w.2.1 ∧ J = w.2.2.1 ∧ AJ = w.2.2.2.2.1 ∧ AR = w.2.2.2.2.2 ∧ (mInv g gh R (w.1) (w.2.2.2.1)) ∧ ((w.2.2.2.1) (gh 50 0) = T) ∧ (wF mo I (w.1)))) ([.ref mo, .int (iI sd), .int (iI rr)] : List Value).toArray s 0 0 (gA g)) (F0 m 0 ls []) by
    rw [hHe, hlo] at hw; exact hw
  clear hHe hlo
  have wf : wF mo I I := wF_r
  have hb0 := mJ hv hm
  unfold mNum1 at hb0
  have x := mRow hv hm hT (z := rr) (by omega) (by omega)
  have xa := x.1
  have xc := x.2.2.1
  have xb := x.2.1 (by omega)
  have iX7 : ∀ w ∈ u_ws RX7 TX7 32, w ∈ tsX7_reckons := fun w h => List.mem_cons_of_mem _ (inTB7 w h)
  have k269 : Cond.fieldLink RX7 269 (TX7 26).1 (TX7 26).2.1 (TX7 26).2.2.1 ∈ tsX7_reckons := List.mem_cons_of_mem _ fl_269
  have k24 : Cond.fieldLink RX7 24 (TX7 6).1 (TX7 6).2.1 (TX7 6).2.2.1 ∈ tsX7_reckons := List.mem_cons_of_mem _ fl_24
  have k48 : Cond.fieldLink RX7 48 (TX7 28).1 (TX7 28).2.1 (TX7 28).2.2.1 ∈ tsX7_reckons := List.mem_cons_of_mem _ fl_48
  refine lv_aload_n F.1 F.2.1 dX7_reckons_0 rfl (lv_at hl 0 rfl) ?_
  refine z_iconst F dX7_reckons_1 ?_
  refine g_putI (ci := 7) (k := 26) F hH hS rfl (by decide) iX7 hm (by decide) tyX7 tyX7_ok nmX7 rfl rfl rfl k269 dX7_reckons_2 (fun H locs hH hS => ?_)
  obtain ⟨I_1, eI_1⟩ : ∃ qQ, qQ = gup2 I mo 26 (iI (0)) := ⟨_, rfl⟩
  rw [← eI_1] at hH
  have kI_1 : ∀ b, b ≠ mo → I_1 b = I b := fun b hb => by rw [eI_1]; exact funext fun j => gup2_a _ _ hb
  have w_2 : (I_1 mo 26).toInt = 0 := by rw [eI_1, gup2_s]; exact iI_val ⟨by decide, by decide⟩
  have hv : mInv g gh R I_1 AI := by rw [eI_1]; exact mP26 hv hm (by omega) (by omega)
  have wf : wF mo I I_1 := wF_t wf (by rw [eI_1]; exact wF_p)
  have u_3_2 : (I_1 mo 2).toInt = (I mo 2).toInt := by rw [wf 2 (by decide)]
  have u_3_5 : (I_1 mo 5).toInt = (I mo 5).toInt := by rw [wf 5 (by decide)]
  have u_3_14 : (I_1 mo 14).toInt = (I mo 14).toInt := by rw [wf 14 (by decide)]
  have u_3_16 : (I_1 mo 16).toInt = (I mo 16).toInt := by rw [wf 16 (by decide)]
  have u_3_24 : (I_1 mo 24).toInt = (I mo 24).toInt := by rw [wf 24 (by decide)]
  refine lv_aload_n F.1 F.2.1 dX7_reckons_5 rfl (lv_at hl 0 rfl) ?_
  refine lv_iload_n F.1 F.2.1 dX7_reckons_6 rfl (lv_at hl 2 rfl) ?_
  have b_4 := mJ hv hm
  unfold mNum1 at b_4
  refine g_calli (g_runV (As := [.int (iI rr)]) (rest := []) (ci := 7) F hl.1 hH hS hz (c_X7_firstOf l g gh T I_1 R J AI AJ AR mo rr zrr hv hm hT (by omega)) (cwV 1 F.2.2.2.2.1 (good_up gT_X7_firstOf) rfl rfl rfl hdX7_firstOf ⟨Nat.le_of_ble_eq_true rfl, Nat.le_of_ble_eq_true rfl⟩) hm (by decide) rfl rfl rfl (Nat.le_of_ble_eq_true rfl) dX7_reckons_7 ⟨Nat.zero_le _, Nat.zero_le _⟩) hS (fun v_11 I_5 R_6 J_7 AI_8 AJ_9 AR_10 H locs zv_11 hp_12 hH hS => ?_)
  dsimp only at hp_12
  obtain ⟨rfl, rfl, rfl, rfl, rfl, rfl, q_13⟩ := hp_12
  refine lv_istore_n (lv' := [(3, .int (iI v_11)), (0, .ref mo), (1, .int (iI sd)), (2, .int (iI rr))]) F.1 F.2.1 dX7_reckons_10 rfl hl (by decide) rfl (fun ls hl => ?_)
  refine lv_aload_n F.1 F.2.1 dX7_reckons_11 rfl (lv_at hl 1 rfl) ?_
  refine lv_iload_n F.1 F.2.1 dX7_reckons_12 rfl (lv_at hl 3 rfl) ?_
  refine g_calli (g_runV (As := [.int (iI rr)]) (rest := []) (ci := 7) F hl.1 hH hS hz (c_X7_kindOf l g gh T I_1 R J AI AJ AR mo rr zrr hv hm hT (by omega)) (cwV 1 F.2.2.2.2.1 (good_up gT_X7_kindOf) rfl rfl rfl hdX7_kindOf ⟨Nat.le_of_ble_eq_true rfl, Nat.le_of_ble_eq_true rfl⟩) hm (by decide) rfl rfl rfl (Nat.le_of_ble_eq_true rfl) dX7_reckons_13 ⟨Nat.zero_le _, Nat.zero_le _⟩) hS (fun v_20 I_14 R_15 J_16 AI_17 AJ_18 AR_19 H locs zv_20 hp_21 hH hS => ?_)
  dsimp only at hp_21
  obtain ⟨rfl, rfl, rfl, rfl, rfl, rfl, q_22⟩ := hp_21
  refine lv_istore (lv' := [(4, .int (iI v_20)), (3, .int (iI v_11)), (0, .ref mo), (1, .int (iI sd)), (2, .int (iI rr))]) F.1 F.2.1 dX7_reckons_16 hl (by decide) rfl (fun ls hl => ?_)
  refine lv_iload F.1 F.2.1 dX7_reckons_18 (lv_at hl 0 rfl) ?_
  refine z_iconst F dX7_reckons_20 ?_
  refine z_icmp_ne (tgt := 49) F dX7_reckons_21 (by decide) zv_20 ⟨by decide, by decide⟩ (fun c_23 => ?_) (fun c_23 => ?_)
  · refine lv_iload F.1 F.2.1 dX7_reckons_49 (lv_at hl 0 rfl) ?_
    refine z_bipush F dX7_reckons_51 (by decide) ?_
    refine z_icmp_ne (tgt := 81) F dX7_reckons_53 (by decide) zv_20 ⟨by decide, by decide⟩ (fun c_24 => ?_) (fun c_24 => ?_)
    · refine lv_iload F.1 F.2.1 dX7_reckons_81 (lv_at hl 0 rfl) ?_
      refine z_bipush F dX7_reckons_83 (by decide) ?_
      refine z_icmp_ne (tgt := 101) F dX7_reckons_85 (by decide) zv_20 ⟨by decide, by decide⟩ (fun c_25 => ?_) (fun c_25 => ?_)
      · refine z_iconst F dX7_reckons_101 ?_
        refine lv_istore (lv' := [(5, .int (iI 0)), (4, .int (iI v_20)), (3, .int (iI v_11)), (0, .ref mo), (1, .int (iI sd)), (2, .int (iI rr))]) F.1 F.2.1 dX7_reckons_102 hl (by decide) rfl (fun ls hl => ?_)
        have cut_104_27 : ∀ (NN : Nat) (i : Int) (I_26 : gI) (AI_27 : gI) (H : Heap) (locs : List Loc) (ls : Array Slot), zr i → (mInv g gh R I_26 AI_27) → (AI_27 (gh 50 0) = T) → (wF mo I I_26) → (0 ≤ i ∧ i ≤ 120 ∧ (I_26 mo 26).toInt ≤ i) → (120 - i) < ((NN : Nat) : Int) → gH g I_26 R J AI_27 AJ AR H → va_S (gA g) s.heap H locs → lv_has ls 10 [(5, .int (iI i)), (4, .int (iI v_20)), (3, .int (iI v_11)), (0, .ref mo), (1, .int (iI sd)), (2, .int (iI rr))] → W p l e rmX7_reckons s m ([.ref mo, .int (iI sd), .int (iI rr)] : List Value).toArray below meth c H locs 0 0 (MQ below (gQi g (fun (z : Int) (w : gS) => R = w.2.1 ∧ J = w.2.2.1 ∧ AJ = w.2.2.2.2.1 ∧ AR = w.2.2.2.2.2 ∧ (mInv g gh R (w.1) (w.2.2.2.1)) ∧ ((w.2.2.2.1) (gh 50 0) = T) ∧ (wF mo I (w.1)))) ([.ref mo, .int (iI sd), .int (iI rr)] : List Value).toArray s 0 0 (gA g)) (F0 m 104 ls []) := by
          intro NN104
          induction NN104 with
          | zero =>
            intro i I_26 AI_27 H locs ls zi hv hT wf hi hm104 hH hS hl
            exact absurd hm104 (by omega)
          | succ NN104 ih104 =>
            intro i I_26 AI_27 H locs ls zi hv hT wf hi hm104 hH hS hl
            have uc_2 : (I_26 mo 2).toInt = (I mo 2).toInt := by rw [wf 2 (by decide)]
            have uc_5 : (I_26 mo 5).toInt = (I mo 5).toInt := by rw [wf 5 (by decide)]
            have uc_14 : (I_26 mo 14).toInt = (I mo 14).toInt := by rw [wf 14 (by decide)]
            have uc_16 : (I_26 mo 16).toInt = (I mo 16).toInt := by rw [wf 16 (by decide)]
            have uc_24 : (I_26 mo 24).toInt = (I mo 24).toInt := by rw [wf 24 (by decide)]
            refine lv_iload F.1 F.2.1 dX7_reckons_104 (lv_at hl 0 rfl) ?_
            refine lv_aload_n F.1 F.2.1 dX7_reckons_106 rfl (lv_at hl 3 rfl) ?_
            refine lv_iload_n F.1 F.2.1 dX7_reckons_107 rfl (lv_at hl 4 rfl) ?_
            refine lv_iload_n F.1 F.2.1 dX7_reckons_108 rfl (lv_at hl 2 rfl) ?_
            have b_29 := mJ hv hm
            unfold mNum1 at b_29
            refine g_calli (g_runV (As := [.int (iI sd), .int (iI v_11)]) (rest := [.int (iI i)]) (ci := 7) F hl.1 hH hS hz (c_X7_sizeOf l g gh T I_26 R J AI_27 AJ AR mo sd v_11 zsd zv_11 hv hm hT (by omega) (by omega)) (cwV 2 F.2.2.2.2.1 (good_up gT_X7_sizeOf) rfl rfl rfl hdX7_sizeOf ⟨Nat.le_of_ble_eq_true rfl, Nat.le_of_ble_eq_true rfl⟩) hm (by decide) rfl rfl rfl (Nat.le_of_ble_eq_true rfl) dX7_reckons_109 ⟨Nat.zero_le _, Nat.zero_le _⟩) hS (fun v_36 I_30 R_31 J_32 AI_33 AJ_34 AR_35 H locs zv_36 hp_37 hH hS => ?_)
            dsimp only at hp_37
            obtain ⟨rfl, rfl, rfl, rfl, rfl, rfl, q_38, q_39⟩ := hp_37
            refine z_icmp_ge (tgt := 277) F dX7_reckons_112 (by decide) zi zv_36 (fun c_40 => ?_) (fun c_40 => ?_)
            · have cut_289_40 : ∀ (H : Heap) (locs : List Loc) (ls : Array Slot), (v_20 = 4 ∨ v_20 = 5) → gH g I_26 R J AI_27 AJ AR H → va_S (gA g) s.heap H locs → lv_has ls 10 [(5, .int (iI i)), (4, .int (iI v_20)), (3, .int (iI v_11)), (0, .ref mo), (1, .int (iI sd)), (2, .int (iI rr))] → W p l e rmX7_reckons s m ([.ref mo, .int (iI sd), .int (iI rr)] : List Value).toArray below meth c H locs 0 0 (MQ below (gQi g (fun (z : Int) (w : gS) => R = w.2.1 ∧ J = w.2.2.1 ∧ AJ = w.2.2.2.2.1 ∧ AR = w.2.2.2.2.2 ∧ (mInv g gh R (w.1) (w.2.2.2.1)) ∧ ((w.2.2.2.1) (gh 50 0) = T) ∧ (wF mo I (w.1)))) ([.ref mo, .int (iI sd), .int (iI rr)] : List Value).toArray s 0 0 (gA g)) (F0 m 289 ls []) := by
                intro H locs ls h45 hH hS hl
                have x4 := x.2.2.2.2.2.2.2.1 (by omega)
                refine lv_aload_n F.1 F.2.1 dX7_reckons_289 rfl (lv_at hl 3 rfl) ?_
                refine lv_iload_n F.1 F.2.1 dX7_reckons_290 rfl (lv_at hl 5 rfl) ?_
                refine g_calli (g_runV (As := [.int (iI rr)]) (rest := []) (ci := 7) F hl.1 hH hS hz (c_X7_secondOf l g gh T I_26 R J AI_27 AJ AR mo rr zrr hv hm hT (by omega)) (cwV 1 F.2.2.2.2.1 (good_up gT_X7_secondOf) rfl rfl rfl hdX7_secondOf ⟨Nat.le_of_ble_eq_true rfl, Nat.le_of_ble_eq_true rfl⟩) hm (by decide) rfl rfl rfl (Nat.le_of_ble_eq_true rfl) dX7_reckons_291 ⟨Nat.zero_le _, Nat.zero_le _⟩) hS (fun v_48 I_42 R_43 J_44 AI_45 AJ_46 AR_47 H locs zv_48 hp_49 hH hS => ?_)
                dsimp only at hp_49
                obtain ⟨rfl, rfl, rfl, rfl, rfl, rfl, q_50⟩ := hp_49
                refine lv_istore (lv' := [(5, .int (iI v_48)), (4, .int (iI v_20)), (3, .int (iI v_11)), (0, .ref mo), (1, .int (iI sd)), (2, .int (iI rr))]) F.1 F.2.1 dX7_reckons_294 hl (by decide) rfl (fun ls hl => ?_)
                refine z_iconst F dX7_reckons_296 ?_
                refine lv_istore (lv' := [(6, .int (iI 0)), (5, .int (iI v_48)), (4, .int (iI v_20)), (3, .int (iI v_11)), (0, .ref mo), (1, .int (iI sd)), (2, .int (iI rr))]) F.1 F.2.1 dX7_reckons_297 hl (by decide) rfl (fun ls hl => ?_)
                have cut_299_52 : ∀ (NN : Nat) (i : Int) (I_51 : gI) (AI_52 : gI) (H : Heap) (locs : List Loc) (ls : Array Slot), zr i → (mInv g gh R I_51 AI_52) → (AI_52 (gh 50 0) = T) → (wF mo I I_51) → (0 ≤ i ∧ i ≤ 120 ∧ (I_51 mo 26).toInt ≤ 120 + i) → (120 - i) < ((NN : Nat) : Int) → gH g I_51 R J AI_52 AJ AR H → va_S (gA g) s.heap H locs → lv_has ls 10 [(6, .int (iI i)), (5, .int (iI v_48)), (4, .int (iI v_20)), (3, .int (iI v_11)), (0, .ref mo), (1, .int (iI sd)), (2, .int (iI rr))] → W p l e rmX7_reckons s m ([.ref mo, .int (iI sd), .int (iI rr)] : List Value).toArray below meth c H locs 0 0 (MQ below (gQi g (fun (z : Int) (w : gS) => R = w.2.1 ∧ J = w.2.2.1 ∧ AJ = w.2.2.2.2.1 ∧ AR = w.2.2.2.2.2 ∧ (mInv g gh R (w.1) (w.2.2.2.1)) ∧ ((w.2.2.2.1) (gh 50 0) = T) ∧ (wF mo I (w.1)))) ([.ref mo, .int (iI sd), .int (iI rr)] : List Value).toArray s 0 0 (gA g)) (F0 m 299 ls []) := by
                  intro NN299
                  induction NN299 with
                  | zero =>
                    intro i I_51 AI_52 H locs ls zi hv hT wf hi3 hm299 hH hS hl
                    exact absurd hm299 (by omega)
                  | succ NN299 ih299 =>
                    intro i I_51 AI_52 H locs ls zi hv hT wf hi3 hm299 hH hS hl
                    have uc_2 : (I_51 mo 2).toInt = (I mo 2).toInt := by rw [wf 2 (by decide)]
                    have uc_5 : (I_51 mo 5).toInt = (I mo 5).toInt := by rw [wf 5 (by decide)]
                    have uc_14 : (I_51 mo 14).toInt = (I mo 14).toInt := by rw [wf 14 (by decide)]
                    have uc_16 : (I_51 mo 16).toInt = (I mo 16).toInt := by rw [wf 16 (by decide)]
                    have uc_24 : (I_51 mo 24).toInt = (I mo 24).toInt := by rw [wf 24 (by decide)]
                    refine lv_iload F.1 F.2.1 dX7_reckons_299 (lv_at hl 0 rfl) ?_
                    refine lv_aload_n F.1 F.2.1 dX7_reckons_301 rfl (lv_at hl 4 rfl) ?_
                    refine lv_iload_n F.1 F.2.1 dX7_reckons_302 rfl (lv_at hl 5 rfl) ?_
                    refine lv_iload F.1 F.2.1 dX7_reckons_303 (lv_at hl 1 rfl) ?_
                    have b_54 := mJ hv hm
                    unfold mNum1 at b_54
                    refine g_calli (g_runV (As := [.int (iI sd), .int (iI v_48)]) (rest := [.int (iI i)]) (ci := 7) F hl.1 hH hS hz (c_X7_sizeOf l g gh T I_51 R J AI_52 AJ AR mo sd v_48 zsd zv_48 hv hm hT (by omega) (by omega)) (cwV 2 F.2.2.2.2.1 (good_up gT_X7_sizeOf) rfl rfl rfl hdX7_sizeOf ⟨Nat.le_of_ble_eq_true rfl, Nat.le_of_ble_eq_true rfl⟩) hm (by decide) rfl rfl rfl (Nat.le_of_ble_eq_true rfl) dX7_reckons_305 ⟨Nat.zero_le _, Nat.zero_le _⟩) hS (fun v_61 I_55 R_56 J_57 AI_58 AJ_59 AR_60 H locs zv_61 hp_62 hH hS => ?_)
                    dsimp only at hp_62
                    obtain ⟨rfl, rfl, rfl, rfl, rfl, rfl, q_63, q_64⟩ := hp_62
                    refine z_icmp_ge (tgt := 385) F dX7_reckons_308 (by decide) zi zv_61 (fun c_65 => ?_) (fun c_65 => ?_)
                    · refine lv_aload_n F.1 F.2.1 dX7_reckons_385 rfl (lv_at hl 4 rfl) ?_
                      refine lv_iload_n F.1 F.2.1 dX7_reckons_386 rfl (lv_at hl 5 rfl) ?_
                      refine lv_iload_n F.1 F.2.1 dX7_reckons_387 rfl (lv_at hl 6 rfl) ?_
                      refine g_calli (g_runV (As := [.int (iI sd), .int (iI rr)]) (rest := []) (ci := 7) F hl.1 hH hS hz (c_X7_lays l g gh T I_51 R J AI_52 AJ AR mo sd rr zsd zrr hv hm hT (by omega) (by omega)) (cwV 2 F.2.2.2.2.1 (good_up gT_X7_lays) rfl rfl rfl hdX7_lays ⟨Nat.le_of_ble_eq_true rfl, Nat.le_of_ble_eq_true rfl⟩) hm (by decide) rfl rfl rfl (Nat.le_of_ble_eq_true rfl) dX7_reckons_388 ⟨Nat.zero_le _, Nat.zero_le _⟩) hS (fun v_72 I_66 R_67 J_68 AI_69 AJ_70 AR_71 H locs zv_72 hp_73 hH hS => ?_)
                      dsimp only at hp_73
                      obtain ⟨rfl, rfl, rfl, rfl, rfl, hv, hT, haq25⟩ := hp_73
                      exact g_iret F hr hlk hH hS hz zv_72 ⟨rfl, rfl, rfl, rfl, hv, hT, wf⟩ dX7_reckons_391
                    · refine lv_aload_n F.1 F.2.1 dX7_reckons_311 rfl (lv_at hl 4 rfl) ?_
                      refine lv_iload_n F.1 F.2.1 dX7_reckons_312 rfl (lv_at hl 5 rfl) ?_
                      refine lv_iload F.1 F.2.1 dX7_reckons_313 (lv_at hl 1 rfl) ?_
                      refine lv_iload F.1 F.2.1 dX7_reckons_315 (lv_at hl 0 rfl) ?_
                      refine g_calli (g_runS (As := [.int (iI sd), .int (iI v_48), .int (iI i)]) (rest := [.ref mo]) F hl.1 hH hS hz (c_X7_spot l g  I_51 R J AI_52 AJ AR sd v_48 i zsd zv_48 zi (by omega) (by omega) (by omega)) (va_cwS 3 F.2.2.2.2.1 (good_up gT_X7_spot) rfl rfl rfl hdX7_spot.2 ⟨Nat.le_of_ble_eq_true rfl, Nat.le_of_ble_eq_true rfl⟩) rfl rfl (Nat.le_of_ble_eq_true rfl) dX7_reckons_317 ⟨Nat.zero_le _, Nat.zero_le _⟩) hS (fun v_80 I_74 R_75 J_76 AI_77 AJ_78 AR_79 H locs zv_80 hp_81 hH hS => ?_)
                      dsimp only at hp_81
                      obtain ⟨rfl, rfl, rfl, rfl, rfl, rfl, q_82⟩ := hp_81
                      refine g_callv (g_runV (As := [.int (iI v_80)]) (rest := []) (ci := 7) F hl.1 hH hS hz (c_X7_takes l g gh T I_51 R J AI_52 AJ AR mo v_80 zv_80 hv hm hT (by omega)) (cwV 1 F.2.2.2.2.1 (good_up gT_X7_takes) rfl rfl rfl hdX7_takes ⟨Nat.le_of_ble_eq_true rfl, Nat.le_of_ble_eq_true rfl⟩) hm (by decide) rfl rfl rfl (Nat.le_of_ble_eq_true rfl) dX7_reckons_320 ⟨Nat.zero_le _, Nat.zero_le _⟩) hS (fun I_83 R_84 J_85 AI_86 AJ_87 AR_88 H locs hp_89 hH hS => ?_)
                      dsimp only at hp_89
                      obtain ⟨rfl, rfl, rfl, rfl, rfl, hv, hT⟩ := hp_89
                      refine lv_aload_n F.1 F.2.1 dX7_reckons_323 rfl (lv_at hl 4 rfl) ?_
                      obtain ⟨r_90a, r_90b⟩ : R mo 6 = some (gh 56 0) ∧ gAr g (gh 56 0) 9 126720 := mR hv hm (q := (6, 126720)) (by decide)
                      refine g_getR (ci := 7) (k := 6) F hH rfl (by decide) iX7 hm (by decide) rfl (b := gh 56 0) r_90a k24 dX7_reckons_324 ?_
                      refine lv_iload_n F.1 F.2.1 dX7_reckons_327 rfl (lv_at hl 5 rfl) ?_
                      refine lv_iload F.1 F.2.1 dX7_reckons_328 (lv_at hl 1 rfl) ?_
                      refine lv_iload F.1 F.2.1 dX7_reckons_330 (lv_at hl 0 rfl) ?_
                      refine g_calli (g_runS (As := [.int (iI sd), .int (iI v_48), .int (iI i)]) (rest := [.ref (gh 56 0)]) F hl.1 hH hS hz (c_X7_spot l g  I_51 R J AI_86 AJ AR sd v_48 i zsd zv_48 zi (by omega) (by omega) (by omega)) (va_cwS 3 F.2.2.2.2.1 (good_up gT_X7_spot) rfl rfl rfl hdX7_spot.2 ⟨Nat.le_of_ble_eq_true rfl, Nat.le_of_ble_eq_true rfl⟩) rfl rfl (Nat.le_of_ble_eq_true rfl) dX7_reckons_332 ⟨Nat.zero_le _, Nat.zero_le _⟩) hS (fun v_97 I_91 R_92 J_93 AI_94 AJ_95 AR_96 H locs zv_97 hp_98 hH hS => ?_)
                      dsimp only at hp_98
                      obtain ⟨rfl, rfl, rfl, rfl, rfl, rfl, q_99⟩ := hp_98
                      refine z_iconst F dX7_reckons_335 ?_
                      refine z_iadd F dX7_reckons_336 ?_
                      have hx337 : 0 ≤ (v_97 + 4) ∧ (v_97 + 4) < ((126720 : Nat) : Int) ∧ (v_97 + 4) ≤ 2147483647 := ⟨by omega, by omega, by omega⟩
                      refine g_iald F hH r_90b hx337.1 hx337.2.1 hx337.2.2 dX7_reckons_337 ?_
                      refine z_name (fun v_100 ev_100 => ?_)
                      have zv_100 : zr v_100 := by rw [ev_100]; exact zr_t _
                      refine lv_istore (lv' := [(7, .int (iI v_100)), (6, .int (iI i)), (5, .int (iI v_48)), (4, .int (iI v_20)), (3, .int (iI v_11)), (0, .ref mo), (1, .int (iI sd)), (2, .int (iI rr))]) F.1 F.2.1 dX7_reckons_338 hl (by decide) rfl (fun ls hl => ?_)
                      refine lv_aload_n F.1 F.2.1 dX7_reckons_340 rfl (lv_at hl 5 rfl) ?_
                      refine lv_iload F.1 F.2.1 dX7_reckons_341 (lv_at hl 3 rfl) ?_
                      refine z_iconst F dX7_reckons_343 ?_
                      refine z_icmp_ne (tgt := 352) F dX7_reckons_344 (by decide) zv_20 ⟨by decide, by decide⟩ (fun c_101 => ?_) (fun c_101 => ?_)
                      · refine lv_iload F.1 F.2.1 dX7_reckons_352 (lv_at hl 0 rfl) ?_
                        refine z_ineg F dX7_reckons_354 ?_
                        refine z_norm (fun v_102 zv_102 ev_102 => ?_)
                        refine z_iconst F dX7_reckons_355 ?_
                        refine g_calli (g_runV (As := [.int (iI v_102), .int (iI 0)]) (rest := []) (ci := 7) F hl.1 hH hS hz (c_X7_gathers l g gh T I_51 R J AI_86 AJ AR mo v_102 0 zv_102 ⟨by decide, by decide⟩ hv hm hT (by omega)) (cwV 2 F.2.2.2.2.1 (good_up gT_X7_gathers) rfl rfl rfl hdX7_gathers ⟨Nat.le_of_ble_eq_true rfl, Nat.le_of_ble_eq_true rfl⟩) hm (by decide) rfl rfl rfl (Nat.le_of_ble_eq_true rfl) dX7_reckons_356 ⟨Nat.zero_le _, Nat.zero_le _⟩) hS (fun v_109 I_103 R_104 J_105 AI_106 AJ_107 AR_108 H locs zv_109 hp_110 hH hS => ?_)
                        dsimp only at hp_110
                        obtain ⟨rfl, rfl, rfl, rfl, hv, hT, wfq, q_111⟩ := hp_110
                        have wf := wF_t wf wfq
                        have u_112_2 : (I_103 mo 2).toInt = (I mo 2).toInt := by rw [wf 2 (by decide)]
                        have u_112_5 : (I_103 mo 5).toInt = (I mo 5).toInt := by rw [wf 5 (by decide)]
                        have u_112_14 : (I_103 mo 14).toInt = (I mo 14).toInt := by rw [wf 14 (by decide)]
                        have u_112_16 : (I_103 mo 16).toInt = (I mo 16).toInt := by rw [wf 16 (by decide)]
                        have u_112_24 : (I_103 mo 24).toInt = (I mo 24).toInt := by rw [wf 24 (by decide)]
                        refine lv_istore (lv' := [(8, .int (iI v_109)), (7, .int (iI v_100)), (6, .int (iI i)), (5, .int (iI v_48)), (4, .int (iI v_20)), (3, .int (iI v_11)), (0, .ref mo), (1, .int (iI sd)), (2, .int (iI rr))]) F.1 F.2.1 dX7_reckons_359 hl (by decide) rfl (fun ls hl => ?_)
                        refine lv_iload F.1 F.2.1 dX7_reckons_361 (lv_at hl 0 rfl) ?_
                        refine z_if_eq (tgt := 379) F dX7_reckons_363 (by decide) zv_109 (fun c_113 => ?_) (fun c_113 => ?_)
                        · refine z_iinc (lv' := [(6, .int (iI (i + 1))), (8, .int (iI v_109)), (7, .int (iI v_100)), (5, .int (iI v_48)), (4, .int (iI v_20)), (3, .int (iI v_11)), (0, .ref mo), (1, .int (iI sd)), (2, .int (iI rr))]) F dX7_reckons_379 hl (k := 2) rfl (by decide) rfl (fun ls hl => ?_)
                          refine z_goto (tgt := 299) F dX7_reckons_382 (by decide) ?_
                          exact ih299 (i + 1) I_103 AI_106 H locs ls ⟨by omega, by omega⟩ hv hT wf (by omega) (by omega) hH hS (lv_sub hl [0, 3, 4, 5, 6, 7, 8] rfl)
                        · refine lv_aload_n F.1 F.2.1 dX7_reckons_366 rfl (lv_at hl 6 rfl) ?_
                          refine g_getI (ci := 7) (k := 26) F hH rfl (by decide) iX7 hm (by decide) rfl k269 dX7_reckons_367 ?_
                          have b_114 := mJ hv hm
                          unfold mNum1 at b_114
                          refine z_sipush F dX7_reckons_370 (by decide) ?_
                          refine z_icmp_le (tgt := 379) F dX7_reckons_373 (by decide) (zr_t _) ⟨by decide, by decide⟩ (fun c_115 => ?_) (fun c_115 => ?_)
                          · refine z_iinc (lv' := [(6, .int (iI (i + 1))), (8, .int (iI v_109)), (7, .int (iI v_100)), (5, .int (iI v_48)), (4, .int (iI v_20)), (3, .int (iI v_11)), (0, .ref mo), (1, .int (iI sd)), (2, .int (iI rr))]) F dX7_reckons_379 hl (k := 2) rfl (by decide) rfl (fun ls hl => ?_)
                            refine z_goto (tgt := 299) F dX7_reckons_382 (by decide) ?_
                            exact ih299 (i + 1) I_103 AI_106 H locs ls ⟨by omega, by omega⟩ hv hT wf (by omega) (by omega) hH hS (lv_sub hl [0, 3, 4, 5, 6, 7, 8] rfl)
                          · refine z_bipush F dX7_reckons_376 (by decide) ?_
                            exact g_iret F hr hlk hH hS hz ⟨by decide, by decide⟩ ⟨rfl, rfl, rfl, rfl, hv, hT, wf⟩ dX7_reckons_378
                      · refine lv_iload F.1 F.2.1 dX7_reckons_347 (lv_at hl 0 rfl) ?_
                        refine z_goto (tgt := 355) F dX7_reckons_349 (by decide) ?_
                        refine z_iconst F dX7_reckons_355 ?_
                        refine g_calli (g_runV (As := [.int (iI v_100), .int (iI 0)]) (rest := []) (ci := 7) F hl.1 hH hS hz (c_X7_gathers l g gh T I_51 R J AI_86 AJ AR mo v_100 0 zv_100 ⟨by decide, by decide⟩ hv hm hT (by omega)) (cwV 2 F.2.2.2.2.1 (good_up gT_X7_gathers) rfl rfl rfl hdX7_gathers ⟨Nat.le_of_ble_eq_true rfl, Nat.le_of_ble_eq_true rfl⟩) hm (by decide) rfl rfl rfl (Nat.le_of_ble_eq_true rfl) dX7_reckons_356 ⟨Nat.zero_le _, Nat.zero_le _⟩) hS (fun v_122 I_116 R_117 J_118 AI_119 AJ_120 AR_121 H locs zv_122 hp_123 hH hS => ?_)
                        dsimp only at hp_123
                        obtain ⟨rfl, rfl, rfl, rfl, hv, hT, wfq, q_124⟩ := hp_123
                        have wf := wF_t wf wfq
                        have u_125_2 : (I_116 mo 2).toInt = (I mo 2).toInt := by rw [wf 2 (by decide)]
                        have u_125_5 : (I_116 mo 5).toInt = (I mo 5).toInt := by rw [wf 5 (by decide)]
                        have u_125_14 : (I_116 mo 14).toInt = (I mo 14).toInt := by rw [wf 14 (by decide)]
                        have u_125_16 : (I_116 mo 16).toInt = (I mo 16).toInt := by rw [wf 16 (by decide)]
                        have u_125_24 : (I_116 mo 24).toInt = (I mo 24).toInt := by rw [wf 24 (by decide)]
                        refine lv_istore (lv' := [(8, .int (iI v_122)), (7, .int (iI v_100)), (6, .int (iI i)), (5, .int (iI v_48)), (4, .int (iI v_20)), (3, .int (iI v_11)), (0, .ref mo), (1, .int (iI sd)), (2, .int (iI rr))]) F.1 F.2.1 dX7_reckons_359 hl (by decide) rfl (fun ls hl => ?_)
                        refine lv_iload F.1 F.2.1 dX7_reckons_361 (lv_at hl 0 rfl) ?_
                        refine z_if_eq (tgt := 379) F dX7_reckons_363 (by decide) zv_122 (fun c_126 => ?_) (fun c_126 => ?_)
                        · refine z_iinc (lv' := [(6, .int (iI (i + 1))), (8, .int (iI v_122)), (7, .int (iI v_100)), (5, .int (iI v_48)), (4, .int (iI v_20)), (3, .int (iI v_11)), (0, .ref mo), (1, .int (iI sd)), (2, .int (iI rr))]) F dX7_reckons_379 hl (k := 2) rfl (by decide) rfl (fun ls hl => ?_)
                          refine z_goto (tgt := 299) F dX7_reckons_382 (by decide) ?_
                          exact ih299 (i + 1) I_116 AI_119 H locs ls ⟨by omega, by omega⟩ hv hT wf (by omega) (by omega) hH hS (lv_sub hl [0, 3, 4, 5, 6, 7, 8] rfl)
                        · refine lv_aload_n F.1 F.2.1 dX7_reckons_366 rfl (lv_at hl 6 rfl) ?_
                          refine g_getI (ci := 7) (k := 26) F hH rfl (by decide) iX7 hm (by decide) rfl k269 dX7_reckons_367 ?_
                          have b_127 := mJ hv hm
                          unfold mNum1 at b_127
                          refine z_sipush F dX7_reckons_370 (by decide) ?_
                          refine z_icmp_le (tgt := 379) F dX7_reckons_373 (by decide) (zr_t _) ⟨by decide, by decide⟩ (fun c_128 => ?_) (fun c_128 => ?_)
                          · refine z_iinc (lv' := [(6, .int (iI (i + 1))), (8, .int (iI v_122)), (7, .int (iI v_100)), (5, .int (iI v_48)), (4, .int (iI v_20)), (3, .int (iI v_11)), (0, .ref mo), (1, .int (iI sd)), (2, .int (iI rr))]) F dX7_reckons_379 hl (k := 2) rfl (by decide) rfl (fun ls hl => ?_)
                            refine z_goto (tgt := 299) F dX7_reckons_382 (by decide) ?_
                            exact ih299 (i + 1) I_116 AI_119 H locs ls ⟨by omega, by omega⟩ hv hT wf (by omega) (by omega) hH hS (lv_sub hl [0, 3, 4, 5, 6, 7, 8] rfl)
                          · refine z_bipush F dX7_reckons_376 (by decide) ?_
                            exact g_iret F hr hlk hH hS hz ⟨by decide, by decide⟩ ⟨rfl, rfl, rfl, rfl, hv, hT, wf⟩ dX7_reckons_378
                exact cut_299_52 (((120 - 0) + 1 : Int).toNat) 0 I_26 AI_27 H locs ls ⟨by decide, by decide⟩ hv hT wf (by omega) (by omega) hH hS (lv_sub hl [0, 1, 2, 3, 4, 5, 6] rfl)
              refine lv_iload F.1 F.2.1 dX7_reckons_277 (lv_at hl 1 rfl) ?_
              refine z_iconst F dX7_reckons_279 ?_
              refine z_icmp_eq (tgt := 289) F dX7_reckons_280 (by decide) zv_20 ⟨by decide, by decide⟩ (fun c_129 => ?_) (fun c_129 => ?_)
              · exact cut_289_40 H locs ls (by omega) hH hS (lv_sub hl [0, 1, 2, 3, 4, 5] rfl)
              · refine lv_iload F.1 F.2.1 dX7_reckons_283 (lv_at hl 1 rfl) ?_
                refine z_iconst F dX7_reckons_285 ?_
                refine z_icmp_ne (tgt := 385) F dX7_reckons_286 (by decide) zv_20 ⟨by decide, by decide⟩ (fun c_130 => ?_) (fun c_130 => ?_)
                · refine lv_aload_n F.1 F.2.1 dX7_reckons_385 rfl (lv_at hl 3 rfl) ?_
                  refine lv_iload_n F.1 F.2.1 dX7_reckons_386 rfl (lv_at hl 4 rfl) ?_
                  refine lv_iload_n F.1 F.2.1 dX7_reckons_387 rfl (lv_at hl 5 rfl) ?_
                  refine g_calli (g_runV (As := [.int (iI sd), .int (iI rr)]) (rest := []) (ci := 7) F hl.1 hH hS hz (c_X7_lays l g gh T I_26 R J AI_27 AJ AR mo sd rr zsd zrr hv hm hT (by omega) (by omega)) (cwV 2 F.2.2.2.2.1 (good_up gT_X7_lays) rfl rfl rfl hdX7_lays ⟨Nat.le_of_ble_eq_true rfl, Nat.le_of_ble_eq_true rfl⟩) hm (by decide) rfl rfl rfl (Nat.le_of_ble_eq_true rfl) dX7_reckons_388 ⟨Nat.zero_le _, Nat.zero_le _⟩) hS (fun v_137 I_131 R_132 J_133 AI_134 AJ_135 AR_136 H locs zv_137 hp_138 hH hS => ?_)
                  dsimp only at hp_138
                  obtain ⟨rfl, rfl, rfl, rfl, rfl, hv, hT, haq25⟩ := hp_138
                  exact g_iret F hr hlk hH hS hz zv_137 ⟨rfl, rfl, rfl, rfl, hv, hT, wf⟩ dX7_reckons_391
                · exact cut_289_40 H locs ls (by omega) hH hS (lv_sub hl [0, 1, 2, 3, 4, 5] rfl)
            · refine lv_iload_n F.1 F.2.1 dX7_reckons_115 rfl (lv_at hl 4 rfl) ?_
              refine lv_iload_n F.1 F.2.1 dX7_reckons_116 rfl (lv_at hl 2 rfl) ?_
              refine lv_iload F.1 F.2.1 dX7_reckons_117 (lv_at hl 0 rfl) ?_
              refine g_calli (g_runS (As := [.int (iI sd), .int (iI v_11), .int (iI i)]) (rest := []) F hl.1 hH hS hz (c_X7_spot l g  I_26 R J AI_27 AJ AR sd v_11 i zsd zv_11 zi (by omega) (by omega) (by omega)) (va_cwS 3 F.2.2.2.2.1 (good_up gT_X7_spot) rfl rfl rfl hdX7_spot.2 ⟨Nat.le_of_ble_eq_true rfl, Nat.le_of_ble_eq_true rfl⟩) rfl rfl (Nat.le_of_ble_eq_true rfl) dX7_reckons_119 ⟨Nat.zero_le _, Nat.zero_le _⟩) hS (fun v_145 I_139 R_140 J_141 AI_142 AJ_143 AR_144 H locs zv_145 hp_146 hH hS => ?_)
              dsimp only at hp_146
              obtain ⟨rfl, rfl, rfl, rfl, rfl, rfl, q_147⟩ := hp_146
              refine lv_istore (lv' := [(6, .int (iI v_145)), (5, .int (iI i)), (4, .int (iI v_20)), (3, .int (iI v_11)), (0, .ref mo), (1, .int (iI sd)), (2, .int (iI rr))]) F.1 F.2.1 dX7_reckons_122 hl (by decide) rfl (fun ls hl => ?_)
              refine lv_aload_n F.1 F.2.1 dX7_reckons_124 rfl (lv_at hl 4 rfl) ?_
              obtain ⟨r_148a, r_148b⟩ : R mo 6 = some (gh 56 0) ∧ gAr g (gh 56 0) 9 126720 := mR hv hm (q := (6, 126720)) (by decide)
              refine g_getR (ci := 7) (k := 6) F hH rfl (by decide) iX7 hm (by decide) rfl (b := gh 56 0) r_148a k24 dX7_reckons_125 ?_
              refine lv_iload F.1 F.2.1 dX7_reckons_128 (lv_at hl 0 rfl) ?_
              refine z_iconst F dX7_reckons_130 ?_
              refine z_iadd F dX7_reckons_131 ?_
              have hx132 : 0 ≤ (v_145 + 4) ∧ (v_145 + 4) < ((126720 : Nat) : Int) ∧ (v_145 + 4) ≤ 2147483647 := ⟨by omega, by omega, by omega⟩
              refine g_iald F hH r_148b hx132.1 hx132.2.1 hx132.2.2 dX7_reckons_132 ?_
              refine z_name (fun v_149 ev_149 => ?_)
              have zv_149 : zr v_149 := by rw [ev_149]; exact zr_t _
              refine lv_istore (lv' := [(7, .int (iI v_149)), (6, .int (iI v_145)), (5, .int (iI i)), (4, .int (iI v_20)), (3, .int (iI v_11)), (0, .ref mo), (1, .int (iI sd)), (2, .int (iI rr))]) F.1 F.2.1 dX7_reckons_133 hl (by decide) rfl (fun ls hl => ?_)
              have cut_168_149 : ∀ (is : Int) (H : Heap) (locs : List Loc) (ls : Array Slot), zr is → gH g I_26 R J AI_27 AJ AR H → va_S (gA g) s.heap H locs → lv_has ls 10 [(7, .int (iI v_149)), (6, .int (iI v_145)), (5, .int (iI i)), (4, .int (iI v_20)), (3, .int (iI v_11)), (0, .ref mo), (1, .int (iI sd)), (2, .int (iI rr))] → W p l e rmX7_reckons s m ([.ref mo, .int (iI sd), .int (iI rr)] : List Value).toArray below meth c H locs 0 0 (MQ below (gQi g (fun (z : Int) (w : gS) => R = w.2.1 ∧ J = w.2.2.1 ∧ AJ = w.2.2.2.2.1 ∧ AR = w.2.2.2.2.2 ∧ (mInv g gh R (w.1) (w.2.2.2.1)) ∧ ((w.2.2.2.1) (gh 50 0) = T) ∧ (wF mo I (w.1)))) ([.ref mo, .int (iI sd), .int (iI rr)] : List Value).toArray s 0 0 (gA g)) (F0 m 168 ls [.int (iI is)]) := by
                intro is H locs ls zis hH hS hl
                refine lv_istore (lv' := [(8, .int (iI is)), (7, .int (iI v_149)), (6, .int (iI v_145)), (5, .int (iI i)), (4, .int (iI v_20)), (3, .int (iI v_11)), (0, .ref mo), (1, .int (iI sd)), (2, .int (iI rr))]) F.1 F.2.1 dX7_reckons_168 hl (by decide) rfl (fun ls hl => ?_)
                refine lv_iload F.1 F.2.1 dX7_reckons_170 (lv_at hl 0 rfl) ?_
                refine z_if_ne (tgt := 178) F dX7_reckons_172 (by decide) zis (fun c_151 => ?_) (fun c_151 => ?_)
                · refine lv_aload_n F.1 F.2.1 dX7_reckons_178 rfl (lv_at hl 6 rfl) ?_
                  refine lv_iload F.1 F.2.1 dX7_reckons_179 (lv_at hl 2 rfl) ?_
                  refine g_callv (g_runV (As := [.int (iI v_145)]) (rest := []) (ci := 7) F hl.1 hH hS hz (c_X7_takes l g gh T I_26 R J AI_27 AJ AR mo v_145 zv_145 hv hm hT (by omega)) (cwV 1 F.2.2.2.2.1 (good_up gT_X7_takes) rfl rfl rfl hdX7_takes ⟨Nat.le_of_ble_eq_true rfl, Nat.le_of_ble_eq_true rfl⟩) hm (by decide) rfl rfl rfl (Nat.le_of_ble_eq_true rfl) dX7_reckons_181 ⟨Nat.zero_le _, Nat.zero_le _⟩) hS (fun I_152 R_153 J_154 AI_155 AJ_156 AR_157 H locs hp_158 hH hS => ?_)
                  dsimp only at hp_158
                  obtain ⟨rfl, rfl, rfl, rfl, rfl, hv, hT⟩ := hp_158
                  have cut_233_159 : ∀ (AI_159 : gI) (H : Heap) (locs : List Loc) (ls : Array Slot), (mInv g gh R I_26 AI_159) → (AI_159 (gh 50 0) = T) → gH g I_26 R J AI_159 AJ AR H → va_S (gA g) s.heap H locs → lv_has ls 10 [(8, .int (iI is)), (7, .int (iI v_149)), (6, .int (iI v_145)), (5, .int (iI i)), (4, .int (iI v_20)), (3, .int (iI v_11)), (0, .ref mo), (1, .int (iI sd)), (2, .int (iI rr))] → W p l e rmX7_reckons s m ([.ref mo, .int (iI sd), .int (iI rr)] : List Value).toArray below meth c H locs 0 0 (MQ below (gQi g (fun (z : Int) (w : gS) => R = w.2.1 ∧ J = w.2.2.1 ∧ AJ = w.2.2.2.2.1 ∧ AR = w.2.2.2.2.2 ∧ (mInv g gh R (w.1) (w.2.2.2.1)) ∧ ((w.2.2.2.1) (gh 50 0) = T) ∧ (wF mo I (w.1)))) ([.ref mo, .int (iI sd), .int (iI rr)] : List Value).toArray s 0 0 (gA g)) (F0 m 233 ls []) := by
                    intro AI_159 H locs ls hv hT hH hS hl
                    refine lv_aload_n F.1 F.2.1 dX7_reckons_233 rfl (lv_at hl 6 rfl) ?_
                    refine lv_iload F.1 F.2.1 dX7_reckons_234 (lv_at hl 4 rfl) ?_
                    refine z_bipush F dX7_reckons_236 (by decide) ?_
                    refine z_icmp_ne (tgt := 245) F dX7_reckons_238 (by decide) zv_20 ⟨by decide, by decide⟩ (fun c_161 => ?_) (fun c_161 => ?_)
                    · refine lv_iload F.1 F.2.1 dX7_reckons_245 (lv_at hl 1 rfl) ?_
                      refine z_iconst F dX7_reckons_247 ?_
                      refine g_calli (g_runV (As := [.int (iI v_149), .int (iI 0)]) (rest := []) (ci := 7) F hl.1 hH hS hz (c_X7_gathers l g gh T I_26 R J AI_159 AJ AR mo v_149 0 zv_149 ⟨by decide, by decide⟩ hv hm hT (by omega)) (cwV 2 F.2.2.2.2.1 (good_up gT_X7_gathers) rfl rfl rfl hdX7_gathers ⟨Nat.le_of_ble_eq_true rfl, Nat.le_of_ble_eq_true rfl⟩) hm (by decide) rfl rfl rfl (Nat.le_of_ble_eq_true rfl) dX7_reckons_248 ⟨Nat.zero_le _, Nat.zero_le _⟩) hS (fun v_168 I_162 R_163 J_164 AI_165 AJ_166 AR_167 H locs zv_168 hp_169 hH hS => ?_)
                      dsimp only at hp_169
                      obtain ⟨rfl, rfl, rfl, rfl, hv, hT, wfq, q_170⟩ := hp_169
                      have wf := wF_t wf wfq
                      have u_171_2 : (I_162 mo 2).toInt = (I mo 2).toInt := by rw [wf 2 (by decide)]
                      have u_171_5 : (I_162 mo 5).toInt = (I mo 5).toInt := by rw [wf 5 (by decide)]
                      have u_171_14 : (I_162 mo 14).toInt = (I mo 14).toInt := by rw [wf 14 (by decide)]
                      have u_171_16 : (I_162 mo 16).toInt = (I mo 16).toInt := by rw [wf 16 (by decide)]
                      have u_171_24 : (I_162 mo 24).toInt = (I mo 24).toInt := by rw [wf 24 (by decide)]
                      refine lv_istore (lv' := [(9, .int (iI v_168)), (8, .int (iI is)), (7, .int (iI v_149)), (6, .int (iI v_145)), (5, .int (iI i)), (4, .int (iI v_20)), (3, .int (iI v_11)), (0, .ref mo), (1, .int (iI sd)), (2, .int (iI rr))]) F.1 F.2.1 dX7_reckons_251 hl (by decide) rfl (fun ls hl => ?_)
                      refine lv_iload F.1 F.2.1 dX7_reckons_253 (lv_at hl 0 rfl) ?_
                      refine z_if_eq (tgt := 271) F dX7_reckons_255 (by decide) zv_168 (fun c_172 => ?_) (fun c_172 => ?_)
                      · refine z_iinc (lv' := [(5, .int (iI (i + 1))), (9, .int (iI v_168)), (8, .int (iI is)), (7, .int (iI v_149)), (6, .int (iI v_145)), (4, .int (iI v_20)), (3, .int (iI v_11)), (0, .ref mo), (1, .int (iI sd)), (2, .int (iI rr))]) F dX7_reckons_271 hl (k := 4) rfl (by decide) rfl (fun ls hl => ?_)
                        refine z_goto (tgt := 104) F dX7_reckons_274 (by decide) ?_
                        exact ih104 (i + 1) I_162 AI_165 H locs ls ⟨by omega, by omega⟩ hv hT wf (by omega) (by omega) hH hS (lv_sub hl [0, 5, 6, 7, 8, 9] rfl)
                      · refine lv_aload_n F.1 F.2.1 dX7_reckons_258 rfl (lv_at hl 7 rfl) ?_
                        refine g_getI (ci := 7) (k := 26) F hH rfl (by decide) iX7 hm (by decide) rfl k269 dX7_reckons_259 ?_
                        have b_173 := mJ hv hm
                        unfold mNum1 at b_173
                        refine z_sipush F dX7_reckons_262 (by decide) ?_
                        refine z_icmp_le (tgt := 271) F dX7_reckons_265 (by decide) (zr_t _) ⟨by decide, by decide⟩ (fun c_174 => ?_) (fun c_174 => ?_)
                        · refine z_iinc (lv' := [(5, .int (iI (i + 1))), (9, .int (iI v_168)), (8, .int (iI is)), (7, .int (iI v_149)), (6, .int (iI v_145)), (4, .int (iI v_20)), (3, .int (iI v_11)), (0, .ref mo), (1, .int (iI sd)), (2, .int (iI rr))]) F dX7_reckons_271 hl (k := 4) rfl (by decide) rfl (fun ls hl => ?_)
                          refine z_goto (tgt := 104) F dX7_reckons_274 (by decide) ?_
                          exact ih104 (i + 1) I_162 AI_165 H locs ls ⟨by omega, by omega⟩ hv hT wf (by omega) (by omega) hH hS (lv_sub hl [0, 5, 6, 7, 8, 9] rfl)
                        · refine z_bipush F dX7_reckons_268 (by decide) ?_
                          exact g_iret F hr hlk hH hS hz ⟨by decide, by decide⟩ ⟨rfl, rfl, rfl, rfl, hv, hT, wf⟩ dX7_reckons_270
                    · refine z_iconst F dX7_reckons_241 ?_
                      refine z_goto (tgt := 247) F dX7_reckons_242 (by decide) ?_
                      refine z_iconst F dX7_reckons_247 ?_
                      refine g_calli (g_runV (As := [.int (iI 1), .int (iI 0)]) (rest := []) (ci := 7) F hl.1 hH hS hz (c_X7_gathers l g gh T I_26 R J AI_159 AJ AR mo 1 0 ⟨by decide, by decide⟩ ⟨by decide, by decide⟩ hv hm hT (by omega)) (cwV 2 F.2.2.2.2.1 (good_up gT_X7_gathers) rfl rfl rfl hdX7_gathers ⟨Nat.le_of_ble_eq_true rfl, Nat.le_of_ble_eq_true rfl⟩) hm (by decide) rfl rfl rfl (Nat.le_of_ble_eq_true rfl) dX7_reckons_248 ⟨Nat.zero_le _, Nat.zero_le _⟩) hS (fun v_181 I_175 R_176 J_177 AI_178 AJ_179 AR_180 H locs zv_181 hp_182 hH hS => ?_)
                      dsimp only at hp_182
                      obtain ⟨rfl, rfl, rfl, rfl, hv, hT, wfq, q_183⟩ := hp_182
                      have wf := wF_t wf wfq
                      have u_184_2 : (I_175 mo 2).toInt = (I mo 2).toInt := by rw [wf 2 (by decide)]
                      have u_184_5 : (I_175 mo 5).toInt = (I mo 5).toInt := by rw [wf 5 (by decide)]
                      have u_184_14 : (I_175 mo 14).toInt = (I mo 14).toInt := by rw [wf 14 (by decide)]
                      have u_184_16 : (I_175 mo 16).toInt = (I mo 16).toInt := by rw [wf 16 (by decide)]
                      have u_184_24 : (I_175 mo 24).toInt = (I mo 24).toInt := by rw [wf 24 (by decide)]
                      refine lv_istore (lv' := [(9, .int (iI v_181)), (8, .int (iI is)), (7, .int (iI v_149)), (6, .int (iI v_145)), (5, .int (iI i)), (4, .int (iI v_20)), (3, .int (iI v_11)), (0, .ref mo), (1, .int (iI sd)), (2, .int (iI rr))]) F.1 F.2.1 dX7_reckons_251 hl (by decide) rfl (fun ls hl => ?_)
                      refine lv_iload F.1 F.2.1 dX7_reckons_253 (lv_at hl 0 rfl) ?_
                      refine z_if_eq (tgt := 271) F dX7_reckons_255 (by decide) zv_181 (fun c_185 => ?_) (fun c_185 => ?_)
                      · refine z_iinc (lv' := [(5, .int (iI (i + 1))), (9, .int (iI v_181)), (8, .int (iI is)), (7, .int (iI v_149)), (6, .int (iI v_145)), (4, .int (iI v_20)), (3, .int (iI v_11)), (0, .ref mo), (1, .int (iI sd)), (2, .int (iI rr))]) F dX7_reckons_271 hl (k := 4) rfl (by decide) rfl (fun ls hl => ?_)
                        refine z_goto (tgt := 104) F dX7_reckons_274 (by decide) ?_
                        exact ih104 (i + 1) I_175 AI_178 H locs ls ⟨by omega, by omega⟩ hv hT wf (by omega) (by omega) hH hS (lv_sub hl [0, 5, 6, 7, 8, 9] rfl)
                      · refine lv_aload_n F.1 F.2.1 dX7_reckons_258 rfl (lv_at hl 7 rfl) ?_
                        refine g_getI (ci := 7) (k := 26) F hH rfl (by decide) iX7 hm (by decide) rfl k269 dX7_reckons_259 ?_
                        have b_186 := mJ hv hm
                        unfold mNum1 at b_186
                        refine z_sipush F dX7_reckons_262 (by decide) ?_
                        refine z_icmp_le (tgt := 271) F dX7_reckons_265 (by decide) (zr_t _) ⟨by decide, by decide⟩ (fun c_187 => ?_) (fun c_187 => ?_)
                        · refine z_iinc (lv' := [(5, .int (iI (i + 1))), (9, .int (iI v_181)), (8, .int (iI is)), (7, .int (iI v_149)), (6, .int (iI v_145)), (4, .int (iI v_20)), (3, .int (iI v_11)), (0, .ref mo), (1, .int (iI sd)), (2, .int (iI rr))]) F dX7_reckons_271 hl (k := 4) rfl (by decide) rfl (fun ls hl => ?_)
                          refine z_goto (tgt := 104) F dX7_reckons_274 (by decide) ?_
                          exact ih104 (i + 1) I_175 AI_178 H locs ls ⟨by omega, by omega⟩ hv hT wf (by omega) (by omega) hH hS (lv_sub hl [0, 5, 6, 7, 8, 9] rfl)
                        · refine z_bipush F dX7_reckons_268 (by decide) ?_
                          exact g_iret F hr hlk hH hS hz ⟨by decide, by decide⟩ ⟨rfl, rfl, rfl, rfl, hv, hT, wf⟩ dX7_reckons_270
                  refine lv_iload F.1 F.2.1 dX7_reckons_184 (lv_at hl 4 rfl) ?_
                  refine z_iconst F dX7_reckons_186 ?_
                  refine z_icmp_ne (tgt := 233) F dX7_reckons_187 (by decide) zv_20 ⟨by decide, by decide⟩ (fun c_188 => ?_) (fun c_188 => ?_)
                  · exact cut_233_159 AI_155 H locs ls hv hT hH hS (lv_sub hl [0, 1, 2, 3, 4, 5, 6, 7, 8] rfl)
                  · refine z_iconst F dX7_reckons_190 ?_
                    refine lv_istore (lv' := [(9, .int (iI 0)), (8, .int (iI is)), (7, .int (iI v_149)), (6, .int (iI v_145)), (5, .int (iI i)), (4, .int (iI v_20)), (3, .int (iI v_11)), (0, .ref mo), (1, .int (iI sd)), (2, .int (iI rr))]) F.1 F.2.1 dX7_reckons_191 hl (by decide) rfl (fun ls hl => ?_)
                    have cut_193_189 : ∀ (NN : Nat) (k : Int) (AI_189 : gI) (H : Heap) (locs : List Loc) (ls : Array Slot), zr k → (mInv g gh R I_26 AI_189) → (AI_189 (gh 50 0) = T) → (0 ≤ k ∧ k ≤ 4) → (4 - k) < ((NN : Nat) : Int) → gH g I_26 R J AI_189 AJ AR H → va_S (gA g) s.heap H locs → lv_has ls 10 [(9, .int (iI k)), (8, .int (iI is)), (7, .int (iI v_149)), (6, .int (iI v_145)), (5, .int (iI i)), (4, .int (iI v_20)), (3, .int (iI v_11)), (0, .ref mo), (1, .int (iI sd)), (2, .int (iI rr))] → W p l e rmX7_reckons s m ([.ref mo, .int (iI sd), .int (iI rr)] : List Value).toArray below meth c H locs 0 0 (MQ below (gQi g (fun (z : Int) (w : gS) => R = w.2.1 ∧ J = w.2.2.1 ∧ AJ = w.2.2.2.2.1 ∧ AR = w.2.2.2.2.2 ∧ (mInv g gh R (w.1) (w.2.2.2.1)) ∧ ((w.2.2.2.1) (gh 50 0) = T) ∧ (wF mo I (w.1)))) ([.ref mo, .int (iI sd), .int (iI rr)] : List Value).toArray s 0 0 (gA g)) (F0 m 193 ls []) := by
                      intro NN193
                      induction NN193 with
                      | zero =>
                        intro k AI_189 H locs ls zk hv hT hk1 hm193 hH hS hl
                        exact absurd hm193 (by omega)
                      | succ NN193 ih193 =>
                        intro k AI_189 H locs ls zk hv hT hk1 hm193 hH hS hl
                        refine lv_iload F.1 F.2.1 dX7_reckons_193 (lv_at hl 0 rfl) ?_
                        refine z_iconst F dX7_reckons_195 ?_
                        refine z_icmp_ge (tgt := 222) F dX7_reckons_196 (by decide) zk ⟨by decide, by decide⟩ (fun c_191 => ?_) (fun c_191 => ?_)
                        · refine lv_aload_n F.1 F.2.1 dX7_reckons_222 rfl (lv_at hl 7 rfl) ?_
                          refine lv_iload_n F.1 F.2.1 dX7_reckons_223 rfl (lv_at hl 9 rfl) ?_
                          refine z_iconst F dX7_reckons_224 ?_
                          refine lv_aload_n F.1 F.2.1 dX7_reckons_225 rfl (lv_at hl 7 rfl) ?_
                          refine lv_iload_n F.1 F.2.1 dX7_reckons_226 rfl (lv_at hl 9 rfl) ?_
                          refine g_calli (g_runV (As := [.int (iI rr)]) (rest := [.int (iI 0), .int (iI rr), .ref mo]) (ci := 7) F hl.1 hH hS hz (c_X7_partsOf l g gh T I_26 R J AI_189 AJ AR mo rr zrr hv hm hT (by omega)) (cwV 1 F.2.2.2.2.1 (good_up gT_X7_partsOf) rfl rfl rfl hdX7_partsOf ⟨Nat.le_of_ble_eq_true rfl, Nat.le_of_ble_eq_true rfl⟩) hm (by decide) rfl rfl rfl (Nat.le_of_ble_eq_true rfl) dX7_reckons_227 ⟨Nat.zero_le _, Nat.zero_le _⟩) hS (fun v_198 I_192 R_193 J_194 AI_195 AJ_196 AR_197 H locs zv_198 hp_199 hH hS => ?_)
                          dsimp only at hp_199
                          obtain ⟨rfl, rfl, rfl, rfl, rfl, rfl, q_200⟩ := hp_199
                          refine g_callv (g_runV (As := [.int (iI rr), .int (iI 0), .int (iI v_198)]) (rest := []) (ci := 7) F hl.1 hH hS hz (c_X7_terms l g gh T I_26 R J AI_189 AJ AR mo rr 0 v_198 zrr ⟨by decide, by decide⟩ zv_198 hv hm hT (by omega) (by omega) (fun k h0 h1 h2 => by have e9 := (x.2.2.2.2.2.1 (by omega)).2 k h0 (by omega); rw [Int.zero_add]; exact e9)) (cwV 3 F.2.2.2.2.1 (good_up gT_X7_terms) rfl rfl rfl hdX7_terms ⟨Nat.le_of_ble_eq_true rfl, Nat.le_of_ble_eq_true rfl⟩) hm (by decide) rfl rfl rfl (Nat.le_of_ble_eq_true rfl) dX7_reckons_230 ⟨Nat.zero_le _, Nat.zero_le _⟩) hS (fun I_201 R_202 J_203 AI_204 AJ_205 AR_206 H locs hp_207 hH hS => ?_)
                          dsimp only at hp_207
                          obtain ⟨rfl, rfl, rfl, rfl, rfl, hv, hT⟩ := hp_207
                          exact cut_233_159 AI_204 H locs ls hv hT hH hS (lv_sub hl [1, 2, 3, 4, 5, 6, 7, 8, 9] rfl)
                        · refine lv_aload_n F.1 F.2.1 dX7_reckons_199 rfl (lv_at hl 7 rfl) ?_
                          obtain ⟨r_208a, r_208b⟩ : R mo 28 = some (gh 78 0) ∧ gAr g (gh 78 0) 9 8 := mR hv hm (q := (28, 8)) (by decide)
                          refine g_getR (ci := 7) (k := 28) F hH rfl (by decide) iX7 hm (by decide) rfl (b := gh 78 0) r_208a k48 dX7_reckons_200 ?_
                          refine lv_iload F.1 F.2.1 dX7_reckons_203 (lv_at hl 0 rfl) ?_
                          refine lv_aload_n F.1 F.2.1 dX7_reckons_205 rfl (lv_at hl 7 rfl) ?_
                          refine g_getR (ci := 7) (k := 6) F hH rfl (by decide) iX7 hm (by decide) rfl (b := gh 56 0) r_148a k24 dX7_reckons_206 ?_
                          refine lv_iload F.1 F.2.1 dX7_reckons_209 (lv_at hl 3 rfl) ?_
                          refine lv_iload F.1 F.2.1 dX7_reckons_211 (lv_at hl 0 rfl) ?_
                          refine z_iadd F dX7_reckons_213 ?_
                          have hx214 : 0 ≤ (v_145 + k) ∧ (v_145 + k) < ((126720 : Nat) : Int) ∧ (v_145 + k) ≤ 2147483647 := ⟨by omega, by omega, by omega⟩
                          refine g_iald F hH r_148b hx214.1 hx214.2.1 hx214.2.2 dX7_reckons_214 ?_
                          refine z_name (fun v_209 ev_209 => ?_)
                          have zv_209 : zr v_209 := by rw [ev_209]; exact zr_t _
                          have hx215 : 0 ≤ k ∧ k < ((8 : Nat) : Int) ∧ k ≤ 2147483647 := ⟨by omega, by omega, by omega⟩
                          refine g_iast F hH hS r_208b hx215.1 hx215.2.1 hx215.2.2 dX7_reckons_215 (fun H locs hH hS => ?_)
                          obtain ⟨AI_210, eAI_210⟩ : ∃ qQ, qQ = gup2 AI_189 (gh 78 0) (k).toNat (iI (v_209)) := ⟨_, rfl⟩
                          rw [← eAI_210] at hH
                          have kAI_210 : ∀ b, b ≠ (gh 78 0) → AI_210 b = AI_189 b := fun b hb => by rw [eAI_210]; exact funext fun j => gup2_a _ _ hb
                          have t_211 : AI_210 (gh 50 0) = AI_189 (gh 50 0) := mK hv hm (p := (0, 640)) (q := (28, 8)) (by decide) (by decide) (by decide) kAI_210
                          have hv : mInv g gh R I_26 AI_210 := mInv_a hv hm (q := (28, 8)) (by decide) (by decide) kAI_210
                          have hT : AI_210 (gh 50 0) = T := t_211.trans hT
                          refine z_iinc (lv' := [(9, .int (iI (k + 1))), (8, .int (iI is)), (7, .int (iI v_149)), (6, .int (iI v_145)), (5, .int (iI i)), (4, .int (iI v_20)), (3, .int (iI v_11)), (0, .ref mo), (1, .int (iI sd)), (2, .int (iI rr))]) F dX7_reckons_216 hl (k := 0) rfl (by decide) rfl (fun ls hl => ?_)
                          refine z_goto (tgt := 193) F dX7_reckons_219 (by decide) ?_
                          exact ih193 (k + 1) AI_210 H locs ls ⟨by omega, by omega⟩ hv hT (by omega) (by omega) hH hS (lv_sub hl [0, 1, 2, 3, 4, 5, 6, 7, 8, 9] rfl)
                    exact cut_193_189 (((4 - 0) + 1 : Int).toNat) 0 AI_155 H locs ls ⟨by decide, by decide⟩ hv hT (by omega) (by omega) hH hS (lv_sub hl [0, 1, 2, 3, 4, 5, 6, 7, 8, 9] rfl)
                · refine z_goto (tgt := 271) F dX7_reckons_175 (by decide) ?_
                  refine z_iinc (lv' := [(5, .int (iI (i + 1))), (8, .int (iI is)), (7, .int (iI v_149)), (6, .int (iI v_145)), (4, .int (iI v_20)), (3, .int (iI v_11)), (0, .ref mo), (1, .int (iI sd)), (2, .int (iI rr))]) F dX7_reckons_271 hl (k := 3) rfl (by decide) rfl (fun ls hl => ?_)
                  refine z_goto (tgt := 104) F dX7_reckons_274 (by decide) ?_
                  exact ih104 (i + 1) I_26 AI_27 H locs ls ⟨by omega, by omega⟩ hv hT wf (by omega) (by omega) hH hS (lv_sub hl [0, 4, 5, 6, 7, 8] rfl)
              refine lv_iload F.1 F.2.1 dX7_reckons_135 (lv_at hl 3 rfl) ?_
              refine z_iconst F dX7_reckons_137 ?_
              refine z_icmp_ne (tgt := 151) F dX7_reckons_138 (by decide) zv_20 ⟨by decide, by decide⟩ (fun c_212 => ?_) (fun c_212 => ?_)
              · refine lv_iload F.1 F.2.1 dX7_reckons_151 (lv_at hl 3 rfl) ?_
                refine z_bipush F dX7_reckons_153 (by decide) ?_
                refine z_icmp_ne (tgt := 163) F dX7_reckons_155 (by decide) zv_20 ⟨by decide, by decide⟩ (fun c_213 => ?_) (fun c_213 => ?_)
                · refine z_iconst F dX7_reckons_163 ?_
                  refine z_goto (tgt := 168) F dX7_reckons_164 (by decide) ?_
                  exact cut_168_149 1 H locs ls ⟨by decide, by decide⟩ hH hS (lv_sub hl [0, 1, 2, 3, 4, 5, 6, 7] rfl)
                · refine lv_iload F.1 F.2.1 dX7_reckons_158 (lv_at hl 0 rfl) ?_
                  refine z_if_le (tgt := 167) F dX7_reckons_160 (by decide) zv_149 (fun c_214 => ?_) (fun c_214 => ?_)
                  · refine z_iconst F dX7_reckons_167 ?_
                    exact cut_168_149 0 H locs ls ⟨by decide, by decide⟩ hH hS (lv_sub hl [0, 1, 2, 3, 4, 5, 6, 7] rfl)
                  · refine z_iconst F dX7_reckons_163 ?_
                    refine z_goto (tgt := 168) F dX7_reckons_164 (by decide) ?_
                    exact cut_168_149 1 H locs ls ⟨by decide, by decide⟩ hH hS (lv_sub hl [0, 1, 2, 3, 4, 5, 6, 7] rfl)
              · refine lv_aload_n F.1 F.2.1 dX7_reckons_141 rfl (lv_at hl 5 rfl) ?_
                refine lv_iload_n F.1 F.2.1 dX7_reckons_142 rfl (lv_at hl 7 rfl) ?_
                refine lv_iload F.1 F.2.1 dX7_reckons_143 (lv_at hl 1 rfl) ?_
                refine g_calli (g_runV (As := [.int (iI rr), .int (iI v_145)]) (rest := []) (ci := 7) F hl.1 hH hS hz (c_X7_holds l g gh T I_26 R J AI_27 AJ AR mo rr v_145 zrr zv_145 hv hm hT (by omega) (by omega) (by omega)) (cwV 2 F.2.2.2.2.1 (good_up gT_X7_holds) rfl rfl rfl hdX7_holds ⟨Nat.le_of_ble_eq_true rfl, Nat.le_of_ble_eq_true rfl⟩) hm (by decide) rfl rfl rfl (Nat.le_of_ble_eq_true rfl) dX7_reckons_145 ⟨Nat.zero_le _, Nat.zero_le _⟩) hS (fun v_221 I_215 R_216 J_217 AI_218 AJ_219 AR_220 H locs zv_221 hp_222 hH hS => ?_)
                dsimp only at hp_222
                obtain ⟨rfl, rfl, rfl, rfl, rfl, rfl, q_223⟩ := hp_222
                refine z_goto (tgt := 168) F dX7_reckons_148 (by decide) ?_
                exact cut_168_149 v_221 H locs ls zv_221 hH hS (lv_sub hl [0, 1, 2, 3, 4, 5, 6, 7] rfl)
        exact cut_104_27 (((120 - 0) + 1 : Int).toNat) 0 I_1 AI H locs ls ⟨by decide, by decide⟩ hv hT wf (by omega) (by omega) hH hS (lv_sub hl [0, 1, 2, 3, 4, 5] rfl)
      · refine lv_aload_n F.1 F.2.1 dX7_reckons_88 rfl (lv_at hl 2 rfl) ?_
        refine lv_iload_n F.1 F.2.1 dX7_reckons_89 rfl (lv_at hl 3 rfl) ?_
        refine lv_iload_n F.1 F.2.1 dX7_reckons_90 rfl (lv_at hl 4 rfl) ?_
        refine g_callv (g_runV (As := [.int (iI sd), .int (iI rr)]) (rest := []) (ci := 7) F hl.1 hH hS hz (c_X7_groups l g gh T I_1 R J AI AJ AR mo sd rr zsd zrr hv hm hT (by omega) (by omega) (by omega) (by omega)) (cwV 2 F.2.2.2.2.1 (good_up gT_X7_groups) rfl rfl rfl hdX7_groups ⟨Nat.le_of_ble_eq_true rfl, Nat.le_of_ble_eq_true rfl⟩) hm (by decide) rfl rfl rfl (Nat.le_of_ble_eq_true rfl) dX7_reckons_91 ⟨Nat.zero_le _, Nat.zero_le _⟩) hS (fun I_224 R_225 J_226 AI_227 AJ_228 AR_229 H locs hp_230 hH hS => ?_)
        dsimp only at hp_230
        obtain ⟨rfl, rfl, rfl, rfl, hv, hT, wfq⟩ := hp_230
        have wf := wF_t wf wfq
        have u_231_2 : (I_224 mo 2).toInt = (I mo 2).toInt := by rw [wf 2 (by decide)]
        have u_231_5 : (I_224 mo 5).toInt = (I mo 5).toInt := by rw [wf 5 (by decide)]
        have u_231_14 : (I_224 mo 14).toInt = (I mo 14).toInt := by rw [wf 14 (by decide)]
        have u_231_16 : (I_224 mo 16).toInt = (I mo 16).toInt := by rw [wf 16 (by decide)]
        have u_231_24 : (I_224 mo 24).toInt = (I mo 24).toInt := by rw [wf 24 (by decide)]
        refine lv_aload_n F.1 F.2.1 dX7_reckons_94 rfl (lv_at hl 2 rfl) ?_
        refine lv_iload_n F.1 F.2.1 dX7_reckons_95 rfl (lv_at hl 3 rfl) ?_
        refine lv_iload_n F.1 F.2.1 dX7_reckons_96 rfl (lv_at hl 4 rfl) ?_
        have b_232 := mJ hv hm
        unfold mNum1 at b_232
        refine g_calli (g_runV (As := [.int (iI sd), .int (iI rr)]) (rest := []) (ci := 7) F hl.1 hH hS hz (c_X7_lays l g gh T I_224 R J AI_227 AJ AR mo sd rr zsd zrr hv hm hT (by omega) (by omega)) (cwV 2 F.2.2.2.2.1 (good_up gT_X7_lays) rfl rfl rfl hdX7_lays ⟨Nat.le_of_ble_eq_true rfl, Nat.le_of_ble_eq_true rfl⟩) hm (by decide) rfl rfl rfl (Nat.le_of_ble_eq_true rfl) dX7_reckons_97 ⟨Nat.zero_le _, Nat.zero_le _⟩) hS (fun v_239 I_233 R_234 J_235 AI_236 AJ_237 AR_238 H locs zv_239 hp_240 hH hS => ?_)
        dsimp only at hp_240
        obtain ⟨rfl, rfl, rfl, rfl, rfl, hv, hT, haq25⟩ := hp_240
        exact g_iret F hr hlk hH hS hz zv_239 ⟨rfl, rfl, rfl, rfl, hv, hT, wf⟩ dX7_reckons_100
    · refine lv_aload_n F.1 F.2.1 dX7_reckons_56 rfl (lv_at hl 2 rfl) ?_
      refine lv_iload_n F.1 F.2.1 dX7_reckons_57 rfl (lv_at hl 3 rfl) ?_
      refine lv_iload_n F.1 F.2.1 dX7_reckons_58 rfl (lv_at hl 4 rfl) ?_
      refine g_calli (g_runV (As := [.int (iI sd), .int (iI rr)]) (rest := []) (ci := 7) F hl.1 hH hS hz (c_X7_rings l g gh T I_1 R J AI AJ AR mo sd rr zsd zrr hv hm hT (by omega) (by omega) (by omega) (by omega)) (cwV 2 F.2.2.2.2.1 (good_up gT_X7_rings) rfl rfl rfl hdX7_rings ⟨Nat.le_of_ble_eq_true rfl, Nat.le_of_ble_eq_true rfl⟩) hm (by decide) rfl rfl rfl (Nat.le_of_ble_eq_true rfl) dX7_reckons_59 ⟨Nat.zero_le _, Nat.zero_le _⟩) hS (fun v_247 I_241 R_242 J_243 AI_244 AJ_245 AR_246 H locs zv_247 hp_248 hH hS => ?_)
      dsimp only at hp_248
      obtain ⟨rfl, rfl, rfl, rfl, hv, hT, wfq⟩ := hp_248
      have wf := wF_t wf wfq
      have u_249_2 : (I_241 mo 2).toInt = (I mo 2).toInt := by rw [wf 2 (by decide)]
      have u_249_5 : (I_241 mo 5).toInt = (I mo 5).toInt := by rw [wf 5 (by decide)]
      have u_249_14 : (I_241 mo 14).toInt = (I mo 14).toInt := by rw [wf 14 (by decide)]
      have u_249_16 : (I_241 mo 16).toInt = (I mo 16).toInt := by rw [wf 16 (by decide)]
      have u_249_24 : (I_241 mo 24).toInt = (I mo 24).toInt := by rw [wf 24 (by decide)]
      refine lv_istore (lv' := [(5, .int (iI v_247)), (4, .int (iI v_20)), (3, .int (iI v_11)), (0, .ref mo), (1, .int (iI sd)), (2, .int (iI rr))]) F.1 F.2.1 dX7_reckons_62 hl (by decide) rfl (fun ls hl => ?_)
      refine lv_iload F.1 F.2.1 dX7_reckons_64 (lv_at hl 0 rfl) ?_
      refine z_if_ge (tgt := 74) F dX7_reckons_66 (by decide) zv_247 (fun c_250 => ?_) (fun c_250 => ?_)
      · refine lv_aload_n F.1 F.2.1 dX7_reckons_74 rfl (lv_at hl 3 rfl) ?_
        refine lv_iload_n F.1 F.2.1 dX7_reckons_75 rfl (lv_at hl 4 rfl) ?_
        refine lv_iload_n F.1 F.2.1 dX7_reckons_76 rfl (lv_at hl 5 rfl) ?_
        have b_251 := mJ hv hm
        unfold mNum1 at b_251
        refine g_calli (g_runV (As := [.int (iI sd), .int (iI rr)]) (rest := []) (ci := 7) F hl.1 hH hS hz (c_X7_lays l g gh T I_241 R J AI_244 AJ AR mo sd rr zsd zrr hv hm hT (by omega) (by omega)) (cwV 2 F.2.2.2.2.1 (good_up gT_X7_lays) rfl rfl rfl hdX7_lays ⟨Nat.le_of_ble_eq_true rfl, Nat.le_of_ble_eq_true rfl⟩) hm (by decide) rfl rfl rfl (Nat.le_of_ble_eq_true rfl) dX7_reckons_77 ⟨Nat.zero_le _, Nat.zero_le _⟩) hS (fun v_258 I_252 R_253 J_254 AI_255 AJ_256 AR_257 H locs zv_258 hp_259 hH hS => ?_)
        dsimp only at hp_259
        obtain ⟨rfl, rfl, rfl, rfl, rfl, hv, hT, haq25⟩ := hp_259
        exact g_iret F hr hlk hH hS hz zv_258 ⟨rfl, rfl, rfl, rfl, hv, hT, wf⟩ dX7_reckons_80
      · refine lv_iload F.1 F.2.1 dX7_reckons_69 (lv_at hl 0 rfl) ?_
        refine z_goto (tgt := 80) F dX7_reckons_71 (by decide) ?_
        exact g_iret F hr hlk hH hS hz zv_247 ⟨rfl, rfl, rfl, rfl, hv, hT, wf⟩ dX7_reckons_80
  · refine lv_aload_n F.1 F.2.1 dX7_reckons_24 rfl (lv_at hl 2 rfl) ?_
    refine lv_iload_n F.1 F.2.1 dX7_reckons_25 rfl (lv_at hl 3 rfl) ?_
    refine lv_iload_n F.1 F.2.1 dX7_reckons_26 rfl (lv_at hl 4 rfl) ?_
    refine g_calli (g_runV (As := [.int (iI sd), .int (iI rr)]) (rest := []) (ci := 7) F hl.1 hH hS hz (c_X7_joins l g gh T I_1 R J AI AJ AR mo sd rr zsd zrr hv hm hT (by omega) (by omega) (by omega) (by omega)) (cwV 2 F.2.2.2.2.1 (good_up gT_X7_joins) rfl rfl rfl hdX7_joins ⟨Nat.le_of_ble_eq_true rfl, Nat.le_of_ble_eq_true rfl⟩) hm (by decide) rfl rfl rfl (Nat.le_of_ble_eq_true rfl) dX7_reckons_27 ⟨Nat.zero_le _, Nat.zero_le _⟩) hS (fun v_266 I_260 R_261 J_262 AI_263 AJ_264 AR_265 H locs zv_266 hp_267 hH hS => ?_)
    dsimp only at hp_267
    obtain ⟨rfl, rfl, rfl, rfl, hv, hT, wfq⟩ := hp_267
    have wf := wF_t wf wfq
    have u_268_2 : (I_260 mo 2).toInt = (I mo 2).toInt := by rw [wf 2 (by decide)]
    have u_268_5 : (I_260 mo 5).toInt = (I mo 5).toInt := by rw [wf 5 (by decide)]
    have u_268_14 : (I_260 mo 14).toInt = (I mo 14).toInt := by rw [wf 14 (by decide)]
    have u_268_16 : (I_260 mo 16).toInt = (I mo 16).toInt := by rw [wf 16 (by decide)]
    have u_268_24 : (I_260 mo 24).toInt = (I mo 24).toInt := by rw [wf 24 (by decide)]
    refine lv_istore (lv' := [(5, .int (iI v_266)), (4, .int (iI v_20)), (3, .int (iI v_11)), (0, .ref mo), (1, .int (iI sd)), (2, .int (iI rr))]) F.1 F.2.1 dX7_reckons_30 hl (by decide) rfl (fun ls hl => ?_)
    refine lv_iload F.1 F.2.1 dX7_reckons_32 (lv_at hl 0 rfl) ?_
    refine z_if_ge (tgt := 42) F dX7_reckons_34 (by decide) zv_266 (fun c_269 => ?_) (fun c_269 => ?_)
    · refine lv_aload_n F.1 F.2.1 dX7_reckons_42 rfl (lv_at hl 3 rfl) ?_
      refine lv_iload_n F.1 F.2.1 dX7_reckons_43 rfl (lv_at hl 4 rfl) ?_
      refine lv_iload_n F.1 F.2.1 dX7_reckons_44 rfl (lv_at hl 5 rfl) ?_
      have b_270 := mJ hv hm
      unfold mNum1 at b_270
      refine g_calli (g_runV (As := [.int (iI sd), .int (iI rr)]) (rest := []) (ci := 7) F hl.1 hH hS hz (c_X7_lays l g gh T I_260 R J AI_263 AJ AR mo sd rr zsd zrr hv hm hT (by omega) (by omega)) (cwV 2 F.2.2.2.2.1 (good_up gT_X7_lays) rfl rfl rfl hdX7_lays ⟨Nat.le_of_ble_eq_true rfl, Nat.le_of_ble_eq_true rfl⟩) hm (by decide) rfl rfl rfl (Nat.le_of_ble_eq_true rfl) dX7_reckons_45 ⟨Nat.zero_le _, Nat.zero_le _⟩) hS (fun v_277 I_271 R_272 J_273 AI_274 AJ_275 AR_276 H locs zv_277 hp_278 hH hS => ?_)
      dsimp only at hp_278
      obtain ⟨rfl, rfl, rfl, rfl, rfl, hv, hT, haq25⟩ := hp_278
      exact g_iret F hr hlk hH hS hz zv_277 ⟨rfl, rfl, rfl, rfl, hv, hT, wf⟩ dX7_reckons_48
    · refine lv_iload F.1 F.2.1 dX7_reckons_37 (lv_at hl 0 rfl) ?_
      refine z_goto (tgt := 48) F dX7_reckons_39 (by decide) ?_
      exact g_iret F hr hlk hH hS hz zv_266 ⟨rfl, rfl, rfl, rfl, hv, hT, wf⟩ dX7_reckons_48

def rmX7_drafts : Room := { frames := 6, cells := 0, slots := 0, locals := 159 }
theorem hdX7_drafts : yX7_drafts.cls = RX7 ∧ yX7_drafts.cls ≠ "java/lang/invoke/MethodHandle" ∧ yX7_drafts.cls ≠ "java/lang/invoke/VarHandle" ∧ (parseMethodDescriptor yX7_drafts.desc).map (fun d => d.parameters.length) = some 0 := by decide +kernel
set_option maxHeartbeats 4000000 in
set_option maxRecDepth 100000 in
/-- the draft -/
theorem c_X7_drafts (l : Launch) (g : gG) (gh : gGh) (T : Nat → Int32) (I : gI) (R : gR) (J : gJ) (AI : gI) (AJ : gJ) (AR : gR) (mo : Nat) (hv : mInv g gh R I AI) (hm : gO g mo 7) (hT : AI (gh 50 0) = T) : gMet l g yX7_drafts tsX7_drafts rmX7_drafts [.ref mo] (I, R, J, AI, AJ, AR) (gQi g (fun (z : Int) (w : gS) => R = w.2.1 ∧ J = w.2.2.1 ∧ AJ = w.2.2.2.2.1 ∧ AR = w.2.2.2.2.2 ∧ (mInv g gh R (w.1) (w.2.2.2.1)) ∧ ((w.2.2.2.1) (gh 50 0) = T) ∧ (wF mo I (w.1)))) := by
  refine gStart (cc := cX7_drafts) (maxL := 4) (ret := (some (.int))) (by decide) rfl (Nat.le_of_ble_eq_true rfl) ?_
  intro p e s m below meth c ls F hr hlk hH hz hS hl
  have hl : lv_has ls 4 [(0, .ref mo)] := hl
  have hS : va_S (gA g) s.heap s.heap [] := hS
  obtain ⟨H, hHe⟩ : ∃ H : Heap, H = s.heap := ⟨_, rfl⟩
  obtain ⟨locs, hlo⟩ : ∃ k : List Loc, k = [] := ⟨_, rfl⟩
  have hH : gH g I R J AI AJ AR H := by rw [hHe]; exact hH
  have hS : va_S (gA g) s.heap H locs := by rw [hHe, hlo]; exact hS
  suffices hw : W p l e rmX7_drafts s m ([.ref mo] : List Value).toArray below meth c H locs 0 0 (MQ below (gQi g (fun (z : Int) (w : gS) => R = w.2.1 ∧ J = w.2.2.1 ∧ AJ = w.2.2.2.2.1 ∧ AR = w.2.2.2.2.2 ∧ (mInv g gh R (w.1) (w.2.2.2.1)) ∧ ((w.2.2.2.1) (gh 50 0) = T) ∧ (wF mo I (w.1)))) ([.ref mo] : List Value).toArray s 0 0 (gA g)) (F0 m 0 ls []) by
    rw [hHe, hlo] at hw; exact hw
  clear hHe hlo
  have wf : wF mo I I := wF_r
  have hb0 := mJ hv hm
  unfold mNum1 at hb0
  have iX7 : ∀ w ∈ u_ws RX7 TX7 32, w ∈ tsX7_drafts := fun w h => List.mem_cons_of_mem _ (inTB7 w h)
  have k64 : Cond.fieldLink RX7 64 (TX7 2).1 (TX7 2).2.1 (TX7 2).2.2.1 ∈ tsX7_drafts := List.mem_cons_of_mem _ fl_64
  refine lv_aload_n F.1 F.2.1 dX7_drafts_0 rfl (lv_at hl 0 rfl) ?_
  refine z_iconst F dX7_drafts_1 ?_
  refine z_bipush F dX7_drafts_2 (by decide) ?_
  have b_1 := mJ hv hm
  unfold mNum1 at b_1
  refine g_callv (g_runV (As := [.int (iI 0), .int (iI 10)]) (rest := []) (ci := 7) F hl.1 hH hS hz (c_X7_copies l g gh T I R J AI AJ AR mo 0 10 ⟨by decide, by decide⟩ ⟨by decide, by decide⟩ hv hm hT (by omega)) (cwV 2 F.2.2.2.2.1 (good_up gT_X7_copies) rfl rfl rfl hdX7_copies ⟨Nat.le_of_ble_eq_true rfl, Nat.le_of_ble_eq_true rfl⟩) hm (by decide) rfl rfl rfl (Nat.le_of_ble_eq_true rfl) dX7_drafts_4 ⟨Nat.zero_le _, Nat.zero_le _⟩) hS (fun I_2 R_3 J_4 AI_5 AJ_6 AR_7 H locs hp_8 hH hS => ?_)
  dsimp only at hp_8
  obtain ⟨rfl, rfl, rfl, rfl, rfl, hv, hT⟩ := hp_8
  refine z_iconst F dX7_drafts_7 ?_
  refine lv_istore_n (lv' := [(1, .int (iI 0)), (0, .ref mo)]) F.1 F.2.1 dX7_drafts_8 rfl hl (by decide) rfl (fun ls hl => ?_)
  have cut_9_10 : ∀ (NN : Nat) (k : Int) (I_9 : gI) (AI_10 : gI) (H : Heap) (locs : List Loc) (ls : Array Slot), zr k → (mInv g gh R I_9 AI_10) → (AI_10 (gh 50 0) = T) → (wF mo I I_9) → (0 ≤ k ∧ k ≤ 16) → (16 - k) < ((NN : Nat) : Int) → gH g I_9 R J AI_10 AJ AR H → va_S (gA g) s.heap H locs → lv_has ls 4 [(1, .int (iI k)), (0, .ref mo)] → W p l e rmX7_drafts s m ([.ref mo] : List Value).toArray below meth c H locs 0 0 (MQ below (gQi g (fun (z : Int) (w : gS) => R = w.2.1 ∧ J = w.2.2.1 ∧ AJ = w.2.2.2.2.1 ∧ AR = w.2.2.2.2.2 ∧ (mInv g gh R (w.1) (w.2.2.2.1)) ∧ ((w.2.2.2.1) (gh 50 0) = T) ∧ (wF mo I (w.1)))) ([.ref mo] : List Value).toArray s 0 0 (gA g)) (F0 m 9 ls []) := by
    intro NN9
    induction NN9 with
    | zero =>
      intro k I_9 AI_10 H locs ls zk hv hT wf hk1 hm9 hH hS hl
      exact absurd hm9 (by omega)
    | succ NN9 ih9 =>
      intro k I_9 AI_10 H locs ls zk hv hT wf hk1 hm9 hH hS hl
      have uc_2 : (I_9 mo 2).toInt = (I mo 2).toInt := by rw [wf 2 (by decide)]
      have uc_5 : (I_9 mo 5).toInt = (I mo 5).toInt := by rw [wf 5 (by decide)]
      have uc_14 : (I_9 mo 14).toInt = (I mo 14).toInt := by rw [wf 14 (by decide)]
      have uc_16 : (I_9 mo 16).toInt = (I mo 16).toInt := by rw [wf 16 (by decide)]
      have uc_24 : (I_9 mo 24).toInt = (I mo 24).toInt := by rw [wf 24 (by decide)]
      refine lv_iload_n F.1 F.2.1 dX7_drafts_9 rfl (lv_at hl 0 rfl) ?_
      refine lv_aload_n F.1 F.2.1 dX7_drafts_10 rfl (lv_at hl 1 rfl) ?_
      have b_12 := mJ hv hm
      unfold mNum1 at b_12
      refine g_calli (g_runV (As := []) (rest := [.int (iI k)]) (ci := 7) F hl.1 hH hS hz (c_X7_tables l g gh T I_9 R J AI_10 AJ AR mo hv hm hT) (cwV 0 F.2.2.2.2.1 (good_up gT_X7_tables) rfl rfl rfl hdX7_tables ⟨Nat.le_of_ble_eq_true rfl, Nat.le_of_ble_eq_true rfl⟩) hm (by decide) rfl rfl rfl (Nat.le_of_ble_eq_true rfl) dX7_drafts_11 ⟨Nat.zero_le _, Nat.zero_le _⟩) hS (fun v_19 I_13 R_14 J_15 AI_16 AJ_17 AR_18 H locs zv_19 hp_20 hH hS => ?_)
      dsimp only at hp_20
      obtain ⟨rfl, rfl, rfl, rfl, rfl, rfl, q_21, hvw⟩ := hp_20
      refine z_icmp_ge (tgt := 36) F dX7_drafts_14 (by decide) zk zv_19 (fun c_22 => ?_) (fun c_22 => ?_)
      · refine z_iconst F dX7_drafts_36 ?_
        refine lv_istore_n (lv' := [(1, .int (iI 0)), (0, .ref mo)]) F.1 F.2.1 dX7_drafts_37 rfl hl (by decide) rfl (fun ls hl => ?_)
        have cut_38_24 : ∀ (NN : Nat) (k : Int) (I_23 : gI) (AI_24 : gI) (H : Heap) (locs : List Loc) (ls : Array Slot), zr k → (mInv g gh R I_23 AI_24) → (AI_24 (gh 50 0) = T) → (wF mo I I_23) → (0 ≤ k ∧ k ≤ 16) → (16 - k) < ((NN : Nat) : Int) → gH g I_23 R J AI_24 AJ AR H → va_S (gA g) s.heap H locs → lv_has ls 4 [(1, .int (iI k)), (0, .ref mo)] → W p l e rmX7_drafts s m ([.ref mo] : List Value).toArray below meth c H locs 0 0 (MQ below (gQi g (fun (z : Int) (w : gS) => R = w.2.1 ∧ J = w.2.2.1 ∧ AJ = w.2.2.2.2.1 ∧ AR = w.2.2.2.2.2 ∧ (mInv g gh R (w.1) (w.2.2.2.1)) ∧ ((w.2.2.2.1) (gh 50 0) = T) ∧ (wF mo I (w.1)))) ([.ref mo] : List Value).toArray s 0 0 (gA g)) (F0 m 38 ls []) := by
          intro NN38
          induction NN38 with
          | zero =>
            intro k I_23 AI_24 H locs ls zk hv hT wf hk2 hm38 hH hS hl
            exact absurd hm38 (by omega)
          | succ NN38 ih38 =>
            intro k I_23 AI_24 H locs ls zk hv hT wf hk2 hm38 hH hS hl
            have uc_2 : (I_23 mo 2).toInt = (I mo 2).toInt := by rw [wf 2 (by decide)]
            have uc_5 : (I_23 mo 5).toInt = (I mo 5).toInt := by rw [wf 5 (by decide)]
            have uc_14 : (I_23 mo 14).toInt = (I mo 14).toInt := by rw [wf 14 (by decide)]
            have uc_16 : (I_23 mo 16).toInt = (I mo 16).toInt := by rw [wf 16 (by decide)]
            have uc_24 : (I_23 mo 24).toInt = (I mo 24).toInt := by rw [wf 24 (by decide)]
            refine lv_iload_n F.1 F.2.1 dX7_drafts_38 rfl (lv_at hl 0 rfl) ?_
            refine lv_aload_n F.1 F.2.1 dX7_drafts_39 rfl (lv_at hl 1 rfl) ?_
            refine g_getI (ci := 7) (k := 2) F hH rfl (by decide) iX7 hm (by decide) rfl k64 dX7_drafts_40 ?_
            have b_26 := mJ hv hm
            unfold mNum1 at b_26
            refine z_icmp_ge (tgt := 102) F dX7_drafts_43 (by decide) zk (zr_t _) (fun c_27 => ?_) (fun c_27 => ?_)
            · refine z_iconst F dX7_drafts_102 ?_
              exact g_iret F hr hlk hH hS hz ⟨by decide, by decide⟩ ⟨rfl, rfl, rfl, rfl, hv, hT, wf⟩ dX7_drafts_103
            · refine lv_aload_n F.1 F.2.1 dX7_drafts_46 rfl (lv_at hl 1 rfl) ?_
              refine lv_iload_n F.1 F.2.1 dX7_drafts_47 rfl (lv_at hl 0 rfl) ?_
              refine g_calli (g_runV (As := [.int (iI k)]) (rest := []) (ci := 7) F hl.1 hH hS hz (c_X7_kindOf l g gh T I_23 R J AI_24 AJ AR mo k zk hv hm hT (by omega)) (cwV 1 F.2.2.2.2.1 (good_up gT_X7_kindOf) rfl rfl rfl hdX7_kindOf ⟨Nat.le_of_ble_eq_true rfl, Nat.le_of_ble_eq_true rfl⟩) hm (by decide) rfl rfl rfl (Nat.le_of_ble_eq_true rfl) dX7_drafts_48 ⟨Nat.zero_le _, Nat.zero_le _⟩) hS (fun v_34 I_28 R_29 J_30 AI_31 AJ_32 AR_33 H locs zv_34 hp_35 hH hS => ?_)
              dsimp only at hp_35
              obtain ⟨rfl, rfl, rfl, rfl, rfl, rfl, q_36⟩ := hp_35
              refine z_if_ne (tgt := 82) F dX7_drafts_51 (by decide) zv_34 (fun c_37 => ?_) (fun c_37 => ?_)
              · refine lv_aload_n F.1 F.2.1 dX7_drafts_82 rfl (lv_at hl 1 rfl) ?_
                refine z_bipush F dX7_drafts_83 (by decide) ?_
                refine lv_iload_n F.1 F.2.1 dX7_drafts_85 rfl (lv_at hl 0 rfl) ?_
                refine g_calli (g_runV (As := [.int (iI 10), .int (iI k)]) (rest := []) (ci := 7) F hl.1 hH hS hz (c_X7_reckons l g gh T I_23 R J AI_24 AJ AR mo 10 k ⟨by decide, by decide⟩ zk hv hm hT (by omega) (by omega) (by omega)) (cwV 2 F.2.2.2.2.1 (good_up gT_X7_reckons) rfl rfl rfl hdX7_reckons ⟨Nat.le_of_ble_eq_true rfl, Nat.le_of_ble_eq_true rfl⟩) hm (by decide) rfl rfl rfl (Nat.le_of_ble_eq_true rfl) dX7_drafts_86 ⟨Nat.zero_le _, Nat.zero_le _⟩) hS (fun v_44 I_38 R_39 J_40 AI_41 AJ_42 AR_43 H locs zv_44 hp_45 hH hS => ?_)
                dsimp only at hp_45
                obtain ⟨rfl, rfl, rfl, rfl, hv, hT, wfq⟩ := hp_45
                have wf := wF_t wf wfq
                have u_46_2 : (I_38 mo 2).toInt = (I mo 2).toInt := by rw [wf 2 (by decide)]
                have u_46_5 : (I_38 mo 5).toInt = (I mo 5).toInt := by rw [wf 5 (by decide)]
                have u_46_14 : (I_38 mo 14).toInt = (I mo 14).toInt := by rw [wf 14 (by decide)]
                have u_46_16 : (I_38 mo 16).toInt = (I mo 16).toInt := by rw [wf 16 (by decide)]
                have u_46_24 : (I_38 mo 24).toInt = (I mo 24).toInt := by rw [wf 24 (by decide)]
                refine lv_istore_n (lv' := [(2, .int (iI v_44)), (1, .int (iI k)), (0, .ref mo)]) F.1 F.2.1 dX7_drafts_89 rfl hl (by decide) rfl (fun ls hl => ?_)
                refine lv_iload_n F.1 F.2.1 dX7_drafts_90 rfl (lv_at hl 0 rfl) ?_
                refine z_if_ge (tgt := 96) F dX7_drafts_91 (by decide) zv_44 (fun c_47 => ?_) (fun c_47 => ?_)
                · refine z_iinc (lv' := [(1, .int (iI (k + 1))), (2, .int (iI v_44)), (0, .ref mo)]) F dX7_drafts_96 hl (k := 1) rfl (by decide) rfl (fun ls hl => ?_)
                  refine z_goto (tgt := 38) F dX7_drafts_99 (by decide) ?_
                  exact ih38 (k + 1) I_38 AI_41 H locs ls ⟨by omega, by omega⟩ hv hT wf (by omega) (by omega) hH hS (lv_sub hl [0, 2] rfl)
                · refine lv_iload_n F.1 F.2.1 dX7_drafts_94 rfl (lv_at hl 0 rfl) ?_
                  exact g_iret F hr hlk hH hS hz zv_44 ⟨rfl, rfl, rfl, rfl, hv, hT, wf⟩ dX7_drafts_95
              · refine lv_aload_n F.1 F.2.1 dX7_drafts_54 rfl (lv_at hl 1 rfl) ?_
                refine z_bipush F dX7_drafts_55 (by decide) ?_
                refine lv_iload_n F.1 F.2.1 dX7_drafts_57 rfl (lv_at hl 0 rfl) ?_
                refine g_calli (g_runV (As := [.int (iI 10), .int (iI k)]) (rest := []) (ci := 7) F hl.1 hH hS hz (c_X7_changesOf l g gh T I_23 R J AI_24 AJ AR mo 10 k ⟨by decide, by decide⟩ zk hv hm hT (by omega) (by omega)) (cwV 2 F.2.2.2.2.1 (good_up gT_X7_changesOf) rfl rfl rfl hdX7_changesOf ⟨Nat.le_of_ble_eq_true rfl, Nat.le_of_ble_eq_true rfl⟩) hm (by decide) rfl rfl rfl (Nat.le_of_ble_eq_true rfl) dX7_drafts_58 ⟨Nat.zero_le _, Nat.zero_le _⟩) hS (fun v_54 I_48 R_49 J_50 AI_51 AJ_52 AR_53 H locs zv_54 hp_55 hH hS => ?_)
                dsimp only at hp_55
                obtain ⟨rfl, rfl, rfl, rfl, hv, hT, wfq, q_56⟩ := hp_55
                have wf := wF_t wf wfq
                have u_57_2 : (I_48 mo 2).toInt = (I mo 2).toInt := by rw [wf 2 (by decide)]
                have u_57_5 : (I_48 mo 5).toInt = (I mo 5).toInt := by rw [wf 5 (by decide)]
                have u_57_14 : (I_48 mo 14).toInt = (I mo 14).toInt := by rw [wf 14 (by decide)]
                have u_57_16 : (I_48 mo 16).toInt = (I mo 16).toInt := by rw [wf 16 (by decide)]
                have u_57_24 : (I_48 mo 24).toInt = (I mo 24).toInt := by rw [wf 24 (by decide)]
                refine lv_istore_n (lv' := [(3, .int (iI v_54)), (1, .int (iI k)), (0, .ref mo)]) F.1 F.2.1 dX7_drafts_61 rfl hl (by decide) rfl (fun ls hl => ?_)
                refine lv_iload_n F.1 F.2.1 dX7_drafts_62 rfl (lv_at hl 0 rfl) ?_
                refine z_if_eq (tgt := 71) F dX7_drafts_63 (by decide) zv_54 (fun c_58 => ?_) (fun c_58 => ?_)
                · refine lv_aload_n F.1 F.2.1 dX7_drafts_71 rfl (lv_at hl 2 rfl) ?_
                  refine z_bipush F dX7_drafts_72 (by decide) ?_
                  refine lv_iload_n F.1 F.2.1 dX7_drafts_74 rfl (lv_at hl 1 rfl) ?_
                  have b_59 := mJ hv hm
                  unfold mNum1 at b_59
                  refine g_calli (g_runV (As := [.int (iI 10), .int (iI k)]) (rest := []) (ci := 7) F hl.1 hH hS hz (c_X7_lays l g gh T I_48 R J AI_51 AJ AR mo 10 k ⟨by decide, by decide⟩ zk hv hm hT (by omega) (by omega)) (cwV 2 F.2.2.2.2.1 (good_up gT_X7_lays) rfl rfl rfl hdX7_lays ⟨Nat.le_of_ble_eq_true rfl, Nat.le_of_ble_eq_true rfl⟩) hm (by decide) rfl rfl rfl (Nat.le_of_ble_eq_true rfl) dX7_drafts_75 ⟨Nat.zero_le _, Nat.zero_le _⟩) hS (fun v_66 I_60 R_61 J_62 AI_63 AJ_64 AR_65 H locs zv_66 hp_67 hH hS => ?_)
                  dsimp only at hp_67
                  obtain ⟨rfl, rfl, rfl, rfl, rfl, hv, hT, haq25⟩ := hp_67
                  refine lv_istore_n (lv' := [(2, .int (iI v_66)), (3, .int (iI v_54)), (1, .int (iI k)), (0, .ref mo)]) F.1 F.2.1 dX7_drafts_78 rfl hl (by decide) rfl (fun ls hl => ?_)
                  refine z_goto (tgt := 90) F dX7_drafts_79 (by decide) ?_
                  refine lv_iload_n F.1 F.2.1 dX7_drafts_90 rfl (lv_at hl 0 rfl) ?_
                  refine z_if_ge (tgt := 96) F dX7_drafts_91 (by decide) zv_66 (fun c_68 => ?_) (fun c_68 => ?_)
                  · refine z_iinc (lv' := [(1, .int (iI (k + 1))), (2, .int (iI v_66)), (3, .int (iI v_54)), (0, .ref mo)]) F dX7_drafts_96 hl (k := 2) rfl (by decide) rfl (fun ls hl => ?_)
                    refine z_goto (tgt := 38) F dX7_drafts_99 (by decide) ?_
                    exact ih38 (k + 1) I_48 AI_63 H locs ls ⟨by omega, by omega⟩ hv hT wf (by omega) (by omega) hH hS (lv_sub hl [0, 3] rfl)
                  · refine lv_iload_n F.1 F.2.1 dX7_drafts_94 rfl (lv_at hl 0 rfl) ?_
                    exact g_iret F hr hlk hH hS hz zv_66 ⟨rfl, rfl, rfl, rfl, hv, hT, wf⟩ dX7_drafts_95
                · refine z_bipush F dX7_drafts_66 (by decide) ?_
                  refine z_goto (tgt := 78) F dX7_drafts_68 (by decide) ?_
                  refine lv_istore_n (lv' := [(2, .int (iI ((-2)))), (3, .int (iI v_54)), (1, .int (iI k)), (0, .ref mo)]) F.1 F.2.1 dX7_drafts_78 rfl hl (by decide) rfl (fun ls hl => ?_)
                  refine z_goto (tgt := 90) F dX7_drafts_79 (by decide) ?_
                  refine lv_iload_n F.1 F.2.1 dX7_drafts_90 rfl (lv_at hl 0 rfl) ?_
                  refine z_if_ge (tgt := 96) F dX7_drafts_91 (by decide) ⟨by decide, by decide⟩ (fun c_69 => ?_) (fun c_69 => ?_)
                  · exact absurd trivial (by omega)
                  · refine lv_iload_n F.1 F.2.1 dX7_drafts_94 rfl (lv_at hl 0 rfl) ?_
                    exact g_iret F hr hlk hH hS hz ⟨by decide, by decide⟩ ⟨rfl, rfl, rfl, rfl, hv, hT, wf⟩ dX7_drafts_95
        exact cut_38_24 (((16 - 0) + 1 : Int).toNat) 0 I_9 AI_10 H locs ls ⟨by decide, by decide⟩ hv hT wf (by omega) (by omega) hH hS (lv_sub hl [0, 1] rfl)
      · refine lv_aload_n F.1 F.2.1 dX7_drafts_17 rfl (lv_at hl 1 rfl) ?_
        refine z_bipush F dX7_drafts_18 (by decide) ?_
        refine lv_iload_n F.1 F.2.1 dX7_drafts_20 rfl (lv_at hl 0 rfl) ?_
        refine g_calli (g_runV (As := [.int (iI 10), .int (iI k)]) (rest := []) (ci := 7) F hl.1 hH hS hz (c_X7_changesOf l g gh T I_9 R J AI_10 AJ AR mo 10 k ⟨by decide, by decide⟩ zk hv hm hT (by omega) (by omega)) (cwV 2 F.2.2.2.2.1 (good_up gT_X7_changesOf) rfl rfl rfl hdX7_changesOf ⟨Nat.le_of_ble_eq_true rfl, Nat.le_of_ble_eq_true rfl⟩) hm (by decide) rfl rfl rfl (Nat.le_of_ble_eq_true rfl) dX7_drafts_21 ⟨Nat.zero_le _, Nat.zero_le _⟩) hS (fun v_76 I_70 R_71 J_72 AI_73 AJ_74 AR_75 H locs zv_76 hp_77 hH hS => ?_)
        dsimp only at hp_77
        obtain ⟨rfl, rfl, rfl, rfl, hv, hT, wfq, q_78⟩ := hp_77
        have wf := wF_t wf wfq
        have u_79_2 : (I_70 mo 2).toInt = (I mo 2).toInt := by rw [wf 2 (by decide)]
        have u_79_5 : (I_70 mo 5).toInt = (I mo 5).toInt := by rw [wf 5 (by decide)]
        have u_79_14 : (I_70 mo 14).toInt = (I mo 14).toInt := by rw [wf 14 (by decide)]
        have u_79_16 : (I_70 mo 16).toInt = (I mo 16).toInt := by rw [wf 16 (by decide)]
        have u_79_24 : (I_70 mo 24).toInt = (I mo 24).toInt := by rw [wf 24 (by decide)]
        refine z_if_eq (tgt := 30) F dX7_drafts_24 (by decide) zv_76 (fun c_80 => ?_) (fun c_80 => ?_)
        · refine z_iinc (lv' := [(1, .int (iI (k + 1))), (0, .ref mo)]) F dX7_drafts_30 hl (k := 0) rfl (by decide) rfl (fun ls hl => ?_)
          refine z_goto (tgt := 9) F dX7_drafts_33 (by decide) ?_
          exact ih9 (k + 1) I_70 AI_73 H locs ls ⟨by omega, by omega⟩ hv hT wf (by omega) (by omega) hH hS (lv_sub hl [0, 1] rfl)
        · refine z_bipush F dX7_drafts_27 (by decide) ?_
          exact g_iret F hr hlk hH hS hz ⟨by decide, by decide⟩ ⟨rfl, rfl, rfl, rfl, hv, hT, wf⟩ dX7_drafts_29
  exact cut_9_10 (((16 - 0) + 1 : Int).toNat) 0 I AI_5 H locs ls ⟨by decide, by decide⟩ hv hT wf (by omega) (by omega) hH hS (lv_sub hl [0, 1] rfl)
