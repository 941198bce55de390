def rmX7_joins : Room := { frames := 3, cells := 0, slots := 0, locals := 71 }
theorem hdX7_joins : yX7_joins.cls = RX7 ∧ yX7_joins.cls ≠ "java/lang/invoke/MethodHandle" ∧ yX7_joins.cls ≠ "java/lang/invoke/VarHandle" ∧ (parseMethodDescriptor yX7_joins.desc).map (fun d => d.parameters.length) = some 2 := by decide +kernel
set_option maxHeartbeats 4000000 in
set_option maxRecDepth 100000 in
/-- a join -/
theorem c_X7_joins (l : Launch) (g : gG) (gh : gGh) (T : Nat → Int32) (I : gI) (R : gR) (J : gJ) (AI : gI) (AJ : gJ) (AR : gR) (mo : Nat) (sd : Int) (rr : Int) (zsd : zr sd) (zrr : zr rr) (hv : mInv g gh R I AI) (hm : gO g mo 7) (hT : AI (gh 50 0) = T) (hs : 0 ≤ sd ∧ sd ≤ 10) (hr0 : 0 ≤ rr ∧ rr < (I mo 2).toInt) (hk : tI T (40 * rr) = 3) (hw : (I mo 26).toInt = 0) : gMet l g yX7_joins tsX7_joins rmX7_joins [.ref mo, .int (iI sd), .int (iI rr)] (I, R, J, AI, AJ, AR) (gQi g (fun (z : Int) (w : gS) => R = w.2.1 ∧ J = w.2.2.1 ∧ AJ = w.2.2.2.2.1 ∧ AR = w.2.2.2.2.2 ∧ (mInv g gh R (w.1) (w.2.2.2.1)) ∧ ((w.2.2.2.1) (gh 50 0) = T) ∧ (wF mo I (w.1)))) := by
  refine gStart (cc := cX7_joins) (maxL := 14) (ret := (some (.int))) (by decide) rfl (Nat.le_of_ble_eq_true rfl) ?_
  intro p e s m below meth c ls F hr hlk hH hz hS hl
  have hl : lv_has ls 14 [(0, .ref mo), (1, .int (iI sd)), (2, .int (iI rr))] := hl
  have hS : va_S (gA g) s.heap s.heap [] := hS
  obtain ⟨H, hHe⟩ : ∃ H : Heap, H = s.heap := ⟨_, rfl⟩
  obtain ⟨locs, hlo⟩ : ∃ k : List Loc, k = [] := ⟨_, rfl⟩
  have hH : gH g I R J AI AJ AR H := by rw [hHe]; exact hH
  have hS : va_S (gA g) s.heap H locs := by rw [hHe, hlo]; exact hS
  suffices hw : W p l e rmX7_joins s m ([.ref mo, .int (iI sd), .int (iI rr)] : List Value).toArray below meth c H locs 0 0 (MQ below (gQi g (fun (z : Int) (w : gS) => R = w.2.1 ∧ J = w.2.2.1 ∧ AJ = w.2.2.2.2.1 ∧ AR = w.2.2.2.2.2 ∧ (mInv g gh R (w.1) (w.2.2.2.1)) ∧ ((w.2.2.2.1) (gh 50 0) = T) ∧ (wF mo I (w.1)))) ([.ref mo, .int (iI sd), .int (iI rr)] : List Value).toArray s 0 0 (gA g)) (F0 m 0 ls []) by
    rw [hHe, hlo] at hw; exact hw
  clear hHe hlo
  have wf : wF mo I I := wF_r
  have hb0 := mJ hv hm
  unfold mNum1 at hb0
  have x := mRow hv hm hT (z := rr) (by omega) (by omega)
  have xa := x.1
  have xc := x.2.2.1
  have xb := x.2.1 (by omega)
  have x3 := x.2.2.2.2.2.2.1 (by omega)
  obtain ⟨x3a, x3b, x3c, x3d⟩ := x3
  have y := mRow hv hm hT (z := tI T (40 * rr + 2)) (by omega) (by omega)
  have ya := y.1
  have yc := y.2.2.1
  have v := mRow hv hm hT (z := tI T (40 * rr + 3)) (by omega) (by omega)
  have va := v.1
  have vc := v.2.2.1
  have iX7 : ∀ w ∈ u_ws RX7 TX7 32, w ∈ tsX7_joins := fun w h => List.mem_cons_of_mem _ (inTB7 w h)
  have k7 : Cond.fieldLink RX7 7 (TX7 0).1 (TX7 0).2.1 (TX7 0).2.2.1 ∈ tsX7_joins := List.mem_cons_of_mem _ fl_7
  have k24 : Cond.fieldLink RX7 24 (TX7 6).1 (TX7 6).2.1 (TX7 6).2.2.1 ∈ tsX7_joins := List.mem_cons_of_mem _ fl_24
  have k45 : Cond.fieldLink RX7 45 (TX7 27).1 (TX7 27).2.1 (TX7 27).2.2.1 ∈ tsX7_joins := List.mem_cons_of_mem _ fl_45
  have k269 : Cond.fieldLink RX7 269 (TX7 26).1 (TX7 26).2.1 (TX7 26).2.2.1 ∈ tsX7_joins := List.mem_cons_of_mem _ fl_269
  refine lv_aload_n F.1 F.2.1 dX7_joins_0 rfl (lv_at hl 0 rfl) ?_
  refine lv_iload_n F.1 F.2.1 dX7_joins_1 rfl (lv_at hl 2 rfl) ?_
  have b_1 := mJ hv hm
  unfold mNum1 at b_1
  refine g_calli (g_runV (As := [.int (iI rr)]) (rest := []) (ci := 7) F hl.1 hH hS hz (c_X7_firstOf l g gh T I R J AI AJ AR mo rr zrr hv hm hT (by omega)) (cwV 1 F.2.2.2.2.1 (good_up gT_X7_firstOf) rfl rfl rfl hdX7_firstOf ⟨Nat.le_of_ble_eq_true rfl, Nat.le_of_ble_eq_true rfl⟩) hm (by decide) rfl rfl rfl (Nat.le_of_ble_eq_true rfl) dX7_joins_2 ⟨Nat.zero_le _, Nat.zero_le _⟩) hS (fun v_8 I_2 R_3 J_4 AI_5 AJ_6 AR_7 H locs zv_8 hp_9 hH hS => ?_)
  dsimp only at hp_9
  obtain ⟨rfl, rfl, rfl, rfl, rfl, rfl, qa⟩ := hp_9
  have ya1 : 1 ≤ tI T (40 * v_8 + 1) ∧ tI T (40 * v_8 + 1) ≤ 4 := by rw [qa]; omega
  refine lv_istore_n (lv' := [(3, .int (iI v_8)), (0, .ref mo), (1, .int (iI sd)), (2, .int (iI rr))]) F.1 F.2.1 dX7_joins_5 rfl hl (by decide) rfl (fun ls hl => ?_)
  refine lv_aload_n F.1 F.2.1 dX7_joins_6 rfl (lv_at hl 1 rfl) ?_
  refine lv_iload_n F.1 F.2.1 dX7_joins_7 rfl (lv_at hl 3 rfl) ?_
  refine g_calli (g_runV (As := [.int (iI rr)]) (rest := []) (ci := 7) F hl.1 hH hS hz (c_X7_secondOf l g gh T I R J AI AJ AR mo rr zrr hv hm hT (by omega)) (cwV 1 F.2.2.2.2.1 (good_up gT_X7_secondOf) rfl rfl rfl hdX7_secondOf ⟨Nat.le_of_ble_eq_true rfl, Nat.le_of_ble_eq_true rfl⟩) hm (by decide) rfl rfl rfl (Nat.le_of_ble_eq_true rfl) dX7_joins_8 ⟨Nat.zero_le _, Nat.zero_le _⟩) hS (fun v_16 I_10 R_11 J_12 AI_13 AJ_14 AR_15 H locs zv_16 hp_17 hH hS => ?_)
  dsimp only at hp_17
  obtain ⟨rfl, rfl, rfl, rfl, rfl, rfl, qb⟩ := hp_17
  have va1 : 1 ≤ tI T (40 * v_16 + 1) ∧ tI T (40 * v_16 + 1) ≤ 4 := by rw [qb]; omega
  refine lv_istore (lv' := [(4, .int (iI v_16)), (3, .int (iI v_8)), (0, .ref mo), (1, .int (iI sd)), (2, .int (iI rr))]) F.1 F.2.1 dX7_joins_11 hl (by decide) rfl (fun ls hl => ?_)
  refine lv_aload_n F.1 F.2.1 dX7_joins_13 rfl (lv_at hl 2 rfl) ?_
  obtain ⟨r_18a, r_18b⟩ : R mo 0 = some (gh 50 0) ∧ gAr g (gh 50 0) 9 640 := mR hv hm (q := (0, 640)) (by decide)
  refine g_getR (ci := 7) (k := 0) F hH rfl (by decide) iX7 hm (by decide) rfl (b := gh 50 0) r_18a k7 dX7_joins_14 ?_
  refine z_bipush F dX7_joins_17 (by decide) ?_
  refine lv_iload_n F.1 F.2.1 dX7_joins_19 rfl (lv_at hl 4 rfl) ?_
  refine z_imul F dX7_joins_20 ?_
  refine z_iconst F dX7_joins_21 ?_
  refine z_iadd F dX7_joins_22 ?_
  have hx23 : 0 ≤ ((40 * rr) + 5) ∧ ((40 * rr) + 5) < ((640 : Nat) : Int) ∧ ((40 * rr) + 5) ≤ 2147483647 := ⟨by omega, by omega, by omega⟩
  refine g_iald F hH r_18b hx23.1 hx23.2.1 hx23.2.2 dX7_joins_23 ?_
  refine z_name (fun v_19 ev_19 => ?_)
  have zv_19 : zr v_19 := by rw [ev_19]; exact zr_t _
  have hg : v_19 = tI T (40 * rr + 5) := by rw [ev_19, ← hT]; rfl
  refine lv_istore (lv' := [(5, .int (iI v_19)), (4, .int (iI v_16)), (3, .int (iI v_8)), (0, .ref mo), (1, .int (iI sd)), (2, .int (iI rr))]) F.1 F.2.1 dX7_joins_24 hl (by decide) rfl (fun ls hl => ?_)
  have h4 : tI T (40 * v_8 + 1) + mCnt v_19 (tI T (40 * v_16 + 1)).toNat ≤ 4 := by rw [qa, qb, hg]; exact x3d
  refine z_iconst F dX7_joins_26 ?_
  refine lv_istore (lv' := [(6, .int (iI 0)), (5, .int (iI v_19)), (4, .int (iI v_16)), (3, .int (iI v_8)), (0, .ref mo), (1, .int (iI sd)), (2, .int (iI rr))]) F.1 F.2.1 dX7_joins_27 hl (by decide) rfl (fun ls hl => ?_)
  refine z_iconst F dX7_joins_29 ?_
  refine lv_istore (lv' := [(7, .int (iI 0)), (6, .int (iI 0)), (5, .int (iI v_19)), (4, .int (iI v_16)), (3, .int (iI v_8)), (0, .ref mo), (1, .int (iI sd)), (2, .int (iI rr))]) F.1 F.2.1 dX7_joins_30 hl (by decide) rfl (fun ls hl => ?_)
  have cut_32_21 : ∀ (NN : Nat) (ps i : Int) (I_20 : gI) (AI_21 : gI) (H : Heap) (locs : List Loc) (ls : Array Slot), zr ps → zr i → (mInv g gh R I_20 AI_21) → (AI_21 (gh 50 0) = T) → (wF mo I I_20) → (0 ≤ i ∧ i ≤ 120 ∧ 0 ≤ ps ∧ ps ≤ 1500 ∧ (I_20 mo 26).toInt ≤ 1598) → (120 - i) < ((NN : Nat) : Int) → gH g I_20 R J AI_21 AJ AR H → va_S (gA g) s.heap H locs → lv_has ls 14 [(7, .int (iI i)), (6, .int (iI ps)), (5, .int (iI v_19)), (4, .int (iI v_16)), (3, .int (iI v_8)), (0, .ref mo), (1, .int (iI sd)), (2, .int (iI rr))] → W p l e rmX7_joins s m ([.ref mo, .int (iI sd), .int (iI rr)] : List Value).toArray below meth c H locs 0 0 (MQ below (gQi g (fun (z : Int) (w : gS) => R = w.2.1 ∧ J = w.2.2.1 ∧ AJ = w.2.2.2.2.1 ∧ AR = w.2.2.2.2.2 ∧ (mInv g gh R (w.1) (w.2.2.2.1)) ∧ ((w.2.2.2.1) (gh 50 0) = T) ∧ (wF mo I (w.1)))) ([.ref mo, .int (iI sd), .int (iI rr)] : List Value).toArray s 0 0 (gA g)) (F0 m 32 ls []) := by
    intro NN32
    induction NN32 with
    | zero =>
      intro ps i I_20 AI_21 H locs ls zps zi hv hT wf hi hm32 hH hS hl
      exact absurd hm32 (by omega)
    | succ NN32 ih32 =>
      intro ps i I_20 AI_21 H locs ls zps zi hv hT wf hi hm32 hH hS hl
      have uc_2 : (I_20 mo 2).toInt = (I mo 2).toInt := by rw [wf 2 (by decide)]
      have uc_5 : (I_20 mo 5).toInt = (I mo 5).toInt := by rw [wf 5 (by decide)]
      have uc_14 : (I_20 mo 14).toInt = (I mo 14).toInt := by rw [wf 14 (by decide)]
      have uc_16 : (I_20 mo 16).toInt = (I mo 16).toInt := by rw [wf 16 (by decide)]
      have uc_24 : (I_20 mo 24).toInt = (I mo 24).toInt := by rw [wf 24 (by decide)]
      refine lv_iload F.1 F.2.1 dX7_joins_32 (lv_at hl 0 rfl) ?_
      refine lv_aload_n F.1 F.2.1 dX7_joins_34 rfl (lv_at hl 5 rfl) ?_
      refine lv_iload_n F.1 F.2.1 dX7_joins_35 rfl (lv_at hl 6 rfl) ?_
      refine lv_iload_n F.1 F.2.1 dX7_joins_36 rfl (lv_at hl 4 rfl) ?_
      have b_23 := mJ hv hm
      unfold mNum1 at b_23
      refine g_calli (g_runV (As := [.int (iI sd), .int (iI v_8)]) (rest := [.int (iI i)]) (ci := 7) F hl.1 hH hS hz (c_X7_sizeOf l g gh T I_20 R J AI_21 AJ AR mo sd v_8 zsd zv_8 hv hm hT (by omega) (by omega)) (cwV 2 F.2.2.2.2.1 (good_up gT_X7_sizeOf) rfl rfl rfl hdX7_sizeOf ⟨Nat.le_of_ble_eq_true rfl, Nat.le_of_ble_eq_true rfl⟩) hm (by decide) rfl rfl rfl (Nat.le_of_ble_eq_true rfl) dX7_joins_37 ⟨Nat.zero_le _, Nat.zero_le _⟩) hS (fun v_30 I_24 R_25 J_26 AI_27 AJ_28 AR_29 H locs zv_30 hp_31 hH hS => ?_)
      dsimp only at hp_31
      obtain ⟨rfl, rfl, rfl, rfl, rfl, rfl, q_32, q_33⟩ := hp_31
      refine z_icmp_ge (tgt := 291) F dX7_joins_40 (by decide) zi zv_30 (fun c_34 => ?_) (fun c_34 => ?_)
      · refine z_iconst F dX7_joins_291 ?_
        exact g_iret F hr hlk hH hS hz ⟨by decide, by decide⟩ ⟨rfl, rfl, rfl, rfl, hv, hT, wf⟩ dX7_joins_292
      · refine z_iconst F dX7_joins_43 ?_
        refine lv_istore (lv' := [(8, .int (iI 0)), (7, .int (iI i)), (6, .int (iI ps)), (5, .int (iI v_19)), (4, .int (iI v_16)), (3, .int (iI v_8)), (0, .ref mo), (1, .int (iI sd)), (2, .int (iI rr))]) F.1 F.2.1 dX7_joins_44 hl (by decide) rfl (fun ls hl => ?_)
        have cut_46_36 : ∀ (NN : Nat) (ps jj : Int) (I_35 : gI) (AI_36 : gI) (H : Heap) (locs : List Loc) (ls : Array Slot), zr ps → zr jj → (mInv g gh R I_35 AI_36) → (AI_36 (gh 50 0) = T) → (wF mo I I_35) → (0 ≤ jj ∧ jj ≤ 120 ∧ 0 ≤ ps ∧ ps ≤ 1500 ∧ (I_35 mo 26).toInt ≤ 1598) → (120 - jj) < ((NN : Nat) : Int) → gH g I_35 R J AI_36 AJ AR H → va_S (gA g) s.heap H locs → lv_has ls 14 [(8, .int (iI jj)), (7, .int (iI i)), (6, .int (iI ps)), (5, .int (iI v_19)), (4, .int (iI v_16)), (3, .int (iI v_8)), (0, .ref mo), (1, .int (iI sd)), (2, .int (iI rr))] → W p l e rmX7_joins s m ([.ref mo, .int (iI sd), .int (iI rr)] : List Value).toArray below meth c H locs 0 0 (MQ below (gQi g (fun (z : Int) (w : gS) => R = w.2.1 ∧ J = w.2.2.1 ∧ AJ = w.2.2.2.2.1 ∧ AR = w.2.2.2.2.2 ∧ (mInv g gh R (w.1) (w.2.2.2.1)) ∧ ((w.2.2.2.1) (gh 50 0) = T) ∧ (wF mo I (w.1)))) ([.ref mo, .int (iI sd), .int (iI rr)] : List Value).toArray s 0 0 (gA g)) (F0 m 46 ls []) := by
          intro NN46
          induction NN46 with
          | zero =>
            intro ps jj I_35 AI_36 H locs ls zps zjj hv hT wf hj hm46 hH hS hl
            exact absurd hm46 (by omega)
          | succ NN46 ih46 =>
            intro ps jj I_35 AI_36 H locs ls zps zjj hv hT wf hj hm46 hH hS hl
            have uc_2 : (I_35 mo 2).toInt = (I mo 2).toInt := by rw [wf 2 (by decide)]
            have uc_5 : (I_35 mo 5).toInt = (I mo 5).toInt := by rw [wf 5 (by decide)]
            have uc_14 : (I_35 mo 14).toInt = (I mo 14).toInt := by rw [wf 14 (by decide)]
            have uc_16 : (I_35 mo 16).toInt = (I mo 16).toInt := by rw [wf 16 (by decide)]
            have uc_24 : (I_35 mo 24).toInt = (I mo 24).toInt := by rw [wf 24 (by decide)]
            refine lv_iload F.1 F.2.1 dX7_joins_46 (lv_at hl 0 rfl) ?_
            refine lv_aload_n F.1 F.2.1 dX7_joins_48 rfl (lv_at hl 6 rfl) ?_
            refine lv_iload_n F.1 F.2.1 dX7_joins_49 rfl (lv_at hl 7 rfl) ?_
            refine lv_iload F.1 F.2.1 dX7_joins_50 (lv_at hl 4 rfl) ?_
            have b_38 := mJ hv hm
            unfold mNum1 at b_38
            refine g_calli (g_runV (As := [.int (iI sd), .int (iI v_16)]) (rest := [.int (iI jj)]) (ci := 7) F hl.1 hH hS hz (c_X7_sizeOf l g gh T I_35 R J AI_36 AJ AR mo sd v_16 zsd zv_16 hv hm hT (by omega) (by omega)) (cwV 2 F.2.2.2.2.1 (good_up gT_X7_sizeOf) rfl rfl rfl hdX7_sizeOf ⟨Nat.le_of_ble_eq_true rfl, Nat.le_of_ble_eq_true rfl⟩) hm (by decide) rfl rfl rfl (Nat.le_of_ble_eq_true rfl) dX7_joins_52 ⟨Nat.zero_le _, Nat.zero_le _⟩) hS (fun v_45 I_39 R_40 J_41 AI_42 AJ_43 AR_44 H locs zv_45 hp_46 hH hS => ?_)
            dsimp only at hp_46
            obtain ⟨rfl, rfl, rfl, rfl, rfl, rfl, q_47, q_48⟩ := hp_46
            refine z_icmp_ge (tgt := 285) F dX7_joins_55 (by decide) zjj zv_45 (fun c_49 => ?_) (fun c_49 => ?_)
            · refine z_iinc (lv' := [(7, .int (iI (i + 1))), (8, .int (iI jj)), (6, .int (iI ps)), (5, .int (iI v_19)), (4, .int (iI v_16)), (3, .int (iI v_8)), (0, .ref mo), (1, .int (iI sd)), (2, .int (iI rr))]) F dX7_joins_285 hl (k := 1) rfl (by decide) rfl (fun ls hl => ?_)
              refine z_goto (tgt := 32) F dX7_joins_288 (by decide) ?_
              exact ih32 ps (i + 1) I_35 AI_36 H locs ls zps ⟨by omega, by omega⟩ hv hT wf (by omega) (by omega) hH hS (lv_sub hl [0, 2, 3, 4, 5, 6, 7, 8] rfl)
            · refine lv_iload_n F.1 F.2.1 dX7_joins_58 rfl (lv_at hl 7 rfl) ?_
              refine lv_iload_n F.1 F.2.1 dX7_joins_59 rfl (lv_at hl 5 rfl) ?_
              refine lv_iload F.1 F.2.1 dX7_joins_60 (lv_at hl 1 rfl) ?_
              refine g_calli (g_runS (As := [.int (iI sd), .int (iI v_8), .int (iI i)]) (rest := []) F hl.1 hH hS hz (c_X7_spot l g  I_35 R J AI_36 AJ AR sd v_8 i zsd zv_8 zi (by omega) (by omega) (by omega)) (va_cwS 3 F.2.2.2.2.1 (good_up gT_X7_spot) rfl rfl rfl hdX7_spot.2 ⟨Nat.le_of_ble_eq_true rfl, Nat.le_of_ble_eq_true rfl⟩) rfl rfl (Nat.le_of_ble_eq_true rfl) dX7_joins_62 ⟨Nat.zero_le _, Nat.zero_le _⟩) hS (fun v_56 I_50 R_51 J_52 AI_53 AJ_54 AR_55 H locs zv_56 hp_57 hH hS => ?_)
              dsimp only at hp_57
              obtain ⟨rfl, rfl, rfl, rfl, rfl, rfl, q_58⟩ := hp_57
              refine lv_istore (lv' := [(9, .int (iI v_56)), (8, .int (iI jj)), (7, .int (iI i)), (6, .int (iI ps)), (5, .int (iI v_19)), (4, .int (iI v_16)), (3, .int (iI v_8)), (0, .ref mo), (1, .int (iI sd)), (2, .int (iI rr))]) F.1 F.2.1 dX7_joins_65 hl (by decide) rfl (fun ls hl => ?_)
              refine lv_iload_n F.1 F.2.1 dX7_joins_67 rfl (lv_at hl 8 rfl) ?_
              refine lv_iload F.1 F.2.1 dX7_joins_68 (lv_at hl 5 rfl) ?_
              refine lv_iload F.1 F.2.1 dX7_joins_70 (lv_at hl 1 rfl) ?_
              refine g_calli (g_runS (As := [.int (iI sd), .int (iI v_16), .int (iI jj)]) (rest := []) F hl.1 hH hS hz (c_X7_spot l g  I_35 R J AI_36 AJ AR sd v_16 jj zsd zv_16 zjj (by omega) (by omega) (by omega)) (va_cwS 3 F.2.2.2.2.1 (good_up gT_X7_spot) rfl rfl rfl hdX7_spot.2 ⟨Nat.le_of_ble_eq_true rfl, Nat.le_of_ble_eq_true rfl⟩) rfl rfl (Nat.le_of_ble_eq_true rfl) dX7_joins_72 ⟨Nat.zero_le _, Nat.zero_le _⟩) hS (fun v_65 I_59 R_60 J_61 AI_62 AJ_63 AR_64 H locs zv_65 hp_66 hH hS => ?_)
              dsimp only at hp_66
              obtain ⟨rfl, rfl, rfl, rfl, rfl, rfl, q_67⟩ := hp_66
              refine lv_istore (lv' := [(10, .int (iI v_65)), (9, .int (iI v_56)), (8, .int (iI jj)), (7, .int (iI i)), (6, .int (iI ps)), (5, .int (iI v_19)), (4, .int (iI v_16)), (3, .int (iI v_8)), (0, .ref mo), (1, .int (iI sd)), (2, .int (iI rr))]) F.1 F.2.1 dX7_joins_75 hl (by decide) rfl (fun ls hl => ?_)
              refine z_iconst F dX7_joins_77 ?_
              refine lv_istore (lv' := [(11, .int (iI 1)), (10, .int (iI v_65)), (9, .int (iI v_56)), (8, .int (iI jj)), (7, .int (iI i)), (6, .int (iI ps)), (5, .int (iI v_19)), (4, .int (iI v_16)), (3, .int (iI v_8)), (0, .ref mo), (1, .int (iI sd)), (2, .int (iI rr))]) F.1 F.2.1 dX7_joins_78 hl (by decide) rfl (fun ls hl => ?_)
              refine z_iconst F dX7_joins_80 ?_
              refine lv_istore (lv' := [(12, .int (iI 0)), (11, .int (iI 1)), (10, .int (iI v_65)), (9, .int (iI v_56)), (8, .int (iI jj)), (7, .int (iI i)), (6, .int (iI ps)), (5, .int (iI v_19)), (4, .int (iI v_16)), (3, .int (iI v_8)), (0, .ref mo), (1, .int (iI sd)), (2, .int (iI rr))]) F.1 F.2.1 dX7_joins_81 hl (by decide) rfl (fun ls hl => ?_)
              have cut_83_67 : ∀ (NN : Nat) (is k : Int) (H : Heap) (locs : List Loc) (ls : Array Slot), zr is → zr k → (0 ≤ k ∧ k ≤ 4) → (4 - k) < ((NN : Nat) : Int) → gH g I_35 R J AI_36 AJ AR H → va_S (gA g) s.heap H locs → lv_has ls 14 [(12, .int (iI k)), (11, .int (iI is)), (10, .int (iI v_65)), (9, .int (iI v_56)), (8, .int (iI jj)), (7, .int (iI i)), (6, .int (iI ps)), (5, .int (iI v_19)), (4, .int (iI v_16)), (3, .int (iI v_8)), (0, .ref mo), (1, .int (iI sd)), (2, .int (iI rr))] → W p l e rmX7_joins s m ([.ref mo, .int (iI sd), .int (iI rr)] : List Value).toArray below meth c H locs 0 0 (MQ below (gQi g (fun (z : Int) (w : gS) => R = w.2.1 ∧ J = w.2.2.1 ∧ AJ = w.2.2.2.2.1 ∧ AR = w.2.2.2.2.2 ∧ (mInv g gh R (w.1) (w.2.2.2.1)) ∧ ((w.2.2.2.1) (gh 50 0) = T) ∧ (wF mo I (w.1)))) ([.ref mo, .int (iI sd), .int (iI rr)] : List Value).toArray s 0 0 (gA g)) (F0 m 83 ls []) := by
                intro NN83
                induction NN83 with
                | zero =>
                  intro is k H locs ls zis zk hk1 hm83 hH hS hl
                  exact absurd hm83 (by omega)
                | succ NN83 ih83 =>
                  intro is k H locs ls zis zk hk1 hm83 hH hS hl
                  refine lv_iload F.1 F.2.1 dX7_joins_83 (lv_at hl 0 rfl) ?_
                  refine lv_aload_n F.1 F.2.1 dX7_joins_85 rfl (lv_at hl 10 rfl) ?_
                  refine lv_iload_n F.1 F.2.1 dX7_joins_86 rfl (lv_at hl 12 rfl) ?_
                  refine g_calli (g_runV (As := [.int (iI rr)]) (rest := [.int (iI k)]) (ci := 7) F hl.1 hH hS hz (c_X7_partsOf l g gh T I_35 R J AI_36 AJ AR mo rr zrr hv hm hT (by omega)) (cwV 1 F.2.2.2.2.1 (good_up gT_X7_partsOf) rfl rfl rfl hdX7_partsOf ⟨Nat.le_of_ble_eq_true rfl, Nat.le_of_ble_eq_true rfl⟩) hm (by decide) rfl rfl rfl (Nat.le_of_ble_eq_true rfl) dX7_joins_87 ⟨Nat.zero_le _, Nat.zero_le _⟩) hS (fun v_75 I_69 R_70 J_71 AI_72 AJ_73 AR_74 H locs zv_75 hp_76 hH hS => ?_)
                  dsimp only at hp_76
                  obtain ⟨rfl, rfl, rfl, rfl, rfl, rfl, q_77⟩ := hp_76
                  refine z_icmp_ge (tgt := 146) F dX7_joins_90 (by decide) zk zv_75 (fun c_78 => ?_) (fun c_78 => ?_)
                  · refine lv_iload F.1 F.2.1 dX7_joins_146 (lv_at hl 1 rfl) ?_
                    refine z_if_ne (tgt := 154) F dX7_joins_148 (by decide) zis (fun c_79 => ?_) (fun c_79 => ?_)
                    · refine z_iinc (lv' := [(6, .int (iI (ps + 1))), (12, .int (iI k)), (11, .int (iI is)), (10, .int (iI v_65)), (9, .int (iI v_56)), (8, .int (iI jj)), (7, .int (iI i)), (5, .int (iI v_19)), (4, .int (iI v_16)), (3, .int (iI v_8)), (0, .ref mo), (1, .int (iI sd)), (2, .int (iI rr))]) F dX7_joins_154 hl (k := 6) rfl (by decide) rfl (fun ls hl => ?_)
                      refine lv_iload F.1 F.2.1 dX7_joins_157 (lv_at hl 0 rfl) ?_
                      refine z_sipush F dX7_joins_159 (by decide) ?_
                      refine z_icmp_le (tgt := 168) F dX7_joins_162 (by decide) ⟨by omega, by omega⟩ ⟨by decide, by decide⟩ (fun c_80 => ?_) (fun c_80 => ?_)
                      · refine lv_aload_n F.1 F.2.1 dX7_joins_168 rfl (lv_at hl 10 rfl) ?_
                        refine lv_iload F.1 F.2.1 dX7_joins_169 (lv_at hl 4 rfl) ?_
                        refine g_callv (g_runV (As := [.int (iI v_56)]) (rest := []) (ci := 7) F hl.1 hH hS hz (c_X7_takes l g gh T I_35 R J AI_36 AJ AR mo v_56 zv_56 hv hm hT (by omega)) (cwV 1 F.2.2.2.2.1 (good_up gT_X7_takes) rfl rfl rfl hdX7_takes ⟨Nat.le_of_ble_eq_true rfl, Nat.le_of_ble_eq_true rfl⟩) hm (by decide) rfl rfl rfl (Nat.le_of_ble_eq_true rfl) dX7_joins_171 ⟨Nat.zero_le _, Nat.zero_le _⟩) hS (fun I_81 R_82 J_83 AI_84 AJ_85 AR_86 H locs hp_87 hH hS => ?_)
                        dsimp only at hp_87
                        obtain ⟨rfl, rfl, rfl, rfl, rfl, hv, hT⟩ := hp_87
                        refine lv_aload_n F.1 F.2.1 dX7_joins_174 rfl (lv_at hl 10 rfl) ?_
                        refine lv_iload_n F.1 F.2.1 dX7_joins_175 rfl (lv_at hl 9 rfl) ?_
                        refine g_calli (g_runV (As := [.int (iI v_8)]) (rest := []) (ci := 7) F hl.1 hH hS hz (c_X7_columnsOf l g gh T I_35 R J AI_84 AJ AR mo v_8 zv_8 hv hm hT (by omega)) (cwV 1 F.2.2.2.2.1 (good_up gT_X7_columnsOf) rfl rfl rfl hdX7_columnsOf ⟨Nat.le_of_ble_eq_true rfl, Nat.le_of_ble_eq_true rfl⟩) hm (by decide) rfl rfl rfl (Nat.le_of_ble_eq_true rfl) dX7_joins_176 ⟨Nat.zero_le _, Nat.zero_le _⟩) hS (fun v_94 I_88 R_89 J_90 AI_91 AJ_92 AR_93 H locs zv_94 hp_95 hH hS => ?_)
                        dsimp only at hp_95
                        obtain ⟨rfl, rfl, rfl, rfl, rfl, rfl, qc⟩ := hp_95
                        refine lv_istore (lv' := [(12, .int (iI v_94)), (6, .int (iI (ps + 1))), (11, .int (iI is)), (10, .int (iI v_65)), (9, .int (iI v_56)), (8, .int (iI jj)), (7, .int (iI i)), (5, .int (iI v_19)), (4, .int (iI v_16)), (3, .int (iI v_8)), (0, .ref mo), (1, .int (iI sd)), (2, .int (iI rr))]) F.1 F.2.1 dX7_joins_179 hl (by decide) rfl (fun ls hl => ?_)
                        refine z_iconst F dX7_joins_181 ?_
                        refine lv_istore (lv' := [(13, .int (iI 0)), (12, .int (iI v_94)), (6, .int (iI (ps + 1))), (11, .int (iI is)), (10, .int (iI v_65)), (9, .int (iI v_56)), (8, .int (iI jj)), (7, .int (iI i)), (5, .int (iI v_19)), (4, .int (iI v_16)), (3, .int (iI v_8)), (0, .ref mo), (1, .int (iI sd)), (2, .int (iI rr))]) F.1 F.2.1 dX7_joins_182 hl (by decide) rfl (fun ls hl => ?_)
                        have cut_184_96 : ∀ (NN : Nat) (n d : Int) (AI_96 : gI) (H : Heap) (locs : List Loc) (ls : Array Slot), zr n → zr d → (mInv g gh R I_35 AI_96) → (AI_96 (gh 50 0) = T) → (0 ≤ d ∧ d ≤ 4 ∧ n = tI T (40 * v_8 + 1) + mCnt v_19 d.toNat) → (4 - d) < ((NN : Nat) : Int) → gH g I_35 R J AI_96 AJ AR H → va_S (gA g) s.heap H locs → lv_has ls 14 [(13, .int (iI d)), (12, .int (iI n)), (6, .int (iI (ps + 1))), (11, .int (iI is)), (10, .int (iI v_65)), (9, .int (iI v_56)), (8, .int (iI jj)), (7, .int (iI i)), (5, .int (iI v_19)), (4, .int (iI v_16)), (3, .int (iI v_8)), (0, .ref mo), (1, .int (iI sd)), (2, .int (iI rr))] → W p l e rmX7_joins s m ([.ref mo, .int (iI sd), .int (iI rr)] : List Value).toArray below meth c H locs 0 0 (MQ below (gQi g (fun (z : Int) (w : gS) => R = w.2.1 ∧ J = w.2.2.1 ∧ AJ = w.2.2.2.2.1 ∧ AR = w.2.2.2.2.2 ∧ (mInv g gh R (w.1) (w.2.2.2.1)) ∧ ((w.2.2.2.1) (gh 50 0) = T) ∧ (wF mo I (w.1)))) ([.ref mo, .int (iI sd), .int (iI rr)] : List Value).toArray s 0 0 (gA g)) (F0 m 184 ls []) := by
                          intro NN184
                          induction NN184 with
                          | zero =>
                            intro n d AI_96 H locs ls zn zd hv hT hd hm184 hH hS hl
                            exact absurd hm184 (by omega)
                          | succ NN184 ih184 =>
                            intro n d AI_96 H locs ls zn zd hv hT hd hm184 hH hS hl
                            have s4 := mCnt_0 (x := v_19) (a := d.toNat)
                            refine lv_iload F.1 F.2.1 dX7_joins_184 (lv_at hl 0 rfl) ?_
                            refine lv_aload_n F.1 F.2.1 dX7_joins_186 rfl (lv_at hl 11 rfl) ?_
                            refine lv_iload F.1 F.2.1 dX7_joins_187 (lv_at hl 9 rfl) ?_
                            refine g_calli (g_runV (As := [.int (iI v_16)]) (rest := [.int (iI d)]) (ci := 7) F hl.1 hH hS hz (c_X7_columnsOf l g gh T I_35 R J AI_96 AJ AR mo v_16 zv_16 hv hm hT (by omega)) (cwV 1 F.2.2.2.2.1 (good_up gT_X7_columnsOf) rfl rfl rfl hdX7_columnsOf ⟨Nat.le_of_ble_eq_true rfl, Nat.le_of_ble_eq_true rfl⟩) hm (by decide) rfl rfl rfl (Nat.le_of_ble_eq_true rfl) dX7_joins_189 ⟨Nat.zero_le _, Nat.zero_le _⟩) hS (fun v_104 I_98 R_99 J_100 AI_101 AJ_102 AR_103 H locs zv_104 hp_105 hH hS => ?_)
                            dsimp only at hp_105
                            obtain ⟨rfl, rfl, rfl, rfl, rfl, rfl, qd⟩ := hp_105
                            refine z_icmp_ge (tgt := 235) F dX7_joins_192 (by decide) zd zv_104 (fun c_106 => ?_) (fun c_106 => ?_)
                            · refine lv_aload_n F.1 F.2.1 dX7_joins_235 rfl (lv_at hl 11 rfl) ?_
                              refine lv_aload_n F.1 F.2.1 dX7_joins_236 rfl (lv_at hl 11 rfl) ?_
                              obtain ⟨r_107a, r_107b⟩ : R mo 6 = some (gh 56 0) ∧ gAr g (gh 56 0) 9 126720 := mR hv hm (q := (6, 126720)) (by decide)
                              refine g_getR (ci := 7) (k := 6) F hH rfl (by decide) iX7 hm (by decide) rfl (b := gh 56 0) r_107a k24 dX7_joins_237 ?_
                              refine lv_iload F.1 F.2.1 dX7_joins_240 (lv_at hl 5 rfl) ?_
                              refine z_iconst F dX7_joins_242 ?_
                              refine z_iadd F dX7_joins_243 ?_
                              have hx244 : 0 ≤ (v_56 + 4) ∧ (v_56 + 4) < ((126720 : Nat) : Int) ∧ (v_56 + 4) ≤ 2147483647 := ⟨by omega, by omega, by omega⟩
                              refine g_iald F hH r_107b hx244.1 hx244.2.1 hx244.2.2 dX7_joins_244 ?_
                              refine z_name (fun v_108 ev_108 => ?_)
                              have zv_108 : zr v_108 := by rw [ev_108]; exact zr_t _
                              refine lv_aload_n F.1 F.2.1 dX7_joins_245 rfl (lv_at hl 11 rfl) ?_
                              refine g_getR (ci := 7) (k := 6) F hH rfl (by decide) iX7 hm (by decide) rfl (b := gh 56 0) r_107a k24 dX7_joins_246 ?_
                              refine lv_iload F.1 F.2.1 dX7_joins_249 (lv_at hl 4 rfl) ?_
                              refine z_iconst F dX7_joins_251 ?_
                              refine z_iadd F dX7_joins_252 ?_
                              have hx253 : 0 ≤ (v_65 + 4) ∧ (v_65 + 4) < ((126720 : Nat) : Int) ∧ (v_65 + 4) ≤ 2147483647 := ⟨by omega, by omega, by omega⟩
                              refine g_iald F hH r_107b hx253.1 hx253.2.1 hx253.2.2 dX7_joins_253 ?_
                              refine z_name (fun v_109 ev_109 => ?_)
                              have zv_109 : zr v_109 := by rw [ev_109]; exact zr_t _
                              refine z_imul F dX7_joins_254 ?_
                              refine z_norm (fun v_110 zv_110 ev_110 => ?_)
                              refine z_iconst F dX7_joins_255 ?_
                              refine g_calli (g_runV (As := [.int (iI v_110), .int (iI 0)]) (rest := []) (ci := 7) F hl.1 hH hS hz (c_X7_gathers l g gh T I_35 R J AI_96 AJ AR mo v_110 0 zv_110 ⟨by decide, by decide⟩ hv hm hT (by omega)) (cwV 2 F.2.2.2.2.1 (good_up gT_X7_gathers) rfl rfl rfl hdX7_gathers ⟨Nat.le_of_ble_eq_true rfl, Nat.le_of_ble_eq_true rfl⟩) hm (by decide) rfl rfl rfl (Nat.le_of_ble_eq_true rfl) dX7_joins_256 ⟨Nat.zero_le _, Nat.zero_le _⟩) hS (fun v_117 I_111 R_112 J_113 AI_114 AJ_115 AR_116 H locs zv_117 hp_118 hH hS => ?_)
                              dsimp only at hp_118
                              obtain ⟨rfl, rfl, rfl, rfl, hv, hT, wfq, q_119⟩ := hp_118
                              have wf := wF_t wf wfq
                              have u_120_2 : (I_111 mo 2).toInt = (I mo 2).toInt := by rw [wf 2 (by decide)]
                              have u_120_5 : (I_111 mo 5).toInt = (I mo 5).toInt := by rw [wf 5 (by decide)]
                              have u_120_14 : (I_111 mo 14).toInt = (I mo 14).toInt := by rw [wf 14 (by decide)]
                              have u_120_16 : (I_111 mo 16).toInt = (I mo 16).toInt := by rw [wf 16 (by decide)]
                              have u_120_24 : (I_111 mo 24).toInt = (I mo 24).toInt := by rw [wf 24 (by decide)]
                              refine lv_istore (lv' := [(13, .int (iI v_117)), (12, .int (iI n)), (6, .int (iI (ps + 1))), (11, .int (iI is)), (10, .int (iI v_65)), (9, .int (iI v_56)), (8, .int (iI jj)), (7, .int (iI i)), (5, .int (iI v_19)), (4, .int (iI v_16)), (3, .int (iI v_8)), (0, .ref mo), (1, .int (iI sd)), (2, .int (iI rr))]) F.1 F.2.1 dX7_joins_259 hl (by decide) rfl (fun ls hl => ?_)
                              refine lv_iload F.1 F.2.1 dX7_joins_261 (lv_at hl 0 rfl) ?_
                              refine z_if_eq (tgt := 279) F dX7_joins_263 (by decide) zv_117 (fun c_121 => ?_) (fun c_121 => ?_)
                              · refine z_iinc (lv' := [(8, .int (iI (jj + 1))), (13, .int (iI v_117)), (12, .int (iI n)), (6, .int (iI (ps + 1))), (11, .int (iI is)), (10, .int (iI v_65)), (9, .int (iI v_56)), (7, .int (iI i)), (5, .int (iI v_19)), (4, .int (iI v_16)), (3, .int (iI v_8)), (0, .ref mo), (1, .int (iI sd)), (2, .int (iI rr))]) F dX7_joins_279 hl (k := 6) rfl (by decide) rfl (fun ls hl => ?_)
                                refine z_goto (tgt := 46) F dX7_joins_282 (by decide) ?_
                                exact ih46 (ps + 1) (jj + 1) I_111 AI_114 H locs ls ⟨by omega, by omega⟩ ⟨by omega, by omega⟩ hv hT wf (by omega) (by omega) hH hS (lv_sub hl [0, 7, 3, 8, 9, 10, 11, 12, 13] rfl)
                              · refine lv_aload_n F.1 F.2.1 dX7_joins_266 rfl (lv_at hl 11 rfl) ?_
                                refine g_getI (ci := 7) (k := 26) F hH rfl (by decide) iX7 hm (by decide) rfl k269 dX7_joins_267 ?_
                                have b_122 := mJ hv hm
                                unfold mNum1 at b_122
                                refine z_sipush F dX7_joins_270 (by decide) ?_
                                refine z_icmp_le (tgt := 279) F dX7_joins_273 (by decide) (zr_t _) ⟨by decide, by decide⟩ (fun c_123 => ?_) (fun c_123 => ?_)
                                · refine z_iinc (lv' := [(8, .int (iI (jj + 1))), (13, .int (iI v_117)), (12, .int (iI n)), (6, .int (iI (ps + 1))), (11, .int (iI is)), (10, .int (iI v_65)), (9, .int (iI v_56)), (7, .int (iI i)), (5, .int (iI v_19)), (4, .int (iI v_16)), (3, .int (iI v_8)), (0, .ref mo), (1, .int (iI sd)), (2, .int (iI rr))]) F dX7_joins_279 hl (k := 6) rfl (by decide) rfl (fun ls hl => ?_)
                                  refine z_goto (tgt := 46) F dX7_joins_282 (by decide) ?_
                                  exact ih46 (ps + 1) (jj + 1) I_111 AI_114 H locs ls ⟨by omega, by omega⟩ ⟨by omega, by omega⟩ hv hT wf (by omega) (by omega) hH hS (lv_sub hl [0, 7, 3, 8, 9, 10, 11, 12, 13] rfl)
                                · refine z_bipush F dX7_joins_276 (by decide) ?_
                                  exact g_iret F hr hlk hH hS hz ⟨by decide, by decide⟩ ⟨rfl, rfl, rfl, rfl, hv, hT, wf⟩ dX7_joins_278
                            · refine lv_iload F.1 F.2.1 dX7_joins_195 (lv_at hl 8 rfl) ?_
                              refine lv_iload F.1 F.2.1 dX7_joins_197 (lv_at hl 0 rfl) ?_
                              refine lv_ishr F.1 F.2.1 dX7_joins_199 ?_
                              refine z_top (fun v_124 zv_124 ev_124 => ?_)
                              refine z_iconst F dX7_joins_200 ?_
                              refine lv_iand F.1 F.2.1 dX7_joins_201 ?_
                              refine z_top (fun v_125 zv_125 ev_125 => ?_)
                              have hb : v_125 = mBit v_19 d := by rw [ev_125, ev_124]; rfl
                              refine z_iconst F dX7_joins_202 ?_
                              refine z_icmp_ne (tgt := 209) F dX7_joins_203 (by decide) zv_125 ⟨by decide, by decide⟩ (fun c_126 => ?_) (fun c_126 => ?_)
                              · have s1 := mCnt_s (x := v_19) (k := d) (by omega) (by omega)
                                have s2 := mCnt_le (x := v_19) (a := (d + 1).toNat) (b := (tI T (40 * v_16 + 1)).toNat) (by omega)
                                have s3 := mCnt_0 (x := v_19) (a := d.toNat)
                                refine lv_aload_n F.1 F.2.1 dX7_joins_209 rfl (lv_at hl 11 rfl) ?_
                                obtain ⟨r_127a, r_127b⟩ : R mo 27 = some (gh 77 0) ∧ gAr g (gh 77 0) 9 4 := mR hv hm (q := (27, 4)) (by decide)
                                refine g_getR (ci := 7) (k := 27) F hH rfl (by decide) iX7 hm (by decide) rfl (b := gh 77 0) r_127a k45 dX7_joins_210 ?_
                                refine lv_iload F.1 F.2.1 dX7_joins_213 (lv_at hl 1 rfl) ?_
                                refine lv_aload_n F.1 F.2.1 dX7_joins_215 rfl (lv_at hl 11 rfl) ?_
                                obtain ⟨r_128a, r_128b⟩ : R mo 6 = some (gh 56 0) ∧ gAr g (gh 56 0) 9 126720 := mR hv hm (q := (6, 126720)) (by decide)
                                refine g_getR (ci := 7) (k := 6) F hH rfl (by decide) iX7 hm (by decide) rfl (b := gh 56 0) r_128a k24 dX7_joins_216 ?_
                                refine lv_iload F.1 F.2.1 dX7_joins_219 (lv_at hl 4 rfl) ?_
                                refine lv_iload F.1 F.2.1 dX7_joins_221 (lv_at hl 0 rfl) ?_
                                refine z_iadd F dX7_joins_223 ?_
                                have hx224 : 0 ≤ (v_65 + d) ∧ (v_65 + d) < ((126720 : Nat) : Int) ∧ (v_65 + d) ≤ 2147483647 := ⟨by omega, by omega, by omega⟩
                                refine g_iald F hH r_128b hx224.1 hx224.2.1 hx224.2.2 dX7_joins_224 ?_
                                refine z_name (fun v_129 ev_129 => ?_)
                                have zv_129 : zr v_129 := by rw [ev_129]; exact zr_t _
                                have hx225 : 0 ≤ n ∧ n < ((4 : Nat) : Int) ∧ n ≤ 2147483647 := ⟨by omega, by omega, by omega⟩
                                refine g_iast F hH hS r_127b hx225.1 hx225.2.1 hx225.2.2 dX7_joins_225 (fun H locs hH hS => ?_)
                                obtain ⟨AI_130, eAI_130⟩ : ∃ qQ, qQ = gup2 AI_96 (gh 77 0) (n).toNat (iI (v_129)) := ⟨_, rfl⟩
                                rw [← eAI_130] at hH
                                have kAI_130 : ∀ b, b ≠ (gh 77 0) → AI_130 b = AI_96 b := fun b hb => by rw [eAI_130]; exact funext fun j => gup2_a _ _ hb
                                have t_131 : AI_130 (gh 50 0) = AI_96 (gh 50 0) := mK hv hm (p := (0, 640)) (q := (27, 4)) (by decide) (by decide) (by decide) kAI_130
                                have hv : mInv g gh R I_35 AI_130 := mInv_a hv hm (q := (27, 4)) (by decide) (by decide) kAI_130
                                have hT : AI_130 (gh 50 0) = T := t_131.trans hT
                                refine z_iinc (lv' := [(12, .int (iI (n + 1))), (13, .int (iI d)), (6, .int (iI (ps + 1))), (11, .int (iI is)), (10, .int (iI v_65)), (9, .int (iI v_56)), (8, .int (iI jj)), (7, .int (iI i)), (5, .int (iI v_19)), (4, .int (iI v_16)), (3, .int (iI v_8)), (0, .ref mo), (1, .int (iI sd)), (2, .int (iI rr))]) F dX7_joins_226 hl (k := 1) rfl (by decide) rfl (fun ls hl => ?_)
                                refine z_iinc (lv' := [(13, .int (iI (d + 1))), (12, .int (iI (n + 1))), (6, .int (iI (ps + 1))), (11, .int (iI is)), (10, .int (iI v_65)), (9, .int (iI v_56)), (8, .int (iI jj)), (7, .int (iI i)), (5, .int (iI v_19)), (4, .int (iI v_16)), (3, .int (iI v_8)), (0, .ref mo), (1, .int (iI sd)), (2, .int (iI rr))]) F dX7_joins_229 hl (k := 1) rfl (by decide) rfl (fun ls hl => ?_)
                                refine z_goto (tgt := 184) F dX7_joins_232 (by decide) ?_
                                exact ih184 (n + 1) (d + 1) AI_130 H locs ls ⟨by omega, by omega⟩ ⟨by omega, by omega⟩ hv hT (by first | (rw [mCnt_z (by omega) (by omega)]; omega) | (rw [mCnt_s (by omega) (by omega)]; omega) | (refine ⟨by omega, by omega, ?_⟩; show _ = _ + (0 : Int); omega)) (by omega) hH hS (lv_sub hl [0, 1, 2, 3, 4, 5, 6, 7, 8, 9, 10, 11, 12, 13] rfl)
                              · refine z_goto (tgt := 229) F dX7_joins_206 (by decide) ?_
                                refine z_iinc (lv' := [(13, .int (iI (d + 1))), (12, .int (iI n)), (6, .int (iI (ps + 1))), (11, .int (iI is)), (10, .int (iI v_65)), (9, .int (iI v_56)), (8, .int (iI jj)), (7, .int (iI i)), (5, .int (iI v_19)), (4, .int (iI v_16)), (3, .int (iI v_8)), (0, .ref mo), (1, .int (iI sd)), (2, .int (iI rr))]) F dX7_joins_229 hl (k := 0) rfl (by decide) rfl (fun ls hl => ?_)
                                refine z_goto (tgt := 184) F dX7_joins_232 (by decide) ?_
                                exact ih184 n (d + 1) AI_96 H locs ls zn ⟨by omega, by omega⟩ hv hT (by first | (rw [mCnt_z (by omega) (by omega)]; omega) | (rw [mCnt_s (by omega) (by omega)]; omega) | (refine ⟨by omega, by omega, ?_⟩; show _ = _ + (0 : Int); omega)) (by omega) hH hS (lv_sub hl [0, 1, 2, 3, 4, 5, 6, 7, 8, 9, 10, 11, 12, 13] rfl)
                        exact cut_184_96 (((4 - 0) + 1 : Int).toNat) v_94 0 AI_84 H locs ls zv_94 ⟨by decide, by decide⟩ hv hT (by first | (rw [mCnt_z (by omega) (by omega)]; omega) | (rw [mCnt_s (by omega) (by omega)]; omega) | (refine ⟨by omega, by omega, ?_⟩; show _ = _ + (0 : Int); omega)) (by omega) hH hS (lv_sub hl [0, 1, 2, 3, 4, 5, 6, 7, 8, 9, 10, 11, 12, 13] rfl)
                      · refine z_bipush F dX7_joins_165 (by decide) ?_
                        exact g_iret F hr hlk hH hS hz ⟨by decide, by decide⟩ ⟨rfl, rfl, rfl, rfl, hv, hT, wf⟩ dX7_joins_167
                    · refine z_goto (tgt := 279) F dX7_joins_151 (by decide) ?_
                      refine z_iinc (lv' := [(8, .int (iI (jj + 1))), (12, .int (iI k)), (11, .int (iI is)), (10, .int (iI v_65)), (9, .int (iI v_56)), (7, .int (iI i)), (6, .int (iI ps)), (5, .int (iI v_19)), (4, .int (iI v_16)), (3, .int (iI v_8)), (0, .ref mo), (1, .int (iI sd)), (2, .int (iI rr))]) F dX7_joins_279 hl (k := 4) rfl (by decide) rfl (fun ls hl => ?_)
                      refine z_goto (tgt := 46) F dX7_joins_282 (by decide) ?_
                      exact ih46 ps (jj + 1) I_35 AI_36 H locs ls zps ⟨by omega, by omega⟩ hv hT wf (by omega) (by omega) hH hS (lv_sub hl [0, 5, 6, 7, 8, 9, 10, 11, 12] rfl)
                  · refine lv_iload F.1 F.2.1 dX7_joins_93 (lv_at hl 1 rfl) ?_
                    refine z_if_eq (tgt := 137) F dX7_joins_95 (by decide) zis (fun c_132 => ?_) (fun c_132 => ?_)
                    · refine z_iconst F dX7_joins_137 ?_
                      refine lv_istore (lv' := [(11, .int (iI 0)), (12, .int (iI k)), (10, .int (iI v_65)), (9, .int (iI v_56)), (8, .int (iI jj)), (7, .int (iI i)), (6, .int (iI ps)), (5, .int (iI v_19)), (4, .int (iI v_16)), (3, .int (iI v_8)), (0, .ref mo), (1, .int (iI sd)), (2, .int (iI rr))]) F.1 F.2.1 dX7_joins_138 hl (by decide) rfl (fun ls hl => ?_)
                      refine z_iinc (lv' := [(12, .int (iI (k + 1))), (11, .int (iI 0)), (10, .int (iI v_65)), (9, .int (iI v_56)), (8, .int (iI jj)), (7, .int (iI i)), (6, .int (iI ps)), (5, .int (iI v_19)), (4, .int (iI v_16)), (3, .int (iI v_8)), (0, .ref mo), (1, .int (iI sd)), (2, .int (iI rr))]) F dX7_joins_140 hl (k := 1) rfl (by decide) rfl (fun ls hl => ?_)
                      refine z_goto (tgt := 83) F dX7_joins_143 (by decide) ?_
                      exact ih83 0 (k + 1) H locs ls ⟨by decide, by decide⟩ ⟨by omega, by omega⟩ (by omega) (by omega) hH hS (lv_sub hl [0, 1, 2, 3, 4, 5, 6, 7, 8, 9, 10, 11, 12] rfl)
                    · have q1 := x3c k (by omega) (by omega)
                      refine lv_aload_n F.1 F.2.1 dX7_joins_98 rfl (lv_at hl 10 rfl) ?_
                      obtain ⟨r_133a, r_133b⟩ : R mo 6 = some (gh 56 0) ∧ gAr g (gh 56 0) 9 126720 := mR hv hm (q := (6, 126720)) (by decide)
                      refine g_getR (ci := 7) (k := 6) F hH rfl (by decide) iX7 hm (by decide) rfl (b := gh 56 0) r_133a k24 dX7_joins_99 ?_
                      refine lv_iload F.1 F.2.1 dX7_joins_102 (lv_at hl 3 rfl) ?_
                      refine lv_aload_n F.1 F.2.1 dX7_joins_104 rfl (lv_at hl 10 rfl) ?_
                      refine lv_iload_n F.1 F.2.1 dX7_joins_105 rfl (lv_at hl 12 rfl) ?_
                      refine lv_iload F.1 F.2.1 dX7_joins_106 (lv_at hl 0 rfl) ?_
                      refine z_iconst F dX7_joins_108 ?_
                      refine g_calli (g_runV (As := [.int (iI rr), .int (iI k), .int (iI 0)]) (rest := [.int (iI v_56), .ref (gh 56 0)]) (ci := 7) F hl.1 hH hS hz (c_X7_part l g gh T I_35 R J AI_36 AJ AR mo rr k 0 zrr zk ⟨by decide, by decide⟩ hv hm hT (by omega) (by omega) (by omega)) (cwV 3 F.2.2.2.2.1 (good_up gT_X7_part) rfl rfl rfl hdX7_part ⟨Nat.le_of_ble_eq_true rfl, Nat.le_of_ble_eq_true rfl⟩) hm (by decide) rfl rfl rfl (Nat.le_of_ble_eq_true rfl) dX7_joins_109 ⟨Nat.zero_le _, Nat.zero_le _⟩) hS (fun v_140 I_134 R_135 J_136 AI_137 AJ_138 AR_139 H locs zv_140 hp_141 hH hS => ?_)
                      dsimp only at hp_141
                      obtain ⟨rfl, rfl, rfl, rfl, rfl, rfl, q_142⟩ := hp_141
                      refine z_iadd F dX7_joins_112 ?_
                      have hx113 : 0 ≤ (v_56 + v_140) ∧ (v_56 + v_140) < ((126720 : Nat) : Int) ∧ (v_56 + v_140) ≤ 2147483647 := ⟨by omega, by omega, by omega⟩
                      refine g_iald F hH r_133b hx113.1 hx113.2.1 hx113.2.2 dX7_joins_113 ?_
                      refine z_name (fun v_143 ev_143 => ?_)
                      have zv_143 : zr v_143 := by rw [ev_143]; exact zr_t _
                      refine lv_aload_n F.1 F.2.1 dX7_joins_114 rfl (lv_at hl 10 rfl) ?_
                      refine g_getR (ci := 7) (k := 6) F hH rfl (by decide) iX7 hm (by decide) rfl (b := gh 56 0) r_133a k24 dX7_joins_115 ?_
                      refine lv_iload F.1 F.2.1 dX7_joins_118 (lv_at hl 2 rfl) ?_
                      refine lv_aload_n F.1 F.2.1 dX7_joins_120 rfl (lv_at hl 10 rfl) ?_
                      refine lv_iload_n F.1 F.2.1 dX7_joins_121 rfl (lv_at hl 12 rfl) ?_
                      refine lv_iload F.1 F.2.1 dX7_joins_122 (lv_at hl 0 rfl) ?_
                      refine z_iconst F dX7_joins_124 ?_
                      refine g_calli (g_runV (As := [.int (iI rr), .int (iI k), .int (iI 1)]) (rest := [.int (iI v_65), .ref (gh 56 0), .int (iI v_143)]) (ci := 7) F hl.1 hH hS hz (c_X7_part l g gh T I_35 R J AI_36 AJ AR mo rr k 1 zrr zk ⟨by decide, by decide⟩ hv hm hT (by omega) (by omega) (by omega)) (cwV 3 F.2.2.2.2.1 (good_up gT_X7_part) rfl rfl rfl hdX7_part ⟨Nat.le_of_ble_eq_true rfl, Nat.le_of_ble_eq_true rfl⟩) hm (by decide) rfl rfl rfl (Nat.le_of_ble_eq_true rfl) dX7_joins_125 ⟨Nat.zero_le _, Nat.zero_le _⟩) hS (fun v_150 I_144 R_145 J_146 AI_147 AJ_148 AR_149 H locs zv_150 hp_151 hH hS => ?_)
                      dsimp only at hp_151
                      obtain ⟨rfl, rfl, rfl, rfl, rfl, rfl, q_152⟩ := hp_151
                      refine z_iadd F dX7_joins_128 ?_
                      have hx129 : 0 ≤ (v_65 + v_150) ∧ (v_65 + v_150) < ((126720 : Nat) : Int) ∧ (v_65 + v_150) ≤ 2147483647 := ⟨by omega, by omega, by omega⟩
                      refine g_iald F hH r_133b hx129.1 hx129.2.1 hx129.2.2 dX7_joins_129 ?_
                      refine z_name (fun v_153 ev_153 => ?_)
                      have zv_153 : zr v_153 := by rw [ev_153]; exact zr_t _
                      refine z_icmp_ne (tgt := 137) F dX7_joins_130 (by decide) zv_143 zv_153 (fun c_154 => ?_) (fun c_154 => ?_)
                      · refine z_iconst F dX7_joins_137 ?_
                        refine lv_istore (lv' := [(11, .int (iI 0)), (12, .int (iI k)), (10, .int (iI v_65)), (9, .int (iI v_56)), (8, .int (iI jj)), (7, .int (iI i)), (6, .int (iI ps)), (5, .int (iI v_19)), (4, .int (iI v_16)), (3, .int (iI v_8)), (0, .ref mo), (1, .int (iI sd)), (2, .int (iI rr))]) F.1 F.2.1 dX7_joins_138 hl (by decide) rfl (fun ls hl => ?_)
                        refine z_iinc (lv' := [(12, .int (iI (k + 1))), (11, .int (iI 0)), (10, .int (iI v_65)), (9, .int (iI v_56)), (8, .int (iI jj)), (7, .int (iI i)), (6, .int (iI ps)), (5, .int (iI v_19)), (4, .int (iI v_16)), (3, .int (iI v_8)), (0, .ref mo), (1, .int (iI sd)), (2, .int (iI rr))]) F dX7_joins_140 hl (k := 1) rfl (by decide) rfl (fun ls hl => ?_)
                        refine z_goto (tgt := 83) F dX7_joins_143 (by decide) ?_
                        exact ih83 0 (k + 1) H locs ls ⟨by decide, by decide⟩ ⟨by omega, by omega⟩ (by omega) (by omega) hH hS (lv_sub hl [0, 1, 2, 3, 4, 5, 6, 7, 8, 9, 10, 11, 12] rfl)
                      · refine z_iconst F dX7_joins_133 ?_
                        refine z_goto (tgt := 138) F dX7_joins_134 (by decide) ?_
                        refine lv_istore (lv' := [(11, .int (iI 1)), (12, .int (iI k)), (10, .int (iI v_65)), (9, .int (iI v_56)), (8, .int (iI jj)), (7, .int (iI i)), (6, .int (iI ps)), (5, .int (iI v_19)), (4, .int (iI v_16)), (3, .int (iI v_8)), (0, .ref mo), (1, .int (iI sd)), (2, .int (iI rr))]) F.1 F.2.1 dX7_joins_138 hl (by decide) rfl (fun ls hl => ?_)
                        refine z_iinc (lv' := [(12, .int (iI (k + 1))), (11, .int (iI 1)), (10, .int (iI v_65)), (9, .int (iI v_56)), (8, .int (iI jj)), (7, .int (iI i)), (6, .int (iI ps)), (5, .int (iI v_19)), (4, .int (iI v_16)), (3, .int (iI v_8)), (0, .ref mo), (1, .int (iI sd)), (2, .int (iI rr))]) F dX7_joins_140 hl (k := 1) rfl (by decide) rfl (fun ls hl => ?_)
                        refine z_goto (tgt := 83) F dX7_joins_143 (by decide) ?_
                        exact ih83 1 (k + 1) H locs ls ⟨by decide, by decide⟩ ⟨by omega, by omega⟩ (by omega) (by omega) hH hS (lv_sub hl [0, 1, 2, 3, 4, 5, 6, 7, 8, 9, 10, 11, 12] rfl)
              exact cut_83_67 (((4 - 0) + 1 : Int).toNat) 1 0 H locs ls ⟨by decide, by decide⟩ ⟨by decide, by decide⟩ (by omega) (by omega) hH hS (lv_sub hl [0, 1, 2, 3, 4, 5, 6, 7, 8, 9, 10, 11, 12] rfl)
        exact cut_46_36 (((120 - 0) + 1 : Int).toNat) ps 0 I_20 AI_21 H locs ls zps ⟨by decide, by decide⟩ hv hT wf (by omega) (by omega) hH hS (lv_sub hl [0, 1, 2, 3, 4, 5, 6, 7, 8] rfl)
  exact cut_32_21 (((120 - 0) + 1 : Int).toNat) 0 0 I AI H locs ls ⟨by decide, by decide⟩ ⟨by decide, by decide⟩ hv hT wf (by omega) (by omega) hH hS (lv_sub hl [0, 1, 2, 3, 4, 5, 6, 7] rfl)
