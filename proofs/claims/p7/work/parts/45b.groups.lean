def rmX7_groups : Room := { frames := 3, cells := 0, slots := 0, locals := 71 }
theorem hdX7_groups : yX7_groups.cls = RX7 ∧ yX7_groups.cls ≠ "java/lang/invoke/MethodHandle" ∧ yX7_groups.cls ≠ "java/lang/invoke/VarHandle" ∧ (parseMethodDescriptor yX7_groups.desc).map (fun d => d.parameters.length) = some 2 := by decide +kernel
set_option maxHeartbeats 4000000 in
set_option maxRecDepth 100000 in
/-- groups -/
theorem c_X7_groups (l : Launch) (g : gG) (gh : gGh) (T : Nat → Int32) (I : gI) (R : gR) (J : gJ) (AI : gI) (AJ : gJ) (AR : gR) (mo : Nat) (sd : Int) (rr : Int) (zsd : zr sd) (zrr : zr rr) (hv : mInv g gh R I AI) (hm : gO g mo 7) (hT : AI (gh 50 0) = T) (hs : 0 ≤ sd ∧ sd ≤ 10) (hr0 : 0 ≤ rr ∧ rr < (I mo 2).toInt) (hk : tI T (40 * rr) = 7) (hw : (I mo 26).toInt = 0) : gMet l g yX7_groups tsX7_groups rmX7_groups [.ref mo, .int (iI sd), .int (iI rr)] (I, R, J, AI, AJ, AR) (gQv g (fun w : gS => R = w.2.1 ∧ J = w.2.2.1 ∧ AJ = w.2.2.2.2.1 ∧ AR = w.2.2.2.2.2 ∧ (mInv g gh R (w.1) (w.2.2.2.1)) ∧ ((w.2.2.2.1) (gh 50 0) = T) ∧ (wF mo I (w.1)))) := by
  refine gStart (cc := cX7_groups) (maxL := 15) (ret := none) (by decide) rfl (Nat.le_of_ble_eq_true rfl) ?_
  intro p e s m below meth c ls F hr hlk hH hz hS hl
  have hl : lv_has ls 15 [(0, .ref mo), (1, .int (iI sd)), (2, .int (iI rr))] := hl
  have hS : va_S (gA g) s.heap s.heap [] := hS
  obtain ⟨H, hHe⟩ : ∃ H : Heap, H = s.heap := ⟨_, rfl⟩
  obtain ⟨locs, hlo⟩ : ∃ k : List Loc, k = [] := ⟨_, rfl⟩
  have hH : gH g I R J AI AJ AR H := by rw [hHe]; exact hH
  have hS : va_S (gA g) s.heap H locs := by rw [hHe, hlo]; exact hS
  suffices hw : W p l e rmX7_groups s m ([.ref mo, .int (iI sd), .int (iI rr)] : List Value).toArray below meth c H locs 0 0 (MQ below (gQv g (fun w : gS => R = w.2.1 ∧ J = w.2.2.1 ∧ AJ = w.2.2.2.2.1 ∧ AR = w.2.2.2.2.2 ∧ (mInv g gh R (w.1) (w.2.2.2.1)) ∧ ((w.2.2.2.1) (gh 50 0) = T) ∧ (wF mo I (w.1)))) ([.ref mo, .int (iI sd), .int (iI rr)] : List Value).toArray s 0 0 (gA g)) (F0 m 0 ls []) by
    rw [hHe, hlo] at hw; exact hw
  clear hHe hlo
  have wf : wF mo I I := wF_r
  have hb0 := mJ hv hm
  unfold mNum1 at hb0
  have x := mRow hv hm hT (z := rr) (by omega) (by omega)
  have xa := x.1
  have xc := x.2.2.1
  have xb := x.2.1 (by omega)
  have x7 := x.2.2.2.2.2.2.2.2.1 (by omega)
  obtain ⟨x7a, x7b, x7c⟩ := x7
  have iX7 : ∀ w ∈ u_ws RX7 TX7 32, w ∈ tsX7_groups := fun w h => List.mem_cons_of_mem _ (inTB7 w h)
  have k24 : Cond.fieldLink RX7 24 (TX7 6).1 (TX7 6).2.1 (TX7 6).2.2.1 ∈ tsX7_groups := List.mem_cons_of_mem _ fl_24
  have k45 : Cond.fieldLink RX7 45 (TX7 27).1 (TX7 27).2.1 (TX7 27).2.2.1 ∈ tsX7_groups := List.mem_cons_of_mem _ fl_45
  refine lv_aload_n F.1 F.2.1 dX7_groups_0 rfl (lv_at hl 0 rfl) ?_
  refine lv_iload_n F.1 F.2.1 dX7_groups_1 rfl (lv_at hl 2 rfl) ?_
  have b_1 := mJ hv hm
  unfold mNum1 at b_1
  refine g_calli (g_runV (As := [.int (iI rr)]) (rest := []) (ci := 7) F hl.1 hH hS hz (c_X7_firstOf l g gh T I R J AI AJ AR mo rr zrr hv hm hT (by omega)) (cwV 1 F.2.2.2.2.1 (good_up gT_X7_firstOf) rfl rfl rfl hdX7_firstOf ⟨Nat.le_of_ble_eq_true rfl, Nat.le_of_ble_eq_true rfl⟩) hm (by decide) rfl rfl rfl (Nat.le_of_ble_eq_true rfl) dX7_groups_2 ⟨Nat.zero_le _, Nat.zero_le _⟩) hS (fun v_8 I_2 R_3 J_4 AI_5 AJ_6 AR_7 H locs zv_8 hp_9 hH hS => ?_)
  dsimp only at hp_9
  obtain ⟨rfl, rfl, rfl, rfl, rfl, rfl, q_10⟩ := hp_9
  refine lv_istore_n (lv' := [(3, .int (iI v_8)), (0, .ref mo), (1, .int (iI sd)), (2, .int (iI rr))]) F.1 F.2.1 dX7_groups_5 rfl hl (by decide) rfl (fun ls hl => ?_)
  refine lv_aload_n F.1 F.2.1 dX7_groups_6 rfl (lv_at hl 1 rfl) ?_
  refine lv_iload_n F.1 F.2.1 dX7_groups_7 rfl (lv_at hl 3 rfl) ?_
  refine g_calli (g_runV (As := [.int (iI rr)]) (rest := []) (ci := 7) F hl.1 hH hS hz (c_X7_partsOf l g gh T I R J AI AJ AR mo rr zrr hv hm hT (by omega)) (cwV 1 F.2.2.2.2.1 (good_up gT_X7_partsOf) rfl rfl rfl hdX7_partsOf ⟨Nat.le_of_ble_eq_true rfl, Nat.le_of_ble_eq_true rfl⟩) hm (by decide) rfl rfl rfl (Nat.le_of_ble_eq_true rfl) dX7_groups_8 ⟨Nat.zero_le _, Nat.zero_le _⟩) hS (fun v_17 I_11 R_12 J_13 AI_14 AJ_15 AR_16 H locs zv_17 hp_18 hH hS => ?_)
  dsimp only at hp_18
  obtain ⟨rfl, rfl, rfl, rfl, rfl, rfl, qn⟩ := hp_18
  refine lv_istore (lv' := [(4, .int (iI v_17)), (3, .int (iI v_8)), (0, .ref mo), (1, .int (iI sd)), (2, .int (iI rr))]) F.1 F.2.1 dX7_groups_11 hl (by decide) rfl (fun ls hl => ?_)
  refine lv_aload_n F.1 F.2.1 dX7_groups_13 rfl (lv_at hl 2 rfl) ?_
  refine lv_iload_n F.1 F.2.1 dX7_groups_14 rfl (lv_at hl 4 rfl) ?_
  refine lv_iload F.1 F.2.1 dX7_groups_15 (lv_at hl 0 rfl) ?_
  refine z_iconst F dX7_groups_17 ?_
  refine g_calli (g_runV (As := [.int (iI rr), .int (iI v_17), .int (iI 1)]) (rest := []) (ci := 7) F hl.1 hH hS hz (c_X7_part l g gh T I R J AI AJ AR mo rr v_17 1 zrr zv_17 ⟨by decide, by decide⟩ hv hm hT (by omega) (by omega) (by omega)) (cwV 3 F.2.2.2.2.1 (good_up gT_X7_part) rfl rfl rfl hdX7_part ⟨Nat.le_of_ble_eq_true rfl, Nat.le_of_ble_eq_true rfl⟩) hm (by decide) rfl rfl rfl (Nat.le_of_ble_eq_true rfl) dX7_groups_18 ⟨Nat.zero_le _, Nat.zero_le _⟩) hS (fun v_25 I_19 R_20 J_21 AI_22 AJ_23 AR_24 H locs zv_25 hp_26 hH hS => ?_)
  dsimp only at hp_26
  obtain ⟨rfl, rfl, rfl, rfl, rfl, rfl, q_27⟩ := hp_26
  refine lv_istore (lv' := [(5, .int (iI v_25)), (4, .int (iI v_17)), (3, .int (iI v_8)), (0, .ref mo), (1, .int (iI sd)), (2, .int (iI rr))]) F.1 F.2.1 dX7_groups_21 hl (by decide) rfl (fun ls hl => ?_)
  refine lv_aload_n F.1 F.2.1 dX7_groups_23 rfl (lv_at hl 3 rfl) ?_
  refine lv_iload_n F.1 F.2.1 dX7_groups_24 rfl (lv_at hl 5 rfl) ?_
  refine lv_iload F.1 F.2.1 dX7_groups_25 (lv_at hl 1 rfl) ?_
  refine z_iconst F dX7_groups_27 ?_
  refine g_calli (g_runV (As := [.int (iI rr), .int (iI v_17), .int (iI 0)]) (rest := []) (ci := 7) F hl.1 hH hS hz (c_X7_part l g gh T I R J AI AJ AR mo rr v_17 0 zrr zv_17 ⟨by decide, by decide⟩ hv hm hT (by omega) (by omega) (by omega)) (cwV 3 F.2.2.2.2.1 (good_up gT_X7_part) rfl rfl rfl hdX7_part ⟨Nat.le_of_ble_eq_true rfl, Nat.le_of_ble_eq_true rfl⟩) hm (by decide) rfl rfl rfl (Nat.le_of_ble_eq_true rfl) dX7_groups_28 ⟨Nat.zero_le _, Nat.zero_le _⟩) hS (fun v_34 I_28 R_29 J_30 AI_31 AJ_32 AR_33 H locs zv_34 hp_35 hH hS => ?_)
  dsimp only at hp_35
  obtain ⟨rfl, rfl, rfl, rfl, rfl, rfl, qc⟩ := hp_35
  have hc : 0 ≤ v_34 ∧ v_34 ≤ 3 := by rw [qc]; rw [qn]; exact x7c
  refine lv_istore (lv' := [(6, .int (iI v_34)), (5, .int (iI v_25)), (4, .int (iI v_17)), (3, .int (iI v_8)), (0, .ref mo), (1, .int (iI sd)), (2, .int (iI rr))]) F.1 F.2.1 dX7_groups_31 hl (by decide) rfl (fun ls hl => ?_)
  refine z_iconst F dX7_groups_33 ?_
  refine lv_istore (lv' := [(7, .int (iI 0)), (6, .int (iI v_34)), (5, .int (iI v_25)), (4, .int (iI v_17)), (3, .int (iI v_8)), (0, .ref mo), (1, .int (iI sd)), (2, .int (iI rr))]) F.1 F.2.1 dX7_groups_34 hl (by decide) rfl (fun ls hl => ?_)
  have cut_36_37 : ∀ (NN : Nat) (i : Int) (I_36 : gI) (AI_37 : gI) (H : Heap) (locs : List Loc) (ls : Array Slot), zr i → (mInv g gh R I_36 AI_37) → (AI_37 (gh 50 0) = T) → (wF mo I I_36) → (0 ≤ i ∧ i ≤ 120 ∧ (I_36 mo 26).toInt ≤ i) → (120 - i) < ((NN : Nat) : Int) → gH g I_36 R J AI_37 AJ AR H → va_S (gA g) s.heap H locs → lv_has ls 15 [(7, .int (iI i)), (6, .int (iI v_34)), (5, .int (iI v_25)), (4, .int (iI v_17)), (3, .int (iI v_8)), (0, .ref mo), (1, .int (iI sd)), (2, .int (iI rr))] → W p l e rmX7_groups s m ([.ref mo, .int (iI sd), .int (iI rr)] : List Value).toArray below meth c H locs 0 0 (MQ below (gQv g (fun w : gS => R = w.2.1 ∧ J = w.2.2.1 ∧ AJ = w.2.2.2.2.1 ∧ AR = w.2.2.2.2.2 ∧ (mInv g gh R (w.1) (w.2.2.2.1)) ∧ ((w.2.2.2.1) (gh 50 0) = T) ∧ (wF mo I (w.1)))) ([.ref mo, .int (iI sd), .int (iI rr)] : List Value).toArray s 0 0 (gA g)) (F0 m 36 ls []) := by
    intro NN36
    induction NN36 with
    | zero =>
      intro i I_36 AI_37 H locs ls zi hv hT wf hi hm36 hH hS hl
      exact absurd hm36 (by omega)
    | succ NN36 ih36 =>
      intro i I_36 AI_37 H locs ls zi hv hT wf hi hm36 hH hS hl
      have uc_2 : (I_36 mo 2).toInt = (I mo 2).toInt := by rw [wf 2 (by decide)]
      have uc_5 : (I_36 mo 5).toInt = (I mo 5).toInt := by rw [wf 5 (by decide)]
      have uc_14 : (I_36 mo 14).toInt = (I mo 14).toInt := by rw [wf 14 (by decide)]
      have uc_16 : (I_36 mo 16).toInt = (I mo 16).toInt := by rw [wf 16 (by decide)]
      have uc_24 : (I_36 mo 24).toInt = (I mo 24).toInt := by rw [wf 24 (by decide)]
      refine lv_iload F.1 F.2.1 dX7_groups_36 (lv_at hl 0 rfl) ?_
      refine lv_aload_n F.1 F.2.1 dX7_groups_38 rfl (lv_at hl 5 rfl) ?_
      refine lv_iload_n F.1 F.2.1 dX7_groups_39 rfl (lv_at hl 6 rfl) ?_
      refine lv_iload_n F.1 F.2.1 dX7_groups_40 rfl (lv_at hl 4 rfl) ?_
      have b_39 := mJ hv hm
      unfold mNum1 at b_39
      refine g_calli (g_runV (As := [.int (iI sd), .int (iI v_8)]) (rest := [.int (iI i)]) (ci := 7) F hl.1 hH hS hz (c_X7_sizeOf l g gh T I_36 R J AI_37 AJ AR mo sd v_8 zsd zv_8 hv hm hT (by omega) (by omega)) (cwV 2 F.2.2.2.2.1 (good_up gT_X7_sizeOf) rfl rfl rfl hdX7_sizeOf ⟨Nat.le_of_ble_eq_true rfl, Nat.le_of_ble_eq_true rfl⟩) hm (by decide) rfl rfl rfl (Nat.le_of_ble_eq_true rfl) dX7_groups_41 ⟨Nat.zero_le _, Nat.zero_le _⟩) hS (fun v_46 I_40 R_41 J_42 AI_43 AJ_44 AR_45 H locs zv_46 hp_47 hH hS => ?_)
      dsimp only at hp_47
      obtain ⟨rfl, rfl, rfl, rfl, rfl, rfl, q_48, q_49⟩ := hp_47
      refine z_icmp_ge (tgt := 304) F dX7_groups_44 (by decide) zi zv_46 (fun c_50 => ?_) (fun c_50 => ?_)
      · exact g_vret F hr hlk hH hS hz ⟨rfl, rfl, rfl, rfl, hv, hT, wf⟩ dX7_groups_304
      · refine lv_iload_n F.1 F.2.1 dX7_groups_47 rfl (lv_at hl 6 rfl) ?_
        refine lv_iload_n F.1 F.2.1 dX7_groups_48 rfl (lv_at hl 4 rfl) ?_
        refine lv_iload F.1 F.2.1 dX7_groups_49 (lv_at hl 0 rfl) ?_
        refine g_calli (g_runS (As := [.int (iI sd), .int (iI v_8), .int (iI i)]) (rest := []) F hl.1 hH hS hz (c_X7_spot l g  I_36 R J AI_37 AJ AR sd v_8 i zsd zv_8 zi (by omega) (by omega) (by omega)) (va_cwS 3 F.2.2.2.2.1 (good_up gT_X7_spot) rfl rfl rfl hdX7_spot.2 ⟨Nat.le_of_ble_eq_true rfl, Nat.le_of_ble_eq_true rfl⟩) rfl rfl (Nat.le_of_ble_eq_true rfl) dX7_groups_51 ⟨Nat.zero_le _, Nat.zero_le _⟩) hS (fun v_57 I_51 R_52 J_53 AI_54 AJ_55 AR_56 H locs zv_57 hp_58 hH hS => ?_)
        dsimp only at hp_58
        obtain ⟨rfl, rfl, rfl, rfl, rfl, rfl, q_59⟩ := hp_58
        refine lv_istore (lv' := [(8, .int (iI v_57)), (7, .int (iI i)), (6, .int (iI v_34)), (5, .int (iI v_25)), (4, .int (iI v_17)), (3, .int (iI v_8)), (0, .ref mo), (1, .int (iI sd)), (2, .int (iI rr))]) F.1 F.2.1 dX7_groups_54 hl (by decide) rfl (fun ls hl => ?_)
        refine lv_aload_n F.1 F.2.1 dX7_groups_56 rfl (lv_at hl 6 rfl) ?_
        refine lv_iload_n F.1 F.2.1 dX7_groups_57 rfl (lv_at hl 7 rfl) ?_
        refine lv_iload_n F.1 F.2.1 dX7_groups_58 rfl (lv_at hl 8 rfl) ?_
        refine lv_iload F.1 F.2.1 dX7_groups_59 (lv_at hl 1 rfl) ?_
        refine g_calli (g_runV (As := [.int (iI sd), .int (iI rr), .int (iI i)]) (rest := []) (ci := 7) F hl.1 hH hS hz (c_X7_isFirstOfGroup l g gh T I_36 R J AI_37 AJ AR mo sd rr i zsd zrr zi hv hm hT (by omega) (by omega) (by omega) (by omega)) (cwV 3 F.2.2.2.2.1 (good_up gT_X7_isFirstOfGroup) rfl rfl rfl hdX7_isFirstOfGroup ⟨Nat.le_of_ble_eq_true rfl, Nat.le_of_ble_eq_true rfl⟩) hm (by decide) rfl rfl rfl (Nat.le_of_ble_eq_true rfl) dX7_groups_61 ⟨Nat.zero_le _, Nat.zero_le _⟩) hS (fun v_66 I_60 R_61 J_62 AI_63 AJ_64 AR_65 H locs zv_66 hp_67 hH hS => ?_)
        dsimp only at hp_67
        obtain ⟨rfl, rfl, rfl, rfl, rfl, rfl, q_68⟩ := hp_67
        refine z_if_ne (tgt := 70) F dX7_groups_64 (by decide) zv_66 (fun c_69 => ?_) (fun c_69 => ?_)
        · refine z_iconst F dX7_groups_70 ?_
          refine lv_istore (lv' := [(9, .int (iI 0)), (8, .int (iI v_57)), (7, .int (iI i)), (6, .int (iI v_34)), (5, .int (iI v_25)), (4, .int (iI v_17)), (3, .int (iI v_8)), (0, .ref mo), (1, .int (iI sd)), (2, .int (iI rr))]) F.1 F.2.1 dX7_groups_71 hl (by decide) rfl (fun ls hl => ?_)
          refine z_iconst F dX7_groups_73 ?_
          refine lv_istore (lv' := [(10, .int (iI 0)), (9, .int (iI 0)), (8, .int (iI v_57)), (7, .int (iI i)), (6, .int (iI v_34)), (5, .int (iI v_25)), (4, .int (iI v_17)), (3, .int (iI v_8)), (0, .ref mo), (1, .int (iI sd)), (2, .int (iI rr))]) F.1 F.2.1 dX7_groups_74 hl (by decide) rfl (fun ls hl => ?_)
          refine lv_iload F.1 F.2.1 dX7_groups_76 (lv_at hl 3 rfl) ?_
          refine lv_istore (lv' := [(11, .int (iI i)), (10, .int (iI 0)), (9, .int (iI 0)), (8, .int (iI v_57)), (7, .int (iI i)), (6, .int (iI v_34)), (5, .int (iI v_25)), (4, .int (iI v_17)), (3, .int (iI v_8)), (0, .ref mo), (1, .int (iI sd)), (2, .int (iI rr))]) F.1 F.2.1 dX7_groups_78 hl (by decide) rfl (fun ls hl => ?_)
          have cut_80_69 : ∀ (NN : Nat) (su hs1 jj : Int) (H : Heap) (locs : List Loc) (ls : Array Slot), zr su → zr hs1 → zr jj → (0 ≤ jj ∧ jj ≤ 120) → (120 - jj) < ((NN : Nat) : Int) → gH g I_36 R J AI_37 AJ AR H → va_S (gA g) s.heap H locs → lv_has ls 15 [(11, .int (iI jj)), (10, .int (iI hs1)), (9, .int (iI su)), (8, .int (iI v_57)), (7, .int (iI i)), (6, .int (iI v_34)), (5, .int (iI v_25)), (4, .int (iI v_17)), (3, .int (iI v_8)), (0, .ref mo), (1, .int (iI sd)), (2, .int (iI rr))] → W p l e rmX7_groups s m ([.ref mo, .int (iI sd), .int (iI rr)] : List Value).toArray below meth c H locs 0 0 (MQ below (gQv g (fun w : gS => R = w.2.1 ∧ J = w.2.2.1 ∧ AJ = w.2.2.2.2.1 ∧ AR = w.2.2.2.2.2 ∧ (mInv g gh R (w.1) (w.2.2.2.1)) ∧ ((w.2.2.2.1) (gh 50 0) = T) ∧ (wF mo I (w.1)))) ([.ref mo, .int (iI sd), .int (iI rr)] : List Value).toArray s 0 0 (gA g)) (F0 m 80 ls []) := by
            intro NN80
            induction NN80 with
            | zero =>
              intro su hs1 jj H locs ls zsu zhs1 zjj hj hm80 hH hS hl
              exact absurd hm80 (by omega)
            | succ NN80 ih80 =>
              intro su hs1 jj H locs ls zsu zhs1 zjj hj hm80 hH hS hl
              refine lv_iload F.1 F.2.1 dX7_groups_80 (lv_at hl 0 rfl) ?_
              refine lv_aload_n F.1 F.2.1 dX7_groups_82 rfl (lv_at hl 9 rfl) ?_
              refine lv_iload_n F.1 F.2.1 dX7_groups_83 rfl (lv_at hl 10 rfl) ?_
              refine lv_iload_n F.1 F.2.1 dX7_groups_84 rfl (lv_at hl 8 rfl) ?_
              refine g_calli (g_runV (As := [.int (iI sd), .int (iI v_8)]) (rest := [.int (iI jj)]) (ci := 7) F hl.1 hH hS hz (c_X7_sizeOf l g gh T I_36 R J AI_37 AJ AR mo sd v_8 zsd zv_8 hv hm hT (by omega) (by omega)) (cwV 2 F.2.2.2.2.1 (good_up gT_X7_sizeOf) rfl rfl rfl hdX7_sizeOf ⟨Nat.le_of_ble_eq_true rfl, Nat.le_of_ble_eq_true rfl⟩) hm (by decide) rfl rfl rfl (Nat.le_of_ble_eq_true rfl) dX7_groups_85 ⟨Nat.zero_le _, Nat.zero_le _⟩) hS (fun v_77 I_71 R_72 J_73 AI_74 AJ_75 AR_76 H locs zv_77 hp_78 hH hS => ?_)
              dsimp only at hp_78
              obtain ⟨rfl, rfl, rfl, rfl, rfl, rfl, q_79, q_80⟩ := hp_78
              refine z_icmp_ge (tgt := 221) F dX7_groups_88 (by decide) zjj zv_77 (fun c_81 => ?_) (fun c_81 => ?_)
              · refine z_iconst F dX7_groups_221 ?_
                refine lv_istore (lv' := [(11, .int (iI 0)), (10, .int (iI hs1)), (9, .int (iI su)), (8, .int (iI v_57)), (7, .int (iI i)), (6, .int (iI v_34)), (5, .int (iI v_25)), (4, .int (iI v_17)), (3, .int (iI v_8)), (0, .ref mo), (1, .int (iI sd)), (2, .int (iI rr))]) F.1 F.2.1 dX7_groups_222 hl (by decide) rfl (fun ls hl => ?_)
                have cut_224_82 : ∀ (NN : Nat) (k : Int) (AI_82 : gI) (H : Heap) (locs : List Loc) (ls : Array Slot), zr k → (mInv g gh R I_36 AI_82) → (AI_82 (gh 50 0) = T) → (0 ≤ k ∧ k ≤ 4) → (4 - k) < ((NN : Nat) : Int) → gH g I_36 R J AI_82 AJ AR H → va_S (gA g) s.heap H locs → lv_has ls 15 [(11, .int (iI k)), (10, .int (iI hs1)), (9, .int (iI su)), (8, .int (iI v_57)), (7, .int (iI i)), (6, .int (iI v_34)), (5, .int (iI v_25)), (4, .int (iI v_17)), (3, .int (iI v_8)), (0, .ref mo), (1, .int (iI sd)), (2, .int (iI rr))] → W p l e rmX7_groups s m ([.ref mo, .int (iI sd), .int (iI rr)] : List Value).toArray below meth c H locs 0 0 (MQ below (gQv g (fun w : gS => R = w.2.1 ∧ J = w.2.2.1 ∧ AJ = w.2.2.2.2.1 ∧ AR = w.2.2.2.2.2 ∧ (mInv g gh R (w.1) (w.2.2.2.1)) ∧ ((w.2.2.2.1) (gh 50 0) = T) ∧ (wF mo I (w.1)))) ([.ref mo, .int (iI sd), .int (iI rr)] : List Value).toArray s 0 0 (gA g)) (F0 m 224 ls []) := by
                  intro NN224
                  induction NN224 with
                  | zero =>
                    intro k AI_82 H locs ls zk hv hT hk1 hm224 hH hS hl
                    exact absurd hm224 (by omega)
                  | succ NN224 ih224 =>
                    intro k AI_82 H locs ls zk hv hT hk1 hm224 hH hS hl
                    refine lv_iload F.1 F.2.1 dX7_groups_224 (lv_at hl 0 rfl) ?_
                    refine z_iconst F dX7_groups_226 ?_
                    refine z_icmp_ge (tgt := 282) F dX7_groups_227 (by decide) zk ⟨by decide, by decide⟩ (fun c_84 => ?_) (fun c_84 => ?_)
                    · refine lv_aload_n F.1 F.2.1 dX7_groups_282 rfl (lv_at hl 9 rfl) ?_
                      refine z_iconst F dX7_groups_283 ?_
                      refine z_iconst F dX7_groups_284 ?_
                      refine g_calli (g_runV (As := [.int (iI 1), .int (iI 0)]) (rest := []) (ci := 7) F hl.1 hH hS hz (c_X7_gathers l g gh T I_36 R J AI_82 AJ AR mo 1 0 ⟨by decide, by decide⟩ ⟨by decide, by decide⟩ hv hm hT (by omega)) (cwV 2 F.2.2.2.2.1 (good_up gT_X7_gathers) rfl rfl rfl hdX7_gathers ⟨Nat.le_of_ble_eq_true rfl, Nat.le_of_ble_eq_true rfl⟩) hm (by decide) rfl rfl rfl (Nat.le_of_ble_eq_true rfl) dX7_groups_285 ⟨Nat.zero_le _, Nat.zero_le _⟩) hS (fun v_91 I_85 R_86 J_87 AI_88 AJ_89 AR_90 H locs zv_91 hp_92 hH hS => ?_)
                      dsimp only at hp_92
                      obtain ⟨rfl, rfl, rfl, rfl, hv, hT, wfq, q_93⟩ := hp_92
                      have wf := wF_t wf wfq
                      have u_94_2 : (I_85 mo 2).toInt = (I mo 2).toInt := by rw [wf 2 (by decide)]
                      have u_94_5 : (I_85 mo 5).toInt = (I mo 5).toInt := by rw [wf 5 (by decide)]
                      have u_94_14 : (I_85 mo 14).toInt = (I mo 14).toInt := by rw [wf 14 (by decide)]
                      have u_94_16 : (I_85 mo 16).toInt = (I mo 16).toInt := by rw [wf 16 (by decide)]
                      have u_94_24 : (I_85 mo 24).toInt = (I mo 24).toInt := by rw [wf 24 (by decide)]
                      refine lv_istore (lv' := [(11, .int (iI v_91)), (10, .int (iI hs1)), (9, .int (iI su)), (8, .int (iI v_57)), (7, .int (iI i)), (6, .int (iI v_34)), (5, .int (iI v_25)), (4, .int (iI v_17)), (3, .int (iI v_8)), (0, .ref mo), (1, .int (iI sd)), (2, .int (iI rr))]) F.1 F.2.1 dX7_groups_288 hl (by decide) rfl (fun ls hl => ?_)
                      refine lv_iload F.1 F.2.1 dX7_groups_290 (lv_at hl 0 rfl) ?_
                      refine z_if_ne (tgt := 298) F dX7_groups_292 (by decide) zv_91 (fun c_95 => ?_) (fun c_95 => ?_)
                      · refine z_iinc (lv' := [(7, .int (iI (i + 1))), (11, .int (iI v_91)), (10, .int (iI hs1)), (9, .int (iI su)), (8, .int (iI v_57)), (6, .int (iI v_34)), (5, .int (iI v_25)), (4, .int (iI v_17)), (3, .int (iI v_8)), (0, .ref mo), (1, .int (iI sd)), (2, .int (iI rr))]) F dX7_groups_298 hl (k := 4) rfl (by decide) rfl (fun ls hl => ?_)
                        refine z_goto (tgt := 36) F dX7_groups_301 (by decide) ?_
                        exact ih36 (i + 1) I_85 AI_88 H locs ls ⟨by omega, by omega⟩ hv hT wf (by omega) (by omega) hH hS (lv_sub hl [0, 5, 6, 7, 8, 9, 10, 11] rfl)
                      · refine z_iconst F dX7_groups_295 ?_
                        refine lv_istore (lv' := [(9, .int (iI 0)), (11, .int (iI v_91)), (10, .int (iI hs1)), (8, .int (iI v_57)), (7, .int (iI i)), (6, .int (iI v_34)), (5, .int (iI v_25)), (4, .int (iI v_17)), (3, .int (iI v_8)), (0, .ref mo), (1, .int (iI sd)), (2, .int (iI rr))]) F.1 F.2.1 dX7_groups_296 hl (by decide) rfl (fun ls hl => ?_)
                        refine z_iinc (lv' := [(7, .int (iI (i + 1))), (9, .int (iI 0)), (11, .int (iI v_91)), (10, .int (iI hs1)), (8, .int (iI v_57)), (6, .int (iI v_34)), (5, .int (iI v_25)), (4, .int (iI v_17)), (3, .int (iI v_8)), (0, .ref mo), (1, .int (iI sd)), (2, .int (iI rr))]) F dX7_groups_298 hl (k := 4) rfl (by decide) rfl (fun ls hl => ?_)
                        refine z_goto (tgt := 36) F dX7_groups_301 (by decide) ?_
                        exact ih36 (i + 1) I_85 AI_88 H locs ls ⟨by omega, by omega⟩ hv hT wf (by omega) (by omega) hH hS (lv_sub hl [0, 5, 6, 7, 8, 9, 10, 11] rfl)
                    · refine lv_aload_n F.1 F.2.1 dX7_groups_230 rfl (lv_at hl 9 rfl) ?_
                      obtain ⟨r_96a, r_96b⟩ : R mo 27 = some (gh 77 0) ∧ gAr g (gh 77 0) 9 4 := mR hv hm (q := (27, 4)) (by decide)
                      refine g_getR (ci := 7) (k := 27) F hH rfl (by decide) iX7 hm (by decide) rfl (b := gh 77 0) r_96a k45 dX7_groups_231 ?_
                      refine lv_iload F.1 F.2.1 dX7_groups_234 (lv_at hl 0 rfl) ?_
                      refine lv_iload F.1 F.2.1 dX7_groups_236 (lv_at hl 0 rfl) ?_
                      refine lv_iload F.1 F.2.1 dX7_groups_238 (lv_at hl 7 rfl) ?_
                      refine z_icmp_ge (tgt := 262) F dX7_groups_240 (by decide) zk zv_17 (fun c_97 => ?_) (fun c_97 => ?_)
                      · refine lv_iload F.1 F.2.1 dX7_groups_262 (lv_at hl 0 rfl) ?_
                        refine lv_iload F.1 F.2.1 dX7_groups_264 (lv_at hl 7 rfl) ?_
                        refine z_icmp_ne (tgt := 274) F dX7_groups_266 (by decide) zk zv_17 (fun c_98 => ?_) (fun c_98 => ?_)
                        · refine z_iconst F dX7_groups_274 ?_
                          have hx275 : 0 ≤ k ∧ k < ((4 : Nat) : Int) ∧ k ≤ 2147483647 := ⟨by omega, by omega, by omega⟩
                          refine g_iast F hH hS r_96b hx275.1 hx275.2.1 hx275.2.2 dX7_groups_275 (fun H locs hH hS => ?_)
                          obtain ⟨AI_99, eAI_99⟩ : ∃ qQ, qQ = gup2 AI_82 (gh 77 0) (k).toNat (iI (0)) := ⟨_, rfl⟩
                          rw [← eAI_99] at hH
                          have kAI_99 : ∀ b, b ≠ (gh 77 0) → AI_99 b = AI_82 b := fun b hb => by rw [eAI_99]; exact funext fun j => gup2_a _ _ hb
                          have t_100 : AI_99 (gh 50 0) = AI_82 (gh 50 0) := mK hv hm (p := (0, 640)) (q := (27, 4)) (by decide) (by decide) (by decide) kAI_99
                          have hv : mInv g gh R I_36 AI_99 := mInv_a hv hm (q := (27, 4)) (by decide) (by decide) kAI_99
                          have hT : AI_99 (gh 50 0) = T := t_100.trans hT
                          refine z_iinc (lv' := [(11, .int (iI (k + 1))), (10, .int (iI hs1)), (9, .int (iI su)), (8, .int (iI v_57)), (7, .int (iI i)), (6, .int (iI v_34)), (5, .int (iI v_25)), (4, .int (iI v_17)), (3, .int (iI v_8)), (0, .ref mo), (1, .int (iI sd)), (2, .int (iI rr))]) F dX7_groups_276 hl (k := 0) rfl (by decide) rfl (fun ls hl => ?_)
                          refine z_goto (tgt := 224) F dX7_groups_279 (by decide) ?_
                          exact ih224 (k + 1) AI_99 H locs ls ⟨by omega, by omega⟩ hv hT (by omega) (by omega) hH hS (lv_sub hl [0, 1, 2, 3, 4, 5, 6, 7, 8, 9, 10, 11] rfl)
                        · refine lv_iload F.1 F.2.1 dX7_groups_269 (lv_at hl 2 rfl) ?_
                          refine z_goto (tgt := 275) F dX7_groups_271 (by decide) ?_
                          have hx275 : 0 ≤ k ∧ k < ((4 : Nat) : Int) ∧ k ≤ 2147483647 := ⟨by omega, by omega, by omega⟩
                          refine g_iast F hH hS r_96b hx275.1 hx275.2.1 hx275.2.2 dX7_groups_275 (fun H locs hH hS => ?_)
                          obtain ⟨AI_101, eAI_101⟩ : ∃ qQ, qQ = gup2 AI_82 (gh 77 0) (k).toNat (iI (su)) := ⟨_, rfl⟩
                          rw [← eAI_101] at hH
                          have kAI_101 : ∀ b, b ≠ (gh 77 0) → AI_101 b = AI_82 b := fun b hb => by rw [eAI_101]; exact funext fun j => gup2_a _ _ hb
                          have t_102 : AI_101 (gh 50 0) = AI_82 (gh 50 0) := mK hv hm (p := (0, 640)) (q := (27, 4)) (by decide) (by decide) (by decide) kAI_101
                          have hv : mInv g gh R I_36 AI_101 := mInv_a hv hm (q := (27, 4)) (by decide) (by decide) kAI_101
                          have hT : AI_101 (gh 50 0) = T := t_102.trans hT
                          refine z_iinc (lv' := [(11, .int (iI (k + 1))), (10, .int (iI hs1)), (9, .int (iI su)), (8, .int (iI v_57)), (7, .int (iI i)), (6, .int (iI v_34)), (5, .int (iI v_25)), (4, .int (iI v_17)), (3, .int (iI v_8)), (0, .ref mo), (1, .int (iI sd)), (2, .int (iI rr))]) F dX7_groups_276 hl (k := 0) rfl (by decide) rfl (fun ls hl => ?_)
                          refine z_goto (tgt := 224) F dX7_groups_279 (by decide) ?_
                          exact ih224 (k + 1) AI_101 H locs ls ⟨by omega, by omega⟩ hv hT (by omega) (by omega) hH hS (lv_sub hl [0, 1, 2, 3, 4, 5, 6, 7, 8, 9, 10, 11] rfl)
                      · have q1 := x7b k (by omega) (by omega)
                        refine lv_aload_n F.1 F.2.1 dX7_groups_243 rfl (lv_at hl 9 rfl) ?_
                        obtain ⟨r_103a, r_103b⟩ : R mo 6 = some (gh 56 0) ∧ gAr g (gh 56 0) 9 126720 := mR hv hm (q := (6, 126720)) (by decide)
                        refine g_getR (ci := 7) (k := 6) F hH rfl (by decide) iX7 hm (by decide) rfl (b := gh 56 0) r_103a k24 dX7_groups_244 ?_
                        refine lv_iload F.1 F.2.1 dX7_groups_247 (lv_at hl 3 rfl) ?_
                        refine lv_aload_n F.1 F.2.1 dX7_groups_249 rfl (lv_at hl 9 rfl) ?_
                        refine lv_iload_n F.1 F.2.1 dX7_groups_250 rfl (lv_at hl 11 rfl) ?_
                        refine lv_iload F.1 F.2.1 dX7_groups_251 (lv_at hl 0 rfl) ?_
                        refine z_iconst F dX7_groups_253 ?_
                        refine g_calli (g_runV (As := [.int (iI rr), .int (iI k), .int (iI 0)]) (rest := [.int (iI v_57), .ref (gh 56 0), .int (iI k), .ref (gh 77 0)]) (ci := 7) F hl.1 hH hS hz (c_X7_part l g gh T I_36 R J AI_82 AJ AR mo rr k 0 zrr zk ⟨by decide, by decide⟩ hv hm hT (by omega) (by omega) (by omega)) (cwV 3 F.2.2.2.2.1 (good_up gT_X7_part) rfl rfl rfl hdX7_part ⟨Nat.le_of_ble_eq_true rfl, Nat.le_of_ble_eq_true rfl⟩) hm (by decide) rfl rfl rfl (Nat.le_of_ble_eq_true rfl) dX7_groups_254 ⟨Nat.zero_le _, Nat.zero_le _⟩) hS (fun v_110 I_104 R_105 J_106 AI_107 AJ_108 AR_109 H locs zv_110 hp_111 hH hS => ?_)
                        dsimp only at hp_111
                        obtain ⟨rfl, rfl, rfl, rfl, rfl, rfl, q_112⟩ := hp_111
                        refine z_iadd F dX7_groups_257 ?_
                        have hx258 : 0 ≤ (v_57 + v_110) ∧ (v_57 + v_110) < ((126720 : Nat) : Int) ∧ (v_57 + v_110) ≤ 2147483647 := ⟨by omega, by omega, by omega⟩
                        refine g_iald F hH r_103b hx258.1 hx258.2.1 hx258.2.2 dX7_groups_258 ?_
                        refine z_name (fun v_113 ev_113 => ?_)
                        have zv_113 : zr v_113 := by rw [ev_113]; exact zr_t _
                        refine z_goto (tgt := 275) F dX7_groups_259 (by decide) ?_
                        have hx275 : 0 ≤ k ∧ k < ((4 : Nat) : Int) ∧ k ≤ 2147483647 := ⟨by omega, by omega, by omega⟩
                        refine g_iast F hH hS r_96b hx275.1 hx275.2.1 hx275.2.2 dX7_groups_275 (fun H locs hH hS => ?_)
                        obtain ⟨AI_114, eAI_114⟩ : ∃ qQ, qQ = gup2 AI_82 (gh 77 0) (k).toNat (iI (v_113)) := ⟨_, rfl⟩
                        rw [← eAI_114] at hH
                        have kAI_114 : ∀ b, b ≠ (gh 77 0) → AI_114 b = AI_82 b := fun b hb => by rw [eAI_114]; exact funext fun j => gup2_a _ _ hb
                        have t_115 : AI_114 (gh 50 0) = AI_82 (gh 50 0) := mK hv hm (p := (0, 640)) (q := (27, 4)) (by decide) (by decide) (by decide) kAI_114
                        have hv : mInv g gh R I_36 AI_114 := mInv_a hv hm (q := (27, 4)) (by decide) (by decide) kAI_114
                        have hT : AI_114 (gh 50 0) = T := t_115.trans hT
                        refine z_iinc (lv' := [(11, .int (iI (k + 1))), (10, .int (iI hs1)), (9, .int (iI su)), (8, .int (iI v_57)), (7, .int (iI i)), (6, .int (iI v_34)), (5, .int (iI v_25)), (4, .int (iI v_17)), (3, .int (iI v_8)), (0, .ref mo), (1, .int (iI sd)), (2, .int (iI rr))]) F dX7_groups_276 hl (k := 0) rfl (by decide) rfl (fun ls hl => ?_)
                        refine z_goto (tgt := 224) F dX7_groups_279 (by decide) ?_
                        exact ih224 (k + 1) AI_114 H locs ls ⟨by omega, by omega⟩ hv hT (by omega) (by omega) hH hS (lv_sub hl [0, 1, 2, 3, 4, 5, 6, 7, 8, 9, 10, 11] rfl)
                exact cut_224_82 (((4 - 0) + 1 : Int).toNat) 0 AI_37 H locs ls ⟨by decide, by decide⟩ hv hT (by omega) (by omega) hH hS (lv_sub hl [0, 1, 2, 3, 4, 5, 6, 7, 8, 9, 10, 11] rfl)
              · refine lv_iload_n F.1 F.2.1 dX7_groups_91 rfl (lv_at hl 10 rfl) ?_
                refine lv_iload_n F.1 F.2.1 dX7_groups_92 rfl (lv_at hl 8 rfl) ?_
                refine lv_iload F.1 F.2.1 dX7_groups_93 (lv_at hl 0 rfl) ?_
                refine g_calli (g_runS (As := [.int (iI sd), .int (iI v_8), .int (iI jj)]) (rest := []) F hl.1 hH hS hz (c_X7_spot l g  I_36 R J AI_37 AJ AR sd v_8 jj zsd zv_8 zjj (by omega) (by omega) (by omega)) (va_cwS 3 F.2.2.2.2.1 (good_up gT_X7_spot) rfl rfl rfl hdX7_spot.2 ⟨Nat.le_of_ble_eq_true rfl, Nat.le_of_ble_eq_true rfl⟩) rfl rfl (Nat.le_of_ble_eq_true rfl) dX7_groups_95 ⟨Nat.zero_le _, Nat.zero_le _⟩) hS (fun v_122 I_116 R_117 J_118 AI_119 AJ_120 AR_121 H locs zv_122 hp_123 hH hS => ?_)
                dsimp only at hp_123
                obtain ⟨rfl, rfl, rfl, rfl, rfl, rfl, q_124⟩ := hp_123
                refine lv_istore (lv' := [(12, .int (iI v_122)), (11, .int (iI jj)), (10, .int (iI hs1)), (9, .int (iI su)), (8, .int (iI v_57)), (7, .int (iI i)), (6, .int (iI v_34)), (5, .int (iI v_25)), (4, .int (iI v_17)), (3, .int (iI v_8)), (0, .ref mo), (1, .int (iI sd)), (2, .int (iI rr))]) F.1 F.2.1 dX7_groups_98 hl (by decide) rfl (fun ls hl => ?_)
                refine lv_aload_n F.1 F.2.1 dX7_groups_100 rfl (lv_at hl 10 rfl) ?_
                refine lv_iload_n F.1 F.2.1 dX7_groups_101 rfl (lv_at hl 12 rfl) ?_
                refine lv_iload F.1 F.2.1 dX7_groups_102 (lv_at hl 4 rfl) ?_
                refine lv_iload F.1 F.2.1 dX7_groups_104 (lv_at hl 0 rfl) ?_
                refine g_calli (g_runV (As := [.int (iI rr), .int (iI v_57), .int (iI v_122)]) (rest := []) (ci := 7) F hl.1 hH hS hz (c_X7_areOneGroup l g gh T I_36 R J AI_37 AJ AR mo rr v_57 v_122 zrr zv_57 zv_122 hv hm hT (by omega) (by omega) (by omega)) (cwV 3 F.2.2.2.2.1 (good_up gT_X7_areOneGroup) rfl rfl rfl hdX7_areOneGroup ⟨Nat.le_of_ble_eq_true rfl, Nat.le_of_ble_eq_true rfl⟩) hm (by decide) rfl rfl rfl (Nat.le_of_ble_eq_true rfl) dX7_groups_106 ⟨Nat.zero_le _, Nat.zero_le _⟩) hS (fun v_131 I_125 R_126 J_127 AI_128 AJ_129 AR_130 H locs zv_131 hp_132 hH hS => ?_)
                dsimp only at hp_132
                obtain ⟨rfl, rfl, rfl, rfl, rfl, rfl, q_133⟩ := hp_132
                refine z_if_ne (tgt := 115) F dX7_groups_109 (by decide) zv_131 (fun c_134 => ?_) (fun c_134 => ?_)
                · refine lv_aload_n F.1 F.2.1 dX7_groups_115 rfl (lv_at hl 10 rfl) ?_
                  obtain ⟨r_135a, r_135b⟩ : R mo 6 = some (gh 56 0) ∧ gAr g (gh 56 0) 9 126720 := mR hv hm (q := (6, 126720)) (by decide)
                  refine g_getR (ci := 7) (k := 6) F hH rfl (by decide) iX7 hm (by decide) rfl (b := gh 56 0) r_135a k24 dX7_groups_116 ?_
                  refine lv_iload F.1 F.2.1 dX7_groups_119 (lv_at hl 0 rfl) ?_
                  refine lv_iload F.1 F.2.1 dX7_groups_121 (lv_at hl 6 rfl) ?_
                  refine z_iadd F dX7_groups_123 ?_
                  have hx124 : 0 ≤ (v_122 + v_34) ∧ (v_122 + v_34) < ((126720 : Nat) : Int) ∧ (v_122 + v_34) ≤ 2147483647 := ⟨by omega, by omega, by omega⟩
                  refine g_iald F hH r_135b hx124.1 hx124.2.1 hx124.2.2 dX7_groups_124 ?_
                  refine z_name (fun v_136 ev_136 => ?_)
                  have zv_136 : zr v_136 := by rw [ev_136]; exact zr_t _
                  refine lv_istore (lv' := [(13, .int (iI v_136)), (12, .int (iI v_122)), (11, .int (iI jj)), (10, .int (iI hs1)), (9, .int (iI su)), (8, .int (iI v_57)), (7, .int (iI i)), (6, .int (iI v_34)), (5, .int (iI v_25)), (4, .int (iI v_17)), (3, .int (iI v_8)), (0, .ref mo), (1, .int (iI sd)), (2, .int (iI rr))]) F.1 F.2.1 dX7_groups_125 hl (by decide) rfl (fun ls hl => ?_)
                  refine lv_aload_n F.1 F.2.1 dX7_groups_127 rfl (lv_at hl 11 rfl) ?_
                  refine g_getR (ci := 7) (k := 6) F hH rfl (by decide) iX7 hm (by decide) rfl (b := gh 56 0) r_135a k24 dX7_groups_128 ?_
                  refine lv_iload F.1 F.2.1 dX7_groups_131 (lv_at hl 1 rfl) ?_
                  refine z_iconst F dX7_groups_133 ?_
                  refine z_iadd F dX7_groups_134 ?_
                  have hx135 : 0 ≤ (v_122 + 4) ∧ (v_122 + 4) < ((126720 : Nat) : Int) ∧ (v_122 + 4) ≤ 2147483647 := ⟨by omega, by omega, by omega⟩
                  refine g_iald F hH r_135b hx135.1 hx135.2.1 hx135.2.2 dX7_groups_135 ?_
                  refine z_name (fun v_137 ev_137 => ?_)
                  have zv_137 : zr v_137 := by rw [ev_137]; exact zr_t _
                  refine lv_istore (lv' := [(14, .int (iI v_137)), (13, .int (iI v_136)), (12, .int (iI v_122)), (11, .int (iI jj)), (10, .int (iI hs1)), (9, .int (iI su)), (8, .int (iI v_57)), (7, .int (iI i)), (6, .int (iI v_34)), (5, .int (iI v_25)), (4, .int (iI v_17)), (3, .int (iI v_8)), (0, .ref mo), (1, .int (iI sd)), (2, .int (iI rr))]) F.1 F.2.1 dX7_groups_136 hl (by decide) rfl (fun ls hl => ?_)
                  refine lv_iload F.1 F.2.1 dX7_groups_138 (lv_at hl 9 rfl) ?_
                  refine z_if_ne (tgt := 150) F dX7_groups_140 (by decide) zv_25 (fun c_138 => ?_) (fun c_138 => ?_)
                  · refine lv_iload F.1 F.2.1 dX7_groups_150 (lv_at hl 9 rfl) ?_
                    refine z_iconst F dX7_groups_152 ?_
                    refine z_icmp_ne (tgt := 166) F dX7_groups_153 (by decide) zv_25 ⟨by decide, by decide⟩ (fun c_139 => ?_) (fun c_139 => ?_)
                    · refine lv_iload F.1 F.2.1 dX7_groups_166 (lv_at hl 9 rfl) ?_
                      refine z_iconst F dX7_groups_168 ?_
                      refine z_icmp_lt (tgt := 215) F dX7_groups_169 (by decide) zv_25 ⟨by decide, by decide⟩ (fun c_140 => ?_) (fun c_140 => ?_)
                      · refine z_iinc (lv' := [(11, .int (iI (jj + 1))), (14, .int (iI v_137)), (13, .int (iI v_136)), (12, .int (iI v_122)), (10, .int (iI hs1)), (9, .int (iI su)), (8, .int (iI v_57)), (7, .int (iI i)), (6, .int (iI v_34)), (5, .int (iI v_25)), (4, .int (iI v_17)), (3, .int (iI v_8)), (0, .ref mo), (1, .int (iI sd)), (2, .int (iI rr))]) F dX7_groups_215 hl (k := 3) rfl (by decide) rfl (fun ls hl => ?_)
                        refine z_goto (tgt := 80) F dX7_groups_218 (by decide) ?_
                        exact ih80 su hs1 (jj + 1) H locs ls zsu zhs1 ⟨by omega, by omega⟩ (by omega) (by omega) hH hS (lv_sub hl [0, 4, 5, 6, 7, 8, 9, 10, 11, 12, 13, 14] rfl)
                      · refine lv_iload F.1 F.2.1 dX7_groups_172 (lv_at hl 0 rfl) ?_
                        refine z_if_gt (tgt := 180) F dX7_groups_174 (by decide) zv_137 (fun c_141 => ?_) (fun c_141 => ?_)
                        · refine lv_iload F.1 F.2.1 dX7_groups_180 (lv_at hl 4 rfl) ?_
                          refine z_if_eq (tgt := 208) F dX7_groups_182 (by decide) zhs1 (fun c_142 => ?_) (fun c_142 => ?_)
                          · refine lv_iload F.1 F.2.1 dX7_groups_208 (lv_at hl 1 rfl) ?_
                            refine lv_istore (lv' := [(9, .int (iI v_136)), (14, .int (iI v_137)), (13, .int (iI v_136)), (12, .int (iI v_122)), (11, .int (iI jj)), (10, .int (iI hs1)), (8, .int (iI v_57)), (7, .int (iI i)), (6, .int (iI v_34)), (5, .int (iI v_25)), (4, .int (iI v_17)), (3, .int (iI v_8)), (0, .ref mo), (1, .int (iI sd)), (2, .int (iI rr))]) F.1 F.2.1 dX7_groups_210 hl (by decide) rfl (fun ls hl => ?_)
                            refine z_iconst F dX7_groups_212 ?_
                            refine lv_istore (lv' := [(10, .int (iI 1)), (9, .int (iI v_136)), (14, .int (iI v_137)), (13, .int (iI v_136)), (12, .int (iI v_122)), (11, .int (iI jj)), (8, .int (iI v_57)), (7, .int (iI i)), (6, .int (iI v_34)), (5, .int (iI v_25)), (4, .int (iI v_17)), (3, .int (iI v_8)), (0, .ref mo), (1, .int (iI sd)), (2, .int (iI rr))]) F.1 F.2.1 dX7_groups_213 hl (by decide) rfl (fun ls hl => ?_)
                            refine z_iinc (lv' := [(11, .int (iI (jj + 1))), (10, .int (iI 1)), (9, .int (iI v_136)), (14, .int (iI v_137)), (13, .int (iI v_136)), (12, .int (iI v_122)), (8, .int (iI v_57)), (7, .int (iI i)), (6, .int (iI v_34)), (5, .int (iI v_25)), (4, .int (iI v_17)), (3, .int (iI v_8)), (0, .ref mo), (1, .int (iI sd)), (2, .int (iI rr))]) F dX7_groups_215 hl (k := 5) rfl (by decide) rfl (fun ls hl => ?_)
                            refine z_goto (tgt := 80) F dX7_groups_218 (by decide) ?_
                            exact ih80 v_136 1 (jj + 1) H locs ls zv_136 ⟨by decide, by decide⟩ ⟨by omega, by omega⟩ (by omega) (by omega) hH hS (lv_sub hl [0, 1, 2, 6, 7, 8, 9, 10, 11, 12, 13, 14] rfl)
                          · refine lv_iload F.1 F.2.1 dX7_groups_185 (lv_at hl 9 rfl) ?_
                            refine z_iconst F dX7_groups_187 ?_
                            refine z_icmp_ne (tgt := 201) F dX7_groups_188 (by decide) zv_25 ⟨by decide, by decide⟩ (fun c_143 => ?_) (fun c_143 => ?_)
                            · refine lv_iload F.1 F.2.1 dX7_groups_201 (lv_at hl 1 rfl) ?_
                              refine lv_iload F.1 F.2.1 dX7_groups_203 (lv_at hl 5 rfl) ?_
                              refine z_icmp_le (tgt := 212) F dX7_groups_205 (by decide) zv_136 zsu (fun c_144 => ?_) (fun c_144 => ?_)
                              · refine z_iconst F dX7_groups_212 ?_
                                refine lv_istore (lv' := [(10, .int (iI 1)), (14, .int (iI v_137)), (13, .int (iI v_136)), (12, .int (iI v_122)), (11, .int (iI jj)), (9, .int (iI su)), (8, .int (iI v_57)), (7, .int (iI i)), (6, .int (iI v_34)), (5, .int (iI v_25)), (4, .int (iI v_17)), (3, .int (iI v_8)), (0, .ref mo), (1, .int (iI sd)), (2, .int (iI rr))]) F.1 F.2.1 dX7_groups_213 hl (by decide) rfl (fun ls hl => ?_)
                                refine z_iinc (lv' := [(11, .int (iI (jj + 1))), (10, .int (iI 1)), (14, .int (iI v_137)), (13, .int (iI v_136)), (12, .int (iI v_122)), (9, .int (iI su)), (8, .int (iI v_57)), (7, .int (iI i)), (6, .int (iI v_34)), (5, .int (iI v_25)), (4, .int (iI v_17)), (3, .int (iI v_8)), (0, .ref mo), (1, .int (iI sd)), (2, .int (iI rr))]) F dX7_groups_215 hl (k := 4) rfl (by decide) rfl (fun ls hl => ?_)
                                refine z_goto (tgt := 80) F dX7_groups_218 (by decide) ?_
                                exact ih80 su 1 (jj + 1) H locs ls zsu ⟨by decide, by decide⟩ ⟨by omega, by omega⟩ (by omega) (by omega) hH hS (lv_sub hl [0, 1, 5, 6, 7, 8, 9, 10, 11, 12, 13, 14] rfl)
                              · refine lv_iload F.1 F.2.1 dX7_groups_208 (lv_at hl 1 rfl) ?_
                                refine lv_istore (lv' := [(9, .int (iI v_136)), (14, .int (iI v_137)), (13, .int (iI v_136)), (12, .int (iI v_122)), (11, .int (iI jj)), (10, .int (iI hs1)), (8, .int (iI v_57)), (7, .int (iI i)), (6, .int (iI v_34)), (5, .int (iI v_25)), (4, .int (iI v_17)), (3, .int (iI v_8)), (0, .ref mo), (1, .int (iI sd)), (2, .int (iI rr))]) F.1 F.2.1 dX7_groups_210 hl (by decide) rfl (fun ls hl => ?_)
                                refine z_iconst F dX7_groups_212 ?_
                                refine lv_istore (lv' := [(10, .int (iI 1)), (9, .int (iI v_136)), (14, .int (iI v_137)), (13, .int (iI v_136)), (12, .int (iI v_122)), (11, .int (iI jj)), (8, .int (iI v_57)), (7, .int (iI i)), (6, .int (iI v_34)), (5, .int (iI v_25)), (4, .int (iI v_17)), (3, .int (iI v_8)), (0, .ref mo), (1, .int (iI sd)), (2, .int (iI rr))]) F.1 F.2.1 dX7_groups_213 hl (by decide) rfl (fun ls hl => ?_)
                                refine z_iinc (lv' := [(11, .int (iI (jj + 1))), (10, .int (iI 1)), (9, .int (iI v_136)), (14, .int (iI v_137)), (13, .int (iI v_136)), (12, .int (iI v_122)), (8, .int (iI v_57)), (7, .int (iI i)), (6, .int (iI v_34)), (5, .int (iI v_25)), (4, .int (iI v_17)), (3, .int (iI v_8)), (0, .ref mo), (1, .int (iI sd)), (2, .int (iI rr))]) F dX7_groups_215 hl (k := 5) rfl (by decide) rfl (fun ls hl => ?_)
                                refine z_goto (tgt := 80) F dX7_groups_218 (by decide) ?_
                                exact ih80 v_136 1 (jj + 1) H locs ls zv_136 ⟨by decide, by decide⟩ ⟨by omega, by omega⟩ (by omega) (by omega) hH hS (lv_sub hl [0, 1, 2, 6, 7, 8, 9, 10, 11, 12, 13, 14] rfl)
                            · refine lv_iload F.1 F.2.1 dX7_groups_191 (lv_at hl 1 rfl) ?_
                              refine lv_iload F.1 F.2.1 dX7_groups_193 (lv_at hl 5 rfl) ?_
                              refine z_icmp_ge (tgt := 212) F dX7_groups_195 (by decide) zv_136 zsu (fun c_145 => ?_) (fun c_145 => ?_)
                              · refine z_iconst F dX7_groups_212 ?_
                                refine lv_istore (lv' := [(10, .int (iI 1)), (14, .int (iI v_137)), (13, .int (iI v_136)), (12, .int (iI v_122)), (11, .int (iI jj)), (9, .int (iI su)), (8, .int (iI v_57)), (7, .int (iI i)), (6, .int (iI v_34)), (5, .int (iI v_25)), (4, .int (iI v_17)), (3, .int (iI v_8)), (0, .ref mo), (1, .int (iI sd)), (2, .int (iI rr))]) F.1 F.2.1 dX7_groups_213 hl (by decide) rfl (fun ls hl => ?_)
                                refine z_iinc (lv' := [(11, .int (iI (jj + 1))), (10, .int (iI 1)), (14, .int (iI v_137)), (13, .int (iI v_136)), (12, .int (iI v_122)), (9, .int (iI su)), (8, .int (iI v_57)), (7, .int (iI i)), (6, .int (iI v_34)), (5, .int (iI v_25)), (4, .int (iI v_17)), (3, .int (iI v_8)), (0, .ref mo), (1, .int (iI sd)), (2, .int (iI rr))]) F dX7_groups_215 hl (k := 4) rfl (by decide) rfl (fun ls hl => ?_)
                                refine z_goto (tgt := 80) F dX7_groups_218 (by decide) ?_
                                exact ih80 su 1 (jj + 1) H locs ls zsu ⟨by decide, by decide⟩ ⟨by omega, by omega⟩ (by omega) (by omega) hH hS (lv_sub hl [0, 1, 5, 6, 7, 8, 9, 10, 11, 12, 13, 14] rfl)
                              · refine z_goto (tgt := 208) F dX7_groups_198 (by decide) ?_
                                refine lv_iload F.1 F.2.1 dX7_groups_208 (lv_at hl 1 rfl) ?_
                                refine lv_istore (lv' := [(9, .int (iI v_136)), (14, .int (iI v_137)), (13, .int (iI v_136)), (12, .int (iI v_122)), (11, .int (iI jj)), (10, .int (iI hs1)), (8, .int (iI v_57)), (7, .int (iI i)), (6, .int (iI v_34)), (5, .int (iI v_25)), (4, .int (iI v_17)), (3, .int (iI v_8)), (0, .ref mo), (1, .int (iI sd)), (2, .int (iI rr))]) F.1 F.2.1 dX7_groups_210 hl (by decide) rfl (fun ls hl => ?_)
                                refine z_iconst F dX7_groups_212 ?_
                                refine lv_istore (lv' := [(10, .int (iI 1)), (9, .int (iI v_136)), (14, .int (iI v_137)), (13, .int (iI v_136)), (12, .int (iI v_122)), (11, .int (iI jj)), (8, .int (iI v_57)), (7, .int (iI i)), (6, .int (iI v_34)), (5, .int (iI v_25)), (4, .int (iI v_17)), (3, .int (iI v_8)), (0, .ref mo), (1, .int (iI sd)), (2, .int (iI rr))]) F.1 F.2.1 dX7_groups_213 hl (by decide) rfl (fun ls hl => ?_)
                                refine z_iinc (lv' := [(11, .int (iI (jj + 1))), (10, .int (iI 1)), (9, .int (iI v_136)), (14, .int (iI v_137)), (13, .int (iI v_136)), (12, .int (iI v_122)), (8, .int (iI v_57)), (7, .int (iI i)), (6, .int (iI v_34)), (5, .int (iI v_25)), (4, .int (iI v_17)), (3, .int (iI v_8)), (0, .ref mo), (1, .int (iI sd)), (2, .int (iI rr))]) F dX7_groups_215 hl (k := 5) rfl (by decide) rfl (fun ls hl => ?_)
                                refine z_goto (tgt := 80) F dX7_groups_218 (by decide) ?_
                                exact ih80 v_136 1 (jj + 1) H locs ls zv_136 ⟨by decide, by decide⟩ ⟨by omega, by omega⟩ (by omega) (by omega) hH hS (lv_sub hl [0, 1, 2, 6, 7, 8, 9, 10, 11, 12, 13, 14] rfl)
                        · refine z_goto (tgt := 215) F dX7_groups_177 (by decide) ?_
                          refine z_iinc (lv' := [(11, .int (iI (jj + 1))), (14, .int (iI v_137)), (13, .int (iI v_136)), (12, .int (iI v_122)), (10, .int (iI hs1)), (9, .int (iI su)), (8, .int (iI v_57)), (7, .int (iI i)), (6, .int (iI v_34)), (5, .int (iI v_25)), (4, .int (iI v_17)), (3, .int (iI v_8)), (0, .ref mo), (1, .int (iI sd)), (2, .int (iI rr))]) F dX7_groups_215 hl (k := 3) rfl (by decide) rfl (fun ls hl => ?_)
                          refine z_goto (tgt := 80) F dX7_groups_218 (by decide) ?_
                          exact ih80 su hs1 (jj + 1) H locs ls zsu zhs1 ⟨by omega, by omega⟩ (by omega) (by omega) hH hS (lv_sub hl [0, 4, 5, 6, 7, 8, 9, 10, 11, 12, 13, 14] rfl)
                    · refine lv_iload F.1 F.2.1 dX7_groups_156 (lv_at hl 5 rfl) ?_
                      refine lv_iload F.1 F.2.1 dX7_groups_158 (lv_at hl 0 rfl) ?_
                      refine lv_iload F.1 F.2.1 dX7_groups_160 (lv_at hl 1 rfl) ?_
                      refine z_imul F dX7_groups_162 ?_
                      refine z_norm (fun v_146 zv_146 ev_146 => ?_)
                      refine z_iadd F dX7_groups_163 ?_
                      refine z_norm (fun v_147 zv_147 ev_147 => ?_)
                      refine lv_istore (lv' := [(9, .int (iI v_147)), (14, .int (iI v_137)), (13, .int (iI v_136)), (12, .int (iI v_122)), (11, .int (iI jj)), (10, .int (iI hs1)), (8, .int (iI v_57)), (7, .int (iI i)), (6, .int (iI v_34)), (5, .int (iI v_25)), (4, .int (iI v_17)), (3, .int (iI v_8)), (0, .ref mo), (1, .int (iI sd)), (2, .int (iI rr))]) F.1 F.2.1 dX7_groups_164 hl (by decide) rfl (fun ls hl => ?_)
                      refine lv_iload F.1 F.2.1 dX7_groups_166 (lv_at hl 9 rfl) ?_
                      refine z_iconst F dX7_groups_168 ?_
                      refine z_icmp_lt (tgt := 215) F dX7_groups_169 (by decide) zv_25 ⟨by decide, by decide⟩ (fun c_148 => ?_) (fun c_148 => ?_)
                      · refine z_iinc (lv' := [(11, .int (iI (jj + 1))), (9, .int (iI v_147)), (14, .int (iI v_137)), (13, .int (iI v_136)), (12, .int (iI v_122)), (10, .int (iI hs1)), (8, .int (iI v_57)), (7, .int (iI i)), (6, .int (iI v_34)), (5, .int (iI v_25)), (4, .int (iI v_17)), (3, .int (iI v_8)), (0, .ref mo), (1, .int (iI sd)), (2, .int (iI rr))]) F dX7_groups_215 hl (k := 4) rfl (by decide) rfl (fun ls hl => ?_)
                        refine z_goto (tgt := 80) F dX7_groups_218 (by decide) ?_
                        exact ih80 v_147 hs1 (jj + 1) H locs ls zv_147 zhs1 ⟨by omega, by omega⟩ (by omega) (by omega) hH hS (lv_sub hl [0, 5, 1, 6, 7, 8, 9, 10, 11, 12, 13, 14] rfl)
                      · refine lv_iload F.1 F.2.1 dX7_groups_172 (lv_at hl 1 rfl) ?_
                        refine z_if_gt (tgt := 180) F dX7_groups_174 (by decide) zv_137 (fun c_149 => ?_) (fun c_149 => ?_)
                        · refine lv_iload F.1 F.2.1 dX7_groups_180 (lv_at hl 5 rfl) ?_
                          refine z_if_eq (tgt := 208) F dX7_groups_182 (by decide) zhs1 (fun c_150 => ?_) (fun c_150 => ?_)
                          · refine lv_iload F.1 F.2.1 dX7_groups_208 (lv_at hl 2 rfl) ?_
                            refine lv_istore (lv' := [(9, .int (iI v_136)), (14, .int (iI v_137)), (13, .int (iI v_136)), (12, .int (iI v_122)), (11, .int (iI jj)), (10, .int (iI hs1)), (8, .int (iI v_57)), (7, .int (iI i)), (6, .int (iI v_34)), (5, .int (iI v_25)), (4, .int (iI v_17)), (3, .int (iI v_8)), (0, .ref mo), (1, .int (iI sd)), (2, .int (iI rr))]) F.1 F.2.1 dX7_groups_210 hl (by decide) rfl (fun ls hl => ?_)
                            refine z_iconst F dX7_groups_212 ?_
                            refine lv_istore (lv' := [(10, .int (iI 1)), (9, .int (iI v_136)), (14, .int (iI v_137)), (13, .int (iI v_136)), (12, .int (iI v_122)), (11, .int (iI jj)), (8, .int (iI v_57)), (7, .int (iI i)), (6, .int (iI v_34)), (5, .int (iI v_25)), (4, .int (iI v_17)), (3, .int (iI v_8)), (0, .ref mo), (1, .int (iI sd)), (2, .int (iI rr))]) F.1 F.2.1 dX7_groups_213 hl (by decide) rfl (fun ls hl => ?_)
                            refine z_iinc (lv' := [(11, .int (iI (jj + 1))), (10, .int (iI 1)), (9, .int (iI v_136)), (14, .int (iI v_137)), (13, .int (iI v_136)), (12, .int (iI v_122)), (8, .int (iI v_57)), (7, .int (iI i)), (6, .int (iI v_34)), (5, .int (iI v_25)), (4, .int (iI v_17)), (3, .int (iI v_8)), (0, .ref mo), (1, .int (iI sd)), (2, .int (iI rr))]) F dX7_groups_215 hl (k := 5) rfl (by decide) rfl (fun ls hl => ?_)
                            refine z_goto (tgt := 80) F dX7_groups_218 (by decide) ?_
                            exact ih80 v_136 1 (jj + 1) H locs ls zv_136 ⟨by decide, by decide⟩ ⟨by omega, by omega⟩ (by omega) (by omega) hH hS (lv_sub hl [0, 1, 2, 6, 7, 8, 9, 10, 11, 12, 13, 14] rfl)
                          · refine lv_iload F.1 F.2.1 dX7_groups_185 (lv_at hl 9 rfl) ?_
                            refine z_iconst F dX7_groups_187 ?_
                            refine z_icmp_ne (tgt := 201) F dX7_groups_188 (by decide) zv_25 ⟨by decide, by decide⟩ (fun c_151 => ?_) (fun c_151 => ?_)
                            · refine lv_iload F.1 F.2.1 dX7_groups_201 (lv_at hl 2 rfl) ?_
                              refine lv_iload F.1 F.2.1 dX7_groups_203 (lv_at hl 0 rfl) ?_
                              refine z_icmp_le (tgt := 212) F dX7_groups_205 (by decide) zv_136 zv_147 (fun c_152 => ?_) (fun c_152 => ?_)
                              · refine z_iconst F dX7_groups_212 ?_
                                refine lv_istore (lv' := [(10, .int (iI 1)), (9, .int (iI v_147)), (14, .int (iI v_137)), (13, .int (iI v_136)), (12, .int (iI v_122)), (11, .int (iI jj)), (8, .int (iI v_57)), (7, .int (iI i)), (6, .int (iI v_34)), (5, .int (iI v_25)), (4, .int (iI v_17)), (3, .int (iI v_8)), (0, .ref mo), (1, .int (iI sd)), (2, .int (iI rr))]) F.1 F.2.1 dX7_groups_213 hl (by decide) rfl (fun ls hl => ?_)
                                refine z_iinc (lv' := [(11, .int (iI (jj + 1))), (10, .int (iI 1)), (9, .int (iI v_147)), (14, .int (iI v_137)), (13, .int (iI v_136)), (12, .int (iI v_122)), (8, .int (iI v_57)), (7, .int (iI i)), (6, .int (iI v_34)), (5, .int (iI v_25)), (4, .int (iI v_17)), (3, .int (iI v_8)), (0, .ref mo), (1, .int (iI sd)), (2, .int (iI rr))]) F dX7_groups_215 hl (k := 5) rfl (by decide) rfl (fun ls hl => ?_)
                                refine z_goto (tgt := 80) F dX7_groups_218 (by decide) ?_
                                exact ih80 v_147 1 (jj + 1) H locs ls zv_147 ⟨by decide, by decide⟩ ⟨by omega, by omega⟩ (by omega) (by omega) hH hS (lv_sub hl [0, 1, 2, 6, 7, 8, 9, 10, 11, 12, 13, 14] rfl)
                              · refine lv_iload F.1 F.2.1 dX7_groups_208 (lv_at hl 2 rfl) ?_
                                refine lv_istore (lv' := [(9, .int (iI v_136)), (14, .int (iI v_137)), (13, .int (iI v_136)), (12, .int (iI v_122)), (11, .int (iI jj)), (10, .int (iI hs1)), (8, .int (iI v_57)), (7, .int (iI i)), (6, .int (iI v_34)), (5, .int (iI v_25)), (4, .int (iI v_17)), (3, .int (iI v_8)), (0, .ref mo), (1, .int (iI sd)), (2, .int (iI rr))]) F.1 F.2.1 dX7_groups_210 hl (by decide) rfl (fun ls hl => ?_)
                                refine z_iconst F dX7_groups_212 ?_
                                refine lv_istore (lv' := [(10, .int (iI 1)), (9, .int (iI v_136)), (14, .int (iI v_137)), (13, .int (iI v_136)), (12, .int (iI v_122)), (11, .int (iI jj)), (8, .int (iI v_57)), (7, .int (iI i)), (6, .int (iI v_34)), (5, .int (iI v_25)), (4, .int (iI v_17)), (3, .int (iI v_8)), (0, .ref mo), (1, .int (iI sd)), (2, .int (iI rr))]) F.1 F.2.1 dX7_groups_213 hl (by decide) rfl (fun ls hl => ?_)
                                refine z_iinc (lv' := [(11, .int (iI (jj + 1))), (10, .int (iI 1)), (9, .int (iI v_136)), (14, .int (iI v_137)), (13, .int (iI v_136)), (12, .int (iI v_122)), (8, .int (iI v_57)), (7, .int (iI i)), (6, .int (iI v_34)), (5, .int (iI v_25)), (4, .int (iI v_17)), (3, .int (iI v_8)), (0, .ref mo), (1, .int (iI sd)), (2, .int (iI rr))]) F dX7_groups_215 hl (k := 5) rfl (by decide) rfl (fun ls hl => ?_)
                                refine z_goto (tgt := 80) F dX7_groups_218 (by decide) ?_
                                exact ih80 v_136 1 (jj + 1) H locs ls zv_136 ⟨by decide, by decide⟩ ⟨by omega, by omega⟩ (by omega) (by omega) hH hS (lv_sub hl [0, 1, 2, 6, 7, 8, 9, 10, 11, 12, 13, 14] rfl)
                            · refine lv_iload F.1 F.2.1 dX7_groups_191 (lv_at hl 2 rfl) ?_
                              refine lv_iload F.1 F.2.1 dX7_groups_193 (lv_at hl 0 rfl) ?_
                              refine z_icmp_ge (tgt := 212) F dX7_groups_195 (by decide) zv_136 zv_147 (fun c_153 => ?_) (fun c_153 => ?_)
                              · refine z_iconst F dX7_groups_212 ?_
                                refine lv_istore (lv' := [(10, .int (iI 1)), (9, .int (iI v_147)), (14, .int (iI v_137)), (13, .int (iI v_136)), (12, .int (iI v_122)), (11, .int (iI jj)), (8, .int (iI v_57)), (7, .int (iI i)), (6, .int (iI v_34)), (5, .int (iI v_25)), (4, .int (iI v_17)), (3, .int (iI v_8)), (0, .ref mo), (1, .int (iI sd)), (2, .int (iI rr))]) F.1 F.2.1 dX7_groups_213 hl (by decide) rfl (fun ls hl => ?_)
                                refine z_iinc (lv' := [(11, .int (iI (jj + 1))), (10, .int (iI 1)), (9, .int (iI v_147)), (14, .int (iI v_137)), (13, .int (iI v_136)), (12, .int (iI v_122)), (8, .int (iI v_57)), (7, .int (iI i)), (6, .int (iI v_34)), (5, .int (iI v_25)), (4, .int (iI v_17)), (3, .int (iI v_8)), (0, .ref mo), (1, .int (iI sd)), (2, .int (iI rr))]) F dX7_groups_215 hl (k := 5) rfl (by decide) rfl (fun ls hl => ?_)
                                refine z_goto (tgt := 80) F dX7_groups_218 (by decide) ?_
                                exact ih80 v_147 1 (jj + 1) H locs ls zv_147 ⟨by decide, by decide⟩ ⟨by omega, by omega⟩ (by omega) (by omega) hH hS (lv_sub hl [0, 1, 2, 6, 7, 8, 9, 10, 11, 12, 13, 14] rfl)
                              · refine z_goto (tgt := 208) F dX7_groups_198 (by decide) ?_
                                refine lv_iload F.1 F.2.1 dX7_groups_208 (lv_at hl 2 rfl) ?_
                                refine lv_istore (lv' := [(9, .int (iI v_136)), (14, .int (iI v_137)), (13, .int (iI v_136)), (12, .int (iI v_122)), (11, .int (iI jj)), (10, .int (iI hs1)), (8, .int (iI v_57)), (7, .int (iI i)), (6, .int (iI v_34)), (5, .int (iI v_25)), (4, .int (iI v_17)), (3, .int (iI v_8)), (0, .ref mo), (1, .int (iI sd)), (2, .int (iI rr))]) F.1 F.2.1 dX7_groups_210 hl (by decide) rfl (fun ls hl => ?_)
                                refine z_iconst F dX7_groups_212 ?_
                                refine lv_istore (lv' := [(10, .int (iI 1)), (9, .int (iI v_136)), (14, .int (iI v_137)), (13, .int (iI v_136)), (12, .int (iI v_122)), (11, .int (iI jj)), (8, .int (iI v_57)), (7, .int (iI i)), (6, .int (iI v_34)), (5, .int (iI v_25)), (4, .int (iI v_17)), (3, .int (iI v_8)), (0, .ref mo), (1, .int (iI sd)), (2, .int (iI rr))]) F.1 F.2.1 dX7_groups_213 hl (by decide) rfl (fun ls hl => ?_)
                                refine z_iinc (lv' := [(11, .int (iI (jj + 1))), (10, .int (iI 1)), (9, .int (iI v_136)), (14, .int (iI v_137)), (13, .int (iI v_136)), (12, .int (iI v_122)), (8, .int (iI v_57)), (7, .int (iI i)), (6, .int (iI v_34)), (5, .int (iI v_25)), (4, .int (iI v_17)), (3, .int (iI v_8)), (0, .ref mo), (1, .int (iI sd)), (2, .int (iI rr))]) F dX7_groups_215 hl (k := 5) rfl (by decide) rfl (fun ls hl => ?_)
                                refine z_goto (tgt := 80) F dX7_groups_218 (by decide) ?_
                                exact ih80 v_136 1 (jj + 1) H locs ls zv_136 ⟨by decide, by decide⟩ ⟨by omega, by omega⟩ (by omega) (by omega) hH hS (lv_sub hl [0, 1, 2, 6, 7, 8, 9, 10, 11, 12, 13, 14] rfl)
                        · refine z_goto (tgt := 215) F dX7_groups_177 (by decide) ?_
                          refine z_iinc (lv' := [(11, .int (iI (jj + 1))), (9, .int (iI v_147)), (14, .int (iI v_137)), (13, .int (iI v_136)), (12, .int (iI v_122)), (10, .int (iI hs1)), (8, .int (iI v_57)), (7, .int (iI i)), (6, .int (iI v_34)), (5, .int (iI v_25)), (4, .int (iI v_17)), (3, .int (iI v_8)), (0, .ref mo), (1, .int (iI sd)), (2, .int (iI rr))]) F dX7_groups_215 hl (k := 4) rfl (by decide) rfl (fun ls hl => ?_)
                          refine z_goto (tgt := 80) F dX7_groups_218 (by decide) ?_
                          exact ih80 v_147 hs1 (jj + 1) H locs ls zv_147 zhs1 ⟨by omega, by omega⟩ (by omega) (by omega) hH hS (lv_sub hl [0, 5, 1, 6, 7, 8, 9, 10, 11, 12, 13, 14] rfl)
                  · refine lv_iload F.1 F.2.1 dX7_groups_143 (lv_at hl 5 rfl) ?_
                    refine lv_iload F.1 F.2.1 dX7_groups_145 (lv_at hl 0 rfl) ?_
                    refine z_iadd F dX7_groups_147 ?_
                    refine z_norm (fun v_154 zv_154 ev_154 => ?_)
                    refine lv_istore (lv' := [(9, .int (iI v_154)), (14, .int (iI v_137)), (13, .int (iI v_136)), (12, .int (iI v_122)), (11, .int (iI jj)), (10, .int (iI hs1)), (8, .int (iI v_57)), (7, .int (iI i)), (6, .int (iI v_34)), (5, .int (iI v_25)), (4, .int (iI v_17)), (3, .int (iI v_8)), (0, .ref mo), (1, .int (iI sd)), (2, .int (iI rr))]) F.1 F.2.1 dX7_groups_148 hl (by decide) rfl (fun ls hl => ?_)
                    refine lv_iload F.1 F.2.1 dX7_groups_150 (lv_at hl 9 rfl) ?_
                    refine z_iconst F dX7_groups_152 ?_
                    refine z_icmp_ne (tgt := 166) F dX7_groups_153 (by decide) zv_25 ⟨by decide, by decide⟩ (fun c_155 => ?_) (fun c_155 => ?_)
                    · refine lv_iload F.1 F.2.1 dX7_groups_166 (lv_at hl 9 rfl) ?_
                      refine z_iconst F dX7_groups_168 ?_
                      refine z_icmp_lt (tgt := 215) F dX7_groups_169 (by decide) zv_25 ⟨by decide, by decide⟩ (fun c_156 => ?_) (fun c_156 => ?_)
                      · refine z_iinc (lv' := [(11, .int (iI (jj + 1))), (9, .int (iI v_154)), (14, .int (iI v_137)), (13, .int (iI v_136)), (12, .int (iI v_122)), (10, .int (iI hs1)), (8, .int (iI v_57)), (7, .int (iI i)), (6, .int (iI v_34)), (5, .int (iI v_25)), (4, .int (iI v_17)), (3, .int (iI v_8)), (0, .ref mo), (1, .int (iI sd)), (2, .int (iI rr))]) F dX7_groups_215 hl (k := 4) rfl (by decide) rfl (fun ls hl => ?_)
                        refine z_goto (tgt := 80) F dX7_groups_218 (by decide) ?_
                        exact ih80 v_154 hs1 (jj + 1) H locs ls zv_154 zhs1 ⟨by omega, by omega⟩ (by omega) (by omega) hH hS (lv_sub hl [0, 5, 1, 6, 7, 8, 9, 10, 11, 12, 13, 14] rfl)
                      · refine lv_iload F.1 F.2.1 dX7_groups_172 (lv_at hl 1 rfl) ?_
                        refine z_if_gt (tgt := 180) F dX7_groups_174 (by decide) zv_137 (fun c_157 => ?_) (fun c_157 => ?_)
                        · refine lv_iload F.1 F.2.1 dX7_groups_180 (lv_at hl 5 rfl) ?_
                          refine z_if_eq (tgt := 208) F dX7_groups_182 (by decide) zhs1 (fun c_158 => ?_) (fun c_158 => ?_)
                          · refine lv_iload F.1 F.2.1 dX7_groups_208 (lv_at hl 2 rfl) ?_
                            refine lv_istore (lv' := [(9, .int (iI v_136)), (14, .int (iI v_137)), (13, .int (iI v_136)), (12, .int (iI v_122)), (11, .int (iI jj)), (10, .int (iI hs1)), (8, .int (iI v_57)), (7, .int (iI i)), (6, .int (iI v_34)), (5, .int (iI v_25)), (4, .int (iI v_17)), (3, .int (iI v_8)), (0, .ref mo), (1, .int (iI sd)), (2, .int (iI rr))]) F.1 F.2.1 dX7_groups_210 hl (by decide) rfl (fun ls hl => ?_)
                            refine z_iconst F dX7_groups_212 ?_
                            refine lv_istore (lv' := [(10, .int (iI 1)), (9, .int (iI v_136)), (14, .int (iI v_137)), (13, .int (iI v_136)), (12, .int (iI v_122)), (11, .int (iI jj)), (8, .int (iI v_57)), (7, .int (iI i)), (6, .int (iI v_34)), (5, .int (iI v_25)), (4, .int (iI v_17)), (3, .int (iI v_8)), (0, .ref mo), (1, .int (iI sd)), (2, .int (iI rr))]) F.1 F.2.1 dX7_groups_213 hl (by decide) rfl (fun ls hl => ?_)
                            refine z_iinc (lv' := [(11, .int (iI (jj + 1))), (10, .int (iI 1)), (9, .int (iI v_136)), (14, .int (iI v_137)), (13, .int (iI v_136)), (12, .int (iI v_122)), (8, .int (iI v_57)), (7, .int (iI i)), (6, .int (iI v_34)), (5, .int (iI v_25)), (4, .int (iI v_17)), (3, .int (iI v_8)), (0, .ref mo), (1, .int (iI sd)), (2, .int (iI rr))]) F dX7_groups_215 hl (k := 5) rfl (by decide) rfl (fun ls hl => ?_)
                            refine z_goto (tgt := 80) F dX7_groups_218 (by decide) ?_
                            exact ih80 v_136 1 (jj + 1) H locs ls zv_136 ⟨by decide, by decide⟩ ⟨by omega, by omega⟩ (by omega) (by omega) hH hS (lv_sub hl [0, 1, 2, 6, 7, 8, 9, 10, 11, 12, 13, 14] rfl)
                          · refine lv_iload F.1 F.2.1 dX7_groups_185 (lv_at hl 9 rfl) ?_
                            refine z_iconst F dX7_groups_187 ?_
                            refine z_icmp_ne (tgt := 201) F dX7_groups_188 (by decide) zv_25 ⟨by decide, by decide⟩ (fun c_159 => ?_) (fun c_159 => ?_)
                            · refine lv_iload F.1 F.2.1 dX7_groups_201 (lv_at hl 2 rfl) ?_
                              refine lv_iload F.1 F.2.1 dX7_groups_203 (lv_at hl 0 rfl) ?_
                              refine z_icmp_le (tgt := 212) F dX7_groups_205 (by decide) zv_136 zv_154 (fun c_160 => ?_) (fun c_160 => ?_)
                              · refine z_iconst F dX7_groups_212 ?_
                                refine lv_istore (lv' := [(10, .int (iI 1)), (9, .int (iI v_154)), (14, .int (iI v_137)), (13, .int (iI v_136)), (12, .int (iI v_122)), (11, .int (iI jj)), (8, .int (iI v_57)), (7, .int (iI i)), (6, .int (iI v_34)), (5, .int (iI v_25)), (4, .int (iI v_17)), (3, .int (iI v_8)), (0, .ref mo), (1, .int (iI sd)), (2, .int (iI rr))]) F.1 F.2.1 dX7_groups_213 hl (by decide) rfl (fun ls hl => ?_)
                                refine z_iinc (lv' := [(11, .int (iI (jj + 1))), (10, .int (iI 1)), (9, .int (iI v_154)), (14, .int (iI v_137)), (13, .int (iI v_136)), (12, .int (iI v_122)), (8, .int (iI v_57)), (7, .int (iI i)), (6, .int (iI v_34)), (5, .int (iI v_25)), (4, .int (iI v_17)), (3, .int (iI v_8)), (0, .ref mo), (1, .int (iI sd)), (2, .int (iI rr))]) F dX7_groups_215 hl (k := 5) rfl (by decide) rfl (fun ls hl => ?_)
                                refine z_goto (tgt := 80) F dX7_groups_218 (by decide) ?_
                                exact ih80 v_154 1 (jj + 1) H locs ls zv_154 ⟨by decide, by decide⟩ ⟨by omega, by omega⟩ (by omega) (by omega) hH hS (lv_sub hl [0, 1, 2, 6, 7, 8, 9, 10, 11, 12, 13, 14] rfl)
                              · refine lv_iload F.1 F.2.1 dX7_groups_208 (lv_at hl 2 rfl) ?_
                                refine lv_istore (lv' := [(9, .int (iI v_136)), (14, .int (iI v_137)), (13, .int (iI v_136)), (12, .int (iI v_122)), (11, .int (iI jj)), (10, .int (iI hs1)), (8, .int (iI v_57)), (7, .int (iI i)), (6, .int (iI v_34)), (5, .int (iI v_25)), (4, .int (iI v_17)), (3, .int (iI v_8)), (0, .ref mo), (1, .int (iI sd)), (2, .int (iI rr))]) F.1 F.2.1 dX7_groups_210 hl (by decide) rfl (fun ls hl => ?_)
                                refine z_iconst F dX7_groups_212 ?_
                                refine lv_istore (lv' := [(10, .int (iI 1)), (9, .int (iI v_136)), (14, .int (iI v_137)), (13, .int (iI v_136)), (12, .int (iI v_122)), (11, .int (iI jj)), (8, .int (iI v_57)), (7, .int (iI i)), (6, .int (iI v_34)), (5, .int (iI v_25)), (4, .int (iI v_17)), (3, .int (iI v_8)), (0, .ref mo), (1, .int (iI sd)), (2, .int (iI rr))]) F.1 F.2.1 dX7_groups_213 hl (by decide) rfl (fun ls hl => ?_)
                                refine z_iinc (lv' := [(11, .int (iI (jj + 1))), (10, .int (iI 1)), (9, .int (iI v_136)), (14, .int (iI v_137)), (13, .int (iI v_136)), (12, .int (iI v_122)), (8, .int (iI v_57)), (7, .int (iI i)), (6, .int (iI v_34)), (5, .int (iI v_25)), (4, .int (iI v_17)), (3, .int (iI v_8)), (0, .ref mo), (1, .int (iI sd)), (2, .int (iI rr))]) F dX7_groups_215 hl (k := 5) rfl (by decide) rfl (fun ls hl => ?_)
                                refine z_goto (tgt := 80) F dX7_groups_218 (by decide) ?_
                                exact ih80 v_136 1 (jj + 1) H locs ls zv_136 ⟨by decide, by decide⟩ ⟨by omega, by omega⟩ (by omega) (by omega) hH hS (lv_sub hl [0, 1, 2, 6, 7, 8, 9, 10, 11, 12, 13, 14] rfl)
                            · refine lv_iload F.1 F.2.1 dX7_groups_191 (lv_at hl 2 rfl) ?_
                              refine lv_iload F.1 F.2.1 dX7_groups_193 (lv_at hl 0 rfl) ?_
                              refine z_icmp_ge (tgt := 212) F dX7_groups_195 (by decide) zv_136 zv_154 (fun c_161 => ?_) (fun c_161 => ?_)
                              · refine z_iconst F dX7_groups_212 ?_
                                refine lv_istore (lv' := [(10, .int (iI 1)), (9, .int (iI v_154)), (14, .int (iI v_137)), (13, .int (iI v_136)), (12, .int (iI v_122)), (11, .int (iI jj)), (8, .int (iI v_57)), (7, .int (iI i)), (6, .int (iI v_34)), (5, .int (iI v_25)), (4, .int (iI v_17)), (3, .int (iI v_8)), (0, .ref mo), (1, .int (iI sd)), (2, .int (iI rr))]) F.1 F.2.1 dX7_groups_213 hl (by decide) rfl (fun ls hl => ?_)
                                refine z_iinc (lv' := [(11, .int (iI (jj + 1))), (10, .int (iI 1)), (9, .int (iI v_154)), (14, .int (iI v_137)), (13, .int (iI v_136)), (12, .int (iI v_122)), (8, .int (iI v_57)), (7, .int (iI i)), (6, .int (iI v_34)), (5, .int (iI v_25)), (4, .int (iI v_17)), (3, .int (iI v_8)), (0, .ref mo), (1, .int (iI sd)), (2, .int (iI rr))]) F dX7_groups_215 hl (k := 5) rfl (by decide) rfl (fun ls hl => ?_)
                                refine z_goto (tgt := 80) F dX7_groups_218 (by decide) ?_
                                exact ih80 v_154 1 (jj + 1) H locs ls zv_154 ⟨by decide, by decide⟩ ⟨by omega, by omega⟩ (by omega) (by omega) hH hS (lv_sub hl [0, 1, 2, 6, 7, 8, 9, 10, 11, 12, 13, 14] rfl)
                              · refine z_goto (tgt := 208) F dX7_groups_198 (by decide) ?_
                                refine lv_iload F.1 F.2.1 dX7_groups_208 (lv_at hl 2 rfl) ?_
                                refine lv_istore (lv' := [(9, .int (iI v_136)), (14, .int (iI v_137)), (13, .int (iI v_136)), (12, .int (iI v_122)), (11, .int (iI jj)), (10, .int (iI hs1)), (8, .int (iI v_57)), (7, .int (iI i)), (6, .int (iI v_34)), (5, .int (iI v_25)), (4, .int (iI v_17)), (3, .int (iI v_8)), (0, .ref mo), (1, .int (iI sd)), (2, .int (iI rr))]) F.1 F.2.1 dX7_groups_210 hl (by decide) rfl (fun ls hl => ?_)
                                refine z_iconst F dX7_groups_212 ?_
                                refine lv_istore (lv' := [(10, .int (iI 1)), (9, .int (iI v_136)), (14, .int (iI v_137)), (13, .int (iI v_136)), (12, .int (iI v_122)), (11, .int (iI jj)), (8, .int (iI v_57)), (7, .int (iI i)), (6, .int (iI v_34)), (5, .int (iI v_25)), (4, .int (iI v_17)), (3, .int (iI v_8)), (0, .ref mo), (1, .int (iI sd)), (2, .int (iI rr))]) F.1 F.2.1 dX7_groups_213 hl (by decide) rfl (fun ls hl => ?_)
                                refine z_iinc (lv' := [(11, .int (iI (jj + 1))), (10, .int (iI 1)), (9, .int (iI v_136)), (14, .int (iI v_137)), (13, .int (iI v_136)), (12, .int (iI v_122)), (8, .int (iI v_57)), (7, .int (iI i)), (6, .int (iI v_34)), (5, .int (iI v_25)), (4, .int (iI v_17)), (3, .int (iI v_8)), (0, .ref mo), (1, .int (iI sd)), (2, .int (iI rr))]) F dX7_groups_215 hl (k := 5) rfl (by decide) rfl (fun ls hl => ?_)
                                refine z_goto (tgt := 80) F dX7_groups_218 (by decide) ?_
                                exact ih80 v_136 1 (jj + 1) H locs ls zv_136 ⟨by decide, by decide⟩ ⟨by omega, by omega⟩ (by omega) (by omega) hH hS (lv_sub hl [0, 1, 2, 6, 7, 8, 9, 10, 11, 12, 13, 14] rfl)
                        · refine z_goto (tgt := 215) F dX7_groups_177 (by decide) ?_
                          refine z_iinc (lv' := [(11, .int (iI (jj + 1))), (9, .int (iI v_154)), (14, .int (iI v_137)), (13, .int (iI v_136)), (12, .int (iI v_122)), (10, .int (iI hs1)), (8, .int (iI v_57)), (7, .int (iI i)), (6, .int (iI v_34)), (5, .int (iI v_25)), (4, .int (iI v_17)), (3, .int (iI v_8)), (0, .ref mo), (1, .int (iI sd)), (2, .int (iI rr))]) F dX7_groups_215 hl (k := 4) rfl (by decide) rfl (fun ls hl => ?_)
                          refine z_goto (tgt := 80) F dX7_groups_218 (by decide) ?_
                          exact ih80 v_154 hs1 (jj + 1) H locs ls zv_154 zhs1 ⟨by omega, by omega⟩ (by omega) (by omega) hH hS (lv_sub hl [0, 5, 1, 6, 7, 8, 9, 10, 11, 12, 13, 14] rfl)
                    · refine lv_iload F.1 F.2.1 dX7_groups_156 (lv_at hl 0 rfl) ?_
                      refine lv_iload F.1 F.2.1 dX7_groups_158 (lv_at hl 1 rfl) ?_
                      refine lv_iload F.1 F.2.1 dX7_groups_160 (lv_at hl 2 rfl) ?_
                      refine z_imul F dX7_groups_162 ?_
                      refine z_norm (fun v_162 zv_162 ev_162 => ?_)
                      refine z_iadd F dX7_groups_163 ?_
                      refine z_norm (fun v_163 zv_163 ev_163 => ?_)
                      refine lv_istore (lv' := [(9, .int (iI v_163)), (14, .int (iI v_137)), (13, .int (iI v_136)), (12, .int (iI v_122)), (11, .int (iI jj)), (10, .int (iI hs1)), (8, .int (iI v_57)), (7, .int (iI i)), (6, .int (iI v_34)), (5, .int (iI v_25)), (4, .int (iI v_17)), (3, .int (iI v_8)), (0, .ref mo), (1, .int (iI sd)), (2, .int (iI rr))]) F.1 F.2.1 dX7_groups_164 hl (by decide) rfl (fun ls hl => ?_)
                      refine lv_iload F.1 F.2.1 dX7_groups_166 (lv_at hl 9 rfl) ?_
                      refine z_iconst F dX7_groups_168 ?_
                      refine z_icmp_lt (tgt := 215) F dX7_groups_169 (by decide) zv_25 ⟨by decide, by decide⟩ (fun c_164 => ?_) (fun c_164 => ?_)
                      · refine z_iinc (lv' := [(11, .int (iI (jj + 1))), (9, .int (iI v_163)), (14, .int (iI v_137)), (13, .int (iI v_136)), (12, .int (iI v_122)), (10, .int (iI hs1)), (8, .int (iI v_57)), (7, .int (iI i)), (6, .int (iI v_34)), (5, .int (iI v_25)), (4, .int (iI v_17)), (3, .int (iI v_8)), (0, .ref mo), (1, .int (iI sd)), (2, .int (iI rr))]) F dX7_groups_215 hl (k := 4) rfl (by decide) rfl (fun ls hl => ?_)
                        refine z_goto (tgt := 80) F dX7_groups_218 (by decide) ?_
                        exact ih80 v_163 hs1 (jj + 1) H locs ls zv_163 zhs1 ⟨by omega, by omega⟩ (by omega) (by omega) hH hS (lv_sub hl [0, 5, 1, 6, 7, 8, 9, 10, 11, 12, 13, 14] rfl)
                      · refine lv_iload F.1 F.2.1 dX7_groups_172 (lv_at hl 1 rfl) ?_
                        refine z_if_gt (tgt := 180) F dX7_groups_174 (by decide) zv_137 (fun c_165 => ?_) (fun c_165 => ?_)
                        · refine lv_iload F.1 F.2.1 dX7_groups_180 (lv_at hl 5 rfl) ?_
                          refine z_if_eq (tgt := 208) F dX7_groups_182 (by decide) zhs1 (fun c_166 => ?_) (fun c_166 => ?_)
                          · refine lv_iload F.1 F.2.1 dX7_groups_208 (lv_at hl 2 rfl) ?_
                            refine lv_istore (lv' := [(9, .int (iI v_136)), (14, .int (iI v_137)), (13, .int (iI v_136)), (12, .int (iI v_122)), (11, .int (iI jj)), (10, .int (iI hs1)), (8, .int (iI v_57)), (7, .int (iI i)), (6, .int (iI v_34)), (5, .int (iI v_25)), (4, .int (iI v_17)), (3, .int (iI v_8)), (0, .ref mo), (1, .int (iI sd)), (2, .int (iI rr))]) F.1 F.2.1 dX7_groups_210 hl (by decide) rfl (fun ls hl => ?_)
                            refine z_iconst F dX7_groups_212 ?_
                            refine lv_istore (lv' := [(10, .int (iI 1)), (9, .int (iI v_136)), (14, .int (iI v_137)), (13, .int (iI v_136)), (12, .int (iI v_122)), (11, .int (iI jj)), (8, .int (iI v_57)), (7, .int (iI i)), (6, .int (iI v_34)), (5, .int (iI v_25)), (4, .int (iI v_17)), (3, .int (iI v_8)), (0, .ref mo), (1, .int (iI sd)), (2, .int (iI rr))]) F.1 F.2.1 dX7_groups_213 hl (by decide) rfl (fun ls hl => ?_)
                            refine z_iinc (lv' := [(11, .int (iI (jj + 1))), (10, .int (iI 1)), (9, .int (iI v_136)), (14, .int (iI v_137)), (13, .int (iI v_136)), (12, .int (iI v_122)), (8, .int (iI v_57)), (7, .int (iI i)), (6, .int (iI v_34)), (5, .int (iI v_25)), (4, .int (iI v_17)), (3, .int (iI v_8)), (0, .ref mo), (1, .int (iI sd)), (2, .int (iI rr))]) F dX7_groups_215 hl (k := 5) rfl (by decide) rfl (fun ls hl => ?_)
                            refine z_goto (tgt := 80) F dX7_groups_218 (by decide) ?_
                            exact ih80 v_136 1 (jj + 1) H locs ls zv_136 ⟨by decide, by decide⟩ ⟨by omega, by omega⟩ (by omega) (by omega) hH hS (lv_sub hl [0, 1, 2, 6, 7, 8, 9, 10, 11, 12, 13, 14] rfl)
                          · refine lv_iload F.1 F.2.1 dX7_groups_185 (lv_at hl 9 rfl) ?_
                            refine z_iconst F dX7_groups_187 ?_
                            refine z_icmp_ne (tgt := 201) F dX7_groups_188 (by decide) zv_25 ⟨by decide, by decide⟩ (fun c_167 => ?_) (fun c_167 => ?_)
                            · refine lv_iload F.1 F.2.1 dX7_groups_201 (lv_at hl 2 rfl) ?_
                              refine lv_iload F.1 F.2.1 dX7_groups_203 (lv_at hl 0 rfl) ?_
                              refine z_icmp_le (tgt := 212) F dX7_groups_205 (by decide) zv_136 zv_163 (fun c_168 => ?_) (fun c_168 => ?_)
                              · refine z_iconst F dX7_groups_212 ?_
                                refine lv_istore (lv' := [(10, .int (iI 1)), (9, .int (iI v_163)), (14, .int (iI v_137)), (13, .int (iI v_136)), (12, .int (iI v_122)), (11, .int (iI jj)), (8, .int (iI v_57)), (7, .int (iI i)), (6, .int (iI v_34)), (5, .int (iI v_25)), (4, .int (iI v_17)), (3, .int (iI v_8)), (0, .ref mo), (1, .int (iI sd)), (2, .int (iI rr))]) F.1 F.2.1 dX7_groups_213 hl (by decide) rfl (fun ls hl => ?_)
                                refine z_iinc (lv' := [(11, .int (iI (jj + 1))), (10, .int (iI 1)), (9, .int (iI v_163)), (14, .int (iI v_137)), (13, .int (iI v_136)), (12, .int (iI v_122)), (8, .int (iI v_57)), (7, .int (iI i)), (6, .int (iI v_34)), (5, .int (iI v_25)), (4, .int (iI v_17)), (3, .int (iI v_8)), (0, .ref mo), (1, .int (iI sd)), (2, .int (iI rr))]) F dX7_groups_215 hl (k := 5) rfl (by decide) rfl (fun ls hl => ?_)
                                refine z_goto (tgt := 80) F dX7_groups_218 (by decide) ?_
                                exact ih80 v_163 1 (jj + 1) H locs ls zv_163 ⟨by decide, by decide⟩ ⟨by omega, by omega⟩ (by omega) (by omega) hH hS (lv_sub hl [0, 1, 2, 6, 7, 8, 9, 10, 11, 12, 13, 14] rfl)
                              · refine lv_iload F.1 F.2.1 dX7_groups_208 (lv_at hl 2 rfl) ?_
                                refine lv_istore (lv' := [(9, .int (iI v_136)), (14, .int (iI v_137)), (13, .int (iI v_136)), (12, .int (iI v_122)), (11, .int (iI jj)), (10, .int (iI hs1)), (8, .int (iI v_57)), (7, .int (iI i)), (6, .int (iI v_34)), (5, .int (iI v_25)), (4, .int (iI v_17)), (3, .int (iI v_8)), (0, .ref mo), (1, .int (iI sd)), (2, .int (iI rr))]) F.1 F.2.1 dX7_groups_210 hl (by decide) rfl (fun ls hl => ?_)
                                refine z_iconst F dX7_groups_212 ?_
                                refine lv_istore (lv' := [(10, .int (iI 1)), (9, .int (iI v_136)), (14, .int (iI v_137)), (13, .int (iI v_136)), (12, .int (iI v_122)), (11, .int (iI jj)), (8, .int (iI v_57)), (7, .int (iI i)), (6, .int (iI v_34)), (5, .int (iI v_25)), (4, .int (iI v_17)), (3, .int (iI v_8)), (0, .ref mo), (1, .int (iI sd)), (2, .int (iI rr))]) F.1 F.2.1 dX7_groups_213 hl (by decide) rfl (fun ls hl => ?_)
                                refine z_iinc (lv' := [(11, .int (iI (jj + 1))), (10, .int (iI 1)), (9, .int (iI v_136)), (14, .int (iI v_137)), (13, .int (iI v_136)), (12, .int (iI v_122)), (8, .int (iI v_57)), (7, .int (iI i)), (6, .int (iI v_34)), (5, .int (iI v_25)), (4, .int (iI v_17)), (3, .int (iI v_8)), (0, .ref mo), (1, .int (iI sd)), (2, .int (iI rr))]) F dX7_groups_215 hl (k := 5) rfl (by decide) rfl (fun ls hl => ?_)
                                refine z_goto (tgt := 80) F dX7_groups_218 (by decide) ?_
                                exact ih80 v_136 1 (jj + 1) H locs ls zv_136 ⟨by decide, by decide⟩ ⟨by omega, by omega⟩ (by omega) (by omega) hH hS (lv_sub hl [0, 1, 2, 6, 7, 8, 9, 10, 11, 12, 13, 14] rfl)
                            · refine lv_iload F.1 F.2.1 dX7_groups_191 (lv_at hl 2 rfl) ?_
                              refine lv_iload F.1 F.2.1 dX7_groups_193 (lv_at hl 0 rfl) ?_
                              refine z_icmp_ge (tgt := 212) F dX7_groups_195 (by decide) zv_136 zv_163 (fun c_169 => ?_) (fun c_169 => ?_)
                              · refine z_iconst F dX7_groups_212 ?_
                                refine lv_istore (lv' := [(10, .int (iI 1)), (9, .int (iI v_163)), (14, .int (iI v_137)), (13, .int (iI v_136)), (12, .int (iI v_122)), (11, .int (iI jj)), (8, .int (iI v_57)), (7, .int (iI i)), (6, .int (iI v_34)), (5, .int (iI v_25)), (4, .int (iI v_17)), (3, .int (iI v_8)), (0, .ref mo), (1, .int (iI sd)), (2, .int (iI rr))]) F.1 F.2.1 dX7_groups_213 hl (by decide) rfl (fun ls hl => ?_)
                                refine z_iinc (lv' := [(11, .int (iI (jj + 1))), (10, .int (iI 1)), (9, .int (iI v_163)), (14, .int (iI v_137)), (13, .int (iI v_136)), (12, .int (iI v_122)), (8, .int (iI v_57)), (7, .int (iI i)), (6, .int (iI v_34)), (5, .int (iI v_25)), (4, .int (iI v_17)), (3, .int (iI v_8)), (0, .ref mo), (1, .int (iI sd)), (2, .int (iI rr))]) F dX7_groups_215 hl (k := 5) rfl (by decide) rfl (fun ls hl => ?_)
                                refine z_goto (tgt := 80) F dX7_groups_218 (by decide) ?_
                                exact ih80 v_163 1 (jj + 1) H locs ls zv_163 ⟨by decide, by decide⟩ ⟨by omega, by omega⟩ (by omega) (by omega) hH hS (lv_sub hl [0, 1, 2, 6, 7, 8, 9, 10, 11, 12, 13, 14] rfl)
                              · refine z_goto (tgt := 208) F dX7_groups_198 (by decide) ?_
                                refine lv_iload F.1 F.2.1 dX7_groups_208 (lv_at hl 2 rfl) ?_
                                refine lv_istore (lv' := [(9, .int (iI v_136)), (14, .int (iI v_137)), (13, .int (iI v_136)), (12, .int (iI v_122)), (11, .int (iI jj)), (10, .int (iI hs1)), (8, .int (iI v_57)), (7, .int (iI i)), (6, .int (iI v_34)), (5, .int (iI v_25)), (4, .int (iI v_17)), (3, .int (iI v_8)), (0, .ref mo), (1, .int (iI sd)), (2, .int (iI rr))]) F.1 F.2.1 dX7_groups_210 hl (by decide) rfl (fun ls hl => ?_)
                                refine z_iconst F dX7_groups_212 ?_
                                refine lv_istore (lv' := [(10, .int (iI 1)), (9, .int (iI v_136)), (14, .int (iI v_137)), (13, .int (iI v_136)), (12, .int (iI v_122)), (11, .int (iI jj)), (8, .int (iI v_57)), (7, .int (iI i)), (6, .int (iI v_34)), (5, .int (iI v_25)), (4, .int (iI v_17)), (3, .int (iI v_8)), (0, .ref mo), (1, .int (iI sd)), (2, .int (iI rr))]) F.1 F.2.1 dX7_groups_213 hl (by decide) rfl (fun ls hl => ?_)
                                refine z_iinc (lv' := [(11, .int (iI (jj + 1))), (10, .int (iI 1)), (9, .int (iI v_136)), (14, .int (iI v_137)), (13, .int (iI v_136)), (12, .int (iI v_122)), (8, .int (iI v_57)), (7, .int (iI i)), (6, .int (iI v_34)), (5, .int (iI v_25)), (4, .int (iI v_17)), (3, .int (iI v_8)), (0, .ref mo), (1, .int (iI sd)), (2, .int (iI rr))]) F dX7_groups_215 hl (k := 5) rfl (by decide) rfl (fun ls hl => ?_)
                                refine z_goto (tgt := 80) F dX7_groups_218 (by decide) ?_
                                exact ih80 v_136 1 (jj + 1) H locs ls zv_136 ⟨by decide, by decide⟩ ⟨by omega, by omega⟩ (by omega) (by omega) hH hS (lv_sub hl [0, 1, 2, 6, 7, 8, 9, 10, 11, 12, 13, 14] rfl)
                        · refine z_goto (tgt := 215) F dX7_groups_177 (by decide) ?_
                          refine z_iinc (lv' := [(11, .int (iI (jj + 1))), (9, .int (iI v_163)), (14, .int (iI v_137)), (13, .int (iI v_136)), (12, .int (iI v_122)), (10, .int (iI hs1)), (8, .int (iI v_57)), (7, .int (iI i)), (6, .int (iI v_34)), (5, .int (iI v_25)), (4, .int (iI v_17)), (3, .int (iI v_8)), (0, .ref mo), (1, .int (iI sd)), (2, .int (iI rr))]) F dX7_groups_215 hl (k := 4) rfl (by decide) rfl (fun ls hl => ?_)
                          refine z_goto (tgt := 80) F dX7_groups_218 (by decide) ?_
                          exact ih80 v_163 hs1 (jj + 1) H locs ls zv_163 zhs1 ⟨by omega, by omega⟩ (by omega) (by omega) hH hS (lv_sub hl [0, 5, 1, 6, 7, 8, 9, 10, 11, 12, 13, 14] rfl)
                · refine z_goto (tgt := 215) F dX7_groups_112 (by decide) ?_
                  refine z_iinc (lv' := [(11, .int (iI (jj + 1))), (12, .int (iI v_122)), (10, .int (iI hs1)), (9, .int (iI su)), (8, .int (iI v_57)), (7, .int (iI i)), (6, .int (iI v_34)), (5, .int (iI v_25)), (4, .int (iI v_17)), (3, .int (iI v_8)), (0, .ref mo), (1, .int (iI sd)), (2, .int (iI rr))]) F dX7_groups_215 hl (k := 1) rfl (by decide) rfl (fun ls hl => ?_)
                  refine z_goto (tgt := 80) F dX7_groups_218 (by decide) ?_
                  exact ih80 su hs1 (jj + 1) H locs ls zsu zhs1 ⟨by omega, by omega⟩ (by omega) (by omega) hH hS (lv_sub hl [0, 2, 3, 4, 5, 6, 7, 8, 9, 10, 11, 12] rfl)
          exact cut_80_69 (((120 - i) + 1 : Int).toNat) 0 0 i H locs ls ⟨by decide, by decide⟩ ⟨by decide, by decide⟩ zi (by omega) (by omega) hH hS (lv_sub hl [0, 1, 2, 3, 4, 5, 6, 7, 8, 9, 10, 11] rfl)
        · refine z_goto (tgt := 298) F dX7_groups_67 (by decide) ?_
          refine z_iinc (lv' := [(7, .int (iI (i + 1))), (8, .int (iI v_57)), (6, .int (iI v_34)), (5, .int (iI v_25)), (4, .int (iI v_17)), (3, .int (iI v_8)), (0, .ref mo), (1, .int (iI sd)), (2, .int (iI rr))]) F dX7_groups_298 hl (k := 1) rfl (by decide) rfl (fun ls hl => ?_)
          refine z_goto (tgt := 36) F dX7_groups_301 (by decide) ?_
          exact ih36 (i + 1) I_36 AI_37 H locs ls ⟨by omega, by omega⟩ hv hT wf (by omega) (by omega) hH hS (lv_sub hl [0, 2, 3, 4, 5, 6, 7, 8] rfl)
  exact cut_36_37 (((120 - 0) + 1 : Int).toNat) 0 I AI H locs ls ⟨by decide, by decide⟩ hv hT wf (by omega) (by omega) hH hS (lv_sub hl [0, 1, 2, 3, 4, 5, 6, 7] rfl)
