def rmX7_hangsOn : Room := { frames := 1, cells := 0, slots := 0, locals := 21 }
theorem hdX7_hangsOn : yX7_hangsOn.cls = RX7 ∧ yX7_hangsOn.cls ≠ "java/lang/invoke/MethodHandle" ∧ yX7_hangsOn.cls ≠ "java/lang/invoke/VarHandle" ∧ (parseMethodDescriptor yX7_hangsOn.desc).map (fun d => d.parameters.length) = some 1 := by decide +kernel
set_option maxHeartbeats 4000000 in
set_option maxRecDepth 100000 in
/-- hangsOn -/
theorem c_X7_hangsOn (l : Launch) (g : gG) (gh : gGh) (T : Nat → Int32) (I : gI) (R : gR) (J : gJ) (AI : gI) (AJ : gJ) (AR : gR) (mo : Nat) (rr : Int) (zrr : zr rr) (hv : mInv g gh R I AI) (hm : gO g mo 7) (hT : AI (gh 50 0) = T) (hr0 : 0 ≤ rr ∧ rr < (I mo 2).toInt ∧ rr < 1) : gMet l g yX7_hangsOn tsX7_hangsOn rmX7_hangsOn [.ref mo, .int (iI rr)] (I, R, J, AI, AJ, AR) (gQi g (fun (z : Int) (w : gS) => I = w.1 ∧ R = w.2.1 ∧ J = w.2.2.1 ∧ AI = w.2.2.2.1 ∧ AJ = w.2.2.2.2.1 ∧ AR = w.2.2.2.2.2)) := by
  refine gStart (cc := cX7_hangsOn) (maxL := 3) (ret := (some (.int))) (by decide) rfl (Nat.le_of_ble_eq_true rfl) ?_
  intro p e s m below meth c ls F hr hlk hH hz hS hl
  have hl : lv_has ls 3 [(0, .ref mo), (1, .int (iI rr))] := hl
  have hS : va_S (gA g) s.heap s.heap [] := hS
  obtain ⟨H, hHe⟩ : ∃ H : Heap, H = s.heap := ⟨_, rfl⟩
  obtain ⟨locs, hlo⟩ : ∃ k : List Loc, k = [] := ⟨_, rfl⟩
  have hH : gH g I R J AI AJ AR H := by rw [hHe]; exact hH
  have hS : va_S (gA g) s.heap H locs := by rw [hHe, hlo]; exact hS
  suffices hw : W p l e rmX7_hangsOn s m ([.ref mo, .int (iI rr)] : List Value).toArray below meth c H locs 0 0 (MQ below (gQi g (fun (z : Int) (w : gS) => I = w.1 ∧ R = w.2.1 ∧ J = w.2.2.1 ∧ AI = w.2.2.2.1 ∧ AJ = w.2.2.2.2.1 ∧ AR = w.2.2.2.2.2)) ([.ref mo, .int (iI rr)] : List Value).toArray s 0 0 (gA g)) (F0 m 0 ls []) by
    rw [hHe, hlo] at hw; exact hw
  clear hHe hlo
  have hb0 := mJ hv hm
  unfold mNum1 at hb0
  have x := mRow hv hm hT (z := rr) (by omega) (by omega)
  have xa := x.1
  have xc := x.2.2.1
  have xb := x.2.1
  refine lv_aload_n F.1 F.2.1 dX7_hangsOn_0 rfl (lv_at hl 0 rfl) ?_
  refine lv_iload_n F.1 F.2.1 dX7_hangsOn_1 rfl (lv_at hl 1 rfl) ?_
  have b_1 := mJ hv hm
  unfold mNum1 at b_1
  refine g_calli (g_runV (As := [.int (iI rr)]) (rest := []) (ci := 7) F hl.1 hH hS hz (c_X7_kindOf l g gh T I R J AI AJ AR mo rr zrr hv hm hT (by omega)) (cwV 1 F.2.2.2.2.1 (good_up gT_X7_kindOf) rfl rfl rfl hdX7_kindOf ⟨Nat.le_of_ble_eq_true rfl, Nat.le_of_ble_eq_true rfl⟩) hm (by decide) rfl rfl rfl (Nat.le_of_ble_eq_true rfl) dX7_hangsOn_2 ⟨Nat.zero_le _, Nat.zero_le _⟩) hS (fun v_8 I_2 R_3 J_4 AI_5 AJ_6 AR_7 H locs zv_8 hp_9 hH hS => ?_)
  dsimp only at hp_9
  obtain ⟨rfl, rfl, rfl, rfl, rfl, rfl, q_10⟩ := hp_9
  refine z_if_ne (tgt := 10) F dX7_hangsOn_5 (by decide) zv_8 (fun c_11 => ?_) (fun c_11 => ?_)
  · exact absurd trivial (by omega)
  · refine z_iconst F dX7_hangsOn_8 ?_
    exact g_iret F hr hlk hH hS hz ⟨by decide, by decide⟩ ⟨rfl, rfl, rfl, rfl, rfl, rfl⟩ dX7_hangsOn_9

def rmX7_hangsOn2 : Room := { frames := 2, cells := 0, slots := 0, locals := 43 }
set_option maxHeartbeats 4000000 in
set_option maxRecDepth 100000 in
/-- hangsOn -/
theorem c_X7_hangsOn2 (l : Launch) (g : gG) (gh : gGh) (T : Nat → Int32) (I : gI) (R : gR) (J : gJ) (AI : gI) (AJ : gJ) (AR : gR) (mo : Nat) (rr : Int) (zrr : zr rr) (hv : mInv g gh R I AI) (hm : gO g mo 7) (hT : AI (gh 50 0) = T) (hr0 : 0 ≤ rr ∧ rr < (I mo 2).toInt ∧ rr < 2) : gMet l g yX7_hangsOn tsX7_hangsOn rmX7_hangsOn2 [.ref mo, .int (iI rr)] (I, R, J, AI, AJ, AR) (gQi g (fun (z : Int) (w : gS) => I = w.1 ∧ R = w.2.1 ∧ J = w.2.2.1 ∧ AI = w.2.2.2.1 ∧ AJ = w.2.2.2.2.1 ∧ AR = w.2.2.2.2.2)) := by
  refine gStart (cc := cX7_hangsOn) (maxL := 3) (ret := (some (.int))) (by decide) rfl (Nat.le_of_ble_eq_true rfl) ?_
  intro p e s m below meth c ls F hr hlk hH hz hS hl
  have hl : lv_has ls 3 [(0, .ref mo), (1, .int (iI rr))] := hl
  have hS : va_S (gA g) s.heap s.heap [] := hS
  obtain ⟨H, hHe⟩ : ∃ H : Heap, H = s.heap := ⟨_, rfl⟩
  obtain ⟨locs, hlo⟩ : ∃ k : List Loc, k = [] := ⟨_, rfl⟩
  have hH : gH g I R J AI AJ AR H := by rw [hHe]; exact hH
  have hS : va_S (gA g) s.heap H locs := by rw [hHe, hlo]; exact hS
  suffices hw : W p l e rmX7_hangsOn2 s m ([.ref mo, .int (iI rr)] : List Value).toArray below meth c H locs 0 0 (MQ below (gQi g (fun (z : Int) (w : gS) => I = w.1 ∧ R = w.2.1 ∧ J = w.2.2.1 ∧ AI = w.2.2.2.1 ∧ AJ = w.2.2.2.2.1 ∧ AR = w.2.2.2.2.2)) ([.ref mo, .int (iI rr)] : List Value).toArray s 0 0 (gA g)) (F0 m 0 ls []) by
    rw [hHe, hlo] at hw; exact hw
  clear hHe hlo
  have hb0 := mJ hv hm
  unfold mNum1 at hb0
  have x := mRow hv hm hT (z := rr) (by omega) (by omega)
  have xa := x.1
  have xc := x.2.2.1
  have xb := x.2.1
  refine lv_aload_n F.1 F.2.1 dX7_hangsOn_0 rfl (lv_at hl 0 rfl) ?_
  refine lv_iload_n F.1 F.2.1 dX7_hangsOn_1 rfl (lv_at hl 1 rfl) ?_
  have b_1 := mJ hv hm
  unfold mNum1 at b_1
  refine g_calli (g_runV (As := [.int (iI rr)]) (rest := []) (ci := 7) F hl.1 hH hS hz (c_X7_kindOf l g gh T I R J AI AJ AR mo rr zrr hv hm hT (by omega)) (cwV 1 F.2.2.2.2.1 (good_up gT_X7_kindOf) rfl rfl rfl hdX7_kindOf ⟨Nat.le_of_ble_eq_true rfl, Nat.le_of_ble_eq_true rfl⟩) hm (by decide) rfl rfl rfl (Nat.le_of_ble_eq_true rfl) dX7_hangsOn_2 ⟨Nat.zero_le _, Nat.zero_le _⟩) hS (fun v_8 I_2 R_3 J_4 AI_5 AJ_6 AR_7 H locs zv_8 hp_9 hH hS => ?_)
  dsimp only at hp_9
  obtain ⟨rfl, rfl, rfl, rfl, rfl, rfl, q_10⟩ := hp_9
  refine z_if_ne (tgt := 10) F dX7_hangsOn_5 (by decide) zv_8 (fun c_11 => ?_) (fun c_11 => ?_)
  · refine z_iconst F dX7_hangsOn_10 ?_
    refine lv_aload_n F.1 F.2.1 dX7_hangsOn_11 rfl (lv_at hl 0 rfl) ?_
    refine lv_iload_n F.1 F.2.1 dX7_hangsOn_12 rfl (lv_at hl 1 rfl) ?_
    refine g_calli (g_runV (As := [.int (iI rr)]) (rest := [.int (iI 1)]) (ci := 7) F hl.1 hH hS hz (c_X7_firstOf l g gh T I R J AI AJ AR mo rr zrr hv hm hT (by omega)) (cwV 1 F.2.2.2.2.1 (good_up gT_X7_firstOf) rfl rfl rfl hdX7_firstOf ⟨Nat.le_of_ble_eq_true rfl, Nat.le_of_ble_eq_true rfl⟩) hm (by decide) rfl rfl rfl (Nat.le_of_ble_eq_true rfl) dX7_hangsOn_13 ⟨Nat.zero_le _, Nat.zero_le _⟩) hS (fun v_18 I_12 R_13 J_14 AI_15 AJ_16 AR_17 H locs zv_18 hp_19 hH hS => ?_)
    dsimp only at hp_19
    obtain ⟨rfl, rfl, rfl, rfl, rfl, rfl, q_20⟩ := hp_19
    refine lv_ishl F.1 F.2.1 dX7_hangsOn_16 ?_
    refine z_top (fun v_21 zv_21 ev_21 => ?_)
    refine lv_aload_n F.1 F.2.1 dX7_hangsOn_17 rfl (lv_at hl 0 rfl) ?_
    refine lv_aload_n F.1 F.2.1 dX7_hangsOn_18 rfl (lv_at hl 0 rfl) ?_
    refine lv_iload_n F.1 F.2.1 dX7_hangsOn_19 rfl (lv_at hl 1 rfl) ?_
    refine g_calli (g_runV (As := [.int (iI rr)]) (rest := [.ref mo, .int (iI v_21)]) (ci := 7) F hl.1 hH hS hz (c_X7_firstOf l g gh T I R J AI AJ AR mo rr zrr hv hm hT (by omega)) (cwV 1 F.2.2.2.2.1 (good_up gT_X7_firstOf) rfl rfl rfl hdX7_firstOf ⟨Nat.le_of_ble_eq_true rfl, Nat.le_of_ble_eq_true rfl⟩) hm (by decide) rfl rfl rfl (Nat.le_of_ble_eq_true rfl) dX7_hangsOn_20 ⟨Nat.zero_le _, Nat.zero_le _⟩) hS (fun v_28 I_22 R_23 J_24 AI_25 AJ_26 AR_27 H locs zv_28 hp_29 hH hS => ?_)
    dsimp only at hp_29
    obtain ⟨rfl, rfl, rfl, rfl, rfl, rfl, q_30⟩ := hp_29
    refine g_calli (g_runV (As := [.int (iI v_28)]) (rest := [.int (iI v_21)]) (ci := 7) F hl.1 hH hS hz (c_X7_hangsOn l g gh T I R J AI AJ AR mo v_28 zv_28 hv hm hT (by omega)) (cwV 1 F.2.2.2.2.1 (good_up gT_X7_hangsOn) rfl rfl rfl hdX7_hangsOn ⟨Nat.le_of_ble_eq_true rfl, Nat.le_of_ble_eq_true rfl⟩) hm (by decide) rfl rfl rfl (Nat.le_of_ble_eq_true rfl) dX7_hangsOn_23 ⟨Nat.zero_le _, Nat.zero_le _⟩) hS (fun v_37 I_31 R_32 J_33 AI_34 AJ_35 AR_36 H locs zv_37 hp_38 hH hS => ?_)
    dsimp only at hp_38
    obtain ⟨rfl, rfl, rfl, rfl, rfl, rfl⟩ := hp_38
    refine lv_ior F.1 F.2.1 dX7_hangsOn_26 ?_
    refine z_top (fun v_39 zv_39 ev_39 => ?_)
    refine lv_istore_n (lv' := [(2, .int (iI v_39)), (0, .ref mo), (1, .int (iI rr))]) F.1 F.2.1 dX7_hangsOn_27 rfl hl (by decide) rfl (fun ls hl => ?_)
    refine lv_aload_n F.1 F.2.1 dX7_hangsOn_28 rfl (lv_at hl 1 rfl) ?_
    refine lv_iload_n F.1 F.2.1 dX7_hangsOn_29 rfl (lv_at hl 2 rfl) ?_
    refine g_calli (g_runV (As := [.int (iI rr)]) (rest := []) (ci := 7) F hl.1 hH hS hz (c_X7_secondOf l g gh T I R J AI AJ AR mo rr zrr hv hm hT (by omega)) (cwV 1 F.2.2.2.2.1 (good_up gT_X7_secondOf) rfl rfl rfl hdX7_secondOf ⟨Nat.le_of_ble_eq_true rfl, Nat.le_of_ble_eq_true rfl⟩) hm (by decide) rfl rfl rfl (Nat.le_of_ble_eq_true rfl) dX7_hangsOn_30 ⟨Nat.zero_le _, Nat.zero_le _⟩) hS (fun v_46 I_40 R_41 J_42 AI_43 AJ_44 AR_45 H locs zv_46 hp_47 hH hS => ?_)
    dsimp only at hp_47
    obtain ⟨rfl, rfl, rfl, rfl, rfl, rfl, q_48⟩ := hp_47
    refine z_if_ge (tgt := 40) F dX7_hangsOn_33 (by decide) zv_46 (fun c_49 => ?_) (fun c_49 => ?_)
    · refine lv_iload_n F.1 F.2.1 dX7_hangsOn_40 rfl (lv_at hl 0 rfl) ?_
      refine z_iconst F dX7_hangsOn_41 ?_
      refine lv_aload_n F.1 F.2.1 dX7_hangsOn_42 rfl (lv_at hl 1 rfl) ?_
      refine lv_iload_n F.1 F.2.1 dX7_hangsOn_43 rfl (lv_at hl 2 rfl) ?_
      refine g_calli (g_runV (As := [.int (iI rr)]) (rest := [.int (iI 1), .int (iI v_39)]) (ci := 7) F hl.1 hH hS hz (c_X7_secondOf l g gh T I R J AI AJ AR mo rr zrr hv hm hT (by omega)) (cwV 1 F.2.2.2.2.1 (good_up gT_X7_secondOf) rfl rfl rfl hdX7_secondOf ⟨Nat.le_of_ble_eq_true rfl, Nat.le_of_ble_eq_true rfl⟩) hm (by decide) rfl rfl rfl (Nat.le_of_ble_eq_true rfl) dX7_hangsOn_44 ⟨Nat.zero_le _, Nat.zero_le _⟩) hS (fun v_56 I_50 R_51 J_52 AI_53 AJ_54 AR_55 H locs zv_56 hp_57 hH hS => ?_)
      dsimp only at hp_57
      obtain ⟨rfl, rfl, rfl, rfl, rfl, rfl, q_58⟩ := hp_57
      refine lv_ishl F.1 F.2.1 dX7_hangsOn_47 ?_
      refine z_top (fun v_59 zv_59 ev_59 => ?_)
      refine lv_ior F.1 F.2.1 dX7_hangsOn_48 ?_
      refine z_top (fun v_60 zv_60 ev_60 => ?_)
      refine lv_aload_n F.1 F.2.1 dX7_hangsOn_49 rfl (lv_at hl 1 rfl) ?_
      refine lv_aload_n F.1 F.2.1 dX7_hangsOn_50 rfl (lv_at hl 1 rfl) ?_
      refine lv_iload_n F.1 F.2.1 dX7_hangsOn_51 rfl (lv_at hl 2 rfl) ?_
      refine g_calli (g_runV (As := [.int (iI rr)]) (rest := [.ref mo, .int (iI v_60)]) (ci := 7) F hl.1 hH hS hz (c_X7_secondOf l g gh T I R J AI AJ AR mo rr zrr hv hm hT (by omega)) (cwV 1 F.2.2.2.2.1 (good_up gT_X7_secondOf) rfl rfl rfl hdX7_secondOf ⟨Nat.le_of_ble_eq_true rfl, Nat.le_of_ble_eq_true rfl⟩) hm (by decide) rfl rfl rfl (Nat.le_of_ble_eq_true rfl) dX7_hangsOn_52 ⟨Nat.zero_le _, Nat.zero_le _⟩) hS (fun v_67 I_61 R_62 J_63 AI_64 AJ_65 AR_66 H locs zv_67 hp_68 hH hS => ?_)
      dsimp only at hp_68
      obtain ⟨rfl, rfl, rfl, rfl, rfl, rfl, q_69⟩ := hp_68
      refine g_calli (g_runV (As := [.int (iI v_67)]) (rest := [.int (iI v_60)]) (ci := 7) F hl.1 hH hS hz (c_X7_hangsOn l g gh T I R J AI AJ AR mo v_67 zv_67 hv hm hT (by omega)) (cwV 1 F.2.2.2.2.1 (good_up gT_X7_hangsOn) rfl rfl rfl hdX7_hangsOn ⟨Nat.le_of_ble_eq_true rfl, Nat.le_of_ble_eq_true rfl⟩) hm (by decide) rfl rfl rfl (Nat.le_of_ble_eq_true rfl) dX7_hangsOn_55 ⟨Nat.zero_le _, Nat.zero_le _⟩) hS (fun v_76 I_70 R_71 J_72 AI_73 AJ_74 AR_75 H locs zv_76 hp_77 hH hS => ?_)
      dsimp only at hp_77
      obtain ⟨rfl, rfl, rfl, rfl, rfl, rfl⟩ := hp_77
      refine lv_ior F.1 F.2.1 dX7_hangsOn_58 ?_
      refine z_top (fun v_78 zv_78 ev_78 => ?_)
      exact g_iret F hr hlk hH hS hz zv_78 ⟨rfl, rfl, rfl, rfl, rfl, rfl⟩ dX7_hangsOn_59
    · refine lv_iload_n F.1 F.2.1 dX7_hangsOn_36 rfl (lv_at hl 0 rfl) ?_
      refine z_goto (tgt := 59) F dX7_hangsOn_37 (by decide) ?_
      exact g_iret F hr hlk hH hS hz zv_39 ⟨rfl, rfl, rfl, rfl, rfl, rfl⟩ dX7_hangsOn_59
  · refine z_iconst F dX7_hangsOn_8 ?_
    exact g_iret F hr hlk hH hS hz ⟨by decide, by decide⟩ ⟨rfl, rfl, rfl, rfl, rfl, rfl⟩ dX7_hangsOn_9

def rmX7_hangsOn3 : Room := { frames := 3, cells := 0, slots := 0, locals := 65 }
set_option maxHeartbeats 4000000 in
set_option maxRecDepth 100000 in
/-- hangsOn -/
theorem c_X7_hangsOn3 (l : Launch) (g : gG) (gh : gGh) (T : Nat → Int32) (I : gI) (R : gR) (J : gJ) (AI : gI) (AJ : gJ) (AR : gR) (mo : Nat) (rr : Int) (zrr : zr rr) (hv : mInv g gh R I AI) (hm : gO g mo 7) (hT : AI (gh 50 0) = T) (hr0 : 0 ≤ rr ∧ rr < (I mo 2).toInt ∧ rr < 3) : gMet l g yX7_hangsOn tsX7_hangsOn rmX7_hangsOn3 [.ref mo, .int (iI rr)] (I, R, J, AI, AJ, AR) (gQi g (fun (z : Int) (w : gS) => I = w.1 ∧ R = w.2.1 ∧ J = w.2.2.1 ∧ AI = w.2.2.2.1 ∧ AJ = w.2.2.2.2.1 ∧ AR = w.2.2.2.2.2)) := by
  refine gStart (cc := cX7_hangsOn) (maxL := 3) (ret := (some (.int))) (by decide) rfl (Nat.le_of_ble_eq_true rfl) ?_
  intro p e s m below meth c ls F hr hlk hH hz hS hl
  have hl : lv_has ls 3 [(0, .ref mo), (1, .int (iI rr))] := hl
  have hS : va_S (gA g) s.heap s.heap [] := hS
  obtain ⟨H, hHe⟩ : ∃ H : Heap, H = s.heap := ⟨_, rfl⟩
  obtain ⟨locs, hlo⟩ : ∃ k : List Loc, k = [] := ⟨_, rfl⟩
  have hH : gH g I R J AI AJ AR H := by rw [hHe]; exact hH
  have hS : va_S (gA g) s.heap H locs := by rw [hHe, hlo]; exact hS
  suffices hw : W p l e rmX7_hangsOn3 s m ([.ref mo, .int (iI rr)] : List Value).toArray below meth c H locs 0 0 (MQ below (gQi g (fun (z : Int) (w : gS) => I = w.1 ∧ R = w.2.1 ∧ J = w.2.2.1 ∧ AI = w.2.2.2.1 ∧ AJ = w.2.2.2.2.1 ∧ AR = w.2.2.2.2.2)) ([.ref mo, .int (iI rr)] : List Value).toArray s 0 0 (gA g)) (F0 m 0 ls []) by
    rw [hHe, hlo] at hw; exact hw
  clear hHe hlo
  have hb0 := mJ hv hm
  unfold mNum1 at hb0
  have x := mRow hv hm hT (z := rr) (by omega) (by omega)
  have xa := x.1
  have xc := x.2.2.1
  have xb := x.2.1
  refine lv_aload_n F.1 F.2.1 dX7_hangsOn_0 rfl (lv_at hl 0 rfl) ?_
  refine lv_iload_n F.1 F.2.1 dX7_hangsOn_1 rfl (lv_at hl 1 rfl) ?_
  have b_1 := mJ hv hm
  unfold mNum1 at b_1
  refine g_calli (g_runV (As := [.int (iI rr)]) (rest := []) (ci := 7) F hl.1 hH hS hz (c_X7_kindOf l g gh T I R J AI AJ AR mo rr zrr hv hm hT (by omega)) (cwV 1 F.2.2.2.2.1 (good_up gT_X7_kindOf) rfl rfl rfl hdX7_kindOf ⟨Nat.le_of_ble_eq_true rfl, Nat.le_of_ble_eq_true rfl⟩) hm (by decide) rfl rfl rfl (Nat.le_of_ble_eq_true rfl) dX7_hangsOn_2 ⟨Nat.zero_le _, Nat.zero_le _⟩) hS (fun v_8 I_2 R_3 J_4 AI_5 AJ_6 AR_7 H locs zv_8 hp_9 hH hS => ?_)
  dsimp only at hp_9
  obtain ⟨rfl, rfl, rfl, rfl, rfl, rfl, q_10⟩ := hp_9
  refine z_if_ne (tgt := 10) F dX7_hangsOn_5 (by decide) zv_8 (fun c_11 => ?_) (fun c_11 => ?_)
  · refine z_iconst F dX7_hangsOn_10 ?_
    refine lv_aload_n F.1 F.2.1 dX7_hangsOn_11 rfl (lv_at hl 0 rfl) ?_
    refine lv_iload_n F.1 F.2.1 dX7_hangsOn_12 rfl (lv_at hl 1 rfl) ?_
    refine g_calli (g_runV (As := [.int (iI rr)]) (rest := [.int (iI 1)]) (ci := 7) F hl.1 hH hS hz (c_X7_firstOf l g gh T I R J AI AJ AR mo rr zrr hv hm hT (by omega)) (cwV 1 F.2.2.2.2.1 (good_up gT_X7_firstOf) rfl rfl rfl hdX7_firstOf ⟨Nat.le_of_ble_eq_true rfl, Nat.le_of_ble_eq_true rfl⟩) hm (by decide) rfl rfl rfl (Nat.le_of_ble_eq_true rfl) dX7_hangsOn_13 ⟨Nat.zero_le _, Nat.zero_le _⟩) hS (fun v_18 I_12 R_13 J_14 AI_15 AJ_16 AR_17 H locs zv_18 hp_19 hH hS => ?_)
    dsimp only at hp_19
    obtain ⟨rfl, rfl, rfl, rfl, rfl, rfl, q_20⟩ := hp_19
    refine lv_ishl F.1 F.2.1 dX7_hangsOn_16 ?_
    refine z_top (fun v_21 zv_21 ev_21 => ?_)
    refine lv_aload_n F.1 F.2.1 dX7_hangsOn_17 rfl (lv_at hl 0 rfl) ?_
    refine lv_aload_n F.1 F.2.1 dX7_hangsOn_18 rfl (lv_at hl 0 rfl) ?_
    refine lv_iload_n F.1 F.2.1 dX7_hangsOn_19 rfl (lv_at hl 1 rfl) ?_
    refine g_calli (g_runV (As := [.int (iI rr)]) (rest := [.ref mo, .int (iI v_21)]) (ci := 7) F hl.1 hH hS hz (c_X7_firstOf l g gh T I R J AI AJ AR mo rr zrr hv hm hT (by omega)) (cwV 1 F.2.2.2.2.1 (good_up gT_X7_firstOf) rfl rfl rfl hdX7_firstOf ⟨Nat.le_of_ble_eq_true rfl, Nat.le_of_ble_eq_true rfl⟩) hm (by decide) rfl rfl rfl (Nat.le_of_ble_eq_true rfl) dX7_hangsOn_20 ⟨Nat.zero_le _, Nat.zero_le _⟩) hS (fun v_28 I_22 R_23 J_24 AI_25 AJ_26 AR_27 H locs zv_28 hp_29 hH hS => ?_)
    dsimp only at hp_29
    obtain ⟨rfl, rfl, rfl, rfl, rfl, rfl, q_30⟩ := hp_29
    refine g_calli (g_runV (As := [.int (iI v_28)]) (rest := [.int (iI v_21)]) (ci := 7) F hl.1 hH hS hz (c_X7_hangsOn2 l g gh T I R J AI AJ AR mo v_28 zv_28 hv hm hT (by omega)) (cwV 1 F.2.2.2.2.1 (good_up gT_X7_hangsOn) rfl rfl rfl hdX7_hangsOn ⟨Nat.le_of_ble_eq_true rfl, Nat.le_of_ble_eq_true rfl⟩) hm (by decide) rfl rfl rfl (Nat.le_of_ble_eq_true rfl) dX7_hangsOn_23 ⟨Nat.zero_le _, Nat.zero_le _⟩) hS (fun v_37 I_31 R_32 J_33 AI_34 AJ_35 AR_36 H locs zv_37 hp_38 hH hS => ?_)
    dsimp only at hp_38
    obtain ⟨rfl, rfl, rfl, rfl, rfl, rfl⟩ := hp_38
    refine lv_ior F.1 F.2.1 dX7_hangsOn_26 ?_
    refine z_top (fun v_39 zv_39 ev_39 => ?_)
    refine lv_istore_n (lv' := [(2, .int (iI v_39)), (0, .ref mo), (1, .int (iI rr))]) F.1 F.2.1 dX7_hangsOn_27 rfl hl (by decide) rfl (fun ls hl => ?_)
    refine lv_aload_n F.1 F.2.1 dX7_hangsOn_28 rfl (lv_at hl 1 rfl) ?_
    refine lv_iload_n F.1 F.2.1 dX7_hangsOn_29 rfl (lv_at hl 2 rfl) ?_
    refine g_calli (g_runV (As := [.int (iI rr)]) (rest := []) (ci := 7) F hl.1 hH hS hz (c_X7_secondOf l g gh T I R J AI AJ AR mo rr zrr hv hm hT (by omega)) (cwV 1 F.2.2.2.2.1 (good_up gT_X7_secondOf) rfl rfl rfl hdX7_secondOf ⟨Nat.le_of_ble_eq_true rfl, Nat.le_of_ble_eq_true rfl⟩) hm (by decide) rfl rfl rfl (Nat.le_of_ble_eq_true rfl) dX7_hangsOn_30 ⟨Nat.zero_le _, Nat.zero_le _⟩) hS (fun v_46 I_40 R_41 J_42 AI_43 AJ_44 AR_45 H locs zv_46 hp_47 hH hS => ?_)
    dsimp only at hp_47
    obtain ⟨rfl, rfl, rfl, rfl, rfl, rfl, q_48⟩ := hp_47
    refine z_if_ge (tgt := 40) F dX7_hangsOn_33 (by decide) zv_46 (fun c_49 => ?_) (fun c_49 => ?_)
    · refine lv_iload_n F.1 F.2.1 dX7_hangsOn_40 rfl (lv_at hl 0 rfl) ?_
      refine z_iconst F dX7_hangsOn_41 ?_
      refine lv_aload_n F.1 F.2.1 dX7_hangsOn_42 rfl (lv_at hl 1 rfl) ?_
      refine lv_iload_n F.1 F.2.1 dX7_hangsOn_43 rfl (lv_at hl 2 rfl) ?_
      refine g_calli (g_runV (As := [.int (iI rr)]) (rest := [.int (iI 1), .int (iI v_39)]) (ci := 7) F hl.1 hH hS hz (c_X7_secondOf l g gh T I R J AI AJ AR mo rr zrr hv hm hT (by omega)) (cwV 1 F.2.2.2.2.1 (good_up gT_X7_secondOf) rfl rfl rfl hdX7_secondOf ⟨Nat.le_of_ble_eq_true rfl, Nat.le_of_ble_eq_true rfl⟩) hm (by decide) rfl rfl rfl (Nat.le_of_ble_eq_true rfl) dX7_hangsOn_44 ⟨Nat.zero_le _, Nat.zero_le _⟩) hS (fun v_56 I_50 R_51 J_52 AI_53 AJ_54 AR_55 H locs zv_56 hp_57 hH hS => ?_)
      dsimp only at hp_57
      obtain ⟨rfl, rfl, rfl, rfl, rfl, rfl, q_58⟩ := hp_57
      refine lv_ishl F.1 F.2.1 dX7_hangsOn_47 ?_
      refine z_top (fun v_59 zv_59 ev_59 => ?_)
      refine lv_ior F.1 F.2.1 dX7_hangsOn_48 ?_
      refine z_top (fun v_60 zv_60 ev_60 => ?_)
      refine lv_aload_n F.1 F.2.1 dX7_hangsOn_49 rfl (lv_at hl 1 rfl) ?_
      refine lv_aload_n F.1 F.2.1 dX7_hangsOn_50 rfl (lv_at hl 1 rfl) ?_
      refine lv_iload_n F.1 F.2.1 dX7_hangsOn_51 rfl (lv_at hl 2 rfl) ?_
      refine g_calli (g_runV (As := [.int (iI rr)]) (rest := [.ref mo, .int (iI v_60)]) (ci := 7) F hl.1 hH hS hz (c_X7_secondOf l g gh T I R J AI AJ AR mo rr zrr hv hm hT (by omega)) (cwV 1 F.2.2.2.2.1 (good_up gT_X7_secondOf) rfl rfl rfl hdX7_secondOf ⟨Nat.le_of_ble_eq_true rfl, Nat.le_of_ble_eq_true rfl⟩) hm (by decide) rfl rfl rfl (Nat.le_of_ble_eq_true rfl) dX7_hangsOn_52 ⟨Nat.zero_le _, Nat.zero_le _⟩) hS (fun v_67 I_61 R_62 J_63 AI_64 AJ_65 AR_66 H locs zv_67 hp_68 hH hS => ?_)
      dsimp only at hp_68
      obtain ⟨rfl, rfl, rfl, rfl, rfl, rfl, q_69⟩ := hp_68
      refine g_calli (g_runV (As := [.int (iI v_67)]) (rest := [.int (iI v_60)]) (ci := 7) F hl.1 hH hS hz (c_X7_hangsOn2 l g gh T I R J AI AJ AR mo v_67 zv_67 hv hm hT (by omega)) (cwV 1 F.2.2.2.2.1 (good_up gT_X7_hangsOn) rfl rfl rfl hdX7_hangsOn ⟨Nat.le_of_ble_eq_true rfl, Nat.le_of_ble_eq_true rfl⟩) hm (by decide) rfl rfl rfl (Nat.le_of_ble_eq_true rfl) dX7_hangsOn_55 ⟨Nat.zero_le _, Nat.zero_le _⟩) hS (fun v_76 I_70 R_71 J_72 AI_73 AJ_74 AR_75 H locs zv_76 hp_77 hH hS => ?_)
      dsimp only at hp_77
      obtain ⟨rfl, rfl, rfl, rfl, rfl, rfl⟩ := hp_77
      refine lv_ior F.1 F.2.1 dX7_hangsOn_58 ?_
      refine z_top (fun v_78 zv_78 ev_78 => ?_)
      exact g_iret F hr hlk hH hS hz zv_78 ⟨rfl, rfl, rfl, rfl, rfl, rfl⟩ dX7_hangsOn_59
    · refine lv_iload_n F.1 F.2.1 dX7_hangsOn_36 rfl (lv_at hl 0 rfl) ?_
      refine z_goto (tgt := 59) F dX7_hangsOn_37 (by decide) ?_
      exact g_iret F hr hlk hH hS hz zv_39 ⟨rfl, rfl, rfl, rfl, rfl, rfl⟩ dX7_hangsOn_59
  · refine z_iconst F dX7_hangsOn_8 ?_
    exact g_iret F hr hlk hH hS hz ⟨by decide, by decide⟩ ⟨rfl, rfl, rfl, rfl, rfl, rfl⟩ dX7_hangsOn_9

def rmX7_hangsOn4 : Room := { frames := 4, cells := 0, slots := 0, locals := 87 }
set_option maxHeartbeats 4000000 in
set_option maxRecDepth 100000 in
/-- hangsOn -/
theorem c_X7_hangsOn4 (l : Launch) (g : gG) (gh : gGh) (T : Nat → Int32) (I : gI) (R : gR) (J : gJ) (AI : gI) (AJ : gJ) (AR : gR) (mo : Nat) (rr : Int) (zrr : zr rr) (hv : mInv g gh R I AI) (hm : gO g mo 7) (hT : AI (gh 50 0) = T) (hr0 : 0 ≤ rr ∧ rr < (I mo 2).toInt ∧ rr < 4) : gMet l g yX7_hangsOn tsX7_hangsOn rmX7_hangsOn4 [.ref mo, .int (iI rr)] (I, R, J, AI, AJ, AR) (gQi g (fun (z : Int) (w : gS) => I = w.1 ∧ R = w.2.1 ∧ J = w.2.2.1 ∧ AI = w.2.2.2.1 ∧ AJ = w.2.2.2.2.1 ∧ AR = w.2.2.2.2.2)) := by
  refine gStart (cc := cX7_hangsOn) (maxL := 3) (ret := (some (.int))) (by decide) rfl (Nat.le_of_ble_eq_true rfl) ?_
  intro p e s m below meth c ls F hr hlk hH hz hS hl
  have hl : lv_has ls 3 [(0, .ref mo), (1, .int (iI rr))] := hl
  have hS : va_S (gA g) s.heap s.heap [] := hS
  obtain ⟨H, hHe⟩ : ∃ H : Heap, H = s.heap := ⟨_, rfl⟩
  obtain ⟨locs, hlo⟩ : ∃ k : List Loc, k = [] := ⟨_, rfl⟩
  have hH : gH g I R J AI AJ AR H := by rw [hHe]; exact hH
  have hS : va_S (gA g) s.heap H locs := by rw [hHe, hlo]; exact hS
  suffices hw : W p l e rmX7_hangsOn4 s m ([.ref mo, .int (iI rr)] : List Value).toArray below meth c H locs 0 0 (MQ below (gQi g (fun (z : Int) (w : gS) => I = w.1 ∧ R = w.2.1 ∧ J = w.2.2.1 ∧ AI = w.2.2.2.1 ∧ AJ = w.2.2.2.2.1 ∧ AR = w.2.2.2.2.2)) ([.ref mo, .int (iI rr)] : List Value).toArray s 0 0 (gA g)) (F0 m 0 ls []) by
    rw [hHe, hlo] at hw; exact hw
  clear hHe hlo
  have hb0 := mJ hv hm
  unfold mNum1 at hb0
  have x := mRow hv hm hT (z := rr) (by omega) (by omega)
  have xa := x.1
  have xc := x.2.2.1
  have xb := x.2.1
  refine lv_aload_n F.1 F.2.1 dX7_hangsOn_0 rfl (lv_at hl 0 rfl) ?_
  refine lv_iload_n F.1 F.2.1 dX7_hangsOn_1 rfl (lv_at hl 1 rfl) ?_
  have b_1 := mJ hv hm
  unfold mNum1 at b_1
  refine g_calli (g_runV (As := [.int (iI rr)]) (rest := []) (ci := 7) F hl.1 hH hS hz (c_X7_kindOf l g gh T I R J AI AJ AR mo rr zrr hv hm hT (by omega)) (cwV 1 F.2.2.2.2.1 (good_up gT_X7_kindOf) rfl rfl rfl hdX7_kindOf ⟨Nat.le_of_ble_eq_true rfl, Nat.le_of_ble_eq_true rfl⟩) hm (by decide) rfl rfl rfl (Nat.le_of_ble_eq_true rfl) dX7_hangsOn_2 ⟨Nat.zero_le _, Nat.zero_le _⟩) hS (fun v_8 I_2 R_3 J_4 AI_5 AJ_6 AR_7 H locs zv_8 hp_9 hH hS => ?_)
  dsimp only at hp_9
  obtain ⟨rfl, rfl, rfl, rfl, rfl, rfl, q_10⟩ := hp_9
  refine z_if_ne (tgt := 10) F dX7_hangsOn_5 (by decide) zv_8 (fun c_11 => ?_) (fun c_11 => ?_)
  · refine z_iconst F dX7_hangsOn_10 ?_
    refine lv_aload_n F.1 F.2.1 dX7_hangsOn_11 rfl (lv_at hl 0 rfl) ?_
    refine lv_iload_n F.1 F.2.1 dX7_hangsOn_12 rfl (lv_at hl 1 rfl) ?_
    refine g_calli (g_runV (As := [.int (iI rr)]) (rest := [.int (iI 1)]) (ci := 7) F hl.1 hH hS hz (c_X7_firstOf l g gh T I R J AI AJ AR mo rr zrr hv hm hT (by omega)) (cwV 1 F.2.2.2.2.1 (good_up gT_X7_firstOf) rfl rfl rfl hdX7_firstOf ⟨Nat.le_of_ble_eq_true rfl, Nat.le_of_ble_eq_true rfl⟩) hm (by decide) rfl rfl rfl (Nat.le_of_ble_eq_true rfl) dX7_hangsOn_13 ⟨Nat.zero_le _, Nat.zero_le _⟩) hS (fun v_18 I_12 R_13 J_14 AI_15 AJ_16 AR_17 H locs zv_18 hp_19 hH hS => ?_)
    dsimp only at hp_19
    obtain ⟨rfl, rfl, rfl, rfl, rfl, rfl, q_20⟩ := hp_19
    refine lv_ishl F.1 F.2.1 dX7_hangsOn_16 ?_
    refine z_top (fun v_21 zv_21 ev_21 => ?_)
    refine lv_aload_n F.1 F.2.1 dX7_hangsOn_17 rfl (lv_at hl 0 rfl) ?_
    refine lv_aload_n F.1 F.2.1 dX7_hangsOn_18 rfl (lv_at hl 0 rfl) ?_
    refine lv_iload_n F.1 F.2.1 dX7_hangsOn_19 rfl (lv_at hl 1 rfl) ?_
    refine g_calli (g_runV (As := [.int (iI rr)]) (rest := [.ref mo, .int (iI v_21)]) (ci := 7) F hl.1 hH hS hz (c_X7_firstOf l g gh T I R J AI AJ AR mo rr zrr hv hm hT (by omega)) (cwV 1 F.2.2.2.2.1 (good_up gT_X7_firstOf) rfl rfl rfl hdX7_firstOf ⟨Nat.le_of_ble_eq_true rfl, Nat.le_of_ble_eq_true rfl⟩) hm (by decide) rfl rfl rfl (Nat.le_of_ble_eq_true rfl) dX7_hangsOn_20 ⟨Nat.zero_le _, Nat.zero_le _⟩) hS (fun v_28 I_22 R_23 J_24 AI_25 AJ_26 AR_27 H locs zv_28 hp_29 hH hS => ?_)
    dsimp only at hp_29
    obtain ⟨rfl, rfl, rfl, rfl, rfl, rfl, q_30⟩ := hp_29
    refine g_calli (g_runV (As := [.int (iI v_28)]) (rest := [.int (iI v_21)]) (ci := 7) F hl.1 hH hS hz (c_X7_hangsOn3 l g gh T I R J AI AJ AR mo v_28 zv_28 hv hm hT (by omega)) (cwV 1 F.2.2.2.2.1 (good_up gT_X7_hangsOn) rfl rfl rfl hdX7_hangsOn ⟨Nat.le_of_ble_eq_true rfl, Nat.le_of_ble_eq_true rfl⟩) hm (by decide) rfl rfl rfl (Nat.le_of_ble_eq_true rfl) dX7_hangsOn_23 ⟨Nat.zero_le _, Nat.zero_le _⟩) hS (fun v_37 I_31 R_32 J_33 AI_34 AJ_35 AR_36 H locs zv_37 hp_38 hH hS => ?_)
    dsimp only at hp_38
    obtain ⟨rfl, rfl, rfl, rfl, rfl, rfl⟩ := hp_38
    refine lv_ior F.1 F.2.1 dX7_hangsOn_26 ?_
    refine z_top (fun v_39 zv_39 ev_39 => ?_)
    refine lv_istore_n (lv' := [(2, .int (iI v_39)), (0, .ref mo), (1, .int (iI rr))]) F.1 F.2.1 dX7_hangsOn_27 rfl hl (by decide) rfl (fun ls hl => ?_)
    refine lv_aload_n F.1 F.2.1 dX7_hangsOn_28 rfl (lv_at hl 1 rfl) ?_
    refine lv_iload_n F.1 F.2.1 dX7_hangsOn_29 rfl (lv_at hl 2 rfl) ?_
    refine g_calli (g_runV (As := [.int (iI rr)]) (rest := []) (ci := 7) F hl.1 hH hS hz (c_X7_secondOf l g gh T I R J AI AJ AR mo rr zrr hv hm hT (by omega)) (cwV 1 F.2.2.2.2.1 (good_up gT_X7_secondOf) rfl rfl rfl hdX7_secondOf ⟨Nat.le_of_ble_eq_true rfl, Nat.le_of_ble_eq_true rfl⟩) hm (by decide) rfl rfl rfl (Nat.le_of_ble_eq_true rfl) dX7_hangsOn_30 ⟨Nat.zero_le _, Nat.zero_le _⟩) hS (fun v_46 I_40 R_41 J_42 AI_43 AJ_44 AR_45 H locs zv_46 hp_47 hH hS => ?_)
    dsimp only at hp_47
    obtain ⟨rfl, rfl, rfl, rfl, rfl, rfl, q_48⟩ := hp_47
    refine z_if_ge (tgt := 40) F dX7_hangsOn_33 (by decide) zv_46 (fun c_49 => ?_) (fun c_49 => ?_)
    · refine lv_iload_n F.1 F.2.1 dX7_hangsOn_40 rfl (lv_at hl 0 rfl) ?_
      refine z_iconst F dX7_hangsOn_41 ?_
      refine lv_aload_n F.1 F.2.1 dX7_hangsOn_42 rfl (lv_at hl 1 rfl) ?_
      refine lv_iload_n F.1 F.2.1 dX7_hangsOn_43 rfl (lv_at hl 2 rfl) ?_
      refine g_calli (g_runV (As := [.int (iI rr)]) (rest := [.int (iI 1), .int (iI v_39)]) (ci := 7) F hl.1 hH hS hz (c_X7_secondOf l g gh T I R J AI AJ AR mo rr zrr hv hm hT (by omega)) (cwV 1 F.2.2.2.2.1 (good_up gT_X7_secondOf) rfl rfl rfl hdX7_secondOf ⟨Nat.le_of_ble_eq_true rfl, Nat.le_of_ble_eq_true rfl⟩) hm (by decide) rfl rfl rfl (Nat.le_of_ble_eq_true rfl) dX7_hangsOn_44 ⟨Nat.zero_le _, Nat.zero_le _⟩) hS (fun v_56 I_50 R_51 J_52 AI_53 AJ_54 AR_55 H locs zv_56 hp_57 hH hS => ?_)
      dsimp only at hp_57
      obtain ⟨rfl, rfl, rfl, rfl, rfl, rfl, q_58⟩ := hp_57
      refine lv_ishl F.1 F.2.1 dX7_hangsOn_47 ?_
      refine z_top (fun v_59 zv_59 ev_59 => ?_)
      refine lv_ior F.1 F.2.1 dX7_hangsOn_48 ?_
      refine z_top (fun v_60 zv_60 ev_60 => ?_)
      refine lv_aload_n F.1 F.2.1 dX7_hangsOn_49 rfl (lv_at hl 1 rfl) ?_
      refine lv_aload_n F.1 F.2.1 dX7_hangsOn_50 rfl (lv_at hl 1 rfl) ?_
      refine lv_iload_n F.1 F.2.1 dX7_hangsOn_51 rfl (lv_at hl 2 rfl) ?_
      refine g_calli (g_runV (As := [.int (iI rr)]) (rest := [.ref mo, .int (iI v_60)]) (ci := 7) F hl.1 hH hS hz (c_X7_secondOf l g gh T I R J AI AJ AR mo rr zrr hv hm hT (by omega)) (cwV 1 F.2.2.2.2.1 (good_up gT_X7_secondOf) rfl rfl rfl hdX7_secondOf ⟨Nat.le_of_ble_eq_true rfl, Nat.le_of_ble_eq_true rfl⟩) hm (by decide) rfl rfl rfl (Nat.le_of_ble_eq_true rfl) dX7_hangsOn_52 ⟨Nat.zero_le _, Nat.zero_le _⟩) hS (fun v_67 I_61 R_62 J_63 AI_64 AJ_65 AR_66 H locs zv_67 hp_68 hH hS => ?_)
      dsimp only at hp_68
      obtain ⟨rfl, rfl, rfl, rfl, rfl, rfl, q_69⟩ := hp_68
      refine g_calli (g_runV (As := [.int (iI v_67)]) (rest := [.int (iI v_60)]) (ci := 7) F hl.1 hH hS hz (c_X7_hangsOn3 l g gh T I R J AI AJ AR mo v_67 zv_67 hv hm hT (by omega)) (cwV 1 F.2.2.2.2.1 (good_up gT_X7_hangsOn) rfl rfl rfl hdX7_hangsOn ⟨Nat.le_of_ble_eq_true rfl, Nat.le_of_ble_eq_true rfl⟩) hm (by decide) rfl rfl rfl (Nat.le_of_ble_eq_true rfl) dX7_hangsOn_55 ⟨Nat.zero_le _, Nat.zero_le _⟩) hS (fun v_76 I_70 R_71 J_72 AI_73 AJ_74 AR_75 H locs zv_76 hp_77 hH hS => ?_)
      dsimp only at hp_77
      obtain ⟨rfl, rfl, rfl, rfl, rfl, rfl⟩ := hp_77
      refine lv_ior F.1 F.2.1 dX7_hangsOn_58 ?_
      refine z_top (fun v_78 zv_78 ev_78 => ?_)
      exact g_iret F hr hlk hH hS hz zv_78 ⟨rfl, rfl, rfl, rfl, rfl, rfl⟩ dX7_hangsOn_59
    · refine lv_iload_n F.1 F.2.1 dX7_hangsOn_36 rfl (lv_at hl 0 rfl) ?_
      refine z_goto (tgt := 59) F dX7_hangsOn_37 (by decide) ?_
      exact g_iret F hr hlk hH hS hz zv_39 ⟨rfl, rfl, rfl, rfl, rfl, rfl⟩ dX7_hangsOn_59
  · refine z_iconst F dX7_hangsOn_8 ?_
    exact g_iret F hr hlk hH hS hz ⟨by decide, by decide⟩ ⟨rfl, rfl, rfl, rfl, rfl, rfl⟩ dX7_hangsOn_9

def rmX7_hangsOn5 : Room := { frames := 5, cells := 0, slots := 0, locals := 109 }
set_option maxHeartbeats 4000000 in
set_option maxRecDepth 100000 in
/-- hangsOn -/
theorem c_X7_hangsOn5 (l : Launch) (g : gG) (gh : gGh) (T : Nat → Int32) (I : gI) (R : gR) (J : gJ) (AI : gI) (AJ : gJ) (AR : gR) (mo : Nat) (rr : Int) (zrr : zr rr) (hv : mInv g gh R I AI) (hm : gO g mo 7) (hT : AI (gh 50 0) = T) (hr0 : 0 ≤ rr ∧ rr < (I mo 2).toInt ∧ rr < 5) : gMet l g yX7_hangsOn tsX7_hangsOn rmX7_hangsOn5 [.ref mo, .int (iI rr)] (I, R, J, AI, AJ, AR) (gQi g (fun (z : Int) (w : gS) => I = w.1 ∧ R = w.2.1 ∧ J = w.2.2.1 ∧ AI = w.2.2.2.1 ∧ AJ = w.2.2.2.2.1 ∧ AR = w.2.2.2.2.2)) := by
  refine gStart (cc := cX7_hangsOn) (maxL := 3) (ret := (some (.int))) (by decide) rfl (Nat.le_of_ble_eq_true rfl) ?_
  intro p e s m below meth c ls F hr hlk hH hz hS hl
  have hl : lv_has ls 3 [(0, .ref mo), (1, .int (iI rr))] := hl
  have hS : va_S (gA g) s.heap s.heap [] := hS
  obtain ⟨H, hHe⟩ : ∃ H : Heap, H = s.heap := ⟨_, rfl⟩
  obtain ⟨locs, hlo⟩ : ∃ k : List Loc, k = [] := ⟨_, rfl⟩
  have hH : gH g I R J AI AJ AR H := by rw [hHe]; exact hH
  have hS : va_S (gA g) s.heap H locs := by rw [hHe, hlo]; exact hS
  suffices hw : W p l e rmX7_hangsOn5 s m ([.ref mo, .int (iI rr)] : List Value).toArray below meth c H locs 0 0 (MQ below (gQi g (fun (z : Int) (w : gS) => I = w.1 ∧ R = w.2.1 ∧ J = w.2.2.1 ∧ AI = w.2.2.2.1 ∧ AJ = w.2.2.2.2.1 ∧ AR = w.2.2.2.2.2)) ([.ref mo, .int (iI rr)] : List Value).toArray s 0 0 (gA g)) (F0 m 0 ls []) by
    rw [hHe, hlo] at hw; exact hw
  clear hHe hlo
  have hb0 := mJ hv hm
  unfold mNum1 at hb0
  have x := mRow hv hm hT (z := rr) (by omega) (by omega)
  have xa := x.1
  have xc := x.2.2.1
  have xb := x.2.1
  refine lv_aload_n F.1 F.2.1 dX7_hangsOn_0 rfl (lv_at hl 0 rfl) ?_
  refine lv_iload_n F.1 F.2.1 dX7_hangsOn_1 rfl (lv_at hl 1 rfl) ?_
  have b_1 := mJ hv hm
  unfold mNum1 at b_1
  refine g_calli (g_runV (As := [.int (iI rr)]) (rest := []) (ci := 7) F hl.1 hH hS hz (c_X7_kindOf l g gh T I R J AI AJ AR mo rr zrr hv hm hT (by omega)) (cwV 1 F.2.2.2.2.1 (good_up gT_X7_kindOf) rfl rfl rfl hdX7_kindOf ⟨Nat.le_of_ble_eq_true rfl, Nat.le_of_ble_eq_true rfl⟩) hm (by decide) rfl rfl rfl (Nat.le_of_ble_eq_true rfl) dX7_hangsOn_2 ⟨Nat.zero_le _, Nat.zero_le _⟩) hS (fun v_8 I_2 R_3 J_4 AI_5 AJ_6 AR_7 H locs zv_8 hp_9 hH hS => ?_)
  dsimp only at hp_9
  obtain ⟨rfl, rfl, rfl, rfl, rfl, rfl, q_10⟩ := hp_9
  refine z_if_ne (tgt := 10) F dX7_hangsOn_5 (by decide) zv_8 (fun c_11 => ?_) (fun c_11 => ?_)
  · refine z_iconst F dX7_hangsOn_10 ?_
    refine lv_aload_n F.1 F.2.1 dX7_hangsOn_11 rfl (lv_at hl 0 rfl) ?_
    refine lv_iload_n F.1 F.2.1 dX7_hangsOn_12 rfl (lv_at hl 1 rfl) ?_
    refine g_calli (g_runV (As := [.int (iI rr)]) (rest := [.int (iI 1)]) (ci := 7) F hl.1 hH hS hz (c_X7_firstOf l g gh T I R J AI AJ AR mo rr zrr hv hm hT (by omega)) (cwV 1 F.2.2.2.2.1 (good_up gT_X7_firstOf) rfl rfl rfl hdX7_firstOf ⟨Nat.le_of_ble_eq_true rfl, Nat.le_of_ble_eq_true rfl⟩) hm (by decide) rfl rfl rfl (Nat.le_of_ble_eq_true rfl) dX7_hangsOn_13 ⟨Nat.zero_le _, Nat.zero_le _⟩) hS (fun v_18 I_12 R_13 J_14 AI_15 AJ_16 AR_17 H locs zv_18 hp_19 hH hS => ?_)
    dsimp only at hp_19
    obtain ⟨rfl, rfl, rfl, rfl, rfl, rfl, q_20⟩ := hp_19
    refine lv_ishl F.1 F.2.1 dX7_hangsOn_16 ?_
    refine z_top (fun v_21 zv_21 ev_21 => ?_)
    refine lv_aload_n F.1 F.2.1 dX7_hangsOn_17 rfl (lv_at hl 0 rfl) ?_
    refine lv_aload_n F.1 F.2.1 dX7_hangsOn_18 rfl (lv_at hl 0 rfl) ?_
    refine lv_iload_n F.1 F.2.1 dX7_hangsOn_19 rfl (lv_at hl 1 rfl) ?_
    refine g_calli (g_runV (As := [.int (iI rr)]) (rest := [.ref mo, .int (iI v_21)]) (ci := 7) F hl.1 hH hS hz (c_X7_firstOf l g gh T I R J AI AJ AR mo rr zrr hv hm hT (by omega)) (cwV 1 F.2.2.2.2.1 (good_up gT_X7_firstOf) rfl rfl rfl hdX7_firstOf ⟨Nat.le_of_ble_eq_true rfl, Nat.le_of_ble_eq_true rfl⟩) hm (by decide) rfl rfl rfl (Nat.le_of_ble_eq_true rfl) dX7_hangsOn_20 ⟨Nat.zero_le _, Nat.zero_le _⟩) hS (fun v_28 I_22 R_23 J_24 AI_25 AJ_26 AR_27 H locs zv_28 hp_29 hH hS => ?_)
    dsimp only at hp_29
    obtain ⟨rfl, rfl, rfl, rfl, rfl, rfl, q_30⟩ := hp_29
    refine g_calli (g_runV (As := [.int (iI v_28)]) (rest := [.int (iI v_21)]) (ci := 7) F hl.1 hH hS hz (c_X7_hangsOn4 l g gh T I R J AI AJ AR mo v_28 zv_28 hv hm hT (by omega)) (cwV 1 F.2.2.2.2.1 (good_up gT_X7_hangsOn) rfl rfl rfl hdX7_hangsOn ⟨Nat.le_of_ble_eq_true rfl, Nat.le_of_ble_eq_true rfl⟩) hm (by decide) rfl rfl rfl (Nat.le_of_ble_eq_true rfl) dX7_hangsOn_23 ⟨Nat.zero_le _, Nat.zero_le _⟩) hS (fun v_37 I_31 R_32 J_33 AI_34 AJ_35 AR_36 H locs zv_37 hp_38 hH hS => ?_)
    dsimp only at hp_38
    obtain ⟨rfl, rfl, rfl, rfl, rfl, rfl⟩ := hp_38
    refine lv_ior F.1 F.2.1 dX7_hangsOn_26 ?_
    refine z_top (fun v_39 zv_39 ev_39 => ?_)
    refine lv_istore_n (lv' := [(2, .int (iI v_39)), (0, .ref mo), (1, .int (iI rr))]) F.1 F.2.1 dX7_hangsOn_27 rfl hl (by decide) rfl (fun ls hl => ?_)
    refine lv_aload_n F.1 F.2.1 dX7_hangsOn_28 rfl (lv_at hl 1 rfl) ?_
    refine lv_iload_n F.1 F.2.1 dX7_hangsOn_29 rfl (lv_at hl 2 rfl) ?_
    refine g_calli (g_runV (As := [.int (iI rr)]) (rest := []) (ci := 7) F hl.1 hH hS hz (c_X7_secondOf l g gh T I R J AI AJ AR mo rr zrr hv hm hT (by omega)) (cwV 1 F.2.2.2.2.1 (good_up gT_X7_secondOf) rfl rfl rfl hdX7_secondOf ⟨Nat.le_of_ble_eq_true rfl, Nat.le_of_ble_eq_true rfl⟩) hm (by decide) rfl rfl rfl (Nat.le_of_ble_eq_true rfl) dX7_hangsOn_30 ⟨Nat.zero_le _, Nat.zero_le _⟩) hS (fun v_46 I_40 R_41 J_42 AI_43 AJ_44 AR_45 H locs zv_46 hp_47 hH hS => ?_)
    dsimp only at hp_47
    obtain ⟨rfl, rfl, rfl, rfl, rfl, rfl, q_48⟩ := hp_47
    refine z_if_ge (tgt := 40) F dX7_hangsOn_33 (by decide) zv_46 (fun c_49 => ?_) (fun c_49 => ?_)
    · refine lv_iload_n F.1 F.2.1 dX7_hangsOn_40 rfl (lv_at hl 0 rfl) ?_
      refine z_iconst F dX7_hangsOn_41 ?_
      refine lv_aload_n F.1 F.2.1 dX7_hangsOn_42 rfl (lv_at hl 1 rfl) ?_
      refine lv_iload_n F.1 F.2.1 dX7_hangsOn_43 rfl (lv_at hl 2 rfl) ?_
      refine g_calli (g_runV (As := [.int (iI rr)]) (rest := [.int (iI 1), .int (iI v_39)]) (ci := 7) F hl.1 hH hS hz (c_X7_secondOf l g gh T I R J AI AJ AR mo rr zrr hv hm hT (by omega)) (cwV 1 F.2.2.2.2.1 (good_up gT_X7_secondOf) rfl rfl rfl hdX7_secondOf ⟨Nat.le_of_ble_eq_true rfl, Nat.le_of_ble_eq_true rfl⟩) hm (by decide) rfl rfl rfl (Nat.le_of_ble_eq_true rfl) dX7_hangsOn_44 ⟨Nat.zero_le _, Nat.zero_le _⟩) hS (fun v_56 I_50 R_51 J_52 AI_53 AJ_54 AR_55 H locs zv_56 hp_57 hH hS => ?_)
      dsimp only at hp_57
      obtain ⟨rfl, rfl, rfl, rfl, rfl, rfl, q_58⟩ := hp_57
      refine lv_ishl F.1 F.2.1 dX7_hangsOn_47 ?_
      refine z_top (fun v_59 zv_59 ev_59 => ?_)
      refine lv_ior F.1 F.2.1 dX7_hangsOn_48 ?_
      refine z_top (fun v_60 zv_60 ev_60 => ?_)
      refine lv_aload_n F.1 F.2.1 dX7_hangsOn_49 rfl (lv_at hl 1 rfl) ?_
      refine lv_aload_n F.1 F.2.1 dX7_hangsOn_50 rfl (lv_at hl 1 rfl) ?_
      refine lv_iload_n F.1 F.2.1 dX7_hangsOn_51 rfl (lv_at hl 2 rfl) ?_
      refine g_calli (g_runV (As := [.int (iI rr)]) (rest := [.ref mo, .int (iI v_60)]) (ci := 7) F hl.1 hH hS hz (c_X7_secondOf l g gh T I R J AI AJ AR mo rr zrr hv hm hT (by omega)) (cwV 1 F.2.2.2.2.1 (good_up gT_X7_secondOf) rfl rfl rfl hdX7_secondOf ⟨Nat.le_of_ble_eq_true rfl, Nat.le_of_ble_eq_true rfl⟩) hm (by decide) rfl rfl rfl (Nat.le_of_ble_eq_true rfl) dX7_hangsOn_52 ⟨Nat.zero_le _, Nat.zero_le _⟩) hS (fun v_67 I_61 R_62 J_63 AI_64 AJ_65 AR_66 H locs zv_67 hp_68 hH hS => ?_)
      dsimp only at hp_68
      obtain ⟨rfl, rfl, rfl, rfl, rfl, rfl, q_69⟩ := hp_68
      refine g_calli (g_runV (As := [.int (iI v_67)]) (rest := [.int (iI v_60)]) (ci := 7) F hl.1 hH hS hz (c_X7_hangsOn4 l g gh T I R J AI AJ AR mo v_67 zv_67 hv hm hT (by omega)) (cwV 1 F.2.2.2.2.1 (good_up gT_X7_hangsOn) rfl rfl rfl hdX7_hangsOn ⟨Nat.le_of_ble_eq_true rfl, Nat.le_of_ble_eq_true rfl⟩) hm (by decide) rfl rfl rfl (Nat.le_of_ble_eq_true rfl) dX7_hangsOn_55 ⟨Nat.zero_le _, Nat.zero_le _⟩) hS (fun v_76 I_70 R_71 J_72 AI_73 AJ_74 AR_75 H locs zv_76 hp_77 hH hS => ?_)
      dsimp only at hp_77
      obtain ⟨rfl, rfl, rfl, rfl, rfl, rfl⟩ := hp_77
      refine lv_ior F.1 F.2.1 dX7_hangsOn_58 ?_
      refine z_top (fun v_78 zv_78 ev_78 => ?_)
      exact g_iret F hr hlk hH hS hz zv_78 ⟨rfl, rfl, rfl, rfl, rfl, rfl⟩ dX7_hangsOn_59
    · refine lv_iload_n F.1 F.2.1 dX7_hangsOn_36 rfl (lv_at hl 0 rfl) ?_
      refine z_goto (tgt := 59) F dX7_hangsOn_37 (by decide) ?_
      exact g_iret F hr hlk hH hS hz zv_39 ⟨rfl, rfl, rfl, rfl, rfl, rfl⟩ dX7_hangsOn_59
  · refine z_iconst F dX7_hangsOn_8 ?_
    exact g_iret F hr hlk hH hS hz ⟨by decide, by decide⟩ ⟨rfl, rfl, rfl, rfl, rfl, rfl⟩ dX7_hangsOn_9

def rmX7_hangsOn6 : Room := { frames := 6, cells := 0, slots := 0, locals := 131 }
set_option maxHeartbeats 4000000 in
set_option maxRecDepth 100000 in
/-- hangsOn -/
theorem c_X7_hangsOn6 (l : Launch) (g : gG) (gh : gGh) (T : Nat → Int32) (I : gI) (R : gR) (J : gJ) (AI : gI) (AJ : gJ) (AR : gR) (mo : Nat) (rr : Int) (zrr : zr rr) (hv : mInv g gh R I AI) (hm : gO g mo 7) (hT : AI (gh 50 0) = T) (hr0 : 0 ≤ rr ∧ rr < (I mo 2).toInt ∧ rr < 6) : gMet l g yX7_hangsOn tsX7_hangsOn rmX7_hangsOn6 [.ref mo, .int (iI rr)] (I, R, J, AI, AJ, AR) (gQi g (fun (z : Int) (w : gS) => I = w.1 ∧ R = w.2.1 ∧ J = w.2.2.1 ∧ AI = w.2.2.2.1 ∧ AJ = w.2.2.2.2.1 ∧ AR = w.2.2.2.2.2)) := by
  refine gStart (cc := cX7_hangsOn) (maxL := 3) (ret := (some (.int))) (by decide) rfl (Nat.le_of_ble_eq_true rfl) ?_
  intro p e s m below meth c ls F hr hlk hH hz hS hl
  have hl : lv_has ls 3 [(0, .ref mo), (1, .int (iI rr))] := hl
  have hS : va_S (gA g) s.heap s.heap [] := hS
  obtain ⟨H, hHe⟩ : ∃ H : Heap, H = s.heap := ⟨_, rfl⟩
  obtain ⟨locs, hlo⟩ : ∃ k : List Loc, k = [] := ⟨_, rfl⟩
  have hH : gH g I R J AI AJ AR H := by rw [hHe]; exact hH
  have hS : va_S (gA g) s.heap H locs := by rw [hHe, hlo]; exact hS
  suffices hw : W p l e rmX7_hangsOn6 s m ([.ref mo, .int (iI rr)] : List Value).toArray below meth c H locs 0 0 (MQ below (gQi g (fun (z : Int) (w : gS) => I = w.1 ∧ R = w.2.1 ∧ J = w.2.2.1 ∧ AI = w.2.2.2.1 ∧ AJ = w.2.2.2.2.1 ∧ AR = w.2.2.2.2.2)) ([.ref mo, .int (iI rr)] : List Value).toArray s 0 0 (gA g)) (F0 m 0 ls []) by
    rw [hHe, hlo] at hw; exact hw
  clear hHe hlo
  have hb0 := mJ hv hm
  unfold mNum1 at hb0
  have x := mRow hv hm hT (z := rr) (by omega) (by omega)
  have xa := x.1
  have xc := x.2.2.1
  have xb := x.2.1
  refine lv_aload_n F.1 F.2.1 dX7_hangsOn_0 rfl (lv_at hl 0 rfl) ?_
  refine lv_iload_n F.1 F.2.1 dX7_hangsOn_1 rfl (lv_at hl 1 rfl) ?_
  have b_1 := mJ hv hm
  unfold mNum1 at b_1
  refine g_calli (g_runV (As := [.int (iI rr)]) (rest := []) (ci := 7) F hl.1 hH hS hz (c_X7_kindOf l g gh T I R J AI AJ AR mo rr zrr hv hm hT (by omega)) (cwV 1 F.2.2.2.2.1 (good_up gT_X7_kindOf) rfl rfl rfl hdX7_kindOf ⟨Nat.le_of_ble_eq_true rfl, Nat.le_of_ble_eq_true rfl⟩) hm (by decide) rfl rfl rfl (Nat.le_of_ble_eq_true rfl) dX7_hangsOn_2 ⟨Nat.zero_le _, Nat.zero_le _⟩) hS (fun v_8 I_2 R_3 J_4 AI_5 AJ_6 AR_7 H locs zv_8 hp_9 hH hS => ?_)
  dsimp only at hp_9
  obtain ⟨rfl, rfl, rfl, rfl, rfl, rfl, q_10⟩ := hp_9
  refine z_if_ne (tgt := 10) F dX7_hangsOn_5 (by decide) zv_8 (fun c_11 => ?_) (fun c_11 => ?_)
  · refine z_iconst F dX7_hangsOn_10 ?_
    refine lv_aload_n F.1 F.2.1 dX7_hangsOn_11 rfl (lv_at hl 0 rfl) ?_
    refine lv_iload_n F.1 F.2.1 dX7_hangsOn_12 rfl (lv_at hl 1 rfl) ?_
    refine g_calli (g_runV (As := [.int (iI rr)]) (rest := [.int (iI 1)]) (ci := 7) F hl.1 hH hS hz (c_X7_firstOf l g gh T I R J AI AJ AR mo rr zrr hv hm hT (by omega)) (cwV 1 F.2.2.2.2.1 (good_up gT_X7_firstOf) rfl rfl rfl hdX7_firstOf ⟨Nat.le_of_ble_eq_true rfl, Nat.le_of_ble_eq_true rfl⟩) hm (by decide) rfl rfl rfl (Nat.le_of_ble_eq_true rfl) dX7_hangsOn_13 ⟨Nat.zero_le _, Nat.zero_le _⟩) hS (fun v_18 I_12 R_13 J_14 AI_15 AJ_16 AR_17 H locs zv_18 hp_19 hH hS => ?_)
    dsimp only at hp_19
    obtain ⟨rfl, rfl, rfl, rfl, rfl, rfl, q_20⟩ := hp_19
    refine lv_ishl F.1 F.2.1 dX7_hangsOn_16 ?_
    refine z_top (fun v_21 zv_21 ev_21 => ?_)
    refine lv_aload_n F.1 F.2.1 dX7_hangsOn_17 rfl (lv_at hl 0 rfl) ?_
    refine lv_aload_n F.1 F.2.1 dX7_hangsOn_18 rfl (lv_at hl 0 rfl) ?_
    refine lv_iload_n F.1 F.2.1 dX7_hangsOn_19 rfl (lv_at hl 1 rfl) ?_
    refine g_calli (g_runV (As := [.int (iI rr)]) (rest := [.ref mo, .int (iI v_21)]) (ci := 7) F hl.1 hH hS hz (c_X7_firstOf l g gh T I R J AI AJ AR mo rr zrr hv hm hT (by omega)) (cwV 1 F.2.2.2.2.1 (good_up gT_X7_firstOf) rfl rfl rfl hdX7_firstOf ⟨Nat.le_of_ble_eq_true rfl, Nat.le_of_ble_eq_true rfl⟩) hm (by decide) rfl rfl rfl (Nat.le_of_ble_eq_true rfl) dX7_hangsOn_20 ⟨Nat.zero_le _, Nat.zero_le _⟩) hS (fun v_28 I_22 R_23 J_24 AI_25 AJ_26 AR_27 H locs zv_28 hp_29 hH hS => ?_)
    dsimp only at hp_29
    obtain ⟨rfl, rfl, rfl, rfl, rfl, rfl, q_30⟩ := hp_29
    refine g_calli (g_runV (As := [.int (iI v_28)]) (rest := [.int (iI v_21)]) (ci := 7) F hl.1 hH hS hz (c_X7_hangsOn5 l g gh T I R J AI AJ AR mo v_28 zv_28 hv hm hT (by omega)) (cwV 1 F.2.2.2.2.1 (good_up gT_X7_hangsOn) rfl rfl rfl hdX7_hangsOn ⟨Nat.le_of_ble_eq_true rfl, Nat.le_of_ble_eq_true rfl⟩) hm (by decide) rfl rfl rfl (Nat.le_of_ble_eq_true rfl) dX7_hangsOn_23 ⟨Nat.zero_le _, Nat.zero_le _⟩) hS (fun v_37 I_31 R_32 J_33 AI_34 AJ_35 AR_36 H locs zv_37 hp_38 hH hS => ?_)
    dsimp only at hp_38
    obtain ⟨rfl, rfl, rfl, rfl, rfl, rfl⟩ := hp_38
    refine lv_ior F.1 F.2.1 dX7_hangsOn_26 ?_
    refine z_top (fun v_39 zv_39 ev_39 => ?_)
    refine lv_istore_n (lv' := [(2, .int (iI v_39)), (0, .ref mo), (1, .int (iI rr))]) F.1 F.2.1 dX7_hangsOn_27 rfl hl (by decide) rfl (fun ls hl => ?_)
    refine lv_aload_n F.1 F.2.1 dX7_hangsOn_28 rfl (lv_at hl 1 rfl) ?_
    refine lv_iload_n F.1 F.2.1 dX7_hangsOn_29 rfl (lv_at hl 2 rfl) ?_
    refine g_calli (g_runV (As := [.int (iI rr)]) (rest := []) (ci := 7) F hl.1 hH hS hz (c_X7_secondOf l g gh T I R J AI AJ AR mo rr zrr hv hm hT (by omega)) (cwV 1 F.2.2.2.2.1 (good_up gT_X7_secondOf) rfl rfl rfl hdX7_secondOf ⟨Nat.le_of_ble_eq_true rfl, Nat.le_of_ble_eq_true rfl⟩) hm (by decide) rfl rfl rfl (Nat.le_of_ble_eq_true rfl) dX7_hangsOn_30 ⟨Nat.zero_le _, Nat.zero_le _⟩) hS (fun v_46 I_40 R_41 J_42 AI_43 AJ_44 AR_45 H locs zv_46 hp_47 hH hS => ?_)
    dsimp only at hp_47
    obtain ⟨rfl, rfl, rfl, rfl, rfl, rfl, q_48⟩ := hp_47
    refine z_if_ge (tgt := 40) F dX7_hangsOn_33 (by decide) zv_46 (fun c_49 => ?_) (fun c_49 => ?_)
    · refine lv_iload_n F.1 F.2.1 dX7_hangsOn_40 rfl (lv_at hl 0 rfl) ?_
      refine z_iconst F dX7_hangsOn_41 ?_
      refine lv_aload_n F.1 F.2.1 dX7_hangsOn_42 rfl (lv_at hl 1 rfl) ?_
      refine lv_iload_n F.1 F.2.1 dX7_hangsOn_43 rfl (lv_at hl 2 rfl) ?_
      refine g_calli (g_runV (As := [.int (iI rr)]) (rest := [.int (iI 1), .int (iI v_39)]) (ci := 7) F hl.1 hH hS hz (c_X7_secondOf l g gh T I R J AI AJ AR mo rr zrr hv hm hT (by omega)) (cwV 1 F.2.2.2.2.1 (good_up gT_X7_secondOf) rfl rfl rfl hdX7_secondOf ⟨Nat.le_of_ble_eq_true rfl, Nat.le_of_ble_eq_true rfl⟩) hm (by decide) rfl rfl rfl (Nat.le_of_ble_eq_true rfl) dX7_hangsOn_44 ⟨Nat.zero_le _, Nat.zero_le _⟩) hS (fun v_56 I_50 R_51 J_52 AI_53 AJ_54 AR_55 H locs zv_56 hp_57 hH hS => ?_)
      dsimp only at hp_57
      obtain ⟨rfl, rfl, rfl, rfl, rfl, rfl, q_58⟩ := hp_57
      refine lv_ishl F.1 F.2.1 dX7_hangsOn_47 ?_
      refine z_top (fun v_59 zv_59 ev_59 => ?_)
      refine lv_ior F.1 F.2.1 dX7_hangsOn_48 ?_
      refine z_top (fun v_60 zv_60 ev_60 => ?_)
      refine lv_aload_n F.1 F.2.1 dX7_hangsOn_49 rfl (lv_at hl 1 rfl) ?_
      refine lv_aload_n F.1 F.2.1 dX7_hangsOn_50 rfl (lv_at hl 1 rfl) ?_
      refine lv_iload_n F.1 F.2.1 dX7_hangsOn_51 rfl (lv_at hl 2 rfl) ?_
      refine g_calli (g_runV (As := [.int (iI rr)]) (rest := [.ref mo, .int (iI v_60)]) (ci := 7) F hl.1 hH hS hz (c_X7_secondOf l g gh T I R J AI AJ AR mo rr zrr hv hm hT (by omega)) (cwV 1 F.2.2.2.2.1 (good_up gT_X7_secondOf) rfl rfl rfl hdX7_secondOf ⟨Nat.le_of_ble_eq_true rfl, Nat.le_of_ble_eq_true rfl⟩) hm (by decide) rfl rfl rfl (Nat.le_of_ble_eq_true rfl) dX7_hangsOn_52 ⟨Nat.zero_le _, Nat.zero_le _⟩) hS (fun v_67 I_61 R_62 J_63 AI_64 AJ_65 AR_66 H locs zv_67 hp_68 hH hS => ?_)
      dsimp only at hp_68
      obtain ⟨rfl, rfl, rfl, rfl, rfl, rfl, q_69⟩ := hp_68
      refine g_calli (g_runV (As := [.int (iI v_67)]) (rest := [.int (iI v_60)]) (ci := 7) F hl.1 hH hS hz (c_X7_hangsOn5 l g gh T I R J AI AJ AR mo v_67 zv_67 hv hm hT (by omega)) (cwV 1 F.2.2.2.2.1 (good_up gT_X7_hangsOn) rfl rfl rfl hdX7_hangsOn ⟨Nat.le_of_ble_eq_true rfl, Nat.le_of_ble_eq_true rfl⟩) hm (by decide) rfl rfl rfl (Nat.le_of_ble_eq_true rfl) dX7_hangsOn_55 ⟨Nat.zero_le _, Nat.zero_le _⟩) hS (fun v_76 I_70 R_71 J_72 AI_73 AJ_74 AR_75 H locs zv_76 hp_77 hH hS => ?_)
      dsimp only at hp_77
      obtain ⟨rfl, rfl, rfl, rfl, rfl, rfl⟩ := hp_77
      refine lv_ior F.1 F.2.1 dX7_hangsOn_58 ?_
      refine z_top (fun v_78 zv_78 ev_78 => ?_)
      exact g_iret F hr hlk hH hS hz zv_78 ⟨rfl, rfl, rfl, rfl, rfl, rfl⟩ dX7_hangsOn_59
    · refine lv_iload_n F.1 F.2.1 dX7_hangsOn_36 rfl (lv_at hl 0 rfl) ?_
      refine z_goto (tgt := 59) F dX7_hangsOn_37 (by decide) ?_
      exact g_iret F hr hlk hH hS hz zv_39 ⟨rfl, rfl, rfl, rfl, rfl, rfl⟩ dX7_hangsOn_59
  · refine z_iconst F dX7_hangsOn_8 ?_
    exact g_iret F hr hlk hH hS hz ⟨by decide, by decide⟩ ⟨rfl, rfl, rfl, rfl, rfl, rfl⟩ dX7_hangsOn_9

def rmX7_hangsOn7 : Room := { frames := 7, cells := 0, slots := 0, locals := 153 }
set_option maxHeartbeats 4000000 in
set_option maxRecDepth 100000 in
/-- hangsOn -/
theorem c_X7_hangsOn7 (l : Launch) (g : gG) (gh : gGh) (T : Nat → Int32) (I : gI) (R : gR) (J : gJ) (AI : gI) (AJ : gJ) (AR : gR) (mo : Nat) (rr : Int) (zrr : zr rr) (hv : mInv g gh R I AI) (hm : gO g mo 7) (hT : AI (gh 50 0) = T) (hr0 : 0 ≤ rr ∧ rr < (I mo 2).toInt ∧ rr < 7) : gMet l g yX7_hangsOn tsX7_hangsOn rmX7_hangsOn7 [.ref mo, .int (iI rr)] (I, R, J, AI, AJ, AR) (gQi g (fun (z : Int) (w : gS) => I = w.1 ∧ R = w.2.1 ∧ J = w.2.2.1 ∧ AI = w.2.2.2.1 ∧ AJ = w.2.2.2.2.1 ∧ AR = w.2.2.2.2.2)) := by
  refine gStart (cc := cX7_hangsOn) (maxL := 3) (ret := (some (.int))) (by decide) rfl (Nat.le_of_ble_eq_true rfl) ?_
  intro p e s m below meth c ls F hr hlk hH hz hS hl
  have hl : lv_has ls 3 [(0, .ref mo), (1, .int (iI rr))] := hl
  have hS : va_S (gA g) s.heap s.heap [] := hS
  obtain ⟨H, hHe⟩ : ∃ H : Heap, H = s.heap := ⟨_, rfl⟩
  obtain ⟨locs, hlo⟩ : ∃ k : List Loc, k = [] := ⟨_, rfl⟩
  have hH : gH g I R J AI AJ AR H := by rw [hHe]; exact hH
  have hS : va_S (gA g) s.heap H locs := by rw [hHe, hlo]; exact hS
  suffices hw : W p l e rmX7_hangsOn7 s m ([.ref mo, .int (iI rr)] : List Value).toArray below meth c H locs 0 0 (MQ below (gQi g (fun (z : Int) (w : gS) => I = w.1 ∧ R = w.2.1 ∧ J = w.2.2.1 ∧ AI = w.2.2.2.1 ∧ AJ = w.2.2.2.2.1 ∧ AR = w.2.2.2.2.2)) ([.ref mo, .int (iI rr)] : List Value).toArray s 0 0 (gA g)) (F0 m 0 ls []) by
    rw [hHe, hlo] at hw; exact hw
  clear hHe hlo
  have hb0 := mJ hv hm
  unfold mNum1 at hb0
  have x := mRow hv hm hT (z := rr) (by omega) (by omega)
  have xa := x.1
  have xc := x.2.2.1
  have xb := x.2.1
  refine lv_aload_n F.1 F.2.1 dX7_hangsOn_0 rfl (lv_at hl 0 rfl) ?_
  refine lv_iload_n F.1 F.2.1 dX7_hangsOn_1 rfl (lv_at hl 1 rfl) ?_
  have b_1 := mJ hv hm
  unfold mNum1 at b_1
  refine g_calli (g_runV (As := [.int (iI rr)]) (rest := []) (ci := 7) F hl.1 hH hS hz (c_X7_kindOf l g gh T I R J AI AJ AR mo rr zrr hv hm hT (by omega)) (cwV 1 F.2.2.2.2.1 (good_up gT_X7_kindOf) rfl rfl rfl hdX7_kindOf ⟨Nat.le_of_ble_eq_true rfl, Nat.le_of_ble_eq_true rfl⟩) hm (by decide) rfl rfl rfl (Nat.le_of_ble_eq_true rfl) dX7_hangsOn_2 ⟨Nat.zero_le _, Nat.zero_le _⟩) hS (fun v_8 I_2 R_3 J_4 AI_5 AJ_6 AR_7 H locs zv_8 hp_9 hH hS => ?_)
  dsimp only at hp_9
  obtain ⟨rfl, rfl, rfl, rfl, rfl, rfl, q_10⟩ := hp_9
  refine z_if_ne (tgt := 10) F dX7_hangsOn_5 (by decide) zv_8 (fun c_11 => ?_) (fun c_11 => ?_)
  · refine z_iconst F dX7_hangsOn_10 ?_
    refine lv_aload_n F.1 F.2.1 dX7_hangsOn_11 rfl (lv_at hl 0 rfl) ?_
    refine lv_iload_n F.1 F.2.1 dX7_hangsOn_12 rfl (lv_at hl 1 rfl) ?_
    refine g_calli (g_runV (As := [.int (iI rr)]) (rest := [.int (iI 1)]) (ci := 7) F hl.1 hH hS hz (c_X7_firstOf l g gh T I R J AI AJ AR mo rr zrr hv hm hT (by omega)) (cwV 1 F.2.2.2.2.1 (good_up gT_X7_firstOf) rfl rfl rfl hdX7_firstOf ⟨Nat.le_of_ble_eq_true rfl, Nat.le_of_ble_eq_true rfl⟩) hm (by decide) rfl rfl rfl (Nat.le_of_ble_eq_true rfl) dX7_hangsOn_13 ⟨Nat.zero_le _, Nat.zero_le _⟩) hS (fun v_18 I_12 R_13 J_14 AI_15 AJ_16 AR_17 H locs zv_18 hp_19 hH hS => ?_)
    dsimp only at hp_19
    obtain ⟨rfl, rfl, rfl, rfl, rfl, rfl, q_20⟩ := hp_19
    refine lv_ishl F.1 F.2.1 dX7_hangsOn_16 ?_
    refine z_top (fun v_21 zv_21 ev_21 => ?_)
    refine lv_aload_n F.1 F.2.1 dX7_hangsOn_17 rfl (lv_at hl 0 rfl) ?_
    refine lv_aload_n F.1 F.2.1 dX7_hangsOn_18 rfl (lv_at hl 0 rfl) ?_
    refine lv_iload_n F.1 F.2.1 dX7_hangsOn_19 rfl (lv_at hl 1 rfl) ?_
    refine g_calli (g_runV (As := [.int (iI rr)]) (rest := [.ref mo, .int (iI v_21)]) (ci := 7) F hl.1 hH hS hz (c_X7_firstOf l g gh T I R J AI AJ AR mo rr zrr hv hm hT (by omega)) (cwV 1 F.2.2.2.2.1 (good_up gT_X7_firstOf) rfl rfl rfl hdX7_firstOf ⟨Nat.le_of_ble_eq_true rfl, Nat.le_of_ble_eq_true rfl⟩) hm (by decide) rfl rfl rfl (Nat.le_of_ble_eq_true rfl) dX7_hangsOn_20 ⟨Nat.zero_le _, Nat.zero_le _⟩) hS (fun v_28 I_22 R_23 J_24 AI_25 AJ_26 AR_27 H locs zv_28 hp_29 hH hS => ?_)
    dsimp only at hp_29
    obtain ⟨rfl, rfl, rfl, rfl, rfl, rfl, q_30⟩ := hp_29
    refine g_calli (g_runV (As := [.int (iI v_28)]) (rest := [.int (iI v_21)]) (ci := 7) F hl.1 hH hS hz (c_X7_hangsOn6 l g gh T I R J AI AJ AR mo v_28 zv_28 hv hm hT (by omega)) (cwV 1 F.2.2.2.2.1 (good_up gT_X7_hangsOn) rfl rfl rfl hdX7_hangsOn ⟨Nat.le_of_ble_eq_true rfl, Nat.le_of_ble_eq_true rfl⟩) hm (by decide) rfl rfl rfl (Nat.le_of_ble_eq_true rfl) dX7_hangsOn_23 ⟨Nat.zero_le _, Nat.zero_le _⟩) hS (fun v_37 I_31 R_32 J_33 AI_34 AJ_35 AR_36 H locs zv_37 hp_38 hH hS => ?_)
    dsimp only at hp_38
    obtain ⟨rfl, rfl, rfl, rfl, rfl, rfl⟩ := hp_38
    refine lv_ior F.1 F.2.1 dX7_hangsOn_26 ?_
    refine z_top (fun v_39 zv_39 ev_39 => ?_)
    refine lv_istore_n (lv' := [(2, .int (iI v_39)), (0, .ref mo), (1, .int (iI rr))]) F.1 F.2.1 dX7_hangsOn_27 rfl hl (by decide) rfl (fun ls hl => ?_)
    refine lv_aload_n F.1 F.2.1 dX7_hangsOn_28 rfl (lv_at hl 1 rfl) ?_
    refine lv_iload_n F.1 F.2.1 dX7_hangsOn_29 rfl (lv_at hl 2 rfl) ?_
    refine g_calli (g_runV (As := [.int (iI rr)]) (rest := []) (ci := 7) F hl.1 hH hS hz (c_X7_secondOf l g gh T I R J AI AJ AR mo rr zrr hv hm hT (by omega)) (cwV 1 F.2.2.2.2.1 (good_up gT_X7_secondOf) rfl rfl rfl hdX7_secondOf ⟨Nat.le_of_ble_eq_true rfl, Nat.le_of_ble_eq_true rfl⟩) hm (by decide) rfl rfl rfl (Nat.le_of_ble_eq_true rfl) dX7_hangsOn_30 ⟨Nat.zero_le _, Nat.zero_le _⟩) hS (fun v_46 I_40 R_41 J_42 AI_43 AJ_44 AR_45 H locs zv_46 hp_47 hH hS => ?_)
    dsimp only at hp_47
    obtain ⟨rfl, rfl, rfl, rfl, rfl, rfl, q_48⟩ := hp_47
    refine z_if_ge (tgt := 40) F dX7_hangsOn_33 (by decide) zv_46 (fun c_49 => ?_) (fun c_49 => ?_)
    · refine lv_iload_n F.1 F.2.1 dX7_hangsOn_40 rfl (lv_at hl 0 rfl) ?_
      refine z_iconst F dX7_hangsOn_41 ?_
      refine lv_aload_n F.1 F.2.1 dX7_hangsOn_42 rfl (lv_at hl 1 rfl) ?_
      refine lv_iload_n F.1 F.2.1 dX7_hangsOn_43 rfl (lv_at hl 2 rfl) ?_
      refine g_calli (g_runV (As := [.int (iI rr)]) (rest := [.int (iI 1), .int (iI v_39)]) (ci := 7) F hl.1 hH hS hz (c_X7_secondOf l g gh T I R J AI AJ AR mo rr zrr hv hm hT (by omega)) (cwV 1 F.2.2.2.2.1 (good_up gT_X7_secondOf) rfl rfl rfl hdX7_secondOf ⟨Nat.le_of_ble_eq_true rfl, Nat.le_of_ble_eq_true rfl⟩) hm (by decide) rfl rfl rfl (Nat.le_of_ble_eq_true rfl) dX7_hangsOn_44 ⟨Nat.zero_le _, Nat.zero_le _⟩) hS (fun v_56 I_50 R_51 J_52 AI_53 AJ_54 AR_55 H locs zv_56 hp_57 hH hS => ?_)
      dsimp only at hp_57
      obtain ⟨rfl, rfl, rfl, rfl, rfl, rfl, q_58⟩ := hp_57
      refine lv_ishl F.1 F.2.1 dX7_hangsOn_47 ?_
      refine z_top (fun v_59 zv_59 ev_59 => ?_)
      refine lv_ior F.1 F.2.1 dX7_hangsOn_48 ?_
      refine z_top (fun v_60 zv_60 ev_60 => ?_)
      refine lv_aload_n F.1 F.2.1 dX7_hangsOn_49 rfl (lv_at hl 1 rfl) ?_
      refine lv_aload_n F.1 F.2.1 dX7_hangsOn_50 rfl (lv_at hl 1 rfl) ?_
      refine lv_iload_n F.1 F.2.1 dX7_hangsOn_51 rfl (lv_at hl 2 rfl) ?_
      refine g_calli (g_runV (As := [.int (iI rr)]) (rest := [.ref mo, .int (iI v_60)]) (ci := 7) F hl.1 hH hS hz (c_X7_secondOf l g gh T I R J AI AJ AR mo rr zrr hv hm hT (by omega)) (cwV 1 F.2.2.2.2.1 (good_up gT_X7_secondOf) rfl rfl rfl hdX7_secondOf ⟨Nat.le_of_ble_eq_true rfl, Nat.le_of_ble_eq_true rfl⟩) hm (by decide) rfl rfl rfl (Nat.le_of_ble_eq_true rfl) dX7_hangsOn_52 ⟨Nat.zero_le _, Nat.zero_le _⟩) hS (fun v_67 I_61 R_62 J_63 AI_64 AJ_65 AR_66 H locs zv_67 hp_68 hH hS => ?_)
      dsimp only at hp_68
      obtain ⟨rfl, rfl, rfl, rfl, rfl, rfl, q_69⟩ := hp_68
      refine g_calli (g_runV (As := [.int (iI v_67)]) (rest := [.int (iI v_60)]) (ci := 7) F hl.1 hH hS hz (c_X7_hangsOn6 l g gh T I R J AI AJ AR mo v_67 zv_67 hv hm hT (by omega)) (cwV 1 F.2.2.2.2.1 (good_up gT_X7_hangsOn) rfl rfl rfl hdX7_hangsOn ⟨Nat.le_of_ble_eq_true rfl, Nat.le_of_ble_eq_true rfl⟩) hm (by decide) rfl rfl rfl (Nat.le_of_ble_eq_true rfl) dX7_hangsOn_55 ⟨Nat.zero_le _, Nat.zero_le _⟩) hS (fun v_76 I_70 R_71 J_72 AI_73 AJ_74 AR_75 H locs zv_76 hp_77 hH hS => ?_)
      dsimp only at hp_77
      obtain ⟨rfl, rfl, rfl, rfl, rfl, rfl⟩ := hp_77
      refine lv_ior F.1 F.2.1 dX7_hangsOn_58 ?_
      refine z_top (fun v_78 zv_78 ev_78 => ?_)
      exact g_iret F hr hlk hH hS hz zv_78 ⟨rfl, rfl, rfl, rfl, rfl, rfl⟩ dX7_hangsOn_59
    · refine lv_iload_n F.1 F.2.1 dX7_hangsOn_36 rfl (lv_at hl 0 rfl) ?_
      refine z_goto (tgt := 59) F dX7_hangsOn_37 (by decide) ?_
      exact g_iret F hr hlk hH hS hz zv_39 ⟨rfl, rfl, rfl, rfl, rfl, rfl⟩ dX7_hangsOn_59
  · refine z_iconst F dX7_hangsOn_8 ?_
    exact g_iret F hr hlk hH hS hz ⟨by decide, by decide⟩ ⟨rfl, rfl, rfl, rfl, rfl, rfl⟩ dX7_hangsOn_9

def rmX7_hangsOn8 : Room := { frames := 8, cells := 0, slots := 0, locals := 175 }
set_option maxHeartbeats 4000000 in
set_option maxRecDepth 100000 in
/-- hangsOn -/
theorem c_X7_hangsOn8 (l : Launch) (g : gG) (gh : gGh) (T : Nat → Int32) (I : gI) (R : gR) (J : gJ) (AI : gI) (AJ : gJ) (AR : gR) (mo : Nat) (rr : Int) (zrr : zr rr) (hv : mInv g gh R I AI) (hm : gO g mo 7) (hT : AI (gh 50 0) = T) (hr0 : 0 ≤ rr ∧ rr < (I mo 2).toInt ∧ rr < 8) : gMet l g yX7_hangsOn tsX7_hangsOn rmX7_hangsOn8 [.ref mo, .int (iI rr)] (I, R, J, AI, AJ, AR) (gQi g (fun (z : Int) (w : gS) => I = w.1 ∧ R = w.2.1 ∧ J = w.2.2.1 ∧ AI = w.2.2.2.1 ∧ AJ = w.2.2.2.2.1 ∧ AR = w.2.2.2.2.2)) := by
  refine gStart (cc := cX7_hangsOn) (maxL := 3) (ret := (some (.int))) (by decide) rfl (Nat.le_of_ble_eq_true rfl) ?_
  intro p e s m below meth c ls F hr hlk hH hz hS hl
  have hl : lv_has ls 3 [(0, .ref mo), (1, .int (iI rr))] := hl
  have hS : va_S (gA g) s.heap s.heap [] := hS
  obtain ⟨H, hHe⟩ : ∃ H : Heap, H = s.heap := ⟨_, rfl⟩
  obtain ⟨locs, hlo⟩ : ∃ k : List Loc, k = [] := ⟨_, rfl⟩
  have hH : gH g I R J AI AJ AR H := by rw [hHe]; exact hH
  have hS : va_S (gA g) s.heap H locs := by rw [hHe, hlo]; exact hS
  suffices hw : W p l e rmX7_hangsOn8 s m ([.ref mo, .int (iI rr)] : List Value).toArray below meth c H locs 0 0 (MQ below (gQi g (fun (z : Int) (w : gS) => I = w.1 ∧ R = w.2.1 ∧ J = w.2.2.1 ∧ AI = w.2.2.2.1 ∧ AJ = w.2.2.2.2.1 ∧ AR = w.2.2.2.2.2)) ([.ref mo, .int (iI rr)] : List Value).toArray s 0 0 (gA g)) (F0 m 0 ls []) by
    rw [hHe, hlo] at hw; exact hw
  clear hHe hlo
  have hb0 := mJ hv hm
  unfold mNum1 at hb0
  have x := mRow hv hm hT (z := rr) (by omega) (by omega)
  have xa := x.1
  have xc := x.2.2.1
  have xb := x.2.1
  refine lv_aload_n F.1 F.2.1 dX7_hangsOn_0 rfl (lv_at hl 0 rfl) ?_
  refine lv_iload_n F.1 F.2.1 dX7_hangsOn_1 rfl (lv_at hl 1 rfl) ?_
  have b_1 := mJ hv hm
  unfold mNum1 at b_1
  refine g_calli (g_runV (As := [.int (iI rr)]) (rest := []) (ci := 7) F hl.1 hH hS hz (c_X7_kindOf l g gh T I R J AI AJ AR mo rr zrr hv hm hT (by omega)) (cwV 1 F.2.2.2.2.1 (good_up gT_X7_kindOf) rfl rfl rfl hdX7_kindOf ⟨Nat.le_of_ble_eq_true rfl, Nat.le_of_ble_eq_true rfl⟩) hm (by decide) rfl rfl rfl (Nat.le_of_ble_eq_true rfl) dX7_hangsOn_2 ⟨Nat.zero_le _, Nat.zero_le _⟩) hS (fun v_8 I_2 R_3 J_4 AI_5 AJ_6 AR_7 H locs zv_8 hp_9 hH hS => ?_)
  dsimp only at hp_9
  obtain ⟨rfl, rfl, rfl, rfl, rfl, rfl, q_10⟩ := hp_9
  refine z_if_ne (tgt := 10) F dX7_hangsOn_5 (by decide) zv_8 (fun c_11 => ?_) (fun c_11 => ?_)
  · refine z_iconst F dX7_hangsOn_10 ?_
    refine lv_aload_n F.1 F.2.1 dX7_hangsOn_11 rfl (lv_at hl 0 rfl) ?_
    refine lv_iload_n F.1 F.2.1 dX7_hangsOn_12 rfl (lv_at hl 1 rfl) ?_
    refine g_calli (g_runV (As := [.int (iI rr)]) (rest := [.int (iI 1)]) (ci := 7) F hl.1 hH hS hz (c_X7_firstOf l g gh T I R J AI AJ AR mo rr zrr hv hm hT (by omega)) (cwV 1 F.2.2.2.2.1 (good_up gT_X7_firstOf) rfl rfl rfl hdX7_firstOf ⟨Nat.le_of_ble_eq_true rfl, Nat.le_of_ble_eq_true rfl⟩) hm (by decide) rfl rfl rfl (Nat.le_of_ble_eq_true rfl) dX7_hangsOn_13 ⟨Nat.zero_le _, Nat.zero_le _⟩) hS (fun v_18 I_12 R_13 J_14 AI_15 AJ_16 AR_17 H locs zv_18 hp_19 hH hS => ?_)
    dsimp only at hp_19
    obtain ⟨rfl, rfl, rfl, rfl, rfl, rfl, q_20⟩ := hp_19
    refine lv_ishl F.1 F.2.1 dX7_hangsOn_16 ?_
    refine z_top (fun v_21 zv_21 ev_21 => ?_)
    refine lv_aload_n F.1 F.2.1 dX7_hangsOn_17 rfl (lv_at hl 0 rfl) ?_
    refine lv_aload_n F.1 F.2.1 dX7_hangsOn_18 rfl (lv_at hl 0 rfl) ?_
    refine lv_iload_n F.1 F.2.1 dX7_hangsOn_19 rfl (lv_at hl 1 rfl) ?_
    refine g_calli (g_runV (As := [.int (iI rr)]) (rest := [.ref mo, .int (iI v_21)]) (ci := 7) F hl.1 hH hS hz (c_X7_firstOf l g gh T I R J AI AJ AR mo rr zrr hv hm hT (by omega)) (cwV 1 F.2.2.2.2.1 (good_up gT_X7_firstOf) rfl rfl rfl hdX7_firstOf ⟨Nat.le_of_ble_eq_true rfl, Nat.le_of_ble_eq_true rfl⟩) hm (by decide) rfl rfl rfl (Nat.le_of_ble_eq_true rfl) dX7_hangsOn_20 ⟨Nat.zero_le _, Nat.zero_le _⟩) hS (fun v_28 I_22 R_23 J_24 AI_25 AJ_26 AR_27 H locs zv_28 hp_29 hH hS => ?_)
    dsimp only at hp_29
    obtain ⟨rfl, rfl, rfl, rfl, rfl, rfl, q_30⟩ := hp_29
    refine g_calli (g_runV (As := [.int (iI v_28)]) (rest := [.int (iI v_21)]) (ci := 7) F hl.1 hH hS hz (c_X7_hangsOn7 l g gh T I R J AI AJ AR mo v_28 zv_28 hv hm hT (by omega)) (cwV 1 F.2.2.2.2.1 (good_up gT_X7_hangsOn) rfl rfl rfl hdX7_hangsOn ⟨Nat.le_of_ble_eq_true rfl, Nat.le_of_ble_eq_true rfl⟩) hm (by decide) rfl rfl rfl (Nat.le_of_ble_eq_true rfl) dX7_hangsOn_23 ⟨Nat.zero_le _, Nat.zero_le _⟩) hS (fun v_37 I_31 R_32 J_33 AI_34 AJ_35 AR_36 H locs zv_37 hp_38 hH hS => ?_)
    dsimp only at hp_38
    obtain ⟨rfl, rfl, rfl, rfl, rfl, rfl⟩ := hp_38
    refine lv_ior F.1 F.2.1 dX7_hangsOn_26 ?_
    refine z_top (fun v_39 zv_39 ev_39 => ?_)
    refine lv_istore_n (lv' := [(2, .int (iI v_39)), (0, .ref mo), (1, .int (iI rr))]) F.1 F.2.1 dX7_hangsOn_27 rfl hl (by decide) rfl (fun ls hl => ?_)
    refine lv_aload_n F.1 F.2.1 dX7_hangsOn_28 rfl (lv_at hl 1 rfl) ?_
    refine lv_iload_n F.1 F.2.1 dX7_hangsOn_29 rfl (lv_at hl 2 rfl) ?_
    refine g_calli (g_runV (As := [.int (iI rr)]) (rest := []) (ci := 7) F hl.1 hH hS hz (c_X7_secondOf l g gh T I R J AI AJ AR mo rr zrr hv hm hT (by omega)) (cwV 1 F.2.2.2.2.1 (good_up gT_X7_secondOf) rfl rfl rfl hdX7_secondOf ⟨Nat.le_of_ble_eq_true rfl, Nat.le_of_ble_eq_true rfl⟩) hm (by decide) rfl rfl rfl (Nat.le_of_ble_eq_true rfl) dX7_hangsOn_30 ⟨Nat.zero_le _, Nat.zero_le _⟩) hS (fun v_46 I_40 R_41 J_42 AI_43 AJ_44 AR_45 H locs zv_46 hp_47 hH hS => ?_)
    dsimp only at hp_47
    obtain ⟨rfl, rfl, rfl, rfl, rfl, rfl, q_48⟩ := hp_47
    refine z_if_ge (tgt := 40) F dX7_hangsOn_33 (by decide) zv_46 (fun c_49 => ?_) (fun c_49 => ?_)
    · refine lv_iload_n F.1 F.2.1 dX7_hangsOn_40 rfl (lv_at hl 0 rfl) ?_
      refine z_iconst F dX7_hangsOn_41 ?_
      refine lv_aload_n F.1 F.2.1 dX7_hangsOn_42 rfl (lv_at hl 1 rfl) ?_
      refine lv_iload_n F.1 F.2.1 dX7_hangsOn_43 rfl (lv_at hl 2 rfl) ?_
      refine g_calli (g_runV (As := [.int (iI rr)]) (rest := [.int (iI 1), .int (iI v_39)]) (ci := 7) F hl.1 hH hS hz (c_X7_secondOf l g gh T I R J AI AJ AR mo rr zrr hv hm hT (by omega)) (cwV 1 F.2.2.2.2.1 (good_up gT_X7_secondOf) rfl rfl rfl hdX7_secondOf ⟨Nat.le_of_ble_eq_true rfl, Nat.le_of_ble_eq_true rfl⟩) hm (by decide) rfl rfl rfl (Nat.le_of_ble_eq_true rfl) dX7_hangsOn_44 ⟨Nat.zero_le _, Nat.zero_le _⟩) hS (fun v_56 I_50 R_51 J_52 AI_53 AJ_54 AR_55 H locs zv_56 hp_57 hH hS => ?_)
      dsimp only at hp_57
      obtain ⟨rfl, rfl, rfl, rfl, rfl, rfl, q_58⟩ := hp_57
      refine lv_ishl F.1 F.2.1 dX7_hangsOn_47 ?_
      refine z_top (fun v_59 zv_59 ev_59 => ?_)
      refine lv_ior F.1 F.2.1 dX7_hangsOn_48 ?_
      refine z_top (fun v_60 zv_60 ev_60 => ?_)
      refine lv_aload_n F.1 F.2.1 dX7_hangsOn_49 rfl (lv_at hl 1 rfl) ?_
      refine lv_aload_n F.1 F.2.1 dX7_hangsOn_50 rfl (lv_at hl 1 rfl) ?_
      refine lv_iload_n F.1 F.2.1 dX7_hangsOn_51 rfl (lv_at hl 2 rfl) ?_
      refine g_calli (g_runV (As := [.int (iI rr)]) (rest := [.ref mo, .int (iI v_60)]) (ci := 7) F hl.1 hH hS hz (c_X7_secondOf l g gh T I R J AI AJ AR mo rr zrr hv hm hT (by omega)) (cwV 1 F.2.2.2.2.1 (good_up gT_X7_secondOf) rfl rfl rfl hdX7_secondOf ⟨Nat.le_of_ble_eq_true rfl, Nat.le_of_ble_eq_true rfl⟩) hm (by decide) rfl rfl rfl (Nat.le_of_ble_eq_true rfl) dX7_hangsOn_52 ⟨Nat.zero_le _, Nat.zero_le _⟩) hS (fun v_67 I_61 R_62 J_63 AI_64 AJ_65 AR_66 H locs zv_67 hp_68 hH hS => ?_)
      dsimp only at hp_68
      obtain ⟨rfl, rfl, rfl, rfl, rfl, rfl, q_69⟩ := hp_68
      refine g_calli (g_runV (As := [.int (iI v_67)]) (rest := [.int (iI v_60)]) (ci := 7) F hl.1 hH hS hz (c_X7_hangsOn7 l g gh T I R J AI AJ AR mo v_67 zv_67 hv hm hT (by omega)) (cwV 1 F.2.2.2.2.1 (good_up gT_X7_hangsOn) rfl rfl rfl hdX7_hangsOn ⟨Nat.le_of_ble_eq_true rfl, Nat.le_of_ble_eq_true rfl⟩) hm (by decide) rfl rfl rfl (Nat.le_of_ble_eq_true rfl) dX7_hangsOn_55 ⟨Nat.zero_le _, Nat.zero_le _⟩) hS (fun v_76 I_70 R_71 J_72 AI_73 AJ_74 AR_75 H locs zv_76 hp_77 hH hS => ?_)
      dsimp only at hp_77
      obtain ⟨rfl, rfl, rfl, rfl, rfl, rfl⟩ := hp_77
      refine lv_ior F.1 F.2.1 dX7_hangsOn_58 ?_
      refine z_top (fun v_78 zv_78 ev_78 => ?_)
      exact g_iret F hr hlk hH hS hz zv_78 ⟨rfl, rfl, rfl, rfl, rfl, rfl⟩ dX7_hangsOn_59
    · refine lv_iload_n F.1 F.2.1 dX7_hangsOn_36 rfl (lv_at hl 0 rfl) ?_
      refine z_goto (tgt := 59) F dX7_hangsOn_37 (by decide) ?_
      exact g_iret F hr hlk hH hS hz zv_39 ⟨rfl, rfl, rfl, rfl, rfl, rfl⟩ dX7_hangsOn_59
  · refine z_iconst F dX7_hangsOn_8 ?_
    exact g_iret F hr hlk hH hS hz ⟨by decide, by decide⟩ ⟨rfl, rfl, rfl, rfl, rfl, rfl⟩ dX7_hangsOn_9

def rmX7_hangsOn9 : Room := { frames := 9, cells := 0, slots := 0, locals := 197 }
set_option maxHeartbeats 4000000 in
set_option maxRecDepth 100000 in
/-- hangsOn -/
theorem c_X7_hangsOn9 (l : Launch) (g : gG) (gh : gGh) (T : Nat → Int32) (I : gI) (R : gR) (J : gJ) (AI : gI) (AJ : gJ) (AR : gR) (mo : Nat) (rr : Int) (zrr : zr rr) (hv : mInv g gh R I AI) (hm : gO g mo 7) (hT : AI (gh 50 0) = T) (hr0 : 0 ≤ rr ∧ rr < (I mo 2).toInt ∧ rr < 9) : gMet l g yX7_hangsOn tsX7_hangsOn rmX7_hangsOn9 [.ref mo, .int (iI rr)] (I, R, J, AI, AJ, AR) (gQi g (fun (z : Int) (w : gS) => I = w.1 ∧ R = w.2.1 ∧ J = w.2.2.1 ∧ AI = w.2.2.2.1 ∧ AJ = w.2.2.2.2.1 ∧ AR = w.2.2.2.2.2)) := by
  refine gStart (cc := cX7_hangsOn) (maxL := 3) (ret := (some (.int))) (by decide) rfl (Nat.le_of_ble_eq_true rfl) ?_
  intro p e s m below meth c ls F hr hlk hH hz hS hl
  have hl : lv_has ls 3 [(0, .ref mo), (1, .int (iI rr))] := hl
  have hS : va_S (gA g) s.heap s.heap [] := hS
  obtain ⟨H, hHe⟩ : ∃ H : Heap, H = s.heap := ⟨_, rfl⟩
  obtain ⟨locs, hlo⟩ : ∃ k : List Loc, k = [] := ⟨_, rfl⟩
  have hH : gH g I R J AI AJ AR H := by rw [hHe]; exact hH
  have hS : va_S (gA g) s.heap H locs := by rw [hHe, hlo]; exact hS
  suffices hw : W p l e rmX7_hangsOn9 s m ([.ref mo, .int (iI rr)] : List Value).toArray below meth c H locs 0 0 (MQ below (gQi g (fun (z : Int) (w : gS) => I = w.1 ∧ R = w.2.1 ∧ J = w.2.2.1 ∧ AI = w.2.2.2.1 ∧ AJ = w.2.2.2.2.1 ∧ AR = w.2.2.2.2.2)) ([.ref mo, .int (iI rr)] : List Value).toArray s 0 0 (gA g)) (F0 m 0 ls []) by
    rw [hHe, hlo] at hw; exact hw
  clear hHe hlo
  have hb0 := mJ hv hm
  unfold mNum1 at hb0
  have x := mRow hv hm hT (z := rr) (by omega) (by omega)
  have xa := x.1
  have xc := x.2.2.1
  have xb := x.2.1
  refine lv_aload_n F.1 F.2.1 dX7_hangsOn_0 rfl (lv_at hl 0 rfl) ?_
  refine lv_iload_n F.1 F.2.1 dX7_hangsOn_1 rfl (lv_at hl 1 rfl) ?_
  have b_1 := mJ hv hm
  unfold mNum1 at b_1
  refine g_calli (g_runV (As := [.int (iI rr)]) (rest := []) (ci := 7) F hl.1 hH hS hz (c_X7_kindOf l g gh T I R J AI AJ AR mo rr zrr hv hm hT (by omega)) (cwV 1 F.2.2.2.2.1 (good_up gT_X7_kindOf) rfl rfl rfl hdX7_kindOf ⟨Nat.le_of_ble_eq_true rfl, Nat.le_of_ble_eq_true rfl⟩) hm (by decide) rfl rfl rfl (Nat.le_of_ble_eq_true rfl) dX7_hangsOn_2 ⟨Nat.zero_le _, Nat.zero_le _⟩) hS (fun v_8 I_2 R_3 J_4 AI_5 AJ_6 AR_7 H locs zv_8 hp_9 hH hS => ?_)
  dsimp only at hp_9
  obtain ⟨rfl, rfl, rfl, rfl, rfl, rfl, q_10⟩ := hp_9
  refine z_if_ne (tgt := 10) F dX7_hangsOn_5 (by decide) zv_8 (fun c_11 => ?_) (fun c_11 => ?_)
  · refine z_iconst F dX7_hangsOn_10 ?_
    refine lv_aload_n F.1 F.2.1 dX7_hangsOn_11 rfl (lv_at hl 0 rfl) ?_
    refine lv_iload_n F.1 F.2.1 dX7_hangsOn_12 rfl (lv_at hl 1 rfl) ?_
    refine g_calli (g_runV (As := [.int (iI rr)]) (rest := [.int (iI 1)]) (ci := 7) F hl.1 hH hS hz (c_X7_firstOf l g gh T I R J AI AJ AR mo rr zrr hv hm hT (by omega)) (cwV 1 F.2.2.2.2.1 (good_up gT_X7_firstOf) rfl rfl rfl hdX7_firstOf ⟨Nat.le_of_ble_eq_true rfl, Nat.le_of_ble_eq_true rfl⟩) hm (by decide) rfl rfl rfl (Nat.le_of_ble_eq_true rfl) dX7_hangsOn_13 ⟨Nat.zero_le _, Nat.zero_le _⟩) hS (fun v_18 I_12 R_13 J_14 AI_15 AJ_16 AR_17 H locs zv_18 hp_19 hH hS => ?_)
    dsimp only at hp_19
    obtain ⟨rfl, rfl, rfl, rfl, rfl, rfl, q_20⟩ := hp_19
    refine lv_ishl F.1 F.2.1 dX7_hangsOn_16 ?_
    refine z_top (fun v_21 zv_21 ev_21 => ?_)
    refine lv_aload_n F.1 F.2.1 dX7_hangsOn_17 rfl (lv_at hl 0 rfl) ?_
    refine lv_aload_n F.1 F.2.1 dX7_hangsOn_18 rfl (lv_at hl 0 rfl) ?_
    refine lv_iload_n F.1 F.2.1 dX7_hangsOn_19 rfl (lv_at hl 1 rfl) ?_
    refine g_calli (g_runV (As := [.int (iI rr)]) (rest := [.ref mo, .int (iI v_21)]) (ci := 7) F hl.1 hH hS hz (c_X7_firstOf l g gh T I R J AI AJ AR mo rr zrr hv hm hT (by omega)) (cwV 1 F.2.2.2.2.1 (good_up gT_X7_firstOf) rfl rfl rfl hdX7_firstOf ⟨Nat.le_of_ble_eq_true rfl, Nat.le_of_ble_eq_true rfl⟩) hm (by decide) rfl rfl rfl (Nat.le_of_ble_eq_true rfl) dX7_hangsOn_20 ⟨Nat.zero_le _, Nat.zero_le _⟩) hS (fun v_28 I_22 R_23 J_24 AI_25 AJ_26 AR_27 H locs zv_28 hp_29 hH hS => ?_)
    dsimp only at hp_29
    obtain ⟨rfl, rfl, rfl, rfl, rfl, rfl, q_30⟩ := hp_29
    refine g_calli (g_runV (As := [.int (iI v_28)]) (rest := [.int (iI v_21)]) (ci := 7) F hl.1 hH hS hz (c_X7_hangsOn8 l g gh T I R J AI AJ AR mo v_28 zv_28 hv hm hT (by omega)) (cwV 1 F.2.2.2.2.1 (good_up gT_X7_hangsOn) rfl rfl rfl hdX7_hangsOn ⟨Nat.le_of_ble_eq_true rfl, Nat.le_of_ble_eq_true rfl⟩) hm (by decide) rfl rfl rfl (Nat.le_of_ble_eq_true rfl) dX7_hangsOn_23 ⟨Nat.zero_le _, Nat.zero_le _⟩) hS (fun v_37 I_31 R_32 J_33 AI_34 AJ_35 AR_36 H locs zv_37 hp_38 hH hS => ?_)
    dsimp only at hp_38
    obtain ⟨rfl, rfl, rfl, rfl, rfl, rfl⟩ := hp_38
    refine lv_ior F.1 F.2.1 dX7_hangsOn_26 ?_
    refine z_top (fun v_39 zv_39 ev_39 => ?_)
    refine lv_istore_n (lv' := [(2, .int (iI v_39)), (0, .ref mo), (1, .int (iI rr))]) F.1 F.2.1 dX7_hangsOn_27 rfl hl (by decide) rfl (fun ls hl => ?_)
    refine lv_aload_n F.1 F.2.1 dX7_hangsOn_28 rfl (lv_at hl 1 rfl) ?_
    refine lv_iload_n F.1 F.2.1 dX7_hangsOn_29 rfl (lv_at hl 2 rfl) ?_
    refine g_calli (g_runV (As := [.int (iI rr)]) (rest := []) (ci := 7) F hl.1 hH hS hz (c_X7_secondOf l g gh T I R J AI AJ AR mo rr zrr hv hm hT (by omega)) (cwV 1 F.2.2.2.2.1 (good_up gT_X7_secondOf) rfl rfl rfl hdX7_secondOf ⟨Nat.le_of_ble_eq_true rfl, Nat.le_of_ble_eq_true rfl⟩) hm (by decide) rfl rfl rfl (Nat.le_of_ble_eq_true rfl) dX7_hangsOn_30 ⟨Nat.zero_le _, Nat.zero_le _⟩) hS (fun v_46 I_40 R_41 J_42 AI_43 AJ_44 AR_45 H locs zv_46 hp_47 hH hS => ?_)
    dsimp only at hp_47
    obtain ⟨rfl, rfl, rfl, rfl, rfl, rfl, q_48⟩ := hp_47
    refine z_if_ge (tgt := 40) F dX7_hangsOn_33 (by decide) zv_46 (fun c_49 => ?_) (fun c_49 => ?_)
    · refine lv_iload_n F.1 F.2.1 dX7_hangsOn_40 rfl (lv_at hl 0 rfl) ?_
      refine z_iconst F dX7_hangsOn_41 ?_
      refine lv_aload_n F.1 F.2.1 dX7_hangsOn_42 rfl (lv_at hl 1 rfl) ?_
      refine lv_iload_n F.1 F.2.1 dX7_hangsOn_43 rfl (lv_at hl 2 rfl) ?_
      refine g_calli (g_runV (As := [.int (iI rr)]) (rest := [.int (iI 1), .int (iI v_39)]) (ci := 7) F hl.1 hH hS hz (c_X7_secondOf l g gh T I R J AI AJ AR mo rr zrr hv hm hT (by omega)) (cwV 1 F.2.2.2.2.1 (good_up gT_X7_secondOf) rfl rfl rfl hdX7_secondOf ⟨Nat.le_of_ble_eq_true rfl, Nat.le_of_ble_eq_true rfl⟩) hm (by decide) rfl rfl rfl (Nat.le_of_ble_eq_true rfl) dX7_hangsOn_44 ⟨Nat.zero_le _, Nat.zero_le _⟩) hS (fun v_56 I_50 R_51 J_52 AI_53 AJ_54 AR_55 H locs zv_56 hp_57 hH hS => ?_)
      dsimp only at hp_57
      obtain ⟨rfl, rfl, rfl, rfl, rfl, rfl, q_58⟩ := hp_57
      refine lv_ishl F.1 F.2.1 dX7_hangsOn_47 ?_
      refine z_top (fun v_59 zv_59 ev_59 => ?_)
      refine lv_ior F.1 F.2.1 dX7_hangsOn_48 ?_
      refine z_top (fun v_60 zv_60 ev_60 => ?_)
      refine lv_aload_n F.1 F.2.1 dX7_hangsOn_49 rfl (lv_at hl 1 rfl) ?_
      refine lv_aload_n F.1 F.2.1 dX7_hangsOn_50 rfl (lv_at hl 1 rfl) ?_
      refine lv_iload_n F.1 F.2.1 dX7_hangsOn_51 rfl (lv_at hl 2 rfl) ?_
      refine g_calli (g_runV (As := [.int (iI rr)]) (rest := [.ref mo, .int (iI v_60)]) (ci := 7) F hl.1 hH hS hz (c_X7_secondOf l g gh T I R J AI AJ AR mo rr zrr hv hm hT (by omega)) (cwV 1 F.2.2.2.2.1 (good_up gT_X7_secondOf) rfl rfl rfl hdX7_secondOf ⟨Nat.le_of_ble_eq_true rfl, Nat.le_of_ble_eq_true rfl⟩) hm (by decide) rfl rfl rfl (Nat.le_of_ble_eq_true rfl) dX7_hangsOn_52 ⟨Nat.zero_le _, Nat.zero_le _⟩) hS (fun v_67 I_61 R_62 J_63 AI_64 AJ_65 AR_66 H locs zv_67 hp_68 hH hS => ?_)
      dsimp only at hp_68
      obtain ⟨rfl, rfl, rfl, rfl, rfl, rfl, q_69⟩ := hp_68
      refine g_calli (g_runV (As := [.int (iI v_67)]) (rest := [.int (iI v_60)]) (ci := 7) F hl.1 hH hS hz (c_X7_hangsOn8 l g gh T I R J AI AJ AR mo v_67 zv_67 hv hm hT (by omega)) (cwV 1 F.2.2.2.2.1 (good_up gT_X7_hangsOn) rfl rfl rfl hdX7_hangsOn ⟨Nat.le_of_ble_eq_true rfl, Nat.le_of_ble_eq_true rfl⟩) hm (by decide) rfl rfl rfl (Nat.le_of_ble_eq_true rfl) dX7_hangsOn_55 ⟨Nat.zero_le _, Nat.zero_le _⟩) hS (fun v_76 I_70 R_71 J_72 AI_73 AJ_74 AR_75 H locs zv_76 hp_77 hH hS => ?_)
      dsimp only at hp_77
      obtain ⟨rfl, rfl, rfl, rfl, rfl, rfl⟩ := hp_77
      refine lv_ior F.1 F.2.1 dX7_hangsOn_58 ?_
      refine z_top (fun v_78 zv_78 ev_78 => ?_)
      exact g_iret F hr hlk hH hS hz zv_78 ⟨rfl, rfl, rfl, rfl, rfl, rfl⟩ dX7_hangsOn_59
    · refine lv_iload_n F.1 F.2.1 dX7_hangsOn_36 rfl (lv_at hl 0 rfl) ?_
      refine z_goto (tgt := 59) F dX7_hangsOn_37 (by decide) ?_
      exact g_iret F hr hlk hH hS hz zv_39 ⟨rfl, rfl, rfl, rfl, rfl, rfl⟩ dX7_hangsOn_59
  · refine z_iconst F dX7_hangsOn_8 ?_
    exact g_iret F hr hlk hH hS hz ⟨by decide, by decide⟩ ⟨rfl, rfl, rfl, rfl, rfl, rfl⟩ dX7_hangsOn_9

def rmX7_hangsOn10 : Room := { frames := 10, cells := 0, slots := 0, locals := 219 }
set_option maxHeartbeats 4000000 in
set_option maxRecDepth 100000 in
/-- hangsOn -/
theorem c_X7_hangsOn10 (l : Launch) (g : gG) (gh : gGh) (T : Nat → Int32) (I : gI) (R : gR) (J : gJ) (AI : gI) (AJ : gJ) (AR : gR) (mo : Nat) (rr : Int) (zrr : zr rr) (hv : mInv g gh R I AI) (hm : gO g mo 7) (hT : AI (gh 50 0) = T) (hr0 : 0 ≤ rr ∧ rr < (I mo 2).toInt ∧ rr < 10) : gMet l g yX7_hangsOn tsX7_hangsOn rmX7_hangsOn10 [.ref mo, .int (iI rr)] (I, R, J, AI, AJ, AR) (gQi g (fun (z : Int) (w : gS) => I = w.1 ∧ R = w.2.1 ∧ J = w.2.2.1 ∧ AI = w.2.2.2.1 ∧ AJ = w.2.2.2.2.1 ∧ AR = w.2.2.2.2.2)) := by
  refine gStart (cc := cX7_hangsOn) (maxL := 3) (ret := (some (.int))) (by decide) rfl (Nat.le_of_ble_eq_true rfl) ?_
  intro p e s m below meth c ls F hr hlk hH hz hS hl
  have hl : lv_has ls 3 [(0, .ref mo), (1, .int (iI rr))] := hl
  have hS : va_S (gA g) s.heap s.heap [] := hS
  obtain ⟨H, hHe⟩ : ∃ H : Heap, H = s.heap := ⟨_, rfl⟩
  obtain ⟨locs, hlo⟩ : ∃ k : List Loc, k = [] := ⟨_, rfl⟩
  have hH : gH g I R J AI AJ AR H := by rw [hHe]; exact hH
  have hS : va_S (gA g) s.heap H locs := by rw [hHe, hlo]; exact hS
  suffices hw : W p l e rmX7_hangsOn10 s m ([.ref mo, .int (iI rr)] : List Value).toArray below meth c H locs 0 0 (MQ below (gQi g (fun (z : Int) (w : gS) => I = w.1 ∧ R = w.2.1 ∧ J = w.2.2.1 ∧ AI = w.2.2.2.1 ∧ AJ = w.2.2.2.2.1 ∧ AR = w.2.2.2.2.2)) ([.ref mo, .int (iI rr)] : List Value).toArray s 0 0 (gA g)) (F0 m 0 ls []) by
    rw [hHe, hlo] at hw; exact hw
  clear hHe hlo
  have hb0 := mJ hv hm
  unfold mNum1 at hb0
  have x := mRow hv hm hT (z := rr) (by omega) (by omega)
  have xa := x.1
  have xc := x.2.2.1
  have xb := x.2.1
  refine lv_aload_n F.1 F.2.1 dX7_hangsOn_0 rfl (lv_at hl 0 rfl) ?_
  refine lv_iload_n F.1 F.2.1 dX7_hangsOn_1 rfl (lv_at hl 1 rfl) ?_
  have b_1 := mJ hv hm
  unfold mNum1 at b_1
  refine g_calli (g_runV (As := [.int (iI rr)]) (rest := []) (ci := 7) F hl.1 hH hS hz (c_X7_kindOf l g gh T I R J AI AJ AR mo rr zrr hv hm hT (by omega)) (cwV 1 F.2.2.2.2.1 (good_up gT_X7_kindOf) rfl rfl rfl hdX7_kindOf ⟨Nat.le_of_ble_eq_true rfl, Nat.le_of_ble_eq_true rfl⟩) hm (by decide) rfl rfl rfl (Nat.le_of_ble_eq_true rfl) dX7_hangsOn_2 ⟨Nat.zero_le _, Nat.zero_le _⟩) hS (fun v_8 I_2 R_3 J_4 AI_5 AJ_6 AR_7 H locs zv_8 hp_9 hH hS => ?_)
  dsimp only at hp_9
  obtain ⟨rfl, rfl, rfl, rfl, rfl, rfl, q_10⟩ := hp_9
  refine z_if_ne (tgt := 10) F dX7_hangsOn_5 (by decide) zv_8 (fun c_11 => ?_) (fun c_11 => ?_)
  · refine z_iconst F dX7_hangsOn_10 ?_
    refine lv_aload_n F.1 F.2.1 dX7_hangsOn_11 rfl (lv_at hl 0 rfl) ?_
    refine lv_iload_n F.1 F.2.1 dX7_hangsOn_12 rfl (lv_at hl 1 rfl) ?_
    refine g_calli (g_runV (As := [.int (iI rr)]) (rest := [.int (iI 1)]) (ci := 7) F hl.1 hH hS hz (c_X7_firstOf l g gh T I R J AI AJ AR mo rr zrr hv hm hT (by omega)) (cwV 1 F.2.2.2.2.1 (good_up gT_X7_firstOf) rfl rfl rfl hdX7_firstOf ⟨Nat.le_of_ble_eq_true rfl, Nat.le_of_ble_eq_true rfl⟩) hm (by decide) rfl rfl rfl (Nat.le_of_ble_eq_true rfl) dX7_hangsOn_13 ⟨Nat.zero_le _, Nat.zero_le _⟩) hS (fun v_18 I_12 R_13 J_14 AI_15 AJ_16 AR_17 H locs zv_18 hp_19 hH hS => ?_)
    dsimp only at hp_19
    obtain ⟨rfl, rfl, rfl, rfl, rfl, rfl, q_20⟩ := hp_19
    refine lv_ishl F.1 F.2.1 dX7_hangsOn_16 ?_
    refine z_top (fun v_21 zv_21 ev_21 => ?_)
    refine lv_aload_n F.1 F.2.1 dX7_hangsOn_17 rfl (lv_at hl 0 rfl) ?_
    refine lv_aload_n F.1 F.2.1 dX7_hangsOn_18 rfl (lv_at hl 0 rfl) ?_
    refine lv_iload_n F.1 F.2.1 dX7_hangsOn_19 rfl (lv_at hl 1 rfl) ?_
    refine g_calli (g_runV (As := [.int (iI rr)]) (rest := [.ref mo, .int (iI v_21)]) (ci := 7) F hl.1 hH hS hz (c_X7_firstOf l g gh T I R J AI AJ AR mo rr zrr hv hm hT (by omega)) (cwV 1 F.2.2.2.2.1 (good_up gT_X7_firstOf) rfl rfl rfl hdX7_firstOf ⟨Nat.le_of_ble_eq_true rfl, Nat.le_of_ble_eq_true rfl⟩) hm (by decide) rfl rfl rfl (Nat.le_of_ble_eq_true rfl) dX7_hangsOn_20 ⟨Nat.zero_le _, Nat.zero_le _⟩) hS (fun v_28 I_22 R_23 J_24 AI_25 AJ_26 AR_27 H locs zv_28 hp_29 hH hS => ?_)
    dsimp only at hp_29
    obtain ⟨rfl, rfl, rfl, rfl, rfl, rfl, q_30⟩ := hp_29
    refine g_calli (g_runV (As := [.int (iI v_28)]) (rest := [.int (iI v_21)]) (ci := 7) F hl.1 hH hS hz (c_X7_hangsOn9 l g gh T I R J AI AJ AR mo v_28 zv_28 hv hm hT (by omega)) (cwV 1 F.2.2.2.2.1 (good_up gT_X7_hangsOn) rfl rfl rfl hdX7_hangsOn ⟨Nat.le_of_ble_eq_true rfl, Nat.le_of_ble_eq_true rfl⟩) hm (by decide) rfl rfl rfl (Nat.le_of_ble_eq_true rfl) dX7_hangsOn_23 ⟨Nat.zero_le _, Nat.zero_le _⟩) hS (fun v_37 I_31 R_32 J_33 AI_34 AJ_35 AR_36 H locs zv_37 hp_38 hH hS => ?_)
    dsimp only at hp_38
    obtain ⟨rfl, rfl, rfl, rfl, rfl, rfl⟩ := hp_38
    refine lv_ior F.1 F.2.1 dX7_hangsOn_26 ?_
    refine z_top (fun v_39 zv_39 ev_39 => ?_)
    refine lv_istore_n (lv' := [(2, .int (iI v_39)), (0, .ref mo), (1, .int (iI rr))]) F.1 F.2.1 dX7_hangsOn_27 rfl hl (by decide) rfl (fun ls hl => ?_)
    refine lv_aload_n F.1 F.2.1 dX7_hangsOn_28 rfl (lv_at hl 1 rfl) ?_
    refine lv_iload_n F.1 F.2.1 dX7_hangsOn_29 rfl (lv_at hl 2 rfl) ?_
    refine g_calli (g_runV (As := [.int (iI rr)]) (rest := []) (ci := 7) F hl.1 hH hS hz (c_X7_secondOf l g gh T I R J AI AJ AR mo rr zrr hv hm hT (by omega)) (cwV 1 F.2.2.2.2.1 (good_up gT_X7_secondOf) rfl rfl rfl hdX7_secondOf ⟨Nat.le_of_ble_eq_true rfl, Nat.le_of_ble_eq_true rfl⟩) hm (by decide) rfl rfl rfl (Nat.le_of_ble_eq_true rfl) dX7_hangsOn_30 ⟨Nat.zero_le _, Nat.zero_le _⟩) hS (fun v_46 I_40 R_41 J_42 AI_43 AJ_44 AR_45 H locs zv_46 hp_47 hH hS => ?_)
    dsimp only at hp_47
    obtain ⟨rfl, rfl, rfl, rfl, rfl, rfl, q_48⟩ := hp_47
    refine z_if_ge (tgt := 40) F dX7_hangsOn_33 (by decide) zv_46 (fun c_49 => ?_) (fun c_49 => ?_)
    · refine lv_iload_n F.1 F.2.1 dX7_hangsOn_40 rfl (lv_at hl 0 rfl) ?_
      refine z_iconst F dX7_hangsOn_41 ?_
      refine lv_aload_n F.1 F.2.1 dX7_hangsOn_42 rfl (lv_at hl 1 rfl) ?_
      refine lv_iload_n F.1 F.2.1 dX7_hangsOn_43 rfl (lv_at hl 2 rfl) ?_
      refine g_calli (g_runV (As := [.int (iI rr)]) (rest := [.int (iI 1), .int (iI v_39)]) (ci := 7) F hl.1 hH hS hz (c_X7_secondOf l g gh T I R J AI AJ AR mo rr zrr hv hm hT (by omega)) (cwV 1 F.2.2.2.2.1 (good_up gT_X7_secondOf) rfl rfl rfl hdX7_secondOf ⟨Nat.le_of_ble_eq_true rfl, Nat.le_of_ble_eq_true rfl⟩) hm (by decide) rfl rfl rfl (Nat.le_of_ble_eq_true rfl) dX7_hangsOn_44 ⟨Nat.zero_le _, Nat.zero_le _⟩) hS (fun v_56 I_50 R_51 J_52 AI_53 AJ_54 AR_55 H locs zv_56 hp_57 hH hS => ?_)
      dsimp only at hp_57
      obtain ⟨rfl, rfl, rfl, rfl, rfl, rfl, q_58⟩ := hp_57
      refine lv_ishl F.1 F.2.1 dX7_hangsOn_47 ?_
      refine z_top (fun v_59 zv_59 ev_59 => ?_)
      refine lv_ior F.1 F.2.1 dX7_hangsOn_48 ?_
      refine z_top (fun v_60 zv_60 ev_60 => ?_)
      refine lv_aload_n F.1 F.2.1 dX7_hangsOn_49 rfl (lv_at hl 1 rfl) ?_
      refine lv_aload_n F.1 F.2.1 dX7_hangsOn_50 rfl (lv_at hl 1 rfl) ?_
      refine lv_iload_n F.1 F.2.1 dX7_hangsOn_51 rfl (lv_at hl 2 rfl) ?_
      refine g_calli (g_runV (As := [.int (iI rr)]) (rest := [.ref mo, .int (iI v_60)]) (ci := 7) F hl.1 hH hS hz (c_X7_secondOf l g gh T I R J AI AJ AR mo rr zrr hv hm hT (by omega)) (cwV 1 F.2.2.2.2.1 (good_up gT_X7_secondOf) rfl rfl rfl hdX7_secondOf ⟨Nat.le_of_ble_eq_true rfl, Nat.le_of_ble_eq_true rfl⟩) hm (by decide) rfl rfl rfl (Nat.le_of_ble_eq_true rfl) dX7_hangsOn_52 ⟨Nat.zero_le _, Nat.zero_le _⟩) hS (fun v_67 I_61 R_62 J_63 AI_64 AJ_65 AR_66 H locs zv_67 hp_68 hH hS => ?_)
      dsimp only at hp_68
      obtain ⟨rfl, rfl, rfl, rfl, rfl, rfl, q_69⟩ := hp_68
      refine g_calli (g_runV (As := [.int (iI v_67)]) (rest := [.int (iI v_60)]) (ci := 7) F hl.1 hH hS hz (c_X7_hangsOn9 l g gh T I R J AI AJ AR mo v_67 zv_67 hv hm hT (by omega)) (cwV 1 F.2.2.2.2.1 (good_up gT_X7_hangsOn) rfl rfl rfl hdX7_hangsOn ⟨Nat.le_of_ble_eq_true rfl, Nat.le_of_ble_eq_true rfl⟩) hm (by decide) rfl rfl rfl (Nat.le_of_ble_eq_true rfl) dX7_hangsOn_55 ⟨Nat.zero_le _, Nat.zero_le _⟩) hS (fun v_76 I_70 R_71 J_72 AI_73 AJ_74 AR_75 H locs zv_76 hp_77 hH hS => ?_)
      dsimp only at hp_77
      obtain ⟨rfl, rfl, rfl, rfl, rfl, rfl⟩ := hp_77
      refine lv_ior F.1 F.2.1 dX7_hangsOn_58 ?_
      refine z_top (fun v_78 zv_78 ev_78 => ?_)
      exact g_iret F hr hlk hH hS hz zv_78 ⟨rfl, rfl, rfl, rfl, rfl, rfl⟩ dX7_hangsOn_59
    · refine lv_iload_n F.1 F.2.1 dX7_hangsOn_36 rfl (lv_at hl 0 rfl) ?_
      refine z_goto (tgt := 59) F dX7_hangsOn_37 (by decide) ?_
      exact g_iret F hr hlk hH hS hz zv_39 ⟨rfl, rfl, rfl, rfl, rfl, rfl⟩ dX7_hangsOn_59
  · refine z_iconst F dX7_hangsOn_8 ?_
    exact g_iret F hr hlk hH hS hz ⟨by decide, by decide⟩ ⟨rfl, rfl, rfl, rfl, rfl, rfl⟩ dX7_hangsOn_9

def rmX7_hangsOn11 : Room := { frames := 11, cells := 0, slots := 0, locals := 241 }
set_option maxHeartbeats 4000000 in
set_option maxRecDepth 100000 in
/-- hangsOn -/
theorem c_X7_hangsOn11 (l : Launch) (g : gG) (gh : gGh) (T : Nat → Int32) (I : gI) (R : gR) (J : gJ) (AI : gI) (AJ : gJ) (AR : gR) (mo : Nat) (rr : Int) (zrr : zr rr) (hv : mInv g gh R I AI) (hm : gO g mo 7) (hT : AI (gh 50 0) = T) (hr0 : 0 ≤ rr ∧ rr < (I mo 2).toInt ∧ rr < 11) : gMet l g yX7_hangsOn tsX7_hangsOn rmX7_hangsOn11 [.ref mo, .int (iI rr)] (I, R, J, AI, AJ, AR) (gQi g (fun (z : Int) (w : gS) => I = w.1 ∧ R = w.2.1 ∧ J = w.2.2.1 ∧ AI = w.2.2.2.1 ∧ AJ = w.2.2.2.2.1 ∧ AR = w.2.2.2.2.2)) := by
  refine gStart (cc := cX7_hangsOn) (maxL := 3) (ret := (some (.int))) (by decide) rfl (Nat.le_of_ble_eq_true rfl) ?_
  intro p e s m below meth c ls F hr hlk hH hz hS hl
  have hl : lv_has ls 3 [(0, .ref mo), (1, .int (iI rr))] := hl
  have hS : va_S (gA g) s.heap s.heap [] := hS
  obtain ⟨H, hHe⟩ : ∃ H : Heap, H = s.heap := ⟨_, rfl⟩
  obtain ⟨locs, hlo⟩ : ∃ k : List Loc, k = [] := ⟨_, rfl⟩
  have hH : gH g I R J AI AJ AR H := by rw [hHe]; exact hH
  have hS : va_S (gA g) s.heap H locs := by rw [hHe, hlo]; exact hS
  suffices hw : W p l e rmX7_hangsOn11 s m ([.ref mo, .int (iI rr)] : List Value).toArray below meth c H locs 0 0 (MQ below (gQi g (fun (z : Int) (w : gS) => I = w.1 ∧ R = w.2.1 ∧ J = w.2.2.1 ∧ AI = w.2.2.2.1 ∧ AJ = w.2.2.2.2.1 ∧ AR = w.2.2.2.2.2)) ([.ref mo, .int (iI rr)] : List Value).toArray s 0 0 (gA g)) (F0 m 0 ls []) by
    rw [hHe, hlo] at hw; exact hw
  clear hHe hlo
  have hb0 := mJ hv hm
  unfold mNum1 at hb0
  have x := mRow hv hm hT (z := rr) (by omega) (by omega)
  have xa := x.1
  have xc := x.2.2.1
  have xb := x.2.1
  refine lv_aload_n F.1 F.2.1 dX7_hangsOn_0 rfl (lv_at hl 0 rfl) ?_
  refine lv_iload_n F.1 F.2.1 dX7_hangsOn_1 rfl (lv_at hl 1 rfl) ?_
  have b_1 := mJ hv hm
  unfold mNum1 at b_1
  refine g_calli (g_runV (As := [.int (iI rr)]) (rest := []) (ci := 7) F hl.1 hH hS hz (c_X7_kindOf l g gh T I R J AI AJ AR mo rr zrr hv hm hT (by omega)) (cwV 1 F.2.2.2.2.1 (good_up gT_X7_kindOf) rfl rfl rfl hdX7_kindOf ⟨Nat.le_of_ble_eq_true rfl, Nat.le_of_ble_eq_true rfl⟩) hm (by decide) rfl rfl rfl (Nat.le_of_ble_eq_true rfl) dX7_hangsOn_2 ⟨Nat.zero_le _, Nat.zero_le _⟩) hS (fun v_8 I_2 R_3 J_4 AI_5 AJ_6 AR_7 H locs zv_8 hp_9 hH hS => ?_)
  dsimp only at hp_9
  obtain ⟨rfl, rfl, rfl, rfl, rfl, rfl, q_10⟩ := hp_9
  refine z_if_ne (tgt := 10) F dX7_hangsOn_5 (by decide) zv_8 (fun c_11 => ?_) (fun c_11 => ?_)
  · refine z_iconst F dX7_hangsOn_10 ?_
    refine lv_aload_n F.1 F.2.1 dX7_hangsOn_11 rfl (lv_at hl 0 rfl) ?_
    refine lv_iload_n F.1 F.2.1 dX7_hangsOn_12 rfl (lv_at hl 1 rfl) ?_
    refine g_calli (g_runV (As := [.int (iI rr)]) (rest := [.int (iI 1)]) (ci := 7) F hl.1 hH hS hz (c_X7_firstOf l g gh T I R J AI AJ AR mo rr zrr hv hm hT (by omega)) (cwV 1 F.2.2.2.2.1 (good_up gT_X7_firstOf) rfl rfl rfl hdX7_firstOf ⟨Nat.le_of_ble_eq_true rfl, Nat.le_of_ble_eq_true rfl⟩) hm (by decide) rfl rfl rfl (Nat.le_of_ble_eq_true rfl) dX7_hangsOn_13 ⟨Nat.zero_le _, Nat.zero_le _⟩) hS (fun v_18 I_12 R_13 J_14 AI_15 AJ_16 AR_17 H locs zv_18 hp_19 hH hS => ?_)
    dsimp only at hp_19
    obtain ⟨rfl, rfl, rfl, rfl, rfl, rfl, q_20⟩ := hp_19
    refine lv_ishl F.1 F.2.1 dX7_hangsOn_16 ?_
    refine z_top (fun v_21 zv_21 ev_21 => ?_)
    refine lv_aload_n F.1 F.2.1 dX7_hangsOn_17 rfl (lv_at hl 0 rfl) ?_
    refine lv_aload_n F.1 F.2.1 dX7_hangsOn_18 rfl (lv_at hl 0 rfl) ?_
    refine lv_iload_n F.1 F.2.1 dX7_hangsOn_19 rfl (lv_at hl 1 rfl) ?_
    refine g_calli (g_runV (As := [.int (iI rr)]) (rest := [.ref mo, .int (iI v_21)]) (ci := 7) F hl.1 hH hS hz (c_X7_firstOf l g gh T I R J AI AJ AR mo rr zrr hv hm hT (by omega)) (cwV 1 F.2.2.2.2.1 (good_up gT_X7_firstOf) rfl rfl rfl hdX7_firstOf ⟨Nat.le_of_ble_eq_true rfl, Nat.le_of_ble_eq_true rfl⟩) hm (by decide) rfl rfl rfl (Nat.le_of_ble_eq_true rfl) dX7_hangsOn_20 ⟨Nat.zero_le _, Nat.zero_le _⟩) hS (fun v_28 I_22 R_23 J_24 AI_25 AJ_26 AR_27 H locs zv_28 hp_29 hH hS => ?_)
    dsimp only at hp_29
    obtain ⟨rfl, rfl, rfl, rfl, rfl, rfl, q_30⟩ := hp_29
    refine g_calli (g_runV (As := [.int (iI v_28)]) (rest := [.int (iI v_21)]) (ci := 7) F hl.1 hH hS hz (c_X7_hangsOn10 l g gh T I R J AI AJ AR mo v_28 zv_28 hv hm hT (by omega)) (cwV 1 F.2.2.2.2.1 (good_up gT_X7_hangsOn) rfl rfl rfl hdX7_hangsOn ⟨Nat.le_of_ble_eq_true rfl, Nat.le_of_ble_eq_true rfl⟩) hm (by decide) rfl rfl rfl (Nat.le_of_ble_eq_true rfl) dX7_hangsOn_23 ⟨Nat.zero_le _, Nat.zero_le _⟩) hS (fun v_37 I_31 R_32 J_33 AI_34 AJ_35 AR_36 H locs zv_37 hp_38 hH hS => ?_)
    dsimp only at hp_38
    obtain ⟨rfl, rfl, rfl, rfl, rfl, rfl⟩ := hp_38
    refine lv_ior F.1 F.2.1 dX7_hangsOn_26 ?_
    refine z_top (fun v_39 zv_39 ev_39 => ?_)
    refine lv_istore_n (lv' := [(2, .int (iI v_39)), (0, .ref mo), (1, .int (iI rr))]) F.1 F.2.1 dX7_hangsOn_27 rfl hl (by decide) rfl (fun ls hl => ?_)
    refine lv_aload_n F.1 F.2.1 dX7_hangsOn_28 rfl (lv_at hl 1 rfl) ?_
    refine lv_iload_n F.1 F.2.1 dX7_hangsOn_29 rfl (lv_at hl 2 rfl) ?_
    refine g_calli (g_runV (As := [.int (iI rr)]) (rest := []) (ci := 7) F hl.1 hH hS hz (c_X7_secondOf l g gh T I R J AI AJ AR mo rr zrr hv hm hT (by omega)) (cwV 1 F.2.2.2.2.1 (good_up gT_X7_secondOf) rfl rfl rfl hdX7_secondOf ⟨Nat.le_of_ble_eq_true rfl, Nat.le_of_ble_eq_true rfl⟩) hm (by decide) rfl rfl rfl (Nat.le_of_ble_eq_true rfl) dX7_hangsOn_30 ⟨Nat.zero_le _, Nat.zero_le _⟩) hS (fun v_46 I_40 R_41 J_42 AI_43 AJ_44 AR_45 H locs zv_46 hp_47 hH hS => ?_)
    dsimp only at hp_47
    obtain ⟨rfl, rfl, rfl, rfl, rfl, rfl, q_48⟩ := hp_47
    refine z_if_ge (tgt := 40) F dX7_hangsOn_33 (by decide) zv_46 (fun c_49 => ?_) (fun c_49 => ?_)
    · refine lv_iload_n F.1 F.2.1 dX7_hangsOn_40 rfl (lv_at hl 0 rfl) ?_
      refine z_iconst F dX7_hangsOn_41 ?_
      refine lv_aload_n F.1 F.2.1 dX7_hangsOn_42 rfl (lv_at hl 1 rfl) ?_
      refine lv_iload_n F.1 F.2.1 dX7_hangsOn_43 rfl (lv_at hl 2 rfl) ?_
      refine g_calli (g_runV (As := [.int (iI rr)]) (rest := [.int (iI 1), .int (iI v_39)]) (ci := 7) F hl.1 hH hS hz (c_X7_secondOf l g gh T I R J AI AJ AR mo rr zrr hv hm hT (by omega)) (cwV 1 F.2.2.2.2.1 (good_up gT_X7_secondOf) rfl rfl rfl hdX7_secondOf ⟨Nat.le_of_ble_eq_true rfl, Nat.le_of_ble_eq_true rfl⟩) hm (by decide) rfl rfl rfl (Nat.le_of_ble_eq_true rfl) dX7_hangsOn_44 ⟨Nat.zero_le _, Nat.zero_le _⟩) hS (fun v_56 I_50 R_51 J_52 AI_53 AJ_54 AR_55 H locs zv_56 hp_57 hH hS => ?_)
      dsimp only at hp_57
      obtain ⟨rfl, rfl, rfl, rfl, rfl, rfl, q_58⟩ := hp_57
      refine lv_ishl F.1 F.2.1 dX7_hangsOn_47 ?_
      refine z_top (fun v_59 zv_59 ev_59 => ?_)
      refine lv_ior F.1 F.2.1 dX7_hangsOn_48 ?_
      refine z_top (fun v_60 zv_60 ev_60 => ?_)
      refine lv_aload_n F.1 F.2.1 dX7_hangsOn_49 rfl (lv_at hl 1 rfl) ?_
      refine lv_aload_n F.1 F.2.1 dX7_hangsOn_50 rfl (lv_at hl 1 rfl) ?_
      refine lv_iload_n F.1 F.2.1 dX7_hangsOn_51 rfl (lv_at hl 2 rfl) ?_
      refine g_calli (g_runV (As := [.int (iI rr)]) (rest := [.ref mo, .int (iI v_60)]) (ci := 7) F hl.1 hH hS hz (c_X7_secondOf l g gh T I R J AI AJ AR mo rr zrr hv hm hT (by omega)) (cwV 1 F.2.2.2.2.1 (good_up gT_X7_secondOf) rfl rfl rfl hdX7_secondOf ⟨Nat.le_of_ble_eq_true rfl, Nat.le_of_ble_eq_true rfl⟩) hm (by decide) rfl rfl rfl (Nat.le_of_ble_eq_true rfl) dX7_hangsOn_52 ⟨Nat.zero_le _, Nat.zero_le _⟩) hS (fun v_67 I_61 R_62 J_63 AI_64 AJ_65 AR_66 H locs zv_67 hp_68 hH hS => ?_)
      dsimp only at hp_68
      obtain ⟨rfl, rfl, rfl, rfl, rfl, rfl, q_69⟩ := hp_68
      refine g_calli (g_runV (As := [.int (iI v_67)]) (rest := [.int (iI v_60)]) (ci := 7) F hl.1 hH hS hz (c_X7_hangsOn10 l g gh T I R J AI AJ AR mo v_67 zv_67 hv hm hT (by omega)) (cwV 1 F.2.2.2.2.1 (good_up gT_X7_hangsOn) rfl rfl rfl hdX7_hangsOn ⟨Nat.le_of_ble_eq_true rfl, Nat.le_of_ble_eq_true rfl⟩) hm (by decide) rfl rfl rfl (Nat.le_of_ble_eq_true rfl) dX7_hangsOn_55 ⟨Nat.zero_le _, Nat.zero_le _⟩) hS (fun v_76 I_70 R_71 J_72 AI_73 AJ_74 AR_75 H locs zv_76 hp_77 hH hS => ?_)
      dsimp only at hp_77
      obtain ⟨rfl, rfl, rfl, rfl, rfl, rfl⟩ := hp_77
      refine lv_ior F.1 F.2.1 dX7_hangsOn_58 ?_
      refine z_top (fun v_78 zv_78 ev_78 => ?_)
      exact g_iret F hr hlk hH hS hz zv_78 ⟨rfl, rfl, rfl, rfl, rfl, rfl⟩ dX7_hangsOn_59
    · refine lv_iload_n F.1 F.2.1 dX7_hangsOn_36 rfl (lv_at hl 0 rfl) ?_
      refine z_goto (tgt := 59) F dX7_hangsOn_37 (by decide) ?_
      exact g_iret F hr hlk hH hS hz zv_39 ⟨rfl, rfl, rfl, rfl, rfl, rfl⟩ dX7_hangsOn_59
  · refine z_iconst F dX7_hangsOn_8 ?_
    exact g_iret F hr hlk hH hS hz ⟨by decide, by decide⟩ ⟨rfl, rfl, rfl, rfl, rfl, rfl⟩ dX7_hangsOn_9

def rmX7_hangsOn12 : Room := { frames := 12, cells := 0, slots := 0, locals := 263 }
set_option maxHeartbeats 4000000 in
set_option maxRecDepth 100000 in
/-- hangsOn -/
theorem c_X7_hangsOn12 (l : Launch) (g : gG) (gh : gGh) (T : Nat → Int32) (I : gI) (R : gR) (J : gJ) (AI : gI) (AJ : gJ) (AR : gR) (mo : Nat) (rr : Int) (zrr : zr rr) (hv : mInv g gh R I AI) (hm : gO g mo 7) (hT : AI (gh 50 0) = T) (hr0 : 0 ≤ rr ∧ rr < (I mo 2).toInt ∧ rr < 12) : gMet l g yX7_hangsOn tsX7_hangsOn rmX7_hangsOn12 [.ref mo, .int (iI rr)] (I, R, J, AI, AJ, AR) (gQi g (fun (z : Int) (w : gS) => I = w.1 ∧ R = w.2.1 ∧ J = w.2.2.1 ∧ AI = w.2.2.2.1 ∧ AJ = w.2.2.2.2.1 ∧ AR = w.2.2.2.2.2)) := by
  refine gStart (cc := cX7_hangsOn) (maxL := 3) (ret := (some (.int))) (by decide) rfl (Nat.le_of_ble_eq_true rfl) ?_
  intro p e s m below meth c ls F hr hlk hH hz hS hl
  have hl : lv_has ls 3 [(0, .ref mo), (1, .int (iI rr))] := hl
  have hS : va_S (gA g) s.heap s.heap [] := hS
  obtain ⟨H, hHe⟩ : ∃ H : Heap, H = s.heap := ⟨_, rfl⟩
  obtain ⟨locs, hlo⟩ : ∃ k : List Loc, k = [] := ⟨_, rfl⟩
  have hH : gH g I R J AI AJ AR H := by rw [hHe]; exact hH
  have hS : va_S (gA g) s.heap H locs := by rw [hHe, hlo]; exact hS
  suffices hw : W p l e rmX7_hangsOn12 s m ([.ref mo, .int (iI rr)] : List Value).toArray below meth c H locs 0 0 (MQ below (gQi g (fun (z : Int) (w : gS) => I = w.1 ∧ R = w.2.1 ∧ J = w.2.2.1 ∧ AI = w.2.2.2.1 ∧ AJ = w.2.2.2.2.1 ∧ AR = w.2.2.2.2.2)) ([.ref mo, .int (iI rr)] : List Value).toArray s 0 0 (gA g)) (F0 m 0 ls []) by
    rw [hHe, hlo] at hw; exact hw
  clear hHe hlo
  have hb0 := mJ hv hm
  unfold mNum1 at hb0
  have x := mRow hv hm hT (z := rr) (by omega) (by omega)
  have xa := x.1
  have xc := x.2.2.1
  have xb := x.2.1
  refine lv_aload_n F.1 F.2.1 dX7_hangsOn_0 rfl (lv_at hl 0 rfl) ?_
  refine lv_iload_n F.1 F.2.1 dX7_hangsOn_1 rfl (lv_at hl 1 rfl) ?_
  have b_1 := mJ hv hm
  unfold mNum1 at b_1
  refine g_calli (g_runV (As := [.int (iI rr)]) (rest := []) (ci := 7) F hl.1 hH hS hz (c_X7_kindOf l g gh T I R J AI AJ AR mo rr zrr hv hm hT (by omega)) (cwV 1 F.2.2.2.2.1 (good_up gT_X7_kindOf) rfl rfl rfl hdX7_kindOf ⟨Nat.le_of_ble_eq_true rfl, Nat.le_of_ble_eq_true rfl⟩) hm (by decide) rfl rfl rfl (Nat.le_of_ble_eq_true rfl) dX7_hangsOn_2 ⟨Nat.zero_le _, Nat.zero_le _⟩) hS (fun v_8 I_2 R_3 J_4 AI_5 AJ_6 AR_7 H locs zv_8 hp_9 hH hS => ?_)
  dsimp only at hp_9
  obtain ⟨rfl, rfl, rfl, rfl, rfl, rfl, q_10⟩ := hp_9
  refine z_if_ne (tgt := 10) F dX7_hangsOn_5 (by decide) zv_8 (fun c_11 => ?_) (fun c_11 => ?_)
  · refine z_iconst F dX7_hangsOn_10 ?_
    refine lv_aload_n F.1 F.2.1 dX7_hangsOn_11 rfl (lv_at hl 0 rfl) ?_
    refine lv_iload_n F.1 F.2.1 dX7_hangsOn_12 rfl (lv_at hl 1 rfl) ?_
    refine g_calli (g_runV (As := [.int (iI rr)]) (rest := [.int (iI 1)]) (ci := 7) F hl.1 hH hS hz (c_X7_firstOf l g gh T I R J AI AJ AR mo rr zrr hv hm hT (by omega)) (cwV 1 F.2.2.2.2.1 (good_up gT_X7_firstOf) rfl rfl rfl hdX7_firstOf ⟨Nat.le_of_ble_eq_true rfl, Nat.le_of_ble_eq_true rfl⟩) hm (by decide) rfl rfl rfl (Nat.le_of_ble_eq_true rfl) dX7_hangsOn_13 ⟨Nat.zero_le _, Nat.zero_le _⟩) hS (fun v_18 I_12 R_13 J_14 AI_15 AJ_16 AR_17 H locs zv_18 hp_19 hH hS => ?_)
    dsimp only at hp_19
    obtain ⟨rfl, rfl, rfl, rfl, rfl, rfl, q_20⟩ := hp_19
    refine lv_ishl F.1 F.2.1 dX7_hangsOn_16 ?_
    refine z_top (fun v_21 zv_21 ev_21 => ?_)
    refine lv_aload_n F.1 F.2.1 dX7_hangsOn_17 rfl (lv_at hl 0 rfl) ?_
    refine lv_aload_n F.1 F.2.1 dX7_hangsOn_18 rfl (lv_at hl 0 rfl) ?_
    refine lv_iload_n F.1 F.2.1 dX7_hangsOn_19 rfl (lv_at hl 1 rfl) ?_
    refine g_calli (g_runV (As := [.int (iI rr)]) (rest := [.ref mo, .int (iI v_21)]) (ci := 7) F hl.1 hH hS hz (c_X7_firstOf l g gh T I R J AI AJ AR mo rr zrr hv hm hT (by omega)) (cwV 1 F.2.2.2.2.1 (good_up gT_X7_firstOf) rfl rfl rfl hdX7_firstOf ⟨Nat.le_of_ble_eq_true rfl, Nat.le_of_ble_eq_true rfl⟩) hm (by decide) rfl rfl rfl (Nat.le_of_ble_eq_true rfl) dX7_hangsOn_20 ⟨Nat.zero_le _, Nat.zero_le _⟩) hS (fun v_28 I_22 R_23 J_24 AI_25 AJ_26 AR_27 H locs zv_28 hp_29 hH hS => ?_)
    dsimp only at hp_29
    obtain ⟨rfl, rfl, rfl, rfl, rfl, rfl, q_30⟩ := hp_29
    refine g_calli (g_runV (As := [.int (iI v_28)]) (rest := [.int (iI v_21)]) (ci := 7) F hl.1 hH hS hz (c_X7_hangsOn11 l g gh T I R J AI AJ AR mo v_28 zv_28 hv hm hT (by omega)) (cwV 1 F.2.2.2.2.1 (good_up gT_X7_hangsOn) rfl rfl rfl hdX7_hangsOn ⟨Nat.le_of_ble_eq_true rfl, Nat.le_of_ble_eq_true rfl⟩) hm (by decide) rfl rfl rfl (Nat.le_of_ble_eq_true rfl) dX7_hangsOn_23 ⟨Nat.zero_le _, Nat.zero_le _⟩) hS (fun v_37 I_31 R_32 J_33 AI_34 AJ_35 AR_36 H locs zv_37 hp_38 hH hS => ?_)
    dsimp only at hp_38
    obtain ⟨rfl, rfl, rfl, rfl, rfl, rfl⟩ := hp_38
    refine lv_ior F.1 F.2.1 dX7_hangsOn_26 ?_
    refine z_top (fun v_39 zv_39 ev_39 => ?_)
    refine lv_istore_n (lv' := [(2, .int (iI v_39)), (0, .ref mo), (1, .int (iI rr))]) F.1 F.2.1 dX7_hangsOn_27 rfl hl (by decide) rfl (fun ls hl => ?_)
    refine lv_aload_n F.1 F.2.1 dX7_hangsOn_28 rfl (lv_at hl 1 rfl) ?_
    refine lv_iload_n F.1 F.2.1 dX7_hangsOn_29 rfl (lv_at hl 2 rfl) ?_
    refine g_calli (g_runV (As := [.int (iI rr)]) (rest := []) (ci := 7) F hl.1 hH hS hz (c_X7_secondOf l g gh T I R J AI AJ AR mo rr zrr hv hm hT (by omega)) (cwV 1 F.2.2.2.2.1 (good_up gT_X7_secondOf) rfl rfl rfl hdX7_secondOf ⟨Nat.le_of_ble_eq_true rfl, Nat.le_of_ble_eq_true rfl⟩) hm (by decide) rfl rfl rfl (Nat.le_of_ble_eq_true rfl) dX7_hangsOn_30 ⟨Nat.zero_le _, Nat.zero_le _⟩) hS (fun v_46 I_40 R_41 J_42 AI_43 AJ_44 AR_45 H locs zv_46 hp_47 hH hS => ?_)
    dsimp only at hp_47
    obtain ⟨rfl, rfl, rfl, rfl, rfl, rfl, q_48⟩ := hp_47
    refine z_if_ge (tgt := 40) F dX7_hangsOn_33 (by decide) zv_46 (fun c_49 => ?_) (fun c_49 => ?_)
    · refine lv_iload_n F.1 F.2.1 dX7_hangsOn_40 rfl (lv_at hl 0 rfl) ?_
      refine z_iconst F dX7_hangsOn_41 ?_
      refine lv_aload_n F.1 F.2.1 dX7_hangsOn_42 rfl (lv_at hl 1 rfl) ?_
      refine lv_iload_n F.1 F.2.1 dX7_hangsOn_43 rfl (lv_at hl 2 rfl) ?_
      refine g_calli (g_runV (As := [.int (iI rr)]) (rest := [.int (iI 1), .int (iI v_39)]) (ci := 7) F hl.1 hH hS hz (c_X7_secondOf l g gh T I R J AI AJ AR mo rr zrr hv hm hT (by omega)) (cwV 1 F.2.2.2.2.1 (good_up gT_X7_secondOf) rfl rfl rfl hdX7_secondOf ⟨Nat.le_of_ble_eq_true rfl, Nat.le_of_ble_eq_true rfl⟩) hm (by decide) rfl rfl rfl (Nat.le_of_ble_eq_true rfl) dX7_hangsOn_44 ⟨Nat.zero_le _, Nat.zero_le _⟩) hS (fun v_56 I_50 R_51 J_52 AI_53 AJ_54 AR_55 H locs zv_56 hp_57 hH hS => ?_)
      dsimp only at hp_57
      obtain ⟨rfl, rfl, rfl, rfl, rfl, rfl, q_58⟩ := hp_57
      refine lv_ishl F.1 F.2.1 dX7_hangsOn_47 ?_
      refine z_top (fun v_59 zv_59 ev_59 => ?_)
      refine lv_ior F.1 F.2.1 dX7_hangsOn_48 ?_
      refine z_top (fun v_60 zv_60 ev_60 => ?_)
      refine lv_aload_n F.1 F.2.1 dX7_hangsOn_49 rfl (lv_at hl 1 rfl) ?_
      refine lv_aload_n F.1 F.2.1 dX7_hangsOn_50 rfl (lv_at hl 1 rfl) ?_
      refine lv_iload_n F.1 F.2.1 dX7_hangsOn_51 rfl (lv_at hl 2 rfl) ?_
      refine g_calli (g_runV (As := [.int (iI rr)]) (rest := [.ref mo, .int (iI v_60)]) (ci := 7) F hl.1 hH hS hz (c_X7_secondOf l g gh T I R J AI AJ AR mo rr zrr hv hm hT (by omega)) (cwV 1 F.2.2.2.2.1 (good_up gT_X7_secondOf) rfl rfl rfl hdX7_secondOf ⟨Nat.le_of_ble_eq_true rfl, Nat.le_of_ble_eq_true rfl⟩) hm (by decide) rfl rfl rfl (Nat.le_of_ble_eq_true rfl) dX7_hangsOn_52 ⟨Nat.zero_le _, Nat.zero_le _⟩) hS (fun v_67 I_61 R_62 J_63 AI_64 AJ_65 AR_66 H locs zv_67 hp_68 hH hS => ?_)
      dsimp only at hp_68
      obtain ⟨rfl, rfl, rfl, rfl, rfl, rfl, q_69⟩ := hp_68
      refine g_calli (g_runV (As := [.int (iI v_67)]) (rest := [.int (iI v_60)]) (ci := 7) F hl.1 hH hS hz (c_X7_hangsOn11 l g gh T I R J AI AJ AR mo v_67 zv_67 hv hm hT (by omega)) (cwV 1 F.2.2.2.2.1 (good_up gT_X7_hangsOn) rfl rfl rfl hdX7_hangsOn ⟨Nat.le_of_ble_eq_true rfl, Nat.le_of_ble_eq_true rfl⟩) hm (by decide) rfl rfl rfl (Nat.le_of_ble_eq_true rfl) dX7_hangsOn_55 ⟨Nat.zero_le _, Nat.zero_le _⟩) hS (fun v_76 I_70 R_71 J_72 AI_73 AJ_74 AR_75 H locs zv_76 hp_77 hH hS => ?_)
      dsimp only at hp_77
      obtain ⟨rfl, rfl, rfl, rfl, rfl, rfl⟩ := hp_77
      refine lv_ior F.1 F.2.1 dX7_hangsOn_58 ?_
      refine z_top (fun v_78 zv_78 ev_78 => ?_)
      exact g_iret F hr hlk hH hS hz zv_78 ⟨rfl, rfl, rfl, rfl, rfl, rfl⟩ dX7_hangsOn_59
    · refine lv_iload_n F.1 F.2.1 dX7_hangsOn_36 rfl (lv_at hl 0 rfl) ?_
      refine z_goto (tgt := 59) F dX7_hangsOn_37 (by decide) ?_
      exact g_iret F hr hlk hH hS hz zv_39 ⟨rfl, rfl, rfl, rfl, rfl, rfl⟩ dX7_hangsOn_59
  · refine z_iconst F dX7_hangsOn_8 ?_
    exact g_iret F hr hlk hH hS hz ⟨by decide, by decide⟩ ⟨rfl, rfl, rfl, rfl, rfl, rfl⟩ dX7_hangsOn_9

def rmX7_hangsOn13 : Room := { frames := 13, cells := 0, slots := 0, locals := 285 }
set_option maxHeartbeats 4000000 in
set_option maxRecDepth 100000 in
/-- hangsOn -/
theorem c_X7_hangsOn13 (l : Launch) (g : gG) (gh : gGh) (T : Nat → Int32) (I : gI) (R : gR) (J : gJ) (AI : gI) (AJ : gJ) (AR : gR) (mo : Nat) (rr : Int) (zrr : zr rr) (hv : mInv g gh R I AI) (hm : gO g mo 7) (hT : AI (gh 50 0) = T) (hr0 : 0 ≤ rr ∧ rr < (I mo 2).toInt ∧ rr < 13) : gMet l g yX7_hangsOn tsX7_hangsOn rmX7_hangsOn13 [.ref mo, .int (iI rr)] (I, R, J, AI, AJ, AR) (gQi g (fun (z : Int) (w : gS) => I = w.1 ∧ R = w.2.1 ∧ J = w.2.2.1 ∧ AI = w.2.2.2.1 ∧ AJ = w.2.2.2.2.1 ∧ AR = w.2.2.2.2.2)) := by
  refine gStart (cc := cX7_hangsOn) (maxL := 3) (ret := (some (.int))) (by decide) rfl (Nat.le_of_ble_eq_true rfl) ?_
  intro p e s m below meth c ls F hr hlk hH hz hS hl
  have hl : lv_has ls 3 [(0, .ref mo), (1, .int (iI rr))] := hl
  have hS : va_S (gA g) s.heap s.heap [] := hS
  obtain ⟨H, hHe⟩ : ∃ H : Heap, H = s.heap := ⟨_, rfl⟩
  obtain ⟨locs, hlo⟩ : ∃ k : List Loc, k = [] := ⟨_, rfl⟩
  have hH : gH g I R J AI AJ AR H := by rw [hHe]; exact hH
  have hS : va_S (gA g) s.heap H locs := by rw [hHe, hlo]; exact hS
  suffices hw : W p l e rmX7_hangsOn13 s m ([.ref mo, .int (iI rr)] : List Value).toArray below meth c H locs 0 0 (MQ below (gQi g (fun (z : Int) (w : gS) => I = w.1 ∧ R = w.2.1 ∧ J = w.2.2.1 ∧ AI = w.2.2.2.1 ∧ AJ = w.2.2.2.2.1 ∧ AR = w.2.2.2.2.2)) ([.ref mo, .int (iI rr)] : List Value).toArray s 0 0 (gA g)) (F0 m 0 ls []) by
    rw [hHe, hlo] at hw; exact hw
  clear hHe hlo
  have hb0 := mJ hv hm
  unfold mNum1 at hb0
  have x := mRow hv hm hT (z := rr) (by omega) (by omega)
  have xa := x.1
  have xc := x.2.2.1
  have xb := x.2.1
  refine lv_aload_n F.1 F.2.1 dX7_hangsOn_0 rfl (lv_at hl 0 rfl) ?_
  refine lv_iload_n F.1 F.2.1 dX7_hangsOn_1 rfl (lv_at hl 1 rfl) ?_
  have b_1 := mJ hv hm
  unfold mNum1 at b_1
  refine g_calli (g_runV (As := [.int (iI rr)]) (rest := []) (ci := 7) F hl.1 hH hS hz (c_X7_kindOf l g gh T I R J AI AJ AR mo rr zrr hv hm hT (by omega)) (cwV 1 F.2.2.2.2.1 (good_up gT_X7_kindOf) rfl rfl rfl hdX7_kindOf ⟨Nat.le_of_ble_eq_true rfl, Nat.le_of_ble_eq_true rfl⟩) hm (by decide) rfl rfl rfl (Nat.le_of_ble_eq_true rfl) dX7_hangsOn_2 ⟨Nat.zero_le _, Nat.zero_le _⟩) hS (fun v_8 I_2 R_3 J_4 AI_5 AJ_6 AR_7 H locs zv_8 hp_9 hH hS => ?_)
  dsimp only at hp_9
  obtain ⟨rfl, rfl, rfl, rfl, rfl, rfl, q_10⟩ := hp_9
  refine z_if_ne (tgt := 10) F dX7_hangsOn_5 (by decide) zv_8 (fun c_11 => ?_) (fun c_11 => ?_)
  · refine z_iconst F dX7_hangsOn_10 ?_
    refine lv_aload_n F.1 F.2.1 dX7_hangsOn_11 rfl (lv_at hl 0 rfl) ?_
    refine lv_iload_n F.1 F.2.1 dX7_hangsOn_12 rfl (lv_at hl 1 rfl) ?_
    refine g_calli (g_runV (As := [.int (iI rr)]) (rest := [.int (iI 1)]) (ci := 7) F hl.1 hH hS hz (c_X7_firstOf l g gh T I R J AI AJ AR mo rr zrr hv hm hT (by omega)) (cwV 1 F.2.2.2.2.1 (good_up gT_X7_firstOf) rfl rfl rfl hdX7_firstOf ⟨Nat.le_of_ble_eq_true rfl, Nat.le_of_ble_eq_true rfl⟩) hm (by decide) rfl rfl rfl (Nat.le_of_ble_eq_true rfl) dX7_hangsOn_13 ⟨Nat.zero_le _, Nat.zero_le _⟩) hS (fun v_18 I_12 R_13 J_14 AI_15 AJ_16 AR_17 H locs zv_18 hp_19 hH hS => ?_)
    dsimp only at hp_19
    obtain ⟨rfl, rfl, rfl, rfl, rfl, rfl, q_20⟩ := hp_19
    refine lv_ishl F.1 F.2.1 dX7_hangsOn_16 ?_
    refine z_top (fun v_21 zv_21 ev_21 => ?_)
    refine lv_aload_n F.1 F.2.1 dX7_hangsOn_17 rfl (lv_at hl 0 rfl) ?_
    refine lv_aload_n F.1 F.2.1 dX7_hangsOn_18 rfl (lv_at hl 0 rfl) ?_
    refine lv_iload_n F.1 F.2.1 dX7_hangsOn_19 rfl (lv_at hl 1 rfl) ?_
    refine g_calli (g_runV (As := [.int (iI rr)]) (rest := [.ref mo, .int (iI v_21)]) (ci := 7) F hl.1 hH hS hz (c_X7_firstOf l g gh T I R J AI AJ AR mo rr zrr hv hm hT (by omega)) (cwV 1 F.2.2.2.2.1 (good_up gT_X7_firstOf) rfl rfl rfl hdX7_firstOf ⟨Nat.le_of_ble_eq_true rfl, Nat.le_of_ble_eq_true rfl⟩) hm (by decide) rfl rfl rfl (Nat.le_of_ble_eq_true rfl) dX7_hangsOn_20 ⟨Nat.zero_le _, Nat.zero_le _⟩) hS (fun v_28 I_22 R_23 J_24 AI_25 AJ_26 AR_27 H locs zv_28 hp_29 hH hS => ?_)
    dsimp only at hp_29
    obtain ⟨rfl, rfl, rfl, rfl, rfl, rfl, q_30⟩ := hp_29
    refine g_calli (g_runV (As := [.int (iI v_28)]) (rest := [.int (iI v_21)]) (ci := 7) F hl.1 hH hS hz (c_X7_hangsOn12 l g gh T I R J AI AJ AR mo v_28 zv_28 hv hm hT (by omega)) (cwV 1 F.2.2.2.2.1 (good_up gT_X7_hangsOn) rfl rfl rfl hdX7_hangsOn ⟨Nat.le_of_ble_eq_true rfl, Nat.le_of_ble_eq_true rfl⟩) hm (by decide) rfl rfl rfl (Nat.le_of_ble_eq_true rfl) dX7_hangsOn_23 ⟨Nat.zero_le _, Nat.zero_le _⟩) hS (fun v_37 I_31 R_32 J_33 AI_34 AJ_35 AR_36 H locs zv_37 hp_38 hH hS => ?_)
    dsimp only at hp_38
    obtain ⟨rfl, rfl, rfl, rfl, rfl, rfl⟩ := hp_38
    refine lv_ior F.1 F.2.1 dX7_hangsOn_26 ?_
    refine z_top (fun v_39 zv_39 ev_39 => ?_)
    refine lv_istore_n (lv' := [(2, .int (iI v_39)), (0, .ref mo), (1, .int (iI rr))]) F.1 F.2.1 dX7_hangsOn_27 rfl hl (by decide) rfl (fun ls hl => ?_)
    refine lv_aload_n F.1 F.2.1 dX7_hangsOn_28 rfl (lv_at hl 1 rfl) ?_
    refine lv_iload_n F.1 F.2.1 dX7_hangsOn_29 rfl (lv_at hl 2 rfl) ?_
    refine g_calli (g_runV (As := [.int (iI rr)]) (rest := []) (ci := 7) F hl.1 hH hS hz (c_X7_secondOf l g gh T I R J AI AJ AR mo rr zrr hv hm hT (by omega)) (cwV 1 F.2.2.2.2.1 (good_up gT_X7_secondOf) rfl rfl rfl hdX7_secondOf ⟨Nat.le_of_ble_eq_true rfl, Nat.le_of_ble_eq_true rfl⟩) hm (by decide) rfl rfl rfl (Nat.le_of_ble_eq_true rfl) dX7_hangsOn_30 ⟨Nat.zero_le _, Nat.zero_le _⟩) hS (fun v_46 I_40 R_41 J_42 AI_43 AJ_44 AR_45 H locs zv_46 hp_47 hH hS => ?_)
    dsimp only at hp_47
    obtain ⟨rfl, rfl, rfl, rfl, rfl, rfl, q_48⟩ := hp_47
    refine z_if_ge (tgt := 40) F dX7_hangsOn_33 (by decide) zv_46 (fun c_49 => ?_) (fun c_49 => ?_)
    · refine lv_iload_n F.1 F.2.1 dX7_hangsOn_40 rfl (lv_at hl 0 rfl) ?_
      refine z_iconst F dX7_hangsOn_41 ?_
      refine lv_aload_n F.1 F.2.1 dX7_hangsOn_42 rfl (lv_at hl 1 rfl) ?_
      refine lv_iload_n F.1 F.2.1 dX7_hangsOn_43 rfl (lv_at hl 2 rfl) ?_
      refine g_calli (g_runV (As := [.int (iI rr)]) (rest := [.int (iI 1), .int (iI v_39)]) (ci := 7) F hl.1 hH hS hz (c_X7_secondOf l g gh T I R J AI AJ AR mo rr zrr hv hm hT (by omega)) (cwV 1 F.2.2.2.2.1 (good_up gT_X7_secondOf) rfl rfl rfl hdX7_secondOf ⟨Nat.le_of_ble_eq_true rfl, Nat.le_of_ble_eq_true rfl⟩) hm (by decide) rfl rfl rfl (Nat.le_of_ble_eq_true rfl) dX7_hangsOn_44 ⟨Nat.zero_le _, Nat.zero_le _⟩) hS (fun v_56 I_50 R_51 J_52 AI_53 AJ_54 AR_55 H locs zv_56 hp_57 hH hS => ?_)
      dsimp only at hp_57
      obtain ⟨rfl, rfl, rfl, rfl, rfl, rfl, q_58⟩ := hp_57
      refine lv_ishl F.1 F.2.1 dX7_hangsOn_47 ?_
      refine z_top (fun v_59 zv_59 ev_59 => ?_)
      refine lv_ior F.1 F.2.1 dX7_hangsOn_48 ?_
      refine z_top (fun v_60 zv_60 ev_60 => ?_)
      refine lv_aload_n F.1 F.2.1 dX7_hangsOn_49 rfl (lv_at hl 1 rfl) ?_
      refine lv_aload_n F.1 F.2.1 dX7_hangsOn_50 rfl (lv_at hl 1 rfl) ?_
      refine lv_iload_n F.1 F.2.1 dX7_hangsOn_51 rfl (lv_at hl 2 rfl) ?_
      refine g_calli (g_runV (As := [.int (iI rr)]) (rest := [.ref mo, .int (iI v_60)]) (ci := 7) F hl.1 hH hS hz (c_X7_secondOf l g gh T I R J AI AJ AR mo rr zrr hv hm hT (by omega)) (cwV 1 F.2.2.2.2.1 (good_up gT_X7_secondOf) rfl rfl rfl hdX7_secondOf ⟨Nat.le_of_ble_eq_true rfl, Nat.le_of_ble_eq_true rfl⟩) hm (by decide) rfl rfl rfl (Nat.le_of_ble_eq_true rfl) dX7_hangsOn_52 ⟨Nat.zero_le _, Nat.zero_le _⟩) hS (fun v_67 I_61 R_62 J_63 AI_64 AJ_65 AR_66 H locs zv_67 hp_68 hH hS => ?_)
      dsimp only at hp_68
      obtain ⟨rfl, rfl, rfl, rfl, rfl, rfl, q_69⟩ := hp_68
      refine g_calli (g_runV (As := [.int (iI v_67)]) (rest := [.int (iI v_60)]) (ci := 7) F hl.1 hH hS hz (c_X7_hangsOn12 l g gh T I R J AI AJ AR mo v_67 zv_67 hv hm hT (by omega)) (cwV 1 F.2.2.2.2.1 (good_up gT_X7_hangsOn) rfl rfl rfl hdX7_hangsOn ⟨Nat.le_of_ble_eq_true rfl, Nat.le_of_ble_eq_true rfl⟩) hm (by decide) rfl rfl rfl (Nat.le_of_ble_eq_true rfl) dX7_hangsOn_55 ⟨Nat.zero_le _, Nat.zero_le _⟩) hS (fun v_76 I_70 R_71 J_72 AI_73 AJ_74 AR_75 H locs zv_76 hp_77 hH hS => ?_)
      dsimp only at hp_77
      obtain ⟨rfl, rfl, rfl, rfl, rfl, rfl⟩ := hp_77
      refine lv_ior F.1 F.2.1 dX7_hangsOn_58 ?_
      refine z_top (fun v_78 zv_78 ev_78 => ?_)
      exact g_iret F hr hlk hH hS hz zv_78 ⟨rfl, rfl, rfl, rfl, rfl, rfl⟩ dX7_hangsOn_59
    · refine lv_iload_n F.1 F.2.1 dX7_hangsOn_36 rfl (lv_at hl 0 rfl) ?_
      refine z_goto (tgt := 59) F dX7_hangsOn_37 (by decide) ?_
      exact g_iret F hr hlk hH hS hz zv_39 ⟨rfl, rfl, rfl, rfl, rfl, rfl⟩ dX7_hangsOn_59
  · refine z_iconst F dX7_hangsOn_8 ?_
    exact g_iret F hr hlk hH hS hz ⟨by decide, by decide⟩ ⟨rfl, rfl, rfl, rfl, rfl, rfl⟩ dX7_hangsOn_9

def rmX7_hangsOn14 : Room := { frames := 14, cells := 0, slots := 0, locals := 307 }
set_option maxHeartbeats 4000000 in
set_option maxRecDepth 100000 in
/-- hangsOn -/
theorem c_X7_hangsOn14 (l : Launch) (g : gG) (gh : gGh) (T : Nat → Int32) (I : gI) (R : gR) (J : gJ) (AI : gI) (AJ : gJ) (AR : gR) (mo : Nat) (rr : Int) (zrr : zr rr) (hv : mInv g gh R I AI) (hm : gO g mo 7) (hT : AI (gh 50 0) = T) (hr0 : 0 ≤ rr ∧ rr < (I mo 2).toInt ∧ rr < 14) : gMet l g yX7_hangsOn tsX7_hangsOn rmX7_hangsOn14 [.ref mo, .int (iI rr)] (I, R, J, AI, AJ, AR) (gQi g (fun (z : Int) (w : gS) => I = w.1 ∧ R = w.2.1 ∧ J = w.2.2.1 ∧ AI = w.2.2.2.1 ∧ AJ = w.2.2.2.2.1 ∧ AR = w.2.2.2.2.2)) := by
  refine gStart (cc := cX7_hangsOn) (maxL := 3) (ret := (some (.int))) (by decide) rfl (Nat.le_of_ble_eq_true rfl) ?_
  intro p e s m below meth c ls F hr hlk hH hz hS hl
  have hl : lv_has ls 3 [(0, .ref mo), (1, .int (iI rr))] := hl
  have hS : va_S (gA g) s.heap s.heap [] := hS
  obtain ⟨H, hHe⟩ : ∃ H : Heap, H = s.heap := ⟨_, rfl⟩
  obtain ⟨locs, hlo⟩ : ∃ k : List Loc, k = [] := ⟨_, rfl⟩
  have hH : gH g I R J AI AJ AR H := by rw [hHe]; exact hH
  have hS : va_S (gA g) s.heap H locs := by rw [hHe, hlo]; exact hS
  suffices hw : W p l e rmX7_hangsOn14 s m ([.ref mo, .int (iI rr)] : List Value).toArray below meth c H locs 0 0 (MQ below (gQi g (fun (z : Int) (w : gS) => I = w.1 ∧ R = w.2.1 ∧ J = w.2.2.1 ∧ AI = w.2.2.2.1 ∧ AJ = w.2.2.2.2.1 ∧ AR = w.2.2.2.2.2)) ([.ref mo, .int (iI rr)] : List Value).toArray s 0 0 (gA g)) (F0 m 0 ls []) by
    rw [hHe, hlo] at hw; exact hw
  clear hHe hlo
  have hb0 := mJ hv hm
  unfold mNum1 at hb0
  have x := mRow hv hm hT (z := rr) (by omega) (by omega)
  have xa := x.1
  have xc := x.2.2.1
  have xb := x.2.1
  refine lv_aload_n F.1 F.2.1 dX7_hangsOn_0 rfl (lv_at hl 0 rfl) ?_
  refine lv_iload_n F.1 F.2.1 dX7_hangsOn_1 rfl (lv_at hl 1 rfl) ?_
  have b_1 := mJ hv hm
  unfold mNum1 at b_1
  refine g_calli (g_runV (As := [.int (iI rr)]) (rest := []) (ci := 7) F hl.1 hH hS hz (c_X7_kindOf l g gh T I R J AI AJ AR mo rr zrr hv hm hT (by omega)) (cwV 1 F.2.2.2.2.1 (good_up gT_X7_kindOf) rfl rfl rfl hdX7_kindOf ⟨Nat.le_of_ble_eq_true rfl, Nat.le_of_ble_eq_true rfl⟩) hm (by decide) rfl rfl rfl (Nat.le_of_ble_eq_true rfl) dX7_hangsOn_2 ⟨Nat.zero_le _, Nat.zero_le _⟩) hS (fun v_8 I_2 R_3 J_4 AI_5 AJ_6 AR_7 H locs zv_8 hp_9 hH hS => ?_)
  dsimp only at hp_9
  obtain ⟨rfl, rfl, rfl, rfl, rfl, rfl, q_10⟩ := hp_9
  refine z_if_ne (tgt := 10) F dX7_hangsOn_5 (by decide) zv_8 (fun c_11 => ?_) (fun c_11 => ?_)
  · refine z_iconst F dX7_hangsOn_10 ?_
    refine lv_aload_n F.1 F.2.1 dX7_hangsOn_11 rfl (lv_at hl 0 rfl) ?_
    refine lv_iload_n F.1 F.2.1 dX7_hangsOn_12 rfl (lv_at hl 1 rfl) ?_
    refine g_calli (g_runV (As := [.int (iI rr)]) (rest := [.int (iI 1)]) (ci := 7) F hl.1 hH hS hz (c_X7_firstOf l g gh T I R J AI AJ AR mo rr zrr hv hm hT (by omega)) (cwV 1 F.2.2.2.2.1 (good_up gT_X7_firstOf) rfl rfl rfl hdX7_firstOf ⟨Nat.le_of_ble_eq_true rfl, Nat.le_of_ble_eq_true rfl⟩) hm (by decide) rfl rfl rfl (Nat.le_of_ble_eq_true rfl) dX7_hangsOn_13 ⟨Nat.zero_le _, Nat.zero_le _⟩) hS (fun v_18 I_12 R_13 J_14 AI_15 AJ_16 AR_17 H locs zv_18 hp_19 hH hS => ?_)
    dsimp only at hp_19
    obtain ⟨rfl, rfl, rfl, rfl, rfl, rfl, q_20⟩ := hp_19
    refine lv_ishl F.1 F.2.1 dX7_hangsOn_16 ?_
    refine z_top (fun v_21 zv_21 ev_21 => ?_)
    refine lv_aload_n F.1 F.2.1 dX7_hangsOn_17 rfl (lv_at hl 0 rfl) ?_
    refine lv_aload_n F.1 F.2.1 dX7_hangsOn_18 rfl (lv_at hl 0 rfl) ?_
    refine lv_iload_n F.1 F.2.1 dX7_hangsOn_19 rfl (lv_at hl 1 rfl) ?_
    refine g_calli (g_runV (As := [.int (iI rr)]) (rest := [.ref mo, .int (iI v_21)]) (ci := 7) F hl.1 hH hS hz (c_X7_firstOf l g gh T I R J AI AJ AR mo rr zrr hv hm hT (by omega)) (cwV 1 F.2.2.2.2.1 (good_up gT_X7_firstOf) rfl rfl rfl hdX7_firstOf ⟨Nat.le_of_ble_eq_true rfl, Nat.le_of_ble_eq_true rfl⟩) hm (by decide) rfl rfl rfl (Nat.le_of_ble_eq_true rfl) dX7_hangsOn_20 ⟨Nat.zero_le _, Nat.zero_le _⟩) hS (fun v_28 I_22 R_23 J_24 AI_25 AJ_26 AR_27 H locs zv_28 hp_29 hH hS => ?_)
    dsimp only at hp_29
    obtain ⟨rfl, rfl, rfl, rfl, rfl, rfl, q_30⟩ := hp_29
    refine g_calli (g_runV (As := [.int (iI v_28)]) (rest := [.int (iI v_21)]) (ci := 7) F hl.1 hH hS hz (c_X7_hangsOn13 l g gh T I R J AI AJ AR mo v_28 zv_28 hv hm hT (by omega)) (cwV 1 F.2.2.2.2.1 (good_up gT_X7_hangsOn) rfl rfl rfl hdX7_hangsOn ⟨Nat.le_of_ble_eq_true rfl, Nat.le_of_ble_eq_true rfl⟩) hm (by decide) rfl rfl rfl (Nat.le_of_ble_eq_true rfl) dX7_hangsOn_23 ⟨Nat.zero_le _, Nat.zero_le _⟩) hS (fun v_37 I_31 R_32 J_33 AI_34 AJ_35 AR_36 H locs zv_37 hp_38 hH hS => ?_)
    dsimp only at hp_38
    obtain ⟨rfl, rfl, rfl, rfl, rfl, rfl⟩ := hp_38
    refine lv_ior F.1 F.2.1 dX7_hangsOn_26 ?_
    refine z_top (fun v_39 zv_39 ev_39 => ?_)
    refine lv_istore_n (lv' := [(2, .int (iI v_39)), (0, .ref mo), (1, .int (iI rr))]) F.1 F.2.1 dX7_hangsOn_27 rfl hl (by decide) rfl (fun ls hl => ?_)
    refine lv_aload_n F.1 F.2.1 dX7_hangsOn_28 rfl (lv_at hl 1 rfl) ?_
    refine lv_iload_n F.1 F.2.1 dX7_hangsOn_29 rfl (lv_at hl 2 rfl) ?_
    refine g_calli (g_runV (As := [.int (iI rr)]) (rest := []) (ci := 7) F hl.1 hH hS hz (c_X7_secondOf l g gh T I R J AI AJ AR mo rr zrr hv hm hT (by omega)) (cwV 1 F.2.2.2.2.1 (good_up gT_X7_secondOf) rfl rfl rfl hdX7_secondOf ⟨Nat.le_of_ble_eq_true rfl, Nat.le_of_ble_eq_true rfl⟩) hm (by decide) rfl rfl rfl (Nat.le_of_ble_eq_true rfl) dX7_hangsOn_30 ⟨Nat.zero_le _, Nat.zero_le _⟩) hS (fun v_46 I_40 R_41 J_42 AI_43 AJ_44 AR_45 H locs zv_46 hp_47 hH hS => ?_)
    dsimp only at hp_47
    obtain ⟨rfl, rfl, rfl, rfl, rfl, rfl, q_48⟩ := hp_47
    refine z_if_ge (tgt := 40) F dX7_hangsOn_33 (by decide) zv_46 (fun c_49 => ?_) (fun c_49 => ?_)
    · refine lv_iload_n F.1 F.2.1 dX7_hangsOn_40 rfl (lv_at hl 0 rfl) ?_
      refine z_iconst F dX7_hangsOn_41 ?_
      refine lv_aload_n F.1 F.2.1 dX7_hangsOn_42 rfl (lv_at hl 1 rfl) ?_
      refine lv_iload_n F.1 F.2.1 dX7_hangsOn_43 rfl (lv_at hl 2 rfl) ?_
      refine g_calli (g_runV (As := [.int (iI rr)]) (rest := [.int (iI 1), .int (iI v_39)]) (ci := 7) F hl.1 hH hS hz (c_X7_secondOf l g gh T I R J AI AJ AR mo rr zrr hv hm hT (by omega)) (cwV 1 F.2.2.2.2.1 (good_up gT_X7_secondOf) rfl rfl rfl hdX7_secondOf ⟨Nat.le_of_ble_eq_true rfl, Nat.le_of_ble_eq_true rfl⟩) hm (by decide) rfl rfl rfl (Nat.le_of_ble_eq_true rfl) dX7_hangsOn_44 ⟨Nat.zero_le _, Nat.zero_le _⟩) hS (fun v_56 I_50 R_51 J_52 AI_53 AJ_54 AR_55 H locs zv_56 hp_57 hH hS => ?_)
      dsimp only at hp_57
      obtain ⟨rfl, rfl, rfl, rfl, rfl, rfl, q_58⟩ := hp_57
      refine lv_ishl F.1 F.2.1 dX7_hangsOn_47 ?_
      refine z_top (fun v_59 zv_59 ev_59 => ?_)
      refine lv_ior F.1 F.2.1 dX7_hangsOn_48 ?_
      refine z_top (fun v_60 zv_60 ev_60 => ?_)
      refine lv_aload_n F.1 F.2.1 dX7_hangsOn_49 rfl (lv_at hl 1 rfl) ?_
      refine lv_aload_n F.1 F.2.1 dX7_hangsOn_50 rfl (lv_at hl 1 rfl) ?_
      refine lv_iload_n F.1 F.2.1 dX7_hangsOn_51 rfl (lv_at hl 2 rfl) ?_
      refine g_calli (g_runV (As := [.int (iI rr)]) (rest := [.ref mo, .int (iI v_60)]) (ci := 7) F hl.1 hH hS hz (c_X7_secondOf l g gh T I R J AI AJ AR mo rr zrr hv hm hT (by omega)) (cwV 1 F.2.2.2.2.1 (good_up gT_X7_secondOf) rfl rfl rfl hdX7_secondOf ⟨Nat.le_of_ble_eq_true rfl, Nat.le_of_ble_eq_true rfl⟩) hm (by decide) rfl rfl rfl (Nat.le_of_ble_eq_true rfl) dX7_hangsOn_52 ⟨Nat.zero_le _, Nat.zero_le _⟩) hS (fun v_67 I_61 R_62 J_63 AI_64 AJ_65 AR_66 H locs zv_67 hp_68 hH hS => ?_)
      dsimp only at hp_68
      obtain ⟨rfl, rfl, rfl, rfl, rfl, rfl, q_69⟩ := hp_68
      refine g_calli (g_runV (As := [.int (iI v_67)]) (rest := [.int (iI v_60)]) (ci := 7) F hl.1 hH hS hz (c_X7_hangsOn13 l g gh T I R J AI AJ AR mo v_67 zv_67 hv hm hT (by omega)) (cwV 1 F.2.2.2.2.1 (good_up gT_X7_hangsOn) rfl rfl rfl hdX7_hangsOn ⟨Nat.le_of_ble_eq_true rfl, Nat.le_of_ble_eq_true rfl⟩) hm (by decide) rfl rfl rfl (Nat.le_of_ble_eq_true rfl) dX7_hangsOn_55 ⟨Nat.zero_le _, Nat.zero_le _⟩) hS (fun v_76 I_70 R_71 J_72 AI_73 AJ_74 AR_75 H locs zv_76 hp_77 hH hS => ?_)
      dsimp only at hp_77
      obtain ⟨rfl, rfl, rfl, rfl, rfl, rfl⟩ := hp_77
      refine lv_ior F.1 F.2.1 dX7_hangsOn_58 ?_
      refine z_top (fun v_78 zv_78 ev_78 => ?_)
      exact g_iret F hr hlk hH hS hz zv_78 ⟨rfl, rfl, rfl, rfl, rfl, rfl⟩ dX7_hangsOn_59
    · refine lv_iload_n F.1 F.2.1 dX7_hangsOn_36 rfl (lv_at hl 0 rfl) ?_
      refine z_goto (tgt := 59) F dX7_hangsOn_37 (by decide) ?_
      exact g_iret F hr hlk hH hS hz zv_39 ⟨rfl, rfl, rfl, rfl, rfl, rfl⟩ dX7_hangsOn_59
  · refine z_iconst F dX7_hangsOn_8 ?_
    exact g_iret F hr hlk hH hS hz ⟨by decide, by decide⟩ ⟨rfl, rfl, rfl, rfl, rfl, rfl⟩ dX7_hangsOn_9

def rmX7_hangsOn15 : Room := { frames := 15, cells := 0, slots := 0, locals := 329 }
set_option maxHeartbeats 4000000 in
set_option maxRecDepth 100000 in
/-- hangsOn -/
theorem c_X7_hangsOn15 (l : Launch) (g : gG) (gh : gGh) (T : Nat → Int32) (I : gI) (R : gR) (J : gJ) (AI : gI) (AJ : gJ) (AR : gR) (mo : Nat) (rr : Int) (zrr : zr rr) (hv : mInv g gh R I AI) (hm : gO g mo 7) (hT : AI (gh 50 0) = T) (hr0 : 0 ≤ rr ∧ rr < (I mo 2).toInt ∧ rr < 15) : gMet l g yX7_hangsOn tsX7_hangsOn rmX7_hangsOn15 [.ref mo, .int (iI rr)] (I, R, J, AI, AJ, AR) (gQi g (fun (z : Int) (w : gS) => I = w.1 ∧ R = w.2.1 ∧ J = w.2.2.1 ∧ AI = w.2.2.2.1 ∧ AJ = w.2.2.2.2.1 ∧ AR = w.2.2.2.2.2)) := by
  refine gStart (cc := cX7_hangsOn) (maxL := 3) (ret := (some (.int))) (by decide) rfl (Nat.le_of_ble_eq_true rfl) ?_
  intro p e s m below meth c ls F hr hlk hH hz hS hl
  have hl : lv_has ls 3 [(0, .ref mo), (1, .int (iI rr))] := hl
  have hS : va_S (gA g) s.heap s.heap [] := hS
  obtain ⟨H, hHe⟩ : ∃ H : Heap, H = s.heap := ⟨_, rfl⟩
  obtain ⟨locs, hlo⟩ : ∃ k : List Loc, k = [] := ⟨_, rfl⟩
  have hH : gH g I R J AI AJ AR H := by rw [hHe]; exact hH
  have hS : va_S (gA g) s.heap H locs := by rw [hHe, hlo]; exact hS
  suffices hw : W p l e rmX7_hangsOn15 s m ([.ref mo, .int (iI rr)] : List Value).toArray below meth c H locs 0 0 (MQ below (gQi g (fun (z : Int) (w : gS) => I = w.1 ∧ R = w.2.1 ∧ J = w.2.2.1 ∧ AI = w.2.2.2.1 ∧ AJ = w.2.2.2.2.1 ∧ AR = w.2.2.2.2.2)) ([.ref mo, .int (iI rr)] : List Value).toArray s 0 0 (gA g)) (F0 m 0 ls []) by
    rw [hHe, hlo] at hw; exact hw
  clear hHe hlo
  have hb0 := mJ hv hm
  unfold mNum1 at hb0
  have x := mRow hv hm hT (z := rr) (by omega) (by omega)
  have xa := x.1
  have xc := x.2.2.1
  have xb := x.2.1
  refine lv_aload_n F.1 F.2.1 dX7_hangsOn_0 rfl (lv_at hl 0 rfl) ?_
  refine lv_iload_n F.1 F.2.1 dX7_hangsOn_1 rfl (lv_at hl 1 rfl) ?_
  have b_1 := mJ hv hm
  unfold mNum1 at b_1
  refine g_calli (g_runV (As := [.int (iI rr)]) (rest := []) (ci := 7) F hl.1 hH hS hz (c_X7_kindOf l g gh T I R J AI AJ AR mo rr zrr hv hm hT (by omega)) (cwV 1 F.2.2.2.2.1 (good_up gT_X7_kindOf) rfl rfl rfl hdX7_kindOf ⟨Nat.le_of_ble_eq_true rfl, Nat.le_of_ble_eq_true rfl⟩) hm (by decide) rfl rfl rfl (Nat.le_of_ble_eq_true rfl) dX7_hangsOn_2 ⟨Nat.zero_le _, Nat.zero_le _⟩) hS (fun v_8 I_2 R_3 J_4 AI_5 AJ_6 AR_7 H locs zv_8 hp_9 hH hS => ?_)
  dsimp only at hp_9
  obtain ⟨rfl, rfl, rfl, rfl, rfl, rfl, q_10⟩ := hp_9
  refine z_if_ne (tgt := 10) F dX7_hangsOn_5 (by decide) zv_8 (fun c_11 => ?_) (fun c_11 => ?_)
  · refine z_iconst F dX7_hangsOn_10 ?_
    refine lv_aload_n F.1 F.2.1 dX7_hangsOn_11 rfl (lv_at hl 0 rfl) ?_
    refine lv_iload_n F.1 F.2.1 dX7_hangsOn_12 rfl (lv_at hl 1 rfl) ?_
    refine g_calli (g_runV (As := [.int (iI rr)]) (rest := [.int (iI 1)]) (ci := 7) F hl.1 hH hS hz (c_X7_firstOf l g gh T I R J AI AJ AR mo rr zrr hv hm hT (by omega)) (cwV 1 F.2.2.2.2.1 (good_up gT_X7_firstOf) rfl rfl rfl hdX7_firstOf ⟨Nat.le_of_ble_eq_true rfl, Nat.le_of_ble_eq_true rfl⟩) hm (by decide) rfl rfl rfl (Nat.le_of_ble_eq_true rfl) dX7_hangsOn_13 ⟨Nat.zero_le _, Nat.zero_le _⟩) hS (fun v_18 I_12 R_13 J_14 AI_15 AJ_16 AR_17 H locs zv_18 hp_19 hH hS => ?_)
    dsimp only at hp_19
    obtain ⟨rfl, rfl, rfl, rfl, rfl, rfl, q_20⟩ := hp_19
    refine lv_ishl F.1 F.2.1 dX7_hangsOn_16 ?_
    refine z_top (fun v_21 zv_21 ev_21 => ?_)
    refine lv_aload_n F.1 F.2.1 dX7_hangsOn_17 rfl (lv_at hl 0 rfl) ?_
    refine lv_aload_n F.1 F.2.1 dX7_hangsOn_18 rfl (lv_at hl 0 rfl) ?_
    refine lv_iload_n F.1 F.2.1 dX7_hangsOn_19 rfl (lv_at hl 1 rfl) ?_
    refine g_calli (g_runV (As := [.int (iI rr)]) (rest := [.ref mo, .int (iI v_21)]) (ci := 7) F hl.1 hH hS hz (c_X7_firstOf l g gh T I R J AI AJ AR mo rr zrr hv hm hT (by omega)) (cwV 1 F.2.2.2.2.1 (good_up gT_X7_firstOf) rfl rfl rfl hdX7_firstOf ⟨Nat.le_of_ble_eq_true rfl, Nat.le_of_ble_eq_true rfl⟩) hm (by decide) rfl rfl rfl (Nat.le_of_ble_eq_true rfl) dX7_hangsOn_20 ⟨Nat.zero_le _, Nat.zero_le _⟩) hS (fun v_28 I_22 R_23 J_24 AI_25 AJ_26 AR_27 H locs zv_28 hp_29 hH hS => ?_)
    dsimp only at hp_29
    obtain ⟨rfl, rfl, rfl, rfl, rfl, rfl, q_30⟩ := hp_29
    refine g_calli (g_runV (As := [.int (iI v_28)]) (rest := [.int (iI v_21)]) (ci := 7) F hl.1 hH hS hz (c_X7_hangsOn14 l g gh T I R J AI AJ AR mo v_28 zv_28 hv hm hT (by omega)) (cwV 1 F.2.2.2.2.1 (good_up gT_X7_hangsOn) rfl rfl rfl hdX7_hangsOn ⟨Nat.le_of_ble_eq_true rfl, Nat.le_of_ble_eq_true rfl⟩) hm (by decide) rfl rfl rfl (Nat.le_of_ble_eq_true rfl) dX7_hangsOn_23 ⟨Nat.zero_le _, Nat.zero_le _⟩) hS (fun v_37 I_31 R_32 J_33 AI_34 AJ_35 AR_36 H locs zv_37 hp_38 hH hS => ?_)
    dsimp only at hp_38
    obtain ⟨rfl, rfl, rfl, rfl, rfl, rfl⟩ := hp_38
    refine lv_ior F.1 F.2.1 dX7_hangsOn_26 ?_
    refine z_top (fun v_39 zv_39 ev_39 => ?_)
    refine lv_istore_n (lv' := [(2, .int (iI v_39)), (0, .ref mo), (1, .int (iI rr))]) F.1 F.2.1 dX7_hangsOn_27 rfl hl (by decide) rfl (fun ls hl => ?_)
    refine lv_aload_n F.1 F.2.1 dX7_hangsOn_28 rfl (lv_at hl 1 rfl) ?_
    refine lv_iload_n F.1 F.2.1 dX7_hangsOn_29 rfl (lv_at hl 2 rfl) ?_
    refine g_calli (g_runV (As := [.int (iI rr)]) (rest := []) (ci := 7) F hl.1 hH hS hz (c_X7_secondOf l g gh T I R J AI AJ AR mo rr zrr hv hm hT (by omega)) (cwV 1 F.2.2.2.2.1 (good_up gT_X7_secondOf) rfl rfl rfl hdX7_secondOf ⟨Nat.le_of_ble_eq_true rfl, Nat.le_of_ble_eq_true rfl⟩) hm (by decide) rfl rfl rfl (Nat.le_of_ble_eq_true rfl) dX7_hangsOn_30 ⟨Nat.zero_le _, Nat.zero_le _⟩) hS (fun v_46 I_40 R_41 J_42 AI_43 AJ_44 AR_45 H locs zv_46 hp_47 hH hS => ?_)
    dsimp only at hp_47
    obtain ⟨rfl, rfl, rfl, rfl, rfl, rfl, q_48⟩ := hp_47
    refine z_if_ge (tgt := 40) F dX7_hangsOn_33 (by decide) zv_46 (fun c_49 => ?_) (fun c_49 => ?_)
    · refine lv_iload_n F.1 F.2.1 dX7_hangsOn_40 rfl (lv_at hl 0 rfl) ?_
      refine z_iconst F dX7_hangsOn_41 ?_
      refine lv_aload_n F.1 F.2.1 dX7_hangsOn_42 rfl (lv_at hl 1 rfl) ?_
      refine lv_iload_n F.1 F.2.1 dX7_hangsOn_43 rfl (lv_at hl 2 rfl) ?_
      refine g_calli (g_runV (As := [.int (iI rr)]) (rest := [.int (iI 1), .int (iI v_39)]) (ci := 7) F hl.1 hH hS hz (c_X7_secondOf l g gh T I R J AI AJ AR mo rr zrr hv hm hT (by omega)) (cwV 1 F.2.2.2.2.1 (good_up gT_X7_secondOf) rfl rfl rfl hdX7_secondOf ⟨Nat.le_of_ble_eq_true rfl, Nat.le_of_ble_eq_true rfl⟩) hm (by decide) rfl rfl rfl (Nat.le_of_ble_eq_true rfl) dX7_hangsOn_44 ⟨Nat.zero_le _, Nat.zero_le _⟩) hS (fun v_56 I_50 R_51 J_52 AI_53 AJ_54 AR_55 H locs zv_56 hp_57 hH hS => ?_)
      dsimp only at hp_57
      obtain ⟨rfl, rfl, rfl, rfl, rfl, rfl, q_58⟩ := hp_57
      refine lv_ishl F.1 F.2.1 dX7_hangsOn_47 ?_
      refine z_top (fun v_59 zv_59 ev_59 => ?_)
      refine lv_ior F.1 F.2.1 dX7_hangsOn_48 ?_
      refine z_top (fun v_60 zv_60 ev_60 => ?_)
      refine lv_aload_n F.1 F.2.1 dX7_hangsOn_49 rfl (lv_at hl 1 rfl) ?_
      refine lv_aload_n F.1 F.2.1 dX7_hangsOn_50 rfl (lv_at hl 1 rfl) ?_
      refine lv_iload_n F.1 F.2.1 dX7_hangsOn_51 rfl (lv_at hl 2 rfl) ?_
      refine g_calli (g_runV (As := [.int (iI rr)]) (rest := [.ref mo, .int (iI v_60)]) (ci := 7) F hl.1 hH hS hz (c_X7_secondOf l g gh T I R J AI AJ AR mo rr zrr hv hm hT (by omega)) (cwV 1 F.2.2.2.2.1 (good_up gT_X7_secondOf) rfl rfl rfl hdX7_secondOf ⟨Nat.le_of_ble_eq_true rfl, Nat.le_of_ble_eq_true rfl⟩) hm (by decide) rfl rfl rfl (Nat.le_of_ble_eq_true rfl) dX7_hangsOn_52 ⟨Nat.zero_le _, Nat.zero_le _⟩) hS (fun v_67 I_61 R_62 J_63 AI_64 AJ_65 AR_66 H locs zv_67 hp_68 hH hS => ?_)
      dsimp only at hp_68
      obtain ⟨rfl, rfl, rfl, rfl, rfl, rfl, q_69⟩ := hp_68
      refine g_calli (g_runV (As := [.int (iI v_67)]) (rest := [.int (iI v_60)]) (ci := 7) F hl.1 hH hS hz (c_X7_hangsOn14 l g gh T I R J AI AJ AR mo v_67 zv_67 hv hm hT (by omega)) (cwV 1 F.2.2.2.2.1 (good_up gT_X7_hangsOn) rfl rfl rfl hdX7_hangsOn ⟨Nat.le_of_ble_eq_true rfl, Nat.le_of_ble_eq_true rfl⟩) hm (by decide) rfl rfl rfl (Nat.le_of_ble_eq_true rfl) dX7_hangsOn_55 ⟨Nat.zero_le _, Nat.zero_le _⟩) hS (fun v_76 I_70 R_71 J_72 AI_73 AJ_74 AR_75 H locs zv_76 hp_77 hH hS => ?_)
      dsimp only at hp_77
      obtain ⟨rfl, rfl, rfl, rfl, rfl, rfl⟩ := hp_77
      refine lv_ior F.1 F.2.1 dX7_hangsOn_58 ?_
      refine z_top (fun v_78 zv_78 ev_78 => ?_)
      exact g_iret F hr hlk hH hS hz zv_78 ⟨rfl, rfl, rfl, rfl, rfl, rfl⟩ dX7_hangsOn_59
    · refine lv_iload_n F.1 F.2.1 dX7_hangsOn_36 rfl (lv_at hl 0 rfl) ?_
      refine z_goto (tgt := 59) F dX7_hangsOn_37 (by decide) ?_
      exact g_iret F hr hlk hH hS hz zv_39 ⟨rfl, rfl, rfl, rfl, rfl, rfl⟩ dX7_hangsOn_59
  · refine z_iconst F dX7_hangsOn_8 ?_
    exact g_iret F hr hlk hH hS hz ⟨by decide, by decide⟩ ⟨rfl, rfl, rfl, rfl, rfl, rfl⟩ dX7_hangsOn_9

def rmX7_hangsOn16 : Room := { frames := 16, cells := 0, slots := 0, locals := 351 }
set_option maxHeartbeats 4000000 in
set_option maxRecDepth 100000 in
/-- hangsOn -/
theorem c_X7_hangsOn16 (l : Launch) (g : gG) (gh : gGh) (T : Nat → Int32) (I : gI) (R : gR) (J : gJ) (AI : gI) (AJ : gJ) (AR : gR) (mo : Nat) (rr : Int) (zrr : zr rr) (hv : mInv g gh R I AI) (hm : gO g mo 7) (hT : AI (gh 50 0) = T) (hr0 : 0 ≤ rr ∧ rr < (I mo 2).toInt ∧ rr < 16) : gMet l g yX7_hangsOn tsX7_hangsOn rmX7_hangsOn16 [.ref mo, .int (iI rr)] (I, R, J, AI, AJ, AR) (gQi g (fun (z : Int) (w : gS) => I = w.1 ∧ R = w.2.1 ∧ J = w.2.2.1 ∧ AI = w.2.2.2.1 ∧ AJ = w.2.2.2.2.1 ∧ AR = w.2.2.2.2.2)) := by
  refine gStart (cc := cX7_hangsOn) (maxL := 3) (ret := (some (.int))) (by decide) rfl (Nat.le_of_ble_eq_true rfl) ?_
  intro p e s m below meth c ls F hr hlk hH hz hS hl
  have hl : lv_has ls 3 [(0, .ref mo), (1, .int (iI rr))] := hl
  have hS : va_S (gA g) s.heap s.heap [] := hS
  obtain ⟨H, hHe⟩ : ∃ H : Heap, H = s.heap := ⟨_, rfl⟩
  obtain ⟨locs, hlo⟩ : ∃ k : List Loc, k = [] := ⟨_, rfl⟩
  have hH : gH g I R J AI AJ AR H := by rw [hHe]; exact hH
  have hS : va_S (gA g) s.heap H locs := by rw [hHe, hlo]; exact hS
  suffices hw : W p l e rmX7_hangsOn16 s m ([.ref mo, .int (iI rr)] : List Value).toArray below meth c H locs 0 0 (MQ below (gQi g (fun (z : Int) (w : gS) => I = w.1 ∧ R = w.2.1 ∧ J = w.2.2.1 ∧ AI = w.2.2.2.1 ∧ AJ = w.2.2.2.2.1 ∧ AR = w.2.2.2.2.2)) ([.ref mo, .int (iI rr)] : List Value).toArray s 0 0 (gA g)) (F0 m 0 ls []) by
    rw [hHe, hlo] at hw; exact hw
  clear hHe hlo
  have hb0 := mJ hv hm
  unfold mNum1 at hb0
  have x := mRow hv hm hT (z := rr) (by omega) (by omega)
  have xa := x.1
  have xc := x.2.2.1
  have xb := x.2.1
  refine lv_aload_n F.1 F.2.1 dX7_hangsOn_0 rfl (lv_at hl 0 rfl) ?_
  refine lv_iload_n F.1 F.2.1 dX7_hangsOn_1 rfl (lv_at hl 1 rfl) ?_
  have b_1 := mJ hv hm
  unfold mNum1 at b_1
  refine g_calli (g_runV (As := [.int (iI rr)]) (rest := []) (ci := 7) F hl.1 hH hS hz (c_X7_kindOf l g gh T I R J AI AJ AR mo rr zrr hv hm hT (by omega)) (cwV 1 F.2.2.2.2.1 (good_up gT_X7_kindOf) rfl rfl rfl hdX7_kindOf ⟨Nat.le_of_ble_eq_true rfl, Nat.le_of_ble_eq_true rfl⟩) hm (by decide) rfl rfl rfl (Nat.le_of_ble_eq_true rfl) dX7_hangsOn_2 ⟨Nat.zero_le _, Nat.zero_le _⟩) hS (fun v_8 I_2 R_3 J_4 AI_5 AJ_6 AR_7 H locs zv_8 hp_9 hH hS => ?_)
  dsimp only at hp_9
  obtain ⟨rfl, rfl, rfl, rfl, rfl, rfl, q_10⟩ := hp_9
  refine z_if_ne (tgt := 10) F dX7_hangsOn_5 (by decide) zv_8 (fun c_11 => ?_) (fun c_11 => ?_)
  · refine z_iconst F dX7_hangsOn_10 ?_
    refine lv_aload_n F.1 F.2.1 dX7_hangsOn_11 rfl (lv_at hl 0 rfl) ?_
    refine lv_iload_n F.1 F.2.1 dX7_hangsOn_12 rfl (lv_at hl 1 rfl) ?_
    refine g_calli (g_runV (As := [.int (iI rr)]) (rest := [.int (iI 1)]) (ci := 7) F hl.1 hH hS hz (c_X7_firstOf l g gh T I R J AI AJ AR mo rr zrr hv hm hT (by omega)) (cwV 1 F.2.2.2.2.1 (good_up gT_X7_firstOf) rfl rfl rfl hdX7_firstOf ⟨Nat.le_of_ble_eq_true rfl, Nat.le_of_ble_eq_true rfl⟩) hm (by decide) rfl rfl rfl (Nat.le_of_ble_eq_true rfl) dX7_hangsOn_13 ⟨Nat.zero_le _, Nat.zero_le _⟩) hS (fun v_18 I_12 R_13 J_14 AI_15 AJ_16 AR_17 H locs zv_18 hp_19 hH hS => ?_)
    dsimp only at hp_19
    obtain ⟨rfl, rfl, rfl, rfl, rfl, rfl, q_20⟩ := hp_19
    refine lv_ishl F.1 F.2.1 dX7_hangsOn_16 ?_
    refine z_top (fun v_21 zv_21 ev_21 => ?_)
    refine lv_aload_n F.1 F.2.1 dX7_hangsOn_17 rfl (lv_at hl 0 rfl) ?_
    refine lv_aload_n F.1 F.2.1 dX7_hangsOn_18 rfl (lv_at hl 0 rfl) ?_
    refine lv_iload_n F.1 F.2.1 dX7_hangsOn_19 rfl (lv_at hl 1 rfl) ?_
    refine g_calli (g_runV (As := [.int (iI rr)]) (rest := [.ref mo, .int (iI v_21)]) (ci := 7) F hl.1 hH hS hz (c_X7_firstOf l g gh T I R J AI AJ AR mo rr zrr hv hm hT (by omega)) (cwV 1 F.2.2.2.2.1 (good_up gT_X7_firstOf) rfl rfl rfl hdX7_firstOf ⟨Nat.le_of_ble_eq_true rfl, Nat.le_of_ble_eq_true rfl⟩) hm (by decide) rfl rfl rfl (Nat.le_of_ble_eq_true rfl) dX7_hangsOn_20 ⟨Nat.zero_le _, Nat.zero_le _⟩) hS (fun v_28 I_22 R_23 J_24 AI_25 AJ_26 AR_27 H locs zv_28 hp_29 hH hS => ?_)
    dsimp only at hp_29
    obtain ⟨rfl, rfl, rfl, rfl, rfl, rfl, q_30⟩ := hp_29
    refine g_calli (g_runV (As := [.int (iI v_28)]) (rest := [.int (iI v_21)]) (ci := 7) F hl.1 hH hS hz (c_X7_hangsOn15 l g gh T I R J AI AJ AR mo v_28 zv_28 hv hm hT (by omega)) (cwV 1 F.2.2.2.2.1 (good_up gT_X7_hangsOn) rfl rfl rfl hdX7_hangsOn ⟨Nat.le_of_ble_eq_true rfl, Nat.le_of_ble_eq_true rfl⟩) hm (by decide) rfl rfl rfl (Nat.le_of_ble_eq_true rfl) dX7_hangsOn_23 ⟨Nat.zero_le _, Nat.zero_le _⟩) hS (fun v_37 I_31 R_32 J_33 AI_34 AJ_35 AR_36 H locs zv_37 hp_38 hH hS => ?_)
    dsimp only at hp_38
    obtain ⟨rfl, rfl, rfl, rfl, rfl, rfl⟩ := hp_38
    refine lv_ior F.1 F.2.1 dX7_hangsOn_26 ?_
    refine z_top (fun v_39 zv_39 ev_39 => ?_)
    refine lv_istore_n (lv' := [(2, .int (iI v_39)), (0, .ref mo), (1, .int (iI rr))]) F.1 F.2.1 dX7_hangsOn_27 rfl hl (by decide) rfl (fun ls hl => ?_)
    refine lv_aload_n F.1 F.2.1 dX7_hangsOn_28 rfl (lv_at hl 1 rfl) ?_
    refine lv_iload_n F.1 F.2.1 dX7_hangsOn_29 rfl (lv_at hl 2 rfl) ?_
    refine g_calli (g_runV (As := [.int (iI rr)]) (rest := []) (ci := 7) F hl.1 hH hS hz (c_X7_secondOf l g gh T I R J AI AJ AR mo rr zrr hv hm hT (by omega)) (cwV 1 F.2.2.2.2.1 (good_up gT_X7_secondOf) rfl rfl rfl hdX7_secondOf ⟨Nat.le_of_ble_eq_true rfl, Nat.le_of_ble_eq_true rfl⟩) hm (by decide) rfl rfl rfl (Nat.le_of_ble_eq_true rfl) dX7_hangsOn_30 ⟨Nat.zero_le _, Nat.zero_le _⟩) hS (fun v_46 I_40 R_41 J_42 AI_43 AJ_44 AR_45 H locs zv_46 hp_47 hH hS => ?_)
    dsimp only at hp_47
    obtain ⟨rfl, rfl, rfl, rfl, rfl, rfl, q_48⟩ := hp_47
    refine z_if_ge (tgt := 40) F dX7_hangsOn_33 (by decide) zv_46 (fun c_49 => ?_) (fun c_49 => ?_)
    · refine lv_iload_n F.1 F.2.1 dX7_hangsOn_40 rfl (lv_at hl 0 rfl) ?_
      refine z_iconst F dX7_hangsOn_41 ?_
      refine lv_aload_n F.1 F.2.1 dX7_hangsOn_42 rfl (lv_at hl 1 rfl) ?_
      refine lv_iload_n F.1 F.2.1 dX7_hangsOn_43 rfl (lv_at hl 2 rfl) ?_
      refine g_calli (g_runV (As := [.int (iI rr)]) (rest := [.int (iI 1), .int (iI v_39)]) (ci := 7) F hl.1 hH hS hz (c_X7_secondOf l g gh T I R J AI AJ AR mo rr zrr hv hm hT (by omega)) (cwV 1 F.2.2.2.2.1 (good_up gT_X7_secondOf) rfl rfl rfl hdX7_secondOf ⟨Nat.le_of_ble_eq_true rfl, Nat.le_of_ble_eq_true rfl⟩) hm (by decide) rfl rfl rfl (Nat.le_of_ble_eq_true rfl) dX7_hangsOn_44 ⟨Nat.zero_le _, Nat.zero_le _⟩) hS (fun v_56 I_50 R_51 J_52 AI_53 AJ_54 AR_55 H locs zv_56 hp_57 hH hS => ?_)
      dsimp only at hp_57
      obtain ⟨rfl, rfl, rfl, rfl, rfl, rfl, q_58⟩ := hp_57
      refine lv_ishl F.1 F.2.1 dX7_hangsOn_47 ?_
      refine z_top (fun v_59 zv_59 ev_59 => ?_)
      refine lv_ior F.1 F.2.1 dX7_hangsOn_48 ?_
      refine z_top (fun v_60 zv_60 ev_60 => ?_)
      refine lv_aload_n F.1 F.2.1 dX7_hangsOn_49 rfl (lv_at hl 1 rfl) ?_
      refine lv_aload_n F.1 F.2.1 dX7_hangsOn_50 rfl (lv_at hl 1 rfl) ?_
      refine lv_iload_n F.1 F.2.1 dX7_hangsOn_51 rfl (lv_at hl 2 rfl) ?_
      refine g_calli (g_runV (As := [.int (iI rr)]) (rest := [.ref mo, .int (iI v_60)]) (ci := 7) F hl.1 hH hS hz (c_X7_secondOf l g gh T I R J AI AJ AR mo rr zrr hv hm hT (by omega)) (cwV 1 F.2.2.2.2.1 (good_up gT_X7_secondOf) rfl rfl rfl hdX7_secondOf ⟨Nat.le_of_ble_eq_true rfl, Nat.le_of_ble_eq_true rfl⟩) hm (by decide) rfl rfl rfl (Nat.le_of_ble_eq_true rfl) dX7_hangsOn_52 ⟨Nat.zero_le _, Nat.zero_le _⟩) hS (fun v_67 I_61 R_62 J_63 AI_64 AJ_65 AR_66 H locs zv_67 hp_68 hH hS => ?_)
      dsimp only at hp_68
      obtain ⟨rfl, rfl, rfl, rfl, rfl, rfl, q_69⟩ := hp_68
      refine g_calli (g_runV (As := [.int (iI v_67)]) (rest := [.int (iI v_60)]) (ci := 7) F hl.1 hH hS hz (c_X7_hangsOn15 l g gh T I R J AI AJ AR mo v_67 zv_67 hv hm hT (by omega)) (cwV 1 F.2.2.2.2.1 (good_up gT_X7_hangsOn) rfl rfl rfl hdX7_hangsOn ⟨Nat.le_of_ble_eq_true rfl, Nat.le_of_ble_eq_true rfl⟩) hm (by decide) rfl rfl rfl (Nat.le_of_ble_eq_true rfl) dX7_hangsOn_55 ⟨Nat.zero_le _, Nat.zero_le _⟩) hS (fun v_76 I_70 R_71 J_72 AI_73 AJ_74 AR_75 H locs zv_76 hp_77 hH hS => ?_)
      dsimp only at hp_77
      obtain ⟨rfl, rfl, rfl, rfl, rfl, rfl⟩ := hp_77
      refine lv_ior F.1 F.2.1 dX7_hangsOn_58 ?_
      refine z_top (fun v_78 zv_78 ev_78 => ?_)
      exact g_iret F hr hlk hH hS hz zv_78 ⟨rfl, rfl, rfl, rfl, rfl, rfl⟩ dX7_hangsOn_59
    · refine lv_iload_n F.1 F.2.1 dX7_hangsOn_36 rfl (lv_at hl 0 rfl) ?_
      refine z_goto (tgt := 59) F dX7_hangsOn_37 (by decide) ?_
      exact g_iret F hr hlk hH hS hz zv_39 ⟨rfl, rfl, rfl, rfl, rfl, rfl⟩ dX7_hangsOn_59
  · refine z_iconst F dX7_hangsOn_8 ?_
    exact g_iret F hr hlk hH hS hz ⟨by decide, by decide⟩ ⟨rfl, rfl, rfl, rfl, rfl, rfl⟩ dX7_hangsOn_9

def rmX7_farOf : Room := { frames := 1, cells := 0, slots := 0, locals := 21 }
theorem hdX7_farOf : yX7_farOf.cls = RX7 ∧ yX7_farOf.cls ≠ "java/lang/invoke/MethodHandle" ∧ yX7_farOf.cls ≠ "java/lang/invoke/VarHandle" ∧ (parseMethodDescriptor yX7_farOf.desc).map (fun d => d.parameters.length) = some 1 := by decide +kernel
set_option maxHeartbeats 4000000 in
set_option maxRecDepth 100000 in
/-- farOf -/
theorem c_X7_farOf (l : Launch) (g : gG) (gh : gGh) (T : Nat → Int32) (I : gI) (R : gR) (J : gJ) (AI : gI) (AJ : gJ) (AR : gR) (mo : Nat) (rr : Int) (zrr : zr rr) (hv : mInv g gh R I AI) (hm : gO g mo 7) (hT : AI (gh 50 0) = T) (hr0 : 0 ≤ rr ∧ rr < (I mo 2).toInt ∧ rr < 1) : gMet l g yX7_farOf tsX7_farOf rmX7_farOf [.ref mo, .int (iI rr)] (I, R, J, AI, AJ, AR) (gQi g (fun (z : Int) (w : gS) => I = w.1 ∧ R = w.2.1 ∧ J = w.2.2.1 ∧ AI = w.2.2.2.1 ∧ AJ = w.2.2.2.2.1 ∧ AR = w.2.2.2.2.2 ∧ (0 ≤ z ∧ z ≤ 1))) := by
  refine gStart (cc := cX7_farOf) (maxL := 4) (ret := (some (.int))) (by decide) rfl (Nat.le_of_ble_eq_true rfl) ?_
  intro p e s m below meth c ls F hr hlk hH hz hS hl
  have hl : lv_has ls 4 [(0, .ref mo), (1, .int (iI rr))] := hl
  have hS : va_S (gA g) s.heap s.heap [] := hS
  obtain ⟨H, hHe⟩ : ∃ H : Heap, H = s.heap := ⟨_, rfl⟩
  obtain ⟨locs, hlo⟩ : ∃ k : List Loc, k = [] := ⟨_, rfl⟩
  have hH : gH g I R J AI AJ AR H := by rw [hHe]; exact hH
  have hS : va_S (gA g) s.heap H locs := by rw [hHe, hlo]; exact hS
  suffices hw : W p l e rmX7_farOf s m ([.ref mo, .int (iI rr)] : List Value).toArray below meth c H locs 0 0 (MQ below (gQi g (fun (z : Int) (w : gS) => I = w.1 ∧ R = w.2.1 ∧ J = w.2.2.1 ∧ AI = w.2.2.2.1 ∧ AJ = w.2.2.2.2.1 ∧ AR = w.2.2.2.2.2 ∧ (0 ≤ z ∧ z ≤ 1))) ([.ref mo, .int (iI rr)] : List Value).toArray s 0 0 (gA g)) (F0 m 0 ls []) by
    rw [hHe, hlo] at hw; exact hw
  clear hHe hlo
  have hb0 := mJ hv hm
  unfold mNum1 at hb0
  have x := mRow hv hm hT (z := rr) (by omega) (by omega)
  have xa := x.1
  have xc := x.2.2.1
  have xb := x.2.1
  refine lv_aload_n F.1 F.2.1 dX7_farOf_0 rfl (lv_at hl 0 rfl) ?_
  refine lv_iload_n F.1 F.2.1 dX7_farOf_1 rfl (lv_at hl 1 rfl) ?_
  have b_1 := mJ hv hm
  unfold mNum1 at b_1
  refine g_calli (g_runV (As := [.int (iI rr)]) (rest := []) (ci := 7) F hl.1 hH hS hz (c_X7_kindOf l g gh T I R J AI AJ AR mo rr zrr hv hm hT (by omega)) (cwV 1 F.2.2.2.2.1 (good_up gT_X7_kindOf) rfl rfl rfl hdX7_kindOf ⟨Nat.le_of_ble_eq_true rfl, Nat.le_of_ble_eq_true rfl⟩) hm (by decide) rfl rfl rfl (Nat.le_of_ble_eq_true rfl) dX7_farOf_2 ⟨Nat.zero_le _, Nat.zero_le _⟩) hS (fun v_8 I_2 R_3 J_4 AI_5 AJ_6 AR_7 H locs zv_8 hp_9 hH hS => ?_)
  dsimp only at hp_9
  obtain ⟨rfl, rfl, rfl, rfl, rfl, rfl, q_10⟩ := hp_9
  refine z_if_ne (tgt := 10) F dX7_farOf_5 (by decide) zv_8 (fun c_11 => ?_) (fun c_11 => ?_)
  · exact absurd trivial (by omega)
  · refine z_iconst F dX7_farOf_8 ?_
    exact g_iret F hr hlk hH hS hz ⟨by decide, by decide⟩ ⟨rfl, rfl, rfl, rfl, rfl, rfl, by first | omega | rfl | (dsimp only; omega)⟩ dX7_farOf_9

def rmX7_farOf2 : Room := { frames := 2, cells := 0, slots := 0, locals := 44 }
set_option maxHeartbeats 4000000 in
set_option maxRecDepth 100000 in
/-- farOf -/
theorem c_X7_farOf2 (l : Launch) (g : gG) (gh : gGh) (T : Nat → Int32) (I : gI) (R : gR) (J : gJ) (AI : gI) (AJ : gJ) (AR : gR) (mo : Nat) (rr : Int) (zrr : zr rr) (hv : mInv g gh R I AI) (hm : gO g mo 7) (hT : AI (gh 50 0) = T) (hr0 : 0 ≤ rr ∧ rr < (I mo 2).toInt ∧ rr < 2) : gMet l g yX7_farOf tsX7_farOf rmX7_farOf2 [.ref mo, .int (iI rr)] (I, R, J, AI, AJ, AR) (gQi g (fun (z : Int) (w : gS) => I = w.1 ∧ R = w.2.1 ∧ J = w.2.2.1 ∧ AI = w.2.2.2.1 ∧ AJ = w.2.2.2.2.1 ∧ AR = w.2.2.2.2.2 ∧ (0 ≤ z ∧ z ≤ 2))) := by
  refine gStart (cc := cX7_farOf) (maxL := 4) (ret := (some (.int))) (by decide) rfl (Nat.le_of_ble_eq_true rfl) ?_
  intro p e s m below meth c ls F hr hlk hH hz hS hl
  have hl : lv_has ls 4 [(0, .ref mo), (1, .int (iI rr))] := hl
  have hS : va_S (gA g) s.heap s.heap [] := hS
  obtain ⟨H, hHe⟩ : ∃ H : Heap, H = s.heap := ⟨_, rfl⟩
  obtain ⟨locs, hlo⟩ : ∃ k : List Loc, k = [] := ⟨_, rfl⟩
  have hH : gH g I R J AI AJ AR H := by rw [hHe]; exact hH
  have hS : va_S (gA g) s.heap H locs := by rw [hHe, hlo]; exact hS
  suffices hw : W p l e rmX7_farOf2 s m ([.ref mo, .int (iI rr)] : List Value).toArray below meth c H locs 0 0 (MQ below (gQi g (fun (z : Int) (w : gS) => I = w.1 ∧ R = w.2.1 ∧ J = w.2.2.1 ∧ AI = w.2.2.2.1 ∧ AJ = w.2.2.2.2.1 ∧ AR = w.2.2.2.2.2 ∧ (0 ≤ z ∧ z ≤ 2))) ([.ref mo, .int (iI rr)] : List Value).toArray s 0 0 (gA g)) (F0 m 0 ls []) by
    rw [hHe, hlo] at hw; exact hw
  clear hHe hlo
  have hb0 := mJ hv hm
  unfold mNum1 at hb0
  have x := mRow hv hm hT (z := rr) (by omega) (by omega)
  have xa := x.1
  have xc := x.2.2.1
  have xb := x.2.1
  refine lv_aload_n F.1 F.2.1 dX7_farOf_0 rfl (lv_at hl 0 rfl) ?_
  refine lv_iload_n F.1 F.2.1 dX7_farOf_1 rfl (lv_at hl 1 rfl) ?_
  have b_1 := mJ hv hm
  unfold mNum1 at b_1
  refine g_calli (g_runV (As := [.int (iI rr)]) (rest := []) (ci := 7) F hl.1 hH hS hz (c_X7_kindOf l g gh T I R J AI AJ AR mo rr zrr hv hm hT (by omega)) (cwV 1 F.2.2.2.2.1 (good_up gT_X7_kindOf) rfl rfl rfl hdX7_kindOf ⟨Nat.le_of_ble_eq_true rfl, Nat.le_of_ble_eq_true rfl⟩) hm (by decide) rfl rfl rfl (Nat.le_of_ble_eq_true rfl) dX7_farOf_2 ⟨Nat.zero_le _, Nat.zero_le _⟩) hS (fun v_8 I_2 R_3 J_4 AI_5 AJ_6 AR_7 H locs zv_8 hp_9 hH hS => ?_)
  dsimp only at hp_9
  obtain ⟨rfl, rfl, rfl, rfl, rfl, rfl, q_10⟩ := hp_9
  refine z_if_ne (tgt := 10) F dX7_farOf_5 (by decide) zv_8 (fun c_11 => ?_) (fun c_11 => ?_)
  · refine lv_aload_n F.1 F.2.1 dX7_farOf_10 rfl (lv_at hl 0 rfl) ?_
    refine lv_aload_n F.1 F.2.1 dX7_farOf_11 rfl (lv_at hl 0 rfl) ?_
    refine lv_iload_n F.1 F.2.1 dX7_farOf_12 rfl (lv_at hl 1 rfl) ?_
    refine g_calli (g_runV (As := [.int (iI rr)]) (rest := [.ref mo]) (ci := 7) F hl.1 hH hS hz (c_X7_firstOf l g gh T I R J AI AJ AR mo rr zrr hv hm hT (by omega)) (cwV 1 F.2.2.2.2.1 (good_up gT_X7_firstOf) rfl rfl rfl hdX7_firstOf ⟨Nat.le_of_ble_eq_true rfl, Nat.le_of_ble_eq_true rfl⟩) hm (by decide) rfl rfl rfl (Nat.le_of_ble_eq_true rfl) dX7_farOf_13 ⟨Nat.zero_le _, Nat.zero_le _⟩) hS (fun v_18 I_12 R_13 J_14 AI_15 AJ_16 AR_17 H locs zv_18 hp_19 hH hS => ?_)
    dsimp only at hp_19
    obtain ⟨rfl, rfl, rfl, rfl, rfl, rfl, q_20⟩ := hp_19
    refine g_calli (g_runV (As := [.int (iI v_18)]) (rest := []) (ci := 7) F hl.1 hH hS hz (c_X7_farOf l g gh T I R J AI AJ AR mo v_18 zv_18 hv hm hT (by omega)) (cwV 1 F.2.2.2.2.1 (good_up gT_X7_farOf) rfl rfl rfl hdX7_farOf ⟨Nat.le_of_ble_eq_true rfl, Nat.le_of_ble_eq_true rfl⟩) hm (by decide) rfl rfl rfl (Nat.le_of_ble_eq_true rfl) dX7_farOf_16 ⟨Nat.zero_le _, Nat.zero_le _⟩) hS (fun v_27 I_21 R_22 J_23 AI_24 AJ_25 AR_26 H locs zv_27 hp_28 hH hS => ?_)
    dsimp only at hp_28
    obtain ⟨rfl, rfl, rfl, rfl, rfl, rfl, q_29⟩ := hp_28
    refine lv_istore_n (lv' := [(2, .int (iI v_27)), (0, .ref mo), (1, .int (iI rr))]) F.1 F.2.1 dX7_farOf_19 rfl hl (by decide) rfl (fun ls hl => ?_)
    refine lv_aload_n F.1 F.2.1 dX7_farOf_20 rfl (lv_at hl 1 rfl) ?_
    refine lv_iload_n F.1 F.2.1 dX7_farOf_21 rfl (lv_at hl 2 rfl) ?_
    refine g_calli (g_runV (As := [.int (iI rr)]) (rest := []) (ci := 7) F hl.1 hH hS hz (c_X7_secondOf l g gh T I R J AI AJ AR mo rr zrr hv hm hT (by omega)) (cwV 1 F.2.2.2.2.1 (good_up gT_X7_secondOf) rfl rfl rfl hdX7_secondOf ⟨Nat.le_of_ble_eq_true rfl, Nat.le_of_ble_eq_true rfl⟩) hm (by decide) rfl rfl rfl (Nat.le_of_ble_eq_true rfl) dX7_farOf_22 ⟨Nat.zero_le _, Nat.zero_le _⟩) hS (fun v_36 I_30 R_31 J_32 AI_33 AJ_34 AR_35 H locs zv_36 hp_37 hH hS => ?_)
    dsimp only at hp_37
    obtain ⟨rfl, rfl, rfl, rfl, rfl, rfl, q_38⟩ := hp_37
    refine z_if_ge (tgt := 32) F dX7_farOf_25 (by decide) zv_36 (fun c_39 => ?_) (fun c_39 => ?_)
    · refine lv_aload_n F.1 F.2.1 dX7_farOf_32 rfl (lv_at hl 1 rfl) ?_
      refine lv_aload_n F.1 F.2.1 dX7_farOf_33 rfl (lv_at hl 1 rfl) ?_
      refine lv_iload_n F.1 F.2.1 dX7_farOf_34 rfl (lv_at hl 2 rfl) ?_
      refine g_calli (g_runV (As := [.int (iI rr)]) (rest := [.ref mo]) (ci := 7) F hl.1 hH hS hz (c_X7_secondOf l g gh T I R J AI AJ AR mo rr zrr hv hm hT (by omega)) (cwV 1 F.2.2.2.2.1 (good_up gT_X7_secondOf) rfl rfl rfl hdX7_secondOf ⟨Nat.le_of_ble_eq_true rfl, Nat.le_of_ble_eq_true rfl⟩) hm (by decide) rfl rfl rfl (Nat.le_of_ble_eq_true rfl) dX7_farOf_35 ⟨Nat.zero_le _, Nat.zero_le _⟩) hS (fun v_46 I_40 R_41 J_42 AI_43 AJ_44 AR_45 H locs zv_46 hp_47 hH hS => ?_)
      dsimp only at hp_47
      obtain ⟨rfl, rfl, rfl, rfl, rfl, rfl, q_48⟩ := hp_47
      refine g_calli (g_runV (As := [.int (iI v_46)]) (rest := []) (ci := 7) F hl.1 hH hS hz (c_X7_farOf l g gh T I R J AI AJ AR mo v_46 zv_46 hv hm hT (by omega)) (cwV 1 F.2.2.2.2.1 (good_up gT_X7_farOf) rfl rfl rfl hdX7_farOf ⟨Nat.le_of_ble_eq_true rfl, Nat.le_of_ble_eq_true rfl⟩) hm (by decide) rfl rfl rfl (Nat.le_of_ble_eq_true rfl) dX7_farOf_38 ⟨Nat.zero_le _, Nat.zero_le _⟩) hS (fun v_55 I_49 R_50 J_51 AI_52 AJ_53 AR_54 H locs zv_55 hp_56 hH hS => ?_)
      dsimp only at hp_56
      obtain ⟨rfl, rfl, rfl, rfl, rfl, rfl, q_57⟩ := hp_56
      refine lv_istore_n (lv' := [(3, .int (iI v_55)), (2, .int (iI v_27)), (0, .ref mo), (1, .int (iI rr))]) F.1 F.2.1 dX7_farOf_41 rfl hl (by decide) rfl (fun ls hl => ?_)
      refine z_iconst F dX7_farOf_42 ?_
      refine lv_iload_n F.1 F.2.1 dX7_farOf_43 rfl (lv_at hl 1 rfl) ?_
      refine lv_iload_n F.1 F.2.1 dX7_farOf_44 rfl (lv_at hl 0 rfl) ?_
      refine z_icmp_le (tgt := 52) F dX7_farOf_45 (by decide) zv_27 zv_55 (fun c_58 => ?_) (fun c_58 => ?_)
      · refine lv_iload_n F.1 F.2.1 dX7_farOf_52 rfl (lv_at hl 0 rfl) ?_
        refine z_iadd F dX7_farOf_53 ?_
        exact g_iret F hr hlk hH hS hz ⟨by omega, by omega⟩ ⟨rfl, rfl, rfl, rfl, rfl, rfl, by first | omega | rfl | (dsimp only; omega)⟩ dX7_farOf_54
      · refine lv_iload_n F.1 F.2.1 dX7_farOf_48 rfl (lv_at hl 1 rfl) ?_
        refine z_goto (tgt := 53) F dX7_farOf_49 (by decide) ?_
        refine z_iadd F dX7_farOf_53 ?_
        exact g_iret F hr hlk hH hS hz ⟨by omega, by omega⟩ ⟨rfl, rfl, rfl, rfl, rfl, rfl, by first | omega | rfl | (dsimp only; omega)⟩ dX7_farOf_54
    · refine z_iconst F dX7_farOf_28 ?_
      refine z_goto (tgt := 41) F dX7_farOf_29 (by decide) ?_
      refine lv_istore_n (lv' := [(3, .int (iI 0)), (2, .int (iI v_27)), (0, .ref mo), (1, .int (iI rr))]) F.1 F.2.1 dX7_farOf_41 rfl hl (by decide) rfl (fun ls hl => ?_)
      refine z_iconst F dX7_farOf_42 ?_
      refine lv_iload_n F.1 F.2.1 dX7_farOf_43 rfl (lv_at hl 1 rfl) ?_
      refine lv_iload_n F.1 F.2.1 dX7_farOf_44 rfl (lv_at hl 0 rfl) ?_
      refine z_icmp_le (tgt := 52) F dX7_farOf_45 (by decide) zv_27 ⟨by decide, by decide⟩ (fun c_59 => ?_) (fun c_59 => ?_)
      · refine lv_iload_n F.1 F.2.1 dX7_farOf_52 rfl (lv_at hl 0 rfl) ?_
        refine z_iadd F dX7_farOf_53 ?_
        exact g_iret F hr hlk hH hS hz ⟨by omega, by omega⟩ ⟨rfl, rfl, rfl, rfl, rfl, rfl, by first | omega | rfl | (dsimp only; omega)⟩ dX7_farOf_54
      · refine lv_iload_n F.1 F.2.1 dX7_farOf_48 rfl (lv_at hl 1 rfl) ?_
        refine z_goto (tgt := 53) F dX7_farOf_49 (by decide) ?_
        refine z_iadd F dX7_farOf_53 ?_
        exact g_iret F hr hlk hH hS hz ⟨by omega, by omega⟩ ⟨rfl, rfl, rfl, rfl, rfl, rfl, by first | omega | rfl | (dsimp only; omega)⟩ dX7_farOf_54
  · refine z_iconst F dX7_farOf_8 ?_
    exact g_iret F hr hlk hH hS hz ⟨by decide, by decide⟩ ⟨rfl, rfl, rfl, rfl, rfl, rfl, by first | omega | rfl | (dsimp only; omega)⟩ dX7_farOf_9

def rmX7_farOf3 : Room := { frames := 3, cells := 0, slots := 0, locals := 67 }
set_option maxHeartbeats 4000000 in
set_option maxRecDepth 100000 in
/-- farOf -/
theorem c_X7_farOf3 (l : Launch) (g : gG) (gh : gGh) (T : Nat → Int32) (I : gI) (R : gR) (J : gJ) (AI : gI) (AJ : gJ) (AR : gR) (mo : Nat) (rr : Int) (zrr : zr rr) (hv : mInv g gh R I AI) (hm : gO g mo 7) (hT : AI (gh 50 0) = T) (hr0 : 0 ≤ rr ∧ rr < (I mo 2).toInt ∧ rr < 3) : gMet l g yX7_farOf tsX7_farOf rmX7_farOf3 [.ref mo, .int (iI rr)] (I, R, J, AI, AJ, AR) (gQi g (fun (z : Int) (w : gS) => I = w.1 ∧ R = w.2.1 ∧ J = w.2.2.1 ∧ AI = w.2.2.2.1 ∧ AJ = w.2.2.2.2.1 ∧ AR = w.2.2.2.2.2 ∧ (0 ≤ z ∧ z ≤ 3))) := by
  refine gStart (cc := cX7_farOf) (maxL := 4) (ret := (some (.int))) (by decide) rfl (Nat.le_of_ble_eq_true rfl) ?_
  intro p e s m below meth c ls F hr hlk hH hz hS hl
  have hl : lv_has ls 4 [(0, .ref mo), (1, .int (iI rr))] := hl
  have hS : va_S (gA g) s.heap s.heap [] := hS
  obtain ⟨H, hHe⟩ : ∃ H : Heap, H = s.heap := ⟨_, rfl⟩
  obtain ⟨locs, hlo⟩ : ∃ k : List Loc, k = [] := ⟨_, rfl⟩
  have hH : gH g I R J AI AJ AR H := by rw [hHe]; exact hH
  have hS : va_S (gA g) s.heap H locs := by rw [hHe, hlo]; exact hS
  suffices hw : W p l e rmX7_farOf3 s m ([.ref mo, .int (iI rr)] : List Value).toArray below meth c H locs 0 0 (MQ below (gQi g (fun (z : Int) (w : gS) => I = w.1 ∧ R = w.2.1 ∧ J = w.2.2.1 ∧ AI = w.2.2.2.1 ∧ AJ = w.2.2.2.2.1 ∧ AR = w.2.2.2.2.2 ∧ (0 ≤ z ∧ z ≤ 3))) ([.ref mo, .int (iI rr)] : List Value).toArray s 0 0 (gA g)) (F0 m 0 ls []) by
    rw [hHe, hlo] at hw; exact hw
  clear hHe hlo
  have hb0 := mJ hv hm
  unfold mNum1 at hb0
  have x := mRow hv hm hT (z := rr) (by omega) (by omega)
  have xa := x.1
  have xc := x.2.2.1
  have xb := x.2.1
  refine lv_aload_n F.1 F.2.1 dX7_farOf_0 rfl (lv_at hl 0 rfl) ?_
  refine lv_iload_n F.1 F.2.1 dX7_farOf_1 rfl (lv_at hl 1 rfl) ?_
  have b_1 := mJ hv hm
  unfold mNum1 at b_1
  refine g_calli (g_runV (As := [.int (iI rr)]) (rest := []) (ci := 7) F hl.1 hH hS hz (c_X7_kindOf l g gh T I R J AI AJ AR mo rr zrr hv hm hT (by omega)) (cwV 1 F.2.2.2.2.1 (good_up gT_X7_kindOf) rfl rfl rfl hdX7_kindOf ⟨Nat.le_of_ble_eq_true rfl, Nat.le_of_ble_eq_true rfl⟩) hm (by decide) rfl rfl rfl (Nat.le_of_ble_eq_true rfl) dX7_farOf_2 ⟨Nat.zero_le _, Nat.zero_le _⟩) hS (fun v_8 I_2 R_3 J_4 AI_5 AJ_6 AR_7 H locs zv_8 hp_9 hH hS => ?_)
  dsimp only at hp_9
  obtain ⟨rfl, rfl, rfl, rfl, rfl, rfl, q_10⟩ := hp_9
  refine z_if_ne (tgt := 10) F dX7_farOf_5 (by decide) zv_8 (fun c_11 => ?_) (fun c_11 => ?_)
  · refine lv_aload_n F.1 F.2.1 dX7_farOf_10 rfl (lv_at hl 0 rfl) ?_
    refine lv_aload_n F.1 F.2.1 dX7_farOf_11 rfl (lv_at hl 0 rfl) ?_
    refine lv_iload_n F.1 F.2.1 dX7_farOf_12 rfl (lv_at hl 1 rfl) ?_
    refine g_calli (g_runV (As := [.int (iI rr)]) (rest := [.ref mo]) (ci := 7) F hl.1 hH hS hz (c_X7_firstOf l g gh T I R J AI AJ AR mo rr zrr hv hm hT (by omega)) (cwV 1 F.2.2.2.2.1 (good_up gT_X7_firstOf) rfl rfl rfl hdX7_firstOf ⟨Nat.le_of_ble_eq_true rfl, Nat.le_of_ble_eq_true rfl⟩) hm (by decide) rfl rfl rfl (Nat.le_of_ble_eq_true rfl) dX7_farOf_13 ⟨Nat.zero_le _, Nat.zero_le _⟩) hS (fun v_18 I_12 R_13 J_14 AI_15 AJ_16 AR_17 H locs zv_18 hp_19 hH hS => ?_)
    dsimp only at hp_19
    obtain ⟨rfl, rfl, rfl, rfl, rfl, rfl, q_20⟩ := hp_19
    refine g_calli (g_runV (As := [.int (iI v_18)]) (rest := []) (ci := 7) F hl.1 hH hS hz (c_X7_farOf2 l g gh T I R J AI AJ AR mo v_18 zv_18 hv hm hT (by omega)) (cwV 1 F.2.2.2.2.1 (good_up gT_X7_farOf) rfl rfl rfl hdX7_farOf ⟨Nat.le_of_ble_eq_true rfl, Nat.le_of_ble_eq_true rfl⟩) hm (by decide) rfl rfl rfl (Nat.le_of_ble_eq_true rfl) dX7_farOf_16 ⟨Nat.zero_le _, Nat.zero_le _⟩) hS (fun v_27 I_21 R_22 J_23 AI_24 AJ_25 AR_26 H locs zv_27 hp_28 hH hS => ?_)
    dsimp only at hp_28
    obtain ⟨rfl, rfl, rfl, rfl, rfl, rfl, q_29⟩ := hp_28
    refine lv_istore_n (lv' := [(2, .int (iI v_27)), (0, .ref mo), (1, .int (iI rr))]) F.1 F.2.1 dX7_farOf_19 rfl hl (by decide) rfl (fun ls hl => ?_)
    refine lv_aload_n F.1 F.2.1 dX7_farOf_20 rfl (lv_at hl 1 rfl) ?_
    refine lv_iload_n F.1 F.2.1 dX7_farOf_21 rfl (lv_at hl 2 rfl) ?_
    refine g_calli (g_runV (As := [.int (iI rr)]) (rest := []) (ci := 7) F hl.1 hH hS hz (c_X7_secondOf l g gh T I R J AI AJ AR mo rr zrr hv hm hT (by omega)) (cwV 1 F.2.2.2.2.1 (good_up gT_X7_secondOf) rfl rfl rfl hdX7_secondOf ⟨Nat.le_of_ble_eq_true rfl, Nat.le_of_ble_eq_true rfl⟩) hm (by decide) rfl rfl rfl (Nat.le_of_ble_eq_true rfl) dX7_farOf_22 ⟨Nat.zero_le _, Nat.zero_le _⟩) hS (fun v_36 I_30 R_31 J_32 AI_33 AJ_34 AR_35 H locs zv_36 hp_37 hH hS => ?_)
    dsimp only at hp_37
    obtain ⟨rfl, rfl, rfl, rfl, rfl, rfl, q_38⟩ := hp_37
    refine z_if_ge (tgt := 32) F dX7_farOf_25 (by decide) zv_36 (fun c_39 => ?_) (fun c_39 => ?_)
    · refine lv_aload_n F.1 F.2.1 dX7_farOf_32 rfl (lv_at hl 1 rfl) ?_
      refine lv_aload_n F.1 F.2.1 dX7_farOf_33 rfl (lv_at hl 1 rfl) ?_
      refine lv_iload_n F.1 F.2.1 dX7_farOf_34 rfl (lv_at hl 2 rfl) ?_
      refine g_calli (g_runV (As := [.int (iI rr)]) (rest := [.ref mo]) (ci := 7) F hl.1 hH hS hz (c_X7_secondOf l g gh T I R J AI AJ AR mo rr zrr hv hm hT (by omega)) (cwV 1 F.2.2.2.2.1 (good_up gT_X7_secondOf) rfl rfl rfl hdX7_secondOf ⟨Nat.le_of_ble_eq_true rfl, Nat.le_of_ble_eq_true rfl⟩) hm (by decide) rfl rfl rfl (Nat.le_of_ble_eq_true rfl) dX7_farOf_35 ⟨Nat.zero_le _, Nat.zero_le _⟩) hS (fun v_46 I_40 R_41 J_42 AI_43 AJ_44 AR_45 H locs zv_46 hp_47 hH hS => ?_)
      dsimp only at hp_47
      obtain ⟨rfl, rfl, rfl, rfl, rfl, rfl, q_48⟩ := hp_47
      refine g_calli (g_runV (As := [.int (iI v_46)]) (rest := []) (ci := 7) F hl.1 hH hS hz (c_X7_farOf2 l g gh T I R J AI AJ AR mo v_46 zv_46 hv hm hT (by omega)) (cwV 1 F.2.2.2.2.1 (good_up gT_X7_farOf) rfl rfl rfl hdX7_farOf ⟨Nat.le_of_ble_eq_true rfl, Nat.le_of_ble_eq_true rfl⟩) hm (by decide) rfl rfl rfl (Nat.le_of_ble_eq_true rfl) dX7_farOf_38 ⟨Nat.zero_le _, Nat.zero_le _⟩) hS (fun v_55 I_49 R_50 J_51 AI_52 AJ_53 AR_54 H locs zv_55 hp_56 hH hS => ?_)
      dsimp only at hp_56
      obtain ⟨rfl, rfl, rfl, rfl, rfl, rfl, q_57⟩ := hp_56
      refine lv_istore_n (lv' := [(3, .int (iI v_55)), (2, .int (iI v_27)), (0, .ref mo), (1, .int (iI rr))]) F.1 F.2.1 dX7_farOf_41 rfl hl (by decide) rfl (fun ls hl => ?_)
      refine z_iconst F dX7_farOf_42 ?_
      refine lv_iload_n F.1 F.2.1 dX7_farOf_43 rfl (lv_at hl 1 rfl) ?_
      refine lv_iload_n F.1 F.2.1 dX7_farOf_44 rfl (lv_at hl 0 rfl) ?_
      refine z_icmp_le (tgt := 52) F dX7_farOf_45 (by decide) zv_27 zv_55 (fun c_58 => ?_) (fun c_58 => ?_)
      · refine lv_iload_n F.1 F.2.1 dX7_farOf_52 rfl (lv_at hl 0 rfl) ?_
        refine z_iadd F dX7_farOf_53 ?_
        exact g_iret F hr hlk hH hS hz ⟨by omega, by omega⟩ ⟨rfl, rfl, rfl, rfl, rfl, rfl, by first | omega | rfl | (dsimp only; omega)⟩ dX7_farOf_54
      · refine lv_iload_n F.1 F.2.1 dX7_farOf_48 rfl (lv_at hl 1 rfl) ?_
        refine z_goto (tgt := 53) F dX7_farOf_49 (by decide) ?_
        refine z_iadd F dX7_farOf_53 ?_
        exact g_iret F hr hlk hH hS hz ⟨by omega, by omega⟩ ⟨rfl, rfl, rfl, rfl, rfl, rfl, by first | omega | rfl | (dsimp only; omega)⟩ dX7_farOf_54
    · refine z_iconst F dX7_farOf_28 ?_
      refine z_goto (tgt := 41) F dX7_farOf_29 (by decide) ?_
      refine lv_istore_n (lv' := [(3, .int (iI 0)), (2, .int (iI v_27)), (0, .ref mo), (1, .int (iI rr))]) F.1 F.2.1 dX7_farOf_41 rfl hl (by decide) rfl (fun ls hl => ?_)
      refine z_iconst F dX7_farOf_42 ?_
      refine lv_iload_n F.1 F.2.1 dX7_farOf_43 rfl (lv_at hl 1 rfl) ?_
      refine lv_iload_n F.1 F.2.1 dX7_farOf_44 rfl (lv_at hl 0 rfl) ?_
      refine z_icmp_le (tgt := 52) F dX7_farOf_45 (by decide) zv_27 ⟨by decide, by decide⟩ (fun c_59 => ?_) (fun c_59 => ?_)
      · refine lv_iload_n F.1 F.2.1 dX7_farOf_52 rfl (lv_at hl 0 rfl) ?_
        refine z_iadd F dX7_farOf_53 ?_
        exact g_iret F hr hlk hH hS hz ⟨by omega, by omega⟩ ⟨rfl, rfl, rfl, rfl, rfl, rfl, by first | omega | rfl | (dsimp only; omega)⟩ dX7_farOf_54
      · refine lv_iload_n F.1 F.2.1 dX7_farOf_48 rfl (lv_at hl 1 rfl) ?_
        refine z_goto (tgt := 53) F dX7_farOf_49 (by decide) ?_
        refine z_iadd F dX7_farOf_53 ?_
        exact g_iret F hr hlk hH hS hz ⟨by omega, by omega⟩ ⟨rfl, rfl, rfl, rfl, rfl, rfl, by first | omega | rfl | (dsimp only; omega)⟩ dX7_farOf_54
  · refine z_iconst F dX7_farOf_8 ?_
    exact g_iret F hr hlk hH hS hz ⟨by decide, by decide⟩ ⟨rfl, rfl, rfl, rfl, rfl, rfl, by first | omega | rfl | (dsimp only; omega)⟩ dX7_farOf_9

def rmX7_farOf4 : Room := { frames := 4, cells := 0, slots := 0, locals := 90 }
set_option maxHeartbeats 4000000 in
set_option maxRecDepth 100000 in
/-- farOf -/
theorem c_X7_farOf4 (l : Launch) (g : gG) (gh : gGh) (T : Nat → Int32) (I : gI) (R : gR) (J : gJ) (AI : gI) (AJ : gJ) (AR : gR) (mo : Nat) (rr : Int) (zrr : zr rr) (hv : mInv g gh R I AI) (hm : gO g mo 7) (hT : AI (gh 50 0) = T) (hr0 : 0 ≤ rr ∧ rr < (I mo 2).toInt ∧ rr < 4) : gMet l g yX7_farOf tsX7_farOf rmX7_farOf4 [.ref mo, .int (iI rr)] (I, R, J, AI, AJ, AR) (gQi g (fun (z : Int) (w : gS) => I = w.1 ∧ R = w.2.1 ∧ J = w.2.2.1 ∧ AI = w.2.2.2.1 ∧ AJ = w.2.2.2.2.1 ∧ AR = w.2.2.2.2.2 ∧ (0 ≤ z ∧ z ≤ 4))) := by
  refine gStart (cc := cX7_farOf) (maxL := 4) (ret := (some (.int))) (by decide) rfl (Nat.le_of_ble_eq_true rfl) ?_
  intro p e s m below meth c ls F hr hlk hH hz hS hl
  have hl : lv_has ls 4 [(0, .ref mo), (1, .int (iI rr))] := hl
  have hS : va_S (gA g) s.heap s.heap [] := hS
  obtain ⟨H, hHe⟩ : ∃ H : Heap, H = s.heap := ⟨_, rfl⟩
  obtain ⟨locs, hlo⟩ : ∃ k : List Loc, k = [] := ⟨_, rfl⟩
  have hH : gH g I R J AI AJ AR H := by rw [hHe]; exact hH
  have hS : va_S (gA g) s.heap H locs := by rw [hHe, hlo]; exact hS
  suffices hw : W p l e rmX7_farOf4 s m ([.ref mo, .int (iI rr)] : List Value).toArray below meth c H locs 0 0 (MQ below (gQi g (fun (z : Int) (w : gS) => I = w.1 ∧ R = w.2.1 ∧ J = w.2.2.1 ∧ AI = w.2.2.2.1 ∧ AJ = w.2.2.2.2.1 ∧ AR = w.2.2.2.2.2 ∧ (0 ≤ z ∧ z ≤ 4))) ([.ref mo, .int (iI rr)] : List Value).toArray s 0 0 (gA g)) (F0 m 0 ls []) by
    rw [hHe, hlo] at hw; exact hw
  clear hHe hlo
  have hb0 := mJ hv hm
  unfold mNum1 at hb0
  have x := mRow hv hm hT (z := rr) (by omega) (by omega)
  have xa := x.1
  have xc := x.2.2.1
  have xb := x.2.1
  refine lv_aload_n F.1 F.2.1 dX7_farOf_0 rfl (lv_at hl 0 rfl) ?_
  refine lv_iload_n F.1 F.2.1 dX7_farOf_1 rfl (lv_at hl 1 rfl) ?_
  have b_1 := mJ hv hm
  unfold mNum1 at b_1
  refine g_calli (g_runV (As := [.int (iI rr)]) (rest := []) (ci := 7) F hl.1 hH hS hz (c_X7_kindOf l g gh T I R J AI AJ AR mo rr zrr hv hm hT (by omega)) (cwV 1 F.2.2.2.2.1 (good_up gT_X7_kindOf) rfl rfl rfl hdX7_kindOf ⟨Nat.le_of_ble_eq_true rfl, Nat.le_of_ble_eq_true rfl⟩) hm (by decide) rfl rfl rfl (Nat.le_of_ble_eq_true rfl) dX7_farOf_2 ⟨Nat.zero_le _, Nat.zero_le _⟩) hS (fun v_8 I_2 R_3 J_4 AI_5 AJ_6 AR_7 H locs zv_8 hp_9 hH hS => ?_)
  dsimp only at hp_9
  obtain ⟨rfl, rfl, rfl, rfl, rfl, rfl, q_10⟩ := hp_9
  refine z_if_ne (tgt := 10) F dX7_farOf_5 (by decide) zv_8 (fun c_11 => ?_) (fun c_11 => ?_)
  · refine lv_aload_n F.1 F.2.1 dX7_farOf_10 rfl (lv_at hl 0 rfl) ?_
    refine lv_aload_n F.1 F.2.1 dX7_farOf_11 rfl (lv_at hl 0 rfl) ?_
    refine lv_iload_n F.1 F.2.1 dX7_farOf_12 rfl (lv_at hl 1 rfl) ?_
    refine g_calli (g_runV (As := [.int (iI rr)]) (rest := [.ref mo]) (ci := 7) F hl.1 hH hS hz (c_X7_firstOf l g gh T I R J AI AJ AR mo rr zrr hv hm hT (by omega)) (cwV 1 F.2.2.2.2.1 (good_up gT_X7_firstOf) rfl rfl rfl hdX7_firstOf ⟨Nat.le_of_ble_eq_true rfl, Nat.le_of_ble_eq_true rfl⟩) hm (by decide) rfl rfl rfl (Nat.le_of_ble_eq_true rfl) dX7_farOf_13 ⟨Nat.zero_le _, Nat.zero_le _⟩) hS (fun v_18 I_12 R_13 J_14 AI_15 AJ_16 AR_17 H locs zv_18 hp_19 hH hS => ?_)
    dsimp only at hp_19
    obtain ⟨rfl, rfl, rfl, rfl, rfl, rfl, q_20⟩ := hp_19
    refine g_calli (g_runV (As := [.int (iI v_18)]) (rest := []) (ci := 7) F hl.1 hH hS hz (c_X7_farOf3 l g gh T I R J AI AJ AR mo v_18 zv_18 hv hm hT (by omega)) (cwV 1 F.2.2.2.2.1 (good_up gT_X7_farOf) rfl rfl rfl hdX7_farOf ⟨Nat.le_of_ble_eq_true rfl, Nat.le_of_ble_eq_true rfl⟩) hm (by decide) rfl rfl rfl (Nat.le_of_ble_eq_true rfl) dX7_farOf_16 ⟨Nat.zero_le _, Nat.zero_le _⟩) hS (fun v_27 I_21 R_22 J_23 AI_24 AJ_25 AR_26 H locs zv_27 hp_28 hH hS => ?_)
    dsimp only at hp_28
    obtain ⟨rfl, rfl, rfl, rfl, rfl, rfl, q_29⟩ := hp_28
    refine lv_istore_n (lv' := [(2, .int (iI v_27)), (0, .ref mo), (1, .int (iI rr))]) F.1 F.2.1 dX7_farOf_19 rfl hl (by decide) rfl (fun ls hl => ?_)
    refine lv_aload_n F.1 F.2.1 dX7_farOf_20 rfl (lv_at hl 1 rfl) ?_
    refine lv_iload_n F.1 F.2.1 dX7_farOf_21 rfl (lv_at hl 2 rfl) ?_
    refine g_calli (g_runV (As := [.int (iI rr)]) (rest := []) (ci := 7) F hl.1 hH hS hz (c_X7_secondOf l g gh T I R J AI AJ AR mo rr zrr hv hm hT (by omega)) (cwV 1 F.2.2.2.2.1 (good_up gT_X7_secondOf) rfl rfl rfl hdX7_secondOf ⟨Nat.le_of_ble_eq_true rfl, Nat.le_of_ble_eq_true rfl⟩) hm (by decide) rfl rfl rfl (Nat.le_of_ble_eq_true rfl) dX7_farOf_22 ⟨Nat.zero_le _, Nat.zero_le _⟩) hS (fun v_36 I_30 R_31 J_32 AI_33 AJ_34 AR_35 H locs zv_36 hp_37 hH hS => ?_)
    dsimp only at hp_37
    obtain ⟨rfl, rfl, rfl, rfl, rfl, rfl, q_38⟩ := hp_37
    refine z_if_ge (tgt := 32) F dX7_farOf_25 (by decide) zv_36 (fun c_39 => ?_) (fun c_39 => ?_)
    · refine lv_aload_n F.1 F.2.1 dX7_farOf_32 rfl (lv_at hl 1 rfl) ?_
      refine lv_aload_n F.1 F.2.1 dX7_farOf_33 rfl (lv_at hl 1 rfl) ?_
      refine lv_iload_n F.1 F.2.1 dX7_farOf_34 rfl (lv_at hl 2 rfl) ?_
      refine g_calli (g_runV (As := [.int (iI rr)]) (rest := [.ref mo]) (ci := 7) F hl.1 hH hS hz (c_X7_secondOf l g gh T I R J AI AJ AR mo rr zrr hv hm hT (by omega)) (cwV 1 F.2.2.2.2.1 (good_up gT_X7_secondOf) rfl rfl rfl hdX7_secondOf ⟨Nat.le_of_ble_eq_true rfl, Nat.le_of_ble_eq_true rfl⟩) hm (by decide) rfl rfl rfl (Nat.le_of_ble_eq_true rfl) dX7_farOf_35 ⟨Nat.zero_le _, Nat.zero_le _⟩) hS (fun v_46 I_40 R_41 J_42 AI_43 AJ_44 AR_45 H locs zv_46 hp_47 hH hS => ?_)
      dsimp only at hp_47
      obtain ⟨rfl, rfl, rfl, rfl, rfl, rfl, q_48⟩ := hp_47
      refine g_calli (g_runV (As := [.int (iI v_46)]) (rest := []) (ci := 7) F hl.1 hH hS hz (c_X7_farOf3 l g gh T I R J AI AJ AR mo v_46 zv_46 hv hm hT (by omega)) (cwV 1 F.2.2.2.2.1 (good_up gT_X7_farOf) rfl rfl rfl hdX7_farOf ⟨Nat.le_of_ble_eq_true rfl, Nat.le_of_ble_eq_true rfl⟩) hm (by decide) rfl rfl rfl (Nat.le_of_ble_eq_true rfl) dX7_farOf_38 ⟨Nat.zero_le _, Nat.zero_le _⟩) hS (fun v_55 I_49 R_50 J_51 AI_52 AJ_53 AR_54 H locs zv_55 hp_56 hH hS => ?_)
      dsimp only at hp_56
      obtain ⟨rfl, rfl, rfl, rfl, rfl, rfl, q_57⟩ := hp_56
      refine lv_istore_n (lv' := [(3, .int (iI v_55)), (2, .int (iI v_27)), (0, .ref mo), (1, .int (iI rr))]) F.1 F.2.1 dX7_farOf_41 rfl hl (by decide) rfl (fun ls hl => ?_)
      refine z_iconst F dX7_farOf_42 ?_
      refine lv_iload_n F.1 F.2.1 dX7_farOf_43 rfl (lv_at hl 1 rfl) ?_
      refine lv_iload_n F.1 F.2.1 dX7_farOf_44 rfl (lv_at hl 0 rfl) ?_
      refine z_icmp_le (tgt := 52) F dX7_farOf_45 (by decide) zv_27 zv_55 (fun c_58 => ?_) (fun c_58 => ?_)
      · refine lv_iload_n F.1 F.2.1 dX7_farOf_52 rfl (lv_at hl 0 rfl) ?_
        refine z_iadd F dX7_farOf_53 ?_
        exact g_iret F hr hlk hH hS hz ⟨by omega, by omega⟩ ⟨rfl, rfl, rfl, rfl, rfl, rfl, by first | omega | rfl | (dsimp only; omega)⟩ dX7_farOf_54
      · refine lv_iload_n F.1 F.2.1 dX7_farOf_48 rfl (lv_at hl 1 rfl) ?_
        refine z_goto (tgt := 53) F dX7_farOf_49 (by decide) ?_
        refine z_iadd F dX7_farOf_53 ?_
        exact g_iret F hr hlk hH hS hz ⟨by omega, by omega⟩ ⟨rfl, rfl, rfl, rfl, rfl, rfl, by first | omega | rfl | (dsimp only; omega)⟩ dX7_farOf_54
    · refine z_iconst F dX7_farOf_28 ?_
      refine z_goto (tgt := 41) F dX7_farOf_29 (by decide) ?_
      refine lv_istore_n (lv' := [(3, .int (iI 0)), (2, .int (iI v_27)), (0, .ref mo), (1, .int (iI rr))]) F.1 F.2.1 dX7_farOf_41 rfl hl (by decide) rfl (fun ls hl => ?_)
      refine z_iconst F dX7_farOf_42 ?_
      refine lv_iload_n F.1 F.2.1 dX7_farOf_43 rfl (lv_at hl 1 rfl) ?_
      refine lv_iload_n F.1 F.2.1 dX7_farOf_44 rfl (lv_at hl 0 rfl) ?_
      refine z_icmp_le (tgt := 52) F dX7_farOf_45 (by decide) zv_27 ⟨by decide, by decide⟩ (fun c_59 => ?_) (fun c_59 => ?_)
      · refine lv_iload_n F.1 F.2.1 dX7_farOf_52 rfl (lv_at hl 0 rfl) ?_
        refine z_iadd F dX7_farOf_53 ?_
        exact g_iret F hr hlk hH hS hz ⟨by omega, by omega⟩ ⟨rfl, rfl, rfl, rfl, rfl, rfl, by first | omega | rfl | (dsimp only; omega)⟩ dX7_farOf_54
      · refine lv_iload_n F.1 F.2.1 dX7_farOf_48 rfl (lv_at hl 1 rfl) ?_
        refine z_goto (tgt := 53) F dX7_farOf_49 (by decide) ?_
        refine z_iadd F dX7_farOf_53 ?_
        exact g_iret F hr hlk hH hS hz ⟨by omega, by omega⟩ ⟨rfl, rfl, rfl, rfl, rfl, rfl, by first | omega | rfl | (dsimp only; omega)⟩ dX7_farOf_54
  · refine z_iconst F dX7_farOf_8 ?_
    exact g_iret F hr hlk hH hS hz ⟨by decide, by decide⟩ ⟨rfl, rfl, rfl, rfl, rfl, rfl, by first | omega | rfl | (dsimp only; omega)⟩ dX7_farOf_9

def rmX7_farOf5 : Room := { frames := 5, cells := 0, slots := 0, locals := 113 }
set_option maxHeartbeats 4000000 in
set_option maxRecDepth 100000 in
/-- farOf -/
theorem c_X7_farOf5 (l : Launch) (g : gG) (gh : gGh) (T : Nat → Int32) (I : gI) (R : gR) (J : gJ) (AI : gI) (AJ : gJ) (AR : gR) (mo : Nat) (rr : Int) (zrr : zr rr) (hv : mInv g gh R I AI) (hm : gO g mo 7) (hT : AI (gh 50 0) = T) (hr0 : 0 ≤ rr ∧ rr < (I mo 2).toInt ∧ rr < 5) : gMet l g yX7_farOf tsX7_farOf rmX7_farOf5 [.ref mo, .int (iI rr)] (I, R, J, AI, AJ, AR) (gQi g (fun (z : Int) (w : gS) => I = w.1 ∧ R = w.2.1 ∧ J = w.2.2.1 ∧ AI = w.2.2.2.1 ∧ AJ = w.2.2.2.2.1 ∧ AR = w.2.2.2.2.2 ∧ (0 ≤ z ∧ z ≤ 5))) := by
  refine gStart (cc := cX7_farOf) (maxL := 4) (ret := (some (.int))) (by decide) rfl (Nat.le_of_ble_eq_true rfl) ?_
  intro p e s m below meth c ls F hr hlk hH hz hS hl
  have hl : lv_has ls 4 [(0, .ref mo), (1, .int (iI rr))] := hl
  have hS : va_S (gA g) s.heap s.heap [] := hS
  obtain ⟨H, hHe⟩ : ∃ H : Heap, H = s.heap := ⟨_, rfl⟩
  obtain ⟨locs, hlo⟩ : ∃ k : List Loc, k = [] := ⟨_, rfl⟩
  have hH : gH g I R J AI AJ AR H := by rw [hHe]; exact hH
  have hS : va_S (gA g) s.heap H locs := by rw [hHe, hlo]; exact hS
  suffices hw : W p l e rmX7_farOf5 s m ([.ref mo, .int (iI rr)] : List Value).toArray below meth c H locs 0 0 (MQ below (gQi g (fun (z : Int) (w : gS) => I = w.1 ∧ R = w.2.1 ∧ J = w.2.2.1 ∧ AI = w.2.2.2.1 ∧ AJ = w.2.2.2.2.1 ∧ AR = w.2.2.2.2.2 ∧ (0 ≤ z ∧ z ≤ 5))) ([.ref mo, .int (iI rr)] : List Value).toArray s 0 0 (gA g)) (F0 m 0 ls []) by
    rw [hHe, hlo] at hw; exact hw
  clear hHe hlo
  have hb0 := mJ hv hm
  unfold mNum1 at hb0
  have x := mRow hv hm hT (z := rr) (by omega) (by omega)
  have xa := x.1
  have xc := x.2.2.1
  have xb := x.2.1
  refine lv_aload_n F.1 F.2.1 dX7_farOf_0 rfl (lv_at hl 0 rfl) ?_
  refine lv_iload_n F.1 F.2.1 dX7_farOf_1 rfl (lv_at hl 1 rfl) ?_
  have b_1 := mJ hv hm
  unfold mNum1 at b_1
  refine g_calli (g_runV (As := [.int (iI rr)]) (rest := []) (ci := 7) F hl.1 hH hS hz (c_X7_kindOf l g gh T I R J AI AJ AR mo rr zrr hv hm hT (by omega)) (cwV 1 F.2.2.2.2.1 (good_up gT_X7_kindOf) rfl rfl rfl hdX7_kindOf ⟨Nat.le_of_ble_eq_true rfl, Nat.le_of_ble_eq_true rfl⟩) hm (by decide) rfl rfl rfl (Nat.le_of_ble_eq_true rfl) dX7_farOf_2 ⟨Nat.zero_le _, Nat.zero_le _⟩) hS (fun v_8 I_2 R_3 J_4 AI_5 AJ_6 AR_7 H locs zv_8 hp_9 hH hS => ?_)
  dsimp only at hp_9
  obtain ⟨rfl, rfl, rfl, rfl, rfl, rfl, q_10⟩ := hp_9
  refine z_if_ne (tgt := 10) F dX7_farOf_5 (by decide) zv_8 (fun c_11 => ?_) (fun c_11 => ?_)
  · refine lv_aload_n F.1 F.2.1 dX7_farOf_10 rfl (lv_at hl 0 rfl) ?_
    refine lv_aload_n F.1 F.2.1 dX7_farOf_11 rfl (lv_at hl 0 rfl) ?_
    refine lv_iload_n F.1 F.2.1 dX7_farOf_12 rfl (lv_at hl 1 rfl) ?_
    refine g_calli (g_runV (As := [.int (iI rr)]) (rest := [.ref mo]) (ci := 7) F hl.1 hH hS hz (c_X7_firstOf l g gh T I R J AI AJ AR mo rr zrr hv hm hT (by omega)) (cwV 1 F.2.2.2.2.1 (good_up gT_X7_firstOf) rfl rfl rfl hdX7_firstOf ⟨Nat.le_of_ble_eq_true rfl, Nat.le_of_ble_eq_true rfl⟩) hm (by decide) rfl rfl rfl (Nat.le_of_ble_eq_true rfl) dX7_farOf_13 ⟨Nat.zero_le _, Nat.zero_le _⟩) hS (fun v_18 I_12 R_13 J_14 AI_15 AJ_16 AR_17 H locs zv_18 hp_19 hH hS => ?_)
    dsimp only at hp_19
    obtain ⟨rfl, rfl, rfl, rfl, rfl, rfl, q_20⟩ := hp_19
    refine g_calli (g_runV (As := [.int (iI v_18)]) (rest := []) (ci := 7) F hl.1 hH hS hz (c_X7_farOf4 l g gh T I R J AI AJ AR mo v_18 zv_18 hv hm hT (by omega)) (cwV 1 F.2.2.2.2.1 (good_up gT_X7_farOf) rfl rfl rfl hdX7_farOf ⟨Nat.le_of_ble_eq_true rfl, Nat.le_of_ble_eq_true rfl⟩) hm (by decide) rfl rfl rfl (Nat.le_of_ble_eq_true rfl) dX7_farOf_16 ⟨Nat.zero_le _, Nat.zero_le _⟩) hS (fun v_27 I_21 R_22 J_23 AI_24 AJ_25 AR_26 H locs zv_27 hp_28 hH hS => ?_)
    dsimp only at hp_28
    obtain ⟨rfl, rfl, rfl, rfl, rfl, rfl, q_29⟩ := hp_28
    refine lv_istore_n (lv' := [(2, .int (iI v_27)), (0, .ref mo), (1, .int (iI rr))]) F.1 F.2.1 dX7_farOf_19 rfl hl (by decide) rfl (fun ls hl => ?_)
    refine lv_aload_n F.1 F.2.1 dX7_farOf_20 rfl (lv_at hl 1 rfl) ?_
    refine lv_iload_n F.1 F.2.1 dX7_farOf_21 rfl (lv_at hl 2 rfl) ?_
    refine g_calli (g_runV (As := [.int (iI rr)]) (rest := []) (ci := 7) F hl.1 hH hS hz (c_X7_secondOf l g gh T I R J AI AJ AR mo rr zrr hv hm hT (by omega)) (cwV 1 F.2.2.2.2.1 (good_up gT_X7_secondOf) rfl rfl rfl hdX7_secondOf ⟨Nat.le_of_ble_eq_true rfl, Nat.le_of_ble_eq_true rfl⟩) hm (by decide) rfl rfl rfl (Nat.le_of_ble_eq_true rfl) dX7_farOf_22 ⟨Nat.zero_le _, Nat.zero_le _⟩) hS (fun v_36 I_30 R_31 J_32 AI_33 AJ_34 AR_35 H locs zv_36 hp_37 hH hS => ?_)
    dsimp only at hp_37
    obtain ⟨rfl, rfl, rfl, rfl, rfl, rfl, q_38⟩ := hp_37
    refine z_if_ge (tgt := 32) F dX7_farOf_25 (by decide) zv_36 (fun c_39 => ?_) (fun c_39 => ?_)
    · refine lv_aload_n F.1 F.2.1 dX7_farOf_32 rfl (lv_at hl 1 rfl) ?_
      refine lv_aload_n F.1 F.2.1 dX7_farOf_33 rfl (lv_at hl 1 rfl) ?_
      refine lv_iload_n F.1 F.2.1 dX7_farOf_34 rfl (lv_at hl 2 rfl) ?_
      refine g_calli (g_runV (As := [.int (iI rr)]) (rest := [.ref mo]) (ci := 7) F hl.1 hH hS hz (c_X7_secondOf l g gh T I R J AI AJ AR mo rr zrr hv hm hT (by omega)) (cwV 1 F.2.2.2.2.1 (good_up gT_X7_secondOf) rfl rfl rfl hdX7_secondOf ⟨Nat.le_of_ble_eq_true rfl, Nat.le_of_ble_eq_true rfl⟩) hm (by decide) rfl rfl rfl (Nat.le_of_ble_eq_true rfl) dX7_farOf_35 ⟨Nat.zero_le _, Nat.zero_le _⟩) hS (fun v_46 I_40 R_41 J_42 AI_43 AJ_44 AR_45 H locs zv_46 hp_47 hH hS => ?_)
      dsimp only at hp_47
      obtain ⟨rfl, rfl, rfl, rfl, rfl, rfl, q_48⟩ := hp_47
      refine g_calli (g_runV (As := [.int (iI v_46)]) (rest := []) (ci := 7) F hl.1 hH hS hz (c_X7_farOf4 l g gh T I R J AI AJ AR mo v_46 zv_46 hv hm hT (by omega)) (cwV 1 F.2.2.2.2.1 (good_up gT_X7_farOf) rfl rfl rfl hdX7_farOf ⟨Nat.le_of_ble_eq_true rfl, Nat.le_of_ble_eq_true rfl⟩) hm (by decide) rfl rfl rfl (Nat.le_of_ble_eq_true rfl) dX7_farOf_38 ⟨Nat.zero_le _, Nat.zero_le _⟩) hS (fun v_55 I_49 R_50 J_51 AI_52 AJ_53 AR_54 H locs zv_55 hp_56 hH hS => ?_)
      dsimp only at hp_56
      obtain ⟨rfl, rfl, rfl, rfl, rfl, rfl, q_57⟩ := hp_56
      refine lv_istore_n (lv' := [(3, .int (iI v_55)), (2, .int (iI v_27)), (0, .ref mo), (1, .int (iI rr))]) F.1 F.2.1 dX7_farOf_41 rfl hl (by decide) rfl (fun ls hl => ?_)
      refine z_iconst F dX7_farOf_42 ?_
      refine lv_iload_n F.1 F.2.1 dX7_farOf_43 rfl (lv_at hl 1 rfl) ?_
      refine lv_iload_n F.1 F.2.1 dX7_farOf_44 rfl (lv_at hl 0 rfl) ?_
      refine z_icmp_le (tgt := 52) F dX7_farOf_45 (by decide) zv_27 zv_55 (fun c_58 => ?_) (fun c_58 => ?_)
      · refine lv_iload_n F.1 F.2.1 dX7_farOf_52 rfl (lv_at hl 0 rfl) ?_
        refine z_iadd F dX7_farOf_53 ?_
        exact g_iret F hr hlk hH hS hz ⟨by omega, by omega⟩ ⟨rfl, rfl, rfl, rfl, rfl, rfl, by first | omega | rfl | (dsimp only; omega)⟩ dX7_farOf_54
      · refine lv_iload_n F.1 F.2.1 dX7_farOf_48 rfl (lv_at hl 1 rfl) ?_
        refine z_goto (tgt := 53) F dX7_farOf_49 (by decide) ?_
        refine z_iadd F dX7_farOf_53 ?_
        exact g_iret F hr hlk hH hS hz ⟨by omega, by omega⟩ ⟨rfl, rfl, rfl, rfl, rfl, rfl, by first | omega | rfl | (dsimp only; omega)⟩ dX7_farOf_54
    · refine z_iconst F dX7_farOf_28 ?_
      refine z_goto (tgt := 41) F dX7_farOf_29 (by decide) ?_
      refine lv_istore_n (lv' := [(3, .int (iI 0)), (2, .int (iI v_27)), (0, .ref mo), (1, .int (iI rr))]) F.1 F.2.1 dX7_farOf_41 rfl hl (by decide) rfl (fun ls hl => ?_)
      refine z_iconst F dX7_farOf_42 ?_
      refine lv_iload_n F.1 F.2.1 dX7_farOf_43 rfl (lv_at hl 1 rfl) ?_
      refine lv_iload_n F.1 F.2.1 dX7_farOf_44 rfl (lv_at hl 0 rfl) ?_
      refine z_icmp_le (tgt := 52) F dX7_farOf_45 (by decide) zv_27 ⟨by decide, by decide⟩ (fun c_59 => ?_) (fun c_59 => ?_)
      · refine lv_iload_n F.1 F.2.1 dX7_farOf_52 rfl (lv_at hl 0 rfl) ?_
        refine z_iadd F dX7_farOf_53 ?_
        exact g_iret F hr hlk hH hS hz ⟨by omega, by omega⟩ ⟨rfl, rfl, rfl, rfl, rfl, rfl, by first | omega | rfl | (dsimp only; omega)⟩ dX7_farOf_54
      · refine lv_iload_n F.1 F.2.1 dX7_farOf_48 rfl (lv_at hl 1 rfl) ?_
        refine z_goto (tgt := 53) F dX7_farOf_49 (by decide) ?_
        refine z_iadd F dX7_farOf_53 ?_
        exact g_iret F hr hlk hH hS hz ⟨by omega, by omega⟩ ⟨rfl, rfl, rfl, rfl, rfl, rfl, by first | omega | rfl | (dsimp only; omega)⟩ dX7_farOf_54
  · refine z_iconst F dX7_farOf_8 ?_
    exact g_iret F hr hlk hH hS hz ⟨by decide, by decide⟩ ⟨rfl, rfl, rfl, rfl, rfl, rfl, by first | omega | rfl | (dsimp only; omega)⟩ dX7_farOf_9

def rmX7_farOf6 : Room := { frames := 6, cells := 0, slots := 0, locals := 136 }
set_option maxHeartbeats 4000000 in
set_option maxRecDepth 100000 in
/-- farOf -/
theorem c_X7_farOf6 (l : Launch) (g : gG) (gh : gGh) (T : Nat → Int32) (I : gI) (R : gR) (J : gJ) (AI : gI) (AJ : gJ) (AR : gR) (mo : Nat) (rr : Int) (zrr : zr rr) (hv : mInv g gh R I AI) (hm : gO g mo 7) (hT : AI (gh 50 0) = T) (hr0 : 0 ≤ rr ∧ rr < (I mo 2).toInt ∧ rr < 6) : gMet l g yX7_farOf tsX7_farOf rmX7_farOf6 [.ref mo, .int (iI rr)] (I, R, J, AI, AJ, AR) (gQi g (fun (z : Int) (w : gS) => I = w.1 ∧ R = w.2.1 ∧ J = w.2.2.1 ∧ AI = w.2.2.2.1 ∧ AJ = w.2.2.2.2.1 ∧ AR = w.2.2.2.2.2 ∧ (0 ≤ z ∧ z ≤ 6))) := by
  refine gStart (cc := cX7_farOf) (maxL := 4) (ret := (some (.int))) (by decide) rfl (Nat.le_of_ble_eq_true rfl) ?_
  intro p e s m below meth c ls F hr hlk hH hz hS hl
  have hl : lv_has ls 4 [(0, .ref mo), (1, .int (iI rr))] := hl
  have hS : va_S (gA g) s.heap s.heap [] := hS
  obtain ⟨H, hHe⟩ : ∃ H : Heap, H = s.heap := ⟨_, rfl⟩
  obtain ⟨locs, hlo⟩ : ∃ k : List Loc, k = [] := ⟨_, rfl⟩
  have hH : gH g I R J AI AJ AR H := by rw [hHe]; exact hH
  have hS : va_S (gA g) s.heap H locs := by rw [hHe, hlo]; exact hS
  suffices hw : W p l e rmX7_farOf6 s m ([.ref mo, .int (iI rr)] : List Value).toArray below meth c H locs 0 0 (MQ below (gQi g (fun (z : Int) (w : gS) => I = w.1 ∧ R = w.2.1 ∧ J = w.2.2.1 ∧ AI = w.2.2.2.1 ∧ AJ = w.2.2.2.2.1 ∧ AR = w.2.2.2.2.2 ∧ (0 ≤ z ∧ z ≤ 6))) ([.ref mo, .int (iI rr)] : List Value).toArray s 0 0 (gA g)) (F0 m 0 ls []) by
    rw [hHe, hlo] at hw; exact hw
  clear hHe hlo
  have hb0 := mJ hv hm
  unfold mNum1 at hb0
  have x := mRow hv hm hT (z := rr) (by omega) (by omega)
  have xa := x.1
  have xc := x.2.2.1
  have xb := x.2.1
  refine lv_aload_n F.1 F.2.1 dX7_farOf_0 rfl (lv_at hl 0 rfl) ?_
  refine lv_iload_n F.1 F.2.1 dX7_farOf_1 rfl (lv_at hl 1 rfl) ?_
  have b_1 := mJ hv hm
  unfold mNum1 at b_1
  refine g_calli (g_runV (As := [.int (iI rr)]) (rest := []) (ci := 7) F hl.1 hH hS hz (c_X7_kindOf l g gh T I R J AI AJ AR mo rr zrr hv hm hT (by omega)) (cwV 1 F.2.2.2.2.1 (good_up gT_X7_kindOf) rfl rfl rfl hdX7_kindOf ⟨Nat.le_of_ble_eq_true rfl, Nat.le_of_ble_eq_true rfl⟩) hm (by decide) rfl rfl rfl (Nat.le_of_ble_eq_true rfl) dX7_farOf_2 ⟨Nat.zero_le _, Nat.zero_le _⟩) hS (fun v_8 I_2 R_3 J_4 AI_5 AJ_6 AR_7 H locs zv_8 hp_9 hH hS => ?_)
  dsimp only at hp_9
  obtain ⟨rfl, rfl, rfl, rfl, rfl, rfl, q_10⟩ := hp_9
  refine z_if_ne (tgt := 10) F dX7_farOf_5 (by decide) zv_8 (fun c_11 => ?_) (fun c_11 => ?_)
  · refine lv_aload_n F.1 F.2.1 dX7_farOf_10 rfl (lv_at hl 0 rfl) ?_
    refine lv_aload_n F.1 F.2.1 dX7_farOf_11 rfl (lv_at hl 0 rfl) ?_
    refine lv_iload_n F.1 F.2.1 dX7_farOf_12 rfl (lv_at hl 1 rfl) ?_
    refine g_calli (g_runV (As := [.int (iI rr)]) (rest := [.ref mo]) (ci := 7) F hl.1 hH hS hz (c_X7_firstOf l g gh T I R J AI AJ AR mo rr zrr hv hm hT (by omega)) (cwV 1 F.2.2.2.2.1 (good_up gT_X7_firstOf) rfl rfl rfl hdX7_firstOf ⟨Nat.le_of_ble_eq_true rfl, Nat.le_of_ble_eq_true rfl⟩) hm (by decide) rfl rfl rfl (Nat.le_of_ble_eq_true rfl) dX7_farOf_13 ⟨Nat.zero_le _, Nat.zero_le _⟩) hS (fun v_18 I_12 R_13 J_14 AI_15 AJ_16 AR_17 H locs zv_18 hp_19 hH hS => ?_)
    dsimp only at hp_19
    obtain ⟨rfl, rfl, rfl, rfl, rfl, rfl, q_20⟩ := hp_19
    refine g_calli (g_runV (As := [.int (iI v_18)]) (rest := []) (ci := 7) F hl.1 hH hS hz (c_X7_farOf5 l g gh T I R J AI AJ AR mo v_18 zv_18 hv hm hT (by omega)) (cwV 1 F.2.2.2.2.1 (good_up gT_X7_farOf) rfl rfl rfl hdX7_farOf ⟨Nat.le_of_ble_eq_true rfl, Nat.le_of_ble_eq_true rfl⟩) hm (by decide) rfl rfl rfl (Nat.le_of_ble_eq_true rfl) dX7_farOf_16 ⟨Nat.zero_le _, Nat.zero_le _⟩) hS (fun v_27 I_21 R_22 J_23 AI_24 AJ_25 AR_26 H locs zv_27 hp_28 hH hS => ?_)
    dsimp only at hp_28
    obtain ⟨rfl, rfl, rfl, rfl, rfl, rfl, q_29⟩ := hp_28
    refine lv_istore_n (lv' := [(2, .int (iI v_27)), (0, .ref mo), (1, .int (iI rr))]) F.1 F.2.1 dX7_farOf_19 rfl hl (by decide) rfl (fun ls hl => ?_)
    refine lv_aload_n F.1 F.2.1 dX7_farOf_20 rfl (lv_at hl 1 rfl) ?_
    refine lv_iload_n F.1 F.2.1 dX7_farOf_21 rfl (lv_at hl 2 rfl) ?_
    refine g_calli (g_runV (As := [.int (iI rr)]) (rest := []) (ci := 7) F hl.1 hH hS hz (c_X7_secondOf l g gh T I R J AI AJ AR mo rr zrr hv hm hT (by omega)) (cwV 1 F.2.2.2.2.1 (good_up gT_X7_secondOf) rfl rfl rfl hdX7_secondOf ⟨Nat.le_of_ble_eq_true rfl, Nat.le_of_ble_eq_true rfl⟩) hm (by decide) rfl rfl rfl (Nat.le_of_ble_eq_true rfl) dX7_farOf_22 ⟨Nat.zero_le _, Nat.zero_le _⟩) hS (fun v_36 I_30 R_31 J_32 AI_33 AJ_34 AR_35 H locs zv_36 hp_37 hH hS => ?_)
    dsimp only at hp_37
    obtain ⟨rfl, rfl, rfl, rfl, rfl, rfl, q_38⟩ := hp_37
    refine z_if_ge (tgt := 32) F dX7_farOf_25 (by decide) zv_36 (fun c_39 => ?_) (fun c_39 => ?_)
    · refine lv_aload_n F.1 F.2.1 dX7_farOf_32 rfl (lv_at hl 1 rfl) ?_
      refine lv_aload_n F.1 F.2.1 dX7_farOf_33 rfl (lv_at hl 1 rfl) ?_
      refine lv_iload_n F.1 F.2.1 dX7_farOf_34 rfl (lv_at hl 2 rfl) ?_
      refine g_calli (g_runV (As := [.int (iI rr)]) (rest := [.ref mo]) (ci := 7) F hl.1 hH hS hz (c_X7_secondOf l g gh T I R J AI AJ AR mo rr zrr hv hm hT (by omega)) (cwV 1 F.2.2.2.2.1 (good_up gT_X7_secondOf) rfl rfl rfl hdX7_secondOf ⟨Nat.le_of_ble_eq_true rfl, Nat.le_of_ble_eq_true rfl⟩) hm (by decide) rfl rfl rfl (Nat.le_of_ble_eq_true rfl) dX7_farOf_35 ⟨Nat.zero_le _, Nat.zero_le _⟩) hS (fun v_46 I_40 R_41 J_42 AI_43 AJ_44 AR_45 H locs zv_46 hp_47 hH hS => ?_)
      dsimp only at hp_47
      obtain ⟨rfl, rfl, rfl, rfl, rfl, rfl, q_48⟩ := hp_47
      refine g_calli (g_runV (As := [.int (iI v_46)]) (rest := []) (ci := 7) F hl.1 hH hS hz (c_X7_farOf5 l g gh T I R J AI AJ AR mo v_46 zv_46 hv hm hT (by omega)) (cwV 1 F.2.2.2.2.1 (good_up gT_X7_farOf) rfl rfl rfl hdX7_farOf ⟨Nat.le_of_ble_eq_true rfl, Nat.le_of_ble_eq_true rfl⟩) hm (by decide) rfl rfl rfl (Nat.le_of_ble_eq_true rfl) dX7_farOf_38 ⟨Nat.zero_le _, Nat.zero_le _⟩) hS (fun v_55 I_49 R_50 J_51 AI_52 AJ_53 AR_54 H locs zv_55 hp_56 hH hS => ?_)
      dsimp only at hp_56
      obtain ⟨rfl, rfl, rfl, rfl, rfl, rfl, q_57⟩ := hp_56
      refine lv_istore_n (lv' := [(3, .int (iI v_55)), (2, .int (iI v_27)), (0, .ref mo), (1, .int (iI rr))]) F.1 F.2.1 dX7_farOf_41 rfl hl (by decide) rfl (fun ls hl => ?_)
      refine z_iconst F dX7_farOf_42 ?_
      refine lv_iload_n F.1 F.2.1 dX7_farOf_43 rfl (lv_at hl 1 rfl) ?_
      refine lv_iload_n F.1 F.2.1 dX7_farOf_44 rfl (lv_at hl 0 rfl) ?_
      refine z_icmp_le (tgt := 52) F dX7_farOf_45 (by decide) zv_27 zv_55 (fun c_58 => ?_) (fun c_58 => ?_)
      · refine lv_iload_n F.1 F.2.1 dX7_farOf_52 rfl (lv_at hl 0 rfl) ?_
        refine z_iadd F dX7_farOf_53 ?_
        exact g_iret F hr hlk hH hS hz ⟨by omega, by omega⟩ ⟨rfl, rfl, rfl, rfl, rfl, rfl, by first | omega | rfl | (dsimp only; omega)⟩ dX7_farOf_54
      · refine lv_iload_n F.1 F.2.1 dX7_farOf_48 rfl (lv_at hl 1 rfl) ?_
        refine z_goto (tgt := 53) F dX7_farOf_49 (by decide) ?_
        refine z_iadd F dX7_farOf_53 ?_
        exact g_iret F hr hlk hH hS hz ⟨by omega, by omega⟩ ⟨rfl, rfl, rfl, rfl, rfl, rfl, by first | omega | rfl | (dsimp only; omega)⟩ dX7_farOf_54
    · refine z_iconst F dX7_farOf_28 ?_
      refine z_goto (tgt := 41) F dX7_farOf_29 (by decide) ?_
      refine lv_istore_n (lv' := [(3, .int (iI 0)), (2, .int (iI v_27)), (0, .ref mo), (1, .int (iI rr))]) F.1 F.2.1 dX7_farOf_41 rfl hl (by decide) rfl (fun ls hl => ?_)
      refine z_iconst F dX7_farOf_42 ?_
      refine lv_iload_n F.1 F.2.1 dX7_farOf_43 rfl (lv_at hl 1 rfl) ?_
      refine lv_iload_n F.1 F.2.1 dX7_farOf_44 rfl (lv_at hl 0 rfl) ?_
      refine z_icmp_le (tgt := 52) F dX7_farOf_45 (by decide) zv_27 ⟨by decide, by decide⟩ (fun c_59 => ?_) (fun c_59 => ?_)
      · refine lv_iload_n F.1 F.2.1 dX7_farOf_52 rfl (lv_at hl 0 rfl) ?_
        refine z_iadd F dX7_farOf_53 ?_
        exact g_iret F hr hlk hH hS hz ⟨by omega, by omega⟩ ⟨rfl, rfl, rfl, rfl, rfl, rfl, by first | omega | rfl | (dsimp only; omega)⟩ dX7_farOf_54
      · refine lv_iload_n F.1 F.2.1 dX7_farOf_48 rfl (lv_at hl 1 rfl) ?_
        refine z_goto (tgt := 53) F dX7_farOf_49 (by decide) ?_
        refine z_iadd F dX7_farOf_53 ?_
        exact g_iret F hr hlk hH hS hz ⟨by omega, by omega⟩ ⟨rfl, rfl, rfl, rfl, rfl, rfl, by first | omega | rfl | (dsimp only; omega)⟩ dX7_farOf_54
  · refine z_iconst F dX7_farOf_8 ?_
    exact g_iret F hr hlk hH hS hz ⟨by decide, by decide⟩ ⟨rfl, rfl, rfl, rfl, rfl, rfl, by first | omega | rfl | (dsimp only; omega)⟩ dX7_farOf_9

def rmX7_farOf7 : Room := { frames := 7, cells := 0, slots := 0, locals := 159 }
set_option maxHeartbeats 4000000 in
set_option maxRecDepth 100000 in
/-- farOf -/
theorem c_X7_farOf7 (l : Launch) (g : gG) (gh : gGh) (T : Nat → Int32) (I : gI) (R : gR) (J : gJ) (AI : gI) (AJ : gJ) (AR : gR) (mo : Nat) (rr : Int) (zrr : zr rr) (hv : mInv g gh R I AI) (hm : gO g mo 7) (hT : AI (gh 50 0) = T) (hr0 : 0 ≤ rr ∧ rr < (I mo 2).toInt ∧ rr < 7) : gMet l g yX7_farOf tsX7_farOf rmX7_farOf7 [.ref mo, .int (iI rr)] (I, R, J, AI, AJ, AR) (gQi g (fun (z : Int) (w : gS) => I = w.1 ∧ R = w.2.1 ∧ J = w.2.2.1 ∧ AI = w.2.2.2.1 ∧ AJ = w.2.2.2.2.1 ∧ AR = w.2.2.2.2.2 ∧ (0 ≤ z ∧ z ≤ 7))) := by
  refine gStart (cc := cX7_farOf) (maxL := 4) (ret := (some (.int))) (by decide) rfl (Nat.le_of_ble_eq_true rfl) ?_
  intro p e s m below meth c ls F hr hlk hH hz hS hl
  have hl : lv_has ls 4 [(0, .ref mo), (1, .int (iI rr))] := hl
  have hS : va_S (gA g) s.heap s.heap [] := hS
  obtain ⟨H, hHe⟩ : ∃ H : Heap, H = s.heap := ⟨_, rfl⟩
  obtain ⟨locs, hlo⟩ : ∃ k : List Loc, k = [] := ⟨_, rfl⟩
  have hH : gH g I R J AI AJ AR H := by rw [hHe]; exact hH
  have hS : va_S (gA g) s.heap H locs := by rw [hHe, hlo]; exact hS
  suffices hw : W p l e rmX7_farOf7 s m ([.ref mo, .int (iI rr)] : List Value).toArray below meth c H locs 0 0 (MQ below (gQi g (fun (z : Int) (w : gS) => I = w.1 ∧ R = w.2.1 ∧ J = w.2.2.1 ∧ AI = w.2.2.2.1 ∧ AJ = w.2.2.2.2.1 ∧ AR = w.2.2.2.2.2 ∧ (0 ≤ z ∧ z ≤ 7))) ([.ref mo, .int (iI rr)] : List Value).toArray s 0 0 (gA g)) (F0 m 0 ls []) by
    rw [hHe, hlo] at hw; exact hw
  clear hHe hlo
  have hb0 := mJ hv hm
  unfold mNum1 at hb0
  have x := mRow hv hm hT (z := rr) (by omega) (by omega)
  have xa := x.1
  have xc := x.2.2.1
  have xb := x.2.1
  refine lv_aload_n F.1 F.2.1 dX7_farOf_0 rfl (lv_at hl 0 rfl) ?_
  refine lv_iload_n F.1 F.2.1 dX7_farOf_1 rfl (lv_at hl 1 rfl) ?_
  have b_1 := mJ hv hm
  unfold mNum1 at b_1
  refine g_calli (g_runV (As := [.int (iI rr)]) (rest := []) (ci := 7) F hl.1 hH hS hz (c_X7_kindOf l g gh T I R J AI AJ AR mo rr zrr hv hm hT (by omega)) (cwV 1 F.2.2.2.2.1 (good_up gT_X7_kindOf) rfl rfl rfl hdX7_kindOf ⟨Nat.le_of_ble_eq_true rfl, Nat.le_of_ble_eq_true rfl⟩) hm (by decide) rfl rfl rfl (Nat.le_of_ble_eq_true rfl) dX7_farOf_2 ⟨Nat.zero_le _, Nat.zero_le _⟩) hS (fun v_8 I_2 R_3 J_4 AI_5 AJ_6 AR_7 H locs zv_8 hp_9 hH hS => ?_)
  dsimp only at hp_9
  obtain ⟨rfl, rfl, rfl, rfl, rfl, rfl, q_10⟩ := hp_9
  refine z_if_ne (tgt := 10) F dX7_farOf_5 (by decide) zv_8 (fun c_11 => ?_) (fun c_11 => ?_)
  · refine lv_aload_n F.1 F.2.1 dX7_farOf_10 rfl (lv_at hl 0 rfl) ?_
    refine lv_aload_n F.1 F.2.1 dX7_farOf_11 rfl (lv_at hl 0 rfl) ?_
    refine lv_iload_n F.1 F.2.1 dX7_farOf_12 rfl (lv_at hl 1 rfl) ?_
    refine g_calli (g_runV (As := [.int (iI rr)]) (rest := [.ref mo]) (ci := 7) F hl.1 hH hS hz (c_X7_firstOf l g gh T I R J AI AJ AR mo rr zrr hv hm hT (by omega)) (cwV 1 F.2.2.2.2.1 (good_up gT_X7_firstOf) rfl rfl rfl hdX7_firstOf ⟨Nat.le_of_ble_eq_true rfl, Nat.le_of_ble_eq_true rfl⟩) hm (by decide) rfl rfl rfl (Nat.le_of_ble_eq_true rfl) dX7_farOf_13 ⟨Nat.zero_le _, Nat.zero_le _⟩) hS (fun v_18 I_12 R_13 J_14 AI_15 AJ_16 AR_17 H locs zv_18 hp_19 hH hS => ?_)
    dsimp only at hp_19
    obtain ⟨rfl, rfl, rfl, rfl, rfl, rfl, q_20⟩ := hp_19
    refine g_calli (g_runV (As := [.int (iI v_18)]) (rest := []) (ci := 7) F hl.1 hH hS hz (c_X7_farOf6 l g gh T I R J AI AJ AR mo v_18 zv_18 hv hm hT (by omega)) (cwV 1 F.2.2.2.2.1 (good_up gT_X7_farOf) rfl rfl rfl hdX7_farOf ⟨Nat.le_of_ble_eq_true rfl, Nat.le_of_ble_eq_true rfl⟩) hm (by decide) rfl rfl rfl (Nat.le_of_ble_eq_true rfl) dX7_farOf_16 ⟨Nat.zero_le _, Nat.zero_le _⟩) hS (fun v_27 I_21 R_22 J_23 AI_24 AJ_25 AR_26 H locs zv_27 hp_28 hH hS => ?_)
    dsimp only at hp_28
    obtain ⟨rfl, rfl, rfl, rfl, rfl, rfl, q_29⟩ := hp_28
    refine lv_istore_n (lv' := [(2, .int (iI v_27)), (0, .ref mo), (1, .int (iI rr))]) F.1 F.2.1 dX7_farOf_19 rfl hl (by decide) rfl (fun ls hl => ?_)
    refine lv_aload_n F.1 F.2.1 dX7_farOf_20 rfl (lv_at hl 1 rfl) ?_
    refine lv_iload_n F.1 F.2.1 dX7_farOf_21 rfl (lv_at hl 2 rfl) ?_
    refine g_calli (g_runV (As := [.int (iI rr)]) (rest := []) (ci := 7) F hl.1 hH hS hz (c_X7_secondOf l g gh T I R J AI AJ AR mo rr zrr hv hm hT (by omega)) (cwV 1 F.2.2.2.2.1 (good_up gT_X7_secondOf) rfl rfl rfl hdX7_secondOf ⟨Nat.le_of_ble_eq_true rfl, Nat.le_of_ble_eq_true rfl⟩) hm (by decide) rfl rfl rfl (Nat.le_of_ble_eq_true rfl) dX7_farOf_22 ⟨Nat.zero_le _, Nat.zero_le _⟩) hS (fun v_36 I_30 R_31 J_32 AI_33 AJ_34 AR_35 H locs zv_36 hp_37 hH hS => ?_)
    dsimp only at hp_37
    obtain ⟨rfl, rfl, rfl, rfl, rfl, rfl, q_38⟩ := hp_37
    refine z_if_ge (tgt := 32) F dX7_farOf_25 (by decide) zv_36 (fun c_39 => ?_) (fun c_39 => ?_)
    · refine lv_aload_n F.1 F.2.1 dX7_farOf_32 rfl (lv_at hl 1 rfl) ?_
      refine lv_aload_n F.1 F.2.1 dX7_farOf_33 rfl (lv_at hl 1 rfl) ?_
      refine lv_iload_n F.1 F.2.1 dX7_farOf_34 rfl (lv_at hl 2 rfl) ?_
      refine g_calli (g_runV (As := [.int (iI rr)]) (rest := [.ref mo]) (ci := 7) F hl.1 hH hS hz (c_X7_secondOf l g gh T I R J AI AJ AR mo rr zrr hv hm hT (by omega)) (cwV 1 F.2.2.2.2.1 (good_up gT_X7_secondOf) rfl rfl rfl hdX7_secondOf ⟨Nat.le_of_ble_eq_true rfl, Nat.le_of_ble_eq_true rfl⟩) hm (by decide) rfl rfl rfl (Nat.le_of_ble_eq_true rfl) dX7_farOf_35 ⟨Nat.zero_le _, Nat.zero_le _⟩) hS (fun v_46 I_40 R_41 J_42 AI_43 AJ_44 AR_45 H locs zv_46 hp_47 hH hS => ?_)
      dsimp only at hp_47
      obtain ⟨rfl, rfl, rfl, rfl, rfl, rfl, q_48⟩ := hp_47
      refine g_calli (g_runV (As := [.int (iI v_46)]) (rest := []) (ci := 7) F hl.1 hH hS hz (c_X7_farOf6 l g gh T I R J AI AJ AR mo v_46 zv_46 hv hm hT (by omega)) (cwV 1 F.2.2.2.2.1 (good_up gT_X7_farOf) rfl rfl rfl hdX7_farOf ⟨Nat.le_of_ble_eq_true rfl, Nat.le_of_ble_eq_true rfl⟩) hm (by decide) rfl rfl rfl (Nat.le_of_ble_eq_true rfl) dX7_farOf_38 ⟨Nat.zero_le _, Nat.zero_le _⟩) hS (fun v_55 I_49 R_50 J_51 AI_52 AJ_53 AR_54 H locs zv_55 hp_56 hH hS => ?_)
      dsimp only at hp_56
      obtain ⟨rfl, rfl, rfl, rfl, rfl, rfl, q_57⟩ := hp_56
      refine lv_istore_n (lv' := [(3, .int (iI v_55)), (2, .int (iI v_27)), (0, .ref mo), (1, .int (iI rr))]) F.1 F.2.1 dX7_farOf_41 rfl hl (by decide) rfl (fun ls hl => ?_)
      refine z_iconst F dX7_farOf_42 ?_
      refine lv_iload_n F.1 F.2.1 dX7_farOf_43 rfl (lv_at hl 1 rfl) ?_
      refine lv_iload_n F.1 F.2.1 dX7_farOf_44 rfl (lv_at hl 0 rfl) ?_
      refine z_icmp_le (tgt := 52) F dX7_farOf_45 (by decide) zv_27 zv_55 (fun c_58 => ?_) (fun c_58 => ?_)
      · refine lv_iload_n F.1 F.2.1 dX7_farOf_52 rfl (lv_at hl 0 rfl) ?_
        refine z_iadd F dX7_farOf_53 ?_
        exact g_iret F hr hlk hH hS hz ⟨by omega, by omega⟩ ⟨rfl, rfl, rfl, rfl, rfl, rfl, by first | omega | rfl | (dsimp only; omega)⟩ dX7_farOf_54
      · refine lv_iload_n F.1 F.2.1 dX7_farOf_48 rfl (lv_at hl 1 rfl) ?_
        refine z_goto (tgt := 53) F dX7_farOf_49 (by decide) ?_
        refine z_iadd F dX7_farOf_53 ?_
        exact g_iret F hr hlk hH hS hz ⟨by omega, by omega⟩ ⟨rfl, rfl, rfl, rfl, rfl, rfl, by first | omega | rfl | (dsimp only; omega)⟩ dX7_farOf_54
    · refine z_iconst F dX7_farOf_28 ?_
      refine z_goto (tgt := 41) F dX7_farOf_29 (by decide) ?_
      refine lv_istore_n (lv' := [(3, .int (iI 0)), (2, .int (iI v_27)), (0, .ref mo), (1, .int (iI rr))]) F.1 F.2.1 dX7_farOf_41 rfl hl (by decide) rfl (fun ls hl => ?_)
      refine z_iconst F dX7_farOf_42 ?_
      refine lv_iload_n F.1 F.2.1 dX7_farOf_43 rfl (lv_at hl 1 rfl) ?_
      refine lv_iload_n F.1 F.2.1 dX7_farOf_44 rfl (lv_at hl 0 rfl) ?_
      refine z_icmp_le (tgt := 52) F dX7_farOf_45 (by decide) zv_27 ⟨by decide, by decide⟩ (fun c_59 => ?_) (fun c_59 => ?_)
      · refine lv_iload_n F.1 F.2.1 dX7_farOf_52 rfl (lv_at hl 0 rfl) ?_
        refine z_iadd F dX7_farOf_53 ?_
        exact g_iret F hr hlk hH hS hz ⟨by omega, by omega⟩ ⟨rfl, rfl, rfl, rfl, rfl, rfl, by first | omega | rfl | (dsimp only; omega)⟩ dX7_farOf_54
      · refine lv_iload_n F.1 F.2.1 dX7_farOf_48 rfl (lv_at hl 1 rfl) ?_
        refine z_goto (tgt := 53) F dX7_farOf_49 (by decide) ?_
        refine z_iadd F dX7_farOf_53 ?_
        exact g_iret F hr hlk hH hS hz ⟨by omega, by omega⟩ ⟨rfl, rfl, rfl, rfl, rfl, rfl, by first | omega | rfl | (dsimp only; omega)⟩ dX7_farOf_54
  · refine z_iconst F dX7_farOf_8 ?_
    exact g_iret F hr hlk hH hS hz ⟨by decide, by decide⟩ ⟨rfl, rfl, rfl, rfl, rfl, rfl, by first | omega | rfl | (dsimp only; omega)⟩ dX7_farOf_9

def rmX7_farOf8 : Room := { frames := 8, cells := 0, slots := 0, locals := 182 }
set_option maxHeartbeats 4000000 in
set_option maxRecDepth 100000 in
/-- farOf -/
theorem c_X7_farOf8 (l : Launch) (g : gG) (gh : gGh) (T : Nat → Int32) (I : gI) (R : gR) (J : gJ) (AI : gI) (AJ : gJ) (AR : gR) (mo : Nat) (rr : Int) (zrr : zr rr) (hv : mInv g gh R I AI) (hm : gO g mo 7) (hT : AI (gh 50 0) = T) (hr0 : 0 ≤ rr ∧ rr < (I mo 2).toInt ∧ rr < 8) : gMet l g yX7_farOf tsX7_farOf rmX7_farOf8 [.ref mo, .int (iI rr)] (I, R, J, AI, AJ, AR) (gQi g (fun (z : Int) (w : gS) => I = w.1 ∧ R = w.2.1 ∧ J = w.2.2.1 ∧ AI = w.2.2.2.1 ∧ AJ = w.2.2.2.2.1 ∧ AR = w.2.2.2.2.2 ∧ (0 ≤ z ∧ z ≤ 8))) := by
  refine gStart (cc := cX7_farOf) (maxL := 4) (ret := (some (.int))) (by decide) rfl (Nat.le_of_ble_eq_true rfl) ?_
  intro p e s m below meth c ls F hr hlk hH hz hS hl
  have hl : lv_has ls 4 [(0, .ref mo), (1, .int (iI rr))] := hl
  have hS : va_S (gA g) s.heap s.heap [] := hS
  obtain ⟨H, hHe⟩ : ∃ H : Heap, H = s.heap := ⟨_, rfl⟩
  obtain ⟨locs, hlo⟩ : ∃ k : List Loc, k = [] := ⟨_, rfl⟩
  have hH : gH g I R J AI AJ AR H := by rw [hHe]; exact hH
  have hS : va_S (gA g) s.heap H locs := by rw [hHe, hlo]; exact hS
  suffices hw : W p l e rmX7_farOf8 s m ([.ref mo, .int (iI rr)] : List Value).toArray below meth c H locs 0 0 (MQ below (gQi g (fun (z : Int) (w : gS) => I = w.1 ∧ R = w.2.1 ∧ J = w.2.2.1 ∧ AI = w.2.2.2.1 ∧ AJ = w.2.2.2.2.1 ∧ AR = w.2.2.2.2.2 ∧ (0 ≤ z ∧ z ≤ 8))) ([.ref mo, .int (iI rr)] : List Value).toArray s 0 0 (gA g)) (F0 m 0 ls []) by
    rw [hHe, hlo] at hw; exact hw
  clear hHe hlo
  have hb0 := mJ hv hm
  unfold mNum1 at hb0
  have x := mRow hv hm hT (z := rr) (by omega) (by omega)
  have xa := x.1
  have xc := x.2.2.1
  have xb := x.2.1
  refine lv_aload_n F.1 F.2.1 dX7_farOf_0 rfl (lv_at hl 0 rfl) ?_
  refine lv_iload_n F.1 F.2.1 dX7_farOf_1 rfl (lv_at hl 1 rfl) ?_
  have b_1 := mJ hv hm
  unfold mNum1 at b_1
  refine g_calli (g_runV (As := [.int (iI rr)]) (rest := []) (ci := 7) F hl.1 hH hS hz (c_X7_kindOf l g gh T I R J AI AJ AR mo rr zrr hv hm hT (by omega)) (cwV 1 F.2.2.2.2.1 (good_up gT_X7_kindOf) rfl rfl rfl hdX7_kindOf ⟨Nat.le_of_ble_eq_true rfl, Nat.le_of_ble_eq_true rfl⟩) hm (by decide) rfl rfl rfl (Nat.le_of_ble_eq_true rfl) dX7_farOf_2 ⟨Nat.zero_le _, Nat.zero_le _⟩) hS (fun v_8 I_2 R_3 J_4 AI_5 AJ_6 AR_7 H locs zv_8 hp_9 hH hS => ?_)
  dsimp only at hp_9
  obtain ⟨rfl, rfl, rfl, rfl, rfl, rfl, q_10⟩ := hp_9
  refine z_if_ne (tgt := 10) F dX7_farOf_5 (by decide) zv_8 (fun c_11 => ?_) (fun c_11 => ?_)
  · refine lv_aload_n F.1 F.2.1 dX7_farOf_10 rfl (lv_at hl 0 rfl) ?_
    refine lv_aload_n F.1 F.2.1 dX7_farOf_11 rfl (lv_at hl 0 rfl) ?_
    refine lv_iload_n F.1 F.2.1 dX7_farOf_12 rfl (lv_at hl 1 rfl) ?_
    refine g_calli (g_runV (As := [.int (iI rr)]) (rest := [.ref mo]) (ci := 7) F hl.1 hH hS hz (c_X7_firstOf l g gh T I R J AI AJ AR mo rr zrr hv hm hT (by omega)) (cwV 1 F.2.2.2.2.1 (good_up gT_X7_firstOf) rfl rfl rfl hdX7_firstOf ⟨Nat.le_of_ble_eq_true rfl, Nat.le_of_ble_eq_true rfl⟩) hm (by decide) rfl rfl rfl (Nat.le_of_ble_eq_true rfl) dX7_farOf_13 ⟨Nat.zero_le _, Nat.zero_le _⟩) hS (fun v_18 I_12 R_13 J_14 AI_15 AJ_16 AR_17 H locs zv_18 hp_19 hH hS => ?_)
    dsimp only at hp_19
    obtain ⟨rfl, rfl, rfl, rfl, rfl, rfl, q_20⟩ := hp_19
    refine g_calli (g_runV (As := [.int (iI v_18)]) (rest := []) (ci := 7) F hl.1 hH hS hz (c_X7_farOf7 l g gh T I R J AI AJ AR mo v_18 zv_18 hv hm hT (by omega)) (cwV 1 F.2.2.2.2.1 (good_up gT_X7_farOf) rfl rfl rfl hdX7_farOf ⟨Nat.le_of_ble_eq_true rfl, Nat.le_of_ble_eq_true rfl⟩) hm (by decide) rfl rfl rfl (Nat.le_of_ble_eq_true rfl) dX7_farOf_16 ⟨Nat.zero_le _, Nat.zero_le _⟩) hS (fun v_27 I_21 R_22 J_23 AI_24 AJ_25 AR_26 H locs zv_27 hp_28 hH hS => ?_)
    dsimp only at hp_28
    obtain ⟨rfl, rfl, rfl, rfl, rfl, rfl, q_29⟩ := hp_28
    refine lv_istore_n (lv' := [(2, .int (iI v_27)), (0, .ref mo), (1, .int (iI rr))]) F.1 F.2.1 dX7_farOf_19 rfl hl (by decide) rfl (fun ls hl => ?_)
    refine lv_aload_n F.1 F.2.1 dX7_farOf_20 rfl (lv_at hl 1 rfl) ?_
    refine lv_iload_n F.1 F.2.1 dX7_farOf_21 rfl (lv_at hl 2 rfl) ?_
    refine g_calli (g_runV (As := [.int (iI rr)]) (rest := []) (ci := 7) F hl.1 hH hS hz (c_X7_secondOf l g gh T I R J AI AJ AR mo rr zrr hv hm hT (by omega)) (cwV 1 F.2.2.2.2.1 (good_up gT_X7_secondOf) rfl rfl rfl hdX7_secondOf ⟨Nat.le_of_ble_eq_true rfl, Nat.le_of_ble_eq_true rfl⟩) hm (by decide) rfl rfl rfl (Nat.le_of_ble_eq_true rfl) dX7_farOf_22 ⟨Nat.zero_le _, Nat.zero_le _⟩) hS (fun v_36 I_30 R_31 J_32 AI_33 AJ_34 AR_35 H locs zv_36 hp_37 hH hS => ?_)
    dsimp only at hp_37
    obtain ⟨rfl, rfl, rfl, rfl, rfl, rfl, q_38⟩ := hp_37
    refine z_if_ge (tgt := 32) F dX7_farOf_25 (by decide) zv_36 (fun c_39 => ?_) (fun c_39 => ?_)
    · refine lv_aload_n F.1 F.2.1 dX7_farOf_32 rfl (lv_at hl 1 rfl) ?_
      refine lv_aload_n F.1 F.2.1 dX7_farOf_33 rfl (lv_at hl 1 rfl) ?_
      refine lv_iload_n F.1 F.2.1 dX7_farOf_34 rfl (lv_at hl 2 rfl) ?_
      refine g_calli (g_runV (As := [.int (iI rr)]) (rest := [.ref mo]) (ci := 7) F hl.1 hH hS hz (c_X7_secondOf l g gh T I R J AI AJ AR mo rr zrr hv hm hT (by omega)) (cwV 1 F.2.2.2.2.1 (good_up gT_X7_secondOf) rfl rfl rfl hdX7_secondOf ⟨Nat.le_of_ble_eq_true rfl, Nat.le_of_ble_eq_true rfl⟩) hm (by decide) rfl rfl rfl (Nat.le_of_ble_eq_true rfl) dX7_farOf_35 ⟨Nat.zero_le _, Nat.zero_le _⟩) hS (fun v_46 I_40 R_41 J_42 AI_43 AJ_44 AR_45 H locs zv_46 hp_47 hH hS => ?_)
      dsimp only at hp_47
      obtain ⟨rfl, rfl, rfl, rfl, rfl, rfl, q_48⟩ := hp_47
      refine g_calli (g_runV (As := [.int (iI v_46)]) (rest := []) (ci := 7) F hl.1 hH hS hz (c_X7_farOf7 l g gh T I R J AI AJ AR mo v_46 zv_46 hv hm hT (by omega)) (cwV 1 F.2.2.2.2.1 (good_up gT_X7_farOf) rfl rfl rfl hdX7_farOf ⟨Nat.le_of_ble_eq_true rfl, Nat.le_of_ble_eq_true rfl⟩) hm (by decide) rfl rfl rfl (Nat.le_of_ble_eq_true rfl) dX7_farOf_38 ⟨Nat.zero_le _, Nat.zero_le _⟩) hS (fun v_55 I_49 R_50 J_51 AI_52 AJ_53 AR_54 H locs zv_55 hp_56 hH hS => ?_)
      dsimp only at hp_56
      obtain ⟨rfl, rfl, rfl, rfl, rfl, rfl, q_57⟩ := hp_56
      refine lv_istore_n (lv' := [(3, .int (iI v_55)), (2, .int (iI v_27)), (0, .ref mo), (1, .int (iI rr))]) F.1 F.2.1 dX7_farOf_41 rfl hl (by decide) rfl (fun ls hl => ?_)
      refine z_iconst F dX7_farOf_42 ?_
      refine lv_iload_n F.1 F.2.1 dX7_farOf_43 rfl (lv_at hl 1 rfl) ?_
      refine lv_iload_n F.1 F.2.1 dX7_farOf_44 rfl (lv_at hl 0 rfl) ?_
      refine z_icmp_le (tgt := 52) F dX7_farOf_45 (by decide) zv_27 zv_55 (fun c_58 => ?_) (fun c_58 => ?_)
      · refine lv_iload_n F.1 F.2.1 dX7_farOf_52 rfl (lv_at hl 0 rfl) ?_
        refine z_iadd F dX7_farOf_53 ?_
        exact g_iret F hr hlk hH hS hz ⟨by omega, by omega⟩ ⟨rfl, rfl, rfl, rfl, rfl, rfl, by first | omega | rfl | (dsimp only; omega)⟩ dX7_farOf_54
      · refine lv_iload_n F.1 F.2.1 dX7_farOf_48 rfl (lv_at hl 1 rfl) ?_
        refine z_goto (tgt := 53) F dX7_farOf_49 (by decide) ?_
        refine z_iadd F dX7_farOf_53 ?_
        exact g_iret F hr hlk hH hS hz ⟨by omega, by omega⟩ ⟨rfl, rfl, rfl, rfl, rfl, rfl, by first | omega | rfl | (dsimp only; omega)⟩ dX7_farOf_54
    · refine z_iconst F dX7_farOf_28 ?_
      refine z_goto (tgt := 41) F dX7_farOf_29 (by decide) ?_
      refine lv_istore_n (lv' := [(3, .int (iI 0)), (2, .int (iI v_27)), (0, .ref mo), (1, .int (iI rr))]) F.1 F.2.1 dX7_farOf_41 rfl hl (by decide) rfl (fun ls hl => ?_)
      refine z_iconst F dX7_farOf_42 ?_
      refine lv_iload_n F.1 F.2.1 dX7_farOf_43 rfl (lv_at hl 1 rfl) ?_
      refine lv_iload_n F.1 F.2.1 dX7_farOf_44 rfl (lv_at hl 0 rfl) ?_
      refine z_icmp_le (tgt := 52) F dX7_farOf_45 (by decide) zv_27 ⟨by decide, by decide⟩ (fun c_59 => ?_) (fun c_59 => ?_)
      · refine lv_iload_n F.1 F.2.1 dX7_farOf_52 rfl (lv_at hl 0 rfl) ?_
        refine z_iadd F dX7_farOf_53 ?_
        exact g_iret F hr hlk hH hS hz ⟨by omega, by omega⟩ ⟨rfl, rfl, rfl, rfl, rfl, rfl, by first | omega | rfl | (dsimp only; omega)⟩ dX7_farOf_54
      · refine lv_iload_n F.1 F.2.1 dX7_farOf_48 rfl (lv_at hl 1 rfl) ?_
        refine z_goto (tgt := 53) F dX7_farOf_49 (by decide) ?_
        refine z_iadd F dX7_farOf_53 ?_
        exact g_iret F hr hlk hH hS hz ⟨by omega, by omega⟩ ⟨rfl, rfl, rfl, rfl, rfl, rfl, by first | omega | rfl | (dsimp only; omega)⟩ dX7_farOf_54
  · refine z_iconst F dX7_farOf_8 ?_
    exact g_iret F hr hlk hH hS hz ⟨by decide, by decide⟩ ⟨rfl, rfl, rfl, rfl, rfl, rfl, by first | omega | rfl | (dsimp only; omega)⟩ dX7_farOf_9

def rmX7_farOf9 : Room := { frames := 9, cells := 0, slots := 0, locals := 205 }
set_option maxHeartbeats 4000000 in
set_option maxRecDepth 100000 in
/-- farOf -/
theorem c_X7_farOf9 (l : Launch) (g : gG) (gh : gGh) (T : Nat → Int32) (I : gI) (R : gR) (J : gJ) (AI : gI) (AJ : gJ) (AR : gR) (mo : Nat) (rr : Int) (zrr : zr rr) (hv : mInv g gh R I AI) (hm : gO g mo 7) (hT : AI (gh 50 0) = T) (hr0 : 0 ≤ rr ∧ rr < (I mo 2).toInt ∧ rr < 9) : gMet l g yX7_farOf tsX7_farOf rmX7_farOf9 [.ref mo, .int (iI rr)] (I, R, J, AI, AJ, AR) (gQi g (fun (z : Int) (w : gS) => I = w.1 ∧ R = w.2.1 ∧ J = w.2.2.1 ∧ AI = w.2.2.2.1 ∧ AJ = w.2.2.2.2.1 ∧ AR = w.2.2.2.2.2 ∧ (0 ≤ z ∧ z ≤ 9))) := by
  refine gStart (cc := cX7_farOf) (maxL := 4) (ret := (some (.int))) (by decide) rfl (Nat.le_of_ble_eq_true rfl) ?_
  intro p e s m below meth c ls F hr hlk hH hz hS hl
  have hl : lv_has ls 4 [(0, .ref mo), (1, .int (iI rr))] := hl
  have hS : va_S (gA g) s.heap s.heap [] := hS
  obtain ⟨H, hHe⟩ : ∃ H : Heap, H = s.heap := ⟨_, rfl⟩
  obtain ⟨locs, hlo⟩ : ∃ k : List Loc, k = [] := ⟨_, rfl⟩
  have hH : gH g I R J AI AJ AR H := by rw [hHe]; exact hH
  have hS : va_S (gA g) s.heap H locs := by rw [hHe, hlo]; exact hS
  suffices hw : W p l e rmX7_farOf9 s m ([.ref mo, .int (iI rr)] : List Value).toArray below meth c H locs 0 0 (MQ below (gQi g (fun (z : Int) (w : gS) => I = w.1 ∧ R = w.2.1 ∧ J = w.2.2.1 ∧ AI = w.2.2.2.1 ∧ AJ = w.2.2.2.2.1 ∧ AR = w.2.2.2.2.2 ∧ (0 ≤ z ∧ z ≤ 9))) ([.ref mo, .int (iI rr)] : List Value).toArray s 0 0 (gA g)) (F0 m 0 ls []) by
    rw [hHe, hlo] at hw; exact hw
  clear hHe hlo
  have hb0 := mJ hv hm
  unfold mNum1 at hb0
  have x := mRow hv hm hT (z := rr) (by omega) (by omega)
  have xa := x.1
  have xc := x.2.2.1
  have xb := x.2.1
  refine lv_aload_n F.1 F.2.1 dX7_farOf_0 rfl (lv_at hl 0 rfl) ?_
  refine lv_iload_n F.1 F.2.1 dX7_farOf_1 rfl (lv_at hl 1 rfl) ?_
  have b_1 := mJ hv hm
  unfold mNum1 at b_1
  refine g_calli (g_runV (As := [.int (iI rr)]) (rest := []) (ci := 7) F hl.1 hH hS hz (c_X7_kindOf l g gh T I R J AI AJ AR mo rr zrr hv hm hT (by omega)) (cwV 1 F.2.2.2.2.1 (good_up gT_X7_kindOf) rfl rfl rfl hdX7_kindOf ⟨Nat.le_of_ble_eq_true rfl, Nat.le_of_ble_eq_true rfl⟩) hm (by decide) rfl rfl rfl (Nat.le_of_ble_eq_true rfl) dX7_farOf_2 ⟨Nat.zero_le _, Nat.zero_le _⟩) hS (fun v_8 I_2 R_3 J_4 AI_5 AJ_6 AR_7 H locs zv_8 hp_9 hH hS => ?_)
  dsimp only at hp_9
  obtain ⟨rfl, rfl, rfl, rfl, rfl, rfl, q_10⟩ := hp_9
  refine z_if_ne (tgt := 10) F dX7_farOf_5 (by decide) zv_8 (fun c_11 => ?_) (fun c_11 => ?_)
  · refine lv_aload_n F.1 F.2.1 dX7_farOf_10 rfl (lv_at hl 0 rfl) ?_
    refine lv_aload_n F.1 F.2.1 dX7_farOf_11 rfl (lv_at hl 0 rfl) ?_
    refine lv_iload_n F.1 F.2.1 dX7_farOf_12 rfl (lv_at hl 1 rfl) ?_
    refine g_calli (g_runV (As := [.int (iI rr)]) (rest := [.ref mo]) (ci := 7) F hl.1 hH hS hz (c_X7_firstOf l g gh T I R J AI AJ AR mo rr zrr hv hm hT (by omega)) (cwV 1 F.2.2.2.2.1 (good_up gT_X7_firstOf) rfl rfl rfl hdX7_firstOf ⟨Nat.le_of_ble_eq_true rfl, Nat.le_of_ble_eq_true rfl⟩) hm (by decide) rfl rfl rfl (Nat.le_of_ble_eq_true rfl) dX7_farOf_13 ⟨Nat.zero_le _, Nat.zero_le _⟩) hS (fun v_18 I_12 R_13 J_14 AI_15 AJ_16 AR_17 H locs zv_18 hp_19 hH hS => ?_)
    dsimp only at hp_19
    obtain ⟨rfl, rfl, rfl, rfl, rfl, rfl, q_20⟩ := hp_19
    refine g_calli (g_runV (As := [.int (iI v_18)]) (rest := []) (ci := 7) F hl.1 hH hS hz (c_X7_farOf8 l g gh T I R J AI AJ AR mo v_18 zv_18 hv hm hT (by omega)) (cwV 1 F.2.2.2.2.1 (good_up gT_X7_farOf) rfl rfl rfl hdX7_farOf ⟨Nat.le_of_ble_eq_true rfl, Nat.le_of_ble_eq_true rfl⟩) hm (by decide) rfl rfl rfl (Nat.le_of_ble_eq_true rfl) dX7_farOf_16 ⟨Nat.zero_le _, Nat.zero_le _⟩) hS (fun v_27 I_21 R_22 J_23 AI_24 AJ_25 AR_26 H locs zv_27 hp_28 hH hS => ?_)
    dsimp only at hp_28
    obtain ⟨rfl, rfl, rfl, rfl, rfl, rfl, q_29⟩ := hp_28
    refine lv_istore_n (lv' := [(2, .int (iI v_27)), (0, .ref mo), (1, .int (iI rr))]) F.1 F.2.1 dX7_farOf_19 rfl hl (by decide) rfl (fun ls hl => ?_)
    refine lv_aload_n F.1 F.2.1 dX7_farOf_20 rfl (lv_at hl 1 rfl) ?_
    refine lv_iload_n F.1 F.2.1 dX7_farOf_21 rfl (lv_at hl 2 rfl) ?_
    refine g_calli (g_runV (As := [.int (iI rr)]) (rest := []) (ci := 7) F hl.1 hH hS hz (c_X7_secondOf l g gh T I R J AI AJ AR mo rr zrr hv hm hT (by omega)) (cwV 1 F.2.2.2.2.1 (good_up gT_X7_secondOf) rfl rfl rfl hdX7_secondOf ⟨Nat.le_of_ble_eq_true rfl, Nat.le_of_ble_eq_true rfl⟩) hm (by decide) rfl rfl rfl (Nat.le_of_ble_eq_true rfl) dX7_farOf_22 ⟨Nat.zero_le _, Nat.zero_le _⟩) hS (fun v_36 I_30 R_31 J_32 AI_33 AJ_34 AR_35 H locs zv_36 hp_37 hH hS => ?_)
    dsimp only at hp_37
    obtain ⟨rfl, rfl, rfl, rfl, rfl, rfl, q_38⟩ := hp_37
    refine z_if_ge (tgt := 32) F dX7_farOf_25 (by decide) zv_36 (fun c_39 => ?_) (fun c_39 => ?_)
    · refine lv_aload_n F.1 F.2.1 dX7_farOf_32 rfl (lv_at hl 1 rfl) ?_
      refine lv_aload_n F.1 F.2.1 dX7_farOf_33 rfl (lv_at hl 1 rfl) ?_
      refine lv_iload_n F.1 F.2.1 dX7_farOf_34 rfl (lv_at hl 2 rfl) ?_
      refine g_calli (g_runV (As := [.int (iI rr)]) (rest := [.ref mo]) (ci := 7) F hl.1 hH hS hz (c_X7_secondOf l g gh T I R J AI AJ AR mo rr zrr hv hm hT (by omega)) (cwV 1 F.2.2.2.2.1 (good_up gT_X7_secondOf) rfl rfl rfl hdX7_secondOf ⟨Nat.le_of_ble_eq_true rfl, Nat.le_of_ble_eq_true rfl⟩) hm (by decide) rfl rfl rfl (Nat.le_of_ble_eq_true rfl) dX7_farOf_35 ⟨Nat.zero_le _, Nat.zero_le _⟩) hS (fun v_46 I_40 R_41 J_42 AI_43 AJ_44 AR_45 H locs zv_46 hp_47 hH hS => ?_)
      dsimp only at hp_47
      obtain ⟨rfl, rfl, rfl, rfl, rfl, rfl, q_48⟩ := hp_47
      refine g_calli (g_runV (As := [.int (iI v_46)]) (rest := []) (ci := 7) F hl.1 hH hS hz (c_X7_farOf8 l g gh T I R J AI AJ AR mo v_46 zv_46 hv hm hT (by omega)) (cwV 1 F.2.2.2.2.1 (good_up gT_X7_farOf) rfl rfl rfl hdX7_farOf ⟨Nat.le_of_ble_eq_true rfl, Nat.le_of_ble_eq_true rfl⟩) hm (by decide) rfl rfl rfl (Nat.le_of_ble_eq_true rfl) dX7_farOf_38 ⟨Nat.zero_le _, Nat.zero_le _⟩) hS (fun v_55 I_49 R_50 J_51 AI_52 AJ_53 AR_54 H locs zv_55 hp_56 hH hS => ?_)
      dsimp only at hp_56
      obtain ⟨rfl, rfl, rfl, rfl, rfl, rfl, q_57⟩ := hp_56
      refine lv_istore_n (lv' := [(3, .int (iI v_55)), (2, .int (iI v_27)), (0, .ref mo), (1, .int (iI rr))]) F.1 F.2.1 dX7_farOf_41 rfl hl (by decide) rfl (fun ls hl => ?_)
      refine z_iconst F dX7_farOf_42 ?_
      refine lv_iload_n F.1 F.2.1 dX7_farOf_43 rfl (lv_at hl 1 rfl) ?_
      refine lv_iload_n F.1 F.2.1 dX7_farOf_44 rfl (lv_at hl 0 rfl) ?_
      refine z_icmp_le (tgt := 52) F dX7_farOf_45 (by decide) zv_27 zv_55 (fun c_58 => ?_) (fun c_58 => ?_)
      · refine lv_iload_n F.1 F.2.1 dX7_farOf_52 rfl (lv_at hl 0 rfl) ?_
        refine z_iadd F dX7_farOf_53 ?_
        exact g_iret F hr hlk hH hS hz ⟨by omega, by omega⟩ ⟨rfl, rfl, rfl, rfl, rfl, rfl, by first | omega | rfl | (dsimp only; omega)⟩ dX7_farOf_54
      · refine lv_iload_n F.1 F.2.1 dX7_farOf_48 rfl (lv_at hl 1 rfl) ?_
        refine z_goto (tgt := 53) F dX7_farOf_49 (by decide) ?_
        refine z_iadd F dX7_farOf_53 ?_
        exact g_iret F hr hlk hH hS hz ⟨by omega, by omega⟩ ⟨rfl, rfl, rfl, rfl, rfl, rfl, by first | omega | rfl | (dsimp only; omega)⟩ dX7_farOf_54
    · refine z_iconst F dX7_farOf_28 ?_
      refine z_goto (tgt := 41) F dX7_farOf_29 (by decide) ?_
      refine lv_istore_n (lv' := [(3, .int (iI 0)), (2, .int (iI v_27)), (0, .ref mo), (1, .int (iI rr))]) F.1 F.2.1 dX7_farOf_41 rfl hl (by decide) rfl (fun ls hl => ?_)
      refine z_iconst F dX7_farOf_42 ?_
      refine lv_iload_n F.1 F.2.1 dX7_farOf_43 rfl (lv_at hl 1 rfl) ?_
      refine lv_iload_n F.1 F.2.1 dX7_farOf_44 rfl (lv_at hl 0 rfl) ?_
      refine z_icmp_le (tgt := 52) F dX7_farOf_45 (by decide) zv_27 ⟨by decide, by decide⟩ (fun c_59 => ?_) (fun c_59 => ?_)
      · refine lv_iload_n F.1 F.2.1 dX7_farOf_52 rfl (lv_at hl 0 rfl) ?_
        refine z_iadd F dX7_farOf_53 ?_
        exact g_iret F hr hlk hH hS hz ⟨by omega, by omega⟩ ⟨rfl, rfl, rfl, rfl, rfl, rfl, by first | omega | rfl | (dsimp only; omega)⟩ dX7_farOf_54
      · refine lv_iload_n F.1 F.2.1 dX7_farOf_48 rfl (lv_at hl 1 rfl) ?_
        refine z_goto (tgt := 53) F dX7_farOf_49 (by decide) ?_
        refine z_iadd F dX7_farOf_53 ?_
        exact g_iret F hr hlk hH hS hz ⟨by omega, by omega⟩ ⟨rfl, rfl, rfl, rfl, rfl, rfl, by first | omega | rfl | (dsimp only; omega)⟩ dX7_farOf_54
  · refine z_iconst F dX7_farOf_8 ?_
    exact g_iret F hr hlk hH hS hz ⟨by decide, by decide⟩ ⟨rfl, rfl, rfl, rfl, rfl, rfl, by first | omega | rfl | (dsimp only; omega)⟩ dX7_farOf_9

def rmX7_farOf10 : Room := { frames := 10, cells := 0, slots := 0, locals := 228 }
set_option maxHeartbeats 4000000 in
set_option maxRecDepth 100000 in
/-- farOf -/
theorem c_X7_farOf10 (l : Launch) (g : gG) (gh : gGh) (T : Nat → Int32) (I : gI) (R : gR) (J : gJ) (AI : gI) (AJ : gJ) (AR : gR) (mo : Nat) (rr : Int) (zrr : zr rr) (hv : mInv g gh R I AI) (hm : gO g mo 7) (hT : AI (gh 50 0) = T) (hr0 : 0 ≤ rr ∧ rr < (I mo 2).toInt ∧ rr < 10) : gMet l g yX7_farOf tsX7_farOf rmX7_farOf10 [.ref mo, .int (iI rr)] (I, R, J, AI, AJ, AR) (gQi g (fun (z : Int) (w : gS) => I = w.1 ∧ R = w.2.1 ∧ J = w.2.2.1 ∧ AI = w.2.2.2.1 ∧ AJ = w.2.2.2.2.1 ∧ AR = w.2.2.2.2.2 ∧ (0 ≤ z ∧ z ≤ 10))) := by
  refine gStart (cc := cX7_farOf) (maxL := 4) (ret := (some (.int))) (by decide) rfl (Nat.le_of_ble_eq_true rfl) ?_
  intro p e s m below meth c ls F hr hlk hH hz hS hl
  have hl : lv_has ls 4 [(0, .ref mo), (1, .int (iI rr))] := hl
  have hS : va_S (gA g) s.heap s.heap [] := hS
  obtain ⟨H, hHe⟩ : ∃ H : Heap, H = s.heap := ⟨_, rfl⟩
  obtain ⟨locs, hlo⟩ : ∃ k : List Loc, k = [] := ⟨_, rfl⟩
  have hH : gH g I R J AI AJ AR H := by rw [hHe]; exact hH
  have hS : va_S (gA g) s.heap H locs := by rw [hHe, hlo]; exact hS
  suffices hw : W p l e rmX7_farOf10 s m ([.ref mo, .int (iI rr)] : List Value).toArray below meth c H locs 0 0 (MQ below (gQi g (fun (z : Int) (w : gS) => I = w.1 ∧ R = w.2.1 ∧ J = w.2.2.1 ∧ AI = w.2.2.2.1 ∧ AJ = w.2.2.2.2.1 ∧ AR = w.2.2.2.2.2 ∧ (0 ≤ z ∧ z ≤ 10))) ([.ref mo, .int (iI rr)] : List Value).toArray s 0 0 (gA g)) (F0 m 0 ls []) by
    rw [hHe, hlo] at hw; exact hw
  clear hHe hlo
  have hb0 := mJ hv hm
  unfold mNum1 at hb0
  have x := mRow hv hm hT (z := rr) (by omega) (by omega)
  have xa := x.1
  have xc := x.2.2.1
  have xb := x.2.1
  refine lv_aload_n F.1 F.2.1 dX7_farOf_0 rfl (lv_at hl 0 rfl) ?_
  refine lv_iload_n F.1 F.2.1 dX7_farOf_1 rfl (lv_at hl 1 rfl) ?_
  have b_1 := mJ hv hm
  unfold mNum1 at b_1
  refine g_calli (g_runV (As := [.int (iI rr)]) (rest := []) (ci := 7) F hl.1 hH hS hz (c_X7_kindOf l g gh T I R J AI AJ AR mo rr zrr hv hm hT (by omega)) (cwV 1 F.2.2.2.2.1 (good_up gT_X7_kindOf) rfl rfl rfl hdX7_kindOf ⟨Nat.le_of_ble_eq_true rfl, Nat.le_of_ble_eq_true rfl⟩) hm (by decide) rfl rfl rfl (Nat.le_of_ble_eq_true rfl) dX7_farOf_2 ⟨Nat.zero_le _, Nat.zero_le _⟩) hS (fun v_8 I_2 R_3 J_4 AI_5 AJ_6 AR_7 H locs zv_8 hp_9 hH hS => ?_)
  dsimp only at hp_9
  obtain ⟨rfl, rfl, rfl, rfl, rfl, rfl, q_10⟩ := hp_9
  refine z_if_ne (tgt := 10) F dX7_farOf_5 (by decide) zv_8 (fun c_11 => ?_) (fun c_11 => ?_)
  · refine lv_aload_n F.1 F.2.1 dX7_farOf_10 rfl (lv_at hl 0 rfl) ?_
    refine lv_aload_n F.1 F.2.1 dX7_farOf_11 rfl (lv_at hl 0 rfl) ?_
    refine lv_iload_n F.1 F.2.1 dX7_farOf_12 rfl (lv_at hl 1 rfl) ?_
    refine g_calli (g_runV (As := [.int (iI rr)]) (rest := [.ref mo]) (ci := 7) F hl.1 hH hS hz (c_X7_firstOf l g gh T I R J AI AJ AR mo rr zrr hv hm hT (by omega)) (cwV 1 F.2.2.2.2.1 (good_up gT_X7_firstOf) rfl rfl rfl hdX7_firstOf ⟨Nat.le_of_ble_eq_true rfl, Nat.le_of_ble_eq_true rfl⟩) hm (by decide) rfl rfl rfl (Nat.le_of_ble_eq_true rfl) dX7_farOf_13 ⟨Nat.zero_le _, Nat.zero_le _⟩) hS (fun v_18 I_12 R_13 J_14 AI_15 AJ_16 AR_17 H locs zv_18 hp_19 hH hS => ?_)
    dsimp only at hp_19
    obtain ⟨rfl, rfl, rfl, rfl, rfl, rfl, q_20⟩ := hp_19
    refine g_calli (g_runV (As := [.int (iI v_18)]) (rest := []) (ci := 7) F hl.1 hH hS hz (c_X7_farOf9 l g gh T I R J AI AJ AR mo v_18 zv_18 hv hm hT (by omega)) (cwV 1 F.2.2.2.2.1 (good_up gT_X7_farOf) rfl rfl rfl hdX7_farOf ⟨Nat.le_of_ble_eq_true rfl, Nat.le_of_ble_eq_true rfl⟩) hm (by decide) rfl rfl rfl (Nat.le_of_ble_eq_true rfl) dX7_farOf_16 ⟨Nat.zero_le _, Nat.zero_le _⟩) hS (fun v_27 I_21 R_22 J_23 AI_24 AJ_25 AR_26 H locs zv_27 hp_28 hH hS => ?_)
    dsimp only at hp_28
    obtain ⟨rfl, rfl, rfl, rfl, rfl, rfl, q_29⟩ := hp_28
    refine lv_istore_n (lv' := [(2, .int (iI v_27)), (0, .ref mo), (1, .int (iI rr))]) F.1 F.2.1 dX7_farOf_19 rfl hl (by decide) rfl (fun ls hl => ?_)
    refine lv_aload_n F.1 F.2.1 dX7_farOf_20 rfl (lv_at hl 1 rfl) ?_
    refine lv_iload_n F.1 F.2.1 dX7_farOf_21 rfl (lv_at hl 2 rfl) ?_
    refine g_calli (g_runV (As := [.int (iI rr)]) (rest := []) (ci := 7) F hl.1 hH hS hz (c_X7_secondOf l g gh T I R J AI AJ AR mo rr zrr hv hm hT (by omega)) (cwV 1 F.2.2.2.2.1 (good_up gT_X7_secondOf) rfl rfl rfl hdX7_secondOf ⟨Nat.le_of_ble_eq_true rfl, Nat.le_of_ble_eq_true rfl⟩) hm (by decide) rfl rfl rfl (Nat.le_of_ble_eq_true rfl) dX7_farOf_22 ⟨Nat.zero_le _, Nat.zero_le _⟩) hS (fun v_36 I_30 R_31 J_32 AI_33 AJ_34 AR_35 H locs zv_36 hp_37 hH hS => ?_)
    dsimp only at hp_37
    obtain ⟨rfl, rfl, rfl, rfl, rfl, rfl, q_38⟩ := hp_37
    refine z_if_ge (tgt := 32) F dX7_farOf_25 (by decide) zv_36 (fun c_39 => ?_) (fun c_39 => ?_)
    · refine lv_aload_n F.1 F.2.1 dX7_farOf_32 rfl (lv_at hl 1 rfl) ?_
      refine lv_aload_n F.1 F.2.1 dX7_farOf_33 rfl (lv_at hl 1 rfl) ?_
      refine lv_iload_n F.1 F.2.1 dX7_farOf_34 rfl (lv_at hl 2 rfl) ?_
      refine g_calli (g_runV (As := [.int (iI rr)]) (rest := [.ref mo]) (ci := 7) F hl.1 hH hS hz (c_X7_secondOf l g gh T I R J AI AJ AR mo rr zrr hv hm hT (by omega)) (cwV 1 F.2.2.2.2.1 (good_up gT_X7_secondOf) rfl rfl rfl hdX7_secondOf ⟨Nat.le_of_ble_eq_true rfl, Nat.le_of_ble_eq_true rfl⟩) hm (by decide) rfl rfl rfl (Nat.le_of_ble_eq_true rfl) dX7_farOf_35 ⟨Nat.zero_le _, Nat.zero_le _⟩) hS (fun v_46 I_40 R_41 J_42 AI_43 AJ_44 AR_45 H locs zv_46 hp_47 hH hS => ?_)
      dsimp only at hp_47
      obtain ⟨rfl, rfl, rfl, rfl, rfl, rfl, q_48⟩ := hp_47
      refine g_calli (g_runV (As := [.int (iI v_46)]) (rest := []) (ci := 7) F hl.1 hH hS hz (c_X7_farOf9 l g gh T I R J AI AJ AR mo v_46 zv_46 hv hm hT (by omega)) (cwV 1 F.2.2.2.2.1 (good_up gT_X7_farOf) rfl rfl rfl hdX7_farOf ⟨Nat.le_of_ble_eq_true rfl, Nat.le_of_ble_eq_true rfl⟩) hm (by decide) rfl rfl rfl (Nat.le_of_ble_eq_true rfl) dX7_farOf_38 ⟨Nat.zero_le _, Nat.zero_le _⟩) hS (fun v_55 I_49 R_50 J_51 AI_52 AJ_53 AR_54 H locs zv_55 hp_56 hH hS => ?_)
      dsimp only at hp_56
      obtain ⟨rfl, rfl, rfl, rfl, rfl, rfl, q_57⟩ := hp_56
      refine lv_istore_n (lv' := [(3, .int (iI v_55)), (2, .int (iI v_27)), (0, .ref mo), (1, .int (iI rr))]) F.1 F.2.1 dX7_farOf_41 rfl hl (by decide) rfl (fun ls hl => ?_)
      refine z_iconst F dX7_farOf_42 ?_
      refine lv_iload_n F.1 F.2.1 dX7_farOf_43 rfl (lv_at hl 1 rfl) ?_
      refine lv_iload_n F.1 F.2.1 dX7_farOf_44 rfl (lv_at hl 0 rfl) ?_
      refine z_icmp_le (tgt := 52) F dX7_farOf_45 (by decide) zv_27 zv_55 (fun c_58 => ?_) (fun c_58 => ?_)
      · refine lv_iload_n F.1 F.2.1 dX7_farOf_52 rfl (lv_at hl 0 rfl) ?_
        refine z_iadd F dX7_farOf_53 ?_
        exact g_iret F hr hlk hH hS hz ⟨by omega, by omega⟩ ⟨rfl, rfl, rfl, rfl, rfl, rfl, by first | omega | rfl | (dsimp only; omega)⟩ dX7_farOf_54
      · refine lv_iload_n F.1 F.2.1 dX7_farOf_48 rfl (lv_at hl 1 rfl) ?_
        refine z_goto (tgt := 53) F dX7_farOf_49 (by decide) ?_
        refine z_iadd F dX7_farOf_53 ?_
        exact g_iret F hr hlk hH hS hz ⟨by omega, by omega⟩ ⟨rfl, rfl, rfl, rfl, rfl, rfl, by first | omega | rfl | (dsimp only; omega)⟩ dX7_farOf_54
    · refine z_iconst F dX7_farOf_28 ?_
      refine z_goto (tgt := 41) F dX7_farOf_29 (by decide) ?_
      refine lv_istore_n (lv' := [(3, .int (iI 0)), (2, .int (iI v_27)), (0, .ref mo), (1, .int (iI rr))]) F.1 F.2.1 dX7_farOf_41 rfl hl (by decide) rfl (fun ls hl => ?_)
      refine z_iconst F dX7_farOf_42 ?_
      refine lv_iload_n F.1 F.2.1 dX7_farOf_43 rfl (lv_at hl 1 rfl) ?_
      refine lv_iload_n F.1 F.2.1 dX7_farOf_44 rfl (lv_at hl 0 rfl) ?_
      refine z_icmp_le (tgt := 52) F dX7_farOf_45 (by decide) zv_27 ⟨by decide, by decide⟩ (fun c_59 => ?_) (fun c_59 => ?_)
      · refine lv_iload_n F.1 F.2.1 dX7_farOf_52 rfl (lv_at hl 0 rfl) ?_
        refine z_iadd F dX7_farOf_53 ?_
        exact g_iret F hr hlk hH hS hz ⟨by omega, by omega⟩ ⟨rfl, rfl, rfl, rfl, rfl, rfl, by first | omega | rfl | (dsimp only; omega)⟩ dX7_farOf_54
      · refine lv_iload_n F.1 F.2.1 dX7_farOf_48 rfl (lv_at hl 1 rfl) ?_
        refine z_goto (tgt := 53) F dX7_farOf_49 (by decide) ?_
        refine z_iadd F dX7_farOf_53 ?_
        exact g_iret F hr hlk hH hS hz ⟨by omega, by omega⟩ ⟨rfl, rfl, rfl, rfl, rfl, rfl, by first | omega | rfl | (dsimp only; omega)⟩ dX7_farOf_54
  · refine z_iconst F dX7_farOf_8 ?_
    exact g_iret F hr hlk hH hS hz ⟨by decide, by decide⟩ ⟨rfl, rfl, rfl, rfl, rfl, rfl, by first | omega | rfl | (dsimp only; omega)⟩ dX7_farOf_9

def rmX7_farOf11 : Room := { frames := 11, cells := 0, slots := 0, locals := 251 }
set_option maxHeartbeats 4000000 in
set_option maxRecDepth 100000 in
/-- farOf -/
theorem c_X7_farOf11 (l : Launch) (g : gG) (gh : gGh) (T : Nat → Int32) (I : gI) (R : gR) (J : gJ) (AI : gI) (AJ : gJ) (AR : gR) (mo : Nat) (rr : Int) (zrr : zr rr) (hv : mInv g gh R I AI) (hm : gO g mo 7) (hT : AI (gh 50 0) = T) (hr0 : 0 ≤ rr ∧ rr < (I mo 2).toInt ∧ rr < 11) : gMet l g yX7_farOf tsX7_farOf rmX7_farOf11 [.ref mo, .int (iI rr)] (I, R, J, AI, AJ, AR) (gQi g (fun (z : Int) (w : gS) => I = w.1 ∧ R = w.2.1 ∧ J = w.2.2.1 ∧ AI = w.2.2.2.1 ∧ AJ = w.2.2.2.2.1 ∧ AR = w.2.2.2.2.2 ∧ (0 ≤ z ∧ z ≤ 11))) := by
  refine gStart (cc := cX7_farOf) (maxL := 4) (ret := (some (.int))) (by decide) rfl (Nat.le_of_ble_eq_true rfl) ?_
  intro p e s m below meth c ls F hr hlk hH hz hS hl
  have hl : lv_has ls 4 [(0, .ref mo), (1, .int (iI rr))] := hl
  have hS : va_S (gA g) s.heap s.heap [] := hS
  obtain ⟨H, hHe⟩ : ∃ H : Heap, H = s.heap := ⟨_, rfl⟩
  obtain ⟨locs, hlo⟩ : ∃ k : List Loc, k = [] := ⟨_, rfl⟩
  have hH : gH g I R J AI AJ AR H := by rw [hHe]; exact hH
  have hS : va_S (gA g) s.heap H locs := by rw [hHe, hlo]; exact hS
  suffices hw : W p l e rmX7_farOf11 s m ([.ref mo, .int (iI rr)] : List Value).toArray below meth c H locs 0 0 (MQ below (gQi g (fun (z : Int) (w : gS) => I = w.1 ∧ R = w.2.1 ∧ J = w.2.2.1 ∧ AI = w.2.2.2.1 ∧ AJ = w.2.2.2.2.1 ∧ AR = w.2.2.2.2.2 ∧ (0 ≤ z ∧ z ≤ 11))) ([.ref mo, .int (iI rr)] : List Value).toArray s 0 0 (gA g)) (F0 m 0 ls []) by
    rw [hHe, hlo] at hw; exact hw
  clear hHe hlo
  have hb0 := mJ hv hm
  unfold mNum1 at hb0
  have x := mRow hv hm hT (z := rr) (by omega) (by omega)
  have xa := x.1
  have xc := x.2.2.1
  have xb := x.2.1
  refine lv_aload_n F.1 F.2.1 dX7_farOf_0 rfl (lv_at hl 0 rfl) ?_
  refine lv_iload_n F.1 F.2.1 dX7_farOf_1 rfl (lv_at hl 1 rfl) ?_
  have b_1 := mJ hv hm
  unfold mNum1 at b_1
  refine g_calli (g_runV (As := [.int (iI rr)]) (rest := []) (ci := 7) F hl.1 hH hS hz (c_X7_kindOf l g gh T I R J AI AJ AR mo rr zrr hv hm hT (by omega)) (cwV 1 F.2.2.2.2.1 (good_up gT_X7_kindOf) rfl rfl rfl hdX7_kindOf ⟨Nat.le_of_ble_eq_true rfl, Nat.le_of_ble_eq_true rfl⟩) hm (by decide) rfl rfl rfl (Nat.le_of_ble_eq_true rfl) dX7_farOf_2 ⟨Nat.zero_le _, Nat.zero_le _⟩) hS (fun v_8 I_2 R_3 J_4 AI_5 AJ_6 AR_7 H locs zv_8 hp_9 hH hS => ?_)
  dsimp only at hp_9
  obtain ⟨rfl, rfl, rfl, rfl, rfl, rfl, q_10⟩ := hp_9
  refine z_if_ne (tgt := 10) F dX7_farOf_5 (by decide) zv_8 (fun c_11 => ?_) (fun c_11 => ?_)
  · refine lv_aload_n F.1 F.2.1 dX7_farOf_10 rfl (lv_at hl 0 rfl) ?_
    refine lv_aload_n F.1 F.2.1 dX7_farOf_11 rfl (lv_at hl 0 rfl) ?_
    refine lv_iload_n F.1 F.2.1 dX7_farOf_12 rfl (lv_at hl 1 rfl) ?_
    refine g_calli (g_runV (As := [.int (iI rr)]) (rest := [.ref mo]) (ci := 7) F hl.1 hH hS hz (c_X7_firstOf l g gh T I R J AI AJ AR mo rr zrr hv hm hT (by omega)) (cwV 1 F.2.2.2.2.1 (good_up gT_X7_firstOf) rfl rfl rfl hdX7_firstOf ⟨Nat.le_of_ble_eq_true rfl, Nat.le_of_ble_eq_true rfl⟩) hm (by decide) rfl rfl rfl (Nat.le_of_ble_eq_true rfl) dX7_farOf_13 ⟨Nat.zero_le _, Nat.zero_le _⟩) hS (fun v_18 I_12 R_13 J_14 AI_15 AJ_16 AR_17 H locs zv_18 hp_19 hH hS => ?_)
    dsimp only at hp_19
    obtain ⟨rfl, rfl, rfl, rfl, rfl, rfl, q_20⟩ := hp_19
    refine g_calli (g_runV (As := [.int (iI v_18)]) (rest := []) (ci := 7) F hl.1 hH hS hz (c_X7_farOf10 l g gh T I R J AI AJ AR mo v_18 zv_18 hv hm hT (by omega)) (cwV 1 F.2.2.2.2.1 (good_up gT_X7_farOf) rfl rfl rfl hdX7_farOf ⟨Nat.le_of_ble_eq_true rfl, Nat.le_of_ble_eq_true rfl⟩) hm (by decide) rfl rfl rfl (Nat.le_of_ble_eq_true rfl) dX7_farOf_16 ⟨Nat.zero_le _, Nat.zero_le _⟩) hS (fun v_27 I_21 R_22 J_23 AI_24 AJ_25 AR_26 H locs zv_27 hp_28 hH hS => ?_)
    dsimp only at hp_28
    obtain ⟨rfl, rfl, rfl, rfl, rfl, rfl, q_29⟩ := hp_28
    refine lv_istore_n (lv' := [(2, .int (iI v_27)), (0, .ref mo), (1, .int (iI rr))]) F.1 F.2.1 dX7_farOf_19 rfl hl (by decide) rfl (fun ls hl => ?_)
    refine lv_aload_n F.1 F.2.1 dX7_farOf_20 rfl (lv_at hl 1 rfl) ?_
    refine lv_iload_n F.1 F.2.1 dX7_farOf_21 rfl (lv_at hl 2 rfl) ?_
    refine g_calli (g_runV (As := [.int (iI rr)]) (rest := []) (ci := 7) F hl.1 hH hS hz (c_X7_secondOf l g gh T I R J AI AJ AR mo rr zrr hv hm hT (by omega)) (cwV 1 F.2.2.2.2.1 (good_up gT_X7_secondOf) rfl rfl rfl hdX7_secondOf ⟨Nat.le_of_ble_eq_true rfl, Nat.le_of_ble_eq_true rfl⟩) hm (by decide) rfl rfl rfl (Nat.le_of_ble_eq_true rfl) dX7_farOf_22 ⟨Nat.zero_le _, Nat.zero_le _⟩) hS (fun v_36 I_30 R_31 J_32 AI_33 AJ_34 AR_35 H locs zv_36 hp_37 hH hS => ?_)
    dsimp only at hp_37
    obtain ⟨rfl, rfl, rfl, rfl, rfl, rfl, q_38⟩ := hp_37
    refine z_if_ge (tgt := 32) F dX7_farOf_25 (by decide) zv_36 (fun c_39 => ?_) (fun c_39 => ?_)
    · refine lv_aload_n F.1 F.2.1 dX7_farOf_32 rfl (lv_at hl 1 rfl) ?_
      refine lv_aload_n F.1 F.2.1 dX7_farOf_33 rfl (lv_at hl 1 rfl) ?_
      refine lv_iload_n F.1 F.2.1 dX7_farOf_34 rfl (lv_at hl 2 rfl) ?_
      refine g_calli (g_runV (As := [.int (iI rr)]) (rest := [.ref mo]) (ci := 7) F hl.1 hH hS hz (c_X7_secondOf l g gh T I R J AI AJ AR mo rr zrr hv hm hT (by omega)) (cwV 1 F.2.2.2.2.1 (good_up gT_X7_secondOf) rfl rfl rfl hdX7_secondOf ⟨Nat.le_of_ble_eq_true rfl, Nat.le_of_ble_eq_true rfl⟩) hm (by decide) rfl rfl rfl (Nat.le_of_ble_eq_true rfl) dX7_farOf_35 ⟨Nat.zero_le _, Nat.zero_le _⟩) hS (fun v_46 I_40 R_41 J_42 AI_43 AJ_44 AR_45 H locs zv_46 hp_47 hH hS => ?_)
      dsimp only at hp_47
      obtain ⟨rfl, rfl, rfl, rfl, rfl, rfl, q_48⟩ := hp_47
      refine g_calli (g_runV (As := [.int (iI v_46)]) (rest := []) (ci := 7) F hl.1 hH hS hz (c_X7_farOf10 l g gh T I R J AI AJ AR mo v_46 zv_46 hv hm hT (by omega)) (cwV 1 F.2.2.2.2.1 (good_up gT_X7_farOf) rfl rfl rfl hdX7_farOf ⟨Nat.le_of_ble_eq_true rfl, Nat.le_of_ble_eq_true rfl⟩) hm (by decide) rfl rfl rfl (Nat.le_of_ble_eq_true rfl) dX7_farOf_38 ⟨Nat.zero_le _, Nat.zero_le _⟩) hS (fun v_55 I_49 R_50 J_51 AI_52 AJ_53 AR_54 H locs zv_55 hp_56 hH hS => ?_)
      dsimp only at hp_56
      obtain ⟨rfl, rfl, rfl, rfl, rfl, rfl, q_57⟩ := hp_56
      refine lv_istore_n (lv' := [(3, .int (iI v_55)), (2, .int (iI v_27)), (0, .ref mo), (1, .int (iI rr))]) F.1 F.2.1 dX7_farOf_41 rfl hl (by decide) rfl (fun ls hl => ?_)
      refine z_iconst F dX7_farOf_42 ?_
      refine lv_iload_n F.1 F.2.1 dX7_farOf_43 rfl (lv_at hl 1 rfl) ?_
      refine lv_iload_n F.1 F.2.1 dX7_farOf_44 rfl (lv_at hl 0 rfl) ?_
      refine z_icmp_le (tgt := 52) F dX7_farOf_45 (by decide) zv_27 zv_55 (fun c_58 => ?_) (fun c_58 => ?_)
      · refine lv_iload_n F.1 F.2.1 dX7_farOf_52 rfl (lv_at hl 0 rfl) ?_
        refine z_iadd F dX7_farOf_53 ?_
        exact g_iret F hr hlk hH hS hz ⟨by omega, by omega⟩ ⟨rfl, rfl, rfl, rfl, rfl, rfl, by first | omega | rfl | (dsimp only; omega)⟩ dX7_farOf_54
      · refine lv_iload_n F.1 F.2.1 dX7_farOf_48 rfl (lv_at hl 1 rfl) ?_
        refine z_goto (tgt := 53) F dX7_farOf_49 (by decide) ?_
        refine z_iadd F dX7_farOf_53 ?_
        exact g_iret F hr hlk hH hS hz ⟨by omega, by omega⟩ ⟨rfl, rfl, rfl, rfl, rfl, rfl, by first | omega | rfl | (dsimp only; omega)⟩ dX7_farOf_54
    · refine z_iconst F dX7_farOf_28 ?_
      refine z_goto (tgt := 41) F dX7_farOf_29 (by decide) ?_
      refine lv_istore_n (lv' := [(3, .int (iI 0)), (2, .int (iI v_27)), (0, .ref mo), (1, .int (iI rr))]) F.1 F.2.1 dX7_farOf_41 rfl hl (by decide) rfl (fun ls hl => ?_)
      refine z_iconst F dX7_farOf_42 ?_
      refine lv_iload_n F.1 F.2.1 dX7_farOf_43 rfl (lv_at hl 1 rfl) ?_
      refine lv_iload_n F.1 F.2.1 dX7_farOf_44 rfl (lv_at hl 0 rfl) ?_
      refine z_icmp_le (tgt := 52) F dX7_farOf_45 (by decide) zv_27 ⟨by decide, by decide⟩ (fun c_59 => ?_) (fun c_59 => ?_)
      · refine lv_iload_n F.1 F.2.1 dX7_farOf_52 rfl (lv_at hl 0 rfl) ?_
        refine z_iadd F dX7_farOf_53 ?_
        exact g_iret F hr hlk hH hS hz ⟨by omega, by omega⟩ ⟨rfl, rfl, rfl, rfl, rfl, rfl, by first | omega | rfl | (dsimp only; omega)⟩ dX7_farOf_54
      · refine lv_iload_n F.1 F.2.1 dX7_farOf_48 rfl (lv_at hl 1 rfl) ?_
        refine z_goto (tgt := 53) F dX7_farOf_49 (by decide) ?_
        refine z_iadd F dX7_farOf_53 ?_
        exact g_iret F hr hlk hH hS hz ⟨by omega, by omega⟩ ⟨rfl, rfl, rfl, rfl, rfl, rfl, by first | omega | rfl | (dsimp only; omega)⟩ dX7_farOf_54
  · refine z_iconst F dX7_farOf_8 ?_
    exact g_iret F hr hlk hH hS hz ⟨by decide, by decide⟩ ⟨rfl, rfl, rfl, rfl, rfl, rfl, by first | omega | rfl | (dsimp only; omega)⟩ dX7_farOf_9

def rmX7_farOf12 : Room := { frames := 12, cells := 0, slots := 0, locals := 274 }
set_option maxHeartbeats 4000000 in
set_option maxRecDepth 100000 in
/-- farOf -/
theorem c_X7_farOf12 (l : Launch) (g : gG) (gh : gGh) (T : Nat → Int32) (I : gI) (R : gR) (J : gJ) (AI : gI) (AJ : gJ) (AR : gR) (mo : Nat) (rr : Int) (zrr : zr rr) (hv : mInv g gh R I AI) (hm : gO g mo 7) (hT : AI (gh 50 0) = T) (hr0 : 0 ≤ rr ∧ rr < (I mo 2).toInt ∧ rr < 12) : gMet l g yX7_farOf tsX7_farOf rmX7_farOf12 [.ref mo, .int (iI rr)] (I, R, J, AI, AJ, AR) (gQi g (fun (z : Int) (w : gS) => I = w.1 ∧ R = w.2.1 ∧ J = w.2.2.1 ∧ AI = w.2.2.2.1 ∧ AJ = w.2.2.2.2.1 ∧ AR = w.2.2.2.2.2 ∧ (0 ≤ z ∧ z ≤ 12))) := by
  refine gStart (cc := cX7_farOf) (maxL := 4) (ret := (some (.int))) (by decide) rfl (Nat.le_of_ble_eq_true rfl) ?_
  intro p e s m below meth c ls F hr hlk hH hz hS hl
  have hl : lv_has ls 4 [(0, .ref mo), (1, .int (iI rr))] := hl
  have hS : va_S (gA g) s.heap s.heap [] := hS
  obtain ⟨H, hHe⟩ : ∃ H : Heap, H = s.heap := ⟨_, rfl⟩
  obtain ⟨locs, hlo⟩ : ∃ k : List Loc, k = [] := ⟨_, rfl⟩
  have hH : gH g I R J AI AJ AR H := by rw [hHe]; exact hH
  have hS : va_S (gA g) s.heap H locs := by rw [hHe, hlo]; exact hS
  suffices hw : W p l e rmX7_farOf12 s m ([.ref mo, .int (iI rr)] : List Value).toArray below meth c H locs 0 0 (MQ below (gQi g (fun (z : Int) (w : gS) => I = w.1 ∧ R = w.2.1 ∧ J = w.2.2.1 ∧ AI = w.2.2.2.1 ∧ AJ = w.2.2.2.2.1 ∧ AR = w.2.2.2.2.2 ∧ (0 ≤ z ∧ z ≤ 12))) ([.ref mo, .int (iI rr)] : List Value).toArray s 0 0 (gA g)) (F0 m 0 ls []) by
    rw [hHe, hlo] at hw; exact hw
  clear hHe hlo
  have hb0 := mJ hv hm
  unfold mNum1 at hb0
  have x := mRow hv hm hT (z := rr) (by omega) (by omega)
  have xa := x.1
  have xc := x.2.2.1
  have xb := x.2.1
  refine lv_aload_n F.1 F.2.1 dX7_farOf_0 rfl (lv_at hl 0 rfl) ?_
  refine lv_iload_n F.1 F.2.1 dX7_farOf_1 rfl (lv_at hl 1 rfl) ?_
  have b_1 := mJ hv hm
  unfold mNum1 at b_1
  refine g_calli (g_runV (As := [.int (iI rr)]) (rest := []) (ci := 7) F hl.1 hH hS hz (c_X7_kindOf l g gh T I R J AI AJ AR mo rr zrr hv hm hT (by omega)) (cwV 1 F.2.2.2.2.1 (good_up gT_X7_kindOf) rfl rfl rfl hdX7_kindOf ⟨Nat.le_of_ble_eq_true rfl, Nat.le_of_ble_eq_true rfl⟩) hm (by decide) rfl rfl rfl (Nat.le_of_ble_eq_true rfl) dX7_farOf_2 ⟨Nat.zero_le _, Nat.zero_le _⟩) hS (fun v_8 I_2 R_3 J_4 AI_5 AJ_6 AR_7 H locs zv_8 hp_9 hH hS => ?_)
  dsimp only at hp_9
  obtain ⟨rfl, rfl, rfl, rfl, rfl, rfl, q_10⟩ := hp_9
  refine z_if_ne (tgt := 10) F dX7_farOf_5 (by decide) zv_8 (fun c_11 => ?_) (fun c_11 => ?_)
  · refine lv_aload_n F.1 F.2.1 dX7_farOf_10 rfl (lv_at hl 0 rfl) ?_
    refine lv_aload_n F.1 F.2.1 dX7_farOf_11 rfl (lv_at hl 0 rfl) ?_
    refine lv_iload_n F.1 F.2.1 dX7_farOf_12 rfl (lv_at hl 1 rfl) ?_
    refine g_calli (g_runV (As := [.int (iI rr)]) (rest := [.ref mo]) (ci := 7) F hl.1 hH hS hz (c_X7_firstOf l g gh T I R J AI AJ AR mo rr zrr hv hm hT (by omega)) (cwV 1 F.2.2.2.2.1 (good_up gT_X7_firstOf) rfl rfl rfl hdX7_firstOf ⟨Nat.le_of_ble_eq_true rfl, Nat.le_of_ble_eq_true rfl⟩) hm (by decide) rfl rfl rfl (Nat.le_of_ble_eq_true rfl) dX7_farOf_13 ⟨Nat.zero_le _, Nat.zero_le _⟩) hS (fun v_18 I_12 R_13 J_14 AI_15 AJ_16 AR_17 H locs zv_18 hp_19 hH hS => ?_)
    dsimp only at hp_19
    obtain ⟨rfl, rfl, rfl, rfl, rfl, rfl, q_20⟩ := hp_19
    refine g_calli (g_runV (As := [.int (iI v_18)]) (rest := []) (ci := 7) F hl.1 hH hS hz (c_X7_farOf11 l g gh T I R J AI AJ AR mo v_18 zv_18 hv hm hT (by omega)) (cwV 1 F.2.2.2.2.1 (good_up gT_X7_farOf) rfl rfl rfl hdX7_farOf ⟨Nat.le_of_ble_eq_true rfl, Nat.le_of_ble_eq_true rfl⟩) hm (by decide) rfl rfl rfl (Nat.le_of_ble_eq_true rfl) dX7_farOf_16 ⟨Nat.zero_le _, Nat.zero_le _⟩) hS (fun v_27 I_21 R_22 J_23 AI_24 AJ_25 AR_26 H locs zv_27 hp_28 hH hS => ?_)
    dsimp only at hp_28
    obtain ⟨rfl, rfl, rfl, rfl, rfl, rfl, q_29⟩ := hp_28
    refine lv_istore_n (lv' := [(2, .int (iI v_27)), (0, .ref mo), (1, .int (iI rr))]) F.1 F.2.1 dX7_farOf_19 rfl hl (by decide) rfl (fun ls hl => ?_)
    refine lv_aload_n F.1 F.2.1 dX7_farOf_20 rfl (lv_at hl 1 rfl) ?_
    refine lv_iload_n F.1 F.2.1 dX7_farOf_21 rfl (lv_at hl 2 rfl) ?_
    refine g_calli (g_runV (As := [.int (iI rr)]) (rest := []) (ci := 7) F hl.1 hH hS hz (c_X7_secondOf l g gh T I R J AI AJ AR mo rr zrr hv hm hT (by omega)) (cwV 1 F.2.2.2.2.1 (good_up gT_X7_secondOf) rfl rfl rfl hdX7_secondOf ⟨Nat.le_of_ble_eq_true rfl, Nat.le_of_ble_eq_true rfl⟩) hm (by decide) rfl rfl rfl (Nat.le_of_ble_eq_true rfl) dX7_farOf_22 ⟨Nat.zero_le _, Nat.zero_le _⟩) hS (fun v_36 I_30 R_31 J_32 AI_33 AJ_34 AR_35 H locs zv_36 hp_37 hH hS => ?_)
    dsimp only at hp_37
    obtain ⟨rfl, rfl, rfl, rfl, rfl, rfl, q_38⟩ := hp_37
    refine z_if_ge (tgt := 32) F dX7_farOf_25 (by decide) zv_36 (fun c_39 => ?_) (fun c_39 => ?_)
    · refine lv_aload_n F.1 F.2.1 dX7_farOf_32 rfl (lv_at hl 1 rfl) ?_
      refine lv_aload_n F.1 F.2.1 dX7_farOf_33 rfl (lv_at hl 1 rfl) ?_
      refine lv_iload_n F.1 F.2.1 dX7_farOf_34 rfl (lv_at hl 2 rfl) ?_
      refine g_calli (g_runV (As := [.int (iI rr)]) (rest := [.ref mo]) (ci := 7) F hl.1 hH hS hz (c_X7_secondOf l g gh T I R J AI AJ AR mo rr zrr hv hm hT (by omega)) (cwV 1 F.2.2.2.2.1 (good_up gT_X7_secondOf) rfl rfl rfl hdX7_secondOf ⟨Nat.le_of_ble_eq_true rfl, Nat.le_of_ble_eq_true rfl⟩) hm (by decide) rfl rfl rfl (Nat.le_of_ble_eq_true rfl) dX7_farOf_35 ⟨Nat.zero_le _, Nat.zero_le _⟩) hS (fun v_46 I_40 R_41 J_42 AI_43 AJ_44 AR_45 H locs zv_46 hp_47 hH hS => ?_)
      dsimp only at hp_47
      obtain ⟨rfl, rfl, rfl, rfl, rfl, rfl, q_48⟩ := hp_47
      refine g_calli (g_runV (As := [.int (iI v_46)]) (rest := []) (ci := 7) F hl.1 hH hS hz (c_X7_farOf11 l g gh T I R J AI AJ AR mo v_46 zv_46 hv hm hT (by omega)) (cwV 1 F.2.2.2.2.1 (good_up gT_X7_farOf) rfl rfl rfl hdX7_farOf ⟨Nat.le_of_ble_eq_true rfl, Nat.le_of_ble_eq_true rfl⟩) hm (by decide) rfl rfl rfl (Nat.le_of_ble_eq_true rfl) dX7_farOf_38 ⟨Nat.zero_le _, Nat.zero_le _⟩) hS (fun v_55 I_49 R_50 J_51 AI_52 AJ_53 AR_54 H locs zv_55 hp_56 hH hS => ?_)
      dsimp only at hp_56
      obtain ⟨rfl, rfl, rfl, rfl, rfl, rfl, q_57⟩ := hp_56
      refine lv_istore_n (lv' := [(3, .int (iI v_55)), (2, .int (iI v_27)), (0, .ref mo), (1, .int (iI rr))]) F.1 F.2.1 dX7_farOf_41 rfl hl (by decide) rfl (fun ls hl => ?_)
      refine z_iconst F dX7_farOf_42 ?_
      refine lv_iload_n F.1 F.2.1 dX7_farOf_43 rfl (lv_at hl 1 rfl) ?_
      refine lv_iload_n F.1 F.2.1 dX7_farOf_44 rfl (lv_at hl 0 rfl) ?_
      refine z_icmp_le (tgt := 52) F dX7_farOf_45 (by decide) zv_27 zv_55 (fun c_58 => ?_) (fun c_58 => ?_)
      · refine lv_iload_n F.1 F.2.1 dX7_farOf_52 rfl (lv_at hl 0 rfl) ?_
        refine z_iadd F dX7_farOf_53 ?_
        exact g_iret F hr hlk hH hS hz ⟨by omega, by omega⟩ ⟨rfl, rfl, rfl, rfl, rfl, rfl, by first | omega | rfl | (dsimp only; omega)⟩ dX7_farOf_54
      · refine lv_iload_n F.1 F.2.1 dX7_farOf_48 rfl (lv_at hl 1 rfl) ?_
        refine z_goto (tgt := 53) F dX7_farOf_49 (by decide) ?_
        refine z_iadd F dX7_farOf_53 ?_
        exact g_iret F hr hlk hH hS hz ⟨by omega, by omega⟩ ⟨rfl, rfl, rfl, rfl, rfl, rfl, by first | omega | rfl | (dsimp only; omega)⟩ dX7_farOf_54
    · refine z_iconst F dX7_farOf_28 ?_
      refine z_goto (tgt := 41) F dX7_farOf_29 (by decide) ?_
      refine lv_istore_n (lv' := [(3, .int (iI 0)), (2, .int (iI v_27)), (0, .ref mo), (1, .int (iI rr))]) F.1 F.2.1 dX7_farOf_41 rfl hl (by decide) rfl (fun ls hl => ?_)
      refine z_iconst F dX7_farOf_42 ?_
      refine lv_iload_n F.1 F.2.1 dX7_farOf_43 rfl (lv_at hl 1 rfl) ?_
      refine lv_iload_n F.1 F.2.1 dX7_farOf_44 rfl (lv_at hl 0 rfl) ?_
      refine z_icmp_le (tgt := 52) F dX7_farOf_45 (by decide) zv_27 ⟨by decide, by decide⟩ (fun c_59 => ?_) (fun c_59 => ?_)
      · refine lv_iload_n F.1 F.2.1 dX7_farOf_52 rfl (lv_at hl 0 rfl) ?_
        refine z_iadd F dX7_farOf_53 ?_
        exact g_iret F hr hlk hH hS hz ⟨by omega, by omega⟩ ⟨rfl, rfl, rfl, rfl, rfl, rfl, by first | omega | rfl | (dsimp only; omega)⟩ dX7_farOf_54
      · refine lv_iload_n F.1 F.2.1 dX7_farOf_48 rfl (lv_at hl 1 rfl) ?_
        refine z_goto (tgt := 53) F dX7_farOf_49 (by decide) ?_
        refine z_iadd F dX7_farOf_53 ?_
        exact g_iret F hr hlk hH hS hz ⟨by omega, by omega⟩ ⟨rfl, rfl, rfl, rfl, rfl, rfl, by first | omega | rfl | (dsimp only; omega)⟩ dX7_farOf_54
  · refine z_iconst F dX7_farOf_8 ?_
    exact g_iret F hr hlk hH hS hz ⟨by decide, by decide⟩ ⟨rfl, rfl, rfl, rfl, rfl, rfl, by first | omega | rfl | (dsimp only; omega)⟩ dX7_farOf_9

def rmX7_farOf13 : Room := { frames := 13, cells := 0, slots := 0, locals := 297 }
set_option maxHeartbeats 4000000 in
set_option maxRecDepth 100000 in
/-- farOf -/
theorem c_X7_farOf13 (l : Launch) (g : gG) (gh : gGh) (T : Nat → Int32) (I : gI) (R : gR) (J : gJ) (AI : gI) (AJ : gJ) (AR : gR) (mo : Nat) (rr : Int) (zrr : zr rr) (hv : mInv g gh R I AI) (hm : gO g mo 7) (hT : AI (gh 50 0) = T) (hr0 : 0 ≤ rr ∧ rr < (I mo 2).toInt ∧ rr < 13) : gMet l g yX7_farOf tsX7_farOf rmX7_farOf13 [.ref mo, .int (iI rr)] (I, R, J, AI, AJ, AR) (gQi g (fun (z : Int) (w : gS) => I = w.1 ∧ R = w.2.1 ∧ J = w.2.2.1 ∧ AI = w.2.2.2.1 ∧ AJ = w.2.2.2.2.1 ∧ AR = w.2.2.2.2.2 ∧ (0 ≤ z ∧ z ≤ 13))) := by
  refine gStart (cc := cX7_farOf) (maxL := 4) (ret := (some (.int))) (by decide) rfl (Nat.le_of_ble_eq_true rfl) ?_
  intro p e s m below meth c ls F hr hlk hH hz hS hl
  have hl : lv_has ls 4 [(0, .ref mo), (1, .int (iI rr))] := hl
  have hS : va_S (gA g) s.heap s.heap [] := hS
  obtain ⟨H, hHe⟩ : ∃ H : Heap, H = s.heap := ⟨_, rfl⟩
  obtain ⟨locs, hlo⟩ : ∃ k : List Loc, k = [] := ⟨_, rfl⟩
  have hH : gH g I R J AI AJ AR H := by rw [hHe]; exact hH
  have hS : va_S (gA g) s.heap H locs := by rw [hHe, hlo]; exact hS
  suffices hw : W p l e rmX7_farOf13 s m ([.ref mo, .int (iI rr)] : List Value).toArray below meth c H locs 0 0 (MQ below (gQi g (fun (z : Int) (w : gS) => I = w.1 ∧ R = w.2.1 ∧ J = w.2.2.1 ∧ AI = w.2.2.2.1 ∧ AJ = w.2.2.2.2.1 ∧ AR = w.2.2.2.2.2 ∧ (0 ≤ z ∧ z ≤ 13))) ([.ref mo, .int (iI rr)] : List Value).toArray s 0 0 (gA g)) (F0 m 0 ls []) by
    rw [hHe, hlo] at hw; exact hw
  clear hHe hlo
  have hb0 := mJ hv hm
  unfold mNum1 at hb0
  have x := mRow hv hm hT (z := rr) (by omega) (by omega)
  have xa := x.1
  have xc := x.2.2.1
  have xb := x.2.1
  refine lv_aload_n F.1 F.2.1 dX7_farOf_0 rfl (lv_at hl 0 rfl) ?_
  refine lv_iload_n F.1 F.2.1 dX7_farOf_1 rfl (lv_at hl 1 rfl) ?_
  have b_1 := mJ hv hm
  unfold mNum1 at b_1
  refine g_calli (g_runV (As := [.int (iI rr)]) (rest := []) (ci := 7) F hl.1 hH hS hz (c_X7_kindOf l g gh T I R J AI AJ AR mo rr zrr hv hm hT (by omega)) (cwV 1 F.2.2.2.2.1 (good_up gT_X7_kindOf) rfl rfl rfl hdX7_kindOf ⟨Nat.le_of_ble_eq_true rfl, Nat.le_of_ble_eq_true rfl⟩) hm (by decide) rfl rfl rfl (Nat.le_of_ble_eq_true rfl) dX7_farOf_2 ⟨Nat.zero_le _, Nat.zero_le _⟩) hS (fun v_8 I_2 R_3 J_4 AI_5 AJ_6 AR_7 H locs zv_8 hp_9 hH hS => ?_)
  dsimp only at hp_9
  obtain ⟨rfl, rfl, rfl, rfl, rfl, rfl, q_10⟩ := hp_9
  refine z_if_ne (tgt := 10) F dX7_farOf_5 (by decide) zv_8 (fun c_11 => ?_) (fun c_11 => ?_)
  · refine lv_aload_n F.1 F.2.1 dX7_farOf_10 rfl (lv_at hl 0 rfl) ?_
    refine lv_aload_n F.1 F.2.1 dX7_farOf_11 rfl (lv_at hl 0 rfl) ?_
    refine lv_iload_n F.1 F.2.1 dX7_farOf_12 rfl (lv_at hl 1 rfl) ?_
    refine g_calli (g_runV (As := [.int (iI rr)]) (rest := [.ref mo]) (ci := 7) F hl.1 hH hS hz (c_X7_firstOf l g gh T I R J AI AJ AR mo rr zrr hv hm hT (by omega)) (cwV 1 F.2.2.2.2.1 (good_up gT_X7_firstOf) rfl rfl rfl hdX7_firstOf ⟨Nat.le_of_ble_eq_true rfl, Nat.le_of_ble_eq_true rfl⟩) hm (by decide) rfl rfl rfl (Nat.le_of_ble_eq_true rfl) dX7_farOf_13 ⟨Nat.zero_le _, Nat.zero_le _⟩) hS (fun v_18 I_12 R_13 J_14 AI_15 AJ_16 AR_17 H locs zv_18 hp_19 hH hS => ?_)
    dsimp only at hp_19
    obtain ⟨rfl, rfl, rfl, rfl, rfl, rfl, q_20⟩ := hp_19
    refine g_calli (g_runV (As := [.int (iI v_18)]) (rest := []) (ci := 7) F hl.1 hH hS hz (c_X7_farOf12 l g gh T I R J AI AJ AR mo v_18 zv_18 hv hm hT (by omega)) (cwV 1 F.2.2.2.2.1 (good_up gT_X7_farOf) rfl rfl rfl hdX7_farOf ⟨Nat.le_of_ble_eq_true rfl, Nat.le_of_ble_eq_true rfl⟩) hm (by decide) rfl rfl rfl (Nat.le_of_ble_eq_true rfl) dX7_farOf_16 ⟨Nat.zero_le _, Nat.zero_le _⟩) hS (fun v_27 I_21 R_22 J_23 AI_24 AJ_25 AR_26 H locs zv_27 hp_28 hH hS => ?_)
    dsimp only at hp_28
    obtain ⟨rfl, rfl, rfl, rfl, rfl, rfl, q_29⟩ := hp_28
    refine lv_istore_n (lv' := [(2, .int (iI v_27)), (0, .ref mo), (1, .int (iI rr))]) F.1 F.2.1 dX7_farOf_19 rfl hl (by decide) rfl (fun ls hl => ?_)
    refine lv_aload_n F.1 F.2.1 dX7_farOf_20 rfl (lv_at hl 1 rfl) ?_
    refine lv_iload_n F.1 F.2.1 dX7_farOf_21 rfl (lv_at hl 2 rfl) ?_
    refine g_calli (g_runV (As := [.int (iI rr)]) (rest := []) (ci := 7) F hl.1 hH hS hz (c_X7_secondOf l g gh T I R J AI AJ AR mo rr zrr hv hm hT (by omega)) (cwV 1 F.2.2.2.2.1 (good_up gT_X7_secondOf) rfl rfl rfl hdX7_secondOf ⟨Nat.le_of_ble_eq_true rfl, Nat.le_of_ble_eq_true rfl⟩) hm (by decide) rfl rfl rfl (Nat.le_of_ble_eq_true rfl) dX7_farOf_22 ⟨Nat.zero_le _, Nat.zero_le _⟩) hS (fun v_36 I_30 R_31 J_32 AI_33 AJ_34 AR_35 H locs zv_36 hp_37 hH hS => ?_)
    dsimp only at hp_37
    obtain ⟨rfl, rfl, rfl, rfl, rfl, rfl, q_38⟩ := hp_37
    refine z_if_ge (tgt := 32) F dX7_farOf_25 (by decide) zv_36 (fun c_39 => ?_) (fun c_39 => ?_)
    · refine lv_aload_n F.1 F.2.1 dX7_farOf_32 rfl (lv_at hl 1 rfl) ?_
      refine lv_aload_n F.1 F.2.1 dX7_farOf_33 rfl (lv_at hl 1 rfl) ?_
      refine lv_iload_n F.1 F.2.1 dX7_farOf_34 rfl (lv_at hl 2 rfl) ?_
      refine g_calli (g_runV (As := [.int (iI rr)]) (rest := [.ref mo]) (ci := 7) F hl.1 hH hS hz (c_X7_secondOf l g gh T I R J AI AJ AR mo rr zrr hv hm hT (by omega)) (cwV 1 F.2.2.2.2.1 (good_up gT_X7_secondOf) rfl rfl rfl hdX7_secondOf ⟨Nat.le_of_ble_eq_true rfl, Nat.le_of_ble_eq_true rfl⟩) hm (by decide) rfl rfl rfl (Nat.le_of_ble_eq_true rfl) dX7_farOf_35 ⟨Nat.zero_le _, Nat.zero_le _⟩) hS (fun v_46 I_40 R_41 J_42 AI_43 AJ_44 AR_45 H locs zv_46 hp_47 hH hS => ?_)
      dsimp only at hp_47
      obtain ⟨rfl, rfl, rfl, rfl, rfl, rfl, q_48⟩ := hp_47
      refine g_calli (g_runV (As := [.int (iI v_46)]) (rest := []) (ci := 7) F hl.1 hH hS hz (c_X7_farOf12 l g gh T I R J AI AJ AR mo v_46 zv_46 hv hm hT (by omega)) (cwV 1 F.2.2.2.2.1 (good_up gT_X7_farOf) rfl rfl rfl hdX7_farOf ⟨Nat.le_of_ble_eq_true rfl, Nat.le_of_ble_eq_true rfl⟩) hm (by decide) rfl rfl rfl (Nat.le_of_ble_eq_true rfl) dX7_farOf_38 ⟨Nat.zero_le _, Nat.zero_le _⟩) hS (fun v_55 I_49 R_50 J_51 AI_52 AJ_53 AR_54 H locs zv_55 hp_56 hH hS => ?_)
      dsimp only at hp_56
      obtain ⟨rfl, rfl, rfl, rfl, rfl, rfl, q_57⟩ := hp_56
      refine lv_istore_n (lv' := [(3, .int (iI v_55)), (2, .int (iI v_27)), (0, .ref mo), (1, .int (iI rr))]) F.1 F.2.1 dX7_farOf_41 rfl hl (by decide) rfl (fun ls hl => ?_)
      refine z_iconst F dX7_farOf_42 ?_
      refine lv_iload_n F.1 F.2.1 dX7_farOf_43 rfl (lv_at hl 1 rfl) ?_
      refine lv_iload_n F.1 F.2.1 dX7_farOf_44 rfl (lv_at hl 0 rfl) ?_
      refine z_icmp_le (tgt := 52) F dX7_farOf_45 (by decide) zv_27 zv_55 (fun c_58 => ?_) (fun c_58 => ?_)
      · refine lv_iload_n F.1 F.2.1 dX7_farOf_52 rfl (lv_at hl 0 rfl) ?_
        refine z_iadd F dX7_farOf_53 ?_
        exact g_iret F hr hlk hH hS hz ⟨by omega, by omega⟩ ⟨rfl, rfl, rfl, rfl, rfl, rfl, by first | omega | rfl | (dsimp only; omega)⟩ dX7_farOf_54
      · refine lv_iload_n F.1 F.2.1 dX7_farOf_48 rfl (lv_at hl 1 rfl) ?_
        refine z_goto (tgt := 53) F dX7_farOf_49 (by decide) ?_
        refine z_iadd F dX7_farOf_53 ?_
        exact g_iret F hr hlk hH hS hz ⟨by omega, by omega⟩ ⟨rfl, rfl, rfl, rfl, rfl, rfl, by first | omega | rfl | (dsimp only; omega)⟩ dX7_farOf_54
    · refine z_iconst F dX7_farOf_28 ?_
      refine z_goto (tgt := 41) F dX7_farOf_29 (by decide) ?_
      refine lv_istore_n (lv' := [(3, .int (iI 0)), (2, .int (iI v_27)), (0, .ref mo), (1, .int (iI rr))]) F.1 F.2.1 dX7_farOf_41 rfl hl (by decide) rfl (fun ls hl => ?_)
      refine z_iconst F dX7_farOf_42 ?_
      refine lv_iload_n F.1 F.2.1 dX7_farOf_43 rfl (lv_at hl 1 rfl) ?_
      refine lv_iload_n F.1 F.2.1 dX7_farOf_44 rfl (lv_at hl 0 rfl) ?_
      refine z_icmp_le (tgt := 52) F dX7_farOf_45 (by decide) zv_27 ⟨by decide, by decide⟩ (fun c_59 => ?_) (fun c_59 => ?_)
      · refine lv_iload_n F.1 F.2.1 dX7_farOf_52 rfl (lv_at hl 0 rfl) ?_
        refine z_iadd F dX7_farOf_53 ?_
        exact g_iret F hr hlk hH hS hz ⟨by omega, by omega⟩ ⟨rfl, rfl, rfl, rfl, rfl, rfl, by first | omega | rfl | (dsimp only; omega)⟩ dX7_farOf_54
      · refine lv_iload_n F.1 F.2.1 dX7_farOf_48 rfl (lv_at hl 1 rfl) ?_
        refine z_goto (tgt := 53) F dX7_farOf_49 (by decide) ?_
        refine z_iadd F dX7_farOf_53 ?_
        exact g_iret F hr hlk hH hS hz ⟨by omega, by omega⟩ ⟨rfl, rfl, rfl, rfl, rfl, rfl, by first | omega | rfl | (dsimp only; omega)⟩ dX7_farOf_54
  · refine z_iconst F dX7_farOf_8 ?_
    exact g_iret F hr hlk hH hS hz ⟨by decide, by decide⟩ ⟨rfl, rfl, rfl, rfl, rfl, rfl, by first | omega | rfl | (dsimp only; omega)⟩ dX7_farOf_9

def rmX7_farOf14 : Room := { frames := 14, cells := 0, slots := 0, locals := 320 }
set_option maxHeartbeats 4000000 in
set_option maxRecDepth 100000 in
/-- farOf -/
theorem c_X7_farOf14 (l : Launch) (g : gG) (gh : gGh) (T : Nat → Int32) (I : gI) (R : gR) (J : gJ) (AI : gI) (AJ : gJ) (AR : gR) (mo : Nat) (rr : Int) (zrr : zr rr) (hv : mInv g gh R I AI) (hm : gO g mo 7) (hT : AI (gh 50 0) = T) (hr0 : 0 ≤ rr ∧ rr < (I mo 2).toInt ∧ rr < 14) : gMet l g yX7_farOf tsX7_farOf rmX7_farOf14 [.ref mo, .int (iI rr)] (I, R, J, AI, AJ, AR) (gQi g (fun (z : Int) (w : gS) => I = w.1 ∧ R = w.2.1 ∧ J = w.2.2.1 ∧ AI = w.2.2.2.1 ∧ AJ = w.2.2.2.2.1 ∧ AR = w.2.2.2.2.2 ∧ (0 ≤ z ∧ z ≤ 14))) := by
  refine gStart (cc := cX7_farOf) (maxL := 4) (ret := (some (.int))) (by decide) rfl (Nat.le_of_ble_eq_true rfl) ?_
  intro p e s m below meth c ls F hr hlk hH hz hS hl
  have hl : lv_has ls 4 [(0, .ref mo), (1, .int (iI rr))] := hl
  have hS : va_S (gA g) s.heap s.heap [] := hS
  obtain ⟨H, hHe⟩ : ∃ H : Heap, H = s.heap := ⟨_, rfl⟩
  obtain ⟨locs, hlo⟩ : ∃ k : List Loc, k = [] := ⟨_, rfl⟩
  have hH : gH g I R J AI AJ AR H := by rw [hHe]; exact hH
  have hS : va_S (gA g) s.heap H locs := by rw [hHe, hlo]; exact hS
  suffices hw : W p l e rmX7_farOf14 s m ([.ref mo, .int (iI rr)] : List Value).toArray below meth c H locs 0 0 (MQ below (gQi g (fun (z : Int) (w : gS) => I = w.1 ∧ R = w.2.1 ∧ J = w.2.2.1 ∧ AI = w.2.2.2.1 ∧ AJ = w.2.2.2.2.1 ∧ AR = w.2.2.2.2.2 ∧ (0 ≤ z ∧ z ≤ 14))) ([.ref mo, .int (iI rr)] : List Value).toArray s 0 0 (gA g)) (F0 m 0 ls []) by
    rw [hHe, hlo] at hw; exact hw
  clear hHe hlo
  have hb0 := mJ hv hm
  unfold mNum1 at hb0
  have x := mRow hv hm hT (z := rr) (by omega) (by omega)
  have xa := x.1
  have xc := x.2.2.1
  have xb := x.2.1
  refine lv_aload_n F.1 F.2.1 dX7_farOf_0 rfl (lv_at hl 0 rfl) ?_
  refine lv_iload_n F.1 F.2.1 dX7_farOf_1 rfl (lv_at hl 1 rfl) ?_
  have b_1 := mJ hv hm
  unfold mNum1 at b_1
  refine g_calli (g_runV (As := [.int (iI rr)]) (rest := []) (ci := 7) F hl.1 hH hS hz (c_X7_kindOf l g gh T I R J AI AJ AR mo rr zrr hv hm hT (by omega)) (cwV 1 F.2.2.2.2.1 (good_up gT_X7_kindOf) rfl rfl rfl hdX7_kindOf ⟨Nat.le_of_ble_eq_true rfl, Nat.le_of_ble_eq_true rfl⟩) hm (by decide) rfl rfl rfl (Nat.le_of_ble_eq_true rfl) dX7_farOf_2 ⟨Nat.zero_le _, Nat.zero_le _⟩) hS (fun v_8 I_2 R_3 J_4 AI_5 AJ_6 AR_7 H locs zv_8 hp_9 hH hS => ?_)
  dsimp only at hp_9
  obtain ⟨rfl, rfl, rfl, rfl, rfl, rfl, q_10⟩ := hp_9
  refine z_if_ne (tgt := 10) F dX7_farOf_5 (by decide) zv_8 (fun c_11 => ?_) (fun c_11 => ?_)
  · refine lv_aload_n F.1 F.2.1 dX7_farOf_10 rfl (lv_at hl 0 rfl) ?_
    refine lv_aload_n F.1 F.2.1 dX7_farOf_11 rfl (lv_at hl 0 rfl) ?_
    refine lv_iload_n F.1 F.2.1 dX7_farOf_12 rfl (lv_at hl 1 rfl) ?_
    refine g_calli (g_runV (As := [.int (iI rr)]) (rest := [.ref mo]) (ci := 7) F hl.1 hH hS hz (c_X7_firstOf l g gh T I R J AI AJ AR mo rr zrr hv hm hT (by omega)) (cwV 1 F.2.2.2.2.1 (good_up gT_X7_firstOf) rfl rfl rfl hdX7_firstOf ⟨Nat.le_of_ble_eq_true rfl, Nat.le_of_ble_eq_true rfl⟩) hm (by decide) rfl rfl rfl (Nat.le_of_ble_eq_true rfl) dX7_farOf_13 ⟨Nat.zero_le _, Nat.zero_le _⟩) hS (fun v_18 I_12 R_13 J_14 AI_15 AJ_16 AR_17 H locs zv_18 hp_19 hH hS => ?_)
    dsimp only at hp_19
    obtain ⟨rfl, rfl, rfl, rfl, rfl, rfl, q_20⟩ := hp_19
    refine g_calli (g_runV (As := [.int (iI v_18)]) (rest := []) (ci := 7) F hl.1 hH hS hz (c_X7_farOf13 l g gh T I R J AI AJ AR mo v_18 zv_18 hv hm hT (by omega)) (cwV 1 F.2.2.2.2.1 (good_up gT_X7_farOf) rfl rfl rfl hdX7_farOf ⟨Nat.le_of_ble_eq_true rfl, Nat.le_of_ble_eq_true rfl⟩) hm (by decide) rfl rfl rfl (Nat.le_of_ble_eq_true rfl) dX7_farOf_16 ⟨Nat.zero_le _, Nat.zero_le _⟩) hS (fun v_27 I_21 R_22 J_23 AI_24 AJ_25 AR_26 H locs zv_27 hp_28 hH hS => ?_)
    dsimp only at hp_28
    obtain ⟨rfl, rfl, rfl, rfl, rfl, rfl, q_29⟩ := hp_28
    refine lv_istore_n (lv' := [(2, .int (iI v_27)), (0, .ref mo), (1, .int (iI rr))]) F.1 F.2.1 dX7_farOf_19 rfl hl (by decide) rfl (fun ls hl => ?_)
    refine lv_aload_n F.1 F.2.1 dX7_farOf_20 rfl (lv_at hl 1 rfl) ?_
    refine lv_iload_n F.1 F.2.1 dX7_farOf_21 rfl (lv_at hl 2 rfl) ?_
    refine g_calli (g_runV (As := [.int (iI rr)]) (rest := []) (ci := 7) F hl.1 hH hS hz (c_X7_secondOf l g gh T I R J AI AJ AR mo rr zrr hv hm hT (by omega)) (cwV 1 F.2.2.2.2.1 (good_up gT_X7_secondOf) rfl rfl rfl hdX7_secondOf ⟨Nat.le_of_ble_eq_true rfl, Nat.le_of_ble_eq_true rfl⟩) hm (by decide) rfl rfl rfl (Nat.le_of_ble_eq_true rfl) dX7_farOf_22 ⟨Nat.zero_le _, Nat.zero_le _⟩) hS (fun v_36 I_30 R_31 J_32 AI_33 AJ_34 AR_35 H locs zv_36 hp_37 hH hS => ?_)
    dsimp only at hp_37
    obtain ⟨rfl, rfl, rfl, rfl, rfl, rfl, q_38⟩ := hp_37
    refine z_if_ge (tgt := 32) F dX7_farOf_25 (by decide) zv_36 (fun c_39 => ?_) (fun c_39 => ?_)
    · refine lv_aload_n F.1 F.2.1 dX7_farOf_32 rfl (lv_at hl 1 rfl) ?_
      refine lv_aload_n F.1 F.2.1 dX7_farOf_33 rfl (lv_at hl 1 rfl) ?_
      refine lv_iload_n F.1 F.2.1 dX7_farOf_34 rfl (lv_at hl 2 rfl) ?_
      refine g_calli (g_runV (As := [.int (iI rr)]) (rest := [.ref mo]) (ci := 7) F hl.1 hH hS hz (c_X7_secondOf l g gh T I R J AI AJ AR mo rr zrr hv hm hT (by omega)) (cwV 1 F.2.2.2.2.1 (good_up gT_X7_secondOf) rfl rfl rfl hdX7_secondOf ⟨Nat.le_of_ble_eq_true rfl, Nat.le_of_ble_eq_true rfl⟩) hm (by decide) rfl rfl rfl (Nat.le_of_ble_eq_true rfl) dX7_farOf_35 ⟨Nat.zero_le _, Nat.zero_le _⟩) hS (fun v_46 I_40 R_41 J_42 AI_43 AJ_44 AR_45 H locs zv_46 hp_47 hH hS => ?_)
      dsimp only at hp_47
      obtain ⟨rfl, rfl, rfl, rfl, rfl, rfl, q_48⟩ := hp_47
      refine g_calli (g_runV (As := [.int (iI v_46)]) (rest := []) (ci := 7) F hl.1 hH hS hz (c_X7_farOf13 l g gh T I R J AI AJ AR mo v_46 zv_46 hv hm hT (by omega)) (cwV 1 F.2.2.2.2.1 (good_up gT_X7_farOf) rfl rfl rfl hdX7_farOf ⟨Nat.le_of_ble_eq_true rfl, Nat.le_of_ble_eq_true rfl⟩) hm (by decide) rfl rfl rfl (Nat.le_of_ble_eq_true rfl) dX7_farOf_38 ⟨Nat.zero_le _, Nat.zero_le _⟩) hS (fun v_55 I_49 R_50 J_51 AI_52 AJ_53 AR_54 H locs zv_55 hp_56 hH hS => ?_)
      dsimp only at hp_56
      obtain ⟨rfl, rfl, rfl, rfl, rfl, rfl, q_57⟩ := hp_56
      refine lv_istore_n (lv' := [(3, .int (iI v_55)), (2, .int (iI v_27)), (0, .ref mo), (1, .int (iI rr))]) F.1 F.2.1 dX7_farOf_41 rfl hl (by decide) rfl (fun ls hl => ?_)
      refine z_iconst F dX7_farOf_42 ?_
      refine lv_iload_n F.1 F.2.1 dX7_farOf_43 rfl (lv_at hl 1 rfl) ?_
      refine lv_iload_n F.1 F.2.1 dX7_farOf_44 rfl (lv_at hl 0 rfl) ?_
      refine z_icmp_le (tgt := 52) F dX7_farOf_45 (by decide) zv_27 zv_55 (fun c_58 => ?_) (fun c_58 => ?_)
      · refine lv_iload_n F.1 F.2.1 dX7_farOf_52 rfl (lv_at hl 0 rfl) ?_
        refine z_iadd F dX7_farOf_53 ?_
        exact g_iret F hr hlk hH hS hz ⟨by omega, by omega⟩ ⟨rfl, rfl, rfl, rfl, rfl, rfl, by first | omega | rfl | (dsimp only; omega)⟩ dX7_farOf_54
      · refine lv_iload_n F.1 F.2.1 dX7_farOf_48 rfl (lv_at hl 1 rfl) ?_
        refine z_goto (tgt := 53) F dX7_farOf_49 (by decide) ?_
        refine z_iadd F dX7_farOf_53 ?_
        exact g_iret F hr hlk hH hS hz ⟨by omega, by omega⟩ ⟨rfl, rfl, rfl, rfl, rfl, rfl, by first | omega | rfl | (dsimp only; omega)⟩ dX7_farOf_54
    · refine z_iconst F dX7_farOf_28 ?_
      refine z_goto (tgt := 41) F dX7_farOf_29 (by decide) ?_
      refine lv_istore_n (lv' := [(3, .int (iI 0)), (2, .int (iI v_27)), (0, .ref mo), (1, .int (iI rr))]) F.1 F.2.1 dX7_farOf_41 rfl hl (by decide) rfl (fun ls hl => ?_)
      refine z_iconst F dX7_farOf_42 ?_
      refine lv_iload_n F.1 F.2.1 dX7_farOf_43 rfl (lv_at hl 1 rfl) ?_
      refine lv_iload_n F.1 F.2.1 dX7_farOf_44 rfl (lv_at hl 0 rfl) ?_
      refine z_icmp_le (tgt := 52) F dX7_farOf_45 (by decide) zv_27 ⟨by decide, by decide⟩ (fun c_59 => ?_) (fun c_59 => ?_)
      · refine lv_iload_n F.1 F.2.1 dX7_farOf_52 rfl (lv_at hl 0 rfl) ?_
        refine z_iadd F dX7_farOf_53 ?_
        exact g_iret F hr hlk hH hS hz ⟨by omega, by omega⟩ ⟨rfl, rfl, rfl, rfl, rfl, rfl, by first | omega | rfl | (dsimp only; omega)⟩ dX7_farOf_54
      · refine lv_iload_n F.1 F.2.1 dX7_farOf_48 rfl (lv_at hl 1 rfl) ?_
        refine z_goto (tgt := 53) F dX7_farOf_49 (by decide) ?_
        refine z_iadd F dX7_farOf_53 ?_
        exact g_iret F hr hlk hH hS hz ⟨by omega, by omega⟩ ⟨rfl, rfl, rfl, rfl, rfl, rfl, by first | omega | rfl | (dsimp only; omega)⟩ dX7_farOf_54
  · refine z_iconst F dX7_farOf_8 ?_
    exact g_iret F hr hlk hH hS hz ⟨by decide, by decide⟩ ⟨rfl, rfl, rfl, rfl, rfl, rfl, by first | omega | rfl | (dsimp only; omega)⟩ dX7_farOf_9

def rmX7_farOf15 : Room := { frames := 15, cells := 0, slots := 0, locals := 343 }
set_option maxHeartbeats 4000000 in
set_option maxRecDepth 100000 in
/-- farOf -/
theorem c_X7_farOf15 (l : Launch) (g : gG) (gh : gGh) (T : Nat → Int32) (I : gI) (R : gR) (J : gJ) (AI : gI) (AJ : gJ) (AR : gR) (mo : Nat) (rr : Int) (zrr : zr rr) (hv : mInv g gh R I AI) (hm : gO g mo 7) (hT : AI (gh 50 0) = T) (hr0 : 0 ≤ rr ∧ rr < (I mo 2).toInt ∧ rr < 15) : gMet l g yX7_farOf tsX7_farOf rmX7_farOf15 [.ref mo, .int (iI rr)] (I, R, J, AI, AJ, AR) (gQi g (fun (z : Int) (w : gS) => I = w.1 ∧ R = w.2.1 ∧ J = w.2.2.1 ∧ AI = w.2.2.2.1 ∧ AJ = w.2.2.2.2.1 ∧ AR = w.2.2.2.2.2 ∧ (0 ≤ z ∧ z ≤ 15))) := by
  refine gStart (cc := cX7_farOf) (maxL := 4) (ret := (some (.int))) (by decide) rfl (Nat.le_of_ble_eq_true rfl) ?_
  intro p e s m below meth c ls F hr hlk hH hz hS hl
  have hl : lv_has ls 4 [(0, .ref mo), (1, .int (iI rr))] := hl
  have hS : va_S (gA g) s.heap s.heap [] := hS
  obtain ⟨H, hHe⟩ : ∃ H : Heap, H = s.heap := ⟨_, rfl⟩
  obtain ⟨locs, hlo⟩ : ∃ k : List Loc, k = [] := ⟨_, rfl⟩
  have hH : gH g I R J AI AJ AR H := by rw [hHe]; exact hH
  have hS : va_S (gA g) s.heap H locs := by rw [hHe, hlo]; exact hS
  suffices hw : W p l e rmX7_farOf15 s m ([.ref mo, .int (iI rr)] : List Value).toArray below meth c H locs 0 0 (MQ below (gQi g (fun (z : Int) (w : gS) => I = w.1 ∧ R = w.2.1 ∧ J = w.2.2.1 ∧ AI = w.2.2.2.1 ∧ AJ = w.2.2.2.2.1 ∧ AR = w.2.2.2.2.2 ∧ (0 ≤ z ∧ z ≤ 15))) ([.ref mo, .int (iI rr)] : List Value).toArray s 0 0 (gA g)) (F0 m 0 ls []) by
    rw [hHe, hlo] at hw; exact hw
  clear hHe hlo
  have hb0 := mJ hv hm
  unfold mNum1 at hb0
  have x := mRow hv hm hT (z := rr) (by omega) (by omega)
  have xa := x.1
  have xc := x.2.2.1
  have xb := x.2.1
  refine lv_aload_n F.1 F.2.1 dX7_farOf_0 rfl (lv_at hl 0 rfl) ?_
  refine lv_iload_n F.1 F.2.1 dX7_farOf_1 rfl (lv_at hl 1 rfl) ?_
  have b_1 := mJ hv hm
  unfold mNum1 at b_1
  refine g_calli (g_runV (As := [.int (iI rr)]) (rest := []) (ci := 7) F hl.1 hH hS hz (c_X7_kindOf l g gh T I R J AI AJ AR mo rr zrr hv hm hT (by omega)) (cwV 1 F.2.2.2.2.1 (good_up gT_X7_kindOf) rfl rfl rfl hdX7_kindOf ⟨Nat.le_of_ble_eq_true rfl, Nat.le_of_ble_eq_true rfl⟩) hm (by decide) rfl rfl rfl (Nat.le_of_ble_eq_true rfl) dX7_farOf_2 ⟨Nat.zero_le _, Nat.zero_le _⟩) hS (fun v_8 I_2 R_3 J_4 AI_5 AJ_6 AR_7 H locs zv_8 hp_9 hH hS => ?_)
  dsimp only at hp_9
  obtain ⟨rfl, rfl, rfl, rfl, rfl, rfl, q_10⟩ := hp_9
  refine z_if_ne (tgt := 10) F dX7_farOf_5 (by decide) zv_8 (fun c_11 => ?_) (fun c_11 => ?_)
  · refine lv_aload_n F.1 F.2.1 dX7_farOf_10 rfl (lv_at hl 0 rfl) ?_
    refine lv_aload_n F.1 F.2.1 dX7_farOf_11 rfl (lv_at hl 0 rfl) ?_
    refine lv_iload_n F.1 F.2.1 dX7_farOf_12 rfl (lv_at hl 1 rfl) ?_
    refine g_calli (g_runV (As := [.int (iI rr)]) (rest := [.ref mo]) (ci := 7) F hl.1 hH hS hz (c_X7_firstOf l g gh T I R J AI AJ AR mo rr zrr hv hm hT (by omega)) (cwV 1 F.2.2.2.2.1 (good_up gT_X7_firstOf) rfl rfl rfl hdX7_firstOf ⟨Nat.le_of_ble_eq_true rfl, Nat.le_of_ble_eq_true rfl⟩) hm (by decide) rfl rfl rfl (Nat.le_of_ble_eq_true rfl) dX7_farOf_13 ⟨Nat.zero_le _, Nat.zero_le _⟩) hS (fun v_18 I_12 R_13 J_14 AI_15 AJ_16 AR_17 H locs zv_18 hp_19 hH hS => ?_)
    dsimp only at hp_19
    obtain ⟨rfl, rfl, rfl, rfl, rfl, rfl, q_20⟩ := hp_19
    refine g_calli (g_runV (As := [.int (iI v_18)]) (rest := []) (ci := 7) F hl.1 hH hS hz (c_X7_farOf14 l g gh T I R J AI AJ AR mo v_18 zv_18 hv hm hT (by omega)) (cwV 1 F.2.2.2.2.1 (good_up gT_X7_farOf) rfl rfl rfl hdX7_farOf ⟨Nat.le_of_ble_eq_true rfl, Nat.le_of_ble_eq_true rfl⟩) hm (by decide) rfl rfl rfl (Nat.le_of_ble_eq_true rfl) dX7_farOf_16 ⟨Nat.zero_le _, Nat.zero_le _⟩) hS (fun v_27 I_21 R_22 J_23 AI_24 AJ_25 AR_26 H locs zv_27 hp_28 hH hS => ?_)
    dsimp only at hp_28
    obtain ⟨rfl, rfl, rfl, rfl, rfl, rfl, q_29⟩ := hp_28
    refine lv_istore_n (lv' := [(2, .int (iI v_27)), (0, .ref mo), (1, .int (iI rr))]) F.1 F.2.1 dX7_farOf_19 rfl hl (by decide) rfl (fun ls hl => ?_)
    refine lv_aload_n F.1 F.2.1 dX7_farOf_20 rfl (lv_at hl 1 rfl) ?_
    refine lv_iload_n F.1 F.2.1 dX7_farOf_21 rfl (lv_at hl 2 rfl) ?_
    refine g_calli (g_runV (As := [.int (iI rr)]) (rest := []) (ci := 7) F hl.1 hH hS hz (c_X7_secondOf l g gh T I R J AI AJ AR mo rr zrr hv hm hT (by omega)) (cwV 1 F.2.2.2.2.1 (good_up gT_X7_secondOf) rfl rfl rfl hdX7_secondOf ⟨Nat.le_of_ble_eq_true rfl, Nat.le_of_ble_eq_true rfl⟩) hm (by decide) rfl rfl rfl (Nat.le_of_ble_eq_true rfl) dX7_farOf_22 ⟨Nat.zero_le _, Nat.zero_le _⟩) hS (fun v_36 I_30 R_31 J_32 AI_33 AJ_34 AR_35 H locs zv_36 hp_37 hH hS => ?_)
    dsimp only at hp_37
    obtain ⟨rfl, rfl, rfl, rfl, rfl, rfl, q_38⟩ := hp_37
    refine z_if_ge (tgt := 32) F dX7_farOf_25 (by decide) zv_36 (fun c_39 => ?_) (fun c_39 => ?_)
    · refine lv_aload_n F.1 F.2.1 dX7_farOf_32 rfl (lv_at hl 1 rfl) ?_
      refine lv_aload_n F.1 F.2.1 dX7_farOf_33 rfl (lv_at hl 1 rfl) ?_
      refine lv_iload_n F.1 F.2.1 dX7_farOf_34 rfl (lv_at hl 2 rfl) ?_
      refine g_calli (g_runV (As := [.int (iI rr)]) (rest := [.ref mo]) (ci := 7) F hl.1 hH hS hz (c_X7_secondOf l g gh T I R J AI AJ AR mo rr zrr hv hm hT (by omega)) (cwV 1 F.2.2.2.2.1 (good_up gT_X7_secondOf) rfl rfl rfl hdX7_secondOf ⟨Nat.le_of_ble_eq_true rfl, Nat.le_of_ble_eq_true rfl⟩) hm (by decide) rfl rfl rfl (Nat.le_of_ble_eq_true rfl) dX7_farOf_35 ⟨Nat.zero_le _, Nat.zero_le _⟩) hS (fun v_46 I_40 R_41 J_42 AI_43 AJ_44 AR_45 H locs zv_46 hp_47 hH hS => ?_)
      dsimp only at hp_47
      obtain ⟨rfl, rfl, rfl, rfl, rfl, rfl, q_48⟩ := hp_47
      refine g_calli (g_runV (As := [.int (iI v_46)]) (rest := []) (ci := 7) F hl.1 hH hS hz (c_X7_farOf14 l g gh T I R J AI AJ AR mo v_46 zv_46 hv hm hT (by omega)) (cwV 1 F.2.2.2.2.1 (good_up gT_X7_farOf) rfl rfl rfl hdX7_farOf ⟨Nat.le_of_ble_eq_true rfl, Nat.le_of_ble_eq_true rfl⟩) hm (by decide) rfl rfl rfl (Nat.le_of_ble_eq_true rfl) dX7_farOf_38 ⟨Nat.zero_le _, Nat.zero_le _⟩) hS (fun v_55 I_49 R_50 J_51 AI_52 AJ_53 AR_54 H locs zv_55 hp_56 hH hS => ?_)
      dsimp only at hp_56
      obtain ⟨rfl, rfl, rfl, rfl, rfl, rfl, q_57⟩ := hp_56
      refine lv_istore_n (lv' := [(3, .int (iI v_55)), (2, .int (iI v_27)), (0, .ref mo), (1, .int (iI rr))]) F.1 F.2.1 dX7_farOf_41 rfl hl (by decide) rfl (fun ls hl => ?_)
      refine z_iconst F dX7_farOf_42 ?_
      refine lv_iload_n F.1 F.2.1 dX7_farOf_43 rfl (lv_at hl 1 rfl) ?_
      refine lv_iload_n F.1 F.2.1 dX7_farOf_44 rfl (lv_at hl 0 rfl) ?_
      refine z_icmp_le (tgt := 52) F dX7_farOf_45 (by decide) zv_27 zv_55 (fun c_58 => ?_) (fun c_58 => ?_)
      · refine lv_iload_n F.1 F.2.1 dX7_farOf_52 rfl (lv_at hl 0 rfl) ?_
        refine z_iadd F dX7_farOf_53 ?_
        exact g_iret F hr hlk hH hS hz ⟨by omega, by omega⟩ ⟨rfl, rfl, rfl, rfl, rfl, rfl, by first | omega | rfl | (dsimp only; omega)⟩ dX7_farOf_54
      · refine lv_iload_n F.1 F.2.1 dX7_farOf_48 rfl (lv_at hl 1 rfl) ?_
        refine z_goto (tgt := 53) F dX7_farOf_49 (by decide) ?_
        refine z_iadd F dX7_farOf_53 ?_
        exact g_iret F hr hlk hH hS hz ⟨by omega, by omega⟩ ⟨rfl, rfl, rfl, rfl, rfl, rfl, by first | omega | rfl | (dsimp only; omega)⟩ dX7_farOf_54
    · refine z_iconst F dX7_farOf_28 ?_
      refine z_goto (tgt := 41) F dX7_farOf_29 (by decide) ?_
      refine lv_istore_n (lv' := [(3, .int (iI 0)), (2, .int (iI v_27)), (0, .ref mo), (1, .int (iI rr))]) F.1 F.2.1 dX7_farOf_41 rfl hl (by decide) rfl (fun ls hl => ?_)
      refine z_iconst F dX7_farOf_42 ?_
      refine lv_iload_n F.1 F.2.1 dX7_farOf_43 rfl (lv_at hl 1 rfl) ?_
      refine lv_iload_n F.1 F.2.1 dX7_farOf_44 rfl (lv_at hl 0 rfl) ?_
      refine z_icmp_le (tgt := 52) F dX7_farOf_45 (by decide) zv_27 ⟨by decide, by decide⟩ (fun c_59 => ?_) (fun c_59 => ?_)
      · refine lv_iload_n F.1 F.2.1 dX7_farOf_52 rfl (lv_at hl 0 rfl) ?_
        refine z_iadd F dX7_farOf_53 ?_
        exact g_iret F hr hlk hH hS hz ⟨by omega, by omega⟩ ⟨rfl, rfl, rfl, rfl, rfl, rfl, by first | omega | rfl | (dsimp only; omega)⟩ dX7_farOf_54
      · refine lv_iload_n F.1 F.2.1 dX7_farOf_48 rfl (lv_at hl 1 rfl) ?_
        refine z_goto (tgt := 53) F dX7_farOf_49 (by decide) ?_
        refine z_iadd F dX7_farOf_53 ?_
        exact g_iret F hr hlk hH hS hz ⟨by omega, by omega⟩ ⟨rfl, rfl, rfl, rfl, rfl, rfl, by first | omega | rfl | (dsimp only; omega)⟩ dX7_farOf_54
  · refine z_iconst F dX7_farOf_8 ?_
    exact g_iret F hr hlk hH hS hz ⟨by decide, by decide⟩ ⟨rfl, rfl, rfl, rfl, rfl, rfl, by first | omega | rfl | (dsimp only; omega)⟩ dX7_farOf_9

def rmX7_farOf16 : Room := { frames := 16, cells := 0, slots := 0, locals := 366 }
set_option maxHeartbeats 4000000 in
set_option maxRecDepth 100000 in
/-- farOf -/
theorem c_X7_farOf16 (l : Launch) (g : gG) (gh : gGh) (T : Nat → Int32) (I : gI) (R : gR) (J : gJ) (AI : gI) (AJ : gJ) (AR : gR) (mo : Nat) (rr : Int) (zrr : zr rr) (hv : mInv g gh R I AI) (hm : gO g mo 7) (hT : AI (gh 50 0) = T) (hr0 : 0 ≤ rr ∧ rr < (I mo 2).toInt ∧ rr < 16) : gMet l g yX7_farOf tsX7_farOf rmX7_farOf16 [.ref mo, .int (iI rr)] (I, R, J, AI, AJ, AR) (gQi g (fun (z : Int) (w : gS) => I = w.1 ∧ R = w.2.1 ∧ J = w.2.2.1 ∧ AI = w.2.2.2.1 ∧ AJ = w.2.2.2.2.1 ∧ AR = w.2.2.2.2.2 ∧ (0 ≤ z ∧ z ≤ 16))) := by
  refine gStart (cc := cX7_farOf) (maxL := 4) (ret := (some (.int))) (by decide) rfl (Nat.le_of_ble_eq_true rfl) ?_
  intro p e s m below meth c ls F hr hlk hH hz hS hl
  have hl : lv_has ls 4 [(0, .ref mo), (1, .int (iI rr))] := hl
  have hS : va_S (gA g) s.heap s.heap [] := hS
  obtain ⟨H, hHe⟩ : ∃ H : Heap, H = s.heap := ⟨_, rfl⟩
  obtain ⟨locs, hlo⟩ : ∃ k : List Loc, k = [] := ⟨_, rfl⟩
  have hH : gH g I R J AI AJ AR H := by rw [hHe]; exact hH
  have hS : va_S (gA g) s.heap H locs := by rw [hHe, hlo]; exact hS
  suffices hw : W p l e rmX7_farOf16 s m ([.ref mo, .int (iI rr)] : List Value).toArray below meth c H locs 0 0 (MQ below (gQi g (fun (z : Int) (w : gS) => I = w.1 ∧ R = w.2.1 ∧ J = w.2.2.1 ∧ AI = w.2.2.2.1 ∧ AJ = w.2.2.2.2.1 ∧ AR = w.2.2.2.2.2 ∧ (0 ≤ z ∧ z ≤ 16))) ([.ref mo, .int (iI rr)] : List Value).toArray s 0 0 (gA g)) (F0 m 0 ls []) by
    rw [hHe, hlo] at hw; exact hw
  clear hHe hlo
  have hb0 := mJ hv hm
  unfold mNum1 at hb0
  have x := mRow hv hm hT (z := rr) (by omega) (by omega)
  have xa := x.1
  have xc := x.2.2.1
  have xb := x.2.1
  refine lv_aload_n F.1 F.2.1 dX7_farOf_0 rfl (lv_at hl 0 rfl) ?_
  refine lv_iload_n F.1 F.2.1 dX7_farOf_1 rfl (lv_at hl 1 rfl) ?_
  have b_1 := mJ hv hm
  unfold mNum1 at b_1
  refine g_calli (g_runV (As := [.int (iI rr)]) (rest := []) (ci := 7) F hl.1 hH hS hz (c_X7_kindOf l g gh T I R J AI AJ AR mo rr zrr hv hm hT (by omega)) (cwV 1 F.2.2.2.2.1 (good_up gT_X7_kindOf) rfl rfl rfl hdX7_kindOf ⟨Nat.le_of_ble_eq_true rfl, Nat.le_of_ble_eq_true rfl⟩) hm (by decide) rfl rfl rfl (Nat.le_of_ble_eq_true rfl) dX7_farOf_2 ⟨Nat.zero_le _, Nat.zero_le _⟩) hS (fun v_8 I_2 R_3 J_4 AI_5 AJ_6 AR_7 H locs zv_8 hp_9 hH hS => ?_)
  dsimp only at hp_9
  obtain ⟨rfl, rfl, rfl, rfl, rfl, rfl, q_10⟩ := hp_9
  refine z_if_ne (tgt := 10) F dX7_farOf_5 (by decide) zv_8 (fun c_11 => ?_) (fun c_11 => ?_)
  · refine lv_aload_n F.1 F.2.1 dX7_farOf_10 rfl (lv_at hl 0 rfl) ?_
    refine lv_aload_n F.1 F.2.1 dX7_farOf_11 rfl (lv_at hl 0 rfl) ?_
    refine lv_iload_n F.1 F.2.1 dX7_farOf_12 rfl (lv_at hl 1 rfl) ?_
    refine g_calli (g_runV (As := [.int (iI rr)]) (rest := [.ref mo]) (ci := 7) F hl.1 hH hS hz (c_X7_firstOf l g gh T I R J AI AJ AR mo rr zrr hv hm hT (by omega)) (cwV 1 F.2.2.2.2.1 (good_up gT_X7_firstOf) rfl rfl rfl hdX7_firstOf ⟨Nat.le_of_ble_eq_true rfl, Nat.le_of_ble_eq_true rfl⟩) hm (by decide) rfl rfl rfl (Nat.le_of_ble_eq_true rfl) dX7_farOf_13 ⟨Nat.zero_le _, Nat.zero_le _⟩) hS (fun v_18 I_12 R_13 J_14 AI_15 AJ_16 AR_17 H locs zv_18 hp_19 hH hS => ?_)
    dsimp only at hp_19
    obtain ⟨rfl, rfl, rfl, rfl, rfl, rfl, q_20⟩ := hp_19
    refine g_calli (g_runV (As := [.int (iI v_18)]) (rest := []) (ci := 7) F hl.1 hH hS hz (c_X7_farOf15 l g gh T I R J AI AJ AR mo v_18 zv_18 hv hm hT (by omega)) (cwV 1 F.2.2.2.2.1 (good_up gT_X7_farOf) rfl rfl rfl hdX7_farOf ⟨Nat.le_of_ble_eq_true rfl, Nat.le_of_ble_eq_true rfl⟩) hm (by decide) rfl rfl rfl (Nat.le_of_ble_eq_true rfl) dX7_farOf_16 ⟨Nat.zero_le _, Nat.zero_le _⟩) hS (fun v_27 I_21 R_22 J_23 AI_24 AJ_25 AR_26 H locs zv_27 hp_28 hH hS => ?_)
    dsimp only at hp_28
    obtain ⟨rfl, rfl, rfl, rfl, rfl, rfl, q_29⟩ := hp_28
    refine lv_istore_n (lv' := [(2, .int (iI v_27)), (0, .ref mo), (1, .int (iI rr))]) F.1 F.2.1 dX7_farOf_19 rfl hl (by decide) rfl (fun ls hl => ?_)
    refine lv_aload_n F.1 F.2.1 dX7_farOf_20 rfl (lv_at hl 1 rfl) ?_
    refine lv_iload_n F.1 F.2.1 dX7_farOf_21 rfl (lv_at hl 2 rfl) ?_
    refine g_calli (g_runV (As := [.int (iI rr)]) (rest := []) (ci := 7) F hl.1 hH hS hz (c_X7_secondOf l g gh T I R J AI AJ AR mo rr zrr hv hm hT (by omega)) (cwV 1 F.2.2.2.2.1 (good_up gT_X7_secondOf) rfl rfl rfl hdX7_secondOf ⟨Nat.le_of_ble_eq_true rfl, Nat.le_of_ble_eq_true rfl⟩) hm (by decide) rfl rfl rfl (Nat.le_of_ble_eq_true rfl) dX7_farOf_22 ⟨Nat.zero_le _, Nat.zero_le _⟩) hS (fun v_36 I_30 R_31 J_32 AI_33 AJ_34 AR_35 H locs zv_36 hp_37 hH hS => ?_)
    dsimp only at hp_37
    obtain ⟨rfl, rfl, rfl, rfl, rfl, rfl, q_38⟩ := hp_37
    refine z_if_ge (tgt := 32) F dX7_farOf_25 (by decide) zv_36 (fun c_39 => ?_) (fun c_39 => ?_)
    · refine lv_aload_n F.1 F.2.1 dX7_farOf_32 rfl (lv_at hl 1 rfl) ?_
      refine lv_aload_n F.1 F.2.1 dX7_farOf_33 rfl (lv_at hl 1 rfl) ?_
      refine lv_iload_n F.1 F.2.1 dX7_farOf_34 rfl (lv_at hl 2 rfl) ?_
      refine g_calli (g_runV (As := [.int (iI rr)]) (rest := [.ref mo]) (ci := 7) F hl.1 hH hS hz (c_X7_secondOf l g gh T I R J AI AJ AR mo rr zrr hv hm hT (by omega)) (cwV 1 F.2.2.2.2.1 (good_up gT_X7_secondOf) rfl rfl rfl hdX7_secondOf ⟨Nat.le_of_ble_eq_true rfl, Nat.le_of_ble_eq_true rfl⟩) hm (by decide) rfl rfl rfl (Nat.le_of_ble_eq_true rfl) dX7_farOf_35 ⟨Nat.zero_le _, Nat.zero_le _⟩) hS (fun v_46 I_40 R_41 J_42 AI_43 AJ_44 AR_45 H locs zv_46 hp_47 hH hS => ?_)
      dsimp only at hp_47
      obtain ⟨rfl, rfl, rfl, rfl, rfl, rfl, q_48⟩ := hp_47
      refine g_calli (g_runV (As := [.int (iI v_46)]) (rest := []) (ci := 7) F hl.1 hH hS hz (c_X7_farOf15 l g gh T I R J AI AJ AR mo v_46 zv_46 hv hm hT (by omega)) (cwV 1 F.2.2.2.2.1 (good_up gT_X7_farOf) rfl rfl rfl hdX7_farOf ⟨Nat.le_of_ble_eq_true rfl, Nat.le_of_ble_eq_true rfl⟩) hm (by decide) rfl rfl rfl (Nat.le_of_ble_eq_true rfl) dX7_farOf_38 ⟨Nat.zero_le _, Nat.zero_le _⟩) hS (fun v_55 I_49 R_50 J_51 AI_52 AJ_53 AR_54 H locs zv_55 hp_56 hH hS => ?_)
      dsimp only at hp_56
      obtain ⟨rfl, rfl, rfl, rfl, rfl, rfl, q_57⟩ := hp_56
      refine lv_istore_n (lv' := [(3, .int (iI v_55)), (2, .int (iI v_27)), (0, .ref mo), (1, .int (iI rr))]) F.1 F.2.1 dX7_farOf_41 rfl hl (by decide) rfl (fun ls hl => ?_)
      refine z_iconst F dX7_farOf_42 ?_
      refine lv_iload_n F.1 F.2.1 dX7_farOf_43 rfl (lv_at hl 1 rfl) ?_
      refine lv_iload_n F.1 F.2.1 dX7_farOf_44 rfl (lv_at hl 0 rfl) ?_
      refine z_icmp_le (tgt := 52) F dX7_farOf_45 (by decide) zv_27 zv_55 (fun c_58 => ?_) (fun c_58 => ?_)
      · refine lv_iload_n F.1 F.2.1 dX7_farOf_52 rfl (lv_at hl 0 rfl) ?_
        refine z_iadd F dX7_farOf_53 ?_
        exact g_iret F hr hlk hH hS hz ⟨by omega, by omega⟩ ⟨rfl, rfl, rfl, rfl, rfl, rfl, by first | omega | rfl | (dsimp only; omega)⟩ dX7_farOf_54
      · refine lv_iload_n F.1 F.2.1 dX7_farOf_48 rfl (lv_at hl 1 rfl) ?_
        refine z_goto (tgt := 53) F dX7_farOf_49 (by decide) ?_
        refine z_iadd F dX7_farOf_53 ?_
        exact g_iret F hr hlk hH hS hz ⟨by omega, by omega⟩ ⟨rfl, rfl, rfl, rfl, rfl, rfl, by first | omega | rfl | (dsimp only; omega)⟩ dX7_farOf_54
    · refine z_iconst F dX7_farOf_28 ?_
      refine z_goto (tgt := 41) F dX7_farOf_29 (by decide) ?_
      refine lv_istore_n (lv' := [(3, .int (iI 0)), (2, .int (iI v_27)), (0, .ref mo), (1, .int (iI rr))]) F.1 F.2.1 dX7_farOf_41 rfl hl (by decide) rfl (fun ls hl => ?_)
      refine z_iconst F dX7_farOf_42 ?_
      refine lv_iload_n F.1 F.2.1 dX7_farOf_43 rfl (lv_at hl 1 rfl) ?_
      refine lv_iload_n F.1 F.2.1 dX7_farOf_44 rfl (lv_at hl 0 rfl) ?_
      refine z_icmp_le (tgt := 52) F dX7_farOf_45 (by decide) zv_27 ⟨by decide, by decide⟩ (fun c_59 => ?_) (fun c_59 => ?_)
      · refine lv_iload_n F.1 F.2.1 dX7_farOf_52 rfl (lv_at hl 0 rfl) ?_
        refine z_iadd F dX7_farOf_53 ?_
        exact g_iret F hr hlk hH hS hz ⟨by omega, by omega⟩ ⟨rfl, rfl, rfl, rfl, rfl, rfl, by first | omega | rfl | (dsimp only; omega)⟩ dX7_farOf_54
      · refine lv_iload_n F.1 F.2.1 dX7_farOf_48 rfl (lv_at hl 1 rfl) ?_
        refine z_goto (tgt := 53) F dX7_farOf_49 (by decide) ?_
        refine z_iadd F dX7_farOf_53 ?_
        exact g_iret F hr hlk hH hS hz ⟨by omega, by omega⟩ ⟨rfl, rfl, rfl, rfl, rfl, rfl, by first | omega | rfl | (dsimp only; omega)⟩ dX7_farOf_54
  · refine z_iconst F dX7_farOf_8 ?_
    exact g_iret F hr hlk hH hS hz ⟨by decide, by decide⟩ ⟨rfl, rfl, rfl, rfl, rfl, rfl, by first | omega | rfl | (dsimp only; omega)⟩ dX7_farOf_9

def rmX7_hangOn : Room := { frames := 17, cells := 0, slots := 0, locals := 373 }
theorem hdX7_hangOn : yX7_hangOn.cls = RX7 ∧ yX7_hangOn.cls ≠ "java/lang/invoke/MethodHandle" ∧ yX7_hangOn.cls ≠ "java/lang/invoke/VarHandle" ∧ (parseMethodDescriptor yX7_hangOn.desc).map (fun d => d.parameters.length) = some 1 := by decide +kernel
set_option maxHeartbeats 4000000 in
set_option maxRecDepth 100000 in
/-- what hangs on it -/
theorem c_X7_hangOn (l : Launch) (g : gG) (gh : gGh) (T : Nat → Int32) (I : gI) (R : gR) (J : gJ) (AI : gI) (AJ : gJ) (AR : gR) (mo : Nat) (rr : Int) (zrr : zr rr) (hv : mInv g gh R I AI) (hm : gO g mo 7) (hT : AI (gh 50 0) = T) : gMet l g yX7_hangOn tsX7_hangOn rmX7_hangOn [.ref mo, .int (iI rr)] (I, R, J, AI, AJ, AR) (gQi g (fun (z : Int) (w : gS) => I = w.1 ∧ R = w.2.1 ∧ J = w.2.2.1 ∧ AI = w.2.2.2.1 ∧ AJ = w.2.2.2.2.1 ∧ AR = w.2.2.2.2.2)) := by
  refine gStart (cc := cX7_hangOn) (maxL := 4) (ret := (some (.int))) (by decide) rfl (Nat.le_of_ble_eq_true rfl) ?_
  intro p e s m below meth c ls F hr hlk hH hz hS hl
  have hl : lv_has ls 4 [(0, .ref mo), (1, .int (iI rr))] := hl
  have hS : va_S (gA g) s.heap s.heap [] := hS
  obtain ⟨H, hHe⟩ : ∃ H : Heap, H = s.heap := ⟨_, rfl⟩
  obtain ⟨locs, hlo⟩ : ∃ k : List Loc, k = [] := ⟨_, rfl⟩
  have hH : gH g I R J AI AJ AR H := by rw [hHe]; exact hH
  have hS : va_S (gA g) s.heap H locs := by rw [hHe, hlo]; exact hS
  suffices hw : W p l e rmX7_hangOn s m ([.ref mo, .int (iI rr)] : List Value).toArray below meth c H locs 0 0 (MQ below (gQi g (fun (z : Int) (w : gS) => I = w.1 ∧ R = w.2.1 ∧ J = w.2.2.1 ∧ AI = w.2.2.2.1 ∧ AJ = w.2.2.2.2.1 ∧ AR = w.2.2.2.2.2)) ([.ref mo, .int (iI rr)] : List Value).toArray s 0 0 (gA g)) (F0 m 0 ls []) by
    rw [hHe, hlo] at hw; exact hw
  clear hHe hlo
  have hb0 := mJ hv hm
  unfold mNum1 at hb0
  have iX7 : ∀ w ∈ u_ws RX7 TX7 32, w ∈ tsX7_hangOn := fun w h => List.mem_cons_of_mem _ (inTB7 w h)
  have k64 : Cond.fieldLink RX7 64 (TX7 2).1 (TX7 2).2.1 (TX7 2).2.2.1 ∈ tsX7_hangOn := List.mem_cons_of_mem _ fl_64
  refine z_iconst F dX7_hangOn_0 ?_
  refine lv_istore_n (lv' := [(2, .int (iI 0)), (0, .ref mo), (1, .int (iI rr))]) F.1 F.2.1 dX7_hangOn_1 rfl hl (by decide) rfl (fun ls hl => ?_)
  refine z_iconst F dX7_hangOn_2 ?_
  refine lv_istore_n (lv' := [(3, .int (iI 0)), (2, .int (iI 0)), (0, .ref mo), (1, .int (iI rr))]) F.1 F.2.1 dX7_hangOn_3 rfl hl (by decide) rfl (fun ls hl => ?_)
  have cut_4_0 : ∀ (NN : Nat) (se k : Int) (H : Heap) (locs : List Loc) (ls : Array Slot), zr se → zr k → (0 ≤ k ∧ k ≤ 16) → (16 - k) < ((NN : Nat) : Int) → gH g I R J AI AJ AR H → va_S (gA g) s.heap H locs → lv_has ls 4 [(3, .int (iI k)), (2, .int (iI se)), (0, .ref mo), (1, .int (iI rr))] → W p l e rmX7_hangOn s m ([.ref mo, .int (iI rr)] : List Value).toArray below meth c H locs 0 0 (MQ below (gQi g (fun (z : Int) (w : gS) => I = w.1 ∧ R = w.2.1 ∧ J = w.2.2.1 ∧ AI = w.2.2.2.1 ∧ AJ = w.2.2.2.2.1 ∧ AR = w.2.2.2.2.2)) ([.ref mo, .int (iI rr)] : List Value).toArray s 0 0 (gA g)) (F0 m 4 ls []) := by
    intro NN4
    induction NN4 with
    | zero =>
      intro se k H locs ls zse zk hk hm4 hH hS hl
      exact absurd hm4 (by omega)
    | succ NN4 ih4 =>
      intro se k H locs ls zse zk hk hm4 hH hS hl
      refine lv_iload_n F.1 F.2.1 dX7_hangOn_4 rfl (lv_at hl 0 rfl) ?_
      refine lv_aload_n F.1 F.2.1 dX7_hangOn_5 rfl (lv_at hl 2 rfl) ?_
      refine g_getI (ci := 7) (k := 2) F hH rfl (by decide) iX7 hm (by decide) rfl k64 dX7_hangOn_6 ?_
      have b_2 := mJ hv hm
      unfold mNum1 at b_2
      refine z_icmp_ge (tgt := 37) F dX7_hangOn_9 (by decide) zk (zr_t _) (fun c_3 => ?_) (fun c_3 => ?_)
      · refine lv_iload_n F.1 F.2.1 dX7_hangOn_37 rfl (lv_at hl 1 rfl) ?_
        exact g_iret F hr hlk hH hS hz zse ⟨rfl, rfl, rfl, rfl, rfl, rfl⟩ dX7_hangOn_38
      · refine lv_aload_n F.1 F.2.1 dX7_hangOn_12 rfl (lv_at hl 2 rfl) ?_
        refine lv_iload_n F.1 F.2.1 dX7_hangOn_13 rfl (lv_at hl 0 rfl) ?_
        refine g_calli (g_runV (As := [.int (iI k)]) (rest := []) (ci := 7) F hl.1 hH hS hz (c_X7_hangsOn16 l g gh T I R J AI AJ AR mo k zk hv hm hT (by omega)) (cwV 1 F.2.2.2.2.1 (good_up gT_X7_hangsOn) rfl rfl rfl hdX7_hangsOn ⟨Nat.le_of_ble_eq_true rfl, Nat.le_of_ble_eq_true rfl⟩) hm (by decide) rfl rfl rfl (Nat.le_of_ble_eq_true rfl) dX7_hangOn_14 ⟨Nat.zero_le _, Nat.zero_le _⟩) hS (fun v_10 I_4 R_5 J_6 AI_7 AJ_8 AR_9 H locs zv_10 hp_11 hH hS => ?_)
        dsimp only at hp_11
        obtain ⟨rfl, rfl, rfl, rfl, rfl, rfl⟩ := hp_11
        refine lv_iload_n F.1 F.2.1 dX7_hangOn_17 rfl (lv_at hl 3 rfl) ?_
        refine lv_ishr F.1 F.2.1 dX7_hangOn_18 ?_
        refine z_top (fun v_12 zv_12 ev_12 => ?_)
        refine z_iconst F dX7_hangOn_19 ?_
        refine lv_iand F.1 F.2.1 dX7_hangOn_20 ?_
        refine z_top (fun v_13 zv_13 ev_13 => ?_)
        refine z_iconst F dX7_hangOn_21 ?_
        refine z_icmp_ne (tgt := 31) F dX7_hangOn_22 (by decide) zv_13 ⟨by decide, by decide⟩ (fun c_14 => ?_) (fun c_14 => ?_)
        · refine z_iinc (lv' := [(3, .int (iI (k + 1))), (2, .int (iI se)), (0, .ref mo), (1, .int (iI rr))]) F dX7_hangOn_31 hl (k := 0) rfl (by decide) rfl (fun ls hl => ?_)
          refine z_goto (tgt := 4) F dX7_hangOn_34 (by decide) ?_
          exact ih4 se (k + 1) H locs ls zse ⟨by omega, by omega⟩ (by omega) (by omega) hH hS (lv_sub hl [0, 1, 2, 3] rfl)
        · refine lv_iload_n F.1 F.2.1 dX7_hangOn_25 rfl (lv_at hl 1 rfl) ?_
          refine z_iconst F dX7_hangOn_26 ?_
          refine lv_iload_n F.1 F.2.1 dX7_hangOn_27 rfl (lv_at hl 0 rfl) ?_
          refine lv_ishl F.1 F.2.1 dX7_hangOn_28 ?_
          refine z_top (fun v_15 zv_15 ev_15 => ?_)
          refine lv_ior F.1 F.2.1 dX7_hangOn_29 ?_
          refine z_top (fun v_16 zv_16 ev_16 => ?_)
          refine lv_istore_n (lv' := [(2, .int (iI v_16)), (3, .int (iI k)), (0, .ref mo), (1, .int (iI rr))]) F.1 F.2.1 dX7_hangOn_30 rfl hl (by decide) rfl (fun ls hl => ?_)
          refine z_iinc (lv' := [(3, .int (iI (k + 1))), (2, .int (iI v_16)), (0, .ref mo), (1, .int (iI rr))]) F dX7_hangOn_31 hl (k := 1) rfl (by decide) rfl (fun ls hl => ?_)
          refine z_goto (tgt := 4) F dX7_hangOn_34 (by decide) ?_
          exact ih4 v_16 (k + 1) H locs ls zv_16 ⟨by omega, by omega⟩ (by omega) (by omega) hH hS (lv_sub hl [0, 1, 2, 3] rfl)
  exact cut_4_0 (((16 - 0) + 1 : Int).toNat) 0 0 H locs ls ⟨by decide, by decide⟩ ⟨by decide, by decide⟩ (by omega) (by omega) hH hS (lv_sub hl [0, 1, 2, 3] rfl)

theorem hdX7_of : yX7_of.cls = RX7 ∧ yX7_of.cls ≠ "java/lang/invoke/MethodHandle" ∧ yX7_of.cls ≠ "java/lang/invoke/VarHandle" ∧ (parseMethodDescriptor yX7_of.desc).map (fun d => d.parameters.length) = some 2 := by decide +kernel
theorem hdX7_differs : yX7_differs.cls = RX7 ∧ yX7_differs.cls ≠ "java/lang/invoke/MethodHandle" ∧ yX7_differs.cls ≠ "java/lang/invoke/VarHandle" ∧ (parseMethodDescriptor yX7_differs.desc).map (fun d => d.parameters.length) = some 1 := by decide +kernel
theorem hdX7_column_ : yX7_column_.cls = RX7 ∧ yX7_column_.cls ≠ "java/lang/invoke/MethodHandle" ∧ yX7_column_.cls ≠ "java/lang/invoke/VarHandle" ∧ (parseMethodDescriptor yX7_column_.desc).map (fun d => d.parameters.length) = some 3 := by decide +kernel
theorem hdX7_told : yX7_told.cls = RX7 ∧ yX7_told.cls ≠ "java/lang/invoke/MethodHandle" ∧ yX7_told.cls ≠ "java/lang/invoke/VarHandle" ∧ (parseMethodDescriptor yX7_told.desc).map (fun d => d.parameters.length) = some 1 := by decide +kernel