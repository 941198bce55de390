def rmX7_hangsOn : Room := { frames := 1, cells := 0, slots := 0, locals := 21 }
theorem hdX7_hangsOn : yX7_hangsOn.cls = RX7 ∧ yX7_hangsOn.cls ≠ "java/lang/invoke/MethodHandle" ∧ yX7_hangsOn.cls ≠ "java/lang/invoke/VarHandle" ∧ (parseMethodDescriptor yX7_hangsOn.desc).map (fun d => d.parameters.length) = some 1 := by decide +kernel
set_option maxHeartbeats 4000000 in
set_option maxRecDepth 100000 in
/-- hangsOn -/
theorem c_X7_hangsOn (l : Launch) (g : gG) (gh : gGh) (T : Nat → Int32) (I : gI) (R : gR) (J : gJ) (AI : gI) (AJ : gJ) (AR : gR) (mo : Nat) (rr : Int) (zrr : zr rr) (hv : mInv g gh R I AI) (hm : gO g mo 7) (hT : AI (gh 50 0) = T) (hr0 : 0 ≤ rr ∧ rr < (I mo 2).toInt ∧ rr < 1) : gMet l g yX7_hangsOn tsX7_hangsOn rmX7_hangsOn [.ref mo, .int (iI rr)] (I, R, J, AI, AJ, AR) (gQi g (fun (z : Int) (w : gS) => I = w.1 ∧ R = w.2.1 ∧ J = w.2.2.1 ∧ AI = w.2.2.2.1 ∧ AJ = w.2.2.2.2.1 ∧ AR = w.2.2.2.2.2)) := by
  refine gStart (cc := cX7_hangsOn) (maxL := 3) (ret := (some (.int))) (by decide) rfl (Nat.le_of_ble_eq_true rfl) ?_
  intro p e s m below meth c ls F hr hlk hH hz hS hl
  have hl : lv_has ls 3 [(0, .ref mo), (1, .int (iI rr))] := hl
  have hS : va_S (gA g) s.heap s.heap [] := hS
  obtain ⟨H, hHe⟩ : ∃ H : Heap, H = s.heap := ⟨_, rfl⟩
  obtain ⟨locs, hlo⟩ : ∃ k : List Loc, k = [] := ⟨_, rfl⟩
  have hH : gH g I R J AI AJ AR H := by rw [hHe]; exact hH
  have hS : va_S (gA g) s.heap H locs := by rw [hHe, hlo]; exact hS
  suffices hw : W p l e rmX7_hangsOn s m ([.ref mo, .int (iI rr)] : List Value).toArray below meth c H locs 0 0 (MQ below (gQi g (fun (z : Int) (w : gS) => I = w.1 ∧ R = w.2.1 ∧ J = w.2.2.1 ∧ AI = w.2.2.2.1 ∧ AJ = w.2.2.2.2.1 ∧ AR = w.2.2.2.2.2)) ([.ref mo, .int (iI rr)] : List Value).toArray s 0 0 (gA g)) (F0 m 0 ls []) by
    rw [hHe, hlo] at hw; exact hw
  clear hHe hlo
  have hb0 := mJ hv hm
  unfold mNum1 at hb0
  have x := mRow hv hm hT (z := rr) (by omega) (by omega)
  have xa := x.1
  have xc := x.2.2.1
  have xb := x.2.1
  refine lv_aload_n F.1 F.2.1 dX7_hangsOn_0 rfl (lv_at hl 0 rfl) ?_
  refine lv_iload_n F.1 F.2.1 dX7_hangsOn_1 rfl (lv_at hl 1 rfl) ?_
  have b_1 := mJ hv hm
  unfold mNum1 at b_1
  refine g_calli (g_runV (As := [.int (iI rr)]) (rest := []) (ci := 7) F hl.1 hH hS hz (c_X7_kindOf l g gh T I R J AI AJ AR mo rr zrr hv hm hT (by omega)) (cwV 1 F.2.2.2.2.1 (good_up gT_X7_kindOf) rfl rfl rfl hdX7_kindOf ⟨Nat.le_of_ble_eq_true rfl, Nat.le_of_ble_eq_true rfl⟩) hm (by decide) rfl rfl rfl (Nat.le_of_ble_eq_true rfl) dX7_hangsOn_2 ⟨Nat.zero_le _, Nat.zero_le _⟩) hS (fun v_8 I_2 R_3 J_4 AI_5 AJ_6 AR_7 H locs zv_8 hp_9 hH hS => ?_)
  dsimp only at hp_9
  obtain ⟨rfl, rfl, rfl, rfl, rfl, rfl, q_10⟩ := hp_9
  refine z_if_ne (tgt := 10) F dX7_hangsOn_5 (by decide) zv_8 (fun c_11 => ?_) (fun c_11 => ?_)
  · exact absurd trivial (by omega)
  · refine z_iconst F dX7_hangsOn_8 ?_
    exact g_iret F hr hlk hH hS hz ⟨by decide, by decide⟩ ⟨rfl, rfl, rfl, rfl, rfl, rfl⟩ dX7_hangsOn_9

def rmX7_hangsOn2 : Room := { frames := 2, cells := 0, slots := 0, locals := 43 }
set_option maxHeartbeats 4000000 in
set_option maxRecDepth 100000 in
/-- hangsOn -/
theorem c_X7_hangsOn2 (l : Launch) (g : gG) (gh : gGh) (T : Nat → Int32) (I : gI) (R : gR) (J : gJ) (AI : gI) (AJ : gJ) (AR : gR) (mo : Nat) (rr : Int) (zrr : zr rr) (hv : mInv g gh R I AI) (hm : gO g mo 7) (hT : AI (gh 50 0) = T) (hr0 : 0 ≤ rr ∧ rr < (I mo 2).toInt ∧ rr < 2) : gMet l g yX7_hangsOn tsX7_hangsOn rmX7_hangsOn2 [.ref mo, .int (iI rr)] (I, R, J, AI, AJ, AR) (gQi g (fun (z : Int) (w : gS) => I = w.1 ∧ R = w.2.1 ∧ J = w.2.2.1 ∧ AI = w.2.2.2.1 ∧ AJ = w.2.2.2.2.1 ∧ AR = w.2.2.2.2.2)) := by
  refine gStart (cc := cX7_hangsOn) (maxL := 3) (ret := (some (.int))) (by decide) rfl (Nat.le_of_ble_eq_true rfl) ?_
  intro p e s m below meth c ls F hr hlk hH hz hS hl
  have hl : lv_has ls 3 [(0, .ref mo), (1, .int (iI rr))] := hl
  have hS : va_S (gA g) s.heap s.heap [] := hS
  obtain ⟨H, hHe⟩ : ∃ H : Heap, H = s.heap := ⟨_, rfl⟩
  obtain ⟨locs, hlo⟩ : ∃ k : List Loc, k = [] := ⟨_, rfl⟩
  have hH : gH g I R J AI AJ AR H := by rw [hHe]; exact hH
  have hS : va_S (gA g) s.heap H locs := by rw [hHe, hlo]; exact hS
  suffices hw : W p l e rmX7_hangsOn2 s m ([.ref mo, .int (iI rr)] : List Value).toArray below meth c H locs 0 0 (MQ below (gQi g (fun (z : Int) (w : gS) => I = w.1 ∧ R = w.2.1 ∧ J = w.2.2.1 ∧ AI = w.2.2.2.1 ∧ AJ = w.2.2.2.2.1 ∧ AR = w.2.2.2.2.2)) ([.ref mo, .int (iI rr)] : List Value).toArray s 0 0 (gA g)) (F0 m 0 ls []) by
    rw [hHe, hlo] at hw; exact hw
  clear hHe hlo
  have hb0 := mJ hv hm
  unfold mNum1 at hb0
  have x := mRow hv hm hT (z := rr) (by omega) (by omega)
  have xa := x.1
  have xc := x.2.2.1
  have xb := x.2.1
  refine lv_aload_n F.1 F.2.1 dX7_hangsOn_0 rfl (lv_at hl 0 rfl) ?_
  refine lv_iload_n F.1 F.2.1 dX7_hangsOn_1 rfl (lv_at hl 1 rfl) ?_
  have b_1 := mJ hv hm
  unfold mNum1 at b_1
  refine g_calli (g_runV (As := [.int (iI rr)]) (rest := []) (ci := 7) F hl.1 hH hS hz (c_X7_kindOf l g gh T I R J AI AJ AR mo rr zrr hv hm hT (by omega)) (cwV 1 F.2.2.2.2.1 (good_up gT_X7_kindOf) rfl rfl rfl hdX7_kindOf ⟨Nat.le_of_ble_eq_true rfl, Nat.le_of_ble_eq_true rfl⟩) hm (by decide) rfl rfl rfl (Nat.le_of_ble_eq_true rfl) dX7_hangsOn_2 ⟨Nat.zero_le _, Nat.zero_le _⟩) hS (fun v_8 I_2 R_3 J_4 AI_5 AJ_6 AR_7 H locs zv_8 hp_9 hH hS => ?_)
  dsimp only at hp_9
  obtain ⟨rfl, rfl, rfl, rfl, rfl, rfl, q_10⟩ := hp_9
  refine z_if_ne (tgt := 10) F dX7_hangsOn_5 (by decide) zv_8 (fun c_11 => ?_) (fun c_11 => ?_)
  · refine z_iconst F dX7_hangsOn_10 ?_
    refine lv_aload_n F.1 F.2.1 dX7_hangsOn_11 rfl (lv_at hl 0 rfl) ?_
    refine lv_iload_n F.1 F.2.1 dX7_hangsOn_12 rfl (lv_at hl 1 rfl) ?_
    refine g_calli (g_runV (As := [.int (iI rr)]) (rest := [.int (iI 1)]) (ci := 7) F hl.1 hH hS hz (c_X7_firstOf l g gh T I R J AI AJ AR mo rr zrr hv hm hT (by omega)) (cwV 1 F.2.2.2.2.1 (good_up gT_X7_firstOf) rfl rfl rfl hdX7_firstOf ⟨Nat.le_of_ble_eq_true rfl, Nat.le_of_ble_eq_true rfl⟩) hm (by decide) rfl rfl rfl (Nat.le_of_ble_eq_true rfl) dX7_hangsOn_13 ⟨Nat.zero_le _, Nat.zero_le _⟩) hS (fun v_18 I_12 R_13 J_14 AI_15 AJ_16 AR_17 H locs zv_18 hp_19 hH hS => ?_)
    dsimp only at hp_19
    obtain ⟨rfl, rfl, rfl, rfl, rfl, rfl, q_20⟩ := hp_19
    refine lv_ishl F.1 F.2.1 dX7_hangsOn_16 ?_
    refine z_top (fun v_21 zv_21 ev_21 => ?_)
    refine lv_aload_n F.1 F.2.1 dX7_hangsOn_17 rfl (lv_at hl 0 rfl) ?_
    refine lv_aload_n F.1 F.2.1 dX7_hangsOn_18 rfl (lv_at hl 0 rfl) ?_
    refine lv_iload_n F.1 F.2.1 dX7_hangsOn_19 rfl (lv_at hl 1 rfl) ?_
    refine g_calli (g_runV (As := [.int (iI rr)]) (rest := [.ref mo, .int (iI v_21)]) (ci := 7) F hl.1 hH hS hz (c_X7_firstOf l g gh T I R J AI AJ AR mo rr zrr hv hm hT (by omega)) (cwV 1 F.2.2.2.2.1 (good_up gT_X7_firstOf) rfl rfl rfl hdX7_firstOf ⟨Nat.le_of_ble_eq_true rfl, Nat.le_of_ble_eq_true rfl⟩) hm (by decide) rfl rfl rfl (Nat.le_of_ble_eq_true rfl) dX7_hangsOn_20 ⟨Nat.zero_le _, Nat.zero_le _⟩) hS (fun v_28 I_22 R_23 J_24 AI_25 AJ_26 AR_27 H locs zv_28 hp_29 hH hS => ?_)
    dsimp only at hp_29
    obtain ⟨rfl, rfl, rfl, rfl, rfl, rfl, q_30⟩ := hp_29
    refine g_calli (g_runV (As := [.int (iI v_28)]) (rest := [.int (iI v_21)]) (ci := 7) F hl.1 hH hS hz (c_X7_hangsOn l g gh T I R J AI AJ AR mo v_28 zv_28 hv hm hT (by omega)) (cwV 1 F.2.2.2.2.1 (good_up gT_X7_hangsOn) rfl rfl rfl hdX7_hangsOn ⟨Nat.le_of_ble_eq_true rfl, Nat.le_of_ble_eq_true rfl⟩) hm (by decide) rfl rfl rfl (Nat.le_of_ble_eq_true rfl) dX7_hangsOn_23 ⟨Nat.zero_le _, Nat.zero_le _⟩) hS (fun v_37 I_31 R_32 J_33 AI_34 AJ_35 AR_36 H locs zv_37 hp_38 hH hS => ?_)
    dsimp only at hp_38
    obtain ⟨rfl, rfl, rfl, rfl, rfl, rfl⟩ := hp_38
    refine lv_ior F.1 F.2.1 dX7_hangsOn_26 ?_
    refine z_top (fun v_39 zv_39 ev_39 => ?_)
    refine lv_istore_n (lv' := [(2, .int (iI v_39)), (0, .ref mo), (1, .int (iI rr))]) F.1 F.2.1 dX7_hangsOn_27 rfl hl (by decide) rfl (fun ls hl => ?_)
    refine lv_aload_n F.1 F.2.1 dX7_hangsOn_28 rfl (lv_at hl 1 rfl) ?_
    refine lv_iload_n F.1 F.2.1 dX7_hangsOn_29 rfl (lv_at hl 2 rfl) ?_
    refine g_calli (g_runV (As := [.int (iI rr)]) (rest := []) (ci := 7) F hl.1 hH hS hz (c_X7_secondOf l g gh T I R J AI AJ AR mo rr zrr hv hm hT (by omega)) (cwV 1 F.2.2.2.2.1 (good_up gT_X7_secondOf) rfl rfl rfl hdX7_secondOf ⟨Nat.le_of_ble_eq_true rfl, Nat.le_of_ble_eq_true rfl⟩) hm (by decide) rfl rfl rfl (Nat.le_of_ble_eq_true rfl) dX7_hangsOn_30 ⟨Nat.zero_le _, Nat.zero_le _⟩) hS (fun v_46 I_40 R_41 J_42 AI_43 AJ_44 AR_45 H locs zv_46 hp_47 hH hS => ?_)
    dsimp only at hp_47
    obtain ⟨rfl, rfl, rfl, rfl, rfl, rfl, q_48⟩ := hp_47
    refine z_if_ge (tgt := 40) F dX7_hangsOn_33 (by decide) zv_46 (fun c_49 => ?_) (fun c_49 => ?_)
    · refine lv_iload_n F.1 F.2.1 dX7_hangsOn_40 rfl (lv_at hl 0 rfl) ?_
      refine z_iconst F dX7_hangsOn_41 ?_
      refine lv_aload_n F.1 F.2.1 dX7_hangsOn_42 rfl (lv_at hl 1 rfl) ?_
      refine lv_iload_n F.1 F.2.1 dX7_hangsOn_43 rfl (lv_at hl 2 rfl) ?_
      refine g_calli (g_runV (As := [.int (iI rr)]) (rest := [.int (iI 1), .int (iI v_39)]) (ci := 7) F hl.1 hH hS hz (c_X7_secondOf l g gh T I R J AI AJ AR mo rr zrr hv hm hT (by omega)) (cwV 1 F.2.2.2.2.1 (good_up gT_X7_secondOf) rfl rfl rfl hdX7_secondOf ⟨Nat.le_of_ble_eq_true rfl, Nat.le_of_ble_eq_true rfl⟩) hm (by decide) rfl rfl rfl (Nat.le_of_ble_eq_true rfl) dX7_hangsOn_44 ⟨Nat.zero_le _, Nat.zero_le _⟩) hS (fun v_56 I_50 R_51 J_52 AI_53 AJ_54 AR_55 H locs zv_56 hp_57 hH hS => ?_)
      dsimp only at hp_57
      obtain ⟨rfl, rfl, rfl, rfl, rfl, rfl, q_58⟩ := hp_57
      refine lv_ishl F.1 F.2.1 dX7_hangsOn_47 ?_
      refine z_top (fun v_59 zv_59 ev_59 => ?_)
      refine lv_ior F.1 F.2.1 dX7_hangsOn_48 ?_
      refine z_top (fun v_60 zv_60 ev_60 => ?_)
      refine lv_aload_n F.1 F.2.1 dX7_hangsOn_49 rfl (lv_at hl 1 rfl) ?_
      refine lv_aload_n F.1 F.2.1 dX7_hangsOn_50 rfl (lv_at hl 1 rfl) ?_
      refine lv_iload_n F.1 F.2.1 dX7_hangsOn_51 rfl (lv_at hl 2 rfl) ?_
      refine g_calli (g_runV (As := [.int (iI rr)]) (rest := [.ref mo, .int (iI v_60)]) (ci := 7) F hl.1 hH hS hz (c_X7_secondOf l g gh T I R J AI AJ AR mo rr zrr hv hm hT (by omega)) (cwV 1 F.2.2.2.2.1 (good_up gT_X7_secondOf) rfl rfl rfl hdX7_secondOf ⟨Nat.le_of_ble_eq_true rfl, Nat.le_of_ble_eq_true rfl⟩) hm (by decide) rfl rfl rfl (Nat.le_of_ble_eq_true rfl) dX7_hangsOn_52 ⟨Nat.zero_le _, Nat.zero_le _⟩) hS (fun v_67 I_61 R_62 J_63 AI_64 AJ_65 AR_66 H locs zv_67 hp_68 hH hS => ?_)
      dsimp only at hp_68
      obtain ⟨rfl, rfl, rfl, rfl, rfl, rfl, q_69⟩ := hp_68
      refine g_calli (g_runV (As := [.int (iI v_67)]) (rest := [.int (iI v_60)]) (ci := 7) F hl.1 hH hS hz (c_X7_hangsOn l g gh T I R J AI AJ AR mo v_67 zv_67 hv hm hT (by omega)) (cwV 1 F.2.2.2.2.1 (good_up gT_X7_hangsOn) rfl rfl rfl hdX7_hangsOn ⟨Nat.le_of_ble_eq_true rfl, Nat.le_of_ble_eq_true rfl⟩) hm (by decide) rfl rfl rfl (Nat.le_of_ble_eq_true rfl) dX7_hangsOn_55 ⟨Nat.zero_le _, Nat.zero_le _⟩) hS (fun v_76 I_70 R_71 J_72 AI_73 AJ_74 AR_75 H locs zv_76 hp_77 hH hS => ?_)
      dsimp only at hp_77
      obtain ⟨rfl, rfl, rfl, rfl, rfl, rfl⟩ := hp_77
      refine lv_ior F.1 F.2.1 dX7_hangsOn_58 ?_
      refine z_top (fun v_78 zv_78 ev_78 => ?_)
      exact g_iret F hr hlk hH hS hz zv_78 ⟨rfl, rfl, rfl, rfl, rfl, rfl⟩ dX7_hangsOn_59
    · refine lv_iload_n F.1 F.2.1 dX7_hangsOn_36 rfl (lv_at hl 0 rfl) ?_
      refine z_goto (tgt := 59) F dX7_hangsOn_37 (by decide) ?_
      exact g_iret F hr hlk hH hS hz zv_39 ⟨rfl, rfl, rfl, rfl, rfl, rfl⟩ dX7_hangsOn_59
  · refine z_iconst F dX7_hangsOn_8 ?_
    exact g_iret F hr hlk hH hS hz ⟨by decide, by decide⟩ ⟨rfl, rfl, rfl, rfl, rfl, rfl⟩ dX7_hangsOn_9

def rmX7_hangsOn3 : Room := { frames := 3, cells := 0, slots := 0, locals := 65 }
set_option maxHeartbeats 4000000 in
set_option maxRecDepth 100000 in
/-- hangsOn -/
theorem c_X7_hangsOn3 (l : Launch) (g : gG) (gh : gGh) (T : Nat → Int32) (I : gI) (R : gR) (J : gJ) (AI : gI) (AJ : gJ) (AR : gR) (mo : Nat) (rr : Int) (zrr : zr rr) (hv : mInv g gh R I AI) (hm : gO g mo 7) (hT : AI (gh 50 0) = T) (hr0 : 0 ≤ rr ∧ rr < (I mo 2).toInt ∧ rr < 3) : gMet l g yX7_hangsOn tsX7_hangsOn rmX7_hangsOn3 [.ref mo, .int (iI rr)] (I, R, J, AI, AJ, AR) (gQi g (fun (z : Int) (w : gS) => I = w.1 ∧ R = w.2.1 ∧ J = w.2.2.1 ∧ AI = w.2.2.2.1 ∧ AJ = w.2.2.2.2.1 ∧ AR = w.2.2.2.2.2)) := by
  refine gStart (cc := cX7_hangsOn) (maxL := 3) (ret := (some (.int))) (by decide) rfl (Nat.le_of_ble_eq_true rfl) ?_
  intro p e s m below meth c ls F hr hlk hH hz hS hl
  have hl : lv_has ls 3 [(0, .ref mo), (1, .int (iI rr))] := hl
  have hS : va_S (gA g) s.heap s.heap [] := hS
  obtain ⟨H, hHe⟩ : ∃ H : Heap, H = s.heap := ⟨_, rfl⟩
  obtain ⟨locs, hlo⟩ : ∃ k : List Loc, k = [] := ⟨_, rfl⟩
  have hH : gH g I R J AI AJ AR H := by rw [hHe]; exact hH
  have hS : va_S (gA g) s.heap H locs := by rw [hHe, hlo]; exact hS
  suffices hw : W p l e rmX7_hangsOn3 s m ([.ref mo, .int (iI rr)] : List Value).toArray below meth c H locs 0 0 (MQ below (gQi g (fun (z : Int) (w : gS) => I = w.1 ∧ R = w.2.1 ∧ J = w.2.2.1 ∧ AI = w.2.2.2.1 ∧ AJ = w.2.2.2.2.1 ∧ AR = w.2.2.2.2.2)) ([.ref mo, .int (iI rr)] : List Value).toArray s 0 0 (gA g)) (F0 m 0 ls []) by
    rw [hHe, hlo] at hw; exact hw
  clear hHe hlo
  have hb0 := mJ hv hm
  unfold mNum1 at hb0
  have x := mRow hv hm hT (z := rr) (by omega) (by omega)
  have xa := x.1
  have xc := x.2.2.1
  have xb := x.2.1
  refine lv_aload_n F.1 F.2.1 dX7_hangsOn_0 rfl (lv_at hl 0 rfl) ?_
  refine lv_iload_n F.1 F.2.1 dX7_hangsOn_1 rfl (lv_at hl 1 rfl) ?_
  have b_1 := mJ hv hm
  unfold mNum1 at b_1
  refine g_calli (g_runV (As := [.int (iI rr)]) (rest := []) (ci := 7) F hl.1 hH hS hz (c_X7_kindOf l g gh T I R J AI AJ AR mo rr zrr hv hm hT (by omega)) (cwV 1 F.2.2.2.2.1 (good_up gT_X7_kindOf) rfl rfl rfl hdX7_kindOf ⟨Nat.le_of_ble_eq_true rfl, Nat.le_of_ble_eq_true rfl⟩) hm (by decide) rfl rfl rfl (Nat.le_of_ble_eq_true rfl) dX7_hangsOn_2 ⟨Nat.zero_le _, Nat.zero_le _⟩) hS (fun v_8 I_2 R_3 J_4 AI_5 AJ_6 AR_7 H locs zv_8 hp_9 hH hS => ?_)
  dsimp only at hp_9
  obtain ⟨rfl, rfl, rfl, rfl, rfl, rfl, q_10⟩ := hp_9
  refine z_if_ne (tgt := 10) F dX7_hangsOn_5 (by decide) zv_8 (fun c_11 => ?_) (fun c_11 => ?_)
  · refine z_iconst F dX7_hangsOn_10 ?_
    refine lv_aload_n F.1 F.2.1 dX7_hangsOn_11 rfl (lv_at hl 0 rfl) ?_
    refine lv_iload_n F.1 F.2.1 dX7_hangsOn_12 rfl (lv_at hl 1 rfl) ?_
    refine g_calli (g_runV (As := [.int (iI rr)]) (rest := [.int (iI 1)]) (ci := 7) F hl.1 hH hS hz (c_X7_firstOf l g gh T I R J AI AJ AR mo rr zrr hv hm hT (by omega)) (cwV 1 F.2.2.2.2.1 (good_up gT_X7_firstOf) rfl rfl rfl hdX7_firstOf ⟨Nat.le_of_ble_eq_true rfl, Nat.le_of_ble_eq_true rfl⟩) hm (by decide) rfl rfl rfl (Nat.le_of_ble_eq_true rfl) dX7_hangsOn_13 ⟨Nat.zero_le _, Nat.zero_le _⟩) hS (fun v_18 I_12 R_13 J_14 AI_15 AJ_16 AR_17 H locs zv_18 hp_19 hH hS => ?_)
    dsimp only at hp_19
    obtain ⟨rfl, rfl, rfl, rfl, rfl, rfl, q_20⟩ := hp_19
    refine lv_ishl F.1 F.2.1 dX7_hangsOn_16 ?_
    refine z_top (fun v_21 zv_21 ev_21 => ?_)
    refine lv_aload_n F.1 F.2.1 dX7_hangsOn_17 rfl (lv_at hl 0 rfl) ?_
    refine lv_aload_n F.1 F.2.1 dX7_hangsOn_18 rfl (lv_at hl 0 rfl) ?_
    refine lv_iload_n F.1 F.2.1 dX7_hangsOn_19 rfl (lv_at hl 1 rfl) ?_
    refine g_calli (g_runV (As := [.int (iI rr)]) (rest := [.ref mo, .int (iI v_21)]) (ci := 7) F hl.1 hH hS hz (c_X7_firstOf l g gh T I R J AI AJ AR mo rr zrr hv hm hT (by omega)) (cwV 1 F.2.2.2.2.1 (good_up gT_X7_firstOf) rfl rfl rfl hdX7_firstOf ⟨Nat.le_of_ble_eq_true rfl, Nat.le_of_ble_eq_true rfl⟩) hm (by decide) rfl rfl rfl (Nat.le_of_ble_eq_true rfl) dX7_hangsOn_20 ⟨Nat.zero_le _, Nat.zero_le _⟩) hS (fun v_28 I_22 R_23 J_24 AI_25 AJ_26 AR_27 H locs zv_28 hp_29 hH hS => ?_)
    dsimp only at hp_29
    obtain ⟨rfl, rfl, rfl, rfl, rfl, rfl, q_30⟩ := hp_29
    refine g_calli (g_runV (As := [.int (iI v_28)]) (rest := [.int (iI v_21)]) (ci := 7) F hl.1 hH hS hz (c_X7_hangsOn2 l g gh T I R J AI AJ AR mo v_28 zv_28 hv hm hT (by omega)) (cwV 1 F.2.2.2.2.1 (good_up gT_X7_hangsOn) rfl rfl rfl hdX7_hangsOn ⟨Nat.le_of_ble_eq_true rfl, Nat.le_of_ble_eq_true rfl⟩) hm (by decide) rfl rfl rfl (Nat.le_of_ble_eq_true rfl) dX7_hangsOn_23 ⟨Nat.zero_le _, Nat.zero_le _⟩) hS (fun v_37 I_31 R_32 J_33 AI_34 AJ_35 AR_36 H locs zv_37 hp_38 hH hS => ?_)
    dsimp only at hp_38
    obtain ⟨rfl, rfl, rfl, rfl, rfl, rfl⟩ := hp_38
    refine lv_ior F.1 F.2.1 dX7_hangsOn_26 ?_
    refine z_top (fun v_39 zv_39 ev_39 => ?_)
    refine lv_istore_n (lv' := [(2, .int (iI v_39)), (0, .ref mo), (1, .int (iI rr))]) F.1 F.2.1 dX7_hangsOn_27 rfl hl (by decide) rfl (fun ls hl => ?_)
    refine lv_aload_n F.1 F.2.1 dX7_hangsOn_28 rfl (lv_at hl 1 rfl) ?_
    refine lv_iload_n F.1 F.2.1 dX7_hangsOn_29 rfl (lv_at hl 2 rfl) ?_
    refine g_calli (g_runV (As := [.int (iI rr)]) (rest := []) (ci := 7) F hl.1 hH hS hz (c_X7_secondOf l g gh T I R J AI AJ AR mo rr zrr hv hm hT (by omega)) (cwV 1 F.2.2.2.2.1 (good_up gT_X7_secondOf) rfl rfl rfl hdX7_secondOf ⟨Nat.le_of_ble_eq_true rfl, Nat.le_of_ble_eq_true rfl⟩) hm (by decide) rfl rfl rfl (Nat.le_of_ble_eq_true rfl) dX7_hangsOn_30 ⟨Nat.zero_le _, Nat.zero_le _⟩) hS (fun v_46 I_40 R_41 J_42 AI_43 AJ_44 AR_45 H locs zv_46 hp_47 hH hS => ?_)
    dsimp only at hp_47
    obtain ⟨rfl, rfl, rfl, rfl, rfl, rfl, q_48⟩ := hp_47
    refine z_if_ge (tgt := 40) F dX7_hangsOn_33 (by decide) zv_46 (fun c_49 => ?_) (fun c_49 => ?_)
    · refine lv_iload_n F.1 F.2.1 dX7_hangsOn_40 rfl (lv_at hl 0 rfl) ?_
      refine z_iconst F dX7_hangsOn_41 ?_
      refine lv_aload_n F.1 F.2.1 dX7_hangsOn_42 rfl (lv_at hl 1 rfl) ?_
      refine lv_iload_n F.1 F.2.1 dX7_hangsOn_43 rfl (lv_at hl 2 rfl) ?_
      refine g_calli (g_runV (As := [.int (iI rr)]) (rest := [.int (iI 1), .int (iI v_39)]) (ci := 7) F hl.1 hH hS hz (c_X7_secondOf l g gh T I R J AI AJ AR mo rr zrr hv hm hT (by omega)) (cwV 1 F.2.2.2.2.1 (good_up gT_X7_secondOf) rfl rfl rfl hdX7_secondOf ⟨Nat.le_of_ble_eq_true rfl, Nat.le_of_ble_eq_true rfl⟩) hm (by decide) rfl rfl rfl (Nat.le_of_ble_eq_true rfl) dX7_hangsOn_44 ⟨Nat.zero_le _, Nat.zero_le _⟩) hS (fun v_56 I_50 R_51 J_52 AI_53 AJ_54 AR_55 H locs zv_56 hp_57 hH hS => ?_)
      dsimp only at hp_57
      obtain ⟨rfl, rfl, rfl, rfl, rfl, rfl, q_58⟩ := hp_57
      refine lv_ishl F.1 F.2.1 dX7_hangsOn_47 ?_
      refine z_top (fun v_59 zv_59 ev_59 => ?_)
      refine lv_ior F.1 F.2.1 dX7_hangsOn_48 ?_
      refine z_top (fun v_60 zv_60 ev_60 => ?_)
      refine lv_aload_n F.1 F.2.1 dX7_hangsOn_49 rfl (lv_at hl 1 rfl) ?_
      refine lv_aload_n F.1 F.2.1 dX7_hangsOn_50 rfl (lv_at hl 1 rfl) ?_
      refine lv_iload_n F.1 F.2.1 dX7_hangsOn_51 rfl (lv_at hl 2 rfl) ?_
      refine g_calli (g_runV (As := [.int (iI rr)]) (rest := [.ref mo, .int (iI v_60)]) (ci := 7) F hl.1 hH hS hz (c_X7_secondOf l g gh T I R J AI AJ AR mo rr zrr hv hm hT (by omega)) (cwV 1 F.2.2.2.2.1 (good_up gT_X7_secondOf) rfl rfl rfl hdX7_secondOf ⟨Nat.le_of_ble_eq_true rfl, Nat.le_of_ble_eq_true rfl⟩) hm (by decide) rfl rfl rfl (Nat.le_of_ble_eq_true rfl) dX7_hangsOn_52 ⟨Nat.zero_le _, Nat.zero_le _⟩) hS (fun v_67 I_61 R_62 J_63 AI_64 AJ_65 AR_66 H locs zv_67 hp_68 hH hS => ?_)
      dsimp only at hp_68
      obtain ⟨rfl, rfl, rfl, rfl, rfl, rfl, q_69⟩ := hp_68
      refine g_calli (g_runV (As := [.int (iI v_67)]) (rest := [.int (iI v_60)]) (ci := 7) F hl.1 hH hS hz (c_X7_hangsOn2 l g gh T I R J AI AJ AR mo v_67 zv_67 hv hm hT (by omega)) (cwV 1 F.2.2.2.2.1 (good_up gT_X7_hangsOn) rfl rfl rfl hdX7_hangsOn ⟨Nat.le_of_ble_eq_true rfl, Nat.le_of_ble_eq_true rfl⟩) hm (by decide) rfl rfl rfl (Nat.le_of_ble_eq_true rfl) dX7_hangsOn_55 ⟨Nat.zero_le _, Nat.zero_le _⟩) hS (fun v_76 I_70 R_71 J_72 AI_73 AJ_74 AR_75 H locs zv_76 hp_77 hH hS => ?_)
      dsimp only at hp_77
      obtain ⟨rfl, rfl, rfl, rfl, rfl, rfl⟩ := hp_77
      refine lv_ior F.1 F.2.1 dX7_hangsOn_58 ?_
      refine z_top (fun v_78 zv_78 ev_78 => ?_)
      exact g_iret F hr hlk hH hS hz zv_78 ⟨rfl, rfl, rfl, rfl, rfl, rfl⟩ dX7_hangsOn_59
    · refine lv_iload_n F.1 F.2.1 dX7_hangsOn_36 rfl (lv_at hl 0 rfl) ?_
      refine z_goto (tgt := 59) F dX7_hangsOn_37 (by decide) ?_
      exact g_iret F hr hlk hH hS hz zv_39 ⟨rfl, rfl, rfl, rfl, rfl, rfl⟩ dX7_hangsOn_59
  · refine z_iconst F dX7_hangsOn_8 ?_
    exact g_iret F hr hlk hH hS hz ⟨by decide, by decide⟩ ⟨rfl, rfl, rfl, rfl, rfl, rfl⟩ dX7_hangsOn_9

def rmX7_hangsOn4 : Room := { frames := 4, cells := 0, slots := 0, locals := 87 }
set_option maxHeartbeats 4000000 in
set_option maxRecDepth 100000 in
/-- hangsOn -/
theorem c_X7_hangsOn4 (l : Launch) (g : gG) (gh : gGh) (T : Nat → Int32) (I : gI) (R : gR) (J : gJ) (AI : gI) (AJ : gJ) (AR : gR) (mo : Nat) (rr : Int) (zrr : zr rr) (hv : mInv g gh R I AI) (hm : gO g mo 7) (hT : AI (gh 50 0) = T) (hr0 : 0 ≤ rr ∧ rr < (I mo 2).toInt ∧ rr < 4) : gMet l g yX7_hangsOn tsX7_hangsOn rmX7_hangsOn4 [.ref mo, .int (iI rr)] (I, R, J, AI, AJ, AR) (gQi g (fun (z : Int) (w : gS) => I = w.1 ∧ R = w.2.1 ∧ J = w.2.2.1 ∧ AI = w.2.2.2.1 ∧ AJ = w.2.2.2.2.1 ∧ AR = w.2.2.2.2.2)) := by
  refine gStart (cc := cX7_hangsOn) (maxL := 3) (ret := (some (.int))) (by decide) rfl (Nat.le_of_ble_eq_true rfl) ?_
  intro p e s m below meth c ls F hr hlk hH hz hS hl
  have hl : lv_has ls 3 [(0, .ref mo), (1, .int (iI rr))] := hl
  have hS : va_S (gA g) s.heap s.heap [] := hS
  obtain ⟨H, hHe⟩ : ∃ H : Heap, H = s.heap := ⟨_, rfl⟩
  obtain ⟨locs, hlo⟩ : ∃ k : List Loc, k = [] := ⟨_, rfl⟩
  have hH : gH g I R J AI AJ AR H := by rw [hHe]; exact hH
  have hS : va_S (gA g) s.heap H locs := by rw [hHe, hlo]; exact hS
  suffices hw : W p l e rmX7_hangsOn4 s m ([.ref mo, .int (iI rr)] : List Value).toArray below meth c H locs 0 0 (MQ below (gQi g (fun (z : Int) (w : gS) => I = w.1 ∧ R = w.2.1 ∧ J = w.2.2.1 ∧ AI = w.2.2.2.1 ∧ AJ = w.2.2.2.2.1 ∧ AR = w.2.2.2.2.2)) ([.ref mo, .int (iI rr)] : List Value).toArray s 0 0 (gA g)) (F0 m 0 ls []) by
    rw [hHe, hlo] at hw; exact hw
  clear hHe hlo
  have hb0 := mJ hv hm
  unfold mNum1 at hb0
  have x := mRow hv hm hT (z := rr) (by omega) (by omega)
  have xa := x.1
  have xc := x.2.2.1
  have xb := x.2.1
  refine lv_aload_n F.1 F.2.1 dX7_hangsOn_0 rfl (lv_at hl 0 rfl) ?_
  refine lv_iload_n F.1 F.2.1 dX7_hangsOn_1 rfl (lv_at hl 1 rfl) ?_
  have b_1 := mJ hv hm
  unfold mNum1 at b_1
  refine g_calli (g_runV (As := [.int (iI rr)]) (rest := []) (ci := 7) F hl.1 hH hS hz (c_X7_kindOf l g gh T I R J AI AJ AR mo rr zrr hv hm hT (by omega)) (cwV 1 F.2.2.2.2.1 (good_up gT_X7_kindOf) rfl rfl rfl hdX7_kindOf ⟨Nat.le_of_ble_eq_true rfl, Nat.le_of_ble_eq_true rfl⟩) hm (by decide) rfl rfl rfl (Nat.le_of_ble_eq_true rfl) dX7_hangsOn_2 ⟨Nat.zero_le _, Nat.zero_le _⟩) hS (fun v_8 I_2 R_3 J_4 AI_5 AJ_6 AR_7 H locs zv_8 hp_9 hH hS => ?_)
  dsimp only at hp_9
  obtain ⟨rfl, rfl, rfl, rfl, rfl, rfl, q_10⟩ := hp_9
  refine z_if_ne (tgt := 10) F dX7_hangsOn_5 (by decide) zv_8 (fun c_11 => ?_) (fun c_11 => ?_)
  · refine z_iconst F dX7_hangsOn_10 ?_
    refine lv_aload_n F.1 F.2.1 dX7_hangsOn_11 rfl (lv_at hl 0 rfl) ?_
    refine lv_iload_n F.1 F.2.1 dX7_hangsOn_12 rfl (lv_at hl 1 rfl) ?_
    refine g_calli (g_runV (As := [.int (iI rr)]) (rest := [.int (iI 1)]) (ci := 7) F hl.1 hH hS hz (c_X7_firstOf l g gh T I R J AI AJ AR mo rr zrr hv hm hT (by omega)) (cwV 1 F.2.2.2.2.1 (good_up gT_X7_firstOf) rfl rfl rfl hdX7_firstOf ⟨Nat.le_of_ble_eq_true rfl, Nat.le_of_ble_eq_true rfl⟩) hm (by decide) rfl rfl rfl (Nat.le_of_ble_eq_true rfl) dX7_hangsOn_13 ⟨Nat.zero_le _, Nat.zero_le _⟩) hS (fun v_18 I_12 R_13 J_14 AI_15 AJ_16 AR_17 H locs zv_18 hp_19 hH hS => ?_)
    dsimp only at hp_19
    obtain ⟨rfl, rfl, rfl, rfl, rfl, rfl, q_20⟩ := hp_19
    refine lv_ishl F.1 F.2.1 dX7_hangsOn_16 ?_
    refine z_top (fun v_21 zv_21 ev_21 => ?_)
    refine lv_aload_n F.1 F.2.1 dX7_hangsOn_17 rfl (lv_at hl 0 rfl) ?_
    refine lv_aload_n F.1 F.2.1 dX7_hangsOn_18 rfl (lv_at hl 0 rfl) ?_
    refine lv_iload_n F.1 F.2.1 dX7_hangsOn_19 rfl (lv_at hl 1 rfl) ?_
    refine g_calli (g_runV (As := [.int (iI rr)]) (rest := [.ref mo, .int (iI v_21)]) (ci := 7) F hl.1 hH hS hz (c_X7_firstOf l g gh T I R J AI AJ AR mo rr zrr hv hm hT (by omega)) (cwV 1 F.2.2.2.2.1 (good_up gT_X7_firstOf) rfl rfl rfl hdX7_firstOf ⟨Nat.le_of_ble_eq_true rfl, Nat.le_of_ble_eq_true rfl⟩) hm (by decide) rfl rfl rfl (Nat.le_of_ble_eq_true rfl) dX7_hangsOn_20 ⟨Nat.zero_le _, Nat.zero_le _⟩) hS (fun v_28 I_22 R_23 J_24 AI_25 AJ_26 AR_27 H locs zv_28 hp_29 hH hS => ?_)
    dsimp only at hp_29
    obtain ⟨rfl, rfl, rfl, rfl, rfl, rfl, q_30⟩ := hp_29
    refine g_calli (g_runV (As := [.int (iI v_28)]) (rest := [.int (iI v_21)]) (ci := 7) F hl.1 hH hS hz (c_X7_hangsOn3 l g gh T I R J AI AJ AR mo v_28 zv_28 hv hm hT (by omega)) (cwV 1 F.2.2.2.2.1 (good_up gT_X7_hangsOn) rfl rfl rfl hdX7_hangsOn ⟨Nat.le_of_ble_eq_true rfl, Nat.le_of_ble_eq_true rfl⟩) hm (by decide) rfl rfl rfl (Nat.le_of_ble_eq_true rfl) dX7_hangsOn_23 ⟨Nat.zero_le _, Nat.zero_le _⟩) hS (fun v_37 I_31 R_32 J_33 AI_34 AJ_35 AR_36 H locs zv_37 hp_38 hH hS => ?_)
    dsimp only at hp_38
    obtain ⟨rfl, rfl, rfl, rfl, rfl, rfl⟩ := hp_38
    refine lv_ior F.1 F.2.1 dX7_hangsOn_26 ?_
    refine z_top (fun v_39 zv_39 ev_39 => ?_)
    refine lv_istore_n (lv' := [(2, .int (iI v_39)), (0, .ref mo), (1, .int (iI rr))]) F.1 F.2.1 dX7_hangsOn_27 rfl hl (by decide) rfl (fun ls hl => ?_)
    refine lv_aload_n F.1 F.2.1 dX7_hangsOn_28 rfl (lv_at hl 1 rfl) ?_
    refine lv_iload_n F.1 F.2.1 dX7_hangsOn_29 rfl (lv_at hl 2 rfl) ?_
    refine g_calli (g_runV (As := [.int (iI rr)]) (rest := []) (ci := 7) F hl.1 hH hS hz (c_X7_secondOf l g gh T I R J AI AJ AR mo rr zrr hv hm hT (by omega)) (cwV 1 F.2.2.2.2.1 (good_up gT_X7_secondOf) rfl rfl rfl hdX7_secondOf ⟨Nat.le_of_ble_eq_true rfl, Nat.le_of_ble_eq_true rfl⟩) hm (by decide) rfl rfl rfl (Nat.le_of_ble_eq_true rfl) dX7_hangsOn_30 ⟨Nat.zero_le _, Nat.zero_le _⟩) hS (fun v_46 I_40 R_41 J_42 AI_43 AJ_44 AR_45 H locs zv_46 hp_47 hH hS => ?_)
    dsimp only at hp_47
    obtain ⟨rfl, rfl, rfl, rfl, rfl, rfl, q_48⟩ := hp_47
    refine z_if_ge (tgt := 40) F dX7_hangsOn_33 (by decide) zv_46 (fun c_49 => ?_) (fun c_49 => ?_)
    · refine lv_iload_n F.1 F.2.1 dX7_hangsOn_40 rfl (lv_at hl 0 rfl) ?_
      refine z_iconst F dX7_hangsOn_41 ?_
      refine lv_aload_n F.1 F.2.1 dX7_hangsOn_42 rfl (lv_at hl 1 rfl) ?_
      refine lv_iload_n F.1 F.2.1 dX7_hangsOn_43 rfl (lv_at hl 2 rfl) ?_
      refine g_calli (g_runV (As := [.int (iI rr)]) (rest := [.int (iI 1), .int (iI v_39)]) (ci := 7) F hl.1 hH hS hz (c_X7_secondOf l g gh T I R J AI AJ AR mo rr zrr hv hm hT (by omega)) (cwV 1 F.2.2.2.2.1 (good_up gT_X7_secondOf) rfl rfl rfl hdX7_secondOf ⟨Nat.le_of_ble_eq_true rfl, Nat.le_of_ble_eq_true rfl⟩) hm (by decide) rfl rfl rfl (Nat.le_of_ble_eq_true rfl) dX7_hangsOn_44 ⟨Nat.zero_le _, Nat.zero_le _⟩) hS (fun v_56 I_50 R_51 J_52 AI_53 AJ_54 AR_55 H locs zv_56 hp_57 hH hS => ?_)
      dsimp only at hp_57
      obtain ⟨rfl, rfl, rfl, rfl, rfl, rfl, q_58⟩ := hp_57
      refine lv_ishl F.1 F.2.1 dX7_hangsOn_47 ?_
      refine z_top (fun v_59 zv_59 ev_59 => ?_)
      refine lv_ior F.1 F.2.1 dX7_hangsOn_48 ?_
      refine z_top (fun v_60 zv_60 ev_60 => ?_)
      refine lv_aload_n F.1 F.2.1 dX7_hangsOn_49 rfl (lv_at hl 1 rfl) ?_
      refine lv_aload_n F.1 F.2.1 dX7_hangsOn_50 rfl (lv_at hl 1 rfl) ?_
      refine lv_iload_n F.1 F.2.1 dX7_hangsOn_51 rfl (lv_at hl 2 rfl) ?_
      refine g_calli (g_runV (As := [.int (iI rr)]) (rest := [.ref mo, .int (iI v_60)]) (ci := 7) F hl.1 hH hS hz (c_X7_secondOf l g gh T I R J AI AJ AR mo rr zrr hv hm hT (by omega)) (cwV 1 F.2.2.2.2.1 (good_up gT_X7_secondOf) rfl rfl rfl hdX7_secondOf ⟨Nat.le_of_ble_eq_true rfl, Nat.le_of_ble_eq_true rfl⟩) hm (by decide) rfl rfl rfl (Nat.le_of_ble_eq_true rfl) dX7_hangsOn_52 ⟨Nat.zero_le _, Nat.zero_le _⟩) hS (fun v_67 I_61 R_62 J_63 AI_64 AJ_65 AR_66 H locs zv_67 hp_68 hH hS => ?_)
      dsimp only at hp_68
      obtain ⟨rfl, rfl, rfl, rfl, rfl, rfl, q_69⟩ := hp_68
      refine g_calli (g_runV (As := [.int (iI v_67)]) (rest := [.int (iI v_60)]) (ci := 7) F hl.1 hH hS hz (c_X7_hangsOn3 l g gh T I R J AI AJ AR mo v_67 zv_67 hv hm hT (by omega)) (cwV 1 F.2.2.2.2.1 (good_up gT_X7_hangsOn) rfl rfl rfl hdX7_hangsOn ⟨Nat.le_of_ble_eq_true rfl, Nat.le_of_ble_eq_true rfl⟩) hm (by decide) rfl rfl rfl (Nat.le_of_ble_eq_true rfl) dX7_hangsOn_55 ⟨Nat.zero_le _, Nat.zero_le _⟩) hS (fun v_76 I_70 R_71 J_72 AI_73 AJ_74 AR_75 H locs zv_76 hp_77 hH hS => ?_)
      dsimp only at hp_77
      obtain ⟨rfl, rfl, rfl, rfl, rfl, rfl⟩ := hp_77
      refine lv_ior F.1 F.2.1 dX7_hangsOn_58 ?_
      refine z_top (fun v_78 zv_78 ev_78 => ?_)
      exact g_iret F hr hlk hH hS hz zv_78 ⟨rfl, rfl, rfl, rfl, rfl, rfl⟩ dX7_hangsOn_59
    · refine lv_iload_n F.1 F.2.1 dX7_hangsOn_36 rfl (lv_at hl 0 rfl) ?_
      refine z_goto (tgt := 59) F dX7_hangsOn_37 (by decide) ?_
      exact g_iret F hr hlk hH hS hz zv_39 ⟨rfl, rfl, rfl, rfl, rfl, rfl⟩ dX7_hangsOn_59
  · refine z_iconst F dX7_hangsOn_8 ?_
    exact g_iret F hr hlk hH hS hz ⟨by decide, by decide⟩ ⟨rfl, rfl, rfl, rfl, rfl, rfl⟩ dX7_hangsOn_9

def rmX7_hangsOn5 : Room := { frames := 5, cells := 0, slots := 0, locals := 109 }
set_option maxHeartbeats 4000000 in
set_option maxRecDepth 100000 in
/-- hangsOn -/
theorem c_X7_hangsOn5 (l : Launch) (g : gG) (gh : gGh) (T : Nat → Int32) (I : gI) (R : gR) (J : gJ) (AI : gI) (AJ : gJ) (AR : gR) (mo : Nat) (rr : Int) (zrr : zr rr) (hv : mInv g gh R I AI) (hm : gO g mo 7) (hT : AI (gh 50 0) = T) (hr0 : 0 ≤ rr ∧ rr < (I mo 2).toInt ∧ rr < 5) : gMet l g yX7_hangsOn tsX7_hangsOn rmX7_hangsOn5 [.ref mo, .int (iI rr)] (I, R, J, AI, AJ, AR) (gQi g (fun (z : Int) (w : gS) => I = w.1 ∧ R = w.2.1 ∧ J = w.2.2.1 ∧ AI = w.2.2.2.1 ∧ AJ = w.2.2.2.2.1 ∧ AR = w.2.2.2.2.2)) := by
  refine gStart (cc := cX7_hangsOn) (maxL := 3) (ret := (some (.int))) (by decide) rfl (Nat.le_of_ble_eq_true rfl) ?_
  intro p e s m below meth c ls F hr hlk hH hz hS hl
  have hl : lv_has ls 3 [(0, .ref mo), (1, .int (iI rr))] := hl
  have hS : va_S (gA g) s.heap s.heap [] := hS
  obtain ⟨H, hHe⟩ : ∃ H : Heap, H = s.heap := ⟨_, rfl⟩
  obtain ⟨locs, hlo⟩ : ∃ k : List Loc, k = [] := ⟨_, rfl⟩
  have hH : gH g I R J AI AJ AR H := by rw [hHe]; exact hH
  have hS : va_S (gA g) s.heap H locs := by rw [hHe, hlo]; exact hS
  suffices hw : W p l e rmX7_hangsOn5 s m ([.ref mo, .int (iI rr)] : List Value).toArray below meth c H locs 0 0 (MQ below (gQi g (fun (z : Int) (w : gS) => I = w.1 ∧ R = w.2.1 ∧ J = w.2.2.1 ∧ AI = w.2.2.2.1 ∧ AJ = w.2.2.2.2.1 ∧ AR = w.2.2.2.2.2)) ([.ref mo, .int (iI rr)] : List Value).toArray s 0 0 (gA g)) (F0 m 0 ls []) by
    rw [hHe, hlo] at hw; exact hw
  clear hHe hlo
  have hb0 := mJ hv hm
  unfold mNum1 at hb0
  have x := mRow hv hm hT (z := rr) (by omega) (by omega)
  have xa := x.1
  have xc := x.2.2.1
  have xb := x.2.1
  refine lv_aload_n F.1 F.2.1 dX7_hangsOn_0 rfl (lv_at hl 0 rfl) ?_
  refine lv_iload_n F.1 F.2.1 dX7_hangsOn_1 rfl (lv_at hl 1 rfl) ?_
  have b_1 := mJ hv hm
  unfold mNum1 at b_1
  refine g_calli (g_runV (As := [.int (iI rr)]) (rest := []) (ci := 7) F hl.1 hH hS hz (c_X7_kindOf l g gh T I R J AI AJ AR mo rr zrr hv hm hT (by omega)) (cwV 1 F.2.2.2.2.1 (good_up gT_X7_kindOf) rfl rfl rfl hdX7_kindOf ⟨Nat.le_of_ble_eq_true rfl, Nat.le_of_ble_eq_true rfl⟩) hm (by decide) rfl rfl rfl (Nat.le_of_ble_eq_true rfl) dX7_hangsOn_2 ⟨Nat.zero_le _, Nat.zero_le _⟩) hS (fun v_8 I_2 R_3 J_4 AI_5 AJ_6 AR_7 H locs zv_8 hp_9 hH hS => ?_)
  dsimp only at hp_9
  obtain ⟨rfl, rfl, rfl, rfl, rfl, rfl, q_10⟩ := hp_9
  refine z_if_ne (tgt := 10) F dX7_hangsOn_5 (by decide) zv_8 (fun c_11 => ?_) (fun c_11 => ?_)
  · refine z_iconst F dX7_hangsOn_10 ?_
    refine lv_aload_n F.1 F.2.1 dX7_hangsOn_11 rfl (lv_at hl 0 rfl) ?_
    refine lv_iload_n F.1 F.2.1 dX7_hangsOn_12 rfl (lv_at hl 1 rfl) ?_
    refine g_calli (g_runV (As := [.int (iI rr)]) (rest := [.int (iI 1)]) (ci := 7) F hl.1 hH hS hz (c_X7_firstOf l g gh T I R J AI AJ AR mo rr zrr hv hm hT (by omega)) (cwV 1 F.2.2.2.2.1 (good_up gT_X7_firstOf) rfl rfl rfl hdX7_firstOf ⟨Nat.le_of_ble_eq_true rfl, Nat.le_of_ble_eq_true rfl⟩) hm (by decide) rfl rfl rfl (Nat.le_of_ble_eq_true rfl) dX7_hangsOn_13 ⟨Nat.zero_le _, Nat.zero_le _⟩) hS (fun v_18 I_12 R_13 J_14 AI_15 AJ_16 AR_17 H locs zv_18 hp_19 hH hS => ?_)
    dsimp only at hp_19
    obtain ⟨rfl, rfl, rfl, rfl, rfl, rfl, q_20⟩ := hp_19
    refine lv_ishl F.1 F.2.1 dX7_hangsOn_16 ?_
    refine z_top (fun v_21 zv_21 ev_21 => ?_)
    refine lv_aload_n F.1 F.2.1 dX7_hangsOn_17 rfl (lv_at hl 0 rfl) ?_
    refine lv_aload_n F.1 F.2.1 dX7_hangsOn_18 rfl (lv_at hl 0 rfl) ?_
    refine lv_iload_n F.1 F.2.1 dX7_hangsOn_19 rfl (lv_at hl 1 rfl) ?_
    refine g_calli (g_runV (As := [.int (iI rr)]) (rest := [.ref mo, .int (iI v_21)]) (ci := 7) F hl.1 hH hS hz (c_X7_firstOf l g gh T I R J AI AJ AR mo rr zrr hv hm hT (by omega)) (cwV 1 F.2.2.2.2.1 (good_up gT_X7_firstOf) rfl rfl rfl hdX7_firstOf ⟨Nat.le_of_ble_eq_true rfl, Nat.le_of_ble_eq_true rfl⟩) hm (by decide) rfl rfl rfl (Nat.le_of_ble_eq_true rfl) dX7_hangsOn_20 ⟨Nat.zero_le _, Nat.zero_le _⟩) hS (fun v_28 I_22 R_23 J_24 AI_25 AJ_26 AR_27 H locs zv_28 hp_29 hH hS => ?_)
    dsimp only at hp_29
    obtain ⟨rfl, rfl, rfl, rfl, rfl, rfl, q_30⟩ := hp_29
    refine g_calli (g_runV (As := [.int (iI v_28)]) (rest := [.int (iI v_21)]) (ci := 7) F hl.1 hH hS hz (c_X7_hangsOn4 l g gh T I R J AI AJ AR mo v_28 zv_28 hv hm hT (by omega)) (cwV 1 F.2.2.2.2.1 (good_up gT_X7_hangsOn) rfl rfl rfl hdX7_hangsOn ⟨Nat.le_of_ble_eq_true rfl, Nat.le_of_ble_eq_true rfl⟩) hm (by decide) rfl rfl rfl (Nat.le_of_ble_eq_true rfl) dX7_hangsOn_23 ⟨Nat.zero_le _, Nat.zero_le _⟩) hS (fun v_37 I_31 R_32 J_33 AI_34 AJ_35 AR_36 H locs zv_37 hp_38 hH hS => ?_)
    dsimp only at hp_38
    obtain ⟨rfl, rfl, rfl, rfl, rfl, rfl⟩ := hp_38
    refine lv_ior F.1 F.2.1 dX7_hangsOn_26 ?_
    refine z_top (fun v_39 zv_39 ev_39 => ?_)
    refine lv_istore_n (lv' := [(2, .int (iI v_39)), (0, .ref mo), (1, .int (iI rr))]) F.1 F.2.1 dX7_hangsOn_27 rfl hl (by decide) rfl (fun ls hl => ?_)
    refine lv_aload_n F.1 F.2.1 dX7_hangsOn_28 rfl (lv_at hl 1 rfl) ?_
    refine lv_iload_n F.1 F.2.1 dX7_hangsOn_29 rfl (lv_at hl 2 rfl) ?_
    refine g_calli (g_runV (As := [.int (iI rr)]) (rest := []) (ci := 7) F hl.1 hH hS hz (c_X7_secondOf l g gh T I R J AI AJ AR mo rr zrr hv hm hT (by omega)) (cwV 1 F.2.2.2.2.1 (good_up gT_X7_secondOf) rfl rfl rfl hdX7_secondOf ⟨Nat.le_of_ble_eq_true rfl, Nat.le_of_ble_eq_true rfl⟩) hm (by decide) rfl rfl rfl (Nat.le_of_ble_eq_true rfl) dX7_hangsOn_30 ⟨Nat.zero_le _, Nat.zero_le _⟩) hS (fun v_46 I_40 R_41 J_42 AI_43 AJ_44 AR_45 H locs zv_46 hp_47 hH hS => ?_)
    dsimp only at hp_47
    obtain ⟨rfl, rfl, rfl, rfl, rfl, rfl, q_48⟩ := hp_47
    refine z_if_ge (tgt := 40) F dX7_hangsOn_33 (by decide) zv_46 (fun c_49 => ?_) (fun c_49 => ?_)
    · refine lv_iload_n F.1 F.2.1 dX7_hangsOn_40 rfl (lv_at hl 0 rfl) ?_
      refine z_iconst F dX7_hangsOn_41 ?_
      refine lv_aload_n F.1 F.2.1 dX7_hangsOn_42 rfl (lv_at hl 1 rfl) ?_
      refine lv_iload_n F.1 F.2.1 dX7_hangsOn_43 rfl (lv_at hl 2 rfl) ?_
      refine g_calli (g_runV (As := [.int (iI rr)]) (rest := [.int (iI 1), .int (iI v_39)]) (ci := 7) F hl.1 hH hS hz (c_X7_secondOf l g gh T I R J AI AJ AR mo rr zrr hv hm hT (by omega)) (cwV 1 F.2.2.2.2.1 (good_up gT_X7_secondOf) rfl rfl rfl hdX7_secondOf ⟨Nat.le_of_ble_eq_true rfl, Nat.le_of_ble_eq_true rfl⟩) hm (by decide) rfl rfl rfl (Nat.le_of_ble_eq_true rfl) dX7_hangsOn_44 ⟨Nat.zero_le _, Nat.zero_le _⟩) hS (fun v_56 I_50 R_51 J_52 AI_53 AJ_54 AR_55 H locs zv_56 hp_57 hH hS => ?_)
      dsimp only at hp_57
      obtain ⟨rfl, rfl, rfl, rfl, rfl, rfl, q_58⟩ := hp_57
      refine lv_ishl F.1 F.2.1 dX7_hangsOn_47 ?_
      refine z_top (fun v_59 zv_59 ev_59 => ?_)
      refine lv_ior F.1 F.2.1 dX7_hangsOn_48 ?_
      refine z_top (fun v_60 zv_60 ev_60 => ?_)
      refine lv_aload_n F.1 F.2.1 dX7_hangsOn_49 rfl (lv_at hl 1 rfl) ?_
      refine lv_aload_n F.1 F.2.1 dX7_hangsOn_50 rfl (lv_at hl 1 rfl) ?_
      refine lv_iload_n F.1 F.2.1 dX7_hangsOn_51 rfl (lv_at hl 2 rfl) ?_
      refine g_calli (g_runV (As := [.int (iI rr)]) (rest := [.ref mo, .int (iI v_60)]) (ci := 7) F hl.1 hH hS hz (c_X7_secondOf l g gh T I R J AI AJ AR mo rr zrr hv hm hT (by omega)) (cwV 1 F.2.2.2.2.1 (good_up gT_X7_secondOf) rfl rfl rfl hdX7_secondOf ⟨Nat.le_of_ble_eq_true rfl, Nat.le_of_ble_eq_true rfl⟩) hm (by decide) rfl rfl rfl (Nat.le_of_ble_eq_true rfl) dX7_hangsOn_52 ⟨Nat.zero_le _, Nat.zero_le _⟩) hS (fun v_67 I_61 R_62 J_63 AI_64 AJ_65 AR_66 H locs zv_67 hp_68 hH hS => ?_)
      dsimp only at hp_68
      obtain ⟨rfl, rfl, rfl, rfl, rfl, rfl, q_69⟩ := hp_68
      refine g_calli (g_runV (As := [.int (iI v_67)]) (rest := [.int (iI v_60)]) (ci := 7) F hl.1 hH hS hz (c_X7_hangsOn4 l g gh T I R J AI AJ AR mo v_67 zv_67 hv hm hT (by omega)) (cwV 1 F.2.2.2.2.1 (good_up gT_X7_hangsOn) rfl rfl rfl hdX7_hangsOn ⟨Nat.le_of_ble_eq_true rfl, Nat.le_of_ble_eq_true rfl⟩) hm (by decide) rfl rfl rfl (Nat.le_of_ble_eq_true rfl) dX7_hangsOn_55 ⟨Nat.zero_le _, Nat.zero_le _⟩) hS (fun v_76 I_70 R_71 J_72 AI_73 AJ_74 AR_75 H locs zv_76 hp_77 hH hS => ?_)
      dsimp only at hp_77
      obtain ⟨rfl, rfl, rfl, rfl, rfl, rfl⟩ := hp_77
      refine lv_ior F.1 F.2.1 dX7_hangsOn_58 ?_
      refine z_top (fun v_78 zv_78 ev_78 => ?_)
      exact g_iret F hr hlk hH hS hz zv_78 ⟨rfl, rfl, rfl, rfl, rfl, rfl⟩ dX7_hangsOn_59
    · refine lv_iload_n F.1 F.2.1 dX7_hangsOn_36 rfl (lv_at hl 0 rfl) ?_
      refine z_goto (tgt := 59) F dX7_hangsOn_37 (by decide) ?_
      exact g_iret F hr hlk hH hS hz zv_39 ⟨rfl, rfl, rfl, rfl, rfl, rfl⟩ dX7_hangsOn_59
  · refine z_iconst F dX7_hangsOn_8 ?_
    exact g_iret F hr hlk hH hS hz ⟨by decide, by decide⟩ ⟨rfl, rfl, rfl, rfl, rfl, rfl⟩ dX7_hangsOn_9

def rmX7_hangsOn6 : Room := { frames := 6, cells := 0, slots := 0, locals := 131 }
set_option maxHeartbeats 4000000 in
set_option maxRecDepth 100000 in
/-- hangsOn -/
theorem c_X7_hangsOn6 (l : Launch) (g : gG) (gh : gGh) (T : Nat → Int32) (I : gI) (R : gR) (J : gJ) (AI : gI) (AJ : gJ) (AR : gR) (mo : Nat) (rr : Int) (zrr : zr rr) (hv : mInv g gh R I AI) (hm : gO g mo 7) (hT : AI (gh 50 0) = T) (hr0 : 0 ≤ rr ∧ rr < (I mo 2).toInt ∧ rr < 6) : gMet l g yX7_hangsOn tsX7_hangsOn rmX7_hangsOn6 [.ref mo, .int (iI rr)] (I, R, J, AI, AJ, AR) (gQi g (fun (z : Int) (w : gS) => I = w.1 ∧ R = w.2.1 ∧ J = w.2.2.1 ∧ AI = w.2.2.2.1 ∧ AJ = w.2.2.2.2.1 ∧ AR = w.2.2.2.2.2)) := by
  refine gStart (cc := cX7_hangsOn) (maxL := 3) (ret := (some (.int))) (by decide) rfl (Nat.le_of_ble_eq_true rfl) ?_
  intro p e s m below meth c ls F hr hlk hH hz hS hl
  have hl : lv_has ls 3 [(0, .ref mo), (1, .int (iI rr))] := hl
  have hS : va_S (gA g) s.heap s.heap [] := hS
  obtain ⟨H, hHe⟩ : ∃ H : Heap, H = s.heap := ⟨_, rfl⟩
  obtain ⟨locs, hlo⟩ : ∃ k : List Loc, k = [] := ⟨_, rfl⟩
  have hH : gH g I R J AI AJ AR H := by rw [hHe]; exact hH
  have hS : va_S (gA g) s.heap H locs := by rw [hHe, hlo]; exact hS
  suffices hw : W p l e rmX7_hangsOn6 s m ([.ref mo, .int (iI rr)] : List Value).toArray below meth c H locs 0 0 (MQ below (gQi g (fun (z : Int) (w : gS) => I = w.1 ∧ R = w.2.1 ∧ J = w.2.2.1 ∧ AI = w.2.2.2.1 ∧ AJ = w.2.2.2.2.1 ∧ AR = w.2.2.2.2.2)) ([.ref mo, .int (iI rr)] : List Value).toArray s 0 0 (gA g)) (F0 m 0 ls []) by
    rw [hHe, hlo] at hw; exact hw
  clear hHe hlo
  have hb0 := mJ hv hm
  unfold mNum1 at hb0
  have x := mRow hv hm hT (z := rr) (by omega) (by omega)
  have xa := x.1
  have xc := x.2.2.1
  have xb := x.2.1
  refine lv_aload_n F.1 F.2.1 dX7_hangsOn_0 rfl (lv_at hl 0 rfl) ?_
  refine lv_iload_n F.1 F.2.1 dX7_hangsOn_1 rfl (lv_at hl 1 rfl) ?_
  have b_1 := mJ hv hm
  unfold mNum1 at b_1
  refine g_calli (g_runV (As := [.int (iI rr)]) (rest := []) (ci := 7) F hl.1 hH hS hz (c_X7_kindOf l g gh T I R J AI AJ AR mo rr zrr hv hm hT (by omega)) (cwV 1 F.2.2.2.2.1 (good_up gT_X7_kindOf) rfl rfl rfl hdX7_kindOf ⟨Nat.le_of_ble_eq_true rfl, Nat.le_of_ble_eq_true rfl⟩) hm (by decide) rfl rfl rfl (Nat.le_of_ble_eq_true rfl) dX7_hangsOn_2 ⟨Nat.zero_le _, Nat.zero_le _⟩) hS (fun v_8 I_2 R_3 J_4 AI_5 AJ_6 AR_7 H locs zv_8 hp_9 hH hS => ?_)
  dsimp only at hp_9
  obtain ⟨rfl, rfl, rfl, rfl, rfl, rfl, q_10⟩ := hp_9
  refine z_if_ne (tgt := 10) F dX7_hangsOn_5 (by decide) zv_8 (fun c_11 => ?_) (fun c_11 => ?_)
  · refine z_iconst F dX7_hangsOn_10 ?_
    refine lv_aload_n F.1 F.2.1 dX7_hangsOn_11 rfl (lv_at hl 0 rfl) ?_
    refine lv_iload_n F.1 F.2.1 dX7_hangsOn_12 rfl (lv_at hl 1 rfl) ?_
    refine g_calli (g_runV (As := [.int (iI rr)]) (rest := [.int (iI 1)]) (ci := 7) F hl.1 hH hS hz (c_X7_firstOf l g gh T I R J AI AJ AR mo rr zrr hv hm hT (by omega)) (cwV 1 F.2.2.2.2.1 (good_up gT_X7_firstOf) rfl rfl rfl hdX7_firstOf ⟨Nat.le_of_ble_eq_true rfl, Nat.le_of_ble_eq_true rfl⟩) hm (by decide) rfl rfl rfl (Nat.le_of_ble_eq_true rfl) dX7_hangsOn_13 ⟨Nat.zero_le _, Nat.zero_le _⟩) hS (fun v_18 I_12 R_13 J_14 AI_15 AJ_16 AR_17 H locs zv_18 hp_19 hH hS => ?_)
    dsimp only at hp_19
    obtain ⟨rfl, rfl, rfl, rfl, rfl, rfl, q_20⟩ := hp_19
    refine lv_ishl F.1 F.2.1 dX7_hangsOn_16 ?_
    refine z_top (fun v_21 zv_21 ev_21 => ?_)
    refine lv_aload_n F.1 F.2.1 dX7_hangsOn_17 rfl (lv_at hl 0 rfl) ?_
    refine lv_aload_n F.1 F.2.1 dX7_hangsOn_18 rfl (lv_at hl 0 rfl) ?_
    refine lv_iload_n F.1 F.2.1 dX7_hangsOn_19 rfl (lv_at hl 1 rfl) ?_
    refine g_calli (g_runV (As := [.int (iI rr)]) (rest := [.ref mo, .int (iI v_21)]) (ci := 7) F hl.1 hH hS hz (c_X7_firstOf l g gh T I R J AI AJ AR mo rr zrr hv hm hT (by omega)) (cwV 1 F.2.2.2.2.1 (good_up gT_X7_firstOf) rfl rfl rfl hdX7_firstOf ⟨Nat.le_of_ble_eq_true rfl, Nat.le_of_ble_eq_true rfl⟩) hm (by decide) rfl rfl rfl (Nat.le_of_ble_eq_true rfl) dX7_hangsOn_20 ⟨Nat.zero_le _, Nat.zero_le _⟩) hS (fun v_28 I_22 R_23 J_24 AI_25 AJ_26 AR_27 H locs zv_28 hp_29 hH hS => ?_)
    dsimp only at hp_29
    obtain ⟨rfl, rfl, rfl, rfl, rfl, rfl, q_30⟩ := hp_29
    refine g_calli (g_runV (As := [.int (iI v_28)]) (rest := [.int (iI v_21)]) (ci := 7) F hl.1 hH hS hz (c_X7_hangsOn5 l g gh T I R J AI AJ AR mo v_28 zv_28 hv hm hT (by omega)) (cwV 1 F.2.2.2.2.1 (good_up gT_X7_hangsOn) rfl rfl rfl hdX7_hangsOn ⟨Nat.le_of_ble_eq_true rfl, Nat.le_of_ble_eq_true rfl⟩) hm (by decide) rfl rfl rfl (Nat.le_of_ble_eq_true rfl) dX7_hangsOn_23 ⟨Nat.zero_le _, Nat.zero_le _⟩) hS (fun v_37 I_31 R_32 J_33 AI_34 AJ_35 AR_36 H locs zv_37 hp_38 hH hS => ?_)
    dsimp only at hp_38
    obtain ⟨rfl, rfl, rfl, rfl, rfl, rfl⟩ := hp_38
    refine lv_ior F.1 F.2.1 dX7_hangsOn_26 ?_
    refine z_top (fun v_39 zv_39 ev_39 => ?_)
    refine lv_istore_n (lv' := [(2, .int (iI v_39)), (0, .ref mo), (1, .int (iI rr))]) F.1 F.2.1 dX7_hangsOn_27 rfl hl (by decide) rfl (fun ls hl => ?_)
    refine lv_aload_n F.1 F.2.1 dX7_hangsOn_28 rfl (lv_at hl 1 rfl) ?_
    refine lv_iload_n F.1 F.2.1 dX7_hangsOn_29 rfl (lv_at hl 2 rfl) ?_
    refine g_calli (g_runV (As := [.int (iI rr)]) (rest := []) (ci := 7) F hl.1 hH hS hz (c_X7_secondOf l g gh T I R J AI AJ AR mo rr zrr hv hm hT (by omega)) (cwV 1 F.2.2.2.2.1 (good_up gT_X7_secondOf) rfl rfl rfl hdX7_secondOf ⟨Nat.le_of_ble_eq_true rfl, Nat.le_of_ble_eq_true rfl⟩) hm (by decide) rfl rfl rfl (Nat.le_of_ble_eq_true rfl) dX7_hangsOn_30 ⟨Nat.zero_le _, Nat.zero_le _⟩) hS (fun v_46 I_40 R_41 J_42 AI_43 AJ_44 AR_45 H locs zv_46 hp_47 hH hS => ?_)
    dsimp only at hp_47
    obtain ⟨rfl, rfl, rfl, rfl, rfl, rfl, q_48⟩ := hp_47
    refine z_if_ge (tgt := 40) F dX7_hangsOn_33 (by decide) zv_46 (fun c_49 => ?_) (fun c_49 => ?_)
    · refine lv_iload_n F.1 F.2.1 dX7_hangsOn_40 rfl (lv_at hl 0 rfl) ?_
      refine z_iconst F dX7_hangsOn_41 ?_
      refine lv_aload_n F.1 F.2.1 dX7_hangsOn_42 rfl (lv_at hl 1 rfl) ?_
      refine lv_iload_n F.1 F.2.1 dX7_hangsOn_43 rfl (lv_at hl 2 rfl) ?_
      refine g_calli (g_runV (As := [.int (iI rr)]) (rest := [.int (iI 1), .int (iI v_39)]) (ci := 7) F hl.1 hH hS hz (c_X7_secondOf l g gh T I R J AI AJ AR mo rr zrr hv hm hT (by omega)) (cwV 1 F.2.2.2.2.1 (good_up gT_X7_secondOf) rfl rfl rfl hdX7_secondOf ⟨Nat.le_of_ble_eq_true rfl, Nat.le_of_ble_eq_true rfl⟩) hm (by decide) rfl rfl rfl (Nat.le_of_ble_eq_true rfl) dX7_hangsOn_44 ⟨Nat.zero_le _, Nat.zero_le _⟩) hS (fun v_56 I_50 R_51 J_52 AI_53 AJ_54 AR_55 H locs zv_56 hp_57 hH hS => ?_)
      dsimp only at hp_57
      obtain ⟨rfl, rfl, rfl, rfl, rfl, rfl, q_58⟩ := hp_57
      refine lv_ishl F.1 F.2.1 dX7_hangsOn_47 ?_
      refine z_top (fun v_59 zv_59 ev_59 => ?_)
      refine lv_ior F.1 F.2.1 dX7_hangsOn_48 ?_
      refine z_top (fun v_60 zv_60 ev_60 => ?_)
      refine lv_aload_n F.1 F.2.1 dX7_hangsOn_49 rfl (lv_at hl 1 rfl) ?_
      refine lv_aload_n F.1 F.2.1 dX7_hangsOn_50 rfl (lv_at hl 1 rfl) ?_
      refine lv_iload_n F.1 F.2.1 dX7_hangsOn_51 rfl (lv_at hl 2 rfl) ?_
      refine g_calli (g_runV (As := [.int (iI rr)]) (rest := [.ref mo, .int (iI v_60)]) (ci := 7) F hl.1 hH hS hz (c_X7_secondOf l g gh T I R J AI AJ AR mo rr zrr hv hm hT (by omega)) (cwV 1 F.2.2.2.2.1 (good_up gT_X7_secondOf) rfl rfl rfl hdX7_secondOf ⟨Nat.le_of_ble_eq_true rfl, Nat.le_of_ble_eq_true rfl⟩) hm (by decide) rfl rfl rfl (Nat.le_of_ble_eq_true rfl) dX7_hangsOn_52 ⟨Nat.zero_le _, Nat.zero_le _⟩) hS (fun v_67 I_61 R_62 J_63 AI_64 AJ_65 AR_66 H locs zv_67 hp_68 hH hS => ?_)
      dsimp only at hp_68
      obtain ⟨rfl, rfl, rfl, rfl, rfl, rfl, q_69⟩ := hp_68
      refine g_calli (g_runV (As := [.int (iI v_67)]) (rest := [.int (iI v_60)]) (ci := 7) F hl.1 hH hS hz (c_X7_hangsOn5 l g gh T I R J AI AJ AR mo v_67 zv_67 hv hm hT (by omega)) (cwV 1 F.2.2.2.2.1 (good_up gT_X7_hangsOn) rfl rfl rfl hdX7_hangsOn ⟨Nat.le_of_ble_eq_true rfl, Nat.le_of_ble_eq_true rfl⟩) hm (by decide) rfl rfl rfl (Nat.le_of_ble_eq_true rfl) dX7_hangsOn_55 ⟨Nat.zero_le _, Nat.zero_le _⟩) hS (fun v_76 I_70 R_71 J_72 AI_73 AJ_74 AR_75 H locs zv_76 hp_77 hH hS => ?_)
      dsimp only at hp_77
      obtain ⟨rfl, rfl, rfl, rfl, rfl, rfl⟩ := hp_77
      refine lv_ior F.1 F.2.1 dX7_hangsOn_58 ?_
      refine z_top (fun v_78 zv_78 ev_78 => ?_)
      exact g_iret F hr hlk hH hS hz zv_78 ⟨rfl, rfl, rfl, rfl, rfl, rfl⟩ dX7_hangsOn_59
    · refine lv_iload_n F.1 F.2.1 dX7_hangsOn_36 rfl (lv_at hl 0 rfl) ?_
      refine z_goto (tgt := 59) F dX7_hangsOn_37 (by decide) ?_
      exact g_iret F hr hlk hH hS hz zv_39 ⟨rfl, rfl, rfl, rfl, rfl, rfl⟩ dX7_hangsOn_59
  · refine z_iconst F dX7_hangsOn_8 ?_
    exact g_iret F hr hlk hH hS hz ⟨by decide, by decide⟩ ⟨rfl, rfl, rfl, rfl, rfl, rfl⟩ dX7_hangsOn_9

def rmX7_hangsOn7 : Room := { frames := 7, cells := 0, slots := 0, locals := 153 }
set_option maxHeartbeats 4000000 in
set_option maxRecDepth 100000 in
/-- hangsOn -/
theorem c_X7_hangsOn7 (l : Launch) (g : gG) (gh : gGh) (T : Nat → Int32) (I : gI) (R : gR) (J : gJ) (AI : gI) (AJ : gJ) (AR : gR) (mo : Nat) (rr : Int) (zrr : zr rr) (hv : mInv g gh R I AI) (hm : gO g mo 7) (hT : AI (gh 50 0) = T) (hr0 : 0 ≤ rr ∧ rr < (I mo 2).toInt ∧ rr < 7) : gMet l g yX7_hangsOn tsX7_hangsOn rmX7_hangsOn7 [.ref mo, .int (iI rr)] (I, R, J, AI, AJ, AR) (gQi g (fun (z : Int) (w : gS) => I = w.1 ∧ R = w.2.1 ∧ J = w.2.2.1 ∧ AI = w.2.2.2.1 ∧ AJ = w.2.2.2.2.1 ∧ AR = w.2.2.2.2.2)) := by
  refine gStart (cc := cX7_hangsOn) (maxL := 3) (ret := (some (.int))) (by decide) rfl (Nat.le_of_ble_eq_true rfl) ?_
  intro p e s m below meth c ls F hr hlk hH hz hS hl
  have hl : lv_has ls 3 [(0, .ref mo), (1, .int (iI rr))] := hl
  have hS : va_S (gA g) s.heap s.heap [] := hS
  obtain ⟨H, hHe⟩ : ∃ H : Heap, H = s.heap := ⟨_, rfl⟩
  obtain ⟨locs, hlo⟩ : ∃ k : List Loc, k = [] := ⟨_, rfl⟩
  have hH : gH g I R J AI AJ AR H := by rw [hHe]; exact hH
  have hS : va_S (gA g) s.heap H locs := by rw [hHe, hlo]; exact hS
  suffices hw : W p l e rmX7_hangsOn7 s m ([.ref mo, .int (iI rr)] : List Value).toArray below meth c H locs 0 0 (MQ below (gQi g (fun (z : Int) (w : gS) => I = w.1 ∧ R = w.2.1 ∧ J = w.2.2.1 ∧ AI = w.2.2.2.1 ∧ AJ = w.2.2.2.2.1 ∧ AR = w.2.2.2.2.2)) ([.ref mo, .int (iI rr)] : List Value).toArray s 0 0 (gA g)) (F0 m 0 ls []) by
    rw [hHe, hlo] at hw; exact hw
  clear hHe hlo
  have hb0 := mJ hv hm
  unfold mNum1 at hb0
  have x := mRow hv hm hT (z := rr) (by omega) (by omega)
  have xa := x.1
  have xc := x.2.2.1
  have xb := x.2.1
  refine lv_aload_n F.1 F.2.1 dX7_hangsOn_0 rfl (lv_at hl 0 rfl) ?_
  refine lv_iload_n F.1 F.2.1 dX7_hangsOn_1 rfl (lv_at hl 1 rfl) ?_
  have b_1 := mJ hv hm
  unfold mNum1 at b_1
  refine g_calli (g_runV (As := [.int (iI rr)]) (rest := []) (ci := 7) F hl.1 hH hS hz (c_X7_kindOf l g gh T I R J AI AJ AR mo rr zrr hv hm hT (by omega)) (cwV 1 F.2.2.2.2.1 (good_up gT_X7_kindOf) rfl rfl rfl hdX7_kindOf ⟨Nat.le_of_ble_eq_true rfl, Nat.le_of_ble_eq_true rfl⟩) hm (by decide) rfl rfl rfl (Nat.le_of_ble_eq_true rfl) dX7_hangsOn_2 ⟨Nat.zero_le _, Nat.zero_le _⟩) hS (fun v_8 I_2 R_3 J_4 AI_5 AJ_6 AR_7 H locs zv_8 hp_9 hH hS => ?_)
  dsimp only at hp_9
  obtain ⟨rfl, rfl, rfl, rfl, rfl, rfl, q_10⟩ := hp_9
  refine z_if_ne (tgt := 10) F dX7_hangsOn_5 (by decide) zv_8 (fun c_11 => ?_) (fun c_11 => ?_)
  · refine z_iconst F dX7_hangsOn_10 ?_
    refine lv_aload_n F.1 F.2.1 dX7_hangsOn_11 rfl (lv_at hl 0 rfl) ?_
    refine lv_iload_n F.1 F.2.1 dX7_hangsOn_12 rfl (lv_at hl 1 rfl) ?_
    refine g_calli (g_runV (As := [.int (iI rr)]) (rest := [.int (iI 1)]) (ci := 7) F hl.1 hH hS hz (c_X7_firstOf l g gh T I R J AI AJ AR mo rr zrr hv hm hT (by omega)) (cwV 1 F.2.2.2.2.1 (good_up gT_X7_firstOf) rfl rfl rfl hdX7_firstOf ⟨Nat.le_of_ble_eq_true rfl, Nat.le_of_ble_eq_true rfl⟩) hm (by decide) rfl rfl rfl (Nat.le_of_ble_eq_true rfl) dX7_hangsOn_13 ⟨Nat.zero_le _, Nat.zero_le _⟩) hS (fun v_18 I_12 R_13 J_14 AI_15 AJ_16 AR_17 H locs zv_18 hp_19 hH hS => ?_)
    dsimp only at hp_19
    obtain ⟨rfl, rfl, rfl, rfl, rfl, rfl, q_20⟩ := hp_19
    refine lv_ishl F.1 F.2.1 dX7_hangsOn_16 ?_
    refine z_top (fun v_21 zv_21 ev_21 => ?_)
    refine lv_aload_n F.1 F.2.1 dX7_hangsOn_17 rfl (lv_at hl 0 rfl) ?_
    refine lv_aload_n F.1 F.2.1 dX7_hangsOn_18 rfl (lv_at hl 0 rfl) ?_
    refine lv_iload_n F.1 F.2.1 dX7_hangsOn_19 rfl (lv_at hl 1 rfl) ?_
    refine g_calli (g_runV (As := [.int (iI rr)]) (rest := [.ref mo, .int (iI v_21)]) (ci := 7) F hl.1 hH hS hz (c_X7_firstOf l g gh T I R J AI AJ AR mo rr zrr hv hm hT (by omega)) (cwV 1 F.2.2.2.2.1 (good_up gT_X7_firstOf) rfl rfl rfl hdX7_firstOf ⟨Nat.le_of_ble_eq_true rfl, Nat.le_of_ble_eq_true rfl⟩) hm (by decide) rfl rfl rfl (Nat.le_of_ble_eq_true rfl) dX7_hangsOn_20 ⟨Nat.zero_le _, Nat.zero_le _⟩) hS (fun v_28 I_22 R_23 J_24 AI_25 AJ_26 AR_27 H locs zv_28 hp_29 hH hS => ?_)
    dsimp only at hp_29
    obtain ⟨rfl, rfl, rfl, rfl, rfl, rfl, q_30⟩ := hp_29
    refine g_calli (g_runV (As := [.int (iI v_28)]) (rest := [.int (iI v_21)]) (ci := 7) F hl.1 hH hS hz (c_X7_hangsOn6 l g gh T I R J AI AJ AR mo v_28 zv_28 hv hm hT (by omega)) (cwV 1 F.2.2.2.2.1 (good_up gT_X7_hangsOn) rfl rfl rfl hdX7_hangsOn ⟨Nat.le_of_ble_eq_true rfl, Nat.le_of_ble_eq_true rfl⟩) hm (by decide) rfl rfl rfl (Nat.le_of_ble_eq_true rfl) dX7_hangsOn_23 ⟨Nat.zero_le _, Nat.zero_le _⟩) hS (fun v_37 I_31 R_32 J_33 AI_34 AJ_35 AR_36 H locs zv_37 hp_38 hH hS => ?_)
    dsimp only at hp_38
    obtain ⟨rfl, rfl, rfl, rfl, rfl, rfl⟩ := hp_38
    refine lv_ior F.1 F.2.1 dX7_hangsOn_26 ?_
    refine z_top (fun v_39 zv_39 ev_39 => ?_)
    refine lv_istore_n (lv' := [(2, .int (iI v_39)), (0, .ref mo), (1, .int (iI rr))]) F.1 F.2.1 dX7_hangsOn_27 rfl hl (by decide) rfl (fun ls hl => ?_)
    refine lv_aload_n F.1 F.2.1 dX7_hangsOn_28 rfl (lv_at hl 1 rfl) ?_
    refine lv_iload_n F.1 F.2.1 dX7_hangsOn_29 rfl (lv_at hl 2 rfl) ?_
    refine g_calli (g_runV (As := [.int (iI rr)]) (rest := []) (ci := 7) F hl.1 hH hS hz (c_X7_secondOf l g gh T I R J AI AJ AR mo rr zrr hv hm hT (by omega)) (cwV 1 F.2.2.2.2.1 (good_up gT_X7_secondOf) rfl rfl rfl hdX7_secondOf ⟨Nat.le_of_ble_eq_true rfl, Nat.le_of_ble_eq_true rfl⟩) hm (by decide) rfl rfl rfl (Nat.le_of_ble_eq_true rfl) dX7_hangsOn_30 ⟨Nat.zero_le _, Nat.zero_le _⟩) hS (fun v_46 I_40 R_41 J_42 AI_43 AJ_44 AR_45 H locs zv_46 hp_47 hH hS => ?_)
    dsimp only at hp_47
    obtain ⟨rfl, rfl, rfl, rfl, rfl, rfl, q_48⟩ := hp_47
    refine z_if_ge (tgt := 40) F dX7_hangsOn_33 (by decide) zv_46 (fun c_49 => ?_) (fun c_49 => ?_)
    · refine lv_iload_n F.1 F.2.1 dX7_hangsOn_40 rfl (lv_at hl 0 rfl) ?_
      refine z_iconst F dX7_hangsOn_41 ?_
      refine lv_aload_n F.1 F.2.1 dX7_hangsOn_42 rfl (lv_at hl 1 rfl) ?_
      refine lv_iload_n F.1 F.2.1 dX7_hangsOn_43 rfl (lv_at hl 2 rfl) ?_
      refine g_calli (g_runV (As := [.int (iI rr)]) (rest := [.int (iI 1), .int (iI v_39)]) (ci := 7) F hl.1 hH hS hz (c_X7_secondOf l g gh T I R J AI AJ AR mo rr zrr hv hm hT (by omega)) (cwV 1 F.2.2.2.2.1 (good_up gT_X7_secondOf) rfl rfl rfl hdX7_secondOf ⟨Nat.le_of_ble_eq_true rfl, Nat.le_of_ble_eq_true rfl⟩) hm (by decide) rfl rfl rfl (Nat.le_of_ble_eq_true rfl) dX7_hangsOn_44 ⟨Nat.zero_le _, Nat.zero_le _⟩) hS (fun v_56 I_50 R_51 J_52 AI_53 AJ_54 AR_55 H locs zv_56 hp_57 hH hS => ?_)
      dsimp only at hp_57
      obtain ⟨rfl, rfl, rfl, rfl, rfl, rfl, q_58⟩ := hp_57
      refine lv_ishl F.1 F.2.1 dX7_hangsOn_47 ?_
      refine z_top (fun v_59 zv_59 ev_59 => ?_)
      refine lv_ior F.1 F.2.1 dX7_hangsOn_48 ?_
      refine z_top (fun v_60 zv_60 ev_60 => ?_)
      refine lv_aload_n F.1 F.2.1 dX7_hangsOn_49 rfl (lv_at hl 1 rfl) ?_
      refine lv_aload_n F.1 F.2.1 dX7_hangsOn_50 rfl (lv_at hl 1 rfl) ?_
      refine lv_iload_n F.1 F.2.1 dX7_hangsOn_51 rfl (lv_at hl 2 rfl) ?_
      refine g_calli (g_runV (As := [.int (iI rr)]) (rest := [.ref mo, .int (iI v_60)]) (ci := 7) F hl.1 hH hS hz (c_X7_secondOf l g gh T I R J AI AJ AR mo rr zrr hv hm hT (by omega)) (cwV 1 F.2.2.2.2.1 (good_up gT_X7_secondOf) rfl rfl rfl hdX7_secondOf ⟨Nat.le_of_ble_eq_true rfl, Nat.le_of_ble_eq_true rfl⟩) hm (by decide) rfl rfl rfl (Nat.le_of_ble_eq_true rfl) dX7_hangsOn_52 ⟨Nat.zero_le _, Nat.zero_le _⟩) hS (fun v_67 I_61 R_62 J_63 AI_64 AJ_65 AR_66 H locs zv_67 hp_68 hH hS => ?_)
      dsimp only at hp_68
      obtain ⟨rfl, rfl, rfl, rfl, rfl, rfl, q_69⟩ := hp_68
      refine g_calli (g_runV (As := [.int (iI v_67)]) (rest := [.int (iI v_60)]) (ci := 7) F hl.1 hH hS hz (c_X7_hangsOn6 l g gh T I R J AI AJ AR mo v_67 zv_67 hv hm hT (by omega)) (cwV 1 F.2.2.2.2.1 (good_up gT_X7_hangsOn) rfl rfl rfl hdX7_hangsOn ⟨Nat.le_of_ble_eq_true rfl, Nat.le_of_ble_eq_true rfl⟩) hm (by decide) rfl rfl rfl (Nat.le_of_ble_eq_true rfl) dX7_hangsOn_55 ⟨Nat.zero_le _, Nat.zero_le _⟩) hS (fun v_76 I_70 R_71 J_72 AI_73 AJ_74 AR_75 H locs zv_76 hp_77 hH hS => ?_)
      dsimp only at hp_77
      obtain ⟨rfl, rfl, rfl, rfl, rfl, rfl⟩ := hp_77
      refine lv_ior F.1 F.2.1 dX7_hangsOn_58 ?_
      refine z_top (fun v_78 zv_78 ev_78 => ?_)
      exact g_iret F hr hlk hH hS hz zv_78 ⟨rfl, rfl, rfl, rfl, rfl, rfl⟩ dX7_hangsOn_59
    · refine lv_iload_n F.1 F.2.1 dX7_hangsOn_36 rfl (lv_at hl 0 rfl) ?_
      refine z_goto (tgt := 59) F dX7_hangsOn_37 (by decide) ?_
      exact g_iret F hr hlk hH hS hz zv_39 ⟨rfl, rfl, rfl, rfl, rfl, rfl⟩ dX7_hangsOn_59
  · refine z_iconst F dX7_hangsOn_8 ?_
    exact g_iret F hr hlk hH hS hz ⟨by decide, by decide⟩ ⟨rfl, rfl, rfl, rfl, rfl, rfl⟩ dX7_hangsOn_9

def rmX7_hangsOn8 : Room := { frames := 8, cells := 0, slots := 0, locals := 175 }
set_option maxHeartbeats 4000000 in
set_option maxRecDepth 100000 in
/-- hangsOn -/
theorem c_X7_hangsOn8 (l : Launch) (g : gG) (gh : gGh) (T : Nat → Int32) (I : gI) (R : gR) (J : gJ) (AI : gI) (AJ : gJ) (AR : gR) (mo : Nat) (rr : Int) (zrr : zr rr) (hv : mInv g gh R I AI) (hm : gO g mo 7) (hT : AI (gh 50 0) = T) (hr0 : 0 ≤ rr ∧ rr < (I mo 2).toInt ∧ rr < 8) : gMet l g yX7_hangsOn tsX7_hangsOn rmX7_hangsOn8 [.ref mo, .int (iI rr)] (I, R, J, AI, AJ, AR) (gQi g (fun (z : Int) (w : gS) => I = w.1 ∧ R = w.2.1 ∧ J = w.2.2.1 ∧ AI = w.2.2.2.1 ∧ AJ = w.2.2.2.2.1 ∧ AR = w.2.2.2.2.2)) := by
  refine gStart (cc := cX7_hangsOn) (maxL := 3) (ret := (some (.int))) (by decide) rfl (Nat.le_of_ble_eq_true rfl) ?_
  intro p e s m below meth c ls F hr hlk hH hz hS hl
  have hl : lv_has ls 3 [(0, .ref mo), (1, .int (iI rr))] := hl
  have hS : va_S (gA g) s.heap s.heap [] := hS
  obtain ⟨H, hHe⟩ : ∃ H : Heap, H = s.heap := ⟨_, rfl⟩
  obtain ⟨locs, hlo⟩ : ∃ k : List Loc, k = [] := ⟨_, rfl⟩
  have hH : gH g I R J AI AJ AR H := by rw [hHe]; exact hH
  have hS : va_S (gA g) s.heap H locs := by rw [hHe, hlo]; exact hS
  suffices hw : W p l e rmX7_hangsOn8 s m ([.ref mo, .int (iI rr)] : List Value).toArray below meth c H locs 0 0 (MQ below (gQi g (fun (z : Int) (w : gS) => I = w.1 ∧ R = w.2.1 ∧ J = w.2.2.1 ∧ AI = w.2.2.2.1 ∧ AJ = w.2.2.2.2.1 ∧ AR = w.2.2.2.2.2)) ([.ref mo, .int (iI rr)] : List Value).toArray s 0 0 (gA g)) (F0 m 0 ls []) by
    rw [hHe, hlo] at hw; exact hw
  clear hHe hlo
  have hb0 := mJ hv hm
  unfold mNum1 at hb0
  have x := mRow hv hm hT (z := rr) (by omega) (by omega)
  have xa := x.1
  have xc := x.2.2.1
  have xb := x.2.1
  refine lv_aload_n F.1 F.2.1 dX7_hangsOn_0 rfl (lv_at hl 0 rfl) ?_
  refine lv_iload_n F.1 F.2.1 dX7_hangsOn_1 rfl (lv_at hl 1 rfl) ?_
  have b_1 := mJ hv hm
  unfold mNum1 at b_1
  refine g_calli (g_runV (As := [.int (iI rr)]) (rest := []) (ci := 7) F hl.1 hH hS hz (c_X7_kindOf l g gh T I R J AI AJ AR mo rr zrr hv hm hT (by omega)) (cwV 1 F.2.2.2.2.1 (good_up gT_X7_kindOf) rfl rfl rfl hdX7_kindOf ⟨Nat.le_of_ble_eq_true rfl, Nat.le_of_ble_eq_true rfl⟩) hm (by decide) rfl rfl rfl (Nat.le_of_ble_eq_true rfl) dX7_hangsOn_2 ⟨Nat.zero_le _, Nat.zero_le _⟩) hS (fun v_8 I_2 R_3 J_4 AI_5 AJ_6 AR_7 H locs zv_8 hp_9 hH hS => ?_)
  dsimp only at hp_9
  obtain ⟨rfl, rfl, rfl, rfl, rfl, rfl, q_10⟩ := hp_9
  refine z_if_ne (tgt := 10) F dX7_hangsOn_5 (by decide) zv_8 (fun c_11 => ?_) (fun c_11 => ?_)
  · refine z_iconst F dX7_hangsOn_10 ?_
    refine lv_aload_n F.1 F.2.1 dX7_hangsOn_11 rfl (lv_at hl 0 rfl) ?_
    refine lv_iload_n F.1 F.2.1 dX7_hangsOn_12 rfl (lv_at hl 1 rfl) ?_
    refine g_calli (g_runV (As := [.int (iI rr)]) (rest := [.int (iI 1)]) (ci := 7) F hl.1 hH hS hz (c_X7_firstOf l g gh T I R J AI AJ AR mo rr zrr hv hm hT (by omega)) (cwV 1 F.2.2.2.2.1 (good_up gT_X7_firstOf) rfl rfl rfl hdX7_firstOf ⟨Nat.le_of_ble_eq_true rfl, Nat.le_of_ble_eq_true rfl⟩) hm (by decide) rfl rfl rfl (Nat.le_of_ble_eq_true rfl) dX7_hangsOn_13 ⟨Nat.zero_le _, Nat.zero_le _⟩) hS (fun v_18 I_12 R_13 J_14 AI_15 AJ_16 AR_17 H locs zv_18 hp_19 hH hS => ?_)
    dsimp only at hp_19
    obtain ⟨rfl, rfl, rfl, rfl, rfl, rfl, q_20⟩ := hp_19
    refine lv_ishl F.1 F.2.1 dX7_hangsOn_16 ?_
    refine z_top (fun v_21 zv_21 ev_21 => ?_)
    refine lv_aload_n F.1 F.2.1 dX7_hangsOn_17 rfl (lv_at hl 0 rfl) ?_
    refine lv_aload_n F.1 F.2.1 dX7_hangsOn_18 rfl (lv_at hl 0 rfl) ?_
    refine lv_iload_n F.1 F.2.1 dX7_hangsOn_19 rfl (lv_at hl 1 rfl) ?_
    refine g_calli (g_runV (As := [.int (iI rr)]) (rest := [.ref mo, .int (iI v_21)]) (ci := 7) F hl.1 hH hS hz (c_X7_firstOf l g gh T I R J AI AJ AR mo rr zrr hv hm hT (by omega)) (cwV 1 F.2.2.2.2.1 (good_up gT_X7_firstOf) rfl rfl rfl hdX7_firstOf ⟨Nat.le_of_ble_eq_true rfl, Nat.le_of_ble_eq_true rfl⟩) hm (by decide) rfl rfl rfl (Nat.le_of_ble_eq_true rfl) dX7_hangsOn_20 ⟨Nat.zero_le _, Nat.zero_le _⟩) hS (fun v_28 I_22 R_23 J_24 AI_25 AJ_26 AR_27 H locs zv_28 hp_29 hH hS => ?_)
    dsimp only at hp_29
    obtain ⟨rfl, rfl, rfl, rfl, rfl, rfl, q_30⟩ := hp_29
    refine g_calli (g_runV (As := [.int (iI v_28)]) (rest := [.int (iI v_21)]) (ci := 7) F hl.1 hH hS hz (c_X7_hangsOn7 l g gh T I R J AI AJ AR mo v_28 zv_28 hv hm hT (by omega)) (cwV 1 F.2.2.2.2.1 (good_up gT_X7_hangsOn) rfl rfl rfl hdX7_hangsOn ⟨Nat.le_of_ble_eq_true rfl, Nat.le_of_ble_eq_true rfl⟩) hm (by decide) rfl rfl rfl (Nat.le_of_ble_eq_true rfl) dX7_hangsOn_23 ⟨Nat.zero_le _, Nat.zero_le _⟩) hS (fun v_37 I_31 R_32 J_33 AI_34 AJ_35 AR_36 H locs zv_37 hp_38 hH hS => ?_)
    dsimp only at hp_38
    obtain ⟨rfl, rfl, rfl, rfl, rfl, rfl⟩ := hp_38
    refine lv_ior F.1 F.2.1 dX7_hangsOn_26 ?_
    refine z_top (fun v_39 zv_39 ev_39 => ?_)
    refine lv_istore_n (lv' := [(2, .int (iI v_39)), (0, .ref mo), (1, .int (iI rr))]) F.1 F.2.1 dX7_hangsOn_27 rfl hl (by decide) rfl (fun ls hl => ?_)
    refine lv_aload_n F.1 F.2.1 dX7_hangsOn_28 rfl (lv_at hl 1 rfl) ?_
    refine lv_iload_n F.1 F.2.1 dX7_hangsOn_29 rfl (lv_at hl 2 rfl) ?_
    refine g_calli (g_runV (As := [.int (iI rr)]) (rest := []) (ci := 7) F hl.1 hH hS hz (c_X7_secondOf l g gh T I R J AI AJ AR mo rr zrr hv hm hT (by omega)) (cwV 1 F.2.2.2.2.1 (good_up gT_X7_secondOf) rfl rfl rfl hdX7_secondOf ⟨Nat.le_of_ble_eq_true rfl, Nat.le_of_ble_eq_true rfl⟩) hm (by decide) rfl rfl rfl (Nat.le_of_ble_eq_true rfl) dX7_hangsOn_30 ⟨Nat.zero_le _, Nat.zero_le _⟩) hS (fun v_46 I_40 R_41 J_42 AI_43 AJ_44 AR_45 H locs zv_46 hp_47 hH hS => ?_)
    dsimp only at hp_47
    obtain ⟨rfl, rfl, rfl, rfl, rfl, rfl, q_48⟩ := hp_47
    refine z_if_ge (tgt := 40) F dX7_hangsOn_33 (by decide) zv_46 (fun c_49 => ?_) (fun c_49 => ?_)
    · refine lv_iload_n F.1 F.2.1 dX7_hangsOn_40 rfl (lv_at hl 0 rfl) ?_
      refine z_iconst F dX7_hangsOn_41 ?_
      refine lv_aload_n F.1 F.2.1 dX7_hangsOn_42 rfl (lv_at hl 1 rfl) ?_
      refine lv_iload_n F.1 F.2.1 dX7_hangsOn_43 rfl (lv_at hl 2 rfl) ?_
      refine g_calli (g_runV (As := [.int (iI rr)]) (rest := [.int (iI 1), .int (iI v_39)]) (ci := 7) F hl.1 hH hS hz (c_X7_secondOf l g gh T I R J AI AJ AR mo rr zrr hv hm hT (by omega)) (cwV 1 F.2.2.2.2.1 (good_up gT_X7_secondOf) rfl rfl rfl hdX7_secondOf ⟨Nat.le_of_ble_eq_true rfl, Nat.le_of_ble_eq_true rfl⟩) hm (by decide) rfl rfl rfl (Nat.le_of_ble_eq_true rfl) dX7_hangsOn_44 ⟨Nat.zero_le _, Nat.zero_le _⟩) hS (fun v_56 I_50 R_51 J_52 AI_53 AJ_54 AR_55 H locs zv_56 hp_57 hH hS => ?_)
      dsimp only at hp_57
      obtain ⟨rfl, rfl, rfl, rfl, rfl, rfl, q_58⟩ := hp_57
      refine lv_ishl F.1 F.2.1 dX7_hangsOn_47 ?_
      refine z_top (fun v_59 zv_59 ev_59 => ?_)
      refine lv_ior F.1 F.2.1 dX7_hangsOn_48 ?_
      refine z_top (fun v_60 zv_60 ev_60 => ?_)
      refine lv_aload_n F.1 F.2.1 dX7_hangsOn_49 rfl (lv_at hl 1 rfl) ?_
      refine lv_aload_n F.1 F.2.1 dX7_hangsOn_50 rfl (lv_at hl 1 rfl) ?_
      refine lv_iload_n F.1 F.2.1 dX7_hangsOn_51 rfl (lv_at hl 2 rfl) ?_
      refine g_calli (g_runV (As := [.int (iI rr)]) (rest := [.ref mo, .int (iI v_60)]) (ci := 7) F hl.1 hH hS hz (c_X7_secondOf l g gh T I R J AI AJ AR mo rr zrr hv hm hT (by omega)) (cwV 1 F.2.2.2.2.1 (good_up gT_X7_secondOf) rfl rfl rfl hdX7_secondOf ⟨Nat.le_of_ble_eq_true rfl, Nat.le_of_ble_eq_true rfl⟩) hm (by decide) rfl rfl rfl (Nat.le_of_ble_eq_true rfl) dX7_hangsOn_52 ⟨Nat.zero_le _, Nat.zero_le _⟩) hS (fun v_67 I_61 R_62 J_63 AI_64 AJ_65 AR_66 H locs zv_67 hp_68 hH hS => ?_)
      dsimp only at hp_68
      obtain ⟨rfl, rfl, rfl, rfl, rfl, rfl, q_69⟩ := hp_68
      refine g_calli (g_runV (As := [.int (iI v_67)]) (rest := [.int (iI v_60)]) (ci := 7) F hl.1 hH hS hz (c_X7_hangsOn7 l g gh T I R J AI AJ AR mo v_67 zv_67 hv hm hT (by omega)) (cwV 1 F.2.2.2.2.1 (good_up gT_X7_hangsOn) rfl rfl rfl hdX7_hangsOn ⟨Nat.le_of_ble_eq_true rfl, Nat.le_of_ble_eq_true rfl⟩) hm (by decide) rfl rfl rfl (Nat.le_of_ble_eq_true rfl) dX7_hangsOn_55 ⟨Nat.zero_le _, Nat.zero_le _⟩) hS (fun v_76 I_70 R_71 J_72 AI_73 AJ_74 AR_75 H locs zv_76 hp_77 hH hS => ?_)
      dsimp only at hp_77
      obtain ⟨rfl, rfl, rfl, rfl, rfl, rfl⟩ := hp_77
      refine lv_ior F.1 F.2.1 dX7_hangsOn_58 ?_
      refine z_top (fun v_78 zv_78 ev_78 => ?_)
      exact g_iret F hr hlk hH hS hz zv_78 ⟨rfl, rfl, rfl, rfl, rfl, rfl⟩ dX7_hangsOn_59
    · refine lv_iload_n F.1 F.2.1 dX7_hangsOn_36 rfl (lv_at hl 0 rfl) ?_
      refine z_goto (tgt := 59) F dX7_hangsOn_37 (by decide) ?_
      exact g_iret F hr hlk hH hS hz zv_39 ⟨rfl, rfl, rfl, rfl, rfl, rfl⟩ dX7_hangsOn_59
  · refine z_iconst F dX7_hangsOn_8 ?_
    exact g_iret F hr hlk hH hS hz ⟨by decide, by decide⟩ ⟨rfl, rfl, rfl, rfl, rfl, rfl⟩ dX7_hangsOn_9

def rmX7_hangsOn9 : Room := { frames := 9, cells := 0, slots := 0, locals := 197 }
set_option maxHeartbeats 4000000 in
set_option maxRecDepth 100000 in
/-- hangsOn -/
theorem c_X7_hangsOn9 (l : Launch) (g : gG) (gh : gGh) (T : Nat → Int32) (I : gI) (R : gR) (J : gJ) (AI : gI) (AJ : gJ) (AR : gR) (mo : Nat) (rr : Int) (zrr : zr rr) (hv : mInv g gh R I AI) (hm : gO g mo 7) (hT : AI (gh 50 0) = T) (hr0 : 0 ≤ rr ∧ rr < (I mo 2).toInt ∧ rr < 9) : gMet l g yX7_hangsOn tsX7_hangsOn rmX7_hangsOn9 [.ref mo, .int (iI rr)] (I, R, J, AI, AJ, AR) (gQi g (fun (z : Int) (w : gS) => I = w.1 ∧ R = w.2.1 ∧ J = w.2.2.1 ∧ AI = w.2.2.2.1 ∧ AJ = w.2.2.2.2.1 ∧ AR = w.2.2.2.2.2)) := by
  refine gStart (cc := cX7_hangsOn) (maxL := 3) (ret := (some (.int))) (by decide) rfl (Nat.le_of_ble_eq_true rfl) ?_
  intro p e s m below meth c ls F hr hlk hH hz hS hl
  have hl : lv_has ls 3 [(0, .ref mo), (1, .int (iI rr))] := hl
  have hS : va_S (gA g) s.heap s.heap [] := hS
  obtain ⟨H, hHe⟩ : ∃ H : Heap, H = s.heap := ⟨_, rfl⟩
  obtain ⟨locs, hlo⟩ : ∃ k : List Loc, k = [] := ⟨_, rfl⟩
  have hH : gH g I R J AI AJ AR H := by rw [hHe]; exact hH
  have hS : va_S (gA g) s.heap H locs := by rw [hHe, hlo]; exact hS
  suffices hw : W p l e rmX7_hangsOn9 s m ([.ref mo, .int (iI rr)] : List Value).toArray below meth c H locs 0 0 (MQ below (gQi g (fun (z : Int) (w : gS) => I = w.1 ∧ R = w.2.1 ∧ J = w.2.2.1 ∧ AI = w.2.2.2.1 ∧ AJ = w.2.2.2.2.1 ∧ AR = w.2.2.2.2.2)) ([.ref mo, .int (iI rr)] : List Value).toArray s 0 0 (gA g)) (F0 m 0 ls []) by
    rw [hHe, hlo] at hw; exact hw
  clear hHe hlo
  have hb0 := mJ hv hm
  unfold mNum1 at hb0
  have x := mRow hv hm hT (z := rr) (by omega) (by omega)
  have xa := x.1
  have xc := x.2.2.1
  have xb := x.2.1
  refine lv_aload_n F.1 F.2.1 dX7_hangsOn_0 rfl (lv_at hl 0 rfl) ?_
  refine lv_iload_n F.1 F.2.1 dX7_hangsOn_1 rfl (lv_at hl 1 rfl) ?_
  have b_1 := mJ hv hm
  unfold mNum1 at b_1
  refine g_calli (g_runV (As := [.int (iI rr)]) (rest := []) (ci := 7) F hl.1 hH hS hz (c_X7_kindOf l g gh T I R J AI AJ AR mo rr zrr hv hm hT (by omega)) (cwV 1 F.2.2.2.2.1 (good_up gT_X7_kindOf) rfl rfl rfl hdX7_kindOf ⟨Nat.le_of_ble_eq_true rfl, Nat.le_of_ble_eq_true rfl⟩) hm (by decide) rfl rfl rfl (Nat.le_of_ble_eq_true rfl) dX7_hangsOn_2 ⟨Nat.zero_le _, Nat.zero_le _⟩) hS (fun v_8 I_2 R_3 J_4 AI_5 AJ_6 AR_7 H locs zv_8 hp_9 hH hS => ?_)
  dsimp only at hp_9
  obtain ⟨rfl, rfl, rfl, rfl, rfl, rfl, q_10⟩ := hp_9
  refine z_if_ne (tgt := 10) F dX7_hangsOn_5 (by decide) zv_8 (fun c_11 => ?_) (fun c_11 => ?_)
  · refine z_iconst F dX7_hangsOn_10 ?_
    refine lv_aload_n F.1 F.2.1 dX7_hangsOn_11 rfl (lv_at hl 0 rfl) ?_
    refine lv_iload_n F.1 F.2.1 dX7_hangsOn_12 rfl (lv_at hl 1 rfl) ?_
    refine g_calli (g_runV (As := [.int (iI rr)]) (rest := [.int (iI 1)]) (ci := 7) F hl.1 hH hS hz (c_X7_firstOf l g gh T I R J AI AJ AR mo rr zrr hv hm hT (by omega)) (cwV 1 F.2.2.2.2.1 (good_up gT_X7_firstOf) rfl rfl rfl hdX7_firstOf ⟨Nat.le_of_ble_eq_true rfl, Nat.le_of_ble_eq_true rfl⟩) hm (by decide) rfl rfl rfl (Nat.le_of_ble_eq_true rfl) dX7_hangsOn_13 ⟨Nat.zero_le _, Nat.zero_le _⟩) hS (fun v_18 I_12 R_13 J_14 AI_15 AJ_16 AR_17 H locs zv_18 hp_19 hH hS => ?_)
    dsimp only at hp_19
    obtain ⟨rfl, rfl, rfl, rfl, rfl, rfl, q_20⟩ := hp_19
    refine lv_ishl F.1 F.2.1 dX7_hangsOn_16 ?_
    refine z_top (fun v_21 zv_21 ev_21 => ?_)
    refine lv_aload_n F.1 F.2.1 dX7_hangsOn_17 rfl (lv_at hl 0 rfl) ?_
    refine lv_aload_n F.1 F.2.1 dX7_hangsOn_18 rfl (lv_at hl 0 rfl) ?_
    refine lv_iload_n F.1 F.2.1 dX7_hangsOn_19 rfl (lv_at hl 1 rfl) ?_
    refine g_calli (g_runV (As := [.int (iI rr)]) (rest := [.ref mo, .int (iI v_21)]) (ci := 7) F hl.1 hH hS hz (c_X7_firstOf l g gh T I R J AI AJ AR mo rr zrr hv hm hT (by omega)) (cwV 1 F.2.2.2.2.1 (good_up gT_X7_firstOf) rfl rfl rfl hdX7_firstOf ⟨Nat.le_of_ble_eq_true rfl, Nat.le_of_ble_eq_true rfl⟩) hm (by decide) rfl rfl rfl (Nat.le_of_ble_eq_true rfl) dX7_hangsOn_20 ⟨Nat.zero_le _, Nat.zero_le _⟩) hS (fun v_28 I_22 R_23 J_24 AI_25 AJ_26 AR_27 H locs zv_28 hp_29 hH hS => ?_)
    dsimp only at hp_29
    obtain ⟨rfl, rfl, rfl, rfl, rfl, rfl, q_30⟩ := hp_29
    refine g_calli (g_runV (As := [.int (iI v_28)]) (rest := [.int (iI v_21)]) (ci := 7) F hl.1 hH hS hz (c_X7_hangsOn8 l g gh T I R J AI AJ AR mo v_28 zv_28 hv hm hT (by omega)) (cwV 1 F.2.2.2.2.1 (good_up gT_X7_hangsOn) rfl rfl rfl hdX7_hangsOn ⟨Nat.le_of_ble_eq_true rfl, Nat.le_of_ble_eq_true rfl⟩) hm (by decide) rfl rfl rfl (Nat.le_of_ble_eq_true rfl) dX7_hangsOn_23 ⟨Nat.zero_le _, Nat.zero_le _⟩) hS (fun v_37 I_31 R_32 J_33 AI_34 AJ_35 AR_36 H locs zv_37 hp_38 hH hS => ?_)
    dsimp only at hp_38
    obtain ⟨rfl, rfl, rfl, rfl, rfl, rfl⟩ := hp_38
    refine lv_ior F.1 F.2.1 dX7_hangsOn_26 ?_
    refine z_top (fun v_39 zv_39 ev_39 => ?_)
    refine lv_istore_n (lv' := [(2, .int (iI v_39)), (0, .ref mo), (1, .int (iI rr))]) F.1 F.2.1 dX7_hangsOn_27 rfl hl (by decide) rfl (fun ls hl => ?_)
    refine lv_aload_n F.1 F.2.1 dX7_hangsOn_28 rfl (lv_at hl 1 rfl) ?_
    refine lv_iload_n F.1 F.2.1 dX7_hangsOn_29 rfl (lv_at hl 2 rfl) ?_
    refine g_calli (g_runV (As := [.int (iI rr)]) (rest := []) (ci := 7) F hl.1 hH hS hz (c_X7_secondOf l g gh T I R J AI AJ AR mo rr zrr hv hm hT (by omega)) (cwV 1 F.2.2.2.2.1 (good_up gT_X7_secondOf) rfl rfl rfl hdX7_secondOf ⟨Nat.le_of_ble_eq_true rfl, Nat.le_of_ble_eq_true rfl⟩) hm (by decide) rfl rfl rfl (Nat.le_of_ble_eq_true rfl) dX7_hangsOn_30 ⟨Nat.zero_le _, Nat.zero_le _⟩) hS (fun v_46 I_40 R_41 J_42 AI_43 AJ_44 AR_45 H locs zv_46 hp_47 hH hS => ?_)
    dsimp only at hp_47
    obtain ⟨rfl, rfl, rfl, rfl, rfl, rfl, q_48⟩ := hp_47
    refine z_if_ge (tgt := 40) F dX7_hangsOn_33 (by decide) zv_46 (fun c_49 => ?_) (fun c_49 => ?_)
    · refine lv_iload_n F.1 F.2.1 dX7_hangsOn_40 rfl (lv_at hl 0 rfl) ?_
      refine z_iconst F dX7_hangsOn_41 ?_
      refine lv_aload_n F.1 F.2.1 dX7_hangsOn_42 rfl (lv_at hl 1 rfl) ?_
      refine lv_iload_n F.1 F.2.1 dX7_hangsOn_43 rfl (lv_at hl 2 rfl) ?_
      refine g_calli (g_runV (As := [.int (iI rr)]) (rest := [.int (iI 1), .int (iI v_39)]) (ci := 7) F hl.1 hH hS hz (c_X7_secondOf l g gh T I R J AI AJ AR mo rr zrr hv hm hT (by omega)) (cwV 1 F.2.2.2.2.1 (good_up gT_X7_secondOf) rfl rfl rfl hdX7_secondOf ⟨Nat.le_of_ble_eq_true rfl, Nat.le_of_ble_eq_true rfl⟩) hm (by decide) rfl rfl rfl (Nat.le_of_ble_eq_true rfl) dX7_hangsOn_44 ⟨Nat.zero_le _, Nat.zero_le _⟩) hS (fun v_56 I_50 R_51 J_52 AI_53 AJ_54 AR_55 H locs zv_56 hp_57 hH hS => ?_)
      dsimp only at hp_57
      obtain ⟨rfl, rfl, rfl, rfl, rfl, rfl, q_58⟩ := hp_57
      refine lv_ishl F.1 F.2.1 dX7_hangsOn_47 ?_
      refine z_top (fun v_59 zv_59 ev_59 => ?_)
      refine lv_ior F.1 F.2.1 dX7_hangsOn_48 ?_
      refine z_top (fun v_60 zv_60 ev_60 => ?_)
      refine lv_aload_n F.1 F.2.1 dX7_hangsOn_49 rfl (lv_at hl 1 rfl) ?_
      refine lv_aload_n F.1 F.2.1 dX7_hangsOn_50 rfl (lv_at hl 1 rfl) ?_
      refine lv_iload_n F.1 F.2.1 dX7_hangsOn_51 rfl (lv_at hl 2 rfl) ?_
      refine g_calli (g_runV (As := [.int (iI rr)]) (rest := [.ref mo, .int (iI v_60)]) (ci := 7) F hl.1 hH hS hz (c_X7_secondOf l g gh T I R J AI AJ AR mo rr zrr hv hm hT (by omega)) (cwV 1 F.2.2.2.2.1 (good_up gT_X7_secondOf) rfl rfl rfl hdX7_secondOf ⟨Nat.le_of_ble_eq_true rfl, Nat.le_of_ble_eq_true rfl⟩) hm (by decide) rfl rfl rfl (Nat.le_of_ble_eq_true rfl) dX7_hangsOn_52 ⟨Nat.zero_le _, Nat.zero_le _⟩) hS (fun v_67 I_61 R_62 J_63 AI_64 AJ_65 AR_66 H locs zv_67 hp_68 hH hS => ?_)
      dsimp only at hp_68
      obtain ⟨rfl, rfl, rfl, rfl, rfl, rfl, q_69⟩ := hp_68
      refine g_calli (g_runV (As := [.int (iI v_67)]) (rest := [.int (iI v_60)]) (ci := 7) F hl.1 hH hS hz (c_X7_hangsOn8 l g gh T I R J AI AJ AR mo v_67 zv_67 hv hm hT (by omega)) (cwV 1 F.2.2.2.2.1 (good_up gT_X7_hangsOn) rfl rfl rfl hdX7_hangsOn ⟨Nat.le_of_ble_eq_true rfl, Nat.le_of_ble_eq_true rfl⟩) hm (by decide) rfl rfl rfl (Nat.le_of_ble_eq_true rfl) dX7_hangsOn_55 ⟨Nat.zero_le _, Nat.zero_le _⟩) hS (fun v_76 I_70 R_71 J_72 AI_73 AJ_74 AR_75 H locs zv_76 hp_77 hH hS => ?_)
      dsimp only at hp_77
      obtain ⟨rfl, rfl, rfl, rfl, rfl, rfl⟩ := hp_77
      refine lv_ior F.1 F.2.1 dX7_hangsOn_58 ?_
      refine z_top (fun v_78 zv_78 ev_78 => ?_)
      exact g_iret F hr hlk hH hS hz zv_78 ⟨rfl, rfl, rfl, rfl, rfl, rfl⟩ dX7_hangsOn_59
    · refine lv_iload_n F.1 F.2.1 dX7_hangsOn_36 rfl (lv_at hl 0 rfl) ?_
      refine z_goto (tgt := 59) F dX7_hangsOn_37 (by decide) ?_
      exact g_iret F hr hlk hH hS hz zv_39 ⟨rfl, rfl, rfl, rfl, rfl, rfl⟩ dX7_hangsOn_59
  · refine z_iconst F dX7_hangsOn_8 ?_
    exact g_iret F hr hlk hH hS hz ⟨by decide, by decide⟩ ⟨rfl, rfl, rfl, rfl, rfl, rfl⟩ dX7_hangsOn_9

def rmX7_hangsOn10 : Room := { frames := 10, cells := 0, slots := 0, locals := 219 }
set_option maxHeartbeats 4000000 in
set_option maxRecDepth 100000 in
/-- hangsOn -/
theorem c_X7_hangsOn10 (l : Launch) (g : gG) (gh : gGh) (T : Nat → Int32) (I : gI) (R : gR) (J : gJ) (AI : gI) (AJ : gJ) (AR : gR) (mo : Nat) (rr : Int) (zrr : zr rr) (hv : mInv g gh R I AI) (hm : gO g mo 7) (hT : AI (gh 50 0) = T) (hr0 : 0 ≤ rr ∧ rr < (I mo 2).toInt ∧ rr < 10) : gMet l g yX7_hangsOn tsX7_hangsOn rmX7_hangsOn10 [.ref mo, .int (iI rr)] (I, R, J, AI, AJ, AR) (gQi g (fun (z : Int) (w : gS) => I = w.1 ∧ R = w.2.1 ∧ J = w.2.2.1 ∧ AI = w.2.2.2.1 ∧ AJ = w.2.2.2.2.1 ∧ AR = w.2.2.2.2.2)) := by
  refine gStart (cc := cX7_hangsOn) (maxL := 3) (ret := (some (.int))) (by decide) rfl (Nat.le_of_ble_eq_true rfl) ?_
  intro p e s m below meth c ls F hr hlk hH hz hS hl
  have hl : lv_has ls 3 [(0, .ref mo), (1, .int (iI rr))] := hl
  have hS : va_S (gA g) s.heap s.heap [] := hS
  obtain ⟨H, hHe⟩ : ∃ H : Heap, H = s.heap := ⟨_, rfl⟩
  obtain ⟨locs, hlo⟩ : ∃ k : List Loc, k = [] := ⟨_, rfl⟩
  have hH : gH g I R J AI AJ AR H := by rw [hHe]; exact hH
  have hS : va_S (gA g) s.heap H locs := by rw [hHe, hlo]; exact hS
  suffices hw : W p l e rmX7_hangsOn10 s m ([.ref mo, .int (iI rr)] : List Value).toArray below meth c H locs 0 0 (MQ below (gQi g (fun (z : Int) (w : gS) => I = w.1 ∧ R = w.2.1 ∧ J = w.2.2.1 ∧ AI = w.2.2.2.1 ∧ AJ = w.2.2.2.2.1 ∧ AR = w.2.2.2.2.2)) ([.ref mo, .int (iI rr)] : List Value).toArray s 0 0 (gA g)) (F0 m 0 ls []) by
    rw [hHe, hlo] at hw; exact hw
  clear hHe hlo
  have hb0 := mJ hv hm
  unfold mNum1 at hb0
  have x := mRow hv hm hT (z := rr) (by omega) (by omega)
  have xa := x.1
  have xc := x.2.2.1
  have xb := x.2.1
  refine lv_aload_n F.1 F.2.1 dX7_hangsOn_0 rfl (lv_at hl 0 rfl) ?_
  refine lv_iload_n F.1 F.2.1 dX7_hangsOn_1 rfl (lv_at hl 1 rfl) ?_
  have b_1 := mJ hv hm
  unfold mNum1 at b_1
  refine g_calli (g_runV (As := [.int (iI rr)]) (rest := []) (ci := 7) F hl.1 hH hS hz (c_X7_kindOf l g gh T I R J AI AJ AR mo rr zrr hv hm hT (by omega)) (cwV 1 F.2.2.2.2.1 (good_up gT_X7_kindOf) rfl rfl rfl hdX7_kindOf ⟨Nat.le_of_ble_eq_true rfl, Nat.le_of_ble_eq_true rfl⟩) hm (by decide) rfl rfl rfl (Nat.le_of_ble_eq_true rfl) dX7_hangsOn_2 ⟨Nat.zero_le _, Nat.zero_le _⟩) hS (fun v_8 I_2 R_3 J_4 AI_5 AJ_6 AR_7 H locs zv_8 hp_9 hH hS => ?_)
  dsimp only at hp_9
  obtain ⟨rfl, rfl, rfl, rfl, rfl, rfl, q_10⟩ := hp_9
  refine z_if_ne (tgt := 10) F dX7_hangsOn_5 (by decide) zv_8 (fun c_11 => ?_) (fun c_11 => ?_)
  · refine z_iconst F dX7_hangsOn_10 ?_
    refine lv_aload_n F.1 F.2.1 dX7_hangsOn_11 rfl (lv_at hl 0 rfl) ?_
    refine lv_iload_n F.1 F.2.1 dX7_hangsOn_12 rfl (lv_at hl 1 rfl) ?_
    refine g_calli (g_runV (As := [.int (iI rr)]) (rest := [.int (iI 1)]) (ci := 7) F hl.1 hH hS hz (c_X7_firstOf l g gh T I R J AI AJ AR mo rr zrr hv hm hT (by omega)) (cwV 1 F.2.2.2.2.1 (good_up gT_X7_firstOf) rfl rfl rfl hdX7_firstOf ⟨Nat.le_of_ble_eq_true rfl, Nat.le_of_ble_eq_true rfl⟩) hm (by decide) rfl rfl rfl (Nat.le_of_ble_eq_true rfl) dX7_hangsOn_13 ⟨Nat.zero_le _, Nat.zero_le _⟩) hS (fun v_18 I_12 R_13 J_14 AI_15 AJ_16 AR_17 H locs zv_18 hp_19 hH hS => ?_)
    dsimp only at hp_19
    obtain ⟨rfl, rfl, rfl, rfl, rfl, rfl, q_20⟩ := hp_19
    refine lv_ishl F.1 F.2.1 dX7_hangsOn_16 ?_
    refine z_top (fun v_21 zv_21 ev_21 => ?_)
    refine lv_aload_n F.1 F.2.1 dX7_hangsOn_17 rfl (lv_at hl 0 rfl) ?_
    refine lv_aload_n F.1 F.2.1 dX7_hangsOn_18 rfl (lv_at hl 0 rfl) ?_
    refine lv_iload_n F.1 F.2.1 dX7_hangsOn_19 rfl (lv_at hl 1 rfl) ?_
    refine g_calli (g_runV (As := [.int (iI rr)]) (rest := [.ref mo, .int (iI v_21)]) (ci := 7) F hl.1 hH hS hz (c_X7_firstOf l g gh T I R J AI AJ AR mo rr zrr hv hm hT (by omega)) (cwV 1 F.2.2.2.2.1 (good_up gT_X7_firstOf) rfl rfl rfl hdX7_firstOf ⟨Nat.le_of_ble_eq_true rfl, Nat.le_of_ble_eq_true rfl⟩) hm (by decide) rfl rfl rfl (Nat.le_of_ble_eq_true rfl) dX7_hangsOn_20 ⟨Nat.zero_le _, Nat.zero_le _⟩) hS (fun v_28 I_22 R_23 J_24 AI_25 AJ_26 AR_27 H locs zv_28 hp_29 hH hS => ?_)
    dsimp only at hp_29
    obtain ⟨rfl, rfl, rfl, rfl, rfl, rfl, q_30⟩ := hp_29
    refine g_calli (g_runV (As := [.int (iI v_28)]) (rest := [.int (iI v_21)]) (ci := 7) F hl.1 hH hS hz (c_X7_hangsOn9 l g gh T I R J AI AJ AR mo v_28 zv_28 hv hm hT (by omega)) (cwV 1 F.2.2.2.2.1 (good_up gT_X7_hangsOn) rfl rfl rfl hdX7_hangsOn ⟨Nat.le_of_ble_eq_true rfl, Nat.le_of_ble_eq_true rfl⟩) hm (by decide) rfl rfl rfl (Nat.le_of_ble_eq_true rfl) dX7_hangsOn_23 ⟨Nat.zero_le _, Nat.zero_le _⟩) hS (fun v_37 I_31 R_32 J_33 AI_34 AJ_35 AR_36 H locs zv_37 hp_38 hH hS => ?_)
    dsimp only at hp_38
    obtain ⟨rfl, rfl, rfl, rfl, rfl, rfl⟩ := hp_38
    refine lv_ior F.1 F.2.1 dX7_hangsOn_26 ?_
    refine z_top (fun v_39 zv_39 ev_39 => ?_)
    refine lv_istore_n (lv' := [(2, .int (iI v_39)), (0, .ref mo), (1, .int (iI rr))]) F.1 F.2.1 dX7_hangsOn_27 rfl hl (by decide) rfl (fun ls hl => ?_)
    refine lv_aload_n F.1 F.2.1 dX7_hangsOn_28 rfl (lv_at hl 1 rfl) ?_
    refine lv_iload_n F.1 F.2.1 dX7_hangsOn_29 rfl (lv_at hl 2 rfl) ?_
    refine g_calli (g_runV (As := [.int (iI rr)]) (rest := []) (ci := 7) F hl.1 hH hS hz (c_X7_secondOf l g gh T I R J AI AJ AR mo rr zrr hv hm hT (by omega)) (cwV 1 F.2.2.2.2.1 (good_up gT_X7_secondOf) rfl rfl rfl hdX7_secondOf ⟨Nat.le_of_ble_eq_true rfl, Nat.le_of_ble_eq_true rfl⟩) hm (by decide) rfl rfl rfl (Nat.le_of_ble_eq_true rfl) dX7_hangsOn_30 ⟨Nat.zero_le _, Nat.zero_le _⟩) hS (fun v_46 I_40 R_41 J_42 AI_43 AJ_44 AR_45 H locs zv_46 hp_47 hH hS => ?_)
    dsimp only at hp_47
    obtain ⟨rfl, rfl, rfl, rfl, rfl, rfl, q_48⟩ := hp_47
    refine z_if_ge (tgt := 40) F dX7_hangsOn_33 (by decide) zv_46 (fun c_49 => ?_) (fun c_49 => ?_)
    · refine lv_iload_n F.1 F.2.1 dX7_hangsOn_40 rfl (lv_at hl 0 rfl) ?_
      refine z_iconst F dX7_hangsOn_41 ?_
      refine lv_aload_n F.1 F.2.1 dX7_hangsOn_42 rfl (lv_at hl 1 rfl) ?_
      refine lv_iload_n F.1 F.2.1 dX7_hangsOn_43 rfl (lv_at hl 2 rfl) ?_
      refine g_calli (g_runV (As := [.int (iI rr)]) (rest := [.int (iI 1), .int (iI v_39)]) (ci := 7) F hl.1 hH hS hz (c_X7_secondOf l g gh T I R J AI AJ AR mo rr zrr hv hm hT (by omega)) (cwV 1 F.2.2.2.2.1 (good_up gT_X7_secondOf) rfl rfl rfl hdX7_secondOf ⟨Nat.le_of_ble_eq_true rfl, Nat.le_of_ble_eq_true rfl⟩) hm (by decide) rfl rfl rfl (Nat.le_of_ble_eq_true rfl) dX7_hangsOn_44 ⟨Nat.zero_le _, Nat.zero_le _⟩) hS (fun v_56 I_50 R_51 J_52 AI_53 AJ_54 AR_55 H locs zv_56 hp_57 hH hS => ?_)
      dsimp only at hp_57
      obtain ⟨rfl, rfl, rfl, rfl, rfl, rfl, q_58⟩ := hp_57
      refine lv_ishl F.1 F.2.1 dX7_hangsOn_47 ?_
      refine z_top (fun v_59 zv_59 ev_59 => ?_)
      refine lv_ior F.1 F.2.1 dX7_hangsOn_48 ?_
      refine z_top (fun v_60 zv_60 ev_60 => ?_)
      refine lv_aload_n F.1 F.2.1 dX7_hangsOn_49 rfl (lv_at hl 1 rfl) ?_
      refine lv_aload_n F.1 F.2.1 dX7_hangsOn_50 rfl (lv_at hl 1 rfl) ?_
      refine lv_iload_n F.1 F.2.1 dX7_hangsOn_51 rfl (lv_at hl 2 rfl) ?_
      refine g_calli (g_runV (As := [.int (iI rr)]) (rest := [.ref mo, .int (iI v_60)]) (ci := 7) F hl.1 hH hS hz (c_X7_secondOf l g gh T I R J AI AJ AR mo rr zrr hv hm hT (by omega)) (cwV 1 F.2.2.2.2.1 (good_up gT_X7_secondOf) rfl rfl rfl hdX7_secondOf ⟨Nat.le_of_ble_eq_true rfl, Nat.le_of_ble_eq_true rfl⟩) hm (by decide) rfl rfl rfl (Nat.le_of_ble_eq_true rfl) dX7_hangsOn_52 ⟨Nat.zero_le _, Nat.zero_le _⟩) hS (fun v_67 I_61 R_62 J_63 AI_64 AJ_65 AR_66 H locs zv_67 hp_68 hH hS => ?_)
      dsimp only at hp_68
      obtain ⟨rfl, rfl, rfl, rfl, rfl, rfl, q_69⟩ := hp_68
      refine g_calli (g_runV (As := [.int (iI v_67)]) (rest := [.int (iI v_60)]) (ci := 7) F hl.1 hH hS hz (c_X7_hangsOn9 l g gh T I R J AI AJ AR mo v_67 zv_67 hv hm hT (by omega)) (cwV 1 F.2.2.2.2.1 (good_up gT_X7_hangsOn) rfl rfl rfl hdX7_hangsOn ⟨Nat.le_of_ble_eq_true rfl, Nat.le_of_ble_eq_true rfl⟩) hm (by decide) rfl rfl rfl (Nat.le_of_ble_eq_true rfl) dX7_hangsOn_55 ⟨Nat.zero_le _, Nat.zero_le _⟩) hS (fun v_76 I_70 R_71 J_72 AI_73 AJ_74 AR_75 H locs zv_76 hp_77 hH hS => ?_)
      dsimp only at hp_77
      obtain ⟨rfl, rfl, rfl, rfl, rfl, rfl⟩ := hp_77
      refine lv_ior F.1 F.2.1 dX7_hangsOn_58 ?_
      refine z_top (fun v_78 zv_78 ev_78 => ?_)
      exact g_iret F hr hlk hH hS hz zv_78 ⟨rfl, rfl, rfl, rfl, rfl, rfl⟩ dX7_hangsOn_59
    · refine lv_iload_n F.1 F.2.1 dX7_hangsOn_36 rfl (lv_at hl 0 rfl) ?_
      refine z_goto (tgt := 59) F dX7_hangsOn_37 (by decide) ?_
      exact g_iret F hr hlk hH hS hz zv_39 ⟨rfl, rfl, rfl, rfl, rfl, rfl⟩ dX7_hangsOn_59
  · refine z_iconst F dX7_hangsOn_8 ?_
    exact g_iret F hr hlk hH hS hz ⟨by decide, by decide⟩ ⟨rfl, rfl, rfl, rfl, rfl, rfl⟩ dX7_hangsOn_9

def rmX7_hangsOn11 : Room := { frames := 11, cells := 0, slots := 0, locals := 241 }
set_option maxHeartbeats 4000000 in
set_option maxRecDepth 100000 in
/-- hangsOn -/
theorem c_X7_hangsOn11 (l : Launch) (g : gG) (gh : gGh) (T : Nat → Int32) (I : gI) (R : gR) (J : gJ) (AI : gI) (AJ : gJ) (AR : gR) (mo : Nat) (rr : Int) (zrr : zr rr) (hv : mInv g gh R I AI) (hm : gO g mo 7) (hT : AI (gh 50 0) = T) (hr0 : 0 ≤ rr ∧ rr < (I mo 2).toInt ∧ rr < 11) : gMet l g yX7_hangsOn tsX7_hangsOn rmX7_hangsOn11 [.ref mo, .int (iI rr)] (I, R, J, AI, AJ, AR) (gQi g (fun (z : Int) (w : gS) => I = w.1 ∧ R = w.2.1 ∧ J = w.2.2.1 ∧ AI = w.2.2.2.1 ∧ AJ = w.2.2.2.2.1 ∧ AR = w.2.2.2.2.2)) := by
  refine gStart (cc := cX7_hangsOn) (maxL := 3) (ret := (some (.int))) (by decide) rfl (Nat.le_of_ble_eq_true rfl) ?_
  intro p e s m below meth c ls F hr hlk hH hz hS hl
  have hl : lv_has ls 3 [(0, .ref mo), (1, .int (iI rr))] := hl
  have hS : va_S (gA g) s.heap s.heap [] := hS
  obtain ⟨H, hHe⟩ : ∃ H : Heap, H = s.heap := ⟨_, rfl⟩
  obtain ⟨locs, hlo⟩ : ∃ k : List Loc, k = [] := ⟨_, rfl⟩
  have hH : gH g I R J AI AJ AR H := by rw [hHe]; exact hH
  have hS : va_S (gA g) s.heap H locs := by rw [hHe, hlo]; exact hS
  suffices hw : W p l e rmX7_hangsOn11 s m ([.ref mo, .int (iI rr)] : List Value).toArray below meth c H locs 0 0 (MQ below (gQi g (fun (z : Int) (w : gS) => I = w.1 ∧ R = w.2.1 ∧ J = w.2.2.1 ∧ AI = w.2.2.2.1 ∧ AJ = w.2.2.2.2.1 ∧ AR = w.2.2.2.2.2)) ([.ref mo, .int (iI rr)] : List Value).toArray s 0 0 (gA g)) (F0 m 0 ls []) by
    rw [hHe, hlo] at hw; exact hw
  clear hHe hlo
  have hb0 := mJ hv hm
  unfold mNum1 at hb0
  have x := mRow hv hm hT (z := rr) (by omega) (by omega)
  have xa := x.1
  have xc := x.2.2.1
  have xb := x.2.1
  refine lv_aload_n F.1 F.2.1 dX7_hangsOn_0 rfl (lv_at hl 0 rfl) ?_
  refine lv_iload_n F.1 F.2.1 dX7_hangsOn_1 rfl (lv_at hl 1 rfl) ?_
  have b_1 := mJ hv hm
  unfold mNum1 at b_1
  refine g_calli (g_runV (As := [.int (iI rr)]) (rest := []) (ci := 7) F hl.1 hH hS hz (c_X7_kindOf l g gh T I R J AI AJ AR mo rr zrr hv hm hT (by omega)) (cwV 1 F.2.2.2.2.1 (good_up gT_X7_kindOf) rfl rfl rfl hdX7_kindOf ⟨Nat.le_of_ble_eq_true rfl, Nat.le_of_ble_eq_true rfl⟩) hm (by decide) rfl rfl rfl (Nat.le_of_ble_eq_true rfl) dX7_hangsOn_2 ⟨Nat.zero_le _, Nat.zero_le _⟩) hS (fun v_8 I_2 R_3 J_4 AI_5 AJ_6 AR_7 H locs zv_8 hp_9 hH hS => ?_)
  dsimp only at hp_9
  obtain ⟨rfl, rfl, rfl, rfl, rfl, rfl, q_10⟩ := hp_9
  refine z_if_ne (tgt := 10) F dX7_hangsOn_5 (by decide) zv_8 (fun c_11 => ?_) (fun c_11 => ?_)
  · refine z_iconst F dX7_hangsOn_10 ?_
    refine lv_aload_n F.1 F.2.1 dX7_hangsOn_11 rfl (lv_at hl 0 rfl) ?_
    refine lv_iload_n F.1 F.2.1 dX7_hangsOn_12 rfl (lv_at hl 1 rfl) ?_
    refine g_calli (g_runV (As := [.int (iI rr)]) (rest := [.int (iI 1)]) (ci := 7) F hl.1 hH hS hz (c_X7_firstOf l g gh T I R J AI AJ AR mo rr zrr hv hm hT (by omega)) (cwV 1 F.2.2.2.2.1 (good_up gT_X7_firstOf) rfl rfl rfl hdX7_firstOf ⟨Nat.le_of_ble_eq_true rfl, Nat.le_of_ble_eq_true rfl⟩) hm (by decide) rfl rfl rfl (Nat.le_of_ble_eq_true rfl) dX7_hangsOn_13 ⟨Nat.zero_le _, Nat.zero_le _⟩) hS (fun v_18 I_12 R_13 J_14 AI_15 AJ_16 AR_17 H locs zv_18 hp_19 hH hS => ?_)
    dsimp only at hp_19
    obtain ⟨rfl, rfl, rfl, rfl, rfl, rfl, q_20⟩ := hp_19
    refine lv_ishl F.1 F.2.1 dX7_hangsOn_16 ?_
    refine z_top (fun v_21 zv_21 ev_21 => ?_)
    refine lv_aload_n F.1 F.2.1 dX7_hangsOn_17 rfl (lv_at hl 0 rfl) ?_
    refine lv_aload_n F.1 F.2.1 dX7_hangsOn_18 rfl (lv_at hl 0 rfl) ?_
    refine lv_iload_n F.1 F.2.1 dX7_hangsOn_19 rfl (lv_at hl 1 rfl) ?_
    refine g_calli (g_runV (As := [.int (iI rr)]) (rest := [.ref mo, .int (iI v_21)]) (ci := 7) F hl.1 hH hS hz (c_X7_firstOf l g gh T I R J AI AJ AR mo rr zrr hv hm hT (by omega)) (cwV 1 F.2.2.2.2.1 (good_up gT_X7_firstOf) rfl rfl rfl hdX7_firstOf ⟨Nat.le_of_ble_eq_true rfl, Nat.le_of_ble_eq_true rfl⟩) hm (by decide) rfl rfl rfl (Nat.le_of_ble_eq_true rfl) dX7_hangsOn_20 ⟨Nat.zero_le _, Nat.zero_le _⟩) hS (fun v_28 I_22 R_23 J_24 AI_25 AJ_26 AR_27 H locs zv_28 hp_29 hH hS => ?_)
    dsimp only at hp_29
    obtain ⟨rfl, rfl, rfl, rfl, rfl, rfl, q_30⟩ := hp_29
    refine g_calli (g_runV (As := [.int (iI v_28)]) (rest := [.int (iI v_21)]) (ci := 7) F hl.1 hH hS hz (c_X7_hangsOn10 l g gh T I R J AI AJ AR mo v_28 zv_28 hv hm hT (by omega)) (cwV 1 F.2.2.2.2.1 (good_up gT_X7_hangsOn) rfl rfl rfl hdX7_hangsOn ⟨Nat.le_of_ble_eq_true rfl, Nat.le_of_ble_eq_true rfl⟩) hm (by decide) rfl rfl rfl (Nat.le_of_ble_eq_true rfl) dX7_hangsOn_23 ⟨Nat.zero_le _, Nat.zero_le _⟩) hS (fun v_37 I_31 R_32 J_33 AI_34 AJ_35 AR_36 H locs zv_37 hp_38 hH hS => ?_)
    dsimp only at hp_38
    obtain ⟨rfl, rfl, rfl, rfl, rfl, rfl⟩ := hp_38
    refine lv_ior F.1 F.2.1 dX7_hangsOn_26 ?_
    refine z_top (fun v_39 zv_39 ev_39 => ?_)
    refine lv_istore_n (lv' := [(2, .int (iI v_39)), (0, .ref mo), (1, .int (iI rr))]) F.1 F.2.1 dX7_hangsOn_27 rfl hl (by decide) rfl (fun ls hl => ?_)
    refine lv_aload_n F.1 F.2.1 dX7_hangsOn_28 rfl (lv_at hl 1 rfl) ?_
    refine lv_iload_n F.1 F.2.1 dX7_hangsOn_29 rfl (lv_at hl 2 rfl) ?_
    refine g_calli (g_runV (As := [.int (iI rr)]) (rest := []) (ci := 7) F hl.1 hH hS hz (c_X7_secondOf l g gh T I R J AI AJ AR mo rr zrr hv hm hT (by omega)) (cwV 1 F.2.2.2.2.1 (good_up gT_X7_secondOf) rfl rfl rfl hdX7_secondOf ⟨Nat.le_of_ble_eq_true rfl, Nat.le_of_ble_eq_true rfl⟩) hm (by decide) rfl rfl rfl (Nat.le_of_ble_eq_true rfl) dX7_hangsOn_30 ⟨Nat.zero_le _, Nat.zero_le _⟩) hS (fun v_46 I_40 R_41 J_42 AI_43 AJ_44 AR_45 H locs zv_46 hp_47 hH hS => ?_)
    dsimp only at hp_47
    obtain ⟨rfl, rfl, rfl, rfl, rfl, rfl, q_48⟩ := hp_47
    refine z_if_ge (tgt := 40) F dX7_hangsOn_33 (by decide) zv_46 (fun c_49 => ?_) (fun c_49 => ?_)
    · refine lv_iload_n F.1 F.2.1 dX7_hangsOn_40 rfl (lv_at hl 0 rfl) ?_
      refine z_iconst F dX7_hangsOn_41 ?_
      refine lv_aload_n F.1 F.2.1 dX7_hangsOn_42 rfl (lv_at hl 1 rfl) ?_
      refine lv_iload_n F.1 F.2.1 dX7_hangsOn_43 rfl (lv_at hl 2 rfl) ?_
      refine g_calli (g_runV (As := [.int (iI rr)]) (rest := [.int (iI 1), .int (iI v_39)]) (ci := 7) F hl.1 hH hS hz (c_X7_secondOf l g gh T I R J AI AJ AR mo rr zrr hv hm hT (by omega)) (cwV 1 F.2.2.2.2.1 (good_up gT_X7_secondOf) rfl rfl rfl hdX7_secondOf ⟨Nat.le_of_ble_eq_true rfl, Nat.le_of_ble_eq_true rfl⟩) hm (by decide) rfl rfl rfl (Nat.le_of_ble_eq_true rfl) dX7_hangsOn_44 ⟨Nat.zero_le _, Nat.zero_le _⟩) hS (fun v_56 I_50 R_51 J_52 AI_53 AJ_54 AR_55 H locs zv_56 hp_57 hH hS => ?_)
      dsimp only at hp_57
      obtain ⟨rfl, rfl, rfl, rfl, rfl, rfl, q_58⟩ := hp_57
      refine lv_ishl F.1 F.2.1 dX7_hangsOn_47 ?_
      refine z_top (fun v_59 zv_59 ev_59 => ?_)
      refine lv_ior F.1 F.2.1 dX7_hangsOn_48 ?_
      refine z_top (fun v_60 zv_60 ev_60 => ?_)
      refine lv_aload_n F.1 F.2.1 dX7_hangsOn_49 rfl (lv_at hl 1 rfl) ?_
      refine lv_aload_n F.1 F.2.1 dX7_hangsOn_50 rfl (lv_at hl 1 rfl) ?_
      refine lv_iload_n F.1 F.2.1 dX7_hangsOn_51 rfl (lv_at hl 2 rfl) ?_
      refine g_calli (g_runV (As := [.int (iI rr)]) (rest := [.ref mo, .int (iI v_60)]) (ci := 7) F hl.1 hH hS hz (c_X7_secondOf l g gh T I R J AI AJ AR mo rr zrr hv hm hT (by omega)) (cwV 1 F.2.2.2.2.1 (good_up gT_X7_secondOf) rfl rfl rfl hdX7_secondOf ⟨Nat.le_of_ble_eq_true rfl, Nat.le_of_ble_eq_true rfl⟩) hm (by decide) rfl rfl rfl (Nat.le_of_ble_eq_true rfl) dX7_hangsOn_52 ⟨Nat.zero_le _, Nat.zero_le _⟩) hS (fun v_67 I_61 R_62 J_63 AI_64 AJ_65 AR_66 H locs zv_67 hp_68 hH hS => ?_)
      dsimp only at hp_68
      obtain ⟨rfl, rfl, rfl, rfl, rfl, rfl, q_69⟩ := hp_68
      refine g_calli (g_runV (As := [.int (iI v_67)]) (rest := [.int (iI v_60)]) (ci := 7) F hl.1 hH hS hz (c_X7_hangsOn10 l g gh T I R J AI AJ AR mo v_67 zv_67 hv hm hT (by omega)) (cwV 1 F.2.2.2.2.1 (good_up gT_X7_hangsOn) rfl rfl rfl hdX7_hangsOn ⟨Nat.le_of_ble_eq_true rfl, Nat.le_of_ble_eq_true rfl⟩) hm (by decide) rfl rfl rfl (Nat.le_of_ble_eq_true rfl) dX7_hangsOn_55 ⟨Nat.zero_le _, Nat.zero_le _⟩) hS (fun v_76 I_70 R_71 J_72 AI_73 AJ_74 AR_75 H locs zv_76 hp_77 hH hS => ?_)
      dsimp only at hp_77
      obtain ⟨rfl, rfl, rfl, rfl, rfl, rfl⟩ := hp_77
      refine lv_ior F.1 F.2.1 dX7_hangsOn_58 ?_
      refine z_top (fun v_78 zv_78 ev_78 => ?_)
      exact g_iret F hr hlk hH hS hz zv_78 ⟨rfl, rfl, rfl, rfl, rfl, rfl⟩ dX7_hangsOn_59
    · refine lv_iload_n F.1 F.2.1 dX7_hangsOn_36 rfl (lv_at hl 0 rfl) ?_
      refine z_goto (tgt := 59) F dX7_hangsOn_37 (by decide) ?_
      exact g_iret F hr hlk hH hS hz zv_39 ⟨rfl, rfl, rfl, rfl, rfl, rfl⟩ dX7_hangsOn_59
  · refine z_iconst F dX7_hangsOn_8 ?_
    exact g_iret F hr hlk hH hS hz ⟨by decide, by decide⟩ ⟨rfl, rfl, rfl, rfl, rfl, rfl⟩ dX7_hangsOn_9

def rmX7_hangsOn12 : Room := { frames := 12, cells := 0, slots := 0, locals := 263 }
set_option maxHeartbeats 4000000 in
set_option maxRecDepth 100000 in
/-- hangsOn -/
theorem c_X7_hangsOn12 (l : Launch) (g : gG) (gh : gGh) (T : Nat → Int32) (I : gI) (R : gR) (J : gJ) (AI : gI) (AJ : gJ) (AR : gR) (mo : Nat) (rr : Int) (zrr : zr rr) (hv : mInv g gh R I AI) (hm : gO g mo 7) (hT : AI (gh 50 0) = T) (hr0 : 0 ≤ rr ∧ rr < (I mo 2).toInt ∧ rr < 12) : gMet l g yX7_hangsOn tsX7_hangsOn rmX7_hangsOn12 [.ref mo, .int (iI rr)] (I, R, J, AI, AJ, AR) (gQi g (fun (z : Int) (w : gS) => I = w.1 ∧ R = w.2.1 ∧ J = w.2.2.1 ∧ AI = w.2.2.2.1 ∧ AJ = w.2.2.2.2.1 ∧ AR = w.2.2.2.2.2)) := by
  refine gStart (cc := cX7_hangsOn) (maxL := 3) (ret := (some (.int))) (by decide) rfl (Nat.le_of_ble_eq_true rfl) ?_
  intro p e s m below meth c ls F hr hlk hH hz hS hl
  have hl : lv_has ls 3 [(0, .ref mo), (1, .int (iI rr))] := hl
  have hS : va_S (gA g) s.heap s.heap [] := hS
  obtain ⟨H, hHe⟩ : ∃ H : Heap, H = s.heap := ⟨_, rfl⟩
  obtain ⟨locs, hlo⟩ : ∃ k : List Loc, k = [] := ⟨_, rfl⟩
  have hH : gH g I R J AI AJ AR H := by rw [hHe]; exact hH
  have hS : va_S (gA g) s.heap H locs := by rw [hHe, hlo]; exact hS
  suffices hw : W p l e rmX7_hangsOn12 s m ([.ref mo, .int (iI rr)] : List Value).toArray below meth c H locs 0 0 (MQ below (gQi g (fun (z : Int) (w : gS) => I = w.1 ∧ R = w.2.1 ∧ J = w.2.2.1 ∧ AI = w.2.2.2.1 ∧ AJ = w.2.2.2.2.1 ∧ AR = w.2.2.2.2.2)) ([.ref mo, .int (iI rr)] : List Value).toArray s 0 0 (gA g)) (F0 m 0 ls []) by
    rw [hHe, hlo] at hw; exact hw
  clear hHe hlo
  have hb0 := mJ hv hm
  unfold mNum1 at hb0
  have x := mRow hv hm hT (z := rr) (by omega) (by omega)
  have xa := x.1
  have xc := x.2.2.1
  have xb := x.2.1
  refine lv_aload_n F.1 F.2.1 dX7_hangsOn_0 rfl (lv_at hl 0 rfl) ?_
  refine lv_iload_n F.1 F.2.1 dX7_hangsOn_1 rfl (lv_at hl 1 rfl) ?_
  have b_1 := mJ hv hm
  unfold mNum1 at b_1
  refine g_calli (g_runV (As := [.int (iI rr)]) (rest := []) (ci := 7) F hl.1 hH hS hz (c_X7_kindOf l g gh T I R J AI AJ AR mo rr zrr hv hm hT (by omega)) (cwV 1 F.2.2.2.2.1 (good_up gT_X7_kindOf) rfl rfl rfl hdX7_kindOf ⟨Nat.le_of_ble_eq_true rfl, Nat.le_of_ble_eq_true rfl⟩) hm (by decide) rfl rfl rfl (Nat.le_of_ble_eq_true rfl) dX7_hangsOn_2 ⟨Nat.zero_le _, Nat.zero_le _⟩) hS (fun v_8 I_2 R_3 J_4 AI_5 AJ_6 AR_7 H locs zv_8 hp_9 hH hS => ?_)
  dsimp only at hp_9
  obtain ⟨rfl, rfl, rfl, rfl, rfl, rfl, q_10⟩ := hp_9
  refine z_if_ne (tgt := 10) F dX7_hangsOn_5 (by decide) zv_8 (fun c_11 => ?_) (fun c_11 => ?_)
  · refine z_iconst F dX7_hangsOn_10 ?_
    refine lv_aload_n F.1 F.2.1 dX7_hangsOn_11 rfl (lv_at hl 0 rfl) ?_
    refine lv_iload_n F.1 F.2.1 dX7_hangsOn_12 rfl (lv_at hl 1 rfl) ?_
    refine g_calli (g_runV (As := [.int (iI rr)]) (rest := [.int (iI 1)]) (ci := 7) F hl.1 hH hS hz (c_X7_firstOf l g gh T I R J AI AJ AR mo rr zrr hv hm hT (by omega)) (cwV 1 F.2.2.2.2.1 (good_up gT_X7_firstOf) rfl rfl rfl hdX7_firstOf ⟨Nat.le_of_ble_eq_true rfl, Nat.le_of_ble_eq_true rfl⟩) hm (by decide) rfl rfl rfl (Nat.le_of_ble_eq_true rfl) dX7_hangsOn_13 ⟨Nat.zero_le _, Nat.zero_le _⟩) hS (fun v_18 I_12 R_13 J_14 AI_15 AJ_16 AR_17 H locs zv_18 hp_19 hH hS => ?_)
    dsimp only at hp_19
    obtain ⟨rfl, rfl, rfl, rfl, rfl, rfl, q_20⟩ := hp_19
    refine lv_ishl F.1 F.2.1 dX7_hangsOn_16 ?_
    refine z_top (fun v_21 zv_21 ev_21 => ?_)
    refine lv_aload_n F.1 F.2.1 dX7_hangsOn_17 rfl (lv_at hl 0 rfl) ?_
    refine lv_aload_n F.1 F.2.1 dX7_hangsOn_18 rfl (lv_at hl 0 rfl) ?_
    refine lv_iload_n F.1 F.2.1 dX7_hangsOn_19 rfl (lv_at hl 1 rfl) ?_
    refine g_calli (g_runV (As := [.int (iI rr)]) (rest := [.ref mo, .int (iI v_21)]) (ci := 7) F hl.1 hH hS hz (c_X7_firstOf l g gh T I R J AI AJ AR mo rr zrr hv hm hT (by omega)) (cwV 1 F.2.2.2.2.1 (good_up gT_X7_firstOf) rfl rfl rfl hdX7_firstOf ⟨Nat.le_of_ble_eq_true rfl, Nat.le_of_ble_eq_true rfl⟩) hm (by decide) rfl rfl rfl (Nat.le_of_ble_eq_true rfl) dX7_hangsOn_20 ⟨Nat.zero_le _, Nat.zero_le _⟩) hS (fun v_28 I_22 R_23 J_24 AI_25 AJ_26 AR_27 H locs zv_28 hp_29 hH hS => ?_)
    dsimp only at hp_29
    obtain ⟨rfl, rfl, rfl, rfl, rfl, rfl, q_30⟩ := hp_29
    refine g_calli (g_runV (As := [.int (iI v_28)]) (rest := [.int (iI v_21)]) (ci := 7) F hl.1 hH hS hz (c_X7_hangsOn11 l g gh T I R J AI AJ AR mo v_28 zv_28 hv hm hT (by omega)) (cwV 1 F.2.2.2.2.1 (good_up gT_X7_hangsOn) rfl rfl rfl hdX7_hangsOn ⟨Nat.le_of_ble_eq_true rfl, Nat.le_of_ble_eq_true rfl⟩) hm (by decide) rfl rfl rfl (Nat.le_of_ble_eq_true rfl) dX7_hangsOn_23 ⟨Nat.zero_le _, Nat.zero_le _⟩) hS (fun v_37 I_31 R_32 J_33 AI_34 AJ_35 AR_36 H locs zv_37 hp_38 hH hS => ?_)
    dsimp only at hp_38
    obtain ⟨rfl, rfl, rfl, rfl, rfl, rfl⟩ := hp_38
    refine lv_ior F.1 F.2.1 dX7_hangsOn_26 ?_
    refine z_top (fun v_39 zv_39 ev_39 => ?_)
    refine lv_istore_n (lv' := [(2, .int (iI v_39)), (0, .ref mo), (1, .int (iI rr))]) F.1 F.2.1 dX7_hangsOn_27 rfl hl (by decide) rfl (fun ls hl => ?_)
    refine lv_aload_n F.1 F.2.1 dX7_hangsOn_28 rfl (lv_at hl 1 rfl) ?_
    refine lv_iload_n F.1 F.2.1 dX7_hangsOn_29 rfl (lv_at hl 2 rfl) ?_
    refine g_calli (g_runV (As := [.int (iI rr)]) (rest := []) (ci := 7) F hl.1 hH hS hz (c_X7_secondOf l g gh T I R J AI AJ AR mo rr zrr hv hm hT (by omega)) (cwV 1 F.2.2.2.2.1 (good_up gT_X7_secondOf) rfl rfl rfl hdX7_secondOf ⟨Nat.le_of_ble_eq_true rfl, Nat.le_of_ble_eq_true rfl⟩) hm (by decide) rfl rfl rfl (Nat.le_of_ble_eq_true rfl) dX7_hangsOn_30 ⟨Nat.zero_le _, Nat.zero_le _⟩) hS (fun v_46 I_40 R_41 J_42 AI_43 AJ_44 AR_45 H locs zv_46 hp_47 hH hS => ?_)
    dsimp only at hp_47
    obtain ⟨rfl, rfl, rfl, rfl, rfl, rfl, q_48⟩ := hp_47
    refine z_if_ge (tgt := 40) F dX7_hangsOn_33 (by decide) zv_46 (fun c_49 => ?_) (fun c_49 => ?_)
    · refine lv_iload_n F.1 F.2.1 dX7_hangsOn_40 rfl (lv_at hl 0 rfl) ?_
      refine z_iconst F dX7_hangsOn_41 ?_
      refine lv_aload_n F.1 F.2.1 dX7_hangsOn_42 rfl (lv_at hl 1 rfl) ?_
      refine lv_iload_n F.1 F.2.1 dX7_hangsOn_43 rfl (lv_at hl 2 rfl) ?_
      refine g_calli (g_runV (As := [.int (iI rr)]) (rest := [.int (iI 1), .int (iI v_39)]) (ci := 7) F hl.1 hH hS hz (c_X7_secondOf l g gh T I R J AI AJ AR mo rr zrr hv hm hT (by omega)) (cwV 1 F.2.2.2.2.1 (good_up gT_X7_secondOf) rfl rfl rfl hdX7_secondOf ⟨Nat.le_of_ble_eq_true rfl, Nat.le_of_ble_eq_true rfl⟩) hm (by decide) rfl rfl rfl (Nat.le_of_ble_eq_true rfl) dX7_hangsOn_44 ⟨Nat.zero_le _, Nat.zero_le _⟩) hS (fun v_56 I_50 R_51 J_52 AI_53 AJ_54 AR_55 H locs zv_56 hp_57 hH hS => ?_)
      dsimp only at hp_57
      obtain ⟨rfl, rfl, rfl, rfl, rfl, rfl, q_58⟩ := hp_57
      refine lv_ishl F.1 F.2.1 dX7_hangsOn_47 ?_
      refine z_top (fun v_59 zv_59 ev_59 => ?_)
      refine lv_ior F.1 F.2.1 dX7_hangsOn_48 ?_
      refine z_top (fun v_60 zv_60 ev_60 => ?_)
      refine lv_aload_n F.1 F.2.1 dX7_hangsOn_49 rfl (lv_at hl 1 rfl) ?_
      refine lv_aload_n F.1 F.2.1 dX7_hangsOn_50 rfl (lv_at hl 1 rfl) ?_
      refine lv_iload_n F.1 F.2.1 dX7_hangsOn_51 rfl (lv_at hl 2 rfl) ?_
      refine g_calli (g_runV (As := [.int (iI rr)]) (rest := [.ref mo, .int (iI v_60)]) (ci := 7) F hl.1 hH hS hz (c_X7_secondOf l g gh T I R J AI AJ AR mo rr zrr hv hm hT (by omega)) (cwV 1 F.2.2.2.2.1 (good_up gT_X7_secondOf) rfl rfl rfl hdX7_secondOf ⟨Nat.le_of_ble_eq_true rfl, Nat.le_of_ble_eq_true rfl⟩) hm (by decide) rfl rfl rfl (Nat.le_of_ble_eq_true rfl) dX7_hangsOn_52 ⟨Nat.zero_le _, Nat.zero_le _⟩) hS (fun v_67 I_61 R_62 J_63 AI_64 AJ_65 AR_66 H locs zv_67 hp_68 hH hS => ?_)
      dsimp only at hp_68
      obtain ⟨rfl, rfl, rfl, rfl, rfl, rfl, q_69⟩ := hp_68
      refine g_calli (g_runV (As := [.int (iI v_67)]) (rest := [.int (iI v_60)]) (ci := 7) F hl.1 hH hS hz (c_X7_hangsOn11 l g gh T I R J AI AJ AR mo v_67 zv_67 hv hm hT (by omega)) (cwV 1 F.2.2.2.2.1 (good_up gT_X7_hangsOn) rfl rfl rfl hdX7_hangsOn ⟨Nat.le_of_ble_eq_true rfl, Nat.le_of_ble_eq_true rfl⟩) hm (by decide) rfl rfl rfl (Nat.le_of_ble_eq_true rfl) dX7_hangsOn_55 ⟨Nat.zero_le _, Nat.zero_le _⟩) hS (fun v_76 I_70 R_71 J_72 AI_73 AJ_74 AR_75 H locs zv_76 hp_77 hH hS => ?_)
      dsimp only at hp_77
      obtain ⟨rfl, rfl, rfl, rfl, rfl, rfl⟩ := hp_77
      refine lv_ior F.1 F.2.1 dX7_hangsOn_58 ?_
      refine z_top (fun v_78 zv_78 ev_78 => ?_)
      exact g_iret F hr hlk hH hS hz zv_78 ⟨rfl, rfl, rfl, rfl, rfl, rfl⟩ dX7_hangsOn_59
    · refine lv_iload_n F.1 F.2.1 dX7_hangsOn_36 rfl (lv_at hl 0 rfl) ?_
      refine z_goto (tgt := 59) F dX7_hangsOn_37 (by decide) ?_
      exact g_iret F hr hlk hH hS hz zv_39 ⟨rfl, rfl, rfl, rfl, rfl, rfl⟩ dX7_hangsOn_59
  · refine z_iconst F dX7_hangsOn_8 ?_
    exact g_iret F hr hlk hH hS hz ⟨by decide, by decide⟩ ⟨rfl, rfl, rfl, rfl, rfl, rfl⟩ dX7_hangsOn_9

def rmX7_hangsOn13 : Room := { frames := 13, cells := 0, slots := 0, locals := 285 }
set_option maxHeartbeats 4000000 in
set_option maxRecDepth 100000 in
/-- hangsOn -/
theorem c_X7_hangsOn13 (l : Launch) (g : gG) (gh : gGh) (T : Nat → Int32) (I : gI) (R : gR) (J : gJ) (AI : gI) (AJ : gJ) (AR : gR) (mo : Nat) (rr : Int) (zrr : zr rr) (hv : mInv g gh R I AI) (hm : gO g mo 7) (hT : AI (gh 50 0) = T) (hr0 : 0 ≤ rr ∧ rr < (I mo 2).toInt ∧ rr < 13) : gMet l g yX7_hangsOn tsX7_hangsOn rmX7_hangsOn13 [.ref mo, .int (iI rr)] (I, R, J, AI, AJ, AR) (gQi g (fun (z : Int) (w : gS) => I = w.1 ∧ R = w.2.1 ∧ J = w.2.2.1 ∧ AI = w.2.2.2.1 ∧ AJ = w.2.2.2.2.1 ∧ AR = w.2.2.2.2.2)) := by
  refine gStart (cc := cX7_hangsOn) (maxL := 3) (ret := (some (.int))) (by decide) rfl (Nat.le_of_ble_eq_true rfl) ?_
  intro p e s m below meth c ls F hr hlk hH hz hS hl
  have hl : lv_has ls 3 [(0, .ref mo), (1, .int (iI rr))] := hl
  have hS : va_S (gA g) s.heap s.heap [] := hS
  obtain ⟨H, hHe⟩ : ∃ H : Heap, H = s.heap := ⟨_, rfl⟩
  obtain ⟨locs, hlo⟩ : ∃ k : List Loc, k = [] := ⟨_, rfl⟩
  have hH : gH g I R J AI AJ AR H := by rw [hHe]; exact hH
  have hS : va_S (gA g) s.heap H locs := by rw [hHe, hlo]; exact hS
  suffices hw : W p l e rmX7_hangsOn13 s m ([.ref mo, .int (iI rr)] : List Value).toArray below meth c H locs 0 0 (MQ below (gQi g (fun (z : Int) (w : gS) => I = w.1 ∧ R = w.2.1 ∧ J = w.2.2.1 ∧ AI = w.2.2.2.1 ∧ AJ = w.2.2.2.2.1 ∧ AR = w.2.2.2.2.2)) ([.ref mo, .int (iI rr)] : List Value).toArray s 0 0 (gA g)) (F0 m 0 ls []) by
    rw [hHe, hlo] at hw; exact hw
  clear hHe hlo
  have hb0 := mJ hv hm
  unfold mNum1 at hb0
  have x := mRow hv hm hT (z := rr) (by omega) (by omega)
  have xa := x.1
  have xc := x.2.2.1
  have xb := x.2.1
  refine lv_aload_n F.1 F.2.1 dX7_hangsOn_0 rfl (lv_at hl 0 rfl) ?_
  refine lv_iload_n F.1 F.2.1 dX7_hangsOn_1 rfl (lv_at hl 1 rfl) ?_
  have b_1 := mJ hv hm
  unfold mNum1 at b_1
  refine g_calli (g_runV (As := [.int (iI rr)]) (rest := []) (ci := 7) F hl.1 hH hS hz (c_X7_kindOf l g gh T I R J AI AJ AR mo rr zrr hv hm hT (by omega)) (cwV 1 F.2.2.2.2.1 (good_up gT_X7_kindOf) rfl rfl rfl hdX7_kindOf ⟨Nat.le_of_ble_eq_true rfl, Nat.le_of_ble_eq_true rfl⟩) hm (by decide) rfl rfl rfl (Nat.le_of_ble_eq_true rfl) dX7_hangsOn_2 ⟨Nat.zero_le _, Nat.zero_le _⟩) hS (fun v_8 I_2 R_3 J_4 AI_5 AJ_6 AR_7 H locs zv_8 hp_9 hH hS => ?_)
  dsimp only at hp_9
  obtain ⟨rfl, rfl, rfl, rfl, rfl, rfl, q_10⟩ := hp_9
  refine z_if_ne (tgt := 10) F dX7_hangsOn_5 (by decide) zv_8 (fun c_11 => ?_) (fun c_11 => ?_)
  · refine z_iconst F dX7_hangsOn_10 ?_
    refine lv_aload_n F.1 F.2.1 dX7_hangsOn_11 rfl (lv_at hl 0 rfl) ?_
    refine lv_iload_n F.1 F.2.1 dX7_hangsOn_12 rfl (lv_at hl 1 rfl) ?_
    refine g_calli (g_runV (As := [.int (iI rr)]) (rest := [.int (iI 1)]) (ci := 7) F hl.1 hH hS hz (c_X7_firstOf l g gh T I R J AI AJ AR mo rr zrr hv hm hT (by omega)) (cwV 1 F.2.2.2.2.1 (good_up gT_X7_firstOf) rfl rfl rfl hdX7_firstOf ⟨Nat.le_of_ble_eq_true rfl, Nat.le_of_ble_eq_true rfl⟩) hm (by decide) rfl rfl rfl (Nat.le_of_ble_eq_true rfl) dX7_hangsOn_13 ⟨Nat.zero_le _, Nat.zero_le _⟩) hS (fun v_18 I_12 R_13 J_14 AI_15 AJ_16 AR_17 H locs zv_18 hp_19 hH hS => ?_)
    dsimp only at hp_19
    obtain ⟨rfl, rfl, rfl, rfl, rfl, rfl, q_20⟩ := hp_19
    refine lv_ishl F.1 F.2.1 dX7_hangsOn_16 ?_
    refine z_top (fun v_21 zv_21 ev_21 => ?_)
    refine lv_aload_n F.1 F.2.1 dX7_hangsOn_17 rfl (lv_at hl 0 rfl) ?_
    refine lv_aload_n F.1 F.2.1 dX7_hangsOn_18 rfl (lv_at hl 0 rfl) ?_
    refine lv_iload_n F.1 F.2.1 dX7_hangsOn_19 rfl (lv_at hl 1 rfl) ?_
    refine g_calli (g_runV (As := [.int (iI rr)]) (rest := [.ref mo, .int (iI v_21)]) (ci := 7) F hl.1 hH hS hz (c_X7_firstOf l g gh T I R J AI AJ AR mo rr zrr hv hm hT (by omega)) (cwV 1 F.2.2.2.2.1 (good_up gT_X7_firstOf) rfl rfl rfl hdX7_firstOf ⟨Nat.le_of_ble_eq_true rfl, Nat.le_of_ble_eq_true rfl⟩) hm (by decide) rfl rfl rfl (Nat.le_of_ble_eq_true rfl) dX7_hangsOn_20 ⟨Nat.zero_le _, Nat.zero_le _⟩) hS (fun v_28 I_22 R_23 J_24 AI_25 AJ_26 AR_27 H locs zv_28 hp_29 hH hS => ?_)
    dsimp only at hp_29
    obtain ⟨rfl, rfl, rfl, rfl, rfl, rfl, q_30⟩ := hp_29
    refine g_calli (g_runV (As := [.int (iI v_28)]) (rest := [.int (iI v_21)]) (ci := 7) F hl.1 hH hS hz (c_X7_hangsOn12 l g gh T I R J AI AJ AR mo v_28 zv_28 hv hm hT (by omega)) (cwV 1 F.2.2.2.2.1 (good_up gT_X7_hangsOn) rfl rfl rfl hdX7_hangsOn ⟨Nat.le_of_ble_eq_true rfl, Nat.le_of_ble_eq_true rfl⟩) hm (by decide) rfl rfl rfl (Nat.le_of_ble_eq_true rfl) dX7_hangsOn_23 ⟨Nat.zero_le _, Nat.zero_le _⟩) hS (fun v_37 I_31 R_32 J_33 AI_34 AJ_35 AR_36 H locs zv_37 hp_38 hH hS => ?_)
    dsimp only at hp_38
    obtain ⟨rfl, rfl, rfl, rfl, rfl, rfl⟩ := hp_38
    refine lv_ior F.1 F.2.1 dX7_hangsOn_26 ?_
    refine z_top (fun v_39 zv_39 ev_39 => ?_)
    refine lv_istore_n (lv' := [(2, .int (iI v_39)), (0, .ref mo), (1, .int (iI rr))]) F.1 F.2.1 dX7_hangsOn_27 rfl hl (by decide) rfl (fun ls hl => ?_)
    refine lv_aload_n F.1 F.2.1 dX7_hangsOn_28 rfl (lv_at hl 1 rfl) ?_
    refine lv_iload_n F.1 F.2.1 dX7_hangsOn_29 rfl (lv_at hl 2 rfl) ?_
    refine g_calli (g_runV (As := [.int (iI rr)]) (rest := []) (ci := 7) F hl.1 hH hS hz (c_X7_secondOf l g gh T I R J AI AJ AR mo rr zrr hv hm hT (by omega)) (cwV 1 F.2.2.2.2.1 (good_up gT_X7_secondOf) rfl rfl rfl hdX7_secondOf ⟨Nat.le_of_ble_eq_true rfl, Nat.le_of_ble_eq_true rfl⟩) hm (by decide) rfl rfl rfl (Nat.le_of_ble_eq_true rfl) dX7_hangsOn_30 ⟨Nat.zero_le _, Nat.zero_le _⟩) hS (fun v_46 I_40 R_41 J_42 AI_43 AJ_44 AR_45 H locs zv_46 hp_47 hH hS => ?_)
    dsimp only at hp_47
    obtain ⟨rfl, rfl, rfl, rfl, rfl, rfl, q_48⟩ := hp_47
    refine z_if_ge (tgt := 40) F dX7_hangsOn_33 (by decide) zv_46 (fun c_49 => ?_) (fun c_49 => ?_)
    · refine lv_iload_n F.1 F.2.1 dX7_hangsOn_40 rfl (lv_at hl 0 rfl) ?_
      refine z_iconst F dX7_hangsOn_41 ?_
      refine lv_aload_n F.1 F.2.1 dX7_hangsOn_42 rfl (lv_at hl 1 rfl) ?_
      refine lv_iload_n F.1 F.2.1 dX7_hangsOn_43 rfl (lv_at hl 2 rfl) ?_
      refine g_calli (g_runV (As := [.int (iI rr)]) (rest := [.int (iI 1), .int (iI v_39)]) (ci := 7) F hl.1 hH hS hz (c_X7_secondOf l g gh T I R J AI AJ AR mo rr zrr hv hm hT (by omega)) (cwV 1 F.2.2.2.2.1 (good_up gT_X7_secondOf) rfl rfl rfl hdX7_secondOf ⟨Nat.le_of_ble_eq_true rfl, Nat.le_of_ble_eq_true rfl⟩) hm (by decide) rfl rfl rfl (Nat.le_of_ble_eq_true rfl) dX7_hangsOn_44 ⟨Nat.zero_le _, Nat.zero_le _⟩) hS (fun v_56 I_50 R_51 J_52 AI_53 AJ_54 AR_55 H locs zv_56 hp_57 hH hS => ?_)
      dsimp only at hp_57
      obtain ⟨rfl, rfl, rfl, rfl, rfl, rfl, q_58⟩ := hp_57
      refine lv_ishl F.1 F.2.1 dX7_hangsOn_47 ?_
      refine z_top (fun v_59 zv_59 ev_59 => ?_)
      refine lv_ior F.1 F.2.1 dX7_hangsOn_48 ?_
      refine z_top (fun v_60 zv_60 ev_60 => ?_)
      refine lv_aload_n F.1 F.2.1 dX7_hangsOn_49 rfl (lv_at hl 1 rfl) ?_
      refine lv_aload_n F.1 F.2.1 dX7_hangsOn_50 rfl (lv_at hl 1 rfl) ?_
      refine lv_iload_n F.1 F.2.1 dX7_hangsOn_51 rfl (lv_at hl 2 rfl) ?_
      refine g_calli (g_runV (As := [.int (iI rr)]) (rest := [.ref mo, .int (iI v_60)]) (ci := 7) F hl.1 hH hS hz (c_X7_secondOf l g gh T I R J AI AJ AR mo rr zrr hv hm hT (by omega)) (cwV 1 F.2.2.2.2.1 (good_up gT_X7_secondOf) rfl rfl rfl hdX7_secondOf ⟨Nat.le_of_ble_eq_true rfl, Nat.le_of_ble_eq_true rfl⟩) hm (by decide) rfl rfl rfl (Nat.le_of_ble_eq_true rfl) dX7_hangsOn_52 ⟨Nat.zero_le _, Nat.zero_le _⟩) hS (fun v_67 I_61 R_62 J_63 AI_64 AJ_65 AR_66 H locs zv_67 hp_68 hH hS => ?_)
      dsimp only at hp_68
      obtain ⟨rfl, rfl, rfl, rfl, rfl, rfl, q_69⟩ := hp_68
      refine g_calli (g_runV (As := [.int (iI v_67)]) (rest := [.int (iI v_60)]) (ci := 7) F hl.1 hH hS hz (c_X7_hangsOn12 l g gh T I R J AI AJ AR mo v_67 zv_67 hv hm hT (by omega)) (cwV 1 F.2.2.2.2.1 (good_up gT_X7_hangsOn) rfl rfl rfl hdX7_hangsOn ⟨Nat.le_of_ble_eq_true rfl, Nat.le_of_ble_eq_true rfl⟩) hm (by decide) rfl rfl rfl (Nat.le_of_ble_eq_true rfl) dX7_hangsOn_55 ⟨Nat.zero_le _, Nat.zero_le _⟩) hS (fun v_76 I_70 R_71 J_72 AI_73 AJ_74 AR_75 H locs zv_76 hp_77 hH hS => ?_)
      dsimp only at hp_77
      obtain ⟨rfl, rfl, rfl, rfl, rfl, rfl⟩ := hp_77
      refine lv_ior F.1 F.2.1 dX7_hangsOn_58 ?_
      refine z_top (fun v_78 zv_78 ev_78 => ?_)
      exact g_iret F hr hlk hH hS hz zv_78 ⟨rfl, rfl, rfl, rfl, rfl, rfl⟩ dX7_hangsOn_59
    · refine lv_iload_n F.1 F.2.1 dX7_hangsOn_36 rfl (lv_at hl 0 rfl) ?_
      refine z_goto (tgt := 59) F dX7_hangsOn_37 (by decide) ?_
      exact g_iret F hr hlk hH hS hz zv_39 ⟨rfl, rfl, rfl, rfl, rfl, rfl⟩ dX7_hangsOn_59
  · refine z_iconst F dX7_hangsOn_8 ?_
    exact g_iret F hr hlk hH hS hz ⟨by decide, by decide⟩ ⟨rfl, rfl, rfl, rfl, rfl, rfl⟩ dX7_hangsOn_9

def rmX7_hangsOn14 : Room := { frames := 14, cells := 0, slots := 0, locals := 307 }
set_option maxHeartbeats 4000000 in
set_option maxRecDepth 100000 in
/-- hangsOn -/
theorem c_X7_hangsOn14 (l : Launch) (g : gG) (gh : gGh) (T : Nat → Int32) (I : gI) (R : gR) (J : gJ) (AI : gI) (AJ : gJ) (AR : gR) (mo : Nat) (rr : Int) (zrr : zr rr) (hv : mInv g gh R I AI) (hm : gO g mo 7) (hT : AI (gh 50 0) = T) (hr0 : 0 ≤ rr ∧ rr < (I mo 2).toInt ∧ rr < 14) : gMet l g yX7_hangsOn tsX7_hangsOn rmX7_hangsOn14 [.ref mo, .int (iI rr)] (I, R, J, AI, AJ, AR) (gQi g (fun (z : Int) (w : gS) => I = w.1 ∧ R = w.2.1 ∧ J = w.2.2.1 ∧ AI = w.2.2.2.1 ∧ AJ = w.2.2.2.2.1 ∧ AR = w.2.2.2.2.2)) := by
  refine gStart (cc := cX7_hangsOn) (maxL := 3) (ret := (some (.int))) (by decide) rfl (Nat.le_of_ble_eq_true rfl) ?_
  intro p e s m below meth c ls F hr hlk hH hz hS hl
  have hl : lv_has ls 3 [(0, .ref mo), (1, .int (iI rr))] := hl
  have hS : va_S (gA g) s.heap s.heap [] := hS
  obtain ⟨H, hHe⟩ : ∃ H : Heap, H = s.heap := ⟨_, rfl⟩
  obtain ⟨locs, hlo⟩ : ∃ k : List Loc, k = [] := ⟨_, rfl⟩
  have hH : gH g I R J AI AJ AR H := by rw [hHe]; exact hH
  have hS : va_S (gA g) s.heap H locs := by rw [hHe, hlo]; exact hS
  suffices hw : W p l e rmX7_hangsOn14 s m ([.ref mo, .int (iI rr)] : List Value).toArray below meth c H locs 0 0 (MQ below (gQi g (fun (z : Int) (w : gS) => I = w.1 ∧ R = w.2.1 ∧ J = w.2.2.1 ∧ AI = w.2.2.2.1 ∧ AJ = w.2.2.2.2.1 ∧ AR = w.2.2.2.2.2)) ([.ref mo, .int (iI rr)] : List Value).toArray s 0 0 (gA g)) (F0 m 0 ls []) by
    rw [hHe, hlo] at hw; exact hw
  clear hHe hlo
  have hb0 := mJ hv hm
  unfold mNum1 at hb0
  have x := mRow hv hm hT (z := rr) (by omega) (by omega)
  have xa := x.1
  have xc := x.2.2.1
  have xb := x.2.1
  refine lv_aload_n F.1 F.2.1 dX7_hangsOn_0 rfl (lv_at hl 0 rfl) ?_
  refine lv_iload_n F.1 F.2.1 dX7_hangsOn_1 rfl (lv_at hl 1 rfl) ?_
  have b_1 := mJ hv hm
  unfold mNum1 at b_1
  refine g_calli (g_runV (As := [.int (iI rr)]) (rest := []) (ci := 7) F hl.1 hH hS hz (c_X7_kindOf l g gh T I R J AI AJ AR mo rr zrr hv hm hT (by omega)) (cwV 1 F.2.2.2.2.1 (good_up gT_X7_kindOf) rfl rfl rfl hdX7_kindOf ⟨Nat.le_of_ble_eq_true rfl, Nat.le_of_ble_eq_true rfl⟩) hm (by decide) rfl rfl rfl (Nat.le_of_ble_eq_true rfl) dX7_hangsOn_2 ⟨Nat.zero_le _, Nat.zero_le _⟩) hS (fun v_8 I_2 R_3 J_4 AI_5 AJ_6 AR_7 H locs zv_8 hp_9 hH hS => ?_)
  dsimp only at hp_9
  obtain ⟨rfl, rfl, rfl, rfl, rfl, rfl, q_10⟩ := hp_9
  refine z_if_ne (tgt := 10) F dX7_hangsOn_5 (by decide) zv_8 (fun c_11 => ?_) (fun c_11 => ?_)
  · refine z_iconst F dX7_hangsOn_10 ?_
    refine lv_aload_n F.1 F.2.1 dX7_hangsOn_11 rfl (lv_at hl 0 rfl) ?_
    refine lv_iload_n F.1 F.2.1 dX7_hangsOn_12 rfl (lv_at hl 1 rfl) ?_
    refine g_calli (g_runV (As := [.int (iI rr)]) (rest := [.int (iI 1)]) (ci := 7) F hl.1 hH hS hz (c_X7_firstOf l g gh T I R J AI AJ AR mo rr zrr hv hm hT (by omega)) (cwV 1 F.2.2.2.2.1 (good_up gT_X7_firstOf) rfl rfl rfl hdX7_firstOf ⟨Nat.le_of_ble_eq_true rfl, Nat.le_of_ble_eq_true rfl⟩) hm (by decide) rfl rfl rfl (Nat.le_of_ble_eq_true rfl) dX7_hangsOn_13 ⟨Nat.zero_le _, Nat.zero_le _⟩) hS (fun v_18 I_12 R_13 J_14 AI_15 AJ_16 AR_17 H locs zv_18 hp_19 hH hS => ?_)
    dsimp only at hp_19
    obtain ⟨rfl, rfl, rfl, rfl, rfl, rfl, q_20⟩ := hp_19
    refine lv_ishl F.1 F.2.1 dX7_hangsOn_16 ?_
    refine z_top (fun v_21 zv_21 ev_21 => ?_)
    refine lv_aload_n F.1 F.2.1 dX7_hangsOn_17 rfl (lv_at hl 0 rfl) ?_
    refine lv_aload_n F.1 F.2.1 dX7_hangsOn_18 rfl (lv_at hl 0 rfl) ?_
    refine lv_iload_n F.1 F.2.1 dX7_hangsOn_19 rfl (lv_at hl 1 rfl) ?_
    refine g_calli (g_runV (As := [.int (iI rr)]) (rest := [.ref mo, .int (iI v_21)]) (ci := 7) F hl.1 hH hS hz (c_X7_firstOf l g gh T I R J AI AJ AR mo rr zrr hv hm hT (by omega)) (cwV 1 F.2.2.2.2.1 (good_up gT_X7_firstOf) rfl rfl rfl hdX7_firstOf ⟨Nat.le_of_ble_eq_true rfl, Nat.le_of_ble_eq_true rfl⟩) hm (by decide) rfl rfl rfl (Nat.le_of_ble_eq_true rfl) dX7_hangsOn_20 ⟨Nat.zero_le _, Nat.zero_le _⟩) hS (fun v_28 I_22 R_23 J_24 AI_25 AJ_26 AR_27 H locs zv_28 hp_29 hH hS => ?_)
    dsimp only at hp_29
    obtain ⟨rfl, rfl, rfl, rfl, rfl, rfl, q_30⟩ := hp_29
    refine g_calli (g_runV (As := [.int (iI v_28)]) (rest := [.int (iI v_21)]) (ci := 7) F hl.1 hH hS hz (c_X7_hangsOn13 l g gh T I R J AI AJ AR mo v_28 zv_28 hv hm hT (by omega)) (cwV 1 F.2.2.2.2.1 (good_up gT_X7_hangsOn) rfl rfl rfl hdX7_hangsOn ⟨Nat.le_of_ble_eq_true rfl, Nat.le_of_ble_eq_true rfl⟩) hm (by decide) rfl rfl rfl (Nat.le_of_ble_eq_true rfl) dX7_hangsOn_23 ⟨Nat.zero_le _, Nat.zero_le _⟩) hS (fun v_37 I_31 R_32 J_33 AI_34 AJ_35 AR_36 H locs zv_37 hp_38 hH hS => ?_)
    dsimp only at hp_38
    obtain ⟨rfl, rfl, rfl, rfl, rfl, rfl⟩ := hp_38
    refine lv_ior F.1 F.2.1 dX7_hangsOn_26 ?_
    refine z_top (fun v_39 zv_39 ev_39 => ?_)
    refine lv_istore_n (lv' := [(2, .int (iI v_39)), (0, .ref mo), (1, .int (iI rr))]) F.1 F.2.1 dX7_hangsOn_27 rfl hl (by decide) rfl (fun ls hl => ?_)
    refine lv_aload_n F.1 F.2.1 dX7_hangsOn_28 rfl (lv_at hl 1 rfl) ?_
    refine lv_iload_n F.1 F.2.1 dX7_hangsOn_29 rfl (lv_at hl 2 rfl) ?_
    refine g_calli (g_runV (As := [.int (iI rr)]) (rest := []) (ci := 7) F hl.1 hH hS hz (c_X7_secondOf l g gh T I R J AI AJ AR mo rr zrr hv hm hT (by omega)) (cwV 1 F.2.2.2.2.1 (good_up gT_X7_secondOf) rfl rfl rfl hdX7_secondOf ⟨Nat.le_of_ble_eq_true rfl, Nat.le_of_ble_eq_true rfl⟩) hm (by decide) rfl rfl rfl (Nat.le_of_ble_eq_true rfl) dX7_hangsOn_30 ⟨Nat.zero_le _, Nat.zero_le _⟩) hS (fun v_46 I_40 R_41 J_42 AI_43 AJ_44 AR_45 H locs zv_46 hp_47 hH hS => ?_)
    dsimp only at hp_47
    obtain ⟨rfl, rfl, rfl, rfl, rfl, rfl, q_48⟩ := hp_47
    refine z_if_ge (tgt := 40) F dX7_hangsOn_33 (by decide) zv_46 (fun c_49 => ?_) (fun c_49 => ?_)
    · refine lv_iload_n F.1 F.2.1 dX7_hangsOn_40 rfl (lv_at hl 0 rfl) ?_
      refine z_iconst F dX7_hangsOn_41 ?_
      refine lv_aload_n F.1 F.2.1 dX7_hangsOn_42 rfl (lv_at hl 1 rfl) ?_
      refine lv_iload_n F.1 F.2.1 dX7_hangsOn_43 rfl (lv_at hl 2 rfl) ?_
      refine g_calli (g_runV (As := [.int (iI rr)]) (rest := [.int (iI 1), .int (iI v_39)]) (ci := 7) F hl.1 hH hS hz (c_X7_secondOf l g gh T I R J AI AJ AR mo rr zrr hv hm hT (by omega)) (cwV 1 F.2.2.2.2.1 (good_up gT_X7_secondOf) rfl rfl rfl hdX7_secondOf ⟨Nat.le_of_ble_eq_true rfl, Nat.le_of_ble_eq_true rfl⟩) hm (by decide) rfl rfl rfl (Nat.le_of_ble_eq_true rfl) dX7_hangsOn_44 ⟨Nat.zero_le _, Nat.zero_le _⟩) hS (fun v_56 I_50 R_51 J_52 AI_53 AJ_54 AR_55 H locs zv_56 hp_57 hH hS => ?_)
      dsimp only at hp_57
      obtain ⟨rfl, rfl, rfl, rfl, rfl, rfl, q_58⟩ := hp_57
      refine lv_ishl F.1 F.2.1 dX7_hangsOn_47 ?_
      refine z_top (fun v_59 zv_59 ev_59 => ?_)
      refine lv_ior F.1 F.2.1 dX7_hangsOn_48 ?_
      refine z_top (fun v_60 zv_60 ev_60 => ?_)
      refine lv_aload_n F.1 F.2.1 dX7_hangsOn_49 rfl (lv_at hl 1 rfl) ?_
      refine lv_aload_n F.1 F.2.1 dX7_hangsOn_50 rfl (lv_at hl 1 rfl) ?_
      refine lv_iload_n F.1 F.2.1 dX7_hangsOn_51 rfl (lv_at hl 2 rfl) ?_
      refine g_calli (g_runV (As := [.int (iI rr)]) (rest := [.ref mo, .int (iI v_60)]) (ci := 7) F hl.1 hH hS hz (c_X7_secondOf l g gh T I R J AI AJ AR mo rr zrr hv hm hT (by omega)) (cwV 1 F.2.2.2.2.1 (good_up gT_X7_secondOf) rfl rfl rfl hdX7_secondOf ⟨Nat.le_of_ble_eq_true rfl, Nat.le_of_ble_eq_true rfl⟩) hm (by decide) rfl rfl rfl (Nat.le_of_ble_eq_true rfl) dX7_hangsOn_52 ⟨Nat.zero_le _, Nat.zero_le _⟩) hS (fun v_67 I_61 R_62 J_63 AI_64 AJ_65 AR_66 H locs zv_67 hp_68 hH hS => ?_)
      dsimp only at hp_68
      obtain ⟨rfl, rfl, rfl, rfl, rfl, rfl, q_69⟩ := hp_68
      refine g_calli (g_runV (As := [.int (iI v_67)]) (rest := [.int (iI v_60)]) (ci := 7) F hl.1 hH hS hz (c_X7_hangsOn13 l g gh T I R J AI AJ AR mo v_67 zv_67 hv hm hT (by omega)) (cwV 1 F.2.2.2.2.1 (good_up gT_X7_hangsOn) rfl rfl rfl hdX7_hangsOn ⟨Nat.le_of_ble_eq_true rfl, Nat.le_of_ble_eq_true rfl⟩) hm (by decide) rfl rfl rfl (Nat.le_of_ble_eq_true rfl) dX7_hangsOn_55 ⟨Nat.zero_le _, Nat.zero_le _⟩) hS (fun v_76 I_70 R_71 J_72 AI_73 AJ_74 AR_75 H locs zv_76 hp_77 hH hS => ?_)
      dsimp only at hp_77
      obtain ⟨rfl, rfl, rfl, rfl, rfl, rfl⟩ := hp_77
      refine lv_ior F.1 F.2.1 dX7_hangsOn_58 ?_
      refine z_top (fun v_78 zv_78 ev_78 => ?_)
      exact g_iret F hr hlk hH hS hz zv_78 ⟨rfl, rfl, rfl, rfl, rfl, rfl⟩ dX7_hangsOn_59
    · refine lv_iload_n F.1 F.2.1 dX7_hangsOn_36 rfl (lv_at hl 0 rfl) ?_
      refine z_goto (tgt := 59) F dX7_hangsOn_37 (by decide) ?_
      exact g_iret F hr hlk hH hS hz zv_39 ⟨rfl, rfl, rfl, rfl, rfl, rfl⟩ dX7_hangsOn_59
  · refine z_iconst F dX7_hangsOn_8 ?_
    exact g_iret F hr hlk hH hS hz ⟨by decide, by decide⟩ ⟨rfl, rfl, rfl, rfl, rfl, rfl⟩ dX7_hangsOn_9

def rmX7_hangsOn15 : Room := { frames := 15, cells := 0, slots := 0, locals := 329 }
set_option maxHeartbeats 4000000 in
set_option maxRecDepth 100000 in
/-- hangsOn -/
theorem c_X7_hangsOn15 (l : Launch) (g : gG) (gh : gGh) (T : Nat → Int32) (I : gI) (R : gR) (J : gJ) (AI : gI) (AJ : gJ) (AR : gR) (mo : Nat) (rr : Int) (zrr : zr rr) (hv : mInv g gh R I AI) (hm : gO g mo 7) (hT : AI (gh 50 0) = T) (hr0 : 0 ≤ rr ∧ rr < (I mo 2).toInt ∧ rr < 15) : gMet l g yX7_hangsOn tsX7_hangsOn rmX7_hangsOn15 [.ref mo, .int (iI rr)] (I, R, J, AI, AJ, AR) (gQi g (fun (z : Int) (w : gS) => I = w.1 ∧ R = w.2.1 ∧ J = w.2.2.1 ∧ AI = w.2.2.2.1 ∧ AJ = w.2.2.2.2.1 ∧ AR = w.2.2.2.2.2)) := by
  refine gStart (cc := cX7_hangsOn) (maxL := 3) (ret := (some (.int))) (by decide) rfl (Nat.le_of_ble_eq_true rfl) ?_
  intro p e s m below meth c ls F hr hlk hH hz hS hl
  have hl : lv_has ls 3 [(0, .ref mo), (1, .int (iI rr))] := hl
  have hS : va_S (gA g) s.heap s.heap [] := hS
  obtain ⟨H, hHe⟩ : ∃ H : Heap, H = s.heap := ⟨_, rfl⟩
  obtain ⟨locs, hlo⟩ : ∃ k : List Loc, k = [] := ⟨_, rfl⟩
  have hH : gH g I R J AI AJ AR H := by rw [hHe]; exact hH
  have hS : va_S (gA g) s.heap H locs := by rw [hHe, hlo]; exact hS
  suffices hw : W p l e rmX7_hangsOn15 s m ([.ref mo, .int (iI rr)] : List Value).toArray below meth c H locs 0 0 (MQ below (gQi g (fun (z : Int) (w : gS) => I = w.1 ∧ R = w.2.1 ∧ J = w.2.2.1 ∧ AI = w.2.2.2.1 ∧ AJ = w.2.2.2.2.1 ∧ AR = w.2.2.2.2.2)) ([.ref mo, .int (iI rr)] : List Value).toArray s 0 0 (gA g)) (F0 m 0 ls []) by
    rw [hHe, hlo] at hw; exact hw
  clear hHe hlo
  have hb0 := mJ hv hm
  unfold mNum1 at hb0
  have x := mRow hv hm hT (z := rr) (by omega) (by omega)
  have xa := x.1
  have xc := x.2.2.1
  have xb := x.2.1
  refine lv_aload_n F.1 F.2.1 dX7_hangsOn_0 rfl (lv_at hl 0 rfl) ?_
  refine lv_iload_n F.1 F.2.1 dX7_hangsOn_1 rfl (lv_at hl 1 rfl) ?_
  have b_1 := mJ hv hm
  unfold mNum1 at b_1
  refine g_calli (g_runV (As := [.int (iI rr)]) (rest := []) (ci := 7) F hl.1 hH hS hz (c_X7_kindOf l g gh T I R J AI AJ AR mo rr zrr hv hm hT (by omega)) (cwV 1 F.2.2.2.2.1 (good_up gT_X7_kindOf) rfl rfl rfl hdX7_kindOf ⟨Nat.le_of_ble_eq_true rfl, Nat.le_of_ble_eq_true rfl⟩) hm (by decide) rfl rfl rfl (Nat.le_of_ble_eq_true rfl) dX7_hangsOn_2 ⟨Nat.zero_le _, Nat.zero_le _⟩) hS (fun v_8 I_2 R_3 J_4 AI_5 AJ_6 AR_7 H locs zv_8 hp_9 hH hS => ?_)
  dsimp only at hp_9
  obtain ⟨rfl, rfl, rfl, rfl, rfl, rfl, q_10⟩ := hp_9
  refine z_if_ne (tgt := 10) F dX7_hangsOn_5 (by decide) zv_8 (fun c_11 => ?_) (fun c_11 => ?_)
  · refine z_iconst F dX7_hangsOn_10 ?_
    refine lv_aload_n F.1 F.2.1 dX7_hangsOn_11 rfl (lv_at hl 0 rfl) ?_
    refine lv_iload_n F.1 F.2.1 dX7_hangsOn_12 rfl (lv_at hl 1 rfl) ?_
    refine g_calli (g_runV (As := [.int (iI rr)]) (rest := [.int (iI 1)]) (ci := 7) F hl.1 hH hS hz (c_X7_firstOf l g gh T I R J AI AJ AR mo rr zrr hv hm hT (by omega)) (cwV 1 F.2.2.2.2.1 (good_up gT_X7_firstOf) rfl rfl rfl hdX7_firstOf ⟨Nat.le_of_ble_eq_true rfl, Nat.le_of_ble_eq_true rfl⟩) hm (by decide) rfl rfl rfl (Nat.le_of_ble_eq_true rfl) dX7_hangsOn_13 ⟨Nat.zero_le _, Nat.zero_le _⟩) hS (fun v_18 I_12 R_13 J_14 AI_15 AJ_16 AR_17 H locs zv_18 hp_19 hH hS => ?_)
    dsimp only at hp_19
    obtain ⟨rfl, rfl, rfl, rfl, rfl, rfl, q_20⟩ := hp_19
    refine lv_ishl F.1 F.2.1 dX7_hangsOn_16 ?_
    refine z_top (fun v_21 zv_21 ev_21 => ?_)
    refine lv_aload_n F.1 F.2.1 dX7_hangsOn_17 rfl (lv_at hl 0 rfl) ?_
    refine lv_aload_n F.1 F.2.1 dX7_hangsOn_18 rfl (lv_at hl 0 rfl) ?_
    refine lv_iload_n F.1 F.2.1 dX7_hangsOn_19 rfl (lv_at hl 1 rfl) ?_
    refine g_calli (g_runV (As := [.int (iI rr)]) (rest := [.ref mo, .int (iI v_21)]) (ci := 7) F hl.1 hH hS hz (c_X7_firstOf l g gh T I R J AI AJ AR mo rr zrr hv hm hT (by omega)) (cwV 1 F.2.2.2.2.1 (good_up gT_X7_firstOf) rfl rfl rfl hdX7_firstOf ⟨Nat.le_of_ble_eq_true rfl, Nat.le_of_ble_eq_true rfl⟩) hm (by decide) rfl rfl rfl (Nat.le_of_ble_eq_true rfl) dX7_hangsOn_20 ⟨Nat.zero_le _, Nat.zero_le _⟩) hS (fun v_28 I_22 R_23 J_24 AI_25 AJ_26 AR_27 H locs zv_28 hp_29 hH hS => ?_)
    dsimp only at hp_29
    obtain ⟨rfl, rfl, rfl, rfl, rfl, rfl, q_30⟩ := hp_29
    refine g_calli (g_runV (As := [.int (iI v_28)]) (rest := [.int (iI v_21)]) (ci := 7) F hl.1 hH hS hz (c_X7_hangsOn14 l g gh T I R J AI AJ AR mo v_28 zv_28 hv hm hT (by omega)) (cwV 1 F.2.2.2.2.1 (good_up gT_X7_hangsOn) rfl rfl rfl hdX7_hangsOn ⟨Nat.le_of_ble_eq_true rfl, Nat.le_of_ble_eq_true rfl⟩) hm (by decide) rfl rfl rfl (Nat.le_of_ble_eq_true rfl) dX7_hangsOn_23 ⟨Nat.zero_le _, Nat.zero_le _⟩) hS (fun v_37 I_31 R_32 J_33 AI_34 AJ_35 AR_36 H locs zv_37 hp_38 hH hS => ?_)
    dsimp only at hp_38
    obtain ⟨rfl, rfl, rfl, rfl, rfl, rfl⟩ := hp_38
    refine lv_ior F.1 F.2.1 dX7_hangsOn_26 ?_
    refine z_top (fun v_39 zv_39 ev_39 => ?_)
    refine lv_istore_n (lv' := [(2, .int (iI v_39)), (0, .ref mo), (1, .int (iI rr))]) F.1 F.2.1 dX7_hangsOn_27 rfl hl (by decide) rfl (fun ls hl => ?_)
    refine lv_aload_n F.1 F.2.1 dX7_hangsOn_28 rfl (lv_at hl 1 rfl) ?_
    refine lv_iload_n F.1 F.2.1 dX7_hangsOn_29 rfl (lv_at hl 2 rfl) ?_
    refine g_calli (g_runV (As := [.int (iI rr)]) (rest := []) (ci := 7) F hl.1 hH hS hz (c_X7_secondOf l g gh T I R J AI AJ AR mo rr zrr hv hm hT (by omega)) (cwV 1 F.2.2.2.2.1 (good_up gT_X7_secondOf) rfl rfl rfl hdX7_secondOf ⟨Nat.le_of_ble_eq_true rfl, Nat.le_of_ble_eq_true rfl⟩) hm (by decide) rfl rfl rfl (Nat.le_of_ble_eq_true rfl) dX7_hangsOn_30 ⟨Nat.zero_le _, Nat.zero_le _⟩) hS (fun v_46 I_40 R_41 J_42 AI_43 AJ_44 AR_45 H locs zv_46 hp_47 hH hS => ?_)
    dsimp only at hp_47
    obtain ⟨rfl, rfl, rfl, rfl, rfl, rfl, q_48⟩ := hp_47
    refine z_if_ge (tgt := 40) F dX7_hangsOn_33 (by decide) zv_46 (fun c_49 => ?_) (fun c_49 => ?_)
    · refine lv_iload_n F.1 F.2.1 dX7_hangsOn_40 rfl (lv_at hl 0 rfl) ?_
      refine z_iconst F dX7_hangsOn_41 ?_
      refine lv_aload_n F.1 F.2.1 dX7_hangsOn_42 rfl (lv_at hl 1 rfl) ?_
      refine lv_iload_n F.1 F.2.1 dX7_hangsOn_43 rfl (lv_at hl 2 rfl) ?_
      refine g_calli (g_runV (As := [.int (iI rr)]) (rest := [.int (iI 1), .int (iI v_39)]) (ci := 7) F hl.1 hH hS hz (c_X7_secondOf l g gh T I R J AI AJ AR mo rr zrr hv hm hT (by omega)) (cwV 1 F.2.2.2.2.1 (good_up gT_X7_secondOf) rfl rfl rfl hdX7_secondOf ⟨Nat.le_of_ble_eq_true rfl, Nat.le_of_ble_eq_true rfl⟩) hm (by decide) rfl rfl rfl (Nat.le_of_ble_eq_true rfl) dX7_hangsOn_44 ⟨Nat.zero_le _, Nat.zero_le _⟩) hS (fun v_56 I_50 R_51 J_52 AI_53 AJ_54 AR_55 H locs zv_56 hp_57 hH hS => ?_)
      dsimp only at hp_57
      obtain ⟨rfl, rfl, rfl, rfl, rfl, rfl, q_58⟩ := hp_57
      refine lv_ishl F.1 F.2.1 dX7_hangsOn_47 ?_
      refine z_top (fun v_59 zv_59 ev_59 => ?_)
      refine lv_ior F.1 F.2.1 dX7_hangsOn_48 ?_
      refine z_top (fun v_60 zv_60 ev_60 => ?_)
      refine lv_aload_n F.1 F.2.1 dX7_hangsOn_49 rfl (lv_at hl 1 rfl) ?_
      refine lv_aload_n F.1 F.2.1 dX7_hangsOn_50 rfl (lv_at hl 1 rfl) ?_
      refine lv_iload_n F.1 F.2.1 dX7_hangsOn_51 rfl (lv_at hl 2 rfl) ?_
      refine g_calli (g_runV (As := [.int (iI rr)]) (rest := [.ref mo, .int (iI v_60)]) (ci := 7) F hl.1 hH hS hz (c_X7_secondOf l g gh T I R J AI AJ AR mo rr zrr hv hm hT (by omega)) (cwV 1 F.2.2.2.2.1 (good_up gT_X7_secondOf) rfl rfl rfl hdX7_secondOf ⟨Nat.le_of_ble_eq_true rfl, Nat.le_of_ble_eq_true rfl⟩) hm (by decide) rfl rfl rfl (Nat.le_of_ble_eq_true rfl) dX7_hangsOn_52 ⟨Nat.zero_le _, Nat.zero_le _⟩) hS (fun v_67 I_61 R_62 J_63 AI_64 AJ_65 AR_66 H locs zv_67 hp_68 hH hS => ?_)
      dsimp only at hp_68
      obtain ⟨rfl, rfl, rfl, rfl, rfl, rfl, q_69⟩ := hp_68
      refine g_calli (g_runV (As := [.int (iI v_67)]) (rest := [.int (iI v_60)]) (ci := 7) F hl.1 hH hS hz (c_X7_hangsOn14 l g gh T I R J AI AJ AR mo v_67 zv_67 hv hm hT (by omega)) (cwV 1 F.2.2.2.2.1 (good_up gT_X7_hangsOn) rfl rfl rfl hdX7_hangsOn ⟨Nat.le_of_ble_eq_true rfl, Nat.le_of_ble_eq_true rfl⟩) hm (by decide) rfl rfl rfl (Nat.le_of_ble_eq_true rfl) dX7_hangsOn_55 ⟨Nat.zero_le _, Nat.zero_le _⟩) hS (fun v_76 I_70 R_71 J_72 AI_73 AJ_74 AR_75 H locs zv_76 hp_77 hH hS => ?_)
      dsimp only at hp_77
      obtain ⟨rfl, rfl, rfl, rfl, rfl, rfl⟩ := hp_77
      refine lv_ior F.1 F.2.1 dX7_hangsOn_58 ?_
      refine z_top (fun v_78 zv_78 ev_78 => ?_)
      exact g_iret F hr hlk hH hS hz zv_78 ⟨rfl, rfl, rfl, rfl, rfl, rfl⟩ dX7_hangsOn_59
    · refine lv_iload_n F.1 F.2.1 dX7_hangsOn_36 rfl (lv_at hl 0 rfl) ?_
      refine z_goto (tgt := 59) F dX7_hangsOn_37 (by decide) ?_
      exact g_iret F hr hlk hH hS hz zv_39 ⟨rfl, rfl, rfl, rfl, rfl, rfl⟩ dX7_hangsOn_59
  · refine z_iconst F dX7_hangsOn_8 ?_
    exact g_iret F hr hlk hH hS hz ⟨by decide, by decide⟩ ⟨rfl, rfl, rfl, rfl, rfl, rfl⟩ dX7_hangsOn_9

def rmX7_hangsOn16 : Room := { frames := 16, cells := 0, slots := 0, locals := 351 }
set_option maxHeartbeats 4000000 in
set_option maxRecDepth 100000 in
/-- hangsOn -/
theorem c_X7_hangsOn16 (l : Launch) (g : gG) (gh : gGh) (T : Nat → Int32) (I : gI) (R : gR) (J : gJ) (AI : gI) (AJ : gJ) (AR : gR) (mo : Nat) (rr : Int) (zrr : zr rr) (hv : mInv g gh R I AI) (hm : gO g mo 7) (hT : AI (gh 50 0) = T) (hr0 : 0 ≤ rr ∧ rr < (I mo 2).toInt ∧ rr < 16) : gMet l g yX7_hangsOn tsX7_hangsOn rmX7_hangsOn16 [.ref mo, .int (iI rr)] (I, R, J, AI, AJ, AR) (gQi g (fun (z : Int) (w : gS) => I = w.1 ∧ R = w.2.1 ∧ J = w.2.2.1 ∧ AI = w.2.2.2.1 ∧ AJ = w.2.2.2.2.1 ∧ AR = w.2.2.2.2.2)) := by
  refine gStart (cc := cX7_hangsOn) (maxL := 3) (ret := (some (.int))) (by decide) rfl (Nat.le_of_ble_eq_true rfl) ?_
  intro p e s m below meth c ls F hr hlk hH hz hS hl
  have hl : lv_has ls 3 [(0, .ref mo), (1, .int (iI rr))] := hl
  have hS : va_S (gA g) s.heap s.heap [] := hS
  obtain ⟨H, hHe⟩ : ∃ H : Heap, H = s.heap := ⟨_, rfl⟩
  obtain ⟨locs, hlo⟩ : ∃ k : List Loc, k = [] := ⟨_, rfl⟩
  have hH : gH g I R J AI AJ AR H := by rw [hHe]; exact hH
  have hS : va_S (gA g) s.heap H locs := by rw [hHe, hlo]; exact hS
  suffices hw : W p l e rmX7_hangsOn16 s m ([.ref mo, .int (iI rr)] : List Value).toArray below meth c H locs 0 0 (MQ below (gQi g (fun (z : Int) (w : gS) => I = w.1 ∧ R = w.2.1 ∧ J = w.2.2.1 ∧ AI = w.2.2.2.1 ∧ AJ = w.2.2.2.2.1 ∧ AR = w.2.2.2.2.2)) ([.ref mo, .int (iI rr)] : List Value).toArray s 0 0 (gA g)) (F0 m 0 ls []) by
    rw [hHe, hlo] at hw; exact hw
  clear hHe hlo
  have hb0 := mJ hv hm
  unfold mNum1 at hb0
  have x := mRow hv hm hT (z := rr) (by omega) (by omega)
  have xa := x.1
  have xc := x.2.2.1
  have xb := x.2.1
  refine lv_aload_n F.1 F.2.1 dX7_hangsOn_0 rfl (lv_at hl 0 rfl) ?_
  refine lv_iload_n F.1 F.2.1 dX7_hangsOn_1 rfl (lv_at hl 1 rfl) ?_
  have b_1 := mJ hv hm
  unfold mNum1 at b_1
  refine g_calli (g_runV (As := [.int (iI rr)]) (rest := []) (ci := 7) F hl.1 hH hS hz (c_X7_kindOf l g gh T I R J AI AJ AR mo rr zrr hv hm hT (by omega)) (cwV 1 F.2.2.2.2.1 (good_up gT_X7_kindOf) rfl rfl rfl hdX7_kindOf ⟨Nat.le_of_ble_eq_true rfl, Nat.le_of_ble_eq_true rfl⟩) hm (by decide) rfl rfl rfl (Nat.le_of_ble_eq_true rfl) dX7_hangsOn_2 ⟨Nat.zero_le _, Nat.zero_le _⟩) hS (fun v_8 I_2 R_3 J_4 AI_5 AJ_6 AR_7 H locs zv_8 hp_9 hH hS => ?_)
  dsimp only at hp_9
  obtain ⟨rfl, rfl, rfl, rfl, rfl, rfl, q_10⟩ := hp_9
  refine z_if_ne (tgt := 10) F dX7_hangsOn_5 (by decide) zv_8 (fun c_11 => ?_) (fun c_11 => ?_)
  · refine z_iconst F dX7_hangsOn_10 ?_
    refine lv_aload_n F.1 F.2.1 dX7_hangsOn_11 rfl (lv_at hl 0 rfl) ?_
    refine lv_iload_n F.1 F.2.1 dX7_hangsOn_12 rfl (lv_at hl 1 rfl) ?_
    refine g_calli (g_runV (As := [.int (iI rr)]) (rest := [.int (iI 1)]) (ci := 7) F hl.1 hH hS hz (c_X7_firstOf l g gh T I R J AI AJ AR mo rr zrr hv hm hT (by omega)) (cwV 1 F.2.2.2.2.1 (good_up gT_X7_firstOf) rfl rfl rfl hdX7_firstOf ⟨Nat.le_of_ble_eq_true rfl, Nat.le_of_ble_eq_true rfl⟩) hm (by decide) rfl rfl rfl (Nat.le_of_ble_eq_true rfl) dX7_hangsOn_13 ⟨Nat.zero_le _, Nat.zero_le _⟩) hS (fun v_18 I_12 R_13 J_14 AI_15 AJ_16 AR_17 H locs zv_18 hp_19 hH hS => ?_)
    dsimp only at hp_19
    obtain ⟨rfl, rfl, rfl, rfl, rfl, rfl, q_20⟩ := hp_19
    refine lv_ishl F.1 F.2.1 dX7_hangsOn_16 ?_
    refine z_top (fun v_21 zv_21 ev_21 => ?_)
    refine lv_aload_n F.1 F.2.1 dX7_hangsOn_17 rfl (lv_at hl 0 rfl) ?_
    refine lv_aload_n F.1 F.2.1 dX7_hangsOn_18 rfl (lv_at hl 0 rfl) ?_
    refine lv_iload_n F.1 F.2.1 dX7_hangsOn_19 rfl (lv_at hl 1 rfl) ?_
    refine g_calli (g_runV (As := [.int (iI rr)]) (rest := [.ref mo, .int (iI v_21)]) (ci := 7) F hl.1 hH hS hz (c_X7_firstOf l g gh T I R J AI AJ AR mo rr zrr hv hm hT (by omega)) (cwV 1 F.2.2.2.2.1 (good_up gT_X7_firstOf) rfl rfl rfl hdX7_firstOf ⟨Nat.le_of_ble_eq_true rfl, Nat.le_of_ble_eq_true rfl⟩) hm (by decide) rfl rfl rfl (Nat.le_of_ble_eq_true rfl) dX7_hangsOn_20 ⟨Nat.zero_le _, Nat.zero_le _⟩) hS (fun v_28 I_22 R_23 J_24 AI_25 AJ_26 AR_27 H locs zv_28 hp_29 hH hS => ?_)
    dsimp only at hp_29
    obtain ⟨rfl, rfl, rfl, rfl, rfl, rfl, q_30⟩ := hp_29
    refine g_calli (g_runV (As := [.int (iI v_28)]) (rest := [.int (iI v_21)]) (ci := 7) F hl.1 hH hS hz (c_X7_hangsOn15 l g gh T I R J AI AJ AR mo v_28 zv_28 hv hm hT (by omega)) (cwV 1 F.2.2.2.2.1 (good_up gT_X7_hangsOn) rfl rfl rfl hdX7_hangsOn ⟨Nat.le_of_ble_eq_true rfl, Nat.le_of_ble_eq_true rfl⟩) hm (by decide) rfl rfl rfl (Nat.le_of_ble_eq_true rfl) dX7_hangsOn_23 ⟨Nat.zero_le _, Nat.zero_le _⟩) hS (fun v_37 I_31 R_32 J_33 AI_34 AJ_35 AR_36 H locs zv_37 hp_38 hH hS => ?_)
    dsimp only at hp_38
    obtain ⟨rfl, rfl, rfl, rfl, rfl, rfl⟩ := hp_38
    refine lv_ior F.1 F.2.1 dX7_hangsOn_26 ?_
    refine z_top (fun v_39 zv_39 ev_39 => ?_)
    refine lv_istore_n (lv' := [(2, .int (iI v_39)), (0, .ref mo), (1, .int (iI rr))]) F.1 F.2.1 dX7_hangsOn_27 rfl hl (by decide) rfl (fun ls hl => ?_)
    refine lv_aload_n F.1 F.2.1 dX7_hangsOn_28 rfl (lv_at hl 1 rfl) ?_
    refine lv_iload_n F.1 F.2.1 dX7_hangsOn_29 rfl (lv_at hl 2 rfl) ?_
    refine g_calli (g_runV (As := [.int (iI rr)]) (rest := []) (ci := 7) F hl.1 hH hS hz (c_X7_secondOf l g gh T I R J AI AJ AR mo rr zrr hv hm hT (by omega)) (cwV 1 F.2.2.2.2.1 (good_up gT_X7_secondOf) rfl rfl rfl hdX7_secondOf ⟨Nat.le_of_ble_eq_true rfl, Nat.le_of_ble_eq_true rfl⟩) hm (by decide) rfl rfl rfl (Nat.le_of_ble_eq_true rfl) dX7_hangsOn_30 ⟨Nat.zero_le _, Nat.zero_le _⟩) hS (fun v_46 I_40 R_41 J_42 AI_43 AJ_44 AR_45 H locs zv_46 hp_47 hH hS => ?_)
    dsimp only at hp_47
    obtain ⟨rfl, rfl, rfl, rfl, rfl, rfl, q_48⟩ := hp_47
    refine z_if_ge (tgt := 40) F dX7_hangsOn_33 (by decide) zv_46 (fun c_49 => ?_) (fun c_49 => ?_)
    · refine lv_iload_n F.1 F.2.1 dX7_hangsOn_40 rfl (lv_at hl 0 rfl) ?_
      refine z_iconst F dX7_hangsOn_41 ?_
      refine lv_aload_n F.1 F.2.1 dX7_hangsOn_42 rfl (lv_at hl 1 rfl) ?_
      refine lv_iload_n F.1 F.2.1 dX7_hangsOn_43 rfl (lv_at hl 2 rfl) ?_
      refine g_calli (g_runV (As := [.int (iI rr)]) (rest := [.int (iI 1), .int (iI v_39)]) (ci := 7) F hl.1 hH hS hz (c_X7_secondOf l g gh T I R J AI AJ AR mo rr zrr hv hm hT (by omega)) (cwV 1 F.2.2.2.2.1 (good_up gT_X7_secondOf) rfl rfl rfl hdX7_secondOf ⟨Nat.le_of_ble_eq_true rfl, Nat.le_of_ble_eq_true rfl⟩) hm (by decide) rfl rfl rfl (Nat.le_of_ble_eq_true rfl) dX7_hangsOn_44 ⟨Nat.zero_le _, Nat.zero_le _⟩) hS (fun v_56 I_50 R_51 J_52 AI_53 AJ_54 AR_55 H locs zv_56 hp_57 hH hS => ?_)
      dsimp only at hp_57
      obtain ⟨rfl, rfl, rfl, rfl, rfl, rfl, q_58⟩ := hp_57
      refine lv_ishl F.1 F.2.1 dX7_hangsOn_47 ?_
      refine z_top (fun v_59 zv_59 ev_59 => ?_)
      refine lv_ior F.1 F.2.1 dX7_hangsOn_48 ?_
      refine z_top (fun v_60 zv_60 ev_60 => ?_)
      refine lv_aload_n F.1 F.2.1 dX7_hangsOn_49 rfl (lv_at hl 1 rfl) ?_
      refine lv_aload_n F.1 F.2.1 dX7_hangsOn_50 rfl (lv_at hl 1 rfl) ?_
      refine lv_iload_n F.1 F.2.1 dX7_hangsOn_51 rfl (lv_at hl 2 rfl) ?_
      refine g_calli (g_runV (As := [.int (iI rr)]) (rest := [.ref mo, .int (iI v_60)]) (ci := 7) F hl.1 hH hS hz (c_X7_secondOf l g gh T I R J AI AJ AR mo rr zrr hv hm hT (by omega)) (cwV 1 F.2.2.2.2.1 (good_up gT_X7_secondOf) rfl rfl rfl hdX7_secondOf ⟨Nat.le_of_ble_eq_true rfl, Nat.le_of_ble_eq_true rfl⟩) hm (by decide) rfl rfl rfl (Nat.le_of_ble_eq_true rfl) dX7_hangsOn_52 ⟨Nat.zero_le _, Nat.zero_le _⟩) hS (fun v_67 I_61 R_62 J_63 AI_64 AJ_65 AR_66 H locs zv_67 hp_68 hH hS => ?_)
      dsimp only at hp_68
      obtain ⟨rfl, rfl, rfl, rfl, rfl, rfl, q_69⟩ := hp_68
      refine g_calli (g_runV (As := [.int (iI v_67)]) (rest := [.int (iI v_60)]) (ci := 7) F hl.1 hH hS hz (c_X7_hangsOn15 l g gh T I R J AI AJ AR mo v_67 zv_67 hv hm hT (by omega)) (cwV 1 F.2.2.2.2.1 (good_up gT_X7_hangsOn) rfl rfl rfl hdX7_hangsOn ⟨Nat.le_of_ble_eq_true rfl, Nat.le_of_ble_eq_true rfl⟩) hm (by decide) rfl rfl rfl (Nat.le_of_ble_eq_true rfl) dX7_hangsOn_55 ⟨Nat.zero_le _, Nat.zero_le _⟩) hS (fun v_76 I_70 R_71 J_72 AI_73 AJ_74 AR_75 H locs zv_76 hp_77 hH hS => ?_)
      dsimp only at hp_77
      obtain ⟨rfl, rfl, rfl, rfl, rfl, rfl⟩ := hp_77
      refine lv_ior F.1 F.2.1 dX7_hangsOn_58 ?_
      refine z_top (fun v_78 zv_78 ev_78 => ?_)
      exact g_iret F hr hlk hH hS hz zv_78 ⟨rfl, rfl, rfl, rfl, rfl, rfl⟩ dX7_hangsOn_59
    · refine lv_iload_n F.1 F.2.1 dX7_hangsOn_36 rfl (lv_at hl 0 rfl) ?_
      refine z_goto (tgt := 59) F dX7_hangsOn_37 (by decide) ?_
      exact g_iret F hr hlk hH hS hz zv_39 ⟨rfl, rfl, rfl, rfl, rfl, rfl⟩ dX7_hangsOn_59
  · refine z_iconst F dX7_hangsOn_8 ?_
    exact g_iret F hr hlk hH hS hz ⟨by decide, by decide⟩ ⟨rfl, rfl, rfl, rfl, rfl, rfl⟩ dX7_hangsOn_9

def rmX7_farOf : Room := { frames := 1, cells := 0, slots := 0, locals := 21 }
theorem hdX7_farOf : yX7_farOf.cls = RX7 ∧ yX7_farOf.cls ≠ "java/lang/invoke/MethodHandle" ∧ yX7_farOf.cls ≠ "java/lang/invoke/VarHandle" ∧ (parseMethodDescriptor yX7_farOf.desc).map (fun d => d.parameters.length) = some 1 := by decide +kernel
set_option maxHeartbeats 4000000 in
set_option maxRecDepth 100000 in
/-- farOf -/
theorem c_X7_farOf (l : Launch) (g : gG) (gh : gGh) (T : Nat → Int32) (I : gI) (R : gR) (J : gJ) (AI : gI) (AJ : gJ) (AR : gR) (mo : Nat) (rr : Int) (zrr : zr rr) (hv : mInv g gh R I AI) (hm : gO g mo 7) (hT : AI (gh 50 0) = T) (hr0 : 0 ≤ rr ∧ rr < (I mo 2).toInt ∧ rr < 1) : gMet l g yX7_farOf tsX7_farOf rmX7_farOf [.ref mo, .int (iI rr)] (I, R, J, AI, AJ, AR) (gQi g (fun (z : Int) (w : gS) => I = w.1 ∧ R = w.2.1 ∧ J = w.2.2.1 ∧ AI = w.2.2.2.1 ∧ AJ = w.2.2.2.2.1 ∧ AR = w.2.2.2.2.2 ∧ (0 ≤ z ∧ z ≤ 1))) := by
  refine gStart (cc := cX7_farOf) (maxL := 4) (ret := (some (.int))) (by decide) rfl (Nat.le_of_ble_eq_true rfl) ?_
  intro p e s m below meth c ls F hr hlk hH hz hS hl
  have hl : lv_has ls 4 [(0, .ref mo), (1, .int (iI rr))] := hl
  have hS : va_S (gA g) s.heap s.heap [] := hS
  obtain ⟨H, hHe⟩ : ∃ H : Heap, H = s.heap := ⟨_, rfl⟩
  obtain ⟨locs, hlo⟩ : ∃ k : List Loc, k = [] := ⟨_, rfl⟩
  have hH : gH g I R J AI AJ AR H := by rw [hHe]; exact hH
  have hS : va_S (gA g) s.heap H locs := by rw [hHe, hlo]; exact hS
  suffices hw : W p l e rmX7_farOf s m ([.ref mo, .int (iI rr)] : List Value).toArray below meth c H locs 0 0 (MQ below (gQi g (fun (z : Int) (w : gS) => I = w.1 ∧ R = w.2.1 ∧ J = w.2.2.1 ∧ AI = w.2.2.2.1 ∧ AJ = w.2.2.2.2.1 ∧ AR = w.2.2.2.2.2 ∧ (0 ≤ z ∧ z ≤ 1))) ([.ref mo, .int (iI rr)] : List Value).toArray s 0 0 (gA g)) (F0 m 0 ls []) by
    rw [hHe, hlo] at hw; exact hw
  clear hHe hlo
  have hb0 := mJ hv hm
  unfold mNum1 at hb0
  have x := mRow hv hm hT (z := rr) (by omega) (by omega)
  have xa := x.1
  have xc := x.2.2.1
  have xb := x.2.1
  refine lv_aload_n F.1 F.2.1 dX7_farOf_0 rfl (lv_at hl 0 rfl) ?_
  refine lv_iload_n F.1 F.2.1 dX7_farOf_1 rfl (lv_at hl 1 rfl) ?_
  have b_1 := mJ hv hm
  unfold mNum1 at b_1
  refine g_calli (g_runV (As := [.int (iI rr)]) (rest := []) (ci := 7) F hl.1 hH hS hz (c_X7_kindOf l g gh T I R J AI AJ AR mo rr zrr hv hm hT (by omega)) (cwV 1 F.2.2.2.2.1 (good_up gT_X7_kindOf) rfl rfl rfl hdX7_kindOf ⟨Nat.le_of_ble_eq_true rfl, Nat.le_of_ble_eq_true rfl⟩) hm (by decide) rfl rfl rfl (Nat.le_of_ble_eq_true rfl) dX7_farOf_2 ⟨Nat.zero_le _, Nat.zero_le _⟩) hS (fun v_8 I_2 R_3 J_4 AI_5 AJ_6 AR_7 H locs zv_8 hp_9 hH hS => ?_)
  dsimp only at hp_9
  obtain ⟨rfl, rfl, rfl, rfl, rfl, rfl, q_10⟩ := hp_9
  refine z_if_ne (tgt := 10) F dX7_farOf_5 (by decide) zv_8 (fun c_11 => ?_) (fun c_11 => ?_)
  · exact absurd trivial (by omega)
  · refine z_iconst F dX7_farOf_8 ?_
    exact g_iret F hr hlk hH hS hz ⟨by decide, by decide⟩ ⟨rfl, rfl, rfl, rfl, rfl, rfl, by first | omega | rfl | (dsimp only; omega)⟩ dX7_farOf_9

def rmX7_farOf2 : Room := { frames := 2, cells := 0, slots := 0, locals := 44 }
set_option maxHeartbeats 4000000 in
set_option maxRecDepth 100000 in
/-- farOf -/
theorem c_X7_farOf2 (l : Launch) (g : gG) (gh : gGh) (T : Nat → Int32) (I : gI) (R : gR) (J : gJ) (AI : gI) (AJ : gJ) (AR : gR) (mo : Nat) (rr : Int) (zrr : zr rr) (hv : mInv g gh R I AI) (hm : gO g mo 7) (hT : AI (gh 50 0) = T) (hr0 : 0 ≤ rr ∧ rr < (I mo 2).toInt ∧ rr < 2) : gMet l g yX7_farOf tsX7_farOf rmX7_farOf2 [.ref mo, .int (iI rr)] (I, R, J, AI, AJ, AR) (gQi g (fun (z : Int) (w : gS) => I = w.1 ∧ R = w.2.1 ∧ J = w.2.2.1 ∧ AI = w.2.2.2.1 ∧ AJ = w.2.2.2.2.1 ∧ AR = w.2.2.2.2.2 ∧ (0 ≤ z ∧ z ≤ 2))) := by
  refine gStart (cc := cX7_farOf) (maxL := 4) (ret := (some (.int))) (by decide) rfl (Nat.le_of_ble_eq_true rfl) ?_
  intro p e s m below meth c ls F hr hlk hH hz hS hl
  have hl : lv_has ls 4 [(0, .ref mo), (1, .int (iI rr))] := hl
  have hS : va_S (gA g) s.heap s.heap [] := hS
  obtain ⟨H, hHe⟩ : ∃ H : Heap, H = s.heap := ⟨_, rfl⟩
  obtain ⟨locs, hlo⟩ : ∃ k : List Loc, k = [] := ⟨_, rfl⟩
  have hH : gH g I R J AI AJ AR H := by rw [hHe]; exact hH
  have hS : va_S (gA g) s.heap H locs := by rw [hHe, hlo]; exact hS
  suffices hw : W p l e rmX7_farOf2 s m ([.ref mo, .int (iI rr)] : List Value).toArray below meth c H locs 0 0 (MQ below (gQi g (fun (z : Int) (w : gS) => I = w.1 ∧ R = w.2.1 ∧ J = w.2.2.1 ∧ AI = w.2.2.2.1 ∧ AJ = w.2.2.2.2.1 ∧ AR = w.2.2.2.2.2 ∧ (0 ≤ z ∧ z ≤ 2))) ([.ref mo, .int (iI rr)] : List Value).toArray s 0 0 (gA g)) (F0 m 0 ls []) by
    rw [hHe, hlo] at hw; exact hw
  clear hHe hlo
  have hb0 := mJ hv hm
  unfold mNum1 at hb0
  have x := mRow hv hm hT (z := rr) (by omega) (by omega)
  have xa := x.1
  have xc := x.2.2.1
  have xb := x.2.1
  refine lv_aload_n F.1 F.2.1 dX7_farOf_0 rfl (lv_at hl 0 rfl) ?_
  refine lv_iload_n F.1 F.2.1 dX7_farOf_1 rfl (lv_at hl 1 rfl) ?_
  have b_1 := mJ hv hm
  unfold mNum1 at b_1
  refine g_calli (g_runV (As := [.int (iI rr)]) (rest := []) (ci := 7) F hl.1 hH hS hz (c_X7_kindOf l g gh T I R J AI AJ AR mo rr zrr hv hm hT (by omega)) (cwV 1 F.2.2.2.2.1 (good_up gT_X7_kindOf) rfl rfl rfl hdX7_kindOf ⟨Nat.le_of_ble_eq_true rfl, Nat.le_of_ble_eq_true rfl⟩) hm (by decide) rfl rfl rfl (Nat.le_of_ble_eq_true rfl) dX7_farOf_2 ⟨Nat.zero_le _, Nat.zero_le _⟩) hS (fun v_8 I_2 R_3 J_4 AI_5 AJ_6 AR_7 H locs zv_8 hp_9 hH hS => ?_)
  dsimp only at hp_9
  obtain ⟨rfl, rfl, rfl, rfl, rfl, rfl, q_10⟩ := hp_9
  refine z_if_ne (tgt := 10) F dX7_farOf_5 (by decide) zv_8 (fun c_11 => ?_) (fun c_11 => ?_)
  · refine lv_aload_n F.1 F.2.1 dX7_farOf_10 rfl (lv_at hl 0 rfl) ?_
    refine lv_aload_n F.1 F.2.1 dX7_farOf_11 rfl (lv_at hl 0 rfl) ?_
    refine lv_iload_n F.1 F.2.1 dX7_farOf_12 rfl (lv_at hl 1 rfl) ?_
    refine g_calli (g_runV (As := [.int (iI rr)]) (rest := [.ref mo]) (ci := 7) F hl.1 hH hS hz (c_X7_firstOf l g gh T I R J AI AJ AR mo rr zrr hv hm hT (by omega)) (cwV 1 F.2.2.2.2.1 (good_up gT_X7_firstOf) rfl rfl rfl hdX7_firstOf ⟨Nat.le_of_ble_eq_true rfl, Nat.le_of_ble_eq_true rfl⟩) hm (by decide) rfl rfl rfl (Nat.le_of_ble_eq_true rfl) dX7_farOf_13 ⟨Nat.zero_le _, Nat.zero_le _⟩) hS (fun v_18 I_12 R_13 J_14 AI_15 AJ_16 AR_17 H locs zv_18 hp_19 hH hS => ?_)
    dsimp only at hp_19
    obtain ⟨rfl, rfl, rfl, rfl, rfl, rfl, q_20⟩ := hp_19
    refine g_calli (g_runV (As := [.int (iI v_18)]) (rest := []) (ci := 7) F hl.1 hH hS hz (c_X7_farOf l g gh T I R J AI AJ AR mo v_18 zv_18 hv hm hT (by omega)) (cwV 1 F.2.2.2.2.1 (good_up gT_X7_farOf) rfl rfl rfl hdX7_farOf ⟨Nat.le_of_ble_eq_true rfl, Nat.le_of_ble_eq_true rfl⟩) hm (by decide) rfl rfl rfl (Nat.le_of_ble_eq_true rfl) dX7_farOf_16 ⟨Nat.zero_le _, Nat.zero_le _⟩) hS (fun v_27 I_21 R_22 J_23 AI_24 AJ_25 AR_26 H locs zv_27 hp_28 hH hS => ?_)
    dsimp only at hp_28
    obtain ⟨rfl, rfl, rfl, rfl, rfl, rfl, q_29⟩ := hp_28
    refine lv_istore_n (lv' := [(2, .int (iI v_27)), (0, .ref mo), (1, .int (iI rr))]) F.1 F.2.1 dX7_farOf_19 rfl hl (by decide) rfl (fun ls hl => ?_)
    refine lv_aload_n F.1 F.2.1 dX7_farOf_20 rfl (lv_at hl 1 rfl) ?_
    refine lv_iload_n F.1 F.2.1 dX7_farOf_21 rfl (lv_at hl 2 rfl) ?_
    refine g_calli (g_runV (As := [.int (iI rr)]) (rest := []) (ci := 7) F hl.1 hH hS hz (c_X7_secondOf l g gh T I R J AI AJ AR mo rr zrr hv hm hT (by omega)) (cwV 1 F.2.2.2.2.1 (good_up gT_X7_secondOf) rfl rfl rfl hdX7_secondOf ⟨Nat.le_of_ble_eq_true rfl, Nat.le_of_ble_eq_true rfl⟩) hm (by decide) rfl rfl rfl (Nat.le_of_ble_eq_true rfl) dX7_farOf_22 ⟨Nat.zero_le _, Nat.zero_le _⟩) hS (fun v_36 I_30 R_31 J_32 AI_33 AJ_34 AR_35 H locs zv_36 hp_37 hH hS => ?_)
    dsimp only at hp_37
    obtain ⟨rfl, rfl, rfl, rfl, rfl, rfl, q_38⟩ := hp_37
    refine z_if_ge (tgt := 32) F dX7_farOf_25 (by decide) zv_36 (fun c_39 => ?_) (fun c_39 => ?_)
    · refine lv_aload_n F.1 F.2.1 dX7_farOf_32 rfl (lv_at hl 1 rfl) ?_
      refine lv_aload_n F.1 F.2.1 dX7_farOf_33 rfl (lv_at hl 1 rfl) ?_
      refine lv_iload_n F.1 F.2.1 dX7_farOf_34 rfl (lv_at hl 2 rfl) ?_
      refine g_calli (g_runV (As := [.int (iI rr)]) (rest := [.ref mo]) (ci := 7) F hl.1 hH hS hz (c_X7_secondOf l g gh T I R J AI AJ AR mo rr zrr hv hm hT (by omega)) (cwV 1 F.2.2.2.2.1 (good_up gT_X7_secondOf) rfl rfl rfl hdX7_secondOf ⟨Nat.le_of_ble_eq_true rfl, Nat.le_of_ble_eq_true rfl⟩) hm (by decide) rfl rfl rfl (Nat.le_of_ble_eq_true rfl) dX7_farOf_35 ⟨Nat.zero_le _, Nat.zero_le _⟩) hS (fun v_46 I_40 R_41 J_42 AI_43 AJ_44 AR_45 H locs zv_46 hp_47 hH hS => ?_)
      dsimp only at hp_47
      obtain ⟨rfl, rfl, rfl, rfl, rfl, rfl, q_48⟩ := hp_47
      refine g_calli (g_runV (As := [.int (iI v_46)]) (rest := []) (ci := 7) F hl.1 hH hS hz (c_X7_farOf l g gh T I R J AI AJ AR mo v_46 zv_46 hv hm hT (by omega)) (cwV 1 F.2.2.2.2.1 (good_up gT_X7_farOf) rfl rfl rfl hdX7_farOf ⟨Nat.le_of_ble_eq_true rfl, Nat.le_of_ble_eq_true rfl⟩) hm (by decide) rfl rfl rfl (Nat.le_of_ble_eq_true rfl) dX7_farOf_38 ⟨Nat.zero_le _, Nat.zero_le _⟩) hS (fun v_55 I_49 R_50 J_51 AI_52 AJ_53 AR_54 H locs zv_55 hp_56 hH hS => ?_)
      dsimp only at hp_56
      obtain ⟨rfl, rfl, rfl, rfl, rfl, rfl, q_57⟩ := hp_56
      refine lv_istore_n (lv' := [(3, .int (iI v_55)), (2, .int (iI v_27)), (0, .ref mo), (1, .int (iI rr))]) F.1 F.2.1 dX7_farOf_41 rfl hl (by decide) rfl (fun ls hl => ?_)
      refine z_iconst F dX7_farOf_42 ?_
      refine lv_iload_n F.1 F.2.1 dX7_farOf_43 rfl (lv_at hl 1 rfl) ?_
      refine lv_iload_n F.1 F.2.1 dX7_farOf_44 rfl (lv_at hl 0 rfl) ?_
      refine z_icmp_le (tgt := 52) F dX7_farOf_45 (by decide) zv_27 zv_55 (fun c_58 => ?_) (fun c_58 => ?_)
      · refine lv_iload_n F.1 F.2.1 dX7_farOf_52 rfl (lv_at hl 0 rfl) ?_
        refine z_iadd F dX7_farOf_53 ?_
        exact g_iret F hr hlk hH hS hz ⟨by omega, by omega⟩ ⟨rfl, rfl, rfl, rfl, rfl, rfl, by first | omega | rfl | (dsimp only; omega)⟩ dX7_farOf_54
      · refine lv_iload_n F.1 F.2.1 dX7_farOf_48 rfl (lv_at hl 1 rfl) ?_
        refine z_goto (tgt := 53) F dX7_farOf_49 (by decide) ?_
        refine z_iadd F dX7_farOf_53 ?_
        exact g_iret F hr hlk hH hS hz ⟨by omega, by omega⟩ ⟨rfl, rfl, rfl, rfl, rfl, rfl, by first | omega | rfl | (dsimp only; omega)⟩ dX7_farOf_54
    · refine z_iconst F dX7_farOf_28 ?_
      refine z_goto (tgt := 41) F dX7_farOf_29 (by decide) ?_
      refine lv_istore_n (lv' := [(3, .int (iI 0)), (2, .int (iI v_27)), (0, .ref mo), (1, .int (iI rr))]) F.1 F.2.1 dX7_farOf_41 rfl hl (by decide) rfl (fun ls hl => ?_)
      refine z_iconst F dX7_farOf_42 ?_
      refine lv_iload_n F.1 F.2.1 dX7_farOf_43 rfl (lv_at hl 1 rfl) ?_
      refine lv_iload_n F.1 F.2.1 dX7_farOf_44 rfl (lv_at hl 0 rfl) ?_
      refine z_icmp_le (tgt := 52) F dX7_farOf_45 (by decide) zv_27 ⟨by decide, by decide⟩ (fun c_59 => ?_) (fun c_59 => ?_)
      · refine lv_iload_n F.1 F.2.1 dX7_farOf_52 rfl (lv_at hl 0 rfl) ?_
        refine z_iadd F dX7_farOf_53 ?_
        exact g_iret F hr hlk hH hS hz ⟨by omega, by omega⟩ ⟨rfl, rfl, rfl, rfl, rfl, rfl, by first | omega | rfl | (dsimp only; omega)⟩ dX7_farOf_54
      · refine lv_iload_n F.1 F.2.1 dX7_farOf_48 rfl (lv_at hl 1 rfl) ?_
        refine z_goto (tgt := 53) F dX7_farOf_49 (by decide) ?_
        refine z_iadd F dX7_farOf_53 ?_
        exact g_iret F hr hlk hH hS hz ⟨by omega, by omega⟩ ⟨rfl, rfl, rfl, rfl, rfl, rfl, by first | omega | rfl | (dsimp only; omega)⟩ dX7_farOf_54
  · refine z_iconst F dX7_farOf_8 ?_
    exact g_iret F hr hlk hH hS hz ⟨by decide, by decide⟩ ⟨rfl, rfl, rfl, rfl, rfl, rfl, by first | omega | rfl | (dsimp only; omega)⟩ dX7_farOf_9

def rmX7_farOf3 : Room := { frames := 3, cells := 0, slots := 0, locals := 67 }
set_option maxHeartbeats 4000000 in
set_option maxRecDepth 100000 in
/-- farOf -/
theorem c_X7_farOf3 (l : Launch) (g : gG) (gh : gGh) (T : Nat → Int32) (I : gI) (R : gR) (J : gJ) (AI : gI) (AJ : gJ) (AR : gR) (mo : Nat) (rr : Int) (zrr : zr rr) (hv : mInv g gh R I AI) (hm : gO g mo 7) (hT : AI (gh 50 0) = T) (hr0 : 0 ≤ rr ∧ rr < (I mo 2).toInt ∧ rr < 3) : gMet l g yX7_farOf tsX7_farOf rmX7_farOf3 [.ref mo, .int (iI rr)] (I, R, J, AI, AJ, AR) (gQi g (fun (z : Int) (w : gS) => I = w.1 ∧ R = w.2.1 ∧ J = w.2.2.1 ∧ AI = w.2.2.2.1 ∧ AJ = w.2.2.2.2.1 ∧ AR = w.2.2.2.2.2 ∧ (0 ≤ z ∧ z ≤ 3))) := by
  refine gStart (cc := cX7_farOf) (maxL := 4) (ret := (some (.int))) (by decide) rfl (Nat.le_of_ble_eq_true rfl) ?_
  intro p e s m below meth c ls F hr hlk hH hz hS hl
  have hl : lv_has ls 4 [(0, .ref mo), (1, .int (iI rr))] := hl
  have hS : va_S (gA g) s.heap s.heap [] := hS
  obtain ⟨H, hHe⟩ : ∃ H : Heap, H = s.heap := ⟨_, rfl⟩
  obtain ⟨locs, hlo⟩ : ∃ k : List Loc, k = [] := ⟨_, rfl⟩
  have hH : gH g I R J AI AJ AR H := by rw [hHe]; exact hH
  have hS : va_S (gA g) s.heap H locs := by rw [hHe, hlo]; exact hS
  suffices hw : W p l e rmX7_farOf3 s m ([.ref mo, .int (iI rr)] : List Value).toArray below meth c H locs 0 0 (MQ below (gQi g (fun (z : Int) (w : gS) => I = w.1 ∧ R = w.2.1 ∧ J = w.2.2.1 ∧ AI = w.2.2.2.1 ∧ AJ = w.2.2.2.2.1 ∧ AR = w.2.2.2.2.2 ∧ (0 ≤ z ∧ z ≤ 3))) ([.ref mo, .int (iI rr)] : List Value).toArray s 0 0 (gA g)) (F0 m 0 ls []) by
    rw [hHe, hlo] at hw; exact hw
  clear hHe hlo
  have hb0 := mJ hv hm
  unfold mNum1 at hb0
  have x := mRow hv hm hT (z := rr) (by omega) (by omega)
  have xa := x.1
  have xc := x.2.2.1
  have xb := x.2.1
  refine lv_aload_n F.1 F.2.1 dX7_farOf_0 rfl (lv_at hl 0 rfl) ?_
  refine lv_iload_n F.1 F.2.1 dX7_farOf_1 rfl (lv_at hl 1 rfl) ?_
  have b_1 := mJ hv hm
  unfold mNum1 at b_1
  refine g_calli (g_runV (As := [.int (iI rr)]) (rest := []) (ci := 7) F hl.1 hH hS hz (c_X7_kindOf l g gh T I R J AI AJ AR mo rr zrr hv hm hT (by omega)) (cwV 1 F.2.2.2.2.1 (good_up gT_X7_kindOf) rfl rfl rfl hdX7_kindOf ⟨Nat.le_of_ble_eq_true rfl, Nat.le_of_ble_eq_true rfl⟩) hm (by decide) rfl rfl rfl (Nat.le_of_ble_eq_true rfl) dX7_farOf_2 ⟨Nat.zero_le _, Nat.zero_le _⟩) hS (fun v_8 I_2 R_3 J_4 AI_5 AJ_6 AR_7 H locs zv_8 hp_9 hH hS => ?_)
  dsimp only at hp_9
  obtain ⟨rfl, rfl, rfl, rfl, rfl, rfl, q_10⟩ := hp_9
  refine z_if_ne (tgt := 10) F dX7_farOf_5 (by decide) zv_8 (fun c_11 => ?_) (fun c_11 => ?_)
  · refine lv_aload_n F.1 F.2.1 dX7_farOf_10 rfl (lv_at hl 0 rfl) ?_
    refine lv_aload_n F.1 F.2.1 dX7_farOf_11 rfl (lv_at hl 0 rfl) ?_
    refine lv_iload_n F.1 F.2.1 dX7_farOf_12 rfl (lv_at hl 1 rfl) ?_
    refine g_calli (g_runV (As := [.int (iI rr)]) (rest := [.ref mo]) (ci := 7) F hl.1 hH hS hz (c_X7_firstOf l g gh T I R J AI AJ AR mo rr zrr hv hm hT (by omega)) (cwV 1 F.2.2.2.2.1 (good_up gT_X7_firstOf) rfl rfl rfl hdX7_firstOf ⟨Nat.le_of_ble_eq_true rfl, Nat.le_of_ble_eq_true rfl⟩) hm (by decide) rfl rfl rfl (Nat.le_of_ble_eq_true rfl) dX7_farOf_13 ⟨Nat.zero_le _, Nat.zero_le _⟩) hS (fun v_18 I_12 R_13 J_14 AI_15 AJ_16 AR_17 H locs zv_18 hp_19 hH hS => ?_)
    dsimp only at hp_19
    obtain ⟨rfl, rfl, rfl, rfl, rfl, rfl, q_20⟩ := hp_19
    refine g_calli (g_runV (As := [.int (iI v_18)]) (rest := []) (ci := 7) F hl.1 hH hS hz (c_X7_farOf2 l g gh T I R J AI AJ AR mo v_18 zv_18 hv hm hT (by omega)) (cwV 1 F.2.2.2.2.1 (good_up gT_X7_farOf) rfl rfl rfl hdX7_farOf ⟨Nat.le_of_ble_eq_true rfl, Nat.le_of_ble_eq_true rfl⟩) hm (by decide) rfl rfl rfl (Nat.le_of_ble_eq_true rfl) dX7_farOf_16 ⟨Nat.zero_le _, Nat.zero_le _⟩) hS (fun v_27 I_21 R_22 J_23 AI_24 AJ_25 AR_26 H locs zv_27 hp_28 hH hS => ?_)
    dsimp only at hp_28
    obtain ⟨rfl, rfl, rfl, rfl, rfl, rfl, q_29⟩ := hp_28
    refine lv_istore_n (lv' := [(2, .int (iI v_27)), (0, .ref mo), (1, .int (iI rr))]) F.1 F.2.1 dX7_farOf_19 rfl hl (by decide) rfl (fun ls hl => ?_)
    refine lv_aload_n F.1 F.2.1 dX7_farOf_20 rfl (lv_at hl 1 rfl) ?_
    refine lv_iload_n F.1 F.2.1 dX7_farOf_21 rfl (lv_at hl 2 rfl) ?_
    refine g_calli (g_runV (As := [.int (iI rr)]) (rest := []) (ci := 7) F hl.1 hH hS hz (c_X7_secondOf l g gh T I R J AI AJ AR mo rr zrr hv hm hT (by omega)) (cwV 1 F.2.2.2.2.1 (good_up gT_X7_secondOf) rfl rfl rfl hdX7_secondOf ⟨Nat.le_of_ble_eq_true rfl, Nat.le_of_ble_eq_true rfl⟩) hm (by decide) rfl rfl rfl (Nat.le_of_ble_eq_true rfl) dX7_farOf_22 ⟨Nat.zero_le _, Nat.zero_le _⟩) hS (fun v_36 I_30 R_31 J_32 AI_33 AJ_34 AR_35 H locs zv_36 hp_37 hH hS => ?_)
    dsimp only at hp_37
    obtain ⟨rfl, rfl, rfl, rfl, rfl, rfl, q_38⟩ := hp_37
    refine z_if_ge (tgt := 32) F dX7_farOf_25 (by decide) zv_36 (fun c_39 => ?_) (fun c_39 => ?_)
    · refine lv_aload_n F.1 F.2.1 dX7_farOf_32 rfl (lv_at hl 1 rfl) ?_
      refine lv_aload_n F.1 F.2.1 dX7_farOf_33 rfl (lv_at hl 1 rfl) ?_
      refine lv_iload_n F.1 F.2.1 dX7_farOf_34 rfl (lv_at hl 2 rfl) ?_
      refine g_calli (g_runV (As := [.int (iI rr)]) (rest := [.ref mo]) (ci := 7) F hl.1 hH hS hz (c_X7_secondOf l g gh T I R J AI AJ AR mo rr zrr hv hm hT (by omega)) (cwV 1 F.2.2.2.2.1 (good_up gT_X7_secondOf) rfl rfl rfl hdX7_secondOf ⟨Nat.le_of_ble_eq_true rfl, Nat.le_of_ble_eq_true rfl⟩) hm (by decide) rfl rfl rfl (Nat.le_of_ble_eq_true rfl) dX7_farOf_35 ⟨Nat.zero_le _, Nat.zero_le _⟩) hS (fun v_46 I_40 R_41 J_42 AI_43 AJ_44 AR_45 H locs zv_46 hp_47 hH hS => ?_)
      dsimp only at hp_47
      obtain ⟨rfl, rfl, rfl, rfl, rfl, rfl, q_48⟩ := hp_47
      refine g_calli (g_runV (As := [.int (iI v_46)]) (rest := []) (ci := 7) F hl.1 hH hS hz (c_X7_farOf2 l g gh T I R J AI AJ AR mo v_46 zv_46 hv hm hT (by omega)) (cwV 1 F.2.2.2.2.1 (good_up gT_X7_farOf) rfl rfl rfl hdX7_farOf ⟨Nat.le_of_ble_eq_true rfl, Nat.le_of_ble_eq_true rfl⟩) hm (by decide) rfl rfl rfl (Nat.le_of_ble_eq_true rfl) dX7_farOf_38 ⟨Nat.zero_le _, Nat.zero_le _⟩) hS (fun v_55 I_49 R_50 J_51 AI_52 AJ_53 AR_54 H locs zv_55 hp_56 hH hS => ?_)
      dsimp only at hp_56
      obtain ⟨rfl, rfl, rfl, rfl, rfl, rfl, q_57⟩ := hp_56
      refine lv_istore_n (lv' := [(3, .int (iI v_55)), (2, .int (iI v_27)), (0, .ref mo), (1, .int (iI rr))]) F.1 F.2.1 dX7_farOf_41 rfl hl (by decide) rfl (fun ls hl => ?_)
      refine z_iconst F dX7_farOf_42 ?_
      refine lv_iload_n F.1 F.2.1 dX7_farOf_43 rfl (lv_at hl 1 rfl) ?_
      refine lv_iload_n F.1 F.2.1 dX7_farOf_44 rfl (lv_at hl 0 rfl) ?_
      refine z_icmp_le (tgt := 52) F dX7_farOf_45 (by decide) zv_27 zv_55 (fun c_58 => ?_) (fun c_58 => ?_)
      · refine lv_iload_n F.1 F.2.1 dX7_farOf_52 rfl (lv_at hl 0 rfl) ?_
        refine z_iadd F dX7_farOf_53 ?_
        exact g_iret F hr hlk hH hS hz ⟨by omega, by omega⟩ ⟨rfl, rfl, rfl, rfl, rfl, rfl, by first | omega | rfl | (dsimp only; omega)⟩ dX7_farOf_54
      · refine lv_iload_n F.1 F.2.1 dX7_farOf_48 rfl (lv_at hl 1 rfl) ?_
        refine z_goto (tgt := 53) F dX7_farOf_49 (by decide) ?_
        refine z_iadd F dX7_farOf_53 ?_
        exact g_iret F hr hlk hH hS hz ⟨by omega, by omega⟩ ⟨rfl, rfl, rfl, rfl, rfl, rfl, by first | omega | rfl | (dsimp only; omega)⟩ dX7_farOf_54
    · refine z_iconst F dX7_farOf_28 ?_
      refine z_goto (tgt := 41) F dX7_farOf_29 (by decide) ?_
      refine lv_istore_n (lv' := [(3, .int (iI 0)), (2, .int (iI v_27)), (0, .ref mo), (1, .int (iI rr))]) F.1 F.2.1 dX7_farOf_41 rfl hl (by decide) rfl (fun ls hl => ?_)
      refine z_iconst F dX7_farOf_42 ?_
      refine lv_iload_n F.1 F.2.1 dX7_farOf_43 rfl (lv_at hl 1 rfl) ?_
      refine lv_iload_n F.1 F.2.1 dX7_farOf_44 rfl (lv_at hl 0 rfl) ?_
      refine z_icmp_le (tgt := 52) F dX7_farOf_45 (by decide) zv_27 ⟨by decide, by decide⟩ (fun c_59 => ?_) (fun c_59 => ?_)
      · refine lv_iload_n F.1 F.2.1 dX7_farOf_52 rfl (lv_at hl 0 rfl) ?_
        refine z_iadd F dX7_farOf_53 ?_
        exact g_iret F hr hlk hH hS hz ⟨by omega, by omega⟩ ⟨rfl, rfl, rfl, rfl, rfl, rfl, by first | omega | rfl | (dsimp only; omega)⟩ dX7_farOf_54
      · refine lv_iload_n F.1 F.2.1 dX7_farOf_48 rfl (lv_at hl 1 rfl) ?_
        refine z_goto (tgt := 53) F dX7_farOf_49 (by decide) ?_
        refine z_iadd F dX7_farOf_53 ?_
        exact g_iret F hr hlk hH hS hz ⟨by omega, by omega⟩ ⟨rfl, rfl, rfl, rfl, rfl, rfl, by first | omega | rfl | (dsimp only; omega)⟩ dX7_farOf_54
  · refine z_iconst F dX7_farOf_8 ?_
    exact g_iret F hr hlk hH hS hz ⟨by decide, by decide⟩ ⟨rfl, rfl, rfl, rfl, rfl, rfl, by first | omega | rfl | (dsimp only; omega)⟩ dX7_farOf_9

def rmX7_farOf4 : Room := { frames := 4, cells := 0, slots := 0, locals := 90 }
set_option maxHeartbeats 4000000 in
set_option maxRecDepth 100000 in
/-- farOf -/
theorem c_X7_farOf4 (l : Launch) (g : gG) (gh : gGh) (T : Nat → Int32) (I : gI) (R : gR) (J : gJ) (AI : gI) (AJ : gJ) (AR : gR) (mo : Nat) (rr : Int) (zrr : zr rr) (hv : mInv g gh R I AI) (hm : gO g mo 7) (hT : AI (gh 50 0) = T) (hr0 : 0 ≤ rr ∧ rr < (I mo 2).toInt ∧ rr < 4) : gMet l g yX7_farOf tsX7_farOf rmX7_farOf4 [.ref mo, .int (iI rr)] (I, R, J, AI, AJ, AR) (gQi g (fun (z : Int) (w : gS) => I = w.1 ∧ R = w.2.1 ∧ J = w.2.2.1 ∧ AI = w.2.2.2.1 ∧ AJ = w.2.2.2.2.1 ∧ AR = w.2.2.2.2.2 ∧ (0 ≤ z ∧ z ≤ 4))) := by
  refine gStart (cc := cX7_farOf) (maxL := 4) (ret := (some (.int))) (by decide) rfl (Nat.le_of_ble_eq_true rfl) ?_
  intro p e s m below meth c ls F hr hlk hH hz hS hl
  have hl : lv_has ls 4 [(0, .ref mo), (1, .int (iI rr))] := hl
  have hS : va_S (gA g) s.heap s.heap [] := hS
  obtain ⟨H, hHe⟩ : ∃ H : Heap, H = s.heap := ⟨_, rfl⟩
  obtain ⟨locs, hlo⟩ : ∃ k : List Loc, k = [] := ⟨_, rfl⟩
  have hH : gH g I R J AI AJ AR H := by rw [hHe]; exact hH
  have hS : va_S (gA g) s.heap H locs := by rw [hHe, hlo]; exact hS
  suffices hw : W p l e rmX7_farOf4 s m ([.ref mo, .int (iI rr)] : List Value).toArray below meth c H locs 0 0 (MQ below (gQi g (fun (z : Int) (w : gS) => I = w.1 ∧ R = w.2.1 ∧ J = w.2.2.1 ∧ AI = w.2.2.2.1 ∧ AJ = w.2.2.2.2.1 ∧ AR = w.2.2.2.2.2 ∧ (0 ≤ z ∧ z ≤ 4))) ([.ref mo, .int (iI rr)] : List Value).toArray s 0 0 (gA g)) (F0 m 0 ls []) by
    rw [hHe, hlo] at hw; exact hw
  clear hHe hlo
  have hb0 := mJ hv hm
  unfold mNum1 at hb0
  have x := mRow hv hm hT (z := rr) (by omega) (by omega)
  have xa := x.1
  have xc := x.2.2.1
  have xb := x.2.1
  refine lv_aload_n F.1 F.2.1 dX7_farOf_0 rfl (lv_at hl 0 rfl) ?_
  refine lv_iload_n F.1 F.2.1 dX7_farOf_1 rfl (lv_at hl 1 rfl) ?_
  have b_1 := mJ hv hm
  unfold mNum1 at b_1
  refine g_calli (g_runV (As := [.int (iI rr)]) (rest := []) (ci := 7) F hl.1 hH hS hz (c_X7_kindOf l g gh T I R J AI AJ AR mo rr zrr hv hm hT (by omega)) (cwV 1 F.2.2.2.2.1 (good_up gT_X7_kindOf) rfl rfl rfl hdX7_kindOf ⟨Nat.le_of_ble_eq_true rfl, Nat.le_of_ble_eq_true rfl⟩) hm (by decide) rfl rfl rfl (Nat.le_of_ble_eq_true rfl) dX7_farOf_2 ⟨Nat.zero_le _, Nat.zero_le _⟩) hS (fun v_8 I_2 R_3 J_4 AI_5 AJ_6 AR_7 H locs zv_8 hp_9 hH hS => ?_)
  dsimp only at hp_9
  obtain ⟨rfl, rfl, rfl, rfl, rfl, rfl, q_10⟩ := hp_9
  refine z_if_ne (tgt := 10) F dX7_farOf_5 (by decide) zv_8 (fun c_11 => ?_) (fun c_11 => ?_)
  · refine lv_aload_n F.1 F.2.1 dX7_farOf_10 rfl (lv_at hl 0 rfl) ?_
    refine lv_aload_n F.1 F.2.1 dX7_farOf_11 rfl (lv_at hl 0 rfl) ?_
    refine lv_iload_n F.1 F.2.1 dX7_farOf_12 rfl (lv_at hl 1 rfl) ?_
    refine g_calli (g_runV (As := [.int (iI rr)]) (rest := [.ref mo]) (ci := 7) F hl.1 hH hS hz (c_X7_firstOf l g gh T I R J AI AJ AR mo rr zrr hv hm hT (by omega)) (cwV 1 F.2.2.2.2.1 (good_up gT_X7_firstOf) rfl rfl rfl hdX7_firstOf ⟨Nat.le_of_ble_eq_true rfl, Nat.le_of_ble_eq_true rfl⟩) hm (by decide) rfl rfl rfl (Nat.le_of_ble_eq_true rfl) dX7_farOf_13 ⟨Nat.zero_le _, Nat.zero_le _⟩) hS (fun v_18 I_12 R_13 J_14 AI_15 AJ_16 AR_17 H locs zv_18 hp_19 hH hS => ?_)
    dsimp only at hp_19
    obtain ⟨rfl, rfl, rfl, rfl, rfl, rfl, q_20⟩ := hp_19
    refine g_calli (g_runV (As := [.int (iI v_18)]) (rest := []) (ci := 7) F hl.1 hH hS hz (c_X7_farOf3 l g gh T I R J AI AJ AR mo v_18 zv_18 hv hm hT (by omega)) (cwV 1 F.2.2.2.2.1 (good_up gT_X7_farOf) rfl rfl rfl hdX7_farOf ⟨Nat.le_of_ble_eq_true rfl, Nat.le_of_ble_eq_true rfl⟩) hm (by decide) rfl rfl rfl (Nat.le_of_ble_eq_true rfl) dX7_farOf_16 ⟨Nat.zero_le _, Nat.zero_le _⟩) hS (fun v_27 I_21 R_22 J_23 AI_24 AJ_25 AR_26 H locs zv_27 hp_28 hH hS => ?_)
    dsimp only at hp_28
    obtain ⟨rfl, rfl, rfl, rfl, rfl, rfl, q_29⟩ := hp_28
    refine lv_istore_n (lv' := [(2, .int (iI v_27)), (0, .ref mo), (1, .int (iI rr))]) F.1 F.2.1 dX7_farOf_19 rfl hl (by decide) rfl (fun ls hl => ?_)
    refine lv_aload_n F.1 F.2.1 dX7_farOf_20 rfl (lv_at hl 1 rfl) ?_
    refine lv_iload_n F.1 F.2.1 dX7_farOf_21 rfl (lv_at hl 2 rfl) ?_
    refine g_calli (g_runV (As := [.int (iI rr)]) (rest := []) (ci := 7) F hl.1 hH hS hz (c_X7_secondOf l g gh T I R J AI AJ AR mo rr zrr hv hm hT (by omega)) (cwV 1 F.2.2.2.2.1 (good_up gT_X7_secondOf) rfl rfl rfl hdX7_secondOf ⟨Nat.le_of_ble_eq_true rfl, Nat.le_of_ble_eq_true rfl⟩) hm (by decide) rfl rfl rfl (Nat.le_of_ble_eq_true rfl) dX7_farOf_22 ⟨Nat.zero_le _, Nat.zero_le _⟩) hS (fun v_36 I_30 R_31 J_32 AI_33 AJ_34 AR_35 H locs zv_36 hp_37 hH hS => ?_)
    dsimp only at hp_37
    obtain ⟨rfl, rfl, rfl, rfl, rfl, rfl, q_38⟩ := hp_37
    refine z_if_ge (tgt := 32) F dX7_farOf_25 (by decide) zv_36 (fun c_39 => ?_) (fun c_39 => ?_)
    · refine lv_aload_n F.1 F.2.1 dX7_farOf_32 rfl (lv_at hl 1 rfl) ?_
      refine lv_aload_n F.1 F.2.1 dX7_farOf_33 rfl (lv_at hl 1 rfl) ?_
      refine lv_iload_n F.1 F.2.1 dX7_farOf_34 rfl (lv_at hl 2 rfl) ?_
      refine g_calli (g_runV (As := [.int (iI rr)]) (rest := [.ref mo]) (ci := 7) F hl.1 hH hS hz (c_X7_secondOf l g gh T I R J AI AJ AR mo rr zrr hv hm hT (by omega)) (cwV 1 F.2.2.2.2.1 (good_up gT_X7_secondOf) rfl rfl rfl hdX7_secondOf ⟨Nat.le_of_ble_eq_true rfl, Nat.le_of_ble_eq_true rfl⟩) hm (by decide) rfl rfl rfl (Nat.le_of_ble_eq_true rfl) dX7_farOf_35 ⟨Nat.zero_le _, Nat.zero_le _⟩) hS (fun v_46 I_40 R_41 J_42 AI_43 AJ_44 AR_45 H locs zv_46 hp_47 hH hS => ?_)
      dsimp only at hp_47
      obtain ⟨rfl, rfl, rfl, rfl, rfl, rfl, q_48⟩ := hp_47
      refine g_calli (g_runV (As := [.int (iI v_46)]) (rest := []) (ci := 7) F hl.1 hH hS hz (c_X7_farOf3 l g gh T I R J AI AJ AR mo v_46 zv_46 hv hm hT (by omega)) (cwV 1 F.2.2.2.2.1 (good_up gT_X7_farOf) rfl rfl rfl hdX7_farOf ⟨Nat.le_of_ble_eq_true rfl, Nat.le_of_ble_eq_true rfl⟩) hm (by decide) rfl rfl rfl (Nat.le_of_ble_eq_true rfl) dX7_farOf_38 ⟨Nat.zero_le _, Nat.zero_le _⟩) hS (fun v_55 I_49 R_50 J_51 AI_52 AJ_53 AR_54 H locs zv_55 hp_56 hH hS => ?_)
      dsimp only at hp_56
      obtain ⟨rfl, rfl, rfl, rfl, rfl, rfl, q_57⟩ := hp_56
      refine lv_istore_n (lv' := [(3, .int (iI v_55)), (2, .int (iI v_27)), (0, .ref mo), (1, .int (iI rr))]) F.1 F.2.1 dX7_farOf_41 rfl hl (by decide) rfl (fun ls hl => ?_)
      refine z_iconst F dX7_farOf_42 ?_
      refine lv_iload_n F.1 F.2.1 dX7_farOf_43 rfl (lv_at hl 1 rfl) ?_
      refine lv_iload_n F.1 F.2.1 dX7_farOf_44 rfl (lv_at hl 0 rfl) ?_
      refine z_icmp_le (tgt := 52) F dX7_farOf_45 (by decide) zv_27 zv_55 (fun c_58 => ?_) (fun c_58 => ?_)
      · refine lv_iload_n F.1 F.2.1 dX7_farOf_52 rfl (lv_at hl 0 rfl) ?_
        refine z_iadd F dX7_farOf_53 ?_
        exact g_iret F hr hlk hH hS hz ⟨by omega, by omega⟩ ⟨rfl, rfl, rfl, rfl, rfl, rfl, by first | omega | rfl | (dsimp only; omega)⟩ dX7_farOf_54
      · refine lv_iload_n F.1 F.2.1 dX7_farOf_48 rfl (lv_at hl 1 rfl) ?_
        refine z_goto (tgt := 53) F dX7_farOf_49 (by decide) ?_
        refine z_iadd F dX7_farOf_53 ?_
        exact g_iret F hr hlk hH hS hz ⟨by omega, by omega⟩ ⟨rfl, rfl, rfl, rfl, rfl, rfl, by first | omega | rfl | (dsimp only; omega)⟩ dX7_farOf_54
    · refine z_iconst F dX7_farOf_28 ?_
      refine z_goto (tgt := 41) F dX7_farOf_29 (by decide) ?_
      refine lv_istore_n (lv' := [(3, .int (iI 0)), (2, .int (iI v_27)), (0, .ref mo), (1, .int (iI rr))]) F.1 F.2.1 dX7_farOf_41 rfl hl (by decide) rfl (fun ls hl => ?_)
      refine z_iconst F dX7_farOf_42 ?_
      refine lv_iload_n F.1 F.2.1 dX7_farOf_43 rfl (lv_at hl 1 rfl) ?_
      refine lv_iload_n F.1 F.2.1 dX7_farOf_44 rfl (lv_at hl 0 rfl) ?_
      refine z_icmp_le (tgt := 52) F dX7_farOf_45 (by decide) zv_27 ⟨by decide, by decide⟩ (fun c_59 => ?_) (fun c_59 => ?_)
      · refine lv_iload_n F.1 F.2.1 dX7_farOf_52 rfl (lv_at hl 0 rfl) ?_
        refine z_iadd F dX7_farOf_53 ?_
        exact g_iret F hr hlk hH hS hz ⟨by omega, by omega⟩ ⟨rfl, rfl, rfl, rfl, rfl, rfl, by first | omega | rfl | (dsimp only; omega)⟩ dX7_farOf_54
      · refine lv_iload_n F.1 F.2.1 dX7_farOf_48 rfl (lv_at hl 1 rfl) ?_
        refine z_goto (tgt := 53) F dX7_farOf_49 (by decide) ?_
        refine z_iadd F dX7_farOf_53 ?_
        exact g_iret F hr hlk hH hS hz ⟨by omega, by omega⟩ ⟨rfl, rfl, rfl, rfl, rfl, rfl, by first | omega | rfl | (dsimp only; omega)⟩ dX7_farOf_54
  · refine z_iconst F dX7_farOf_8 ?_
    exact g_iret F hr hlk hH hS hz ⟨by decide, by decide⟩ ⟨rfl, rfl, rfl, rfl, rfl, rfl, by first | omega | rfl | (dsimp only; omega)⟩ dX7_farOf_9

def rmX7_farOf5 : Room := { frames := 5, cells := 0, slots := 0, locals := 113 }
set_option maxHeartbeats 4000000 in
set_option maxRecDepth 100000 in
/-- farOf -/
theorem c_X7_farOf5 (l : Launch) (g : gG) (gh : gGh) (T : Nat → Int32) (I : gI) (R : gR) (J : gJ) (AI : gI) (AJ : gJ) (AR : gR) (mo : Nat) (rr : Int) (zrr : zr rr) (hv : mInv g gh R I AI) (hm : gO g mo 7) (hT : AI (gh 50 0) = T) (hr0 : 0 ≤ rr ∧ rr < (I mo 2).toInt ∧ rr < 5) : gMet l g yX7_farOf tsX7_farOf rmX7_farOf5 [.ref mo, .int (iI rr)] (I, R, J, AI, AJ, AR) (gQi g (fun (z : Int) (w : gS) => I = w.1 ∧ R = w.2.1 ∧ J = w.2.2.1 ∧ AI = w.2.2.2.1 ∧ AJ = w.2.2.2.2.1 ∧ AR = w.2.2.2.2.2 ∧ (0 ≤ z ∧ z ≤ 5))) := by
  refine gStart (cc := cX7_farOf) (maxL := 4) (ret := (some (.int))) (by decide) rfl (Nat.le_of_ble_eq_true rfl) ?_
  intro p e s m below meth c ls F hr hlk hH hz hS hl
  have hl : lv_has ls 4 [(0, .ref mo), (1, .int (iI rr))] := hl
  have hS : va_S (gA g) s.heap s.heap [] := hS
  obtain ⟨H, hHe⟩ : ∃ H : Heap, H = s.heap := ⟨_, rfl⟩
  obtain ⟨locs, hlo⟩ : ∃ k : List Loc, k = [] := ⟨_, rfl⟩
  have hH : gH g I R J AI AJ AR H := by rw [hHe]; exact hH
  have hS : va_S (gA g) s.heap H locs := by rw [hHe, hlo]; exact hS
  suffices hw : W p l e rmX7_farOf5 s m ([.ref mo, .int (iI rr)] : List Value).toArray below meth c H locs 0 0 (MQ below (gQi g (fun (z : Int) (w : gS) => I = w.1 ∧ R = w.2.1 ∧ J = w.2.2.1 ∧ AI = w.2.2.2.1 ∧ AJ = w.2.2.2.2.1 ∧ AR = w.2.2.2.2.2 ∧ (0 ≤ z ∧ z ≤ 5))) ([.ref mo, .int (iI rr)] : List Value).toArray s 0 0 (gA g)) (F0 m 0 ls []) by
    rw [hHe, hlo] at hw; exact hw
  clear hHe hlo
  have hb0 := mJ hv hm
  unfold mNum1 at hb0
  have x := mRow hv hm hT (z := rr) (by omega) (by omega)
  have xa := x.1
  have xc := x.2.2.1
  have xb := x.2.1
  refine lv_aload_n F.1 F.2.1 dX7_farOf_0 rfl (lv_at hl 0 rfl) ?_
  refine lv_iload_n F.1 F.2.1 dX7_farOf_1 rfl (lv_at hl 1 rfl) ?_
  have b_1 := mJ hv hm
  unfold mNum1 at b_1
  refine g_calli (g_runV (As := [.int (iI rr)]) (rest := []) (ci := 7) F hl.1 hH hS hz (c_X7_kindOf l g gh T I R J AI AJ AR mo rr zrr hv hm hT (by omega)) (cwV 1 F.2.2.2.2.1 (good_up gT_X7_kindOf) rfl rfl rfl hdX7_kindOf ⟨Nat.le_of_ble_eq_true rfl, Nat.le_of_ble_eq_true rfl⟩) hm (by decide) rfl rfl rfl (Nat.le_of_ble_eq_true rfl) dX7_farOf_2 ⟨Nat.zero_le _, Nat.zero_le _⟩) hS (fun v_8 I_2 R_3 J_4 AI_5 AJ_6 AR_7 H locs zv_8 hp_9 hH hS => ?_)
  dsimp only at hp_9
  obtain ⟨rfl, rfl, rfl, rfl, rfl, rfl, q_10⟩ := hp_9
  refine z_if_ne (tgt := 10) F dX7_farOf_5 (by decide) zv_8 (fun c_11 => ?_) (fun c_11 => ?_)
  · refine lv_aload_n F.1 F.2.1 dX7_farOf_10 rfl (lv_at hl 0 rfl) ?_
    refine lv_aload_n F.1 F.2.1 dX7_farOf_11 rfl (lv_at hl 0 rfl) ?_
    refine lv_iload_n F.1 F.2.1 dX7_farOf_12 rfl (lv_at hl 1 rfl) ?_
    refine g_calli (g_runV (As := [.int (iI rr)]) (rest := [.ref mo]) (ci := 7) F hl.1 hH hS hz (c_X7_firstOf l g gh T I R J AI AJ AR mo rr zrr hv hm hT (by omega)) (cwV 1 F.2.2.2.2.1 (good_up gT_X7_firstOf) rfl rfl rfl hdX7_firstOf ⟨Nat.le_of_ble_eq_true rfl, Nat.le_of_ble_eq_true rfl⟩) hm (by decide) rfl rfl rfl (Nat.le_of_ble_eq_true rfl) dX7_farOf_13 ⟨Nat.zero_le _, Nat.zero_le _⟩) hS (fun v_18 I_12 R_13 J_14 AI_15 AJ_16 AR_17 H locs zv_18 hp_19 hH hS => ?_)
    dsimp only at hp_19
    obtain ⟨rfl, rfl, rfl, rfl, rfl, rfl, q_20⟩ := hp_19
    refine g_calli (g_runV (As := [.int (iI v_18)]) (rest := []) (ci := 7) F hl.1 hH hS hz (c_X7_farOf4 l g gh T I R J AI AJ AR mo v_18 zv_18 hv hm hT (by omega)) (cwV 1 F.2.2.2.2.1 (good_up gT_X7_farOf) rfl rfl rfl hdX7_farOf ⟨Nat.le_of_ble_eq_true rfl, Nat.le_of_ble_eq_true rfl⟩) hm (by decide) rfl rfl rfl (Nat.le_of_ble_eq_true rfl) dX7_farOf_16 ⟨Nat.zero_le _, Nat.zero_le _⟩) hS (fun v_27 I_21 R_22 J_23 AI_24 AJ_25 AR_26 H locs zv_27 hp_28 hH hS => ?_)
    dsimp only at hp_28
    obtain ⟨rfl, rfl, rfl, rfl, rfl, rfl, q_29⟩ := hp_28
    refine lv_istore_n (lv' := [(2, .int (iI v_27)), (0, .ref mo), (1, .int (iI rr))]) F.1 F.2.1 dX7_farOf_19 rfl hl (by decide) rfl (fun ls hl => ?_)
    refine lv_aload_n F.1 F.2.1 dX7_farOf_20 rfl (lv_at hl 1 rfl) ?_
    refine lv_iload_n F.1 F.2.1 dX7_farOf_21 rfl (lv_at hl 2 rfl) ?_
    refine g_calli (g_runV (As := [.int (iI rr)]) (rest := []) (ci := 7) F hl.1 hH hS hz (c_X7_secondOf l g gh T I R J AI AJ AR mo rr zrr hv hm hT (by omega)) (cwV 1 F.2.2.2.2.1 (good_up gT_X7_secondOf) rfl rfl rfl hdX7_secondOf ⟨Nat.le_of_ble_eq_true rfl, Nat.le_of_ble_eq_true rfl⟩) hm (by decide) rfl rfl rfl (Nat.le_of_ble_eq_true rfl) dX7_farOf_22 ⟨Nat.zero_le _, Nat.zero_le _⟩) hS (fun v_36 I_30 R_31 J_32 AI_33 AJ_34 AR_35 H locs zv_36 hp_37 hH hS => ?_)
    dsimp only at hp_37
    obtain ⟨rfl, rfl, rfl, rfl, rfl, rfl, q_38⟩ := hp_37
    refine z_if_ge (tgt := 32) F dX7_farOf_25 (by decide) zv_36 (fun c_39 => ?_) (fun c_39 => ?_)
    · refine lv_aload_n F.1 F.2.1 dX7_farOf_32 rfl (lv_at hl 1 rfl) ?_
      refine lv_aload_n F.1 F.2.1 dX7_farOf_33 rfl (lv_at hl 1 rfl) ?_
      refine lv_iload_n F.1 F.2.1 dX7_farOf_34 rfl (lv_at hl 2 rfl) ?_
      refine g_calli (g_runV (As := [.int (iI rr)]) (rest := [.ref mo]) (ci := 7) F hl.1 hH hS hz (c_X7_secondOf l g gh T I R J AI AJ AR mo rr zrr hv hm hT (by omega)) (cwV 1 F.2.2.2.2.1 (good_up gT_X7_secondOf) rfl rfl rfl hdX7_secondOf ⟨Nat.le_of_ble_eq_true rfl, Nat.le_of_ble_eq_true rfl⟩) hm (by decide) rfl rfl rfl (Nat.le_of_ble_eq_true rfl) dX7_farOf_35 ⟨Nat.zero_le _, Nat.zero_le _⟩) hS (fun v_46 I_40 R_41 J_42 AI_43 AJ_44 AR_45 H locs zv_46 hp_47 hH hS => ?_)
      dsimp only at hp_47
      obtain ⟨rfl, rfl, rfl, rfl, rfl, rfl, q_48⟩ := hp_47
      refine g_calli (g_runV (As := [.int (iI v_46)]) (rest := []) (ci := 7) F hl.1 hH hS hz (c_X7_farOf4 l g gh T I R J AI AJ AR mo v_46 zv_46 hv hm hT (by omega)) (cwV 1 F.2.2.2.2.1 (good_up gT_X7_farOf) rfl rfl rfl hdX7_farOf ⟨Nat.le_of_ble_eq_true rfl, Nat.le_of_ble_eq_true rfl⟩) hm (by decide) rfl rfl rfl (Nat.le_of_ble_eq_true rfl) dX7_farOf_38 ⟨Nat.zero_le _, Nat.zero_le _⟩) hS (fun v_55 I_49 R_50 J_51 AI_52 AJ_53 AR_54 H locs zv_55 hp_56 hH hS => ?_)
      dsimp only at hp_56
      obtain ⟨rfl, rfl, rfl, rfl, rfl, rfl, q_57⟩ := hp_56
      refine lv_istore_n (lv' := [(3, .int (iI v_55)), (2, .int (iI v_27)), (0, .ref mo), (1, .int (iI rr))]) F.1 F.2.1 dX7_farOf_41 rfl hl (by decide) rfl (fun ls hl => ?_)
      refine z_iconst F dX7_farOf_42 ?_
      refine lv_iload_n F.1 F.2.1 dX7_farOf_43 rfl (lv_at hl 1 rfl) ?_
      refine lv_iload_n F.1 F.2.1 dX7_farOf_44 rfl (lv_at hl 0 rfl) ?_
      refine z_icmp_le (tgt := 52) F dX7_farOf_45 (by decide) zv_27 zv_55 (fun c_58 => ?_) (fun c_58 => ?_)
      · refine lv_iload_n F.1 F.2.1 dX7_farOf_52 rfl (lv_at hl 0 rfl) ?_
        refine z_iadd F dX7_farOf_53 ?_
        exact g_iret F hr hlk hH hS hz ⟨by omega, by omega⟩ ⟨rfl, rfl, rfl, rfl, rfl, rfl, by first | omega | rfl | (dsimp only; omega)⟩ dX7_farOf_54
      · refine lv_iload_n F.1 F.2.1 dX7_farOf_48 rfl (lv_at hl 1 rfl) ?_
        refine z_goto (tgt := 53) F dX7_farOf_49 (by decide) ?_
        refine z_iadd F dX7_farOf_53 ?_
        exact g_iret F hr hlk hH hS hz ⟨by omega, by omega⟩ ⟨rfl, rfl, rfl, rfl, rfl, rfl, by first | omega | rfl | (dsimp only; omega)⟩ dX7_farOf_54
    · refine z_iconst F dX7_farOf_28 ?_
      refine z_goto (tgt := 41) F dX7_farOf_29 (by decide) ?_
      refine lv_istore_n (lv' := [(3, .int (iI 0)), (2, .int (iI v_27)), (0, .ref mo), (1, .int (iI rr))]) F.1 F.2.1 dX7_farOf_41 rfl hl (by decide) rfl (fun ls hl => ?_)
      refine z_iconst F dX7_farOf_42 ?_
      refine lv_iload_n F.1 F.2.1 dX7_farOf_43 rfl (lv_at hl 1 rfl) ?_
      refine lv_iload_n F.1 F.2.1 dX7_farOf_44 rfl (lv_at hl 0 rfl) ?_
      refine z_icmp_le (tgt := 52) F dX7_farOf_45 (by decide) zv_27 ⟨by decide, by decide⟩ (fun c_59 => ?_) (fun c_59 => ?_)
      · refine lv_iload_n F.1 F.2.1 dX7_farOf_52 rfl (lv_at hl 0 rfl) ?_
        refine z_iadd F dX7_farOf_53 ?_
        exact g_iret F hr hlk hH hS hz ⟨by omega, by omega⟩ ⟨rfl, rfl, rfl, rfl, rfl, rfl, by first | omega | rfl | (dsimp only; omega)⟩ dX7_farOf_54
      · refine lv_iload_n F.1 F.2.1 dX7_farOf_48 rfl (lv_at hl 1 rfl) ?_
        refine z_goto (tgt := 53) F dX7_farOf_49 (by decide) ?_
        refine z_iadd F dX7_farOf_53 ?_
        exact g_iret F hr hlk hH hS hz ⟨by omega, by omega⟩ ⟨rfl, rfl, rfl, rfl, rfl, rfl, by first | omega | rfl | (dsimp only; omega)⟩ dX7_farOf_54
  · refine z_iconst F dX7_farOf_8 ?_
    exact g_iret F hr hlk hH hS hz ⟨by decide, by decide⟩ ⟨rfl, rfl, rfl, rfl, rfl, rfl, by first | omega | rfl | (dsimp only; omega)⟩ dX7_farOf_9

def rmX7_farOf6 : Room := { frames := 6, cells := 0, slots := 0, locals := 136 }
set_option maxHeartbeats 4000000 in
set_option maxRecDepth 100000 in
/-- farOf -/
theorem c_X7_farOf6 (l : Launch) (g : gG) (gh : gGh) (T : Nat → Int32) (I : gI) (R : gR) (J : gJ) (AI : gI) (AJ : gJ) (AR : gR) (mo : Nat) (rr : Int) (zrr : zr rr) (hv : mInv g gh R I AI) (hm : gO g mo 7) (hT : AI (gh 50 0) = T) (hr0 : 0 ≤ rr ∧ rr < (I mo 2).toInt ∧ rr < 6) : gMet l g yX7_farOf tsX7_farOf rmX7_farOf6 [.ref mo, .int (iI rr)] (I, R, J, AI, AJ, AR) (gQi g (fun (z : Int) (w : gS) => I = w.1 ∧ R = w.2.1 ∧ J = w.2.2.1 ∧ AI = w.2.2.2.1 ∧ AJ = w.2.2.2.2.1 ∧ AR = w.2.2.2.2.2 ∧ (0 ≤ z ∧ z ≤ 6))) := by
  refine gStart (cc := cX7_farOf) (maxL := 4) (ret := (some (.int))) (by decide) rfl (Nat.le_of_ble_eq_true rfl) ?_
  intro p e s m below meth c ls F hr hlk hH hz hS hl
  have hl : lv_has ls 4 [(0, .ref mo), (1, .int (iI rr))] := hl
  have hS : va_S (gA g) s.heap s.heap [] := hS
  obtain ⟨H, hHe⟩ : ∃ H : Heap, H = s.heap := ⟨_, rfl⟩
  obtain ⟨locs, hlo⟩ : ∃ k : List Loc, k = [] := ⟨_, rfl⟩
  have hH : gH g I R J AI AJ AR H := by rw [hHe]; exact hH
  have hS : va_S (gA g) s.heap H locs := by rw [hHe, hlo]; exact hS
  suffices hw : W p l e rmX7_farOf6 s m ([.ref mo, .int (iI rr)] : List Value).toArray below meth c H locs 0 0 (MQ below (gQi g (fun (z : Int) (w : gS) => I = w.1 ∧ R = w.2.1 ∧ J = w.2.2.1 ∧ AI = w.2.2.2.1 ∧ AJ = w.2.2.2.2.1 ∧ AR = w.2.2.2.2.2 ∧ (0 ≤ z ∧ z ≤ 6))) ([.ref mo, .int (iI rr)] : List Value).toArray s 0 0 (gA g)) (F0 m 0 ls []) by
    rw [hHe, hlo] at hw; exact hw
  clear hHe hlo
  have hb0 := mJ hv hm
  unfold mNum1 at hb0
  have x := mRow hv hm hT (z := rr) (by omega) (by omega)
  have xa := x.1
  have xc := x.2.2.1
  have xb := x.2.1
  refine lv_aload_n F.1 F.2.1 dX7_farOf_0 rfl (lv_at hl 0 rfl) ?_
  refine lv_iload_n F.1 F.2.1 dX7_farOf_1 rfl (lv_at hl 1 rfl) ?_
  have b_1 := mJ hv hm
  unfold mNum1 at b_1
  refine g_calli (g_runV (As := [.int (iI rr)]) (rest := []) (ci := 7) F hl.1 hH hS hz (c_X7_kindOf l g gh T I R J AI AJ AR mo rr zrr hv hm hT (by omega)) (cwV 1 F.2.2.2.2.1 (good_up gT_X7_kindOf) rfl rfl rfl hdX7_kindOf ⟨Nat.le_of_ble_eq_true rfl, Nat.le_of_ble_eq_true rfl⟩) hm (by decide) rfl rfl rfl (Nat.le_of_ble_eq_true rfl) dX7_farOf_2 ⟨Nat.zero_le _, Nat.zero_le _⟩) hS (fun v_8 I_2 R_3 J_4 AI_5 AJ_6 AR_7 H locs zv_8 hp_9 hH hS => ?_)
  dsimp only at hp_9
  obtain ⟨rfl, rfl, rfl, rfl, rfl, rfl, q_10⟩ := hp_9
  refine z_if_ne (tgt := 10) F dX7_farOf_5 (by decide) zv_8 (fun c_11 => ?_) (fun c_11 => ?_)
  · refine lv_aload_n F.1 F.2.1 dX7_farOf_10 rfl (lv_at hl 0 rfl) ?_
    refine lv_aload_n F.1 F.2.1 dX7_farOf_11 rfl (lv_at hl 0 rfl) ?_
    refine lv_iload_n F.1 F.2.1 dX7_farOf_12 rfl (lv_at hl 1 rfl) ?_
    refine g_calli (g_runV (As := [.int (iI rr)]) (rest := [.ref mo]) (ci := 7) F hl.1 hH hS hz (c_X7_firstOf l g gh T I R J AI AJ AR mo rr zrr hv hm hT (by omega)) (cwV 1 F.2.2.2.2.1 (good_up gT_X7_firstOf) rfl rfl rfl hdX7_firstOf ⟨Nat.le_of_ble_eq_true rfl, Nat.le_of_ble_eq_true rfl⟩) hm (by decide) rfl rfl rfl (Nat.le_of_ble_eq_true rfl) dX7_farOf_13 ⟨Nat.zero_le _, Nat.zero_le _⟩) hS (fun v_18 I_12 R_13 J_14 AI_15 AJ_16 AR_17 H locs zv_18 hp_19 hH hS => ?_)
    dsimp only at hp_19
    obtain ⟨rfl, rfl, rfl, rfl, rfl, rfl, q_20⟩ := hp_19
    refine g_calli (g_runV (As := [.int (iI v_18)]) (rest := []) (ci := 7) F hl.1 hH hS hz (c_X7_farOf5 l g gh T I R J AI AJ AR mo v_18 zv_18 hv hm hT (by omega)) (cwV 1 F.2.2.2.2.1 (good_up gT_X7_farOf) rfl rfl rfl hdX7_farOf ⟨Nat.le_of_ble_eq_true rfl, Nat.le_of_ble_eq_true rfl⟩) hm (by decide) rfl rfl rfl (Nat.le_of_ble_eq_true rfl) dX7_farOf_16 ⟨Nat.zero_le _, Nat.zero_le _⟩) hS (fun v_27 I_21 R_22 J_23 AI_24 AJ_25 AR_26 H locs zv_27 hp_28 hH hS => ?_)
    dsimp only at hp_28
    obtain ⟨rfl, rfl, rfl, rfl, rfl, rfl, q_29⟩ := hp_28
    refine lv_istore_n (lv' := [(2, .int (iI v_27)), (0, .ref mo), (1, .int (iI rr))]) F.1 F.2.1 dX7_farOf_19 rfl hl (by decide) rfl (fun ls hl => ?_)
    refine lv_aload_n F.1 F.2.1 dX7_farOf_20 rfl (lv_at hl 1 rfl) ?_
    refine lv_iload_n F.1 F.2.1 dX7_farOf_21 rfl (lv_at hl 2 rfl) ?_
    refine g_calli (g_runV (As := [.int (iI rr)]) (rest := []) (ci := 7) F hl.1 hH hS hz (c_X7_secondOf l g gh T I R J AI AJ AR mo rr zrr hv hm hT (by omega)) (cwV 1 F.2.2.2.2.1 (good_up gT_X7_secondOf) rfl rfl rfl hdX7_secondOf ⟨Nat.le_of_ble_eq_true rfl, Nat.le_of_ble_eq_true rfl⟩) hm (by decide) rfl rfl rfl (Nat.le_of_ble_eq_true rfl) dX7_farOf_22 ⟨Nat.zero_le _, Nat.zero_le _⟩) hS (fun v_36 I_30 R_31 J_32 AI_33 AJ_34 AR_35 H locs zv_36 hp_37 hH hS => ?_)
    dsimp only at hp_37
    obtain ⟨rfl, rfl, rfl, rfl, rfl, rfl, q_38⟩ := hp_37
    refine z_if_ge (tgt := 32) F dX7_farOf_25 (by decide) zv_36 (fun c_39 => ?_) (fun c_39 => ?_)
    · refine lv_aload_n F.1 F.2.1 dX7_farOf_32 rfl (lv_at hl 1 rfl) ?_
      refine lv_aload_n F.1 F.2.1 dX7_farOf_33 rfl (lv_at hl 1 rfl) ?_
      refine lv_iload_n F.1 F.2.1 dX7_farOf_34 rfl (lv_at hl 2 rfl) ?_
      refine g_calli (g_runV (As := [.int (iI rr)]) (rest := [.ref mo]) (ci := 7) F hl.1 hH hS hz (c_X7_secondOf l g gh T I R J AI AJ AR mo rr zrr hv hm hT (by omega)) (cwV 1 F.2.2.2.2.1 (good_up gT_X7_secondOf) rfl rfl rfl hdX7_secondOf ⟨Nat.le_of_ble_eq_true rfl, Nat.le_of_ble_eq_true rfl⟩) hm (by decide) rfl rfl rfl (Nat.le_of_ble_eq_true rfl) dX7_farOf_35 ⟨Nat.zero_le _, Nat.zero_le _⟩) hS (fun v_46 I_40 R_41 J_42 AI_43 AJ_44 AR_45 H locs zv_46 hp_47 hH hS => ?_)
      dsimp only at hp_47
      obtain ⟨rfl, rfl, rfl, rfl, rfl, rfl, q_48⟩ := hp_47
      refine g_calli (g_runV (As := [.int (iI v_46)]) (rest := []) (ci := 7) F hl.1 hH hS hz (c_X7_farOf5 l g gh T I R J AI AJ AR mo v_46 zv_46 hv hm hT (by omega)) (cwV 1 F.2.2.2.2.1 (good_up gT_X7_farOf) rfl rfl rfl hdX7_farOf ⟨Nat.le_of_ble_eq_true rfl, Nat.le_of_ble_eq_true rfl⟩) hm (by decide) rfl rfl rfl (Nat.le_of_ble_eq_true rfl) dX7_farOf_38 ⟨Nat.zero_le _, Nat.zero_le _⟩) hS (fun v_55 I_49 R_50 J_51 AI_52 AJ_53 AR_54 H locs zv_55 hp_56 hH hS => ?_)
      dsimp only at hp_56
      obtain ⟨rfl, rfl, rfl, rfl, rfl, rfl, q_57⟩ := hp_56
      refine lv_istore_n (lv' := [(3, .int (iI v_55)), (2, .int (iI v_27)), (0, .ref mo), (1, .int (iI rr))]) F.1 F.2.1 dX7_farOf_41 rfl hl (by decide) rfl (fun ls hl => ?_)
      refine z_iconst F dX7_farOf_42 ?_
      refine lv_iload_n F.1 F.2.1 dX7_farOf_43 rfl (lv_at hl 1 rfl) ?_
      refine lv_iload_n F.1 F.2.1 dX7_farOf_44 rfl (lv_at hl 0 rfl) ?_
      refine z_icmp_le (tgt := 52) F dX7_farOf_45 (by decide) zv_27 zv_55 (fun c_58 => ?_) (fun c_58 => ?_)
      · refine lv_iload_n F.1 F.2.1 dX7_farOf_52 rfl (lv_at hl 0 rfl) ?_
        refine z_iadd F dX7_farOf_53 ?_
        exact g_iret F hr hlk hH hS hz ⟨by omega, by omega⟩ ⟨rfl, rfl, rfl, rfl, rfl, rfl, by first | omega | rfl | (dsimp only; omega)⟩ dX7_farOf_54
      · refine lv_iload_n F.1 F.2.1 dX7_farOf_48 rfl (lv_at hl 1 rfl) ?_
        refine z_goto (tgt := 53) F dX7_farOf_49 (by decide) ?_
        refine z_iadd F dX7_farOf_53 ?_
        exact g_iret F hr hlk hH hS hz ⟨by omega, by omega⟩ ⟨rfl, rfl, rfl, rfl, rfl, rfl, by first | omega | rfl | (dsimp only; omega)⟩ dX7_farOf_54
    · refine z_iconst F dX7_farOf_28 ?_
      refine z_goto (tgt := 41) F dX7_farOf_29 (by decide) ?_
      refine lv_istore_n (lv' := [(3, .int (iI 0)), (2, .int (iI v_27)), (0, .ref mo), (1, .int (iI rr))]) F.1 F.2.1 dX7_farOf_41 rfl hl (by decide) rfl (fun ls hl => ?_)
      refine z_iconst F dX7_farOf_42 ?_
      refine lv_iload_n F.1 F.2.1 dX7_farOf_43 rfl (lv_at hl 1 rfl) ?_
      refine lv_iload_n F.1 F.2.1 dX7_farOf_44 rfl (lv_at hl 0 rfl) ?_
      refine z_icmp_le (tgt := 52) F dX7_farOf_45 (by decide) zv_27 ⟨by decide, by decide⟩ (fun c_59 => ?_) (fun c_59 => ?_)
      · refine lv_iload_n F.1 F.2.1 dX7_farOf_52 rfl (lv_at hl 0 rfl) ?_
        refine z_iadd F dX7_farOf_53 ?_
        exact g_iret F hr hlk hH hS hz ⟨by omega, by omega⟩ ⟨rfl, rfl, rfl, rfl, rfl, rfl, by first | omega | rfl | (dsimp only; omega)⟩ dX7_farOf_54
      · refine lv_iload_n F.1 F.2.1 dX7_farOf_48 rfl (lv_at hl 1 rfl) ?_
        refine z_goto (tgt := 53) F dX7_farOf_49 (by decide) ?_
        refine z_iadd F dX7_farOf_53 ?_
        exact g_iret F hr hlk hH hS hz ⟨by omega, by omega⟩ ⟨rfl, rfl, rfl, rfl, rfl, rfl, by first | omega | rfl | (dsimp only; omega)⟩ dX7_farOf_54
  · refine z_iconst F dX7_farOf_8 ?_
    exact g_iret F hr hlk hH hS hz ⟨by decide, by decide⟩ ⟨rfl, rfl, rfl, rfl, rfl, rfl, by first | omega | rfl | (dsimp only; omega)⟩ dX7_farOf_9

def rmX7_farOf7 : Room := { frames := 7, cells := 0, slots := 0, locals := 159 }
set_option maxHeartbeats 4000000 in
set_option maxRecDepth 100000 in
/-- farOf -/
theorem c_X7_farOf7 (l : Launch) (g : gG) (gh : gGh) (T : Nat → Int32) (I : gI) (R : gR) (J : gJ) (AI : gI) (AJ : gJ) (AR : gR) (mo : Nat) (rr : Int) (zrr : zr rr) (hv : mInv g gh R I AI) (hm : gO g mo 7) (hT : AI (gh 50 0) = T) (hr0 : 0 ≤ rr ∧ rr < (I mo 2).toInt ∧ rr < 7) : gMet l g yX7_farOf tsX7_farOf rmX7_farOf7 [.ref mo, .int (iI rr)] (I, R, J, AI, AJ, AR) (gQi g (fun (z : Int) (w : gS) => I = w.1 ∧ R = w.2.1 ∧ J = w.2.2.1 ∧ AI = w.2.2.2.1 ∧ AJ = w.2.2.2.2.1 ∧ AR = w.2.2.2.2.2 ∧ (0 ≤ z ∧ z ≤ 7))) := by
  refine gStart (cc := cX7_farOf) (maxL := 4) (ret := (some (.int))) (by decide) rfl (Nat.le_of_ble_eq_true rfl) ?_
  intro p e s m below meth c ls F hr hlk hH hz hS hl
  have hl : lv_has ls 4 [(0, .ref mo), (1, .int (iI rr))] := hl
  have hS : va_S (gA g) s.heap s.heap [] := hS
  obtain ⟨H, hHe⟩ : ∃ H : Heap, H = s.heap := ⟨_, rfl⟩
  obtain ⟨locs, hlo⟩ : ∃ k : List Loc, k = [] := ⟨_, rfl⟩
  have hH : gH g I R J AI AJ AR H := by rw [hHe]; exact hH
  have hS : va_S (gA g) s.heap H locs := by rw [hHe, hlo]; exact hS
  suffices hw : W p l e rmX7_farOf7 s m ([.ref mo, .int (iI rr)] : List Value).toArray below meth c H locs 0 0 (MQ below (gQi g (fun (z : Int) (w : gS) => I = w.1 ∧ R = w.2.1 ∧ J = w.2.2.1 ∧ AI = w.2.2.2.1 ∧ AJ = w.2.2.2.2.1 ∧ AR = w.2.2.2.2.2 ∧ (0 ≤ z ∧ z ≤ 7))) ([.ref mo, .int (iI rr)] : List Value).toArray s 0 0 (gA g)) (F0 m 0 ls []) by
    rw [hHe, hlo] at hw; exact hw
  clear hHe hlo
  have hb0 := mJ hv hm
  unfold mNum1 at hb0
  have x := mRow hv hm hT (z := rr) (by omega) (by omega)
  have xa := x.1
  have xc := x.2.2.1
  have xb := x.2.1
  refine lv_aload_n F.1 F.2.1 dX7_farOf_0 rfl (lv_at hl 0 rfl) ?_
  refine lv_iload_n F.1 F.2.1 dX7_farOf_1 rfl (lv_at hl 1 rfl) ?_
  have b_1 := mJ hv hm
  unfold mNum1 at b_1
  refine g_calli (g_runV (As := [.int (iI rr)]) (rest := []) (ci := 7) F hl.1 hH hS hz (c_X7_kindOf l g gh T I R J AI AJ AR mo rr zrr hv hm hT (by omega)) (cwV 1 F.2.2.2.2.1 (good_up gT_X7_kindOf) rfl rfl rfl hdX7_kindOf ⟨Nat.le_of_ble_eq_true rfl, Nat.le_of_ble_eq_true rfl⟩) hm (by decide) rfl rfl rfl (Nat.le_of_ble_eq_true rfl) dX7_farOf_2 ⟨Nat.zero_le _, Nat.zero_le _⟩) hS (fun v_8 I_2 R_3 J_4 AI_5 AJ_6 AR_7 H locs zv_8 hp_9 hH hS => ?_)
  dsimp only at hp_9
  obtain ⟨rfl, rfl, rfl, rfl, rfl, rfl, q_10⟩ := hp_9
  refine z_if_ne (tgt := 10) F dX7_farOf_5 (by decide) zv_8 (fun c_11 => ?_) (fun c_11 => ?_)
  · refine lv_aload_n F.1 F.2.1 dX7_farOf_10 rfl (lv_at hl 0 rfl) ?_
    refine lv_aload_n F.1 F.2.1 dX7_farOf_11 rfl (lv_at hl 0 rfl) ?_
    refine lv_iload_n F.1 F.2.1 dX7_farOf_12 rfl (lv_at hl 1 rfl) ?_
    refine g_calli (g_runV (As := [.int (iI rr)]) (rest := [.ref mo]) (ci := 7) F hl.1 hH hS hz (c_X7_firstOf l g gh T I R J AI AJ AR mo rr zrr hv hm hT (by omega)) (cwV 1 F.2.2.2.2.1 (good_up gT_X7_firstOf) rfl rfl rfl hdX7_firstOf ⟨Nat.le_of_ble_eq_true rfl, Nat.le_of_ble_eq_true rfl⟩) hm (by decide) rfl rfl rfl (Nat.le_of_ble_eq_true rfl) dX7_farOf_13 ⟨Nat.zero_le _, Nat.zero_le _⟩) hS (fun v_18 I_12 R_13 J_14 AI_15 AJ_16 AR_17 H locs zv_18 hp_19 hH hS => ?_)
    dsimp only at hp_19
    obtain ⟨rfl, rfl, rfl, rfl, rfl, rfl, q_20⟩ := hp_19
    refine g_calli (g_runV (As := [.int (iI v_18)]) (rest := []) (ci := 7) F hl.1 hH hS hz (c_X7_farOf6 l g gh T I R J AI AJ AR mo v_18 zv_18 hv hm hT (by omega)) (cwV 1 F.2.2.2.2.1 (good_up gT_X7_farOf) rfl rfl rfl hdX7_farOf ⟨Nat.le_of_ble_eq_true rfl, Nat.le_of_ble_eq_true rfl⟩) hm (by decide) rfl rfl rfl (Nat.le_of_ble_eq_true rfl) dX7_farOf_16 ⟨Nat.zero_le _, Nat.zero_le _⟩) hS (fun v_27 I_21 R_22 J_23 AI_24 AJ_25 AR_26 H locs zv_27 hp_28 hH hS => ?_)
    dsimp only at hp_28
    obtain ⟨rfl, rfl, rfl, rfl, rfl, rfl, q_29⟩ := hp_28
    refine lv_istore_n (lv' := [(2, .int (iI v_27)), (0, .ref mo), (1, .int (iI rr))]) F.1 F.2.1 dX7_farOf_19 rfl hl (by decide) rfl (fun ls hl => ?_)
    refine lv_aload_n F.1 F.2.1 dX7_farOf_20 rfl (lv_at hl 1 rfl) ?_
    refine lv_iload_n F.1 F.2.1 dX7_farOf_21 rfl (lv_at hl 2 rfl) ?_
    refine g_calli (g_runV (As := [.int (iI rr)]) (rest := []) (ci := 7) F hl.1 hH hS hz (c_X7_secondOf l g gh T I R J AI AJ AR mo rr zrr hv hm hT (by omega)) (cwV 1 F.2.2.2.2.1 (good_up gT_X7_secondOf) rfl rfl rfl hdX7_secondOf ⟨Nat.le_of_ble_eq_true rfl, Nat.le_of_ble_eq_true rfl⟩) hm (by decide) rfl rfl rfl (Nat.le_of_ble_eq_true rfl) dX7_farOf_22 ⟨Nat.zero_le _, Nat.zero_le _⟩) hS (fun v_36 I_30 R_31 J_32 AI_33 AJ_34 AR_35 H locs zv_36 hp_37 hH hS => ?_)
    dsimp only at hp_37
    obtain ⟨rfl, rfl, rfl, rfl, rfl, rfl, q_38⟩ := hp_37
    refine z_if_ge (tgt := 32) F dX7_farOf_25 (by decide) zv_36 (fun c_39 => ?_) (fun c_39 => ?_)
    · refine lv_aload_n F.1 F.2.1 dX7_farOf_32 rfl (lv_at hl 1 rfl) ?_
      refine lv_aload_n F.1 F.2.1 dX7_farOf_33 rfl (lv_at hl 1 rfl) ?_
      refine lv_iload_n F.1 F.2.1 dX7_farOf_34 rfl (lv_at hl 2 rfl) ?_
      refine g_calli (g_runV (As := [.int (iI rr)]) (rest := [.ref mo]) (ci := 7) F hl.1 hH hS hz (c_X7_secondOf l g gh T I R J AI AJ AR mo rr zrr hv hm hT (by omega)) (cwV 1 F.2.2.2.2.1 (good_up gT_X7_secondOf) rfl rfl rfl hdX7_secondOf ⟨Nat.le_of_ble_eq_true rfl, Nat.le_of_ble_eq_true rfl⟩) hm (by decide) rfl rfl rfl (Nat.le_of_ble_eq_true rfl) dX7_farOf_35 ⟨Nat.zero_le _, Nat.zero_le _⟩) hS (fun v_46 I_40 R_41 J_42 AI_43 AJ_44 AR_45 H locs zv_46 hp_47 hH hS => ?_)
      dsimp only at hp_47
      obtain ⟨rfl, rfl, rfl, rfl, rfl, rfl, q_48⟩ := hp_47
      refine g_calli (g_runV (As := [.int (iI v_46)]) (rest := []) (ci := 7) F hl.1 hH hS hz (c_X7_farOf6 l g gh T I R J AI AJ AR mo v_46 zv_46 hv hm hT (by omega)) (cwV 1 F.2.2.2.2.1 (good_up gT_X7_farOf) rfl rfl rfl hdX7_farOf ⟨Nat.le_of_ble_eq_true rfl, Nat.le_of_ble_eq_true rfl⟩) hm (by decide) rfl rfl rfl (Nat.le_of_ble_eq_true rfl) dX7_farOf_38 ⟨Nat.zero_le _, Nat.zero_le _⟩) hS (fun v_55 I_49 R_50 J_51 AI_52 AJ_53 AR_54 H locs zv_55 hp_56 hH hS => ?_)
      dsimp only at hp_56
      obtain ⟨rfl, rfl, rfl, rfl, rfl, rfl, q_57⟩ := hp_56
      refine lv_istore_n (lv' := [(3, .int (iI v_55)), (2, .int (iI v_27)), (0, .ref mo), (1, .int (iI rr))]) F.1 F.2.1 dX7_farOf_41 rfl hl (by decide) rfl (fun ls hl => ?_)
      refine z_iconst F dX7_farOf_42 ?_
      refine lv_iload_n F.1 F.2.1 dX7_farOf_43 rfl (lv_at hl 1 rfl) ?_
      refine lv_iload_n F.1 F.2.1 dX7_farOf_44 rfl (lv_at hl 0 rfl) ?_
      refine z_icmp_le (tgt := 52) F dX7_farOf_45 (by decide) zv_27 zv_55 (fun c_58 => ?_) (fun c_58 => ?_)
      · refine lv_iload_n F.1 F.2.1 dX7_farOf_52 rfl (lv_at hl 0 rfl) ?_
        refine z_iadd F dX7_farOf_53 ?_
        exact g_iret F hr hlk hH hS hz ⟨by omega, by omega⟩ ⟨rfl, rfl, rfl, rfl, rfl, rfl, by first | omega | rfl | (dsimp only; omega)⟩ dX7_farOf_54
      · refine lv_iload_n F.1 F.2.1 dX7_farOf_48 rfl (lv_at hl 1 rfl) ?_
        refine z_goto (tgt := 53) F dX7_farOf_49 (by decide) ?_
        refine z_iadd F dX7_farOf_53 ?_
        exact g_iret F hr hlk hH hS hz ⟨by omega, by omega⟩ ⟨rfl, rfl, rfl, rfl, rfl, rfl, by first | omega | rfl | (dsimp only; omega)⟩ dX7_farOf_54
    · refine z_iconst F dX7_farOf_28 ?_
      refine z_goto (tgt := 41) F dX7_farOf_29 (by decide) ?_
      refine lv_istore_n (lv' := [(3, .int (iI 0)), (2, .int (iI v_27)), (0, .ref mo), (1, .int (iI rr))]) F.1 F.2.1 dX7_farOf_41 rfl hl (by decide) rfl (fun ls hl => ?_)
      refine z_iconst F dX7_farOf_42 ?_
      refine lv_iload_n F.1 F.2.1 dX7_farOf_43 rfl (lv_at hl 1 rfl) ?_
      refine lv_iload_n F.1 F.2.1 dX7_farOf_44 rfl (lv_at hl 0 rfl) ?_
      refine z_icmp_le (tgt := 52) F dX7_farOf_45 (by decide) zv_27 ⟨by decide, by decide⟩ (fun c_59 => ?_) (fun c_59 => ?_)
      · refine lv_iload_n F.1 F.2.1 dX7_farOf_52 rfl (lv_at hl 0 rfl) ?_
        refine z_iadd F dX7_farOf_53 ?_
        exact g_iret F hr hlk hH hS hz ⟨by omega, by omega⟩ ⟨rfl, rfl, rfl, rfl, rfl, rfl, by first | omega | rfl | (dsimp only; omega)⟩ dX7_farOf_54
      · refine lv_iload_n F.1 F.2.1 dX7_farOf_48 rfl (lv_at hl 1 rfl) ?_
        refine z_goto (tgt := 53) F dX7_farOf_49 (by decide) ?_
        refine z_iadd F dX7_farOf_53 ?_
        exact g_iret F hr hlk hH hS hz ⟨by omega, by omega⟩ ⟨rfl, rfl, rfl, rfl, rfl, rfl, by first | omega | rfl | (dsimp only; omega)⟩ dX7_farOf_54
  · refine z_iconst F dX7_farOf_8 ?_
    exact g_iret F hr hlk hH hS hz ⟨by decide, by decide⟩ ⟨rfl, rfl, rfl, rfl, rfl, rfl, by first | omega | rfl | (dsimp only; omega)⟩ dX7_farOf_9

def rmX7_farOf8 : Room := { frames := 8, cells := 0, slots := 0, locals := 182 }
set_option maxHeartbeats 4000000 in
set_option maxRecDepth 100000 in
/-- farOf -/
theorem c_X7_farOf8 (l : Launch) (g : gG) (gh : gGh) (T : Nat → Int32) (I : gI) (R : gR) (J : gJ) (AI : gI) (AJ : gJ) (AR : gR) (mo : Nat) (rr : Int) (zrr : zr rr) (hv : mInv g gh R I AI) (hm : gO g mo 7) (hT : AI (gh 50 0) = T) (hr0 : 0 ≤ rr ∧ rr < (I mo 2).toInt ∧ rr < 8) : gMet l g yX7_farOf tsX7_farOf rmX7_farOf8 [.ref mo, .int (iI rr)] (I, R, J, AI, AJ, AR) (gQi g (fun (z : Int) (w : gS) => I = w.1 ∧ R = w.2.1 ∧ J = w.2.2.1 ∧ AI = w.2.2.2.1 ∧ AJ = w.2.2.2.2.1 ∧ AR = w.2.2.2.2.2 ∧ (0 ≤ z ∧ z ≤ 8))) := by
  refine gStart (cc := cX7_farOf) (maxL := 4) (ret := (some (.int))) (by decide) rfl (Nat.le_of_ble_eq_true rfl) ?_
  intro p e s m below meth c ls F hr hlk hH hz hS hl
  have hl : lv_has ls 4 [(0, .ref mo), (1, .int (iI rr))] := hl
  have hS : va_S (gA g) s.heap s.heap [] := hS
  obtain ⟨H, hHe⟩ : ∃ H : Heap, H = s.heap := ⟨_, rfl⟩
  obtain ⟨locs, hlo⟩ : ∃ k : List Loc, k = [] := ⟨_, rfl⟩
  have hH : gH g I R J AI AJ AR H := by rw [hHe]; exact hH
  have hS : va_S (gA g) s.heap H locs := by rw [hHe, hlo]; exact hS
  suffices hw : W p l e rmX7_farOf8 s m ([.ref mo, .int (iI rr)] : List Value).toArray below meth c H locs 0 0 (MQ below (gQi g (fun (z : Int) (w : gS) => I = w.1 ∧ R = w.2.1 ∧ J = w.2.2.1 ∧ AI = w.2.2.2.1 ∧ AJ = w.2.2.2.2.1 ∧ AR = w.2.2.2.2.2 ∧ (0 ≤ z ∧ z ≤ 8))) ([.ref mo, .int (iI rr)] : List Value).toArray s 0 0 (gA g)) (F0 m 0 ls []) by
    rw [hHe, hlo] at hw; exact hw
  clear hHe hlo
  have hb0 := mJ hv hm
  unfold mNum1 at hb0
  have x := mRow hv hm hT (z := rr) (by omega) (by omega)
  have xa := x.1
  have xc := x.2.2.1
  have xb := x.2.1
  refine lv_aload_n F.1 F.2.1 dX7_farOf_0 rfl (lv_at hl 0 rfl) ?_
  refine lv_iload_n F.1 F.2.1 dX7_farOf_1 rfl (lv_at hl 1 rfl) ?_
  have b_1 := mJ hv hm
  unfold mNum1 at b_1
  refine g_calli (g_runV (As := [.int (iI rr)]) (rest := []) (ci := 7) F hl.1 hH hS hz (c_X7_kindOf l g gh T I R J AI AJ AR mo rr zrr hv hm hT (by omega)) (cwV 1 F.2.2.2.2.1 (good_up gT_X7_kindOf) rfl rfl rfl hdX7_kindOf ⟨Nat.le_of_ble_eq_true rfl, Nat.le_of_ble_eq_true rfl⟩) hm (by decide) rfl rfl rfl (Nat.le_of_ble_eq_true rfl) dX7_farOf_2 ⟨Nat.zero_le _, Nat.zero_le _⟩) hS (fun v_8 I_2 R_3 J_4 AI_5 AJ_6 AR_7 H locs zv_8 hp_9 hH hS => ?_)
  dsimp only at hp_9
  obtain ⟨rfl, rfl, rfl, rfl, rfl, rfl, q_10⟩ := hp_9
  refine z_if_ne (tgt := 10) F dX7_farOf_5 (by decide) zv_8 (fun c_11 => ?_) (fun c_11 => ?_)
  · refine lv_aload_n F.1 F.2.1 dX7_farOf_10 rfl (lv_at hl 0 rfl) ?_
    refine lv_aload_n F.1 F.2.1 dX7_farOf_11 rfl (lv_at hl 0 rfl) ?_
    refine lv_iload_n F.1 F.2.1 dX7_farOf_12 rfl (lv_at hl 1 rfl) ?_
    refine g_calli (g_runV (As := [.int (iI rr)]) (rest := [.ref mo]) (ci := 7) F hl.1 hH hS hz (c_X7_firstOf l g gh T I R J AI AJ AR mo rr zrr hv hm hT (by omega)) (cwV 1 F.2.2.2.2.1 (good_up gT_X7_firstOf) rfl rfl rfl hdX7_firstOf ⟨Nat.le_of_ble_eq_true rfl, Nat.le_of_ble_eq_true rfl⟩) hm (by decide) rfl rfl rfl (Nat.le_of_ble_eq_true rfl) dX7_farOf_13 ⟨Nat.zero_le _, Nat.zero_le _⟩) hS (fun v_18 I_12 R_13 J_14 AI_15 AJ_16 AR_17 H locs zv_18 hp_19 hH hS => ?_)
    dsimp only at hp_19
    obtain ⟨rfl, rfl, rfl, rfl, rfl, rfl, q_20⟩ := hp_19
    refine g_calli (g_runV (As := [.int (iI v_18)]) (rest := []) (ci := 7) F hl.1 hH hS hz (c_X7_farOf7 l g gh T I R J AI AJ AR mo v_18 zv_18 hv hm hT (by omega)) (cwV 1 F.2.2.2.2.1 (good_up gT_X7_farOf) rfl rfl rfl hdX7_farOf ⟨Nat.le_of_ble_eq_true rfl, Nat.le_of_ble_eq_true rfl⟩) hm (by decide) rfl rfl rfl (Nat.le_of_ble_eq_true rfl) dX7_farOf_16 ⟨Nat.zero_le _, Nat.zero_le _⟩) hS (fun v_27 I_21 R_22 J_23 AI_24 AJ_25 AR_26 H locs zv_27 hp_28 hH hS => ?_)
    dsimp only at hp_28
    obtain ⟨rfl, rfl, rfl, rfl, rfl, rfl, q_29⟩ := hp_28
    refine lv_istore_n (lv' := [(2, .int (iI v_27)), (0, .ref mo), (1, .int (iI rr))]) F.1 F.2.1 dX7_farOf_19 rfl hl (by decide) rfl (fun ls hl => ?_)
    refine lv_aload_n F.1 F.2.1 dX7_farOf_20 rfl (lv_at hl 1 rfl) ?_
    refine lv_iload_n F.1 F.2.1 dX7_farOf_21 rfl (lv_at hl 2 rfl) ?_
    refine g_calli (g_runV (As := [.int (iI rr)]) (rest := []) (ci := 7) F hl.1 hH hS hz (c_X7_secondOf l g gh T I R J AI AJ AR mo rr zrr hv hm hT (by omega)) (cwV 1 F.2.2.2.2.1 (good_up gT_X7_secondOf) rfl rfl rfl hdX7_secondOf ⟨Nat.le_of_ble_eq_true rfl, Nat.le_of_ble_eq_true rfl⟩) hm (by decide) rfl rfl rfl (Nat.le_of_ble_eq_true rfl) dX7_farOf_22 ⟨Nat.zero_le _, Nat.zero_le _⟩) hS (fun v_36 I_30 R_31 J_32 AI_33 AJ_34 AR_35 H locs zv_36 hp_37 hH hS => ?_)
    dsimp only at hp_37
    obtain ⟨rfl, rfl, rfl, rfl, rfl, rfl, q_38⟩ := hp_37
    refine z_if_ge (tgt := 32) F dX7_farOf_25 (by decide) zv_36 (fun c_39 => ?_) (fun c_39 => ?_)
    · refine lv_aload_n F.1 F.2.1 dX7_farOf_32 rfl (lv_at hl 1 rfl) ?_
      refine lv_aload_n F.1 F.2.1 dX7_farOf_33 rfl (lv_at hl 1 rfl) ?_
      refine lv_iload_n F.1 F.2.1 dX7_farOf_34 rfl (lv_at hl 2 rfl) ?_
      refine g_calli (g_runV (As := [.int (iI rr)]) (rest := [.ref mo]) (ci := 7) F hl.1 hH hS hz (c_X7_secondOf l g gh T I R J AI AJ AR mo rr zrr hv hm hT (by omega)) (cwV 1 F.2.2.2.2.1 (good_up gT_X7_secondOf) rfl rfl rfl hdX7_secondOf ⟨Nat.le_of_ble_eq_true rfl, Nat.le_of_ble_eq_true rfl⟩) hm (by decide) rfl rfl rfl (Nat.le_of_ble_eq_true rfl) dX7_farOf_35 ⟨Nat.zero_le _, Nat.zero_le _⟩) hS (fun v_46 I_40 R_41 J_42 AI_43 AJ_44 AR_45 H locs zv_46 hp_47 hH hS => ?_)
      dsimp only at hp_47
      obtain ⟨rfl, rfl, rfl, rfl, rfl, rfl, q_48⟩ := hp_47
      refine g_calli (g_runV (As := [.int (iI v_46)]) (rest := []) (ci := 7) F hl.1 hH hS hz (c_X7_farOf7 l g gh T I R J AI AJ AR mo v_46 zv_46 hv hm hT (by omega)) (cwV 1 F.2.2.2.2.1 (good_up gT_X7_farOf) rfl rfl rfl hdX7_farOf ⟨Nat.le_of_ble_eq_true rfl, Nat.le_of_ble_eq_true rfl⟩) hm (by decide) rfl rfl rfl (Nat.le_of_ble_eq_true rfl) dX7_farOf_38 ⟨Nat.zero_le _, Nat.zero_le _⟩) hS (fun v_55 I_49 R_50 J_51 AI_52 AJ_53 AR_54 H locs zv_55 hp_56 hH hS => ?_)
      dsimp only at hp_56
      obtain ⟨rfl, rfl, rfl, rfl, rfl, rfl, q_57⟩ := hp_56
      refine lv_istore_n (lv' := [(3, .int (iI v_55)), (2, .int (iI v_27)), (0, .ref mo), (1, .int (iI rr))]) F.1 F.2.1 dX7_farOf_41 rfl hl (by decide) rfl (fun ls hl => ?_)
      refine z_iconst F dX7_farOf_42 ?_
      refine lv_iload_n F.1 F.2.1 dX7_farOf_43 rfl (lv_at hl 1 rfl) ?_
      refine lv_iload_n F.1 F.2.1 dX7_farOf_44 rfl (lv_at hl 0 rfl) ?_
      refine z_icmp_le (tgt := 52) F dX7_farOf_45 (by decide) zv_27 zv_55 (fun c_58 => ?_) (fun c_58 => ?_)
      · refine lv_iload_n F.1 F.2.1 dX7_farOf_52 rfl (lv_at hl 0 rfl) ?_
        refine z_iadd F dX7_farOf_53 ?_
        exact g_iret F hr hlk hH hS hz ⟨by omega, by omega⟩ ⟨rfl, rfl, rfl, rfl, rfl, rfl, by first | omega | rfl | (dsimp only; omega)⟩ dX7_farOf_54
      · refine lv_iload_n F.1 F.2.1 dX7_farOf_48 rfl (lv_at hl 1 rfl) ?_
        refine z_goto (tgt := 53) F dX7_farOf_49 (by decide) ?_
        refine z_iadd F dX7_farOf_53 ?_
        exact g_iret F hr hlk hH hS hz ⟨by omega, by omega⟩ ⟨rfl, rfl, rfl, rfl, rfl, rfl, by first | omega | rfl | (dsimp only; omega)⟩ dX7_farOf_54
    · refine z_iconst F dX7_farOf_28 ?_
      refine z_goto (tgt := 41) F dX7_farOf_29 (by decide) ?_
      refine lv_istore_n (lv' := [(3, .int (iI 0)), (2, .int (iI v_27)), (0, .ref mo), (1, .int (iI rr))]) F.1 F.2.1 dX7_farOf_41 rfl hl (by decide) rfl (fun ls hl => ?_)
      refine z_iconst F dX7_farOf_42 ?_
      refine lv_iload_n F.1 F.2.1 dX7_farOf_43 rfl (lv_at hl 1 rfl) ?_
      refine lv_iload_n F.1 F.2.1 dX7_farOf_44 rfl (lv_at hl 0 rfl) ?_
      refine z_icmp_le (tgt := 52) F dX7_farOf_45 (by decide) zv_27 ⟨by decide, by decide⟩ (fun c_59 => ?_) (fun c_59 => ?_)
      · refine lv_iload_n F.1 F.2.1 dX7_farOf_52 rfl (lv_at hl 0 rfl) ?_
        refine z_iadd F dX7_farOf_53 ?_
        exact g_iret F hr hlk hH hS hz ⟨by omega, by omega⟩ ⟨rfl, rfl, rfl, rfl, rfl, rfl, by first | omega | rfl | (dsimp only; omega)⟩ dX7_farOf_54
      · refine lv_iload_n F.1 F.2.1 dX7_farOf_48 rfl (lv_at hl 1 rfl) ?_
        refine z_goto (tgt := 53) F dX7_farOf_49 (by decide) ?_
        refine z_iadd F dX7_farOf_53 ?_
        exact g_iret F hr hlk hH hS hz ⟨by omega, by omega⟩ ⟨rfl, rfl, rfl, rfl, rfl, rfl, by first | omega | rfl | (dsimp only; omega)⟩ dX7_farOf_54
  · refine z_iconst F dX7_farOf_8 ?_
    exact g_iret F hr hlk hH hS hz ⟨by decide, by decide⟩ ⟨rfl, rfl, rfl, rfl, rfl, rfl, by first | omega | rfl | (dsimp only; omega)⟩ dX7_farOf_9

def rmX7_farOf9 : Room := { frames := 9, cells := 0, slots := 0, locals := 205 }
set_option maxHeartbeats 4000000 in
set_option maxRecDepth 100000 in
/-- farOf -/
theorem c_X7_farOf9 (l : Launch) (g : gG) (gh : gGh) (T : Nat → Int32) (I : gI) (R : gR) (J : gJ) (AI : gI) (AJ : gJ) (AR : gR) (mo : Nat) (rr : Int) (zrr : zr rr) (hv : mInv g gh R I AI) (hm : gO g mo 7) (hT : AI (gh 50 0) = T) (hr0 : 0 ≤ rr ∧ rr < (I mo 2).toInt ∧ rr < 9) : gMet l g yX7_farOf tsX7_farOf rmX7_farOf9 [.ref mo, .int (iI rr)] (I, R, J, AI, AJ, AR) (gQi g (fun (z : Int) (w : gS) => I = w.1 ∧ R = w.2.1 ∧ J = w.2.2.1 ∧ AI = w.2.2.2.1 ∧ AJ = w.2.2.2.2.1 ∧ AR = w.2.2.2.2.2 ∧ (0 ≤ z ∧ z ≤ 9))) := by
  refine gStart (cc := cX7_farOf) (maxL := 4) (ret := (some (.int))) (by decide) rfl (Nat.le_of_ble_eq_true rfl) ?_
  intro p e s m below meth c ls F hr hlk hH hz hS hl
  have hl : lv_has ls 4 [(0, .ref mo), (1, .int (iI rr))] := hl
  have hS : va_S (gA g) s.heap s.heap [] := hS
  obtain ⟨H, hHe⟩ : ∃ H : Heap, H = s.heap := ⟨_, rfl⟩
  obtain ⟨locs, hlo⟩ : ∃ k : List Loc, k = [] := ⟨_, rfl⟩
  have hH : gH g I R J AI AJ AR H := by rw [hHe]; exact hH
  have hS : va_S (gA g) s.heap H locs := by rw [hHe, hlo]; exact hS
  suffices hw : W p l e rmX7_farOf9 s m ([.ref mo, .int (iI rr)] : List Value).toArray below meth c H locs 0 0 (MQ below (gQi g (fun (z : Int) (w : gS) => I = w.1 ∧ R = w.2.1 ∧ J = w.2.2.1 ∧ AI = w.2.2.2.1 ∧ AJ = w.2.2.2.2.1 ∧ AR = w.2.2.2.2.2 ∧ (0 ≤ z ∧ z ≤ 9))) ([.ref mo, .int (iI rr)] : List Value).toArray s 0 0 (gA g)) (F0 m 0 ls []) by
    rw [hHe, hlo] at hw; exact hw
  clear hHe hlo
  have hb0 := mJ hv hm
  unfold mNum1 at hb0
  have x := mRow hv hm hT (z := rr) (by omega) (by omega)
  have xa := x.1
  have xc := x.2.2.1
  have xb := x.2.1
  refine lv_aload_n F.1 F.2.1 dX7_farOf_0 rfl (lv_at hl 0 rfl) ?_
  refine lv_iload_n F.1 F.2.1 dX7_farOf_1 rfl (lv_at hl 1 rfl) ?_
  have b_1 := mJ hv hm
  unfold mNum1 at b_1
  refine g_calli (g_runV (As := [.int (iI rr)]) (rest := []) (ci := 7) F hl.1 hH hS hz (c_X7_kindOf l g gh T I R J AI AJ AR mo rr zrr hv hm hT (by omega)) (cwV 1 F.2.2.2.2.1 (good_up gT_X7_kindOf) rfl rfl rfl hdX7_kindOf ⟨Nat.le_of_ble_eq_true rfl, Nat.le_of_ble_eq_true rfl⟩) hm (by decide) rfl rfl rfl (Nat.le_of_ble_eq_true rfl) dX7_farOf_2 ⟨Nat.zero_le _, Nat.zero_le _⟩) hS (fun v_8 I_2 R_3 J_4 AI_5 AJ_6 AR_7 H locs zv_8 hp_9 hH hS => ?_)
  dsimp only at hp_9
  obtain ⟨rfl, rfl, rfl, rfl, rfl, rfl, q_10⟩ := hp_9
  refine z_if_ne (tgt := 10) F dX7_farOf_5 (by decide) zv_8 (fun c_11 => ?_) (fun c_11 => ?_)
  · refine lv_aload_n F.1 F.2.1 dX7_farOf_10 rfl (lv_at hl 0 rfl) ?_
    refine lv_aload_n F.1 F.2.1 dX7_farOf_11 rfl (lv_at hl 0 rfl) ?_
    refine lv_iload_n F.1 F.2.1 dX7_farOf_12 rfl (lv_at hl 1 rfl) ?_
    refine g_calli (g_runV (As := [.int (iI rr)]) (rest := [.ref mo]) (ci := 7) F hl.1 hH hS hz (c_X7_firstOf l g gh T I R J AI AJ AR mo rr zrr hv hm hT (by omega)) (cwV 1 F.2.2.2.2.1 (good_up gT_X7_firstOf) rfl rfl rfl hdX7_firstOf ⟨Nat.le_of_ble_eq_true rfl, Nat.le_of_ble_eq_true rfl⟩) hm (by decide) rfl rfl rfl (Nat.le_of_ble_eq_true rfl) dX7_farOf_13 ⟨Nat.zero_le _, Nat.zero_le _⟩) hS (fun v_18 I_12 R_13 J_14 AI_15 AJ_16 AR_17 H locs zv_18 hp_19 hH hS => ?_)
    dsimp only at hp_19
    obtain ⟨rfl, rfl, rfl, rfl, rfl, rfl, q_20⟩ := hp_19
    refine g_calli (g_runV (As := [.int (iI v_18)]) (rest := []) (ci := 7) F hl.1 hH hS hz (c_X7_farOf8 l g gh T I R J AI AJ AR mo v_18 zv_18 hv hm hT (by omega)) (cwV 1 F.2.2.2.2.1 (good_up gT_X7_farOf) rfl rfl rfl hdX7_farOf ⟨Nat.le_of_ble_eq_true rfl, Nat.le_of_ble_eq_true rfl⟩) hm (by decide) rfl rfl rfl (Nat.le_of_ble_eq_true rfl) dX7_farOf_16 ⟨Nat.zero_le _, Nat.zero_le _⟩) hS (fun v_27 I_21 R_22 J_23 AI_24 AJ_25 AR_26 H locs zv_27 hp_28 hH hS => ?_)
    dsimp only at hp_28
    obtain ⟨rfl, rfl, rfl, rfl, rfl, rfl, q_29⟩ := hp_28
    refine lv_istore_n (lv' := [(2, .int (iI v_27)), (0, .ref mo), (1, .int (iI rr))]) F.1 F.2.1 dX7_farOf_19 rfl hl (by decide) rfl (fun ls hl => ?_)
    refine lv_aload_n F.1 F.2.1 dX7_farOf_20 rfl (lv_at hl 1 rfl) ?_
    refine lv_iload_n F.1 F.2.1 dX7_farOf_21 rfl (lv_at hl 2 rfl) ?_
    refine g_calli (g_runV (As := [.int (iI rr)]) (rest := []) (ci := 7) F hl.1 hH hS hz (c_X7_secondOf l g gh T I R J AI AJ AR mo rr zrr hv hm hT (by omega)) (cwV 1 F.2.2.2.2.1 (good_up gT_X7_secondOf) rfl rfl rfl hdX7_secondOf ⟨Nat.le_of_ble_eq_true rfl, Nat.le_of_ble_eq_true rfl⟩) hm (by decide) rfl rfl rfl (Nat.le_of_ble_eq_true rfl) dX7_farOf_22 ⟨Nat.zero_le _, Nat.zero_le _⟩) hS (fun v_36 I_30 R_31 J_32 AI_33 AJ_34 AR_35 H locs zv_36 hp_37 hH hS => ?_)
    dsimp only at hp_37
    obtain ⟨rfl, rfl, rfl, rfl, rfl, rfl, q_38⟩ := hp_37
    refine z_if_ge (tgt := 32) F dX7_farOf_25 (by decide) zv_36 (fun c_39 => ?_) (fun c_39 => ?_)
    · refine lv_aload_n F.1 F.2.1 dX7_farOf_32 rfl (lv_at hl 1 rfl) ?_
      refine lv_aload_n F.1 F.2.1 dX7_farOf_33 rfl (lv_at hl 1 rfl) ?_
      refine lv_iload_n F.1 F.2.1 dX7_farOf_34 rfl (lv_at hl 2 rfl) ?_
      refine g_calli (g_runV (As := [.int (iI rr)]) (rest := [.ref mo]) (ci := 7) F hl.1 hH hS hz (c_X7_secondOf l g gh T I R J AI AJ AR mo rr zrr hv hm hT (by omega)) (cwV 1 F.2.2.2.2.1 (good_up gT_X7_secondOf) rfl rfl rfl hdX7_secondOf ⟨Nat.le_of_ble_eq_true rfl, Nat.le_of_ble_eq_true rfl⟩) hm (by decide) rfl rfl rfl (Nat.le_of_ble_eq_true rfl) dX7_farOf_35 ⟨Nat.zero_le _, Nat.zero_le _⟩) hS (fun v_46 I_40 R_41 J_42 AI_43 AJ_44 AR_45 H locs zv_46 hp_47 hH hS => ?_)
      dsimp only at hp_47
      obtain ⟨rfl, rfl, rfl, rfl, rfl, rfl, q_48⟩ := hp_47
      refine g_calli (g_runV (As := [.int (iI v_46)]) (rest := []) (ci := 7) F hl.1 hH hS hz (c_X7_farOf8 l g gh T I R J AI AJ AR mo v_46 zv_46 hv hm hT (by omega)) (cwV 1 F.2.2.2.2.1 (good_up gT_X7_farOf) rfl rfl rfl hdX7_farOf ⟨Nat.le_of_ble_eq_true rfl, Nat.le_of_ble_eq_true rfl⟩) hm (by decide) rfl rfl rfl (Nat.le_of_ble_eq_true rfl) dX7_farOf_38 ⟨Nat.zero_le _, Nat.zero_le _⟩) hS (fun v_55 I_49 R_50 J_51 AI_52 AJ_53 AR_54 H locs zv_55 hp_56 hH hS => ?_)
      dsimp only at hp_56
      obtain ⟨rfl, rfl, rfl, rfl, rfl, rfl, q_57⟩ := hp_56
      refine lv_istore_n (lv' := [(3, .int (iI v_55)), (2, .int (iI v_27)), (0, .ref mo), (1, .int (iI rr))]) F.1 F.2.1 dX7_farOf_41 rfl hl (by decide) rfl (fun ls hl => ?_)
      refine z_iconst F dX7_farOf_42 ?_
      refine lv_iload_n F.1 F.2.1 dX7_farOf_43 rfl (lv_at hl 1 rfl) ?_
      refine lv_iload_n F.1 F.2.1 dX7_farOf_44 rfl (lv_at hl 0 rfl) ?_
      refine z_icmp_le (tgt := 52) F dX7_farOf_45 (by decide) zv_27 zv_55 (fun c_58 => ?_) (fun c_58 => ?_)
      · refine lv_iload_n F.1 F.2.1 dX7_farOf_52 rfl (lv_at hl 0 rfl) ?_
        refine z_iadd F dX7_farOf_53 ?_
        exact g_iret F hr hlk hH hS hz ⟨by omega, by omega⟩ ⟨rfl, rfl, rfl, rfl, rfl, rfl, by first | omega | rfl | (dsimp only; omega)⟩ dX7_farOf_54
      · refine lv_iload_n F.1 F.2.1 dX7_farOf_48 rfl (lv_at hl 1 rfl) ?_
        refine z_goto (tgt := 53) F dX7_farOf_49 (by decide) ?_
        refine z_iadd F dX7_farOf_53 ?_
        exact g_iret F hr hlk hH hS hz ⟨by omega, by omega⟩ ⟨rfl, rfl, rfl, rfl, rfl, rfl, by first | omega | rfl | (dsimp only; omega)⟩ dX7_farOf_54
    · refine z_iconst F dX7_farOf_28 ?_
      refine z_goto (tgt := 41) F dX7_farOf_29 (by decide) ?_
      refine lv_istore_n (lv' := [(3, .int (iI 0)), (2, .int (iI v_27)), (0, .ref mo), (1, .int (iI rr))]) F.1 F.2.1 dX7_farOf_41 rfl hl (by decide) rfl (fun ls hl => ?_)
      refine z_iconst F dX7_farOf_42 ?_
      refine lv_iload_n F.1 F.2.1 dX7_farOf_43 rfl (lv_at hl 1 rfl) ?_
      refine lv_iload_n F.1 F.2.1 dX7_farOf_44 rfl (lv_at hl 0 rfl) ?_
      refine z_icmp_le (tgt := 52) F dX7_farOf_45 (by decide) zv_27 ⟨by decide, by decide⟩ (fun c_59 => ?_) (fun c_59 => ?_)
      · refine lv_iload_n F.1 F.2.1 dX7_farOf_52 rfl (lv_at hl 0 rfl) ?_
        refine z_iadd F dX7_farOf_53 ?_
        exact g_iret F hr hlk hH hS hz ⟨by omega, by omega⟩ ⟨rfl, rfl, rfl, rfl, rfl, rfl, by first | omega | rfl | (dsimp only; omega)⟩ dX7_farOf_54
      · refine lv_iload_n F.1 F.2.1 dX7_farOf_48 rfl (lv_at hl 1 rfl) ?_
        refine z_goto (tgt := 53) F dX7_farOf_49 (by decide) ?_
        refine z_iadd F dX7_farOf_53 ?_
        exact g_iret F hr hlk hH hS hz ⟨by omega, by omega⟩ ⟨rfl, rfl, rfl, rfl, rfl, rfl, by first | omega | rfl | (dsimp only; omega)⟩ dX7_farOf_54
  · refine z_iconst F dX7_farOf_8 ?_
    exact g_iret F hr hlk hH hS hz ⟨by decide, by decide⟩ ⟨rfl, rfl, rfl, rfl, rfl, rfl, by first | omega | rfl | (dsimp only; omega)⟩ dX7_farOf_9

def rmX7_farOf10 : Room := { frames := 10, cells := 0, slots := 0, locals := 228 }
set_option maxHeartbeats 4000000 in
set_option maxRecDepth 100000 in
/-- farOf -/
theorem c_X7_farOf10 (l : Launch) (g : gG) (gh : gGh) (T : Nat → Int32) (I : gI) (R : gR) (J : gJ) (AI : gI) (AJ : gJ) (AR : gR) (mo : Nat) (rr : Int) (zrr : zr rr) (hv : mInv g gh R I AI) (hm : gO g mo 7) (hT : AI (gh 50 0) = T) (hr0 : 0 ≤ rr ∧ rr < (I mo 2).toInt ∧ rr < 10) : gMet l g yX7_farOf tsX7_farOf rmX7_farOf10 [.ref mo, .int (iI rr)] (I, R, J, AI, AJ, AR) (gQi g (fun (z : Int) (w : gS) => I = w.1 ∧ R = w.2.1 ∧ J = w.2.2.1 ∧ AI = w.2.2.2.1 ∧ AJ = w.2.2.2.2.1 ∧ AR = w.2.2.2.2.2 ∧ (0 ≤ z ∧ z ≤ 10))) := by
  refine gStart (cc := cX7_farOf) (maxL := 4) (ret := (some (.int))) (by decide) rfl (Nat.le_of_ble_eq_true rfl) ?_
  intro p e s m below meth c ls F hr hlk hH hz hS hl
  have hl : lv_has ls 4 [(0, .ref mo), (1, .int (iI rr))] := hl
  have hS : va_S (gA g) s.heap s.heap [] := hS
  obtain ⟨H, hHe⟩ : ∃ H : Heap, H = s.heap := ⟨_, rfl⟩
  obtain ⟨locs, hlo⟩ : ∃ k : List Loc, k = [] := ⟨_, rfl⟩
  have hH : gH g I R J AI AJ AR H := by rw [hHe]; exact hH
  have hS : va_S (gA g) s.heap H locs := by rw [hHe, hlo]; exact hS
  suffices hw : W p l e rmX7_farOf10 s m ([.ref mo, .int (iI rr)] : List Value).toArray below meth c H locs 0 0 (MQ below (gQi g (fun (z : Int) (w : gS) => I = w.1 ∧ R = w.2.1 ∧ J = w.2.2.1 ∧ AI = w.2.2.2.1 ∧ AJ = w.2.2.2.2.1 ∧ AR = w.2.2.2.2.2 ∧ (0 ≤ z ∧ z ≤ 10))) ([.ref mo, .int (iI rr)] : List Value).toArray s 0 0 (gA g)) (F0 m 0 ls []) by
    rw [hHe, hlo] at hw; exact hw
  clear hHe hlo
  have hb0 := mJ hv hm
  unfold mNum1 at hb0
  have x := mRow hv hm hT (z := rr) (by omega) (by omega)
  have xa := x.1
  have xc := x.2.2.1
  have xb := x.2.1
  refine lv_aload_n F.1 F.2.1 dX7_farOf_0 rfl (lv_at hl 0 rfl) ?_
  refine lv_iload_n F.1 F.2.1 dX7_farOf_1 rfl (lv_at hl 1 rfl) ?_
  have b_1 := mJ hv hm
  unfold mNum1 at b_1
  refine g_calli (g_runV (As := [.int (iI rr)]) (rest := []) (ci := 7) F hl.1 hH hS hz (c_X7_kindOf l g gh T I R J AI AJ AR mo rr zrr hv hm hT (by omega)) (cwV 1 F.2.2.2.2.1 (good_up gT_X7_kindOf) rfl rfl rfl hdX7_kindOf ⟨Nat.le_of_ble_eq_true rfl, Nat.le_of_ble_eq_true rfl⟩) hm (by decide) rfl rfl rfl (Nat.le_of_ble_eq_true rfl) dX7_farOf_2 ⟨Nat.zero_le _, Nat.zero_le _⟩) hS (fun v_8 I_2 R_3 J_4 AI_5 AJ_6 AR_7 H locs zv_8 hp_9 hH hS => ?_)
  dsimp only at hp_9
  obtain ⟨rfl, rfl, rfl, rfl, rfl, rfl, q_10⟩ := hp_9
  refine z_if_ne (tgt := 10) F dX7_farOf_5 (by decide) zv_8 (fun c_11 => ?_) (fun c_11 => ?_)
  · refine lv_aload_n F.1 F.2.1 dX7_farOf_10 rfl (lv_at hl 0 rfl) ?_
    refine lv_aload_n F.1 F.2.1 dX7_farOf_11 rfl (lv_at hl 0 rfl) ?_
    refine lv_iload_n F.1 F.2.1 dX7_farOf_12 rfl (lv_at hl 1 rfl) ?_
    refine g_calli (g_runV (As := [.int (iI rr)]) (rest := [.ref mo]) (ci := 7) F hl.1 hH hS hz (c_X7_firstOf l g gh T I R J AI AJ AR mo rr zrr hv hm hT (by omega)) (cwV 1 F.2.2.2.2.1 (good_up gT_X7_firstOf) rfl rfl rfl hdX7_firstOf ⟨Nat.le_of_ble_eq_true rfl, Nat.le_of_ble_eq_true rfl⟩) hm (by decide) rfl rfl rfl (Nat.le_of_ble_eq_true rfl) dX7_farOf_13 ⟨Nat.zero_le _, Nat.zero_le _⟩) hS (fun v_18 I_12 R_13 J_14 AI_15 AJ_16 AR_17 H locs zv_18 hp_19 hH hS => ?_)
    dsimp only at hp_19
    obtain ⟨rfl, rfl, rfl, rfl, rfl, rfl, q_20⟩ := hp_19
    refine g_calli (g_runV (As := [.int (iI v_18)]) (rest := []) (ci := 7) F hl.1 hH hS hz (c_X7_farOf9 l g gh T I R J AI AJ AR mo v_18 zv_18 hv hm hT (by omega)) (cwV 1 F.2.2.2.2.1 (good_up gT_X7_farOf) rfl rfl rfl hdX7_farOf ⟨Nat.le_of_ble_eq_true rfl, Nat.le_of_ble_eq_true rfl⟩) hm (by decide) rfl rfl rfl (Nat.le_of_ble_eq_true rfl) dX7_farOf_16 ⟨Nat.zero_le _, Nat.zero_le _⟩) hS (fun v_27 I_21 R_22 J_23 AI_24 AJ_25 AR_26 H locs zv_27 hp_28 hH hS => ?_)
    dsimp only at hp_28
    obtain ⟨rfl, rfl, rfl, rfl, rfl, rfl, q_29⟩ := hp_28
    refine lv_istore_n (lv' := [(2, .int (iI v_27)), (0, .ref mo), (1, .int (iI rr))]) F.1 F.2.1 dX7_farOf_19 rfl hl (by decide) rfl (fun ls hl => ?_)
    refine lv_aload_n F.1 F.2.1 dX7_farOf_20 rfl (lv_at hl 1 rfl) ?_
    refine lv_iload_n F.1 F.2.1 dX7_farOf_21 rfl (lv_at hl 2 rfl) ?_
    refine g_calli (g_runV (As := [.int (iI rr)]) (rest := []) (ci := 7) F hl.1 hH hS hz (c_X7_secondOf l g gh T I R J AI AJ AR mo rr zrr hv hm hT (by omega)) (cwV 1 F.2.2.2.2.1 (good_up gT_X7_secondOf) rfl rfl rfl hdX7_secondOf ⟨Nat.le_of_ble_eq_true rfl, Nat.le_of_ble_eq_true rfl⟩) hm (by decide) rfl rfl rfl (Nat.le_of_ble_eq_true rfl) dX7_farOf_22 ⟨Nat.zero_le _, Nat.zero_le _⟩) hS (fun v_36 I_30 R_31 J_32 AI_33 AJ_34 AR_35 H locs zv_36 hp_37 hH hS => ?_)
    dsimp only at hp_37
    obtain ⟨rfl, rfl, rfl, rfl, rfl, rfl, q_38⟩ := hp_37
    refine z_if_ge (tgt := 32) F dX7_farOf_25 (by decide) zv_36 (fun c_39 => ?_) (fun c_39 => ?_)
    · refine lv_aload_n F.1 F.2.1 dX7_farOf_32 rfl (lv_at hl 1 rfl) ?_
      refine lv_aload_n F.1 F.2.1 dX7_farOf_33 rfl (lv_at hl 1 rfl) ?_
      refine lv_iload_n F.1 F.2.1 dX7_farOf_34 rfl (lv_at hl 2 rfl) ?_
      refine g_calli (g_runV (As := [.int (iI rr)]) (rest := [.ref mo]) (ci := 7) F hl.1 hH hS hz (c_X7_secondOf l g gh T I R J AI AJ AR mo rr zrr hv hm hT (by omega)) (cwV 1 F.2.2.2.2.1 (good_up gT_X7_secondOf) rfl rfl rfl hdX7_secondOf ⟨Nat.le_of_ble_eq_true rfl, Nat.le_of_ble_eq_true rfl⟩) hm (by decide) rfl rfl rfl (Nat.le_of_ble_eq_true rfl) dX7_farOf_35 ⟨Nat.zero_le _, Nat.zero_le _⟩) hS (fun v_46 I_40 R_41 J_42 AI_43 AJ_44 AR_45 H locs zv_46 hp_47 hH hS => ?_)
      dsimp only at hp_47
      obtain ⟨rfl, rfl, rfl, rfl, rfl, rfl, q_48⟩ := hp_47
      refine g_calli (g_runV (As := [.int (iI v_46)]) (rest := []) (ci := 7) F hl.1 hH hS hz (c_X7_farOf9 l g gh T I R J AI AJ AR mo v_46 zv_46 hv hm hT (by omega)) (cwV 1 F.2.2.2.2.1 (good_up gT_X7_farOf) rfl rfl rfl hdX7_farOf ⟨Nat.le_of_ble_eq_true rfl, Nat.le_of_ble_eq_true rfl⟩) hm (by decide) rfl rfl rfl (Nat.le_of_ble_eq_true rfl) dX7_farOf_38 ⟨Nat.zero_le _, Nat.zero_le _⟩) hS (fun v_55 I_49 R_50 J_51 AI_52 AJ_53 AR_54 H locs zv_55 hp_56 hH hS => ?_)
      dsimp only at hp_56
      obtain ⟨rfl, rfl, rfl, rfl, rfl, rfl, q_57⟩ := hp_56
      refine lv_istore_n (lv' := [(3, .int (iI v_55)), (2, .int (iI v_27)), (0, .ref mo), (1, .int (iI rr))]) F.1 F.2.1 dX7_farOf_41 rfl hl (by decide) rfl (fun ls hl => ?_)
      refine z_iconst F dX7_farOf_42 ?_
      refine lv_iload_n F.1 F.2.1 dX7_farOf_43 rfl (lv_at hl 1 rfl) ?_
      refine lv_iload_n F.1 F.2.1 dX7_farOf_44 rfl (lv_at hl 0 rfl) ?_
      refine z_icmp_le (tgt := 52) F dX7_farOf_45 (by decide) zv_27 zv_55 (fun c_58 => ?_) (fun c_58 => ?_)
      · refine lv_iload_n F.1 F.2.1 dX7_farOf_52 rfl (lv_at hl 0 rfl) ?_
        refine z_iadd F dX7_farOf_53 ?_
        exact g_iret F hr hlk hH hS hz ⟨by omega, by omega⟩ ⟨rfl, rfl, rfl, rfl, rfl, rfl, by first | omega | rfl | (dsimp only; omega)⟩ dX7_farOf_54
      · refine lv_iload_n F.1 F.2.1 dX7_farOf_48 rfl (lv_at hl 1 rfl) ?_
        refine z_goto (tgt := 53) F dX7_farOf_49 (by decide) ?_
        refine z_iadd F dX7_farOf_53 ?_
        exact g_iret F hr hlk hH hS hz ⟨by omega, by omega⟩ ⟨rfl, rfl, rfl, rfl, rfl, rfl, by first | omega | rfl | (dsimp only; omega)⟩ dX7_farOf_54
    · refine z_iconst F dX7_farOf_28 ?_
      refine z_goto (tgt := 41) F dX7_farOf_29 (by decide) ?_
      refine lv_istore_n (lv' := [(3, .int (iI 0)), (2, .int (iI v_27)), (0, .ref mo), (1, .int (iI rr))]) F.1 F.2.1 dX7_farOf_41 rfl hl (by decide) rfl (fun ls hl => ?_)
      refine z_iconst F dX7_farOf_42 ?_
      refine lv_iload_n F.1 F.2.1 dX7_farOf_43 rfl (lv_at hl 1 rfl) ?_
      refine lv_iload_n F.1 F.2.1 dX7_farOf_44 rfl (lv_at hl 0 rfl) ?_
      refine z_icmp_le (tgt := 52) F dX7_farOf_45 (by decide) zv_27 ⟨by decide, by decide⟩ (fun c_59 => ?_) (fun c_59 => ?_)
      · refine lv_iload_n F.1 F.2.1 dX7_farOf_52 rfl (lv_at hl 0 rfl) ?_
        refine z_iadd F dX7_farOf_53 ?_
        exact g_iret F hr hlk hH hS hz ⟨by omega, by omega⟩ ⟨rfl, rfl, rfl, rfl, rfl, rfl, by first | omega | rfl | (dsimp only; omega)⟩ dX7_farOf_54
      · refine lv_iload_n F.1 F.2.1 dX7_farOf_48 rfl (lv_at hl 1 rfl) ?_
        refine z_goto (tgt := 53) F dX7_farOf_49 (by decide) ?_
        refine z_iadd F dX7_farOf_53 ?_
        exact g_iret F hr hlk hH hS hz ⟨by omega, by omega⟩ ⟨rfl, rfl, rfl, rfl, rfl, rfl, by first | omega | rfl | (dsimp only; omega)⟩ dX7_farOf_54
  · refine z_iconst F dX7_farOf_8 ?_
    exact g_iret F hr hlk hH hS hz ⟨by decide, by decide⟩ ⟨rfl, rfl, rfl, rfl, rfl, rfl, by first | omega | rfl | (dsimp only; omega)⟩ dX7_farOf_9

def rmX7_farOf11 : Room := { frames := 11, cells := 0, slots := 0, locals := 251 }
set_option maxHeartbeats 4000000 in
set_option maxRecDepth 100000 in
/-- farOf -/
theorem c_X7_farOf11 (l : Launch) (g : gG) (gh : gGh) (T : Nat → Int32) (I : gI) (R : gR) (J : gJ) (AI : gI) (AJ : gJ) (AR : gR) (mo : Nat) (rr : Int) (zrr : zr rr) (hv : mInv g gh R I AI) (hm : gO g mo 7) (hT : AI (gh 50 0) = T) (hr0 : 0 ≤ rr ∧ rr < (I mo 2).toInt ∧ rr < 11) : gMet l g yX7_farOf tsX7_farOf rmX7_farOf11 [.ref mo, .int (iI rr)] (I, R, J, AI, AJ, AR) (gQi g (fun (z : Int) (w : gS) => I = w.1 ∧ R = w.2.1 ∧ J = w.2.2.1 ∧ AI = w.2.2.2.1 ∧ AJ = w.2.2.2.2.1 ∧ AR = w.2.2.2.2.2 ∧ (0 ≤ z ∧ z ≤ 11))) := by
  refine gStart (cc := cX7_farOf) (maxL := 4) (ret := (some (.int))) (by decide) rfl (Nat.le_of_ble_eq_true rfl) ?_
  intro p e s m below meth c ls F hr hlk hH hz hS hl
  have hl : lv_has ls 4 [(0, .ref mo), (1, .int (iI rr))] := hl
  have hS : va_S (gA g) s.heap s.heap [] := hS
  obtain ⟨H, hHe⟩ : ∃ H : Heap, H = s.heap := ⟨_, rfl⟩
  obtain ⟨locs, hlo⟩ : ∃ k : List Loc, k = [] := ⟨_, rfl⟩
  have hH : gH g I R J AI AJ AR H := by rw [hHe]; exact hH
  have hS : va_S (gA g) s.heap H locs := by rw [hHe, hlo]; exact hS
  suffices hw : W p l e rmX7_farOf11 s m ([.ref mo, .int (iI rr)] : List Value).toArray below meth c H locs 0 0 (MQ below (gQi g (fun (z : Int) (w : gS) => I = w.1 ∧ R = w.2.1 ∧ J = w.2.2.1 ∧ AI = w.2.2.2.1 ∧ AJ = w.2.2.2.2.1 ∧ AR = w.2.2.2.2.2 ∧ (0 ≤ z ∧ z ≤ 11))) ([.ref mo, .int (iI rr)] : List Value).toArray s 0 0 (gA g)) (F0 m 0 ls []) by
    rw [hHe, hlo] at hw; exact hw
  clear hHe hlo
  have hb0 := mJ hv hm
  unfold mNum1 at hb0
  have x := mRow hv hm hT (z := rr) (by omega) (by omega)
  have xa := x.1
  have xc := x.2.2.1
  have xb := x.2.1
  refine lv_aload_n F.1 F.2.1 dX7_farOf_0 rfl (lv_at hl 0 rfl) ?_
  refine lv_iload_n F.1 F.2.1 dX7_farOf_1 rfl (lv_at hl 1 rfl) ?_
  have b_1 := mJ hv hm
  unfold mNum1 at b_1
  refine g_calli (g_runV (As := [.int (iI rr)]) (rest := []) (ci := 7) F hl.1 hH hS hz (c_X7_kindOf l g gh T I R J AI AJ AR mo rr zrr hv hm hT (by omega)) (cwV 1 F.2.2.2.2.1 (good_up gT_X7_kindOf) rfl rfl rfl hdX7_kindOf ⟨Nat.le_of_ble_eq_true rfl, Nat.le_of_ble_eq_true rfl⟩) hm (by decide) rfl rfl rfl (Nat.le_of_ble_eq_true rfl) dX7_farOf_2 ⟨Nat.zero_le _, Nat.zero_le _⟩) hS (fun v_8 I_2 R_3 J_4 AI_5 AJ_6 AR_7 H locs zv_8 hp_9 hH hS => ?_)
  dsimp only at hp_9
  obtain ⟨rfl, rfl, rfl, rfl, rfl, rfl, q_10⟩ := hp_9
  refine z_if_ne (tgt := 10) F dX7_farOf_5 (by decide) zv_8 (fun c_11 => ?_) (fun c_11 => ?_)
  · refine lv_aload_n F.1 F.2.1 dX7_farOf_10 rfl (lv_at hl 0 rfl) ?_
    refine lv_aload_n F.1 F.2.1 dX7_farOf_11 rfl (lv_at hl 0 rfl) ?_
    refine lv_iload_n F.1 F.2.1 dX7_farOf_12 rfl (lv_at hl 1 rfl) ?_
    refine g_calli (g_runV (As := [.int (iI rr)]) (rest := [.ref mo]) (ci := 7) F hl.1 hH hS hz (c_X7_firstOf l g gh T I R J AI AJ AR mo rr zrr hv hm hT (by omega)) (cwV 1 F.2.2.2.2.1 (good_up gT_X7_firstOf) rfl rfl rfl hdX7_firstOf ⟨Nat.le_of_ble_eq_true rfl, Nat.le_of_ble_eq_true rfl⟩) hm (by decide) rfl rfl rfl (Nat.le_of_ble_eq_true rfl) dX7_farOf_13 ⟨Nat.zero_le _, Nat.zero_le _⟩) hS (fun v_18 I_12 R_13 J_14 AI_15 AJ_16 AR_17 H locs zv_18 hp_19 hH hS => ?_)
    dsimp only at hp_19
    obtain ⟨rfl, rfl, rfl, rfl, rfl, rfl, q_20⟩ := hp_19
    refine g_calli (g_runV (As := [.int (iI v_18)]) (rest := []) (ci := 7) F hl.1 hH hS hz (c_X7_farOf10 l g gh T I R J AI AJ AR mo v_18 zv_18 hv hm hT (by omega)) (cwV 1 F.2.2.2.2.1 (good_up gT_X7_farOf) rfl rfl rfl hdX7_farOf ⟨Nat.le_of_ble_eq_true rfl, Nat.le_of_ble_eq_true rfl⟩) hm (by decide) rfl rfl rfl (Nat.le_of_ble_eq_true rfl) dX7_farOf_16 ⟨Nat.zero_le _, Nat.zero_le _⟩) hS (fun v_27 I_21 R_22 J_23 AI_24 AJ_25 AR_26 H locs zv_27 hp_28 hH hS => ?_)
    dsimp only at hp_28
    obtain ⟨rfl, rfl, rfl, rfl, rfl, rfl, q_29⟩ := hp_28
    refine lv_istore_n (lv' := [(2, .int (iI v_27)), (0, .ref mo), (1, .int (iI rr))]) F.1 F.2.1 dX7_farOf_19 rfl hl (by decide) rfl (fun ls hl => ?_)
    refine lv_aload_n F.1 F.2.1 dX7_farOf_20 rfl (lv_at hl 1 rfl) ?_
    refine lv_iload_n F.1 F.2.1 dX7_farOf_21 rfl (lv_at hl 2 rfl) ?_
    refine g_calli (g_runV (As := [.int (iI rr)]) (rest := []) (ci := 7) F hl.1 hH hS hz (c_X7_secondOf l g gh T I R J AI AJ AR mo rr zrr hv hm hT (by omega)) (cwV 1 F.2.2.2.2.1 (good_up gT_X7_secondOf) rfl rfl rfl hdX7_secondOf ⟨Nat.le_of_ble_eq_true rfl, Nat.le_of_ble_eq_true rfl⟩) hm (by decide) rfl rfl rfl (Nat.le_of_ble_eq_true rfl) dX7_farOf_22 ⟨Nat.zero_le _, Nat.zero_le _⟩) hS (fun v_36 I_30 R_31 J_32 AI_33 AJ_34 AR_35 H locs zv_36 hp_37 hH hS => ?_)
    dsimp only at hp_37
    obtain ⟨rfl, rfl, rfl, rfl, rfl, rfl, q_38⟩ := hp_37
    refine z_if_ge (tgt := 32) F dX7_farOf_25 (by decide) zv_36 (fun c_39 => ?_) (fun c_39 => ?_)
    · refine lv_aload_n F.1 F.2.1 dX7_farOf_32 rfl (lv_at hl 1 rfl) ?_
      refine lv_aload_n F.1 F.2.1 dX7_farOf_33 rfl (lv_at hl 1 rfl) ?_
      refine lv_iload_n F.1 F.2.1 dX7_farOf_34 rfl (lv_at hl 2 rfl) ?_
      refine g_calli (g_runV (As := [.int (iI rr)]) (rest := [.ref mo]) (ci := 7) F hl.1 hH hS hz (c_X7_secondOf l g gh T I R J AI AJ AR mo rr zrr hv hm hT (by omega)) (cwV 1 F.2.2.2.2.1 (good_up gT_X7_secondOf) rfl rfl rfl hdX7_secondOf ⟨Nat.le_of_ble_eq_true rfl, Nat.le_of_ble_eq_true rfl⟩) hm (by decide) rfl rfl rfl (Nat.le_of_ble_eq_true rfl) dX7_farOf_35 ⟨Nat.zero_le _, Nat.zero_le _⟩) hS (fun v_46 I_40 R_41 J_42 AI_43 AJ_44 AR_45 H locs zv_46 hp_47 hH hS => ?_)
      dsimp only at hp_47
      obtain ⟨rfl, rfl, rfl, rfl, rfl, rfl, q_48⟩ := hp_47
      refine g_calli (g_runV (As := [.int (iI v_46)]) (rest := []) (ci := 7) F hl.1 hH hS hz (c_X7_farOf10 l g gh T I R J AI AJ AR mo v_46 zv_46 hv hm hT (by omega)) (cwV 1 F.2.2.2.2.1 (good_up gT_X7_farOf) rfl rfl rfl hdX7_farOf ⟨Nat.le_of_ble_eq_true rfl, Nat.le_of_ble_eq_true rfl⟩) hm (by decide) rfl rfl rfl (Nat.le_of_ble_eq_true rfl) dX7_farOf_38 ⟨Nat.zero_le _, Nat.zero_le _⟩) hS (fun v_55 I_49 R_50 J_51 AI_52 AJ_53 AR_54 H locs zv_55 hp_56 hH hS => ?_)
      dsimp only at hp_56
      obtain ⟨rfl, rfl, rfl, rfl, rfl, rfl, q_57⟩ := hp_56
      refine lv_istore_n (lv' := [(3, .int (iI v_55)), (2, .int (iI v_27)), (0, .ref mo), (1, .int (iI rr))]) F.1 F.2.1 dX7_farOf_41 rfl hl (by decide) rfl (fun ls hl => ?_)
      refine z_iconst F dX7_farOf_42 ?_
      refine lv_iload_n F.1 F.2.1 dX7_farOf_43 rfl (lv_at hl 1 rfl) ?_
      refine lv_iload_n F.1 F.2.1 dX7_farOf_44 rfl (lv_at hl 0 rfl) ?_
      refine z_icmp_le (tgt := 52) F dX7_farOf_45 (by decide) zv_27 zv_55 (fun c_58 => ?_) (fun c_58 => ?_)
      · refine lv_iload_n F.1 F.2.1 dX7_farOf_52 rfl (lv_at hl 0 rfl) ?_
        refine z_iadd F dX7_farOf_53 ?_
        exact g_iret F hr hlk hH hS hz ⟨by omega, by omega⟩ ⟨rfl, rfl, rfl, rfl, rfl, rfl, by first | omega | rfl | (dsimp only; omega)⟩ dX7_farOf_54
      · refine lv_iload_n F.1 F.2.1 dX7_farOf_48 rfl (lv_at hl 1 rfl) ?_
        refine z_goto (tgt := 53) F dX7_farOf_49 (by decide) ?_
        refine z_iadd F dX7_farOf_53 ?_
        exact g_iret F hr hlk hH hS hz ⟨by omega, by omega⟩ ⟨rfl, rfl, rfl, rfl, rfl, rfl, by first | omega | rfl | (dsimp only; omega)⟩ dX7_farOf_54
    · refine z_iconst F dX7_farOf_28 ?_
      refine z_goto (tgt := 41) F dX7_farOf_29 (by decide) ?_
      refine lv_istore_n (lv' := [(3, .int (iI 0)), (2, .int (iI v_27)), (0, .ref mo), (1, .int (iI rr))]) F.1 F.2.1 dX7_farOf_41 rfl hl (by decide) rfl (fun ls hl => ?_)
      refine z_iconst F dX7_farOf_42 ?_
      refine lv_iload_n F.1 F.2.1 dX7_farOf_43 rfl (lv_at hl 1 rfl) ?_
      refine lv_iload_n F.1 F.2.1 dX7_farOf_44 rfl (lv_at hl 0 rfl) ?_
      refine z_icmp_le (tgt := 52) F dX7_farOf_45 (by decide) zv_27 ⟨by decide, by decide⟩ (fun c_59 => ?_) (fun c_59 => ?_)
      · refine lv_iload_n F.1 F.2.1 dX7_farOf_52 rfl (lv_at hl 0 rfl) ?_
        refine z_iadd F dX7_farOf_53 ?_
        exact g_iret F hr hlk hH hS hz ⟨by omega, by omega⟩ ⟨rfl, rfl, rfl, rfl, rfl, rfl, by first | omega | rfl | (dsimp only; omega)⟩ dX7_farOf_54
      · refine lv_iload_n F.1 F.2.1 dX7_farOf_48 rfl (lv_at hl 1 rfl) ?_
        refine z_goto (tgt := 53) F dX7_farOf_49 (by decide) ?_
        refine z_iadd F dX7_farOf_53 ?_
        exact g_iret F hr hlk hH hS hz ⟨by omega, by omega⟩ ⟨rfl, rfl, rfl, rfl, rfl, rfl, by first | omega | rfl | (dsimp only; omega)⟩ dX7_farOf_54
  · refine z_iconst F dX7_farOf_8 ?_
    exact g_iret F hr hlk hH hS hz ⟨by decide, by decide⟩ ⟨rfl, rfl, rfl, rfl, rfl, rfl, by first | omega | rfl | (dsimp only; omega)⟩ dX7_farOf_9

def rmX7_farOf12 : Room := { frames := 12, cells := 0, slots := 0, locals := 274 }
set_option maxHeartbeats 4000000 in
set_option maxRecDepth 100000 in
/-- farOf -/
theorem c_X7_farOf12 (l : Launch) (g : gG) (gh : gGh) (T : Nat → Int32) (I : gI) (R : gR) (J : gJ) (AI : gI) (AJ : gJ) (AR : gR) (mo : Nat) (rr : Int) (zrr : zr rr) (hv : mInv g gh R I AI) (hm : gO g mo 7) (hT : AI (gh 50 0) = T) (hr0 : 0 ≤ rr ∧ rr < (I mo 2).toInt ∧ rr < 12) : gMet l g yX7_farOf tsX7_farOf rmX7_farOf12 [.ref mo, .int (iI rr)] (I, R, J, AI, AJ, AR) (gQi g (fun (z : Int) (w : gS) => I = w.1 ∧ R = w.2.1 ∧ J = w.2.2.1 ∧ AI = w.2.2.2.1 ∧ AJ = w.2.2.2.2.1 ∧ AR = w.2.2.2.2.2 ∧ (0 ≤ z ∧ z ≤ 12))) := by
  refine gStart (cc := cX7_farOf) (maxL := 4) (ret := (some (.int))) (by decide) rfl (Nat.le_of_ble_eq_true rfl) ?_
  intro p e s m below meth c ls F hr hlk hH hz hS hl
  have hl : lv_has ls 4 [(0, .ref mo), (1, .int (iI rr))] := hl
  have hS : va_S (gA g) s.heap s.heap [] := hS
  obtain ⟨H, hHe⟩ : ∃ H : Heap, H = s.heap := ⟨_, rfl⟩
  obtain ⟨locs, hlo⟩ : ∃ k : List Loc, k = [] := ⟨_, rfl⟩
  have hH : gH g I R J AI AJ AR H := by rw [hHe]; exact hH
  have hS : va_S (gA g) s.heap H locs := by rw [hHe, hlo]; exact hS
  suffices hw : W p l e rmX7_farOf12 s m ([.ref mo, .int (iI rr)] : List Value).toArray below meth c H locs 0 0 (MQ below (gQi g (fun (z : Int) (w : gS) => I = w.1 ∧ R = w.2.1 ∧ J = w.2.2.1 ∧ AI = w.2.2.2.1 ∧ AJ = w.2.2.2.2.1 ∧ AR = w.2.2.2.2.2 ∧ (0 ≤ z ∧ z ≤ 12))) ([.ref mo, .int (iI rr)] : List Value).toArray s 0 0 (gA g)) (F0 m 0 ls []) by
    rw [hHe, hlo] at hw; exact hw
  clear hHe hlo
  have hb0 := mJ hv hm
  unfold mNum1 at hb0
  have x := mRow hv hm hT (z := rr) (by omega) (by omega)
  have xa := x.1
  have xc := x.2.2.1
  have xb := x.2.1
  refine lv_aload_n F.1 F.2.1 dX7_farOf_0 rfl (lv_at hl 0 rfl) ?_
  refine lv_iload_n F.1 F.2.1 dX7_farOf_1 rfl (lv_at hl 1 rfl) ?_
  have b_1 := mJ hv hm
  unfold mNum1 at b_1
  refine g_calli (g_runV (As := [.int (iI rr)]) (rest := []) (ci := 7) F hl.1 hH hS hz (c_X7_kindOf l g gh T I R J AI AJ AR mo rr zrr hv hm hT (by omega)) (cwV 1 F.2.2.2.2.1 (good_up gT_X7_kindOf) rfl rfl rfl hdX7_kindOf ⟨Nat.le_of_ble_eq_true rfl, Nat.le_of_ble_eq_true rfl⟩) hm (by decide) rfl rfl rfl (Nat.le_of_ble_eq_true rfl) dX7_farOf_2 ⟨Nat.zero_le _, Nat.zero_le _⟩) hS (fun v_8 I_2 R_3 J_4 AI_5 AJ_6 AR_7 H locs zv_8 hp_9 hH hS => ?_)
  dsimp only at hp_9
  obtain ⟨rfl, rfl, rfl, rfl, rfl, rfl, q_10⟩ := hp_9
  refine z_if_ne (tgt := 10) F dX7_farOf_5 (by decide) zv_8 (fun c_11 => ?_) (fun c_11 => ?_)
  · refine lv_aload_n F.1 F.2.1 dX7_farOf_10 rfl (lv_at hl 0 rfl) ?_
    refine lv_aload_n F.1 F.2.1 dX7_farOf_11 rfl (lv_at hl 0 rfl) ?_
    refine lv_iload_n F.1 F.2.1 dX7_farOf_12 rfl (lv_at hl 1 rfl) ?_
    refine g_calli (g_runV (As := [.int (iI rr)]) (rest := [.ref mo]) (ci := 7) F hl.1 hH hS hz (c_X7_firstOf l g gh T I R J AI AJ AR mo rr zrr hv hm hT (by omega)) (cwV 1 F.2.2.2.2.1 (good_up gT_X7_firstOf) rfl rfl rfl hdX7_firstOf ⟨Nat.le_of_ble_eq_true rfl, Nat.le_of_ble_eq_true rfl⟩) hm (by decide) rfl rfl rfl (Nat.le_of_ble_eq_true rfl) dX7_farOf_13 ⟨Nat.zero_le _, Nat.zero_le _⟩) hS (fun v_18 I_12 R_13 J_14 AI_15 AJ_16 AR_17 H locs zv_18 hp_19 hH hS => ?_)
    dsimp only at hp_19
    obtain ⟨rfl, rfl, rfl, rfl, rfl, rfl, q_20⟩ := hp_19
    refine g_calli (g_runV (As := [.int (iI v_18)]) (rest := []) (ci := 7) F hl.1 hH hS hz (c_X7_farOf11 l g gh T I R J AI AJ AR mo v_18 zv_18 hv hm hT (by omega)) (cwV 1 F.2.2.2.2.1 (good_up gT_X7_farOf) rfl rfl rfl hdX7_farOf ⟨Nat.le_of_ble_eq_true rfl, Nat.le_of_ble_eq_true rfl⟩) hm (by decide) rfl rfl rfl (Nat.le_of_ble_eq_true rfl) dX7_farOf_16 ⟨Nat.zero_le _, Nat.zero_le _⟩) hS (fun v_27 I_21 R_22 J_23 AI_24 AJ_25 AR_26 H locs zv_27 hp_28 hH hS => ?_)
    dsimp only at hp_28
    obtain ⟨rfl, rfl, rfl, rfl, rfl, rfl, q_29⟩ := hp_28
    refine lv_istore_n (lv' := [(2, .int (iI v_27)), (0, .ref mo), (1, .int (iI rr))]) F.1 F.2.1 dX7_farOf_19 rfl hl (by decide) rfl (fun ls hl => ?_)
    refine lv_aload_n F.1 F.2.1 dX7_farOf_20 rfl (lv_at hl 1 rfl) ?_
    refine lv_iload_n F.1 F.2.1 dX7_farOf_21 rfl (lv_at hl 2 rfl) ?_
    refine g_calli (g_runV (As := [.int (iI rr)]) (rest := []) (ci := 7) F hl.1 hH hS hz (c_X7_secondOf l g gh T I R J AI AJ AR mo rr zrr hv hm hT (by omega)) (cwV 1 F.2.2.2.2.1 (good_up gT_X7_secondOf) rfl rfl rfl hdX7_secondOf ⟨Nat.le_of_ble_eq_true rfl, Nat.le_of_ble_eq_true rfl⟩) hm (by decide) rfl rfl rfl (Nat.le_of_ble_eq_true rfl) dX7_farOf_22 ⟨Nat.zero_le _, Nat.zero_le _⟩) hS (fun v_36 I_30 R_31 J_32 AI_33 AJ_34 AR_35 H locs zv_36 hp_37 hH hS => ?_)
    dsimp only at hp_37
    obtain ⟨rfl, rfl, rfl, rfl, rfl, rfl, q_38⟩ := hp_37
    refine z_if_ge (tgt := 32) F dX7_farOf_25 (by decide) zv_36 (fun c_39 => ?_) (fun c_39 => ?_)
    · refine lv_aload_n F.1 F.2.1 dX7_farOf_32 rfl (lv_at hl 1 rfl) ?_
      refine lv_aload_n F.1 F.2.1 dX7_farOf_33 rfl (lv_at hl 1 rfl) ?_
      refine lv_iload_n F.1 F.2.1 dX7_farOf_34 rfl (lv_at hl 2 rfl) ?_
      refine g_calli (g_runV (As := [.int (iI rr)]) (rest := [.ref mo]) (ci := 7) F hl.1 hH hS hz (c_X7_secondOf l g gh T I R J AI AJ AR mo rr zrr hv hm hT (by omega)) (cwV 1 F.2.2.2.2.1 (good_up gT_X7_secondOf) rfl rfl rfl hdX7_secondOf ⟨Nat.le_of_ble_eq_true rfl, Nat.le_of_ble_eq_true rfl⟩) hm (by decide) rfl rfl rfl (Nat.le_of_ble_eq_true rfl) dX7_farOf_35 ⟨Nat.zero_le _, Nat.zero_le _⟩) hS (fun v_46 I_40 R_41 J_42 AI_43 AJ_44 AR_45 H locs zv_46 hp_47 hH hS => ?_)
      dsimp only at hp_47
      obtain ⟨rfl, rfl, rfl, rfl, rfl, rfl, q_48⟩ := hp_47
      refine g_calli (g_runV (As := [.int (iI v_46)]) (rest := []) (ci := 7) F hl.1 hH hS hz (c_X7_farOf11 l g gh T I R J AI AJ AR mo v_46 zv_46 hv hm hT (by omega)) (cwV 1 F.2.2.2.2.1 (good_up gT_X7_farOf) rfl rfl rfl hdX7_farOf ⟨Nat.le_of_ble_eq_true rfl, Nat.le_of_ble_eq_true rfl⟩) hm (by decide) rfl rfl rfl (Nat.le_of_ble_eq_true rfl) dX7_farOf_38 ⟨Nat.zero_le _, Nat.zero_le _⟩) hS (fun v_55 I_49 R_50 J_51 AI_52 AJ_53 AR_54 H locs zv_55 hp_56 hH hS => ?_)
      dsimp only at hp_56
      obtain ⟨rfl, rfl, rfl, rfl, rfl, rfl, q_57⟩ := hp_56
      refine lv_istore_n (lv' := [(3, .int (iI v_55)), (2, .int (iI v_27)), (0, .ref mo), (1, .int (iI rr))]) F.1 F.2.1 dX7_farOf_41 rfl hl (by decide) rfl (fun ls hl => ?_)
      refine z_iconst F dX7_farOf_42 ?_
      refine lv_iload_n F.1 F.2.1 dX7_farOf_43 rfl (lv_at hl 1 rfl) ?_
      refine lv_iload_n F.1 F.2.1 dX7_farOf_44 rfl (lv_at hl 0 rfl) ?_
      refine z_icmp_le (tgt := 52) F dX7_farOf_45 (by decide) zv_27 zv_55 (fun c_58 => ?_) (fun c_58 => ?_)
      · refine lv_iload_n F.1 F.2.1 dX7_farOf_52 rfl (lv_at hl 0 rfl) ?_
        refine z_iadd F dX7_farOf_53 ?_
        exact g_iret F hr hlk hH hS hz ⟨by omega, by omega⟩ ⟨rfl, rfl, rfl, rfl, rfl, rfl, by first | omega | rfl | (dsimp only; omega)⟩ dX7_farOf_54
      · refine lv_iload_n F.1 F.2.1 dX7_farOf_48 rfl (lv_at hl 1 rfl) ?_
        refine z_goto (tgt := 53) F dX7_farOf_49 (by decide) ?_
        refine z_iadd F dX7_farOf_53 ?_
        exact g_iret F hr hlk hH hS hz ⟨by omega, by omega⟩ ⟨rfl, rfl, rfl, rfl, rfl, rfl, by first | omega | rfl | (dsimp only; omega)⟩ dX7_farOf_54
    · refine z_iconst F dX7_farOf_28 ?_
      refine z_goto (tgt := 41) F dX7_farOf_29 (by decide) ?_
      refine lv_istore_n (lv' := [(3, .int (iI 0)), (2, .int (iI v_27)), (0, .ref mo), (1, .int (iI rr))]) F.1 F.2.1 dX7_farOf_41 rfl hl (by decide) rfl (fun ls hl => ?_)
      refine z_iconst F dX7_farOf_42 ?_
      refine lv_iload_n F.1 F.2.1 dX7_farOf_43 rfl (lv_at hl 1 rfl) ?_
      refine lv_iload_n F.1 F.2.1 dX7_farOf_44 rfl (lv_at hl 0 rfl) ?_
      refine z_icmp_le (tgt := 52) F dX7_farOf_45 (by decide) zv_27 ⟨by decide, by decide⟩ (fun c_59 => ?_) (fun c_59 => ?_)
      · refine lv_iload_n F.1 F.2.1 dX7_farOf_52 rfl (lv_at hl 0 rfl) ?_
        refine z_iadd F dX7_farOf_53 ?_
        exact g_iret F hr hlk hH hS hz ⟨by omega, by omega⟩ ⟨rfl, rfl, rfl, rfl, rfl, rfl, by first | omega | rfl | (dsimp only; omega)⟩ dX7_farOf_54
      · refine lv_iload_n F.1 F.2.1 dX7_farOf_48 rfl (lv_at hl 1 rfl) ?_
        refine z_goto (tgt := 53) F dX7_farOf_49 (by decide) ?_
        refine z_iadd F dX7_farOf_53 ?_
        exact g_iret F hr hlk hH hS hz ⟨by omega, by omega⟩ ⟨rfl, rfl, rfl, rfl, rfl, rfl, by first | omega | rfl | (dsimp only; omega)⟩ dX7_farOf_54
  · refine z_iconst F dX7_farOf_8 ?_
    exact g_iret F hr hlk hH hS hz ⟨by decide, by decide⟩ ⟨rfl, rfl, rfl, rfl, rfl, rfl, by first | omega | rfl | (dsimp only; omega)⟩ dX7_farOf_9

def rmX7_farOf13 : Room := { frames := 13, cells := 0, slots := 0, locals := 297 }
set_option maxHeartbeats 4000000 in
set_option maxRecDepth 100000 in
/-- farOf -/
theorem c_X7_farOf13 (l : Launch) (g : gG) (gh : gGh) (T : Nat → Int32) (I : gI) (R : gR) (J : gJ) (AI : gI) (AJ : gJ) (AR : gR) (mo : Nat) (rr : Int) (zrr : zr rr) (hv : mInv g gh R I AI) (hm : gO g mo 7) (hT : AI (gh 50 0) = T) (hr0 : 0 ≤ rr ∧ rr < (I mo 2).toInt ∧ rr < 13) : gMet l g yX7_farOf tsX7_farOf rmX7_farOf13 [.ref mo, .int (iI rr)] (I, R, J, AI, AJ, AR) (gQi g (fun (z : Int) (w : gS) => I = w.1 ∧ R = w.2.1 ∧ J = w.2.2.1 ∧ AI = w.2.2.2.1 ∧ AJ = w.2.2.2.2.1 ∧ AR = w.2.2.2.2.2 ∧ (0 ≤ z ∧ z ≤ 13))) := by
  refine gStart (cc := cX7_farOf) (maxL := 4) (ret := (some (.int))) (by decide) rfl (Nat.le_of_ble_eq_true rfl) ?_
  intro p e s m below meth c ls F hr hlk hH hz hS hl
  have hl : lv_has ls 4 [(0, .ref mo), (1, .int (iI rr))] := hl
  have hS : va_S (gA g) s.heap s.heap [] := hS
  obtain ⟨H, hHe⟩ : ∃ H : Heap, H = s.heap := ⟨_, rfl⟩
  obtain ⟨locs, hlo⟩ : ∃ k : List Loc, k = [] := ⟨_, rfl⟩
  have hH : gH g I R J AI AJ AR H := by rw [hHe]; exact hH
  have hS : va_S (gA g) s.heap H locs := by rw [hHe, hlo]; exact hS
  suffices hw : W p l e rmX7_farOf13 s m ([.ref mo, .int (iI rr)] : List Value).toArray below meth c H locs 0 0 (MQ below (gQi g (fun (z : Int) (w : gS) => I = w.1 ∧ R = w.2.1 ∧ J = w.2.2.1 ∧ AI = w.2.2.2.1 ∧ AJ = w.2.2.2.2.1 ∧ AR = w.2.2.2.2.2 ∧ (0 ≤ z ∧ z ≤ 13))) ([.ref mo, .int (iI rr)] : List Value).toArray s 0 0 (gA g)) (F0 m 0 ls []) by
    rw [hHe, hlo] at hw; exact hw
  clear hHe hlo
  have hb0 := mJ hv hm
  unfold mNum1 at hb0
  have x := mRow hv hm hT (z := rr) (by omega) (by omega)
  have xa := x.1
  have xc := x.2.2.1
  have xb := x.2.1
  refine lv_aload_n F.1 F.2.1 dX7_farOf_0 rfl (lv_at hl 0 rfl) ?_
  refine lv_iload_n F.1 F.2.1 dX7_farOf_1 rfl (lv_at hl 1 rfl) ?_
  have b_1 := mJ hv hm
  unfold mNum1 at b_1
  refine g_calli (g_runV (As := [.int (iI rr)]) (rest := []) (ci := 7) F hl.1 hH hS hz (c_X7_kindOf l g gh T I R J AI AJ AR mo rr zrr hv hm hT (by omega)) (cwV 1 F.2.2.2.2.1 (good_up gT_X7_kindOf) rfl rfl rfl hdX7_kindOf ⟨Nat.le_of_ble_eq_true rfl, Nat.le_of_ble_eq_true rfl⟩) hm (by decide) rfl rfl rfl (Nat.le_of_ble_eq_true rfl) dX7_farOf_2 ⟨Nat.zero_le _, Nat.zero_le _⟩) hS (fun v_8 I_2 R_3 J_4 AI_5 AJ_6 AR_7 H locs zv_8 hp_9 hH hS => ?_)
  dsimp only at hp_9
  obtain ⟨rfl, rfl, rfl, rfl, rfl, rfl, q_10⟩ := hp_9
  refine z_if_ne (tgt := 10) F dX7_farOf_5 (by decide) zv_8 (fun c_11 => ?_) (fun c_11 => ?_)
  · refine lv_aload_n F.1 F.2.1 dX7_farOf_10 rfl (lv_at hl 0 rfl) ?_
    refine lv_aload_n F.1 F.2.1 dX7_farOf_11 rfl (lv_at hl 0 rfl) ?_
    refine lv_iload_n F.1 F.2.1 dX7_farOf_12 rfl (lv_at hl 1 rfl) ?_
    refine g_calli (g_runV (As := [.int (iI rr)]) (rest := [.ref mo]) (ci := 7) F hl.1 hH hS hz (c_X7_firstOf l g gh T I R J AI AJ AR mo rr zrr hv hm hT (by omega)) (cwV 1 F.2.2.2.2.1 (good_up gT_X7_firstOf) rfl rfl rfl hdX7_firstOf ⟨Nat.le_of_ble_eq_true rfl, Nat.le_of_ble_eq_true rfl⟩) hm (by decide) rfl rfl rfl (Nat.le_of_ble_eq_true rfl) dX7_farOf_13 ⟨Nat.zero_le _, Nat.zero_le _⟩) hS (fun v_18 I_12 R_13 J_14 AI_15 AJ_16 AR_17 H locs zv_18 hp_19 hH hS => ?_)
    dsimp only at hp_19
    obtain ⟨rfl, rfl, rfl, rfl, rfl, rfl, q_20⟩ := hp_19
    refine g_calli (g_runV (As := [.int (iI v_18)]) (rest := []) (ci := 7) F hl.1 hH hS hz (c_X7_farOf12 l g gh T I R J AI AJ AR mo v_18 zv_18 hv hm hT (by omega)) (cwV 1 F.2.2.2.2.1 (good_up gT_X7_farOf) rfl rfl rfl hdX7_farOf ⟨Nat.le_of_ble_eq_true rfl, Nat.le_of_ble_eq_true rfl⟩) hm (by decide) rfl rfl rfl (Nat.le_of_ble_eq_true rfl) dX7_farOf_16 ⟨Nat.zero_le _, Nat.zero_le _⟩) hS (fun v_27 I_21 R_22 J_23 AI_24 AJ_25 AR_26 H locs zv_27 hp_28 hH hS => ?_)
    dsimp only at hp_28
    obtain ⟨rfl, rfl, rfl, rfl, rfl, rfl, q_29⟩ := hp_28
    refine lv_istore_n (lv' := [(2, .int (iI v_27)), (0, .ref mo), (1, .int (iI rr))]) F.1 F.2.1 dX7_farOf_19 rfl hl (by decide) rfl (fun ls hl => ?_)
    refine lv_aload_n F.1 F.2.1 dX7_farOf_20 rfl (lv_at hl 1 rfl) ?_
    refine lv_iload_n F.1 F.2.1 dX7_farOf_21 rfl (lv_at hl 2 rfl) ?_
    refine g_calli (g_runV (As := [.int (iI rr)]) (rest := []) (ci := 7) F hl.1 hH hS hz (c_X7_secondOf l g gh T I R J AI AJ AR mo rr zrr hv hm hT (by omega)) (cwV 1 F.2.2.2.2.1 (good_up gT_X7_secondOf) rfl rfl rfl hdX7_secondOf ⟨Nat.le_of_ble_eq_true rfl, Nat.le_of_ble_eq_true rfl⟩) hm (by decide) rfl rfl rfl (Nat.le_of_ble_eq_true rfl) dX7_farOf_22 ⟨Nat.zero_le _, Nat.zero_le _⟩) hS (fun v_36 I_30 R_31 J_32 AI_33 AJ_34 AR_35 H locs zv_36 hp_37 hH hS => ?_)
    dsimp only at hp_37
    obtain ⟨rfl, rfl, rfl, rfl, rfl, rfl, q_38⟩ := hp_37
    refine z_if_ge (tgt := 32) F dX7_farOf_25 (by decide) zv_36 (fun c_39 => ?_) (fun c_39 => ?_)
    · refine lv_aload_n F.1 F.2.1 dX7_farOf_32 rfl (lv_at hl 1 rfl) ?_
      refine lv_aload_n F.1 F.2.1 dX7_farOf_33 rfl (lv_at hl 1 rfl) ?_
      refine lv_iload_n F.1 F.2.1 dX7_farOf_34 rfl (lv_at hl 2 rfl) ?_
      refine g_calli (g_runV (As := [.int (iI rr)]) (rest := [.ref mo]) (ci := 7) F hl.1 hH hS hz (c_X7_secondOf l g gh T I R J AI AJ AR mo rr zrr hv hm hT (by omega)) (cwV 1 F.2.2.2.2.1 (good_up gT_X7_secondOf) rfl rfl rfl hdX7_secondOf ⟨Nat.le_of_ble_eq_true rfl, Nat.le_of_ble_eq_true rfl⟩) hm (by decide) rfl rfl rfl (Nat.le_of_ble_eq_true rfl) dX7_farOf_35 ⟨Nat.zero_le _, Nat.zero_le _⟩) hS (fun v_46 I_40 R_41 J_42 AI_43 AJ_44 AR_45 H locs zv_46 hp_47 hH hS => ?_)
      dsimp only at hp_47
      obtain ⟨rfl, rfl, rfl, rfl, rfl, rfl, q_48⟩ := hp_47
      refine g_calli (g_runV (As := [.int (iI v_46)]) (rest := []) (ci := 7) F hl.1 hH hS hz (c_X7_farOf12 l g gh T I R J AI AJ AR mo v_46 zv_46 hv hm hT (by omega)) (cwV 1 F.2.2.2.2.1 (good_up gT_X7_farOf) rfl rfl rfl hdX7_farOf ⟨Nat.le_of_ble_eq_true rfl, Nat.le_of_ble_eq_true rfl⟩) hm (by decide) rfl rfl rfl (Nat.le_of_ble_eq_true rfl) dX7_farOf_38 ⟨Nat.zero_le _, Nat.zero_le _⟩) hS (fun v_55 I_49 R_50 J_51 AI_52 AJ_53 AR_54 H locs zv_55 hp_56 hH hS => ?_)
      dsimp only at hp_56
      obtain ⟨rfl, rfl, rfl, rfl, rfl, rfl, q_57⟩ := hp_56
      refine lv_istore_n (lv' := [(3, .int (iI v_55)), (2, .int (iI v_27)), (0, .ref mo), (1, .int (iI rr))]) F.1 F.2.1 dX7_farOf_41 rfl hl (by decide) rfl (fun ls hl => ?_)
      refine z_iconst F dX7_farOf_42 ?_
      refine lv_iload_n F.1 F.2.1 dX7_farOf_43 rfl (lv_at hl 1 rfl) ?_
      refine lv_iload_n F.1 F.2.1 dX7_farOf_44 rfl (lv_at hl 0 rfl) ?_
      refine z_icmp_le (tgt := 52) F dX7_farOf_45 (by decide) zv_27 zv_55 (fun c_58 => ?_) (fun c_58 => ?_)
      · refine lv_iload_n F.1 F.2.1 dX7_farOf_52 rfl (lv_at hl 0 rfl) ?_
        refine z_iadd F dX7_farOf_53 ?_
        exact g_iret F hr hlk hH hS hz ⟨by omega, by omega⟩ ⟨rfl, rfl, rfl, rfl, rfl, rfl, by first | omega | rfl | (dsimp only; omega)⟩ dX7_farOf_54
      · refine lv_iload_n F.1 F.2.1 dX7_farOf_48 rfl (lv_at hl 1 rfl) ?_
        refine z_goto (tgt := 53) F dX7_farOf_49 (by decide) ?_
        refine z_iadd F dX7_farOf_53 ?_
        exact g_iret F hr hlk hH hS hz ⟨by omega, by omega⟩ ⟨rfl, rfl, rfl, rfl, rfl, rfl, by first | omega | rfl | (dsimp only; omega)⟩ dX7_farOf_54
    · refine z_iconst F dX7_farOf_28 ?_
      refine z_goto (tgt := 41) F dX7_farOf_29 (by decide) ?_
      refine lv_istore_n (lv' := [(3, .int (iI 0)), (2, .int (iI v_27)), (0, .ref mo), (1, .int (iI rr))]) F.1 F.2.1 dX7_farOf_41 rfl hl (by decide) rfl (fun ls hl => ?_)
      refine z_iconst F dX7_farOf_42 ?_
      refine lv_iload_n F.1 F.2.1 dX7_farOf_43 rfl (lv_at hl 1 rfl) ?_
      refine lv_iload_n F.1 F.2.1 dX7_farOf_44 rfl (lv_at hl 0 rfl) ?_
      refine z_icmp_le (tgt := 52) F dX7_farOf_45 (by decide) zv_27 ⟨by decide, by decide⟩ (fun c_59 => ?_) (fun c_59 => ?_)
      · refine lv_iload_n F.1 F.2.1 dX7_farOf_52 rfl (lv_at hl 0 rfl) ?_
        refine z_iadd F dX7_farOf_53 ?_
        exact g_iret F hr hlk hH hS hz ⟨by omega, by omega⟩ ⟨rfl, rfl, rfl, rfl, rfl, rfl, by first | omega | rfl | (dsimp only; omega)⟩ dX7_farOf_54
      · refine lv_iload_n F.1 F.2.1 dX7_farOf_48 rfl (lv_at hl 1 rfl) ?_
        refine z_goto (tgt := 53) F dX7_farOf_49 (by decide) ?_
        refine z_iadd F dX7_farOf_53 ?_
        exact g_iret F hr hlk hH hS hz ⟨by omega, by omega⟩ ⟨rfl, rfl, rfl, rfl, rfl, rfl, by first | omega | rfl | (dsimp only; omega)⟩ dX7_farOf_54
  · refine z_iconst F dX7_farOf_8 ?_
    exact g_iret F hr hlk hH hS hz ⟨by decide, by decide⟩ ⟨rfl, rfl, rfl, rfl, rfl, rfl, by first | omega | rfl | (dsimp only; omega)⟩ dX7_farOf_9

def rmX7_farOf14 : Room := { frames := 14, cells := 0, slots := 0, locals := 320 }
set_option maxHeartbeats 4000000 in
set_option maxRecDepth 100000 in
/-- farOf -/
theorem c_X7_farOf14 (l : Launch) (g : gG) (gh : gGh) (T : Nat → Int32) (I : gI) (R : gR) (J : gJ) (AI : gI) (AJ : gJ) (AR : gR) (mo : Nat) (rr : Int) (zrr : zr rr) (hv : mInv g gh R I AI) (hm : gO g mo 7) (hT : AI (gh 50 0) = T) (hr0 : 0 ≤ rr ∧ rr < (I mo 2).toInt ∧ rr < 14) : gMet l g yX7_farOf tsX7_farOf rmX7_farOf14 [.ref mo, .int (iI rr)] (I, R, J, AI, AJ, AR) (gQi g (fun (z : Int) (w : gS) => I = w.1 ∧ R = w.2.1 ∧ J = w.2.2.1 ∧ AI = w.2.2.2.1 ∧ AJ = w.2.2.2.2.1 ∧ AR = w.2.2.2.2.2 ∧ (0 ≤ z ∧ z ≤ 14))) := by
  refine gStart (cc := cX7_farOf) (maxL := 4) (ret := (some (.int))) (by decide) rfl (Nat.le_of_ble_eq_true rfl) ?_
  intro p e s m below meth c ls F hr hlk hH hz hS hl
  have hl : lv_has ls 4 [(0, .ref mo), (1, .int (iI rr))] := hl
  have hS : va_S (gA g) s.heap s.heap [] := hS
  obtain ⟨H, hHe⟩ : ∃ H : Heap, H = s.heap := ⟨_, rfl⟩
  obtain ⟨locs, hlo⟩ : ∃ k : List Loc, k = [] := ⟨_, rfl⟩
  have hH : gH g I R J AI AJ AR H := by rw [hHe]; exact hH
  have hS : va_S (gA g) s.heap H locs := by rw [hHe, hlo]; exact hS
  suffices hw : W p l e rmX7_farOf14 s m ([.ref mo, .int (iI rr)] : List Value).toArray below meth c H locs 0 0 (MQ below (gQi g (fun (z : Int) (w : gS) => I = w.1 ∧ R = w.2.1 ∧ J = w.2.2.1 ∧ AI = w.2.2.2.1 ∧ AJ = w.2.2.2.2.1 ∧ AR = w.2.2.2.2.2 ∧ (0 ≤ z ∧ z ≤ 14))) ([.ref mo, .int (iI rr)] : List Value).toArray s 0 0 (gA g)) (F0 m 0 ls []) by
    rw [hHe, hlo] at hw; exact hw
  clear hHe hlo
  have hb0 := mJ hv hm
  unfold mNum1 at hb0
  have x := mRow hv hm hT (z := rr) (by omega) (by omega)
  have xa := x.1
  have xc := x.2.2.1
  have xb := x.2.1
  refine lv_aload_n F.1 F.2.1 dX7_farOf_0 rfl (lv_at hl 0 rfl) ?_
  refine lv_iload_n F.1 F.2.1 dX7_farOf_1 rfl (lv_at hl 1 rfl) ?_
  have b_1 := mJ hv hm
  unfold mNum1 at b_1
  refine g_calli (g_runV (As := [.int (iI rr)]) (rest := []) (ci := 7) F hl.1 hH hS hz (c_X7_kindOf l g gh T I R J AI AJ AR mo rr zrr hv hm hT (by omega)) (cwV 1 F.2.2.2.2.1 (good_up gT_X7_kindOf) rfl rfl rfl hdX7_kindOf ⟨Nat.le_of_ble_eq_true rfl, Nat.le_of_ble_eq_true rfl⟩) hm (by decide) rfl rfl rfl (Nat.le_of_ble_eq_true rfl) dX7_farOf_2 ⟨Nat.zero_le _, Nat.zero_le _⟩) hS (fun v_8 I_2 R_3 J_4 AI_5 AJ_6 AR_7 H locs zv_8 hp_9 hH hS => ?_)
  dsimp only at hp_9
  obtain ⟨rfl, rfl, rfl, rfl, rfl, rfl, q_10⟩ := hp_9
  refine z_if_ne (tgt := 10) F dX7_farOf_5 (by decide) zv_8 (fun c_11 => ?_) (fun c_11 => ?_)
  · refine lv_aload_n F.1 F.2.1 dX7_farOf_10 rfl (lv_at hl 0 rfl) ?_
    refine lv_aload_n F.1 F.2.1 dX7_farOf_11 rfl (lv_at hl 0 rfl) ?_
    refine lv_iload_n F.1 F.2.1 dX7_farOf_12 rfl (lv_at hl 1 rfl) ?_
    refine g_calli (g_runV (As := [.int (iI rr)]) (rest := [.ref mo]) (ci := 7) F hl.1 hH hS hz (c_X7_firstOf l g gh T I R J AI AJ AR mo rr zrr hv hm hT (by omega)) (cwV 1 F.2.2.2.2.1 (good_up gT_X7_firstOf) rfl rfl rfl hdX7_firstOf ⟨Nat.le_of_ble_eq_true rfl, Nat.le_of_ble_eq_true rfl⟩) hm (by decide) rfl rfl rfl (Nat.le_of_ble_eq_true rfl) dX7_farOf_13 ⟨Nat.zero_le _, Nat.zero_le _⟩) hS (fun v_18 I_12 R_13 J_14 AI_15 AJ_16 AR_17 H locs zv_18 hp_19 hH hS => ?_)
    dsimp only at hp_19
    obtain ⟨rfl, rfl, rfl, rfl, rfl, rfl, q_20⟩ := hp_19
    refine g_calli (g_runV (As := [.int (iI v_18)]) (rest := []) (ci := 7) F hl.1 hH hS hz (c_X7_farOf13 l g gh T I R J AI AJ AR mo v_18 zv_18 hv hm hT (by omega)) (cwV 1 F.2.2.2.2.1 (good_up gT_X7_farOf) rfl rfl rfl hdX7_farOf ⟨Nat.le_of_ble_eq_true rfl, Nat.le_of_ble_eq_true rfl⟩) hm (by decide) rfl rfl rfl (Nat.le_of_ble_eq_true rfl) dX7_farOf_16 ⟨Nat.zero_le _, Nat.zero_le _⟩) hS (fun v_27 I_21 R_22 J_23 AI_24 AJ_25 AR_26 H locs zv_27 hp_28 hH hS => ?_)
    dsimp only at hp_28
    obtain ⟨rfl, rfl, rfl, rfl, rfl, rfl, q_29⟩ := hp_28
    refine lv_istore_n (lv' := [(2, .int (iI v_27)), (0, .ref mo), (1, .int (iI rr))]) F.1 F.2.1 dX7_farOf_19 rfl hl (by decide) rfl (fun ls hl => ?_)
    refine lv_aload_n F.1 F.2.1 dX7_farOf_20 rfl (lv_at hl 1 rfl) ?_
    refine lv_iload_n F.1 F.2.1 dX7_farOf_21 rfl (lv_at hl 2 rfl) ?_
    refine g_calli (g_runV (As := [.int (iI rr)]) (rest := []) (ci := 7) F hl.1 hH hS hz (c_X7_secondOf l g gh T I R J AI AJ AR mo rr zrr hv hm hT (by omega)) (cwV 1 F.2.2.2.2.1 (good_up gT_X7_secondOf) rfl rfl rfl hdX7_secondOf ⟨Nat.le_of_ble_eq_true rfl, Nat.le_of_ble_eq_true rfl⟩) hm (by decide) rfl rfl rfl (Nat.le_of_ble_eq_true rfl) dX7_farOf_22 ⟨Nat.zero_le _, Nat.zero_le _⟩) hS (fun v_36 I_30 R_31 J_32 AI_33 AJ_34 AR_35 H locs zv_36 hp_37 hH hS => ?_)
    dsimp only at hp_37
    obtain ⟨rfl, rfl, rfl, rfl, rfl, rfl, q_38⟩ := hp_37
    refine z_if_ge (tgt := 32) F dX7_farOf_25 (by decide) zv_36 (fun c_39 => ?_) (fun c_39 => ?_)
    · refine lv_aload_n F.1 F.2.1 dX7_farOf_32 rfl (lv_at hl 1 rfl) ?_
      refine lv_aload_n F.1 F.2.1 dX7_farOf_33 rfl (lv_at hl 1 rfl) ?_
      refine lv_iload_n F.1 F.2.1 dX7_farOf_34 rfl (lv_at hl 2 rfl) ?_
      refine g_calli (g_runV (As := [.int (iI rr)]) (rest := [.ref mo]) (ci := 7) F hl.1 hH hS hz (c_X7_secondOf l g gh T I R J AI AJ AR mo rr zrr hv hm hT (by omega)) (cwV 1 F.2.2.2.2.1 (good_up gT_X7_secondOf) rfl rfl rfl hdX7_secondOf ⟨Nat.le_of_ble_eq_true rfl, Nat.le_of_ble_eq_true rfl⟩) hm (by decide) rfl rfl rfl (Nat.le_of_ble_eq_true rfl) dX7_farOf_35 ⟨Nat.zero_le _, Nat.zero_le _⟩) hS (fun v_46 I_40 R_41 J_42 AI_43 AJ_44 AR_45 H locs zv_46 hp_47 hH hS => ?_)
      dsimp only at hp_47
      obtain ⟨rfl, rfl, rfl, rfl, rfl, rfl, q_48⟩ := hp_47
      refine g_calli (g_runV (As := [.int (iI v_46)]) (rest := []) (ci := 7) F hl.1 hH hS hz (c_X7_farOf13 l g gh T I R J AI AJ AR mo v_46 zv_46 hv hm hT (by omega)) (cwV 1 F.2.2.2.2.1 (good_up gT_X7_farOf) rfl rfl rfl hdX7_farOf ⟨Nat.le_of_ble_eq_true rfl, Nat.le_of_ble_eq_true rfl⟩) hm (by decide) rfl rfl rfl (Nat.le_of_ble_eq_true rfl) dX7_farOf_38 ⟨Nat.zero_le _, Nat.zero_le _⟩) hS (fun v_55 I_49 R_50 J_51 AI_52 AJ_53 AR_54 H locs zv_55 hp_56 hH hS => ?_)
      dsimp only at hp_56
      obtain ⟨rfl, rfl, rfl, rfl, rfl, rfl, q_57⟩ := hp_56
      refine lv_istore_n (lv' := [(3, .int (iI v_55)), (2, .int (iI v_27)), (0, .ref mo), (1, .int (iI rr))]) F.1 F.2.1 dX7_farOf_41 rfl hl (by decide) rfl (fun ls hl => ?_)
      refine z_iconst F dX7_farOf_42 ?_
      refine lv_iload_n F.1 F.2.1 dX7_farOf_43 rfl (lv_at hl 1 rfl) ?_
      refine lv_iload_n F.1 F.2.1 dX7_farOf_44 rfl (lv_at hl 0 rfl) ?_
      refine z_icmp_le (tgt := 52) F dX7_farOf_45 (by decide) zv_27 zv_55 (fun c_58 => ?_) (fun c_58 => ?_)
      · refine lv_iload_n F.1 F.2.1 dX7_farOf_52 rfl (lv_at hl 0 rfl) ?_
        refine z_iadd F dX7_farOf_53 ?_
        exact g_iret F hr hlk hH hS hz ⟨by omega, by omega⟩ ⟨rfl, rfl, rfl, rfl, rfl, rfl, by first | omega | rfl | (dsimp only; omega)⟩ dX7_farOf_54
      · refine lv_iload_n F.1 F.2.1 dX7_farOf_48 rfl (lv_at hl 1 rfl) ?_
        refine z_goto (tgt := 53) F dX7_farOf_49 (by decide) ?_
        refine z_iadd F dX7_farOf_53 ?_
        exact g_iret F hr hlk hH hS hz ⟨by omega, by omega⟩ ⟨rfl, rfl, rfl, rfl, rfl, rfl, by first | omega | rfl | (dsimp only; omega)⟩ dX7_farOf_54
    · refine z_iconst F dX7_farOf_28 ?_
      refine z_goto (tgt := 41) F dX7_farOf_29 (by decide) ?_
      refine lv_istore_n (lv' := [(3, .int (iI 0)), (2, .int (iI v_27)), (0, .ref mo), (1, .int (iI rr))]) F.1 F.2.1 dX7_farOf_41 rfl hl (by decide) rfl (fun ls hl => ?_)
      refine z_iconst F dX7_farOf_42 ?_
      refine lv_iload_n F.1 F.2.1 dX7_farOf_43 rfl (lv_at hl 1 rfl) ?_
      refine lv_iload_n F.1 F.2.1 dX7_farOf_44 rfl (lv_at hl 0 rfl) ?_
      refine z_icmp_le (tgt := 52) F dX7_farOf_45 (by decide) zv_27 ⟨by decide, by decide⟩ (fun c_59 => ?_) (fun c_59 => ?_)
      · refine lv_iload_n F.1 F.2.1 dX7_farOf_52 rfl (lv_at hl 0 rfl) ?_
        refine z_iadd F dX7_farOf_53 ?_
        exact g_iret F hr hlk hH hS hz ⟨by omega, by omega⟩ ⟨rfl, rfl, rfl, rfl, rfl, rfl, by first | omega | rfl | (dsimp only; omega)⟩ dX7_farOf_54
      · refine lv_iload_n F.1 F.2.1 dX7_farOf_48 rfl (lv_at hl 1 rfl) ?_
        refine z_goto (tgt := 53) F dX7_farOf_49 (by decide) ?_
        refine z_iadd F dX7_farOf_53 ?_
        exact g_iret F hr hlk hH hS hz ⟨by omega, by omega⟩ ⟨rfl, rfl, rfl, rfl, rfl, rfl, by first | omega | rfl | (dsimp only; omega)⟩ dX7_farOf_54
  · refine z_iconst F dX7_farOf_8 ?_
    exact g_iret F hr hlk hH hS hz ⟨by decide, by decide⟩ ⟨rfl, rfl, rfl, rfl, rfl, rfl, by first | omega | rfl | (dsimp only; omega)⟩ dX7_farOf_9

def rmX7_farOf15 : Room := { frames := 15, cells := 0, slots := 0, locals := 343 }
set_option maxHeartbeats 4000000 in
set_option maxRecDepth 100000 in
/-- farOf -/
theorem c_X7_farOf15 (l : Launch) (g : gG) (gh : gGh) (T : Nat → Int32) (I : gI) (R : gR) (J : gJ) (AI : gI) (AJ : gJ) (AR : gR) (mo : Nat) (rr : Int) (zrr : zr rr) (hv : mInv g gh R I AI) (hm : gO g mo 7) (hT : AI (gh 50 0) = T) (hr0 : 0 ≤ rr ∧ rr < (I mo 2).toInt ∧ rr < 15) : gMet l g yX7_farOf tsX7_farOf rmX7_farOf15 [.ref mo, .int (iI rr)] (I, R, J, AI, AJ, AR) (gQi g (fun (z : Int) (w : gS) => I = w.1 ∧ R = w.2.1 ∧ J = w.2.2.1 ∧ AI = w.2.2.2.1 ∧ AJ = w.2.2.2.2.1 ∧ AR = w.2.2.2.2.2 ∧ (0 ≤ z ∧ z ≤ 15))) := by
  refine gStart (cc := cX7_farOf) (maxL := 4) (ret := (some (.int))) (by decide) rfl (Nat.le_of_ble_eq_true rfl) ?_
  intro p e s m below meth c ls F hr hlk hH hz hS hl
  have hl : lv_has ls 4 [(0, .ref mo), (1, .int (iI rr))] := hl
  have hS : va_S (gA g) s.heap s.heap [] := hS
  obtain ⟨H, hHe⟩ : ∃ H : Heap, H = s.heap := ⟨_, rfl⟩
  obtain ⟨locs, hlo⟩ : ∃ k : List Loc, k = [] := ⟨_, rfl⟩
  have hH : gH g I R J AI AJ AR H := by rw [hHe]; exact hH
  have hS : va_S (gA g) s.heap H locs := by rw [hHe, hlo]; exact hS
  suffices hw : W p l e rmX7_farOf15 s m ([.ref mo, .int (iI rr)] : List Value).toArray below meth c H locs 0 0 (MQ below (gQi g (fun (z : Int) (w : gS) => I = w.1 ∧ R = w.2.1 ∧ J = w.2.2.1 ∧ AI = w.2.2.2.1 ∧ AJ = w.2.2.2.2.1 ∧ AR = w.2.2.2.2.2 ∧ (0 ≤ z ∧ z ≤ 15))) ([.ref mo, .int (iI rr)] : List Value).toArray s 0 0 (gA g)) (F0 m 0 ls []) by
    rw [hHe, hlo] at hw; exact hw
  clear hHe hlo
  have hb0 := mJ hv hm
  unfold mNum1 at hb0
  have x := mRow hv hm hT (z := rr) (by omega) (by omega)
  have xa := x.1
  have xc := x.2.2.1
  have xb := x.2.1
  refine lv_aload_n F.1 F.2.1 dX7_farOf_0 rfl (lv_at hl 0 rfl) ?_
  refine lv_iload_n F.1 F.2.1 dX7_farOf_1 rfl (lv_at hl 1 rfl) ?_
  have b_1 := mJ hv hm
  unfold mNum1 at b_1
  refine g_calli (g_runV (As := [.int (iI rr)]) (rest := []) (ci := 7) F hl.1 hH hS hz (c_X7_kindOf l g gh T I R J AI AJ AR mo rr zrr hv hm hT (by omega)) (cwV 1 F.2.2.2.2.1 (good_up gT_X7_kindOf) rfl rfl rfl hdX7_kindOf ⟨Nat.le_of_ble_eq_true rfl, Nat.le_of_ble_eq_true rfl⟩) hm (by decide) rfl rfl rfl (Nat.le_of_ble_eq_true rfl) dX7_farOf_2 ⟨Nat.zero_le _, Nat.zero_le _⟩) hS (fun v_8 I_2 R_3 J_4 AI_5 AJ_6 AR_7 H locs zv_8 hp_9 hH hS => ?_)
  dsimp only at hp_9
  obtain ⟨rfl, rfl, rfl, rfl, rfl, rfl, q_10⟩ := hp_9
  refine z_if_ne (tgt := 10) F dX7_farOf_5 (by decide) zv_8 (fun c_11 => ?_) (fun c_11 => ?_)
  · refine lv_aload_n F.1 F.2.1 dX7_farOf_10 rfl (lv_at hl 0 rfl) ?_
    refine lv_aload_n F.1 F.2.1 dX7_farOf_11 rfl (lv_at hl 0 rfl) ?_
    refine lv_iload_n F.1 F.2.1 dX7_farOf_12 rfl (lv_at hl 1 rfl) ?_
    refine g_calli (g_runV (As := [.int (iI rr)]) (rest := [.ref mo]) (ci := 7) F hl.1 hH hS hz (c_X7_firstOf l g gh T I R J AI AJ AR mo rr zrr hv hm hT (by omega)) (cwV 1 F.2.2.2.2.1 (good_up gT_X7_firstOf) rfl rfl rfl hdX7_firstOf ⟨Nat.le_of_ble_eq_true rfl, Nat.le_of_ble_eq_true rfl⟩) hm (by decide) rfl rfl rfl (Nat.le_of_ble_eq_true rfl) dX7_farOf_13 ⟨Nat.zero_le _, Nat.zero_le _⟩) hS (fun v_18 I_12 R_13 J_14 AI_15 AJ_16 AR_17 H locs zv_18 hp_19 hH hS => ?_)
    dsimp only at hp_19
    obtain ⟨rfl, rfl, rfl, rfl, rfl, rfl, q_20⟩ := hp_19
    refine g_calli (g_runV (As := [.int (iI v_18)]) (rest := []) (ci := 7) F hl.1 hH hS hz (c_X7_farOf14 l g gh T I R J AI AJ AR mo v_18 zv_18 hv hm hT (by omega)) (cwV 1 F.2.2.2.2.1 (good_up gT_X7_farOf) rfl rfl rfl hdX7_farOf ⟨Nat.le_of_ble_eq_true rfl, Nat.le_of_ble_eq_true rfl⟩) hm (by decide) rfl rfl rfl (Nat.le_of_ble_eq_true rfl) dX7_farOf_16 ⟨Nat.zero_le _, Nat.zero_le _⟩) hS (fun v_27 I_21 R_22 J_23 AI_24 AJ_25 AR_26 H locs zv_27 hp_28 hH hS => ?_)
    dsimp only at hp_28
    obtain ⟨rfl, rfl, rfl, rfl, rfl, rfl, q_29⟩ := hp_28
    refine lv_istore_n (lv' := [(2, .int (iI v_27)), (0, .ref mo), (1, .int (iI rr))]) F.1 F.2.1 dX7_farOf_19 rfl hl (by decide) rfl (fun ls hl => ?_)
    refine lv_aload_n F.1 F.2.1 dX7_farOf_20 rfl (lv_at hl 1 rfl) ?_
    refine lv_iload_n F.1 F.2.1 dX7_farOf_21 rfl (lv_at hl 2 rfl) ?_
    refine g_calli (g_runV (As := [.int (iI rr)]) (rest := []) (ci := 7) F hl.1 hH hS hz (c_X7_secondOf l g gh T I R J AI AJ AR mo rr zrr hv hm hT (by omega)) (cwV 1 F.2.2.2.2.1 (good_up gT_X7_secondOf) rfl rfl rfl hdX7_secondOf ⟨Nat.le_of_ble_eq_true rfl, Nat.le_of_ble_eq_true rfl⟩) hm (by decide) rfl rfl rfl (Nat.le_of_ble_eq_true rfl) dX7_farOf_22 ⟨Nat.zero_le _, Nat.zero_le _⟩) hS (fun v_36 I_30 R_31 J_32 AI_33 AJ_34 AR_35 H locs zv_36 hp_37 hH hS => ?_)
    dsimp only at hp_37
    obtain ⟨rfl, rfl, rfl, rfl, rfl, rfl, q_38⟩ := hp_37
    refine z_if_ge (tgt := 32) F dX7_farOf_25 (by decide) zv_36 (fun c_39 => ?_) (fun c_39 => ?_)
    · refine lv_aload_n F.1 F.2.1 dX7_farOf_32 rfl (lv_at hl 1 rfl) ?_
      refine lv_aload_n F.1 F.2.1 dX7_farOf_33 rfl (lv_at hl 1 rfl) ?_
      refine lv_iload_n F.1 F.2.1 dX7_farOf_34 rfl (lv_at hl 2 rfl) ?_
      refine g_calli (g_runV (As := [.int (iI rr)]) (rest := [.ref mo]) (ci := 7) F hl.1 hH hS hz (c_X7_secondOf l g gh T I R J AI AJ AR mo rr zrr hv hm hT (by omega)) (cwV 1 F.2.2.2.2.1 (good_up gT_X7_secondOf) rfl rfl rfl hdX7_secondOf ⟨Nat.le_of_ble_eq_true rfl, Nat.le_of_ble_eq_true rfl⟩) hm (by decide) rfl rfl rfl (Nat.le_of_ble_eq_true rfl) dX7_farOf_35 ⟨Nat.zero_le _, Nat.zero_le _⟩) hS (fun v_46 I_40 R_41 J_42 AI_43 AJ_44 AR_45 H locs zv_46 hp_47 hH hS => ?_)
      dsimp only at hp_47
      obtain ⟨rfl, rfl, rfl, rfl, rfl, rfl, q_48⟩ := hp_47
      refine g_calli (g_runV (As := [.int (iI v_46)]) (rest := []) (ci := 7) F hl.1 hH hS hz (c_X7_farOf14 l g gh T I R J AI AJ AR mo v_46 zv_46 hv hm hT (by omega)) (cwV 1 F.2.2.2.2.1 (good_up gT_X7_farOf) rfl rfl rfl hdX7_farOf ⟨Nat.le_of_ble_eq_true rfl, Nat.le_of_ble_eq_true rfl⟩) hm (by decide) rfl rfl rfl (Nat.le_of_ble_eq_true rfl) dX7_farOf_38 ⟨Nat.zero_le _, Nat.zero_le _⟩) hS (fun v_55 I_49 R_50 J_51 AI_52 AJ_53 AR_54 H locs zv_55 hp_56 hH hS => ?_)
      dsimp only at hp_56
      obtain ⟨rfl, rfl, rfl, rfl, rfl, rfl, q_57⟩ := hp_56
      refine lv_istore_n (lv' := [(3, .int (iI v_55)), (2, .int (iI v_27)), (0, .ref mo), (1, .int (iI rr))]) F.1 F.2.1 dX7_farOf_41 rfl hl (by decide) rfl (fun ls hl => ?_)
      refine z_iconst F dX7_farOf_42 ?_
      refine lv_iload_n F.1 F.2.1 dX7_farOf_43 rfl (lv_at hl 1 rfl) ?_
      refine lv_iload_n F.1 F.2.1 dX7_farOf_44 rfl (lv_at hl 0 rfl) ?_
      refine z_icmp_le (tgt := 52) F dX7_farOf_45 (by decide) zv_27 zv_55 (fun c_58 => ?_) (fun c_58 => ?_)
      · refine lv_iload_n F.1 F.2.1 dX7_farOf_52 rfl (lv_at hl 0 rfl) ?_
        refine z_iadd F dX7_farOf_53 ?_
        exact g_iret F hr hlk hH hS hz ⟨by omega, by omega⟩ ⟨rfl, rfl, rfl, rfl, rfl, rfl, by first | omega | rfl | (dsimp only; omega)⟩ dX7_farOf_54
      · refine lv_iload_n F.1 F.2.1 dX7_farOf_48 rfl (lv_at hl 1 rfl) ?_
        refine z_goto (tgt := 53) F dX7_farOf_49 (by decide) ?_
        refine z_iadd F dX7_farOf_53 ?_
        exact g_iret F hr hlk hH hS hz ⟨by omega, by omega⟩ ⟨rfl, rfl, rfl, rfl, rfl, rfl, by first | omega | rfl | (dsimp only; omega)⟩ dX7_farOf_54
    · refine z_iconst F dX7_farOf_28 ?_
      refine z_goto (tgt := 41) F dX7_farOf_29 (by decide) ?_
      refine lv_istore_n (lv' := [(3, .int (iI 0)), (2, .int (iI v_27)), (0, .ref mo), (1, .int (iI rr))]) F.1 F.2.1 dX7_farOf_41 rfl hl (by decide) rfl (fun ls hl => ?_)
      refine z_iconst F dX7_farOf_42 ?_
      refine lv_iload_n F.1 F.2.1 dX7_farOf_43 rfl (lv_at hl 1 rfl) ?_
      refine lv_iload_n F.1 F.2.1 dX7_farOf_44 rfl (lv_at hl 0 rfl) ?_
      refine z_icmp_le (tgt := 52) F dX7_farOf_45 (by decide) zv_27 ⟨by decide, by decide⟩ (fun c_59 => ?_) (fun c_59 => ?_)
      · refine lv_iload_n F.1 F.2.1 dX7_farOf_52 rfl (lv_at hl 0 rfl) ?_
        refine z_iadd F dX7_farOf_53 ?_
        exact g_iret F hr hlk hH hS hz ⟨by omega, by omega⟩ ⟨rfl, rfl, rfl, rfl, rfl, rfl, by first | omega | rfl | (dsimp only; omega)⟩ dX7_farOf_54
      · refine lv_iload_n F.1 F.2.1 dX7_farOf_48 rfl (lv_at hl 1 rfl) ?_
        refine z_goto (tgt := 53) F dX7_farOf_49 (by decide) ?_
        refine z_iadd F dX7_farOf_53 ?_
        exact g_iret F hr hlk hH hS hz ⟨by omega, by omega⟩ ⟨rfl, rfl, rfl, rfl, rfl, rfl, by first | omega | rfl | (dsimp only; omega)⟩ dX7_farOf_54
  · refine z_iconst F dX7_farOf_8 ?_
    exact g_iret F hr hlk hH hS hz ⟨by decide, by decide⟩ ⟨rfl, rfl, rfl, rfl, rfl, rfl, by first | omega | rfl | (dsimp only; omega)⟩ dX7_farOf_9

def rmX7_farOf16 : Room := { frames := 16, cells := 0, slots := 0, locals := 366 }
set_option maxHeartbeats 4000000 in
set_option maxRecDepth 100000 in
/-- farOf -/
theorem c_X7_farOf16 (l : Launch) (g : gG) (gh : gGh) (T : Nat → Int32) (I : gI) (R : gR) (J : gJ) (AI : gI) (AJ : gJ) (AR : gR) (mo : Nat) (rr : Int) (zrr : zr rr) (hv : mInv g gh R I AI) (hm : gO g mo 7) (hT : AI (gh 50 0) = T) (hr0 : 0 ≤ rr ∧ rr < (I mo 2).toInt ∧ rr < 16) : gMet l g yX7_farOf tsX7_farOf rmX7_farOf16 [.ref mo, .int (iI rr)] (I, R, J, AI, AJ, AR) (gQi g (fun (z : Int) (w : gS) => I = w.1 ∧ R = w.2.1 ∧ J = w.2.2.1 ∧ AI = w.2.2.2.1 ∧ AJ = w.2.2.2.2.1 ∧ AR = w.2.2.2.2.2 ∧ (0 ≤ z ∧ z ≤ 16))) := by
  refine gStart (cc := cX7_farOf) (maxL := 4) (ret := (some (.int))) (by decide) rfl (Nat.le_of_ble_eq_true rfl) ?_
  intro p e s m below meth c ls F hr hlk hH hz hS hl
  have hl : lv_has ls 4 [(0, .ref mo), (1, .int (iI rr))] := hl
  have hS : va_S (gA g) s.heap s.heap [] := hS
  obtain ⟨H, hHe⟩ : ∃ H : Heap, H = s.heap := ⟨_, rfl⟩
  obtain ⟨locs, hlo⟩ : ∃ k : List Loc, k = [] := ⟨_, rfl⟩
  have hH : gH g I R J AI AJ AR H := by rw [hHe]; exact hH
  have hS : va_S (gA g) s.heap H locs := by rw [hHe, hlo]; exact hS
  suffices hw : W p l e rmX7_farOf16 s m ([.ref mo, .int (iI rr)] : List Value).toArray below meth c H locs 0 0 (MQ below (gQi g (fun (z : Int) (w : gS) => I = w.1 ∧ R = w.2.1 ∧ J = w.2.2.1 ∧ AI = w.2.2.2.1 ∧ AJ = w.2.2.2.2.1 ∧ AR = w.2.2.2.2.2 ∧ (0 ≤ z ∧ z ≤ 16))) ([.ref mo, .int (iI rr)] : List Value).toArray s 0 0 (gA g)) (F0 m 0 ls []) by
    rw [hHe, hlo] at hw; exact hw
  clear hHe hlo
  have hb0 := mJ hv hm
  unfold mNum1 at hb0
  have x := mRow hv hm hT (z := rr) (by omega) (by omega)
  have xa := x.1
  have xc := x.2.2.1
  have xb := x.2.1
  refine lv_aload_n F.1 F.2.1 dX7_farOf_0 rfl (lv_at hl 0 rfl) ?_
  refine lv_iload_n F.1 F.2.1 dX7_farOf_1 rfl (lv_at hl 1 rfl) ?_
  have b_1 := mJ hv hm
  unfold mNum1 at b_1
  refine g_calli (g_runV (As := [.int (iI rr)]) (rest := []) (ci := 7) F hl.1 hH hS hz (c_X7_kindOf l g gh T I R J AI AJ AR mo rr zrr hv hm hT (by omega)) (cwV 1 F.2.2.2.2.1 (good_up gT_X7_kindOf) rfl rfl rfl hdX7_kindOf ⟨Nat.le_of_ble_eq_true rfl, Nat.le_of_ble_eq_true rfl⟩) hm (by decide) rfl rfl rfl (Nat.le_of_ble_eq_true rfl) dX7_farOf_2 ⟨Nat.zero_le _, Nat.zero_le _⟩) hS (fun v_8 I_2 R_3 J_4 AI_5 AJ_6 AR_7 H locs zv_8 hp_9 hH hS => ?_)
  dsimp only at hp_9
  obtain ⟨rfl, rfl, rfl, rfl, rfl, rfl, q_10⟩ := hp_9
  refine z_if_ne (tgt := 10) F dX7_farOf_5 (by decide) zv_8 (fun c_11 => ?_) (fun c_11 => ?_)
  · refine lv_aload_n F.1 F.2.1 dX7_farOf_10 rfl (lv_at hl 0 rfl) ?_
    refine lv_aload_n F.1 F.2.1 dX7_farOf_11 rfl (lv_at hl 0 rfl) ?_
    refine lv_iload_n F.1 F.2.1 dX7_farOf_12 rfl (lv_at hl 1 rfl) ?_
    refine g_calli (g_runV (As := [.int (iI rr)]) (rest := [.ref mo]) (ci := 7) F hl.1 hH hS hz (c_X7_firstOf l g gh T I R J AI AJ AR mo rr zrr hv hm hT (by omega)) (cwV 1 F.2.2.2.2.1 (good_up gT_X7_firstOf) rfl rfl rfl hdX7_firstOf ⟨Nat.le_of_ble_eq_true rfl, Nat.le_of_ble_eq_true rfl⟩) hm (by decide) rfl rfl rfl (Nat.le_of_ble_eq_true rfl) dX7_farOf_13 ⟨Nat.zero_le _, Nat.zero_le _⟩) hS (fun v_18 I_12 R_13 J_14 AI_15 AJ_16 AR_17 H locs zv_18 hp_19 hH hS => ?_)
    dsimp only at hp_19
    obtain ⟨rfl, rfl, rfl, rfl, rfl, rfl, q_20⟩ := hp_19
    refine g_calli (g_runV (As := [.int (iI v_18)]) (rest := []) (ci := 7) F hl.1 hH hS hz (c_X7_farOf15 l g gh T I R J AI AJ AR mo v_18 zv_18 hv hm hT (by omega)) (cwV 1 F.2.2.2.2.1 (good_up gT_X7_farOf) rfl rfl rfl hdX7_farOf ⟨Nat.le_of_ble_eq_true rfl, Nat.le_of_ble_eq_true rfl⟩) hm (by decide) rfl rfl rfl (Nat.le_of_ble_eq_true rfl) dX7_farOf_16 ⟨Nat.zero_le _, Nat.zero_le _⟩) hS (fun v_27 I_21 R_22 J_23 AI_24 AJ_25 AR_26 H locs zv_27 hp_28 hH hS => ?_)
    dsimp only at hp_28
    obtain ⟨rfl, rfl, rfl, rfl, rfl, rfl, q_29⟩ := hp_28
    refine lv_istore_n (lv' := [(2, .int (iI v_27)), (0, .ref mo), (1, .int (iI rr))]) F.1 F.2.1 dX7_farOf_19 rfl hl (by decide) rfl (fun ls hl => ?_)
    refine lv_aload_n F.1 F.2.1 dX7_farOf_20 rfl (lv_at hl 1 rfl) ?_
    refine lv_iload_n F.1 F.2.1 dX7_farOf_21 rfl (lv_at hl 2 rfl) ?_
    refine g_calli (g_runV (As := [.int (iI rr)]) (rest := []) (ci := 7) F hl.1 hH hS hz (c_X7_secondOf l g gh T I R J AI AJ AR mo rr zrr hv hm hT (by omega)) (cwV 1 F.2.2.2.2.1 (good_up gT_X7_secondOf) rfl rfl rfl hdX7_secondOf ⟨Nat.le_of_ble_eq_true rfl, Nat.le_of_ble_eq_true rfl⟩) hm (by decide) rfl rfl rfl (Nat.le_of_ble_eq_true rfl) dX7_farOf_22 ⟨Nat.zero_le _, Nat.zero_le _⟩) hS (fun v_36 I_30 R_31 J_32 AI_33 AJ_34 AR_35 H locs zv_36 hp_37 hH hS => ?_)
    dsimp only at hp_37
    obtain ⟨rfl, rfl, rfl, rfl, rfl, rfl, q_38⟩ := hp_37
    refine z_if_ge (tgt := 32) F dX7_farOf_25 (by decide) zv_36 (fun c_39 => ?_) (fun c_39 => ?_)
    · refine lv_aload_n F.1 F.2.1 dX7_farOf_32 rfl (lv_at hl 1 rfl) ?_
      refine lv_aload_n F.1 F.2.1 dX7_farOf_33 rfl (lv_at hl 1 rfl) ?_
      refine lv_iload_n F.1 F.2.1 dX7_farOf_34 rfl (lv_at hl 2 rfl) ?_
      refine g_calli (g_runV (As := [.int (iI rr)]) (rest := [.ref mo]) (ci := 7) F hl.1 hH hS hz (c_X7_secondOf l g gh T I R J AI AJ AR mo rr zrr hv hm hT (by omega)) (cwV 1 F.2.2.2.2.1 (good_up gT_X7_secondOf) rfl rfl rfl hdX7_secondOf ⟨Nat.le_of_ble_eq_true rfl, Nat.le_of_ble_eq_true rfl⟩) hm (by decide) rfl rfl rfl (Nat.le_of_ble_eq_true rfl) dX7_farOf_35 ⟨Nat.zero_le _, Nat.zero_le _⟩) hS (fun v_46 I_40 R_41 J_42 AI_43 AJ_44 AR_45 H locs zv_46 hp_47 hH hS => ?_)
      dsimp only at hp_47
      obtain ⟨rfl, rfl, rfl, rfl, rfl, rfl, q_48⟩ := hp_47
      refine g_calli (g_runV (As := [.int (iI v_46)]) (rest := []) (ci := 7) F hl.1 hH hS hz (c_X7_farOf15 l g gh T I R J AI AJ AR mo v_46 zv_46 hv hm hT (by omega)) (cwV 1 F.2.2.2.2.1 (good_up gT_X7_farOf) rfl rfl rfl hdX7_farOf ⟨Nat.le_of_ble_eq_true rfl, Nat.le_of_ble_eq_true rfl⟩) hm (by decide) rfl rfl rfl (Nat.le_of_ble_eq_true rfl) dX7_farOf_38 ⟨Nat.zero_le _, Nat.zero_le _⟩) hS (fun v_55 I_49 R_50 J_51 AI_52 AJ_53 AR_54 H locs zv_55 hp_56 hH hS => ?_)
      dsimp only at hp_56
      obtain ⟨rfl, rfl, rfl, rfl, rfl, rfl, q_57⟩ := hp_56
      refine lv_istore_n (lv' := [(3, .int (iI v_55)), (2, .int (iI v_27)), (0, .ref mo), (1, .int (iI rr))]) F.1 F.2.1 dX7_farOf_41 rfl hl (by decide) rfl (fun ls hl => ?_)
      refine z_iconst F dX7_farOf_42 ?_
      refine lv_iload_n F.1 F.2.1 dX7_farOf_43 rfl (lv_at hl 1 rfl) ?_
      refine lv_iload_n F.1 F.2.1 dX7_farOf_44 rfl (lv_at hl 0 rfl) ?_
      refine z_icmp_le (tgt := 52) F dX7_farOf_45 (by decide) zv_27 zv_55 (fun c_58 => ?_) (fun c_58 => ?_)
      · refine lv_iload_n F.1 F.2.1 dX7_farOf_52 rfl (lv_at hl 0 rfl) ?_
        refine z_iadd F dX7_farOf_53 ?_
        exact g_iret F hr hlk hH hS hz ⟨by omega, by omega⟩ ⟨rfl, rfl, rfl, rfl, rfl, rfl, by first | omega | rfl | (dsimp only; omega)⟩ dX7_farOf_54
      · refine lv_iload_n F.1 F.2.1 dX7_farOf_48 rfl (lv_at hl 1 rfl) ?_
        refine z_goto (tgt := 53) F dX7_farOf_49 (by decide) ?_
        refine z_iadd F dX7_farOf_53 ?_
        exact g_iret F hr hlk hH hS hz ⟨by omega, by omega⟩ ⟨rfl, rfl, rfl, rfl, rfl, rfl, by first | omega | rfl | (dsimp only; omega)⟩ dX7_farOf_54
    · refine z_iconst F dX7_farOf_28 ?_
      refine z_goto (tgt := 41) F dX7_farOf_29 (by decide) ?_
      refine lv_istore_n (lv' := [(3, .int (iI 0)), (2, .int (iI v_27)), (0, .ref mo), (1, .int (iI rr))]) F.1 F.2.1 dX7_farOf_41 rfl hl (by decide) rfl (fun ls hl => ?_)
      refine z_iconst F dX7_farOf_42 ?_
      refine lv_iload_n F.1 F.2.1 dX7_farOf_43 rfl (lv_at hl 1 rfl) ?_
      refine lv_iload_n F.1 F.2.1 dX7_farOf_44 rfl (lv_at hl 0 rfl) ?_
      refine z_icmp_le (tgt := 52) F dX7_farOf_45 (by decide) zv_27 ⟨by decide, by decide⟩ (fun c_59 => ?_) (fun c_59 => ?_)
      · refine lv_iload_n F.1 F.2.1 dX7_farOf_52 rfl (lv_at hl 0 rfl) ?_
        refine z_iadd F dX7_farOf_53 ?_
        exact g_iret F hr hlk hH hS hz ⟨by omega, by omega⟩ ⟨rfl, rfl, rfl, rfl, rfl, rfl, by first | omega | rfl | (dsimp only; omega)⟩ dX7_farOf_54
      · refine lv_iload_n F.1 F.2.1 dX7_farOf_48 rfl (lv_at hl 1 rfl) ?_
        refine z_goto (tgt := 53) F dX7_farOf_49 (by decide) ?_
        refine z_iadd F dX7_farOf_53 ?_
        exact g_iret F hr hlk hH hS hz ⟨by omega, by omega⟩ ⟨rfl, rfl, rfl, rfl, rfl, rfl, by first | omega | rfl | (dsimp only; omega)⟩ dX7_farOf_54
  · refine z_iconst F dX7_farOf_8 ?_
    exact g_iret F hr hlk hH hS hz ⟨by decide, by decide⟩ ⟨rfl, rfl, rfl, rfl, rfl, rfl, by first | omega | rfl | (dsimp only; omega)⟩ dX7_farOf_9

def rmX7_hangOn : Room := { frames := 17, cells := 0, slots := 0, locals := 373 }
theorem hdX7_hangOn : yX7_hangOn.cls = RX7 ∧ yX7_hangOn.cls ≠ "java/lang/invoke/MethodHandle" ∧ yX7_hangOn.cls ≠ "java/lang/invoke/VarHandle" ∧ (parseMethodDescriptor yX7_hangOn.desc).map (fun d => d.parameters.length) = some 1 := by decide +kernel
set_option maxHeartbeats 4000000 in
set_option maxRecDepth 100000 in
/-- what hangs on it -/
theorem c_X7_hangOn (l : Launch) (g : gG) (gh : gGh) (T : Nat → Int32) (I : gI) (R : gR) (J : gJ) (AI : gI) (AJ : gJ) (AR : gR) (mo : Nat) (rr : Int) (zrr : zr rr) (hv : mInv g gh R I AI) (hm : gO g mo 7) (hT : AI (gh 50 0) = T) : gMet l g yX7_hangOn tsX7_hangOn rmX7_hangOn [.ref mo, .int (iI rr)] (I, R, J, AI, AJ, AR) (gQi g (fun (z : Int) (w : gS) => I = w.1 ∧ R = w.2.1 ∧ J = w.2.2.1 ∧ AI = w.2.2.2.1 ∧ AJ = w.2.2.2.2.1 ∧ AR = w.2.2.2.2.2)) := by
  refine gStart (cc := cX7_hangOn) (maxL := 4) (ret := (some (.int))) (by decide) rfl (Nat.le_of_ble_eq_true rfl) ?_
  intro p e s m below meth c ls F hr hlk hH hz hS hl
  have hl : lv_has ls 4 [(0, .ref mo), (1, .int (iI rr))] := hl
  have hS : va_S (gA g) s.heap s.heap [] := hS
  obtain ⟨H, hHe⟩ : ∃ H : Heap, H = s.heap := ⟨_, rfl⟩
  obtain ⟨locs, hlo⟩ : ∃ k : List Loc, k = [] := ⟨_, rfl⟩
  have hH : gH g I R J AI AJ AR H := by rw [hHe]; exact hH
  have hS : va_S (gA g) s.heap H locs := by rw [hHe, hlo]; exact hS
  suffices hw : W p l e rmX7_hangOn s m ([.ref mo, .int (iI rr)] : List Value).toArray below meth c H locs 0 0 (MQ below (gQi g (fun (z : Int) (w : gS) => I = w.1 ∧ R = w.2.1 ∧ J = w.2.2.1 ∧ AI = w.2.2.2.1 ∧ AJ = w.2.2.2.2.1 ∧ AR = w.2.2.2.2.2)) ([.ref mo, .int (iI rr)] : List Value).toArray s 0 0 (gA g)) (F0 m 0 ls []) by
    rw [hHe, hlo] at hw; exact hw
  clear hHe hlo
  have hb0 := mJ hv hm
  unfold mNum1 at hb0
  have iX7 : ∀ w ∈ u_ws RX7 TX7 32, w ∈ tsX7_hangOn := fun w h => List.mem_cons_of_mem _ (inTB7 w h)
  have k64 : Cond.fieldLink RX7 64 (TX7 2).1 (TX7 2).2.1 (TX7 2).2.2.1 ∈ tsX7_hangOn := List.mem_cons_of_mem _ fl_64
  refine z_iconst F dX7_hangOn_0 ?_
  refine lv_istore_n (lv' := [(2, .int (iI 0)), (0, .ref mo), (1, .int (iI rr))]) F.1 F.2.1 dX7_hangOn_1 rfl hl (by decide) rfl (fun ls hl => ?_)
  refine z_iconst F dX7_hangOn_2 ?_
  refine lv_istore_n (lv' := [(3, .int (iI 0)), (2, .int (iI 0)), (0, .ref mo), (1, .int (iI rr))]) F.1 F.2.1 dX7_hangOn_3 rfl hl (by decide) rfl (fun ls hl => ?_)
  have cut_4_0 : ∀ (NN : Nat) (se k : Int) (H : Heap) (locs : List Loc) (ls : Array Slot), zr se → zr k → (0 ≤ k ∧ k ≤ 16) → (16 - k) < ((NN : Nat) : Int) → gH g I R J AI AJ AR H → va_S (gA g) s.heap H locs → lv_has ls 4 [(3, .int (iI k)), (2, .int (iI se)), (0, .ref mo), (1, .int (iI rr))] → W p l e rmX7_hangOn s m ([.ref mo, .int (iI rr)] : List Value).toArray below meth c H locs 0 0 (MQ below (gQi g (fun (z : Int) (w : gS) => I = w.1 ∧ R = w.2.1 ∧ J = w.2.2.1 ∧ AI = w.2.2.2.1 ∧ AJ = w.2.2.2.2.1 ∧ AR = w.2.2.2.2.2)) ([.ref mo, .int (iI rr)] : List Value).toArray s 0 0 (gA g)) (F0 m 4 ls []) := by
    intro NN4
    induction NN4 with
    | zero =>
      intro se k H locs ls zse zk hk hm4 hH hS hl
      exact absurd hm4 (by omega)
    | succ NN4 ih4 =>
      intro se k H locs ls zse zk hk hm4 hH hS hl
      refine lv_iload_n F.1 F.2.1 dX7_hangOn_4 rfl (lv_at hl 0 rfl) ?_
      refine lv_aload_n F.1 F.2.1 dX7_hangOn_5 rfl (lv_at hl 2 rfl) ?_
      refine g_getI (ci := 7) (k := 2) F hH rfl (by decide) iX7 hm (by decide) rfl k64 dX7_hangOn_6 ?_
      have b_2 := mJ hv hm
      unfold mNum1 at b_2
      refine z_icmp_ge (tgt := 37) F dX7_hangOn_9 (by decide) zk (zr_t _) (fun c_3 => ?_) (fun c_3 => ?_)
      · refine lv_iload_n F.1 F.2.1 dX7_hangOn_37 rfl (lv_at hl 1 rfl) ?_
        exact g_iret F hr hlk hH hS hz zse ⟨rfl, rfl, rfl, rfl, rfl, rfl⟩ dX7_hangOn_38
      · refine lv_aload_n F.1 F.2.1 dX7_hangOn_12 rfl (lv_at hl 2 rfl) ?_
        refine lv_iload_n F.1 F.2.1 dX7_hangOn_13 rfl (lv_at hl 0 rfl) ?_
        refine g_calli (g_runV (As := [.int (iI k)]) (rest := []) (ci := 7) F hl.1 hH hS hz (c_X7_hangsOn16 l g gh T I R J AI AJ AR mo k zk hv hm hT (by omega)) (cwV 1 F.2.2.2.2.1 (good_up gT_X7_hangsOn) rfl rfl rfl hdX7_hangsOn ⟨Nat.le_of_ble_eq_true rfl, Nat.le_of_ble_eq_true rfl⟩) hm (by decide) rfl rfl rfl (Nat.le_of_ble_eq_true rfl) dX7_hangOn_14 ⟨Nat.zero_le _, Nat.zero_le _⟩) hS (fun v_10 I_4 R_5 J_6 AI_7 AJ_8 AR_9 H locs zv_10 hp_11 hH hS => ?_)
        dsimp only at hp_11
        obtain ⟨rfl, rfl, rfl, rfl, rfl, rfl⟩ := hp_11
        refine lv_iload_n F.1 F.2.1 dX7_hangOn_17 rfl (lv_at hl 3 rfl) ?_
        refine lv_ishr F.1 F.2.1 dX7_hangOn_18 ?_
        refine z_top (fun v_12 zv_12 ev_12 => ?_)
        refine z_iconst F dX7_hangOn_19 ?_
        refine lv_iand F.1 F.2.1 dX7_hangOn_20 ?_
        refine z_top (fun v_13 zv_13 ev_13 => ?_)
        refine z_iconst F dX7_hangOn_21 ?_
        refine z_icmp_ne (tgt := 31) F dX7_hangOn_22 (by decide) zv_13 ⟨by decide, by decide⟩ (fun c_14 => ?_) (fun c_14 => ?_)
        · refine z_iinc (lv' := [(3, .int (iI (k + 1))), (2, .int (iI se)), (0, .ref mo), (1, .int (iI rr))]) F dX7_hangOn_31 hl (k := 0) rfl (by decide) rfl (fun ls hl => ?_)
          refine z_goto (tgt := 4) F dX7_hangOn_34 (by decide) ?_
          exact ih4 se (k + 1) H locs ls zse ⟨by omega, by omega⟩ (by omega) (by omega) hH hS (lv_sub hl [0, 1, 2, 3] rfl)
        · refine lv_iload_n F.1 F.2.1 dX7_hangOn_25 rfl (lv_at hl 1 rfl) ?_
          refine z_iconst F dX7_hangOn_26 ?_
          refine lv_iload_n F.1 F.2.1 dX7_hangOn_27 rfl (lv_at hl 0 rfl) ?_
          refine lv_ishl F.1 F.2.1 dX7_hangOn_28 ?_
          refine z_top (fun v_15 zv_15 ev_15 => ?_)
          refine lv_ior F.1 F.2.1 dX7_hangOn_29 ?_
          refine z_top (fun v_16 zv_16 ev_16 => ?_)
          refine lv_istore_n (lv' := [(2, .int (iI v_16)), (3, .int (iI k)), (0, .ref mo), (1, .int (iI rr))]) F.1 F.2.1 dX7_hangOn_30 rfl hl (by decide) rfl (fun ls hl => ?_)
          refine z_iinc (lv' := [(3, .int (iI (k + 1))), (2, .int (iI v_16)), (0, .ref mo), (1, .int (iI rr))]) F dX7_hangOn_31 hl (k := 1) rfl (by decide) rfl (fun ls hl => ?_)
          refine z_goto (tgt := 4) F dX7_hangOn_34 (by decide) ?_
          exact ih4 v_16 (k + 1) H locs ls zv_16 ⟨by omega, by omega⟩ (by omega) (by omega) hH hS (lv_sub hl [0, 1, 2, 3] rfl)
  exact cut_4_0 (((16 - 0) + 1 : Int).toNat) 0 0 H locs ls ⟨by decide, by decide⟩ ⟨by decide, by decide⟩ (by omega) (by omega) hH hS (lv_sub hl [0, 1, 2, 3] rfl)

def rmX7_of : Room := { frames := 18, cells := 0, slots := 0, locals := 396 }
theorem hdX7_of : yX7_of.cls = RX7 ∧ yX7_of.cls ≠ "java/lang/invoke/MethodHandle" ∧ yX7_of.cls ≠ "java/lang/invoke/VarHandle" ∧ (parseMethodDescriptor yX7_of.desc).map (fun d => d.parameters.length) = some 2 := by decide +kernel
set_option maxHeartbeats 4000000 in
set_option maxRecDepth 100000 in
/-- of -/
theorem c_X7_of (l : Launch) (g : gG) (gh : gGh) (T : Nat → Int32) (I : gI) (R : gR) (J : gJ) (AI : gI) (AJ : gJ) (AR : gR) (mo : Nat) (rr : Int) (wh : Int) (zrr : zr rr) (zwh : zr wh) (hv : mInv g gh R I AI) (hm : gO g mo 7) (hT : AI (gh 50 0) = T) : gMet l g yX7_of tsX7_of rmX7_of [.ref mo, .int (iI rr), .int (iI wh)] (I, R, J, AI, AJ, AR) (gQi g (fun (z : Int) (w : gS) => R = w.2.1 ∧ J = w.2.2.1 ∧ AI = w.2.2.2.1 ∧ AJ = w.2.2.2.2.1 ∧ AR = w.2.2.2.2.2 ∧ (mInv g gh R (w.1) AI) ∧ (nF mo I (w.1)))) := by
  refine gStart (cc := cX7_of) (maxL := 5) (ret := (some (.int))) (by decide) rfl (Nat.le_of_ble_eq_true rfl) ?_
  intro p e s m below meth c ls F hr hlk hH hz hS hl
  have hl : lv_has ls 5 [(0, .ref mo), (1, .int (iI rr)), (2, .int (iI wh))] := hl
  have hS : va_S (gA g) s.heap s.heap [] := hS
  obtain ⟨H, hHe⟩ : ∃ H : Heap, H = s.heap := ⟨_, rfl⟩
  obtain ⟨locs, hlo⟩ : ∃ k : List Loc, k = [] := ⟨_, rfl⟩
  have hH : gH g I R J AI AJ AR H := by rw [hHe]; exact hH
  have hS : va_S (gA g) s.heap H locs := by rw [hHe, hlo]; exact hS
  suffices hw : W p l e rmX7_of s m ([.ref mo, .int (iI rr), .int (iI wh)] : List Value).toArray below meth c H locs 0 0 (MQ below (gQi g (fun (z : Int) (w : gS) => R = w.2.1 ∧ J = w.2.2.1 ∧ AI = w.2.2.2.1 ∧ AJ = w.2.2.2.2.1 ∧ AR = w.2.2.2.2.2 ∧ (mInv g gh R (w.1) AI) ∧ (nF mo I (w.1)))) ([.ref mo, .int (iI rr), .int (iI wh)] : List Value).toArray s 0 0 (gA g)) (F0 m 0 ls []) by
    rw [hHe, hlo] at hw; exact hw
  clear hHe hlo
  have nf : nF mo I I := nF_r
  have iX7 : ∀ w ∈ u_ws RX7 TX7 32, w ∈ tsX7_of := fun w h => List.mem_cons_of_mem _ (inTB7 w h)
  have k60 : Cond.fieldLink RX7 60 (TX7 17).1 (TX7 17).2.1 (TX7 17).2.2.1 ∈ tsX7_of := List.mem_cons_of_mem _ fl_60
  have k13 : Cond.fieldLink RX7 13 (TX7 1).1 (TX7 1).2.1 (TX7 1).2.2.1 ∈ tsX7_of := List.mem_cons_of_mem _ fl_13
  refine lv_aload_n F.1 F.2.1 dX7_of_0 rfl (lv_at hl 0 rfl) ?_
  refine z_iconst F dX7_of_1 ?_
  refine g_putI (ci := 7) (k := 17) F hH hS rfl (by decide) iX7 hm (by decide) tyX7 tyX7_ok nmX7 rfl rfl rfl k60 dX7_of_2 (fun H locs hH hS => ?_)
  obtain ⟨I_1, eI_1⟩ : ∃ qQ, qQ = gup2 I mo 17 (iI (0)) := ⟨_, rfl⟩
  rw [← eI_1] at hH
  have kI_1 : ∀ b, b ≠ mo → I_1 b = I b := fun b hb => by rw [eI_1]; exact funext fun j => gup2_a _ _ hb
  have w_2 : (I_1 mo 17).toInt = 0 := by rw [eI_1, gup2_s]; exact iI_val ⟨by decide, by decide⟩
  have hv : mInv g gh R I_1 AI := by rw [eI_1]; exact mP17 hv hm
  have nf : nF mo I I_1 := nF_t nf (by rw [eI_1]; exact nF_p (by decide))
  have u_3_2 : (I_1 mo 2).toInt = (I mo 2).toInt := by rw [nf 2 (by decide) (by decide) (by decide) (by decide) (by decide)]
  have u_3_5 : (I_1 mo 5).toInt = (I mo 5).toInt := by rw [nf 5 (by decide) (by decide) (by decide) (by decide) (by decide)]
  have u_3_14 : (I_1 mo 14).toInt = (I mo 14).toInt := by rw [nf 14 (by decide) (by decide) (by decide) (by decide) (by decide)]
  have u_3_16 : (I_1 mo 16).toInt = (I mo 16).toInt := by rw [nf 16 (by decide) (by decide) (by decide) (by decide) (by decide)]
  have u_3_24 : (I_1 mo 24).toInt = (I mo 24).toInt := by rw [nf 24 (by decide) (by decide) (by decide) (by decide) (by decide)]
  refine lv_aload_n F.1 F.2.1 dX7_of_5 rfl (lv_at hl 0 rfl) ?_
  refine lv_iload_n F.1 F.2.1 dX7_of_6 rfl (lv_at hl 1 rfl) ?_
  have b_4 := mJ hv hm
  unfold mNum1 at b_4
  refine g_calli (g_runV (As := [.int (iI rr)]) (rest := []) (ci := 7) F hl.1 hH hS hz (c_X7_isRelation l g gh T I_1 R J AI AJ AR mo rr zrr hv hm hT) (cwV 1 F.2.2.2.2.1 (good_up gT_X7_isRelation) rfl rfl rfl hdX7_isRelation ⟨Nat.le_of_ble_eq_true rfl, Nat.le_of_ble_eq_true rfl⟩) hm (by decide) rfl rfl rfl (Nat.le_of_ble_eq_true rfl) dX7_of_7 ⟨Nat.zero_le _, Nat.zero_le _⟩) hS (fun v_11 I_5 R_6 J_7 AI_8 AJ_9 AR_10 H locs zv_11 hp_12 hH hS => ?_)
  dsimp only at hp_12
  obtain ⟨rfl, rfl, rfl, rfl, rfl, rfl, q_13⟩ := hp_12
  refine z_if_ne (tgt := 15) F dX7_of_10 (by decide) zv_11 (fun c_14 => ?_) (fun c_14 => ?_)
  · refine lv_iload_n F.1 F.2.1 dX7_of_15 rfl (lv_at hl 2 rfl) ?_
    have ec_15 : (iI wh).toInt = wh := iI_val zwh
    by_cases c_15 : wh < 0 ∨ 8 < wh
    · refine lv_tableOut (tgt := 159) F.1 F.2.1 dX7_of_16 (by rw [ec_15]; exact c_15) (by decide) ?_
      refine z_iconst F dX7_of_159 ?_
      exact g_iret F hr hlk hH hS hz ⟨by decide, by decide⟩ ⟨rfl, rfl, rfl, rfl, rfl, hv, nf⟩ dX7_of_160
    by_cases c_15_0 : wh = 0
    · refine lv_tableIn (tgt := 68) (off := 52) F.1 F.2.1 dX7_of_16 (by rw [ec_15]; omega) (by rw [ec_15]; omega) (by rw [ec_15, c_15_0]; rfl) (by decide) ?_
      refine lv_aload_n F.1 F.2.1 dX7_of_68 rfl (lv_at hl 0 rfl) ?_
      refine lv_iload_n F.1 F.2.1 dX7_of_69 rfl (lv_at hl 1 rfl) ?_
      refine g_calli (g_runV (As := [.int (iI rr)]) (rest := []) (ci := 7) F hl.1 hH hS hz (c_X7_kindOf l g gh T I_1 R J AI AJ AR mo rr zrr hv hm hT (by omega)) (cwV 1 F.2.2.2.2.1 (good_up gT_X7_kindOf) rfl rfl rfl hdX7_kindOf ⟨Nat.le_of_ble_eq_true rfl, Nat.le_of_ble_eq_true rfl⟩) hm (by decide) rfl rfl rfl (Nat.le_of_ble_eq_true rfl) dX7_of_70 ⟨Nat.zero_le _, Nat.zero_le _⟩) hS (fun v_22 I_16 R_17 J_18 AI_19 AJ_20 AR_21 H locs zv_22 hp_23 hH hS => ?_)
      dsimp only at hp_23
      obtain ⟨rfl, rfl, rfl, rfl, rfl, rfl, q_24⟩ := hp_23
      exact g_iret F hr hlk hH hS hz zv_22 ⟨rfl, rfl, rfl, rfl, rfl, hv, nf⟩ dX7_of_73
    by_cases c_15_1 : wh = 1
    · refine lv_tableIn (tgt := 74) (off := 58) F.1 F.2.1 dX7_of_16 (by rw [ec_15]; omega) (by rw [ec_15]; omega) (by rw [ec_15, c_15_1]; rfl) (by decide) ?_
      refine lv_aload_n F.1 F.2.1 dX7_of_74 rfl (lv_at hl 0 rfl) ?_
      refine lv_iload_n F.1 F.2.1 dX7_of_75 rfl (lv_at hl 1 rfl) ?_
      refine g_calli (g_runV (As := [.int (iI rr)]) (rest := []) (ci := 7) F hl.1 hH hS hz (c_X7_columnsOf l g gh T I_1 R J AI AJ AR mo rr zrr hv hm hT (by omega)) (cwV 1 F.2.2.2.2.1 (good_up gT_X7_columnsOf) rfl rfl rfl hdX7_columnsOf ⟨Nat.le_of_ble_eq_true rfl, Nat.le_of_ble_eq_true rfl⟩) hm (by decide) rfl rfl rfl (Nat.le_of_ble_eq_true rfl) dX7_of_76 ⟨Nat.zero_le _, Nat.zero_le _⟩) hS (fun v_31 I_25 R_26 J_27 AI_28 AJ_29 AR_30 H locs zv_31 hp_32 hH hS => ?_)
      dsimp only at hp_32
      obtain ⟨rfl, rfl, rfl, rfl, rfl, rfl, q_33⟩ := hp_32
      exact g_iret F hr hlk hH hS hz zv_31 ⟨rfl, rfl, rfl, rfl, rfl, hv, nf⟩ dX7_of_79
    by_cases c_15_2 : wh = 2
    · refine lv_tableIn (tgt := 80) (off := 64) F.1 F.2.1 dX7_of_16 (by rw [ec_15]; omega) (by rw [ec_15]; omega) (by rw [ec_15, c_15_2]; rfl) (by decide) ?_
      refine lv_aload_n F.1 F.2.1 dX7_of_80 rfl (lv_at hl 0 rfl) ?_
      refine lv_iload_n F.1 F.2.1 dX7_of_81 rfl (lv_at hl 1 rfl) ?_
      refine g_calli (g_runV (As := [.int (iI rr)]) (rest := []) (ci := 7) F hl.1 hH hS hz (c_X7_firstOf l g gh T I_1 R J AI AJ AR mo rr zrr hv hm hT (by omega)) (cwV 1 F.2.2.2.2.1 (good_up gT_X7_firstOf) rfl rfl rfl hdX7_firstOf ⟨Nat.le_of_ble_eq_true rfl, Nat.le_of_ble_eq_true rfl⟩) hm (by decide) rfl rfl rfl (Nat.le_of_ble_eq_true rfl) dX7_of_82 ⟨Nat.zero_le _, Nat.zero_le _⟩) hS (fun v_40 I_34 R_35 J_36 AI_37 AJ_38 AR_39 H locs zv_40 hp_41 hH hS => ?_)
      dsimp only at hp_41
      obtain ⟨rfl, rfl, rfl, rfl, rfl, rfl, q_42⟩ := hp_41
      exact g_iret F hr hlk hH hS hz zv_40 ⟨rfl, rfl, rfl, rfl, rfl, hv, nf⟩ dX7_of_85
    by_cases c_15_3 : wh = 3
    · refine lv_tableIn (tgt := 86) (off := 70) F.1 F.2.1 dX7_of_16 (by rw [ec_15]; omega) (by rw [ec_15]; omega) (by rw [ec_15, c_15_3]; rfl) (by decide) ?_
      refine lv_aload_n F.1 F.2.1 dX7_of_86 rfl (lv_at hl 0 rfl) ?_
      refine lv_iload_n F.1 F.2.1 dX7_of_87 rfl (lv_at hl 1 rfl) ?_
      refine g_calli (g_runV (As := [.int (iI rr)]) (rest := []) (ci := 7) F hl.1 hH hS hz (c_X7_secondOf l g gh T I_1 R J AI AJ AR mo rr zrr hv hm hT (by omega)) (cwV 1 F.2.2.2.2.1 (good_up gT_X7_secondOf) rfl rfl rfl hdX7_secondOf ⟨Nat.le_of_ble_eq_true rfl, Nat.le_of_ble_eq_true rfl⟩) hm (by decide) rfl rfl rfl (Nat.le_of_ble_eq_true rfl) dX7_of_88 ⟨Nat.zero_le _, Nat.zero_le _⟩) hS (fun v_49 I_43 R_44 J_45 AI_46 AJ_47 AR_48 H locs zv_49 hp_50 hH hS => ?_)
      dsimp only at hp_50
      obtain ⟨rfl, rfl, rfl, rfl, rfl, rfl, q_51⟩ := hp_50
      exact g_iret F hr hlk hH hS hz zv_49 ⟨rfl, rfl, rfl, rfl, rfl, hv, nf⟩ dX7_of_91
    by_cases c_15_4 : wh = 4
    · refine lv_tableIn (tgt := 92) (off := 76) F.1 F.2.1 dX7_of_16 (by rw [ec_15]; omega) (by rw [ec_15]; omega) (by rw [ec_15, c_15_4]; rfl) (by decide) ?_
      refine lv_aload_n F.1 F.2.1 dX7_of_92 rfl (lv_at hl 0 rfl) ?_
      refine lv_iload_n F.1 F.2.1 dX7_of_93 rfl (lv_at hl 1 rfl) ?_
      refine g_calli (g_runV (As := [.int (iI rr)]) (rest := []) (ci := 7) F hl.1 hH hS hz (c_X7_hangsOn16 l g gh T I_1 R J AI AJ AR mo rr zrr hv hm hT (by omega)) (cwV 1 F.2.2.2.2.1 (good_up gT_X7_hangsOn) rfl rfl rfl hdX7_hangsOn ⟨Nat.le_of_ble_eq_true rfl, Nat.le_of_ble_eq_true rfl⟩) hm (by decide) rfl rfl rfl (Nat.le_of_ble_eq_true rfl) dX7_of_94 ⟨Nat.zero_le _, Nat.zero_le _⟩) hS (fun v_58 I_52 R_53 J_54 AI_55 AJ_56 AR_57 H locs zv_58 hp_59 hH hS => ?_)
      dsimp only at hp_59
      obtain ⟨rfl, rfl, rfl, rfl, rfl, rfl⟩ := hp_59
      exact g_iret F hr hlk hH hS hz zv_58 ⟨rfl, rfl, rfl, rfl, rfl, hv, nf⟩ dX7_of_97
    by_cases c_15_5 : wh = 5
    · refine lv_tableIn (tgt := 98) (off := 82) F.1 F.2.1 dX7_of_16 (by rw [ec_15]; omega) (by rw [ec_15]; omega) (by rw [ec_15, c_15_5]; rfl) (by decide) ?_
      refine lv_aload_n F.1 F.2.1 dX7_of_98 rfl (lv_at hl 0 rfl) ?_
      refine lv_iload_n F.1 F.2.1 dX7_of_99 rfl (lv_at hl 1 rfl) ?_
      refine g_calli (g_runV (As := [.int (iI rr)]) (rest := []) (ci := 7) F hl.1 hH hS hz (c_X7_hangOn l g gh T I_1 R J AI AJ AR mo rr zrr hv hm hT) (cwV 1 F.2.2.2.2.1 (good_up gT_X7_hangOn) rfl rfl rfl hdX7_hangOn ⟨Nat.le_of_ble_eq_true rfl, Nat.le_of_ble_eq_true rfl⟩) hm (by decide) rfl rfl rfl (Nat.le_of_ble_eq_true rfl) dX7_of_100 ⟨Nat.zero_le _, Nat.zero_le _⟩) hS (fun v_66 I_60 R_61 J_62 AI_63 AJ_64 AR_65 H locs zv_66 hp_67 hH hS => ?_)
      dsimp only at hp_67
      obtain ⟨rfl, rfl, rfl, rfl, rfl, rfl⟩ := hp_67
      exact g_iret F hr hlk hH hS hz zv_66 ⟨rfl, rfl, rfl, rfl, rfl, hv, nf⟩ dX7_of_103
    by_cases c_15_6 : wh = 6
    · refine lv_tableIn (tgt := 104) (off := 88) F.1 F.2.1 dX7_of_16 (by rw [ec_15]; omega) (by rw [ec_15]; omega) (by rw [ec_15, c_15_6]; rfl) (by decide) ?_
      refine lv_aload_n F.1 F.2.1 dX7_of_104 rfl (lv_at hl 0 rfl) ?_
      refine lv_iload_n F.1 F.2.1 dX7_of_105 rfl (lv_at hl 1 rfl) ?_
      refine g_calli (g_runV (As := [.int (iI rr)]) (rest := []) (ci := 7) F hl.1 hH hS hz (c_X7_farOf16 l g gh T I_1 R J AI AJ AR mo rr zrr hv hm hT (by omega)) (cwV 1 F.2.2.2.2.1 (good_up gT_X7_farOf) rfl rfl rfl hdX7_farOf ⟨Nat.le_of_ble_eq_true rfl, Nat.le_of_ble_eq_true rfl⟩) hm (by decide) rfl rfl rfl (Nat.le_of_ble_eq_true rfl) dX7_of_106 ⟨Nat.zero_le _, Nat.zero_le _⟩) hS (fun v_74 I_68 R_69 J_70 AI_71 AJ_72 AR_73 H locs zv_74 hp_75 hH hS => ?_)
      dsimp only at hp_75
      obtain ⟨rfl, rfl, rfl, rfl, rfl, rfl, q_76⟩ := hp_75
      exact g_iret F hr hlk hH hS hz zv_74 ⟨rfl, rfl, rfl, rfl, rfl, hv, nf⟩ dX7_of_109
    by_cases c_15_7 : wh = 7
    · refine lv_tableIn (tgt := 110) (off := 94) F.1 F.2.1 dX7_of_16 (by rw [ec_15]; omega) (by rw [ec_15]; omega) (by rw [ec_15, c_15_7]; rfl) (by decide) ?_
      refine lv_aload_n F.1 F.2.1 dX7_of_110 rfl (lv_at hl 0 rfl) ?_
      refine g_getR (ci := 7) (k := 1) F hH rfl (by decide) iX7 hm (by decide) rfl (b := gh 51 0) (hv.1 mo hm).2.2.1.1 k13 dX7_of_111 ?_
      refine lv_iload_n F.1 F.2.1 dX7_of_114 rfl (lv_at hl 1 rfl) ?_
      have hx115 : 0 ≤ rr ∧ rr < ((16 : Nat) : Int) ∧ rr ≤ 2147483647 := ⟨by omega, by omega, by omega⟩
      refine g_lald F hH (hv.1 mo hm).2.2.1.2 hx115.1 hx115.2.1 hx115.2.2 dX7_of_115 ?_
      refine lv_topl (fun j_77 ej_77 => ?_)
      refine lv_lstore_n (lv' := [(3, .long j_77), (0, .ref mo), (1, .int (iI rr)), (2, .int (iI wh))]) F.1 F.2.1 dX7_of_116 rfl hl (by decide) rfl (fun ls hl => ?_)
      have cut_117_77 : ∀ (NN : Nat) (lw : Int64) (H : Heap) (locs : List Loc) (ls : Array Slot), ((lw.toInt).toNat : Int) < ((NN : Nat) : Int) → gH g I_1 R J AI AJ AR H → va_S (gA g) s.heap H locs → lv_has ls 5 [(3, .long lw), (0, .ref mo), (1, .int (iI rr)), (2, .int (iI wh))] → W p l e rmX7_of s m ([.ref mo, .int (iI rr), .int (iI wh)] : List Value).toArray below meth c H locs 0 0 (MQ below (gQi g (fun (z : Int) (w : gS) => R = w.2.1 ∧ J = w.2.2.1 ∧ AI = w.2.2.2.1 ∧ AJ = w.2.2.2.2.1 ∧ AR = w.2.2.2.2.2 ∧ (mInv g gh R (w.1) AI) ∧ (nF mo I (w.1)))) ([.ref mo, .int (iI rr), .int (iI wh)] : List Value).toArray s 0 0 (gA g)) (F0 m 117 ls []) := by
        intro NN117
        induction NN117 with
        | zero =>
          intro lw H locs ls hm117 hH hS hl
          exact absurd hm117 (by omega)
        | succ NN117 ih117 =>
          intro lw H locs ls hm117 hH hS hl
          refine lv_lload_n F.1 F.2.1 dX7_of_117 rfl (lv_at hl 0 rfl) ?_
          refine lv_ldc2 (v := 256) F.1 F.2.1 F.2.2.2.1 (F.2.2.2.2.1 _ (List.mem_cons_of_mem _ cl_115)) dX7_of_118 ?_
          refine W.lcmp F.1 F.2.1 dX7_of_121 ?_
          refine z_top (fun v_79 zv_79 ev_79 => ?_)
          have lv_79 : v_79 = 0 ↔ lw = (256) := by rw [ev_79]; exact z_lcmp
          have hc9 : v_79 < 0 ↔ lw.toInt < (256 : Int64).toInt := by rw [ev_79]; exact z_lcmp_lt
          have hc8 : (256 : Int64).toInt = 256 := by decide
          refine z_if_lt (tgt := 134) F dX7_of_122 (by decide) zv_79 (fun c_80 => ?_) (fun c_80 => ?_)
          · refine lv_lload_n F.1 F.2.1 dX7_of_134 rfl (lv_at hl 0 rfl) ?_
            refine lv_l2i F.1 F.2.1 dX7_of_135 rfl ?_
            refine z_top (fun v_81 zv_81 ev_81 => ?_)
            refine z_bipush F dX7_of_136 (by decide) ?_
            refine z_isub F dX7_of_138 ?_
            refine z_norm (fun v_82 zv_82 ev_82 => ?_)
            refine z_iconst F dX7_of_139 ?_
            refine z_iadd F dX7_of_140 ?_
            refine z_norm (fun v_83 zv_83 ev_83 => ?_)
            exact g_iret F hr hlk hH hS hz zv_83 ⟨rfl, rfl, rfl, rfl, rfl, hv, nf⟩ dX7_of_141
          · refine lv_lload_n F.1 F.2.1 dX7_of_125 rfl (lv_at hl 0 rfl) ?_
            refine lv_ldc2 (v := 256) F.1 F.2.1 F.2.2.2.1 (F.2.2.2.2.1 _ (List.mem_cons_of_mem _ cl_115)) dX7_of_126 ?_
            refine lv_ldiv F.1 F.2.1 dX7_of_129 (by decide) ?_
            refine lv_topl (fun j_84 ej_84 => ?_)
            have hd9 : (j_84).toInt < lw.toInt := by rw [ej_84]; exact z_ldiv256 (by omega)
            refine lv_lstore_n (lv' := [(3, .long j_84), (0, .ref mo), (1, .int (iI rr)), (2, .int (iI wh))]) F.1 F.2.1 dX7_of_130 rfl hl (by decide) rfl (fun ls hl => ?_)
            refine z_goto (tgt := 117) F dX7_of_131 (by decide) ?_
            exact ih117 j_84 H locs ls (by omega) hH hS (lv_sub hl [0, 1, 2, 3] rfl)
      exact cut_117_77 ((((j_77.toInt).toNat : Int) + 1 : Int).toNat) j_77 H locs ls (by omega) hH hS (lv_sub hl [0, 1, 2, 3] rfl)
    have c_15_8 : wh = 8 := by omega
    refine lv_tableIn (tgt := 142) (off := 126) F.1 F.2.1 dX7_of_16 (by rw [ec_15]; omega) (by rw [ec_15]; omega) (by rw [ec_15, c_15_8]; rfl) (by decide) ?_
    refine lv_aload_n F.1 F.2.1 dX7_of_142 rfl (lv_at hl 0 rfl) ?_
    refine g_getR (ci := 7) (k := 1) F hH rfl (by decide) iX7 hm (by decide) rfl (b := gh 51 0) (hv.1 mo hm).2.2.1.1 k13 dX7_of_143 ?_
    refine lv_iload_n F.1 F.2.1 dX7_of_146 rfl (lv_at hl 1 rfl) ?_
    have hx147 : 0 ≤ rr ∧ rr < ((16 : Nat) : Int) ∧ rr ≤ 2147483647 := ⟨by omega, by omega, by omega⟩
    refine g_lald F hH (hv.1 mo hm).2.2.1.2 hx147.1 hx147.2.1 hx147.2.2 dX7_of_147 ?_
    refine lv_topl (fun j_85 ej_85 => ?_)
    refine lv_ldc2 (v := 256) F.1 F.2.1 F.2.2.2.1 (F.2.2.2.2.1 _ (List.mem_cons_of_mem _ cl_115)) dX7_of_148 ?_
    refine lv_lrem F.1 F.2.1 dX7_of_151 (by decide) ?_
    refine lv_topl (fun j_86 ej_86 => ?_)
    refine lv_l2i F.1 F.2.1 dX7_of_152 rfl ?_
    refine z_top (fun v_87 zv_87 ev_87 => ?_)
    refine z_bipush F dX7_of_153 (by decide) ?_
    refine z_isub F dX7_of_155 ?_
    refine z_norm (fun v_88 zv_88 ev_88 => ?_)
    refine z_iconst F dX7_of_156 ?_
    refine z_iadd F dX7_of_157 ?_
    refine z_norm (fun v_89 zv_89 ev_89 => ?_)
    exact g_iret F hr hlk hH hS hz zv_89 ⟨rfl, rfl, rfl, rfl, rfl, hv, nf⟩ dX7_of_158
  · refine z_iconst F dX7_of_13 ?_
    exact g_iret F hr hlk hH hS hz ⟨by decide, by decide⟩ ⟨rfl, rfl, rfl, rfl, rfl, hv, nf⟩ dX7_of_14

def rmX7_differs : Room := { frames := 6, cells := 0, slots := 0, locals := 159 }
theorem hdX7_differs : yX7_differs.cls = RX7 ∧ yX7_differs.cls ≠ "java/lang/invoke/MethodHandle" ∧ yX7_differs.cls ≠ "java/lang/invoke/VarHandle" ∧ (parseMethodDescriptor yX7_differs.desc).map (fun d => d.parameters.length) = some 1 := by decide +kernel
set_option maxHeartbeats 4000000 in
set_option maxRecDepth 100000 in
/-- differs -/
theorem c_X7_differs (l : Launch) (g : gG) (gh : gGh) (T : Nat → Int32) (I : gI) (R : gR) (J : gJ) (AI : gI) (AJ : gJ) (AR : gR) (mo : Nat) (rr : Int) (zrr : zr rr) (hv : mInv g gh R I AI) (hm : gO g mo 7) (hT : AI (gh 50 0) = T) : gMet l g yX7_differs tsX7_differs rmX7_differs [.ref mo, .int (iI rr)] (I, R, J, AI, AJ, AR) (gQi g (fun (z : Int) (w : gS) => R = w.2.1 ∧ J = w.2.2.1 ∧ AJ = w.2.2.2.2.1 ∧ AR = w.2.2.2.2.2 ∧ (mInv g gh R (w.1) (w.2.2.2.1)) ∧ ((w.2.2.2.1) (gh 50 0) = T) ∧ (nF mo I (w.1)))) := by
  refine gStart (cc := cX7_differs) (maxL := 7) (ret := (some (.int))) (by decide) rfl (Nat.le_of_ble_eq_true rfl) ?_
  intro p e s m below meth c ls F hr hlk hH hz hS hl
  have hl : lv_has ls 7 [(0, .ref mo), (1, .int (iI rr))] := hl
  have hS : va_S (gA g) s.heap s.heap [] := hS
  obtain ⟨H, hHe⟩ : ∃ H : Heap, H = s.heap := ⟨_, rfl⟩
  obtain ⟨locs, hlo⟩ : ∃ k : List Loc, k = [] := ⟨_, rfl⟩
  have hH : gH g I R J AI AJ AR H := by rw [hHe]; exact hH
  have hS : va_S (gA g) s.heap H locs := by rw [hHe, hlo]; exact hS
  suffices hw : W p l e rmX7_differs s m ([.ref mo, .int (iI rr)] : List Value).toArray below meth c H locs 0 0 (MQ below (gQi g (fun (z : Int) (w : gS) => R = w.2.1 ∧ J = w.2.2.1 ∧ AJ = w.2.2.2.2.1 ∧ AR = w.2.2.2.2.2 ∧ (mInv g gh R (w.1) (w.2.2.2.1)) ∧ ((w.2.2.2.1) (gh 50 0) = T) ∧ (nF mo I (w.1)))) ([.ref mo, .int (iI rr)] : List Value).toArray s 0 0 (gA g)) (F0 m 0 ls []) by
    rw [hHe, hlo] at hw; exact hw
  clear hHe hlo
  have nf : nF mo I I := nF_r
  have iX7 : ∀ w ∈ u_ws RX7 TX7 32, w ∈ tsX7_differs := fun w h => List.mem_cons_of_mem _ (inTB7 w h)
  have k60 : Cond.fieldLink RX7 60 (TX7 17).1 (TX7 17).2.1 (TX7 17).2.2.1 ∈ tsX7_differs := List.mem_cons_of_mem _ fl_60
  have k24 : Cond.fieldLink RX7 24 (TX7 6).1 (TX7 6).2.1 (TX7 6).2.2.1 ∈ tsX7_differs := List.mem_cons_of_mem _ fl_24
  refine lv_aload_n F.1 F.2.1 dX7_differs_0 rfl (lv_at hl 0 rfl) ?_
  refine z_iconst F dX7_differs_1 ?_
  refine g_putI (ci := 7) (k := 17) F hH hS rfl (by decide) iX7 hm (by decide) tyX7 tyX7_ok nmX7 rfl rfl rfl k60 dX7_differs_2 (fun H locs hH hS => ?_)
  obtain ⟨I_1, eI_1⟩ : ∃ qQ, qQ = gup2 I mo 17 (iI (0)) := ⟨_, rfl⟩
  rw [← eI_1] at hH
  have kI_1 : ∀ b, b ≠ mo → I_1 b = I b := fun b hb => by rw [eI_1]; exact funext fun j => gup2_a _ _ hb
  have w_2 : (I_1 mo 17).toInt = 0 := by rw [eI_1, gup2_s]; exact iI_val ⟨by decide, by decide⟩
  have hv : mInv g gh R I_1 AI := by rw [eI_1]; exact mP17 hv hm
  have nf : nF mo I I_1 := nF_t nf (by rw [eI_1]; exact nF_p (by decide))
  have u_3_2 : (I_1 mo 2).toInt = (I mo 2).toInt := by rw [nf 2 (by decide) (by decide) (by decide) (by decide) (by decide)]
  have u_3_5 : (I_1 mo 5).toInt = (I mo 5).toInt := by rw [nf 5 (by decide) (by decide) (by decide) (by decide) (by decide)]
  have u_3_14 : (I_1 mo 14).toInt = (I mo 14).toInt := by rw [nf 14 (by decide) (by decide) (by decide) (by decide) (by decide)]
  have u_3_16 : (I_1 mo 16).toInt = (I mo 16).toInt := by rw [nf 16 (by decide) (by decide) (by decide) (by decide) (by decide)]
  have u_3_24 : (I_1 mo 24).toInt = (I mo 24).toInt := by rw [nf 24 (by decide) (by decide) (by decide) (by decide) (by decide)]
  refine lv_aload_n F.1 F.2.1 dX7_differs_5 rfl (lv_at hl 0 rfl) ?_
  refine lv_iload_n F.1 F.2.1 dX7_differs_6 rfl (lv_at hl 1 rfl) ?_
  have b_4 := mJ hv hm
  unfold mNum1 at b_4
  refine g_calli (g_runV (As := [.int (iI rr)]) (rest := []) (ci := 7) F hl.1 hH hS hz (c_X7_isRelation l g gh T I_1 R J AI AJ AR mo rr zrr hv hm hT) (cwV 1 F.2.2.2.2.1 (good_up gT_X7_isRelation) rfl rfl rfl hdX7_isRelation ⟨Nat.le_of_ble_eq_true rfl, Nat.le_of_ble_eq_true rfl⟩) hm (by decide) rfl rfl rfl (Nat.le_of_ble_eq_true rfl) dX7_differs_7 ⟨Nat.zero_le _, Nat.zero_le _⟩) hS (fun v_11 I_5 R_6 J_7 AI_8 AJ_9 AR_10 H locs zv_11 hp_12 hH hS => ?_)
  dsimp only at hp_12
  obtain ⟨rfl, rfl, rfl, rfl, rfl, rfl, q_13⟩ := hp_12
  refine z_if_ne (tgt := 15) F dX7_differs_10 (by decide) zv_11 (fun c_14 => ?_) (fun c_14 => ?_)
  · refine lv_aload_n F.1 F.2.1 dX7_differs_15 rfl (lv_at hl 0 rfl) ?_
    refine z_iconst F dX7_differs_16 ?_
    refine z_bipush F dX7_differs_17 (by decide) ?_
    refine g_callv (g_runV (As := [.int (iI 0), .int (iI 10)]) (rest := []) (ci := 7) F hl.1 hH hS hz (c_X7_copies l g gh T I_1 R J AI AJ AR mo 0 10 ⟨by decide, by decide⟩ ⟨by decide, by decide⟩ hv hm hT (by omega)) (cwV 2 F.2.2.2.2.1 (good_up gT_X7_copies) rfl rfl rfl hdX7_copies ⟨Nat.le_of_ble_eq_true rfl, Nat.le_of_ble_eq_true rfl⟩) hm (by decide) rfl rfl rfl (Nat.le_of_ble_eq_true rfl) dX7_differs_19 ⟨Nat.zero_le _, Nat.zero_le _⟩) hS (fun I_15 R_16 J_17 AI_18 AJ_19 AR_20 H locs hp_21 hH hS => ?_)
    dsimp only at hp_21
    obtain ⟨rfl, rfl, rfl, rfl, rfl, hv, hT⟩ := hp_21
    refine lv_aload_n F.1 F.2.1 dX7_differs_22 rfl (lv_at hl 0 rfl) ?_
    refine g_calli (g_runV (As := []) (rest := []) (ci := 7) F hl.1 hH hS hz (c_X7_tables l g gh T I_1 R J AI_18 AJ AR mo hv hm hT) (cwV 0 F.2.2.2.2.1 (good_up gT_X7_tables) rfl rfl rfl hdX7_tables ⟨Nat.le_of_ble_eq_true rfl, Nat.le_of_ble_eq_true rfl⟩) hm (by decide) rfl rfl rfl (Nat.le_of_ble_eq_true rfl) dX7_differs_23 ⟨Nat.zero_le _, Nat.zero_le _⟩) hS (fun v_28 I_22 R_23 J_24 AI_25 AJ_26 AR_27 H locs zv_28 hp_29 hH hS => ?_)
    dsimp only at hp_29
    obtain ⟨rfl, rfl, rfl, rfl, rfl, rfl, q_30, hvw⟩ := hp_29
    obtain ⟨tb, etb⟩ : ∃ q, q = v_28 := ⟨_, rfl⟩
    refine lv_istore_n (lv' := [(2, .int (iI v_28)), (0, .ref mo), (1, .int (iI rr))]) F.1 F.2.1 dX7_differs_26 rfl hl (by decide) rfl (fun ls hl => ?_)
    have cut_27_32 : ∀ (NN : Nat) (k : Int) (I_31 : gI) (AI_32 : gI) (H : Heap) (locs : List Loc) (ls : Array Slot), zr k → (mInv g gh R I_31 AI_32) → (AI_32 (gh 50 0) = T) → (nF mo I I_31) → (tb ≤ k ∧ k ≤ 17) → (17 - k) < ((NN : Nat) : Int) → gH g I_31 R J AI_32 AJ AR H → va_S (gA g) s.heap H locs → lv_has ls 7 [(2, .int (iI k)), (0, .ref mo), (1, .int (iI rr))] → W p l e rmX7_differs s m ([.ref mo, .int (iI rr)] : List Value).toArray below meth c H locs 0 0 (MQ below (gQi g (fun (z : Int) (w : gS) => R = w.2.1 ∧ J = w.2.2.1 ∧ AJ = w.2.2.2.2.1 ∧ AR = w.2.2.2.2.2 ∧ (mInv g gh R (w.1) (w.2.2.2.1)) ∧ ((w.2.2.2.1) (gh 50 0) = T) ∧ (nF mo I (w.1)))) ([.ref mo, .int (iI rr)] : List Value).toArray s 0 0 (gA g)) (F0 m 27 ls []) := by
      intro NN27
      induction NN27 with
      | zero =>
        intro k I_31 AI_32 H locs ls zk hv hT nf hk hm27 hH hS hl
        exact absurd hm27 (by omega)
      | succ NN27 ih27 =>
        intro k I_31 AI_32 H locs ls zk hv hT nf hk hm27 hH hS hl
        have uc_2 : (I_31 mo 2).toInt = (I mo 2).toInt := by rw [nf 2 (by decide) (by decide) (by decide) (by decide) (by decide)]
        have uc_5 : (I_31 mo 5).toInt = (I mo 5).toInt := by rw [nf 5 (by decide) (by decide) (by decide) (by decide) (by decide)]
        have uc_14 : (I_31 mo 14).toInt = (I mo 14).toInt := by rw [nf 14 (by decide) (by decide) (by decide) (by decide) (by decide)]
        have uc_16 : (I_31 mo 16).toInt = (I mo 16).toInt := by rw [nf 16 (by decide) (by decide) (by decide) (by decide) (by decide)]
        have uc_24 : (I_31 mo 24).toInt = (I mo 24).toInt := by rw [nf 24 (by decide) (by decide) (by decide) (by decide) (by decide)]
        refine lv_iload_n F.1 F.2.1 dX7_differs_27 rfl (lv_at hl 0 rfl) ?_
        refine lv_iload_n F.1 F.2.1 dX7_differs_28 rfl (lv_at hl 2 rfl) ?_
        refine z_icmp_gt (tgt := 55) F dX7_differs_29 (by decide) zk zrr (fun c_34 => ?_) (fun c_34 => ?_)
        · refine lv_aload_n F.1 F.2.1 dX7_differs_55 rfl (lv_at hl 1 rfl) ?_
          refine z_iconst F dX7_differs_56 ?_
          refine lv_iload_n F.1 F.2.1 dX7_differs_57 rfl (lv_at hl 2 rfl) ?_
          have b_35 := mJ hv hm
          unfold mNum1 at b_35
          refine g_calli (g_runV (As := [.int (iI 0), .int (iI rr)]) (rest := []) (ci := 7) F hl.1 hH hS hz (c_X7_sizeOf l g gh T I_31 R J AI_32 AJ AR mo 0 rr ⟨by decide, by decide⟩ zrr hv hm hT (by omega) (by omega)) (cwV 2 F.2.2.2.2.1 (good_up gT_X7_sizeOf) rfl rfl rfl hdX7_sizeOf ⟨Nat.le_of_ble_eq_true rfl, Nat.le_of_ble_eq_true rfl⟩) hm (by decide) rfl rfl rfl (Nat.le_of_ble_eq_true rfl) dX7_differs_58 ⟨Nat.zero_le _, Nat.zero_le _⟩) hS (fun v_42 I_36 R_37 J_38 AI_39 AJ_40 AR_41 H locs zv_42 hp_43 hH hS => ?_)
          dsimp only at hp_43
          obtain ⟨rfl, rfl, rfl, rfl, rfl, rfl, q_44, q_45⟩ := hp_43
          refine lv_aload_n F.1 F.2.1 dX7_differs_61 rfl (lv_at hl 1 rfl) ?_
          refine z_bipush F dX7_differs_62 (by decide) ?_
          refine lv_iload_n F.1 F.2.1 dX7_differs_64 rfl (lv_at hl 2 rfl) ?_
          refine g_calli (g_runV (As := [.int (iI 10), .int (iI rr)]) (rest := [.int (iI v_42)]) (ci := 7) F hl.1 hH hS hz (c_X7_sizeOf l g gh T I_31 R J AI_32 AJ AR mo 10 rr ⟨by decide, by decide⟩ zrr hv hm hT (by omega) (by omega)) (cwV 2 F.2.2.2.2.1 (good_up gT_X7_sizeOf) rfl rfl rfl hdX7_sizeOf ⟨Nat.le_of_ble_eq_true rfl, Nat.le_of_ble_eq_true rfl⟩) hm (by decide) rfl rfl rfl (Nat.le_of_ble_eq_true rfl) dX7_differs_65 ⟨Nat.zero_le _, Nat.zero_le _⟩) hS (fun v_52 I_46 R_47 J_48 AI_49 AJ_50 AR_51 H locs zv_52 hp_53 hH hS => ?_)
          dsimp only at hp_53
          obtain ⟨rfl, rfl, rfl, rfl, rfl, rfl, q_54, q_55⟩ := hp_53
          refine z_iadd F dX7_differs_68 ?_
          refine lv_istore_n (lv' := [(2, .int (iI (v_42 + v_52))), (0, .ref mo), (1, .int (iI rr))]) F.1 F.2.1 dX7_differs_69 rfl hl (by decide) rfl (fun ls hl => ?_)
          refine z_iconst F dX7_differs_70 ?_
          refine lv_istore_n (lv' := [(3, .int (iI 0)), (2, .int (iI (v_42 + v_52))), (0, .ref mo), (1, .int (iI rr))]) F.1 F.2.1 dX7_differs_71 rfl hl (by decide) rfl (fun ls hl => ?_)
          have cut_72_55 : ∀ (NN : Nat) (n i : Int) (H : Heap) (locs : List Loc) (ls : Array Slot), zr n → zr i → (0 ≤ i ∧ i ≤ 120) → (120 - i) < ((NN : Nat) : Int) → gH g I_31 R J AI_32 AJ AR H → va_S (gA g) s.heap H locs → lv_has ls 7 [(3, .int (iI i)), (2, .int (iI n)), (0, .ref mo), (1, .int (iI rr))] → W p l e rmX7_differs s m ([.ref mo, .int (iI rr)] : List Value).toArray below meth c H locs 0 0 (MQ below (gQi g (fun (z : Int) (w : gS) => R = w.2.1 ∧ J = w.2.2.1 ∧ AJ = w.2.2.2.2.1 ∧ AR = w.2.2.2.2.2 ∧ (mInv g gh R (w.1) (w.2.2.2.1)) ∧ ((w.2.2.2.1) (gh 50 0) = T) ∧ (nF mo I (w.1)))) ([.ref mo, .int (iI rr)] : List Value).toArray s 0 0 (gA g)) (F0 m 72 ls []) := by
            intro NN72
            induction NN72 with
            | zero =>
              intro n i H locs ls zn zi hi hm72 hH hS hl
              exact absurd hm72 (by omega)
            | succ NN72 ih72 =>
              intro n i H locs ls zn zi hi hm72 hH hS hl
              refine lv_iload_n F.1 F.2.1 dX7_differs_72 rfl (lv_at hl 0 rfl) ?_
              refine lv_aload_n F.1 F.2.1 dX7_differs_73 rfl (lv_at hl 2 rfl) ?_
              refine z_iconst F dX7_differs_74 ?_
              refine lv_iload_n F.1 F.2.1 dX7_differs_75 rfl (lv_at hl 3 rfl) ?_
              refine g_calli (g_runV (As := [.int (iI 0), .int (iI rr)]) (rest := [.int (iI i)]) (ci := 7) F hl.1 hH hS hz (c_X7_sizeOf l g gh T I_31 R J AI_32 AJ AR mo 0 rr ⟨by decide, by decide⟩ zrr hv hm hT (by omega) (by omega)) (cwV 2 F.2.2.2.2.1 (good_up gT_X7_sizeOf) rfl rfl rfl hdX7_sizeOf ⟨Nat.le_of_ble_eq_true rfl, Nat.le_of_ble_eq_true rfl⟩) hm (by decide) rfl rfl rfl (Nat.le_of_ble_eq_true rfl) dX7_differs_76 ⟨Nat.zero_le _, Nat.zero_le _⟩) hS (fun v_63 I_57 R_58 J_59 AI_60 AJ_61 AR_62 H locs zv_63 hp_64 hH hS => ?_)
              dsimp only at hp_64
              obtain ⟨rfl, rfl, rfl, rfl, rfl, rfl, q_65, q_66⟩ := hp_64
              refine z_icmp_ge (tgt := 174) F dX7_differs_79 (by decide) zi zv_63 (fun c_67 => ?_) (fun c_67 => ?_)
              · refine lv_iload_n F.1 F.2.1 dX7_differs_174 rfl (lv_at hl 1 rfl) ?_
                exact g_iret F hr hlk hH hS hz zn ⟨rfl, rfl, rfl, rfl, hv, hT, nf⟩ dX7_differs_175
              · refine z_iconst F dX7_differs_82 ?_
                refine lv_istore (lv' := [(4, .int (iI 0)), (3, .int (iI i)), (2, .int (iI n)), (0, .ref mo), (1, .int (iI rr))]) F.1 F.2.1 dX7_differs_83 hl (by decide) rfl (fun ls hl => ?_)
                have cut_85_67 : ∀ (NN : Nat) (n jj : Int) (H : Heap) (locs : List Loc) (ls : Array Slot), zr n → zr jj → (0 ≤ jj ∧ jj ≤ 120) → (120 - jj) < ((NN : Nat) : Int) → gH g I_31 R J AI_32 AJ AR H → va_S (gA g) s.heap H locs → lv_has ls 7 [(4, .int (iI jj)), (3, .int (iI i)), (2, .int (iI n)), (0, .ref mo), (1, .int (iI rr))] → W p l e rmX7_differs s m ([.ref mo, .int (iI rr)] : List Value).toArray below meth c H locs 0 0 (MQ below (gQi g (fun (z : Int) (w : gS) => R = w.2.1 ∧ J = w.2.2.1 ∧ AJ = w.2.2.2.2.1 ∧ AR = w.2.2.2.2.2 ∧ (mInv g gh R (w.1) (w.2.2.2.1)) ∧ ((w.2.2.2.1) (gh 50 0) = T) ∧ (nF mo I (w.1)))) ([.ref mo, .int (iI rr)] : List Value).toArray s 0 0 (gA g)) (F0 m 85 ls []) := by
                  intro NN85
                  induction NN85 with
                  | zero =>
                    intro n jj H locs ls zn zjj hj hm85 hH hS hl
                    exact absurd hm85 (by omega)
                  | succ NN85 ih85 =>
                    intro n jj H locs ls zn zjj hj hm85 hH hS hl
                    refine lv_iload F.1 F.2.1 dX7_differs_85 (lv_at hl 0 rfl) ?_
                    refine lv_aload_n F.1 F.2.1 dX7_differs_87 rfl (lv_at hl 3 rfl) ?_
                    refine z_bipush F dX7_differs_88 (by decide) ?_
                    refine lv_iload_n F.1 F.2.1 dX7_differs_90 rfl (lv_at hl 4 rfl) ?_
                    refine g_calli (g_runV (As := [.int (iI 10), .int (iI rr)]) (rest := [.int (iI jj)]) (ci := 7) F hl.1 hH hS hz (c_X7_sizeOf l g gh T I_31 R J AI_32 AJ AR mo 10 rr ⟨by decide, by decide⟩ zrr hv hm hT (by omega) (by omega)) (cwV 2 F.2.2.2.2.1 (good_up gT_X7_sizeOf) rfl rfl rfl hdX7_sizeOf ⟨Nat.le_of_ble_eq_true rfl, Nat.le_of_ble_eq_true rfl⟩) hm (by decide) rfl rfl rfl (Nat.le_of_ble_eq_true rfl) dX7_differs_91 ⟨Nat.zero_le _, Nat.zero_le _⟩) hS (fun v_75 I_69 R_70 J_71 AI_72 AJ_73 AR_74 H locs zv_75 hp_76 hH hS => ?_)
                    dsimp only at hp_76
                    obtain ⟨rfl, rfl, rfl, rfl, rfl, rfl, q_77, q_78⟩ := hp_76
                    refine z_icmp_ge (tgt := 168) F dX7_differs_94 (by decide) zjj zv_75 (fun c_79 => ?_) (fun c_79 => ?_)
                    · refine z_iinc (lv' := [(3, .int (iI (i + 1))), (4, .int (iI jj)), (2, .int (iI n)), (0, .ref mo), (1, .int (iI rr))]) F dX7_differs_168 hl (k := 1) rfl (by decide) rfl (fun ls hl => ?_)
                      refine z_goto (tgt := 72) F dX7_differs_171 (by decide) ?_
                      exact ih72 n (i + 1) H locs ls zn ⟨by omega, by omega⟩ (by omega) (by omega) hH hS (lv_sub hl [0, 2, 3, 4] rfl)
                    · refine z_iconst F dX7_differs_97 ?_
                      refine lv_iload_n F.1 F.2.1 dX7_differs_98 rfl (lv_at hl 4 rfl) ?_
                      refine lv_iload_n F.1 F.2.1 dX7_differs_99 rfl (lv_at hl 1 rfl) ?_
                      refine g_calli (g_runS (As := [.int (iI 0), .int (iI rr), .int (iI i)]) (rest := []) F hl.1 hH hS hz (c_X7_spot l g  I_31 R J AI_32 AJ AR 0 rr i ⟨by decide, by decide⟩ zrr zi (by omega) (by omega) (by omega)) (va_cwS 3 F.2.2.2.2.1 (good_up gT_X7_spot) rfl rfl rfl hdX7_spot.2 ⟨Nat.le_of_ble_eq_true rfl, Nat.le_of_ble_eq_true rfl⟩) rfl rfl (Nat.le_of_ble_eq_true rfl) dX7_differs_100 ⟨Nat.zero_le _, Nat.zero_le _⟩) hS (fun v_86 I_80 R_81 J_82 AI_83 AJ_84 AR_85 H locs zv_86 hp_87 hH hS => ?_)
                      dsimp only at hp_87
                      obtain ⟨rfl, rfl, rfl, rfl, rfl, rfl, q_88⟩ := hp_87
                      refine lv_istore (lv' := [(5, .int (iI v_86)), (4, .int (iI jj)), (3, .int (iI i)), (2, .int (iI n)), (0, .ref mo), (1, .int (iI rr))]) F.1 F.2.1 dX7_differs_103 hl (by decide) rfl (fun ls hl => ?_)
                      refine z_bipush F dX7_differs_105 (by decide) ?_
                      refine lv_iload_n F.1 F.2.1 dX7_differs_107 rfl (lv_at hl 5 rfl) ?_
                      refine lv_iload F.1 F.2.1 dX7_differs_108 (lv_at hl 1 rfl) ?_
                      refine g_calli (g_runS (As := [.int (iI 10), .int (iI rr), .int (iI jj)]) (rest := []) F hl.1 hH hS hz (c_X7_spot l g  I_31 R J AI_32 AJ AR 10 rr jj ⟨by decide, by decide⟩ zrr zjj (by omega) (by omega) (by omega)) (va_cwS 3 F.2.2.2.2.1 (good_up gT_X7_spot) rfl rfl rfl hdX7_spot.2 ⟨Nat.le_of_ble_eq_true rfl, Nat.le_of_ble_eq_true rfl⟩) rfl rfl (Nat.le_of_ble_eq_true rfl) dX7_differs_110 ⟨Nat.zero_le _, Nat.zero_le _⟩) hS (fun v_95 I_89 R_90 J_91 AI_92 AJ_93 AR_94 H locs zv_95 hp_96 hH hS => ?_)
                      dsimp only at hp_96
                      obtain ⟨rfl, rfl, rfl, rfl, rfl, rfl, q_97⟩ := hp_96
                      refine lv_istore (lv' := [(6, .int (iI v_95)), (5, .int (iI v_86)), (4, .int (iI jj)), (3, .int (iI i)), (2, .int (iI n)), (0, .ref mo), (1, .int (iI rr))]) F.1 F.2.1 dX7_differs_113 hl (by decide) rfl (fun ls hl => ?_)
                      refine lv_aload_n F.1 F.2.1 dX7_differs_115 rfl (lv_at hl 5 rfl) ?_
                      obtain ⟨r_98a, r_98b⟩ : R mo 6 = some (gh 56 0) ∧ gAr g (gh 56 0) 9 126720 := mR hv hm (q := (6, 126720)) (by decide)
                      refine g_getR (ci := 7) (k := 6) F hH rfl (by decide) iX7 hm (by decide) rfl (b := gh 56 0) r_98a k24 dX7_differs_116 ?_
                      refine lv_iload F.1 F.2.1 dX7_differs_119 (lv_at hl 1 rfl) ?_
                      refine lv_aload_n F.1 F.2.1 dX7_differs_121 rfl (lv_at hl 5 rfl) ?_
                      refine g_getR (ci := 7) (k := 6) F hH rfl (by decide) iX7 hm (by decide) rfl (b := gh 56 0) r_98a k24 dX7_differs_122 ?_
                      refine lv_iload F.1 F.2.1 dX7_differs_125 (lv_at hl 0 rfl) ?_
                      refine g_calli (g_runS (As := [.ref (gh 56 0), .int (iI v_86), .ref (gh 56 0), .int (iI v_95)]) (rest := []) F hl.1 hH hS hz (c_X7_compare l g 126720 126720 I_31 R J AI_32 AJ AR (gh 56 0) v_86 (gh 56 0) v_95 zv_86 zv_95 r_98b r_98b (by omega) (by omega) (by omega) (by omega)) (va_cwS 4 F.2.2.2.2.1 (good_up gT_X7_compare) rfl rfl rfl hdX7_compare.2 ⟨Nat.le_of_ble_eq_true rfl, Nat.le_of_ble_eq_true rfl⟩) rfl rfl (Nat.le_of_ble_eq_true rfl) dX7_differs_127 ⟨Nat.zero_le _, Nat.zero_le _⟩) hS (fun v_105 I_99 R_100 J_101 AI_102 AJ_103 AR_104 H locs zv_105 hp_106 hH hS => ?_)
                      dsimp only at hp_106
                      obtain ⟨rfl, rfl, rfl, rfl, rfl, rfl, q_107⟩ := hp_106
                      refine z_if_ne (tgt := 162) F dX7_differs_130 (by decide) zv_105 (fun c_108 => ?_) (fun c_108 => ?_)
                      · refine z_iinc (lv' := [(4, .int (iI (jj + 1))), (6, .int (iI v_95)), (5, .int (iI v_86)), (3, .int (iI i)), (2, .int (iI n)), (0, .ref mo), (1, .int (iI rr))]) F dX7_differs_162 hl (k := 2) rfl (by decide) rfl (fun ls hl => ?_)
                        refine z_goto (tgt := 85) F dX7_differs_165 (by decide) ?_
                        exact ih85 n (jj + 1) H locs ls zn ⟨by omega, by omega⟩ (by omega) (by omega) hH hS (lv_sub hl [0, 3, 4, 5, 6] rfl)
                      · refine lv_iload_n F.1 F.2.1 dX7_differs_133 rfl (lv_at hl 4 rfl) ?_
                        refine lv_aload_n F.1 F.2.1 dX7_differs_134 rfl (lv_at hl 5 rfl) ?_
                        refine g_getR (ci := 7) (k := 6) F hH rfl (by decide) iX7 hm (by decide) rfl (b := gh 56 0) r_98a k24 dX7_differs_135 ?_
                        refine lv_iload F.1 F.2.1 dX7_differs_138 (lv_at hl 1 rfl) ?_
                        refine z_iconst F dX7_differs_140 ?_
                        refine z_iadd F dX7_differs_141 ?_
                        have hx142 : 0 ≤ (v_86 + 4) ∧ (v_86 + 4) < ((126720 : Nat) : Int) ∧ (v_86 + 4) ≤ 2147483647 := ⟨by omega, by omega, by omega⟩
                        refine g_iald F hH r_98b hx142.1 hx142.2.1 hx142.2.2 dX7_differs_142 ?_
                        refine z_name (fun v_109 ev_109 => ?_)
                        have zv_109 : zr v_109 := by rw [ev_109]; exact zr_t _
                        refine lv_aload_n F.1 F.2.1 dX7_differs_143 rfl (lv_at hl 5 rfl) ?_
                        refine g_getR (ci := 7) (k := 6) F hH rfl (by decide) iX7 hm (by decide) rfl (b := gh 56 0) r_98a k24 dX7_differs_144 ?_
                        refine lv_iload F.1 F.2.1 dX7_differs_147 (lv_at hl 0 rfl) ?_
                        refine z_iconst F dX7_differs_149 ?_
                        refine z_iadd F dX7_differs_150 ?_
                        have hx151 : 0 ≤ (v_95 + 4) ∧ (v_95 + 4) < ((126720 : Nat) : Int) ∧ (v_95 + 4) ≤ 2147483647 := ⟨by omega, by omega, by omega⟩
                        refine g_iald F hH r_98b hx151.1 hx151.2.1 hx151.2.2 dX7_differs_151 ?_
                        refine z_name (fun v_110 ev_110 => ?_)
                        have zv_110 : zr v_110 := by rw [ev_110]; exact zr_t _
                        refine z_icmp_ne (tgt := 159) F dX7_differs_152 (by decide) zv_109 zv_110 (fun c_111 => ?_) (fun c_111 => ?_)
                        · refine z_iconst F dX7_differs_159 ?_
                          refine z_isub F dX7_differs_160 ?_
                          refine z_norm (fun v_112 zv_112 ev_112 => ?_)
                          refine lv_istore_n (lv' := [(2, .int (iI v_112)), (6, .int (iI v_95)), (5, .int (iI v_86)), (4, .int (iI jj)), (3, .int (iI i)), (0, .ref mo), (1, .int (iI rr))]) F.1 F.2.1 dX7_differs_161 rfl hl (by decide) rfl (fun ls hl => ?_)
                          refine z_iinc (lv' := [(4, .int (iI (jj + 1))), (2, .int (iI v_112)), (6, .int (iI v_95)), (5, .int (iI v_86)), (3, .int (iI i)), (0, .ref mo), (1, .int (iI rr))]) F dX7_differs_162 hl (k := 3) rfl (by decide) rfl (fun ls hl => ?_)
                          refine z_goto (tgt := 85) F dX7_differs_165 (by decide) ?_
                          exact ih85 v_112 (jj + 1) H locs ls zv_112 ⟨by omega, by omega⟩ (by omega) (by omega) hH hS (lv_sub hl [0, 4, 1, 5, 6] rfl)
                        · refine z_iconst F dX7_differs_155 ?_
                          refine z_goto (tgt := 160) F dX7_differs_156 (by decide) ?_
                          refine z_isub F dX7_differs_160 ?_
                          refine z_norm (fun v_113 zv_113 ev_113 => ?_)
                          refine lv_istore_n (lv' := [(2, .int (iI v_113)), (6, .int (iI v_95)), (5, .int (iI v_86)), (4, .int (iI jj)), (3, .int (iI i)), (0, .ref mo), (1, .int (iI rr))]) F.1 F.2.1 dX7_differs_161 rfl hl (by decide) rfl (fun ls hl => ?_)
                          refine z_iinc (lv' := [(4, .int (iI (jj + 1))), (2, .int (iI v_113)), (6, .int (iI v_95)), (5, .int (iI v_86)), (3, .int (iI i)), (0, .ref mo), (1, .int (iI rr))]) F dX7_differs_162 hl (k := 3) rfl (by decide) rfl (fun ls hl => ?_)
                          refine z_goto (tgt := 85) F dX7_differs_165 (by decide) ?_
                          exact ih85 v_113 (jj + 1) H locs ls zv_113 ⟨by omega, by omega⟩ (by omega) (by omega) hH hS (lv_sub hl [0, 4, 1, 5, 6] rfl)
                exact cut_85_67 (((120 - 0) + 1 : Int).toNat) n 0 H locs ls zn ⟨by decide, by decide⟩ (by omega) (by omega) hH hS (lv_sub hl [0, 1, 2, 3, 4] rfl)
          exact cut_72_55 (((120 - 0) + 1 : Int).toNat) (v_42 + v_52) 0 H locs ls ⟨by omega, by omega⟩ ⟨by decide, by decide⟩ (by omega) (by omega) hH hS (lv_sub hl [0, 1, 2, 3] rfl)
        · refine lv_aload_n F.1 F.2.1 dX7_differs_32 rfl (lv_at hl 1 rfl) ?_
          refine z_bipush F dX7_differs_33 (by decide) ?_
          refine lv_iload_n F.1 F.2.1 dX7_differs_35 rfl (lv_at hl 0 rfl) ?_
          have b_114 := mJ hv hm
          unfold mNum1 at b_114
          refine g_calli (g_runV (As := [.int (iI 10), .int (iI k)]) (rest := []) (ci := 7) F hl.1 hH hS hz (c_X7_reckons l g gh T I_31 R J AI_32 AJ AR mo 10 k ⟨by decide, by decide⟩ zk hv hm hT (by omega) (by omega) (hvw k (by omega) (by omega))) (cwV 2 F.2.2.2.2.1 (good_up gT_X7_reckons) rfl rfl rfl hdX7_reckons ⟨Nat.le_of_ble_eq_true rfl, Nat.le_of_ble_eq_true rfl⟩) hm (by decide) rfl rfl rfl (Nat.le_of_ble_eq_true rfl) dX7_differs_36 ⟨Nat.zero_le _, Nat.zero_le _⟩) hS (fun v_121 I_115 R_116 J_117 AI_118 AJ_119 AR_120 H locs zv_121 hp_122 hH hS => ?_)
          dsimp only at hp_122
          obtain ⟨rfl, rfl, rfl, rfl, hv, hT, wfq⟩ := hp_122
          have nf := nF_t nf (nF_w wfq)
          have u_123_2 : (I_115 mo 2).toInt = (I mo 2).toInt := by rw [nf 2 (by decide) (by decide) (by decide) (by decide) (by decide)]
          have u_123_5 : (I_115 mo 5).toInt = (I mo 5).toInt := by rw [nf 5 (by decide) (by decide) (by decide) (by decide) (by decide)]
          have u_123_14 : (I_115 mo 14).toInt = (I mo 14).toInt := by rw [nf 14 (by decide) (by decide) (by decide) (by decide) (by decide)]
          have u_123_16 : (I_115 mo 16).toInt = (I mo 16).toInt := by rw [nf 16 (by decide) (by decide) (by decide) (by decide) (by decide)]
          have u_123_24 : (I_115 mo 24).toInt = (I mo 24).toInt := by rw [nf 24 (by decide) (by decide) (by decide) (by decide) (by decide)]
          refine z_if_ge (tgt := 49) F dX7_differs_39 (by decide) zv_121 (fun c_124 => ?_) (fun c_124 => ?_)
          · refine z_iinc (lv' := [(2, .int (iI (k + 1))), (0, .ref mo), (1, .int (iI rr))]) F dX7_differs_49 hl (k := 0) rfl (by decide) rfl (fun ls hl => ?_)
            refine z_goto (tgt := 27) F dX7_differs_52 (by decide) ?_
            exact ih27 (k + 1) I_115 AI_118 H locs ls ⟨by omega, by omega⟩ hv hT nf (by omega) (by omega) hH hS (lv_sub hl [0, 1, 2] rfl)
          · refine lv_aload_n F.1 F.2.1 dX7_differs_42 rfl (lv_at hl 1 rfl) ?_
            refine z_iconst F dX7_differs_43 ?_
            refine lv_iload_n F.1 F.2.1 dX7_differs_44 rfl (lv_at hl 2 rfl) ?_
            have b_125 := mJ hv hm
            unfold mNum1 at b_125
            refine g_calli (g_runV (As := [.int (iI 0), .int (iI rr)]) (rest := []) (ci := 7) F hl.1 hH hS hz (c_X7_sizeOf l g gh T I_115 R J AI_118 AJ AR mo 0 rr ⟨by decide, by decide⟩ zrr hv hm hT (by omega) (by omega)) (cwV 2 F.2.2.2.2.1 (good_up gT_X7_sizeOf) rfl rfl rfl hdX7_sizeOf ⟨Nat.le_of_ble_eq_true rfl, Nat.le_of_ble_eq_true rfl⟩) hm (by decide) rfl rfl rfl (Nat.le_of_ble_eq_true rfl) dX7_differs_45 ⟨Nat.zero_le _, Nat.zero_le _⟩) hS (fun v_132 I_126 R_127 J_128 AI_129 AJ_130 AR_131 H locs zv_132 hp_133 hH hS => ?_)
            dsimp only at hp_133
            obtain ⟨rfl, rfl, rfl, rfl, rfl, rfl, q_134, q_135⟩ := hp_133
            exact g_iret F hr hlk hH hS hz zv_132 ⟨rfl, rfl, rfl, rfl, hv, hT, nf⟩ dX7_differs_48
    exact cut_27_32 (((17 - v_28) + 1 : Int).toNat) v_28 I_1 AI_18 H locs ls zv_28 hv hT nf (by omega) (by omega) hH hS (lv_sub hl [0, 1, 2] rfl)
  · refine z_iconst F dX7_differs_13 ?_
    exact g_iret F hr hlk hH hS hz ⟨by decide, by decide⟩ ⟨rfl, rfl, rfl, rfl, hv, hT, nf⟩ dX7_differs_14

def rmX7_column_ : Room := { frames := 2, cells := 0, slots := 0, locals := 43 }
theorem hdX7_column_ : yX7_column_.cls = RX7 ∧ yX7_column_.cls ≠ "java/lang/invoke/MethodHandle" ∧ yX7_column_.cls ≠ "java/lang/invoke/VarHandle" ∧ (parseMethodDescriptor yX7_column_.desc).map (fun d => d.parameters.length) = some 3 := by decide +kernel
set_option maxHeartbeats 4000000 in
set_option maxRecDepth 100000 in
/-- column -/
theorem c_X7_column_ (l : Launch) (g : gG) (gh : gGh) (T : Nat → Int32) (I : gI) (R : gR) (J : gJ) (AI : gI) (AJ : gJ) (AR : gR) (mo : Nat) (rr : Int) (cl : Int) (wh : Int) (zrr : zr rr) (zcl : zr cl) (zwh : zr wh) (hv : mInv g gh R I AI) (hm : gO g mo 7) (hT : AI (gh 50 0) = T) : gMet l g yX7_column_ tsX7_column_ rmX7_column_ [.ref mo, .int (iI rr), .int (iI cl), .int (iI wh)] (I, R, J, AI, AJ, AR) (gQi g (fun (z : Int) (w : gS) => R = w.2.1 ∧ J = w.2.2.1 ∧ AI = w.2.2.2.1 ∧ AJ = w.2.2.2.2.1 ∧ AR = w.2.2.2.2.2 ∧ (mInv g gh R (w.1) AI) ∧ (nF mo I (w.1)))) := by
  refine gStart (cc := cX7_column_) (maxL := 11) (ret := (some (.int))) (by decide) rfl (Nat.le_of_ble_eq_true rfl) ?_
  intro p e s m below meth c ls F hr hlk hH hz hS hl
  have hl : lv_has ls 11 [(0, .ref mo), (1, .int (iI rr)), (2, .int (iI cl)), (3, .int (iI wh))] := hl
  have hS : va_S (gA g) s.heap s.heap [] := hS
  obtain ⟨H, hHe⟩ : ∃ H : Heap, H = s.heap := ⟨_, rfl⟩
  obtain ⟨locs, hlo⟩ : ∃ k : List Loc, k = [] := ⟨_, rfl⟩
  have hH : gH g I R J AI AJ AR H := by rw [hHe]; exact hH
  have hS : va_S (gA g) s.heap H locs := by rw [hHe, hlo]; exact hS
  suffices hw : W p l e rmX7_column_ s m ([.ref mo, .int (iI rr), .int (iI cl), .int (iI wh)] : List Value).toArray below meth c H locs 0 0 (MQ below (gQi g (fun (z : Int) (w : gS) => R = w.2.1 ∧ J = w.2.2.1 ∧ AI = w.2.2.2.1 ∧ AJ = w.2.2.2.2.1 ∧ AR = w.2.2.2.2.2 ∧ (mInv g gh R (w.1) AI) ∧ (nF mo I (w.1)))) ([.ref mo, .int (iI rr), .int (iI cl), .int (iI wh)] : List Value).toArray s 0 0 (gA g)) (F0 m 0 ls []) by
    rw [hHe, hlo] at hw; exact hw
  clear hHe hlo
  have nf : nF mo I I := nF_r
  have iX7 : ∀ w ∈ u_ws RX7 TX7 32, w ∈ tsX7_column_ := fun w h => List.mem_cons_of_mem _ (inTB7 w h)
  have k60 : Cond.fieldLink RX7 60 (TX7 17).1 (TX7 17).2.1 (TX7 17).2.2.1 ∈ tsX7_column_ := List.mem_cons_of_mem _ fl_60
  have k24 : Cond.fieldLink RX7 24 (TX7 6).1 (TX7 6).2.1 (TX7 6).2.2.1 ∈ tsX7_column_ := List.mem_cons_of_mem _ fl_24
  refine lv_aload_n F.1 F.2.1 dX7_column__0 rfl (lv_at hl 0 rfl) ?_
  have cut_52_0 : ∀ (th : Int) (H : Heap) (locs : List Loc) (ls : Array Slot), zr th → ((th = 0 ∧ 0 ≤ rr ∧ rr ≤ 15 ∧ 0 ≤ cl ∧ cl ≤ 3) ∨ th = 1) → gH g I R J AI AJ AR H → va_S (gA g) s.heap H locs → lv_has ls 11 [(0, .ref mo), (1, .int (iI rr)), (2, .int (iI cl)), (3, .int (iI wh))] → W p l e rmX7_column_ s m ([.ref mo, .int (iI rr), .int (iI cl), .int (iI wh)] : List Value).toArray below meth c H locs 0 0 (MQ below (gQi g (fun (z : Int) (w : gS) => R = w.2.1 ∧ J = w.2.2.1 ∧ AI = w.2.2.2.1 ∧ AJ = w.2.2.2.2.1 ∧ AR = w.2.2.2.2.2 ∧ (mInv g gh R (w.1) AI) ∧ (nF mo I (w.1)))) ([.ref mo, .int (iI rr), .int (iI cl), .int (iI wh)] : List Value).toArray s 0 0 (gA g)) (F0 m 52 ls [.int (iI th), .ref mo]) := by
    intro th H locs ls zth hth hH hS hl
    refine g_putI (ci := 7) (k := 17) F hH hS rfl (by decide) iX7 hm (by decide) tyX7 tyX7_ok nmX7 rfl rfl rfl k60 dX7_column__52 (fun H locs hH hS => ?_)
    obtain ⟨I_2, eI_2⟩ : ∃ qQ, qQ = gup2 I mo 17 (iI (th)) := ⟨_, rfl⟩
    rw [← eI_2] at hH
    have kI_2 : ∀ b, b ≠ mo → I_2 b = I b := fun b hb => by rw [eI_2]; exact funext fun j => gup2_a _ _ hb
    have w_3 : (I_2 mo 17).toInt = th := by rw [eI_2, gup2_s]; exact iI_val zth
    have hv : mInv g gh R I_2 AI := by rw [eI_2]; exact mP17 hv hm
    have nf : nF mo I I_2 := nF_t nf (by rw [eI_2]; exact nF_p (by decide))
    have u_4_2 : (I_2 mo 2).toInt = (I mo 2).toInt := by rw [nf 2 (by decide) (by decide) (by decide) (by decide) (by decide)]
    have u_4_5 : (I_2 mo 5).toInt = (I mo 5).toInt := by rw [nf 5 (by decide) (by decide) (by decide) (by decide) (by decide)]
    have u_4_14 : (I_2 mo 14).toInt = (I mo 14).toInt := by rw [nf 14 (by decide) (by decide) (by decide) (by decide) (by decide)]
    have u_4_16 : (I_2 mo 16).toInt = (I mo 16).toInt := by rw [nf 16 (by decide) (by decide) (by decide) (by decide) (by decide)]
    have u_4_24 : (I_2 mo 24).toInt = (I mo 24).toInt := by rw [nf 24 (by decide) (by decide) (by decide) (by decide) (by decide)]
    refine lv_aload_n F.1 F.2.1 dX7_column__55 rfl (lv_at hl 0 rfl) ?_
    refine g_getI (ci := 7) (k := 17) F hH rfl (by decide) iX7 hm (by decide) rfl k60 dX7_column__56 ?_
    refine z_iconst F dX7_column__59 ?_
    refine z_icmp_ne (tgt := 65) F dX7_column__60 (by decide) (zr_t _) ⟨by decide, by decide⟩ (fun c_5 => ?_) (fun c_5 => ?_)
    · refine lv_ldcw (v := iI (2147483647)) F.1 F.2.1 F.2.2.2.1 (F.2.2.2.2.1 _ (List.mem_cons_of_mem _ cc_388)) dX7_column__65 ?_
      refine lv_istore (lv' := [(4, .int (iI 2147483647)), (0, .ref mo), (1, .int (iI rr)), (2, .int (iI cl)), (3, .int (iI wh))]) F.1 F.2.1 dX7_column__68 hl (by decide) rfl (fun ls hl => ?_)
      refine lv_ldcw (v := iI (-2147483648)) F.1 F.2.1 F.2.2.2.1 (F.2.2.2.2.1 _ (List.mem_cons_of_mem _ cc_389)) dX7_column__70 ?_
      refine lv_istore (lv' := [(5, .int (iI (-2147483648))), (4, .int (iI 2147483647)), (0, .ref mo), (1, .int (iI rr)), (2, .int (iI cl)), (3, .int (iI wh))]) F.1 F.2.1 dX7_column__73 hl (by decide) rfl (fun ls hl => ?_)
      refine z_iconst F dX7_column__75 ?_
      refine lv_istore (lv' := [(6, .int (iI 0)), (5, .int (iI (-2147483648))), (4, .int (iI 2147483647)), (0, .ref mo), (1, .int (iI rr)), (2, .int (iI cl)), (3, .int (iI wh))]) F.1 F.2.1 dX7_column__76 hl (by decide) rfl (fun ls hl => ?_)
      refine z_iconst F dX7_column__78 ?_
      refine lv_istore (lv' := [(7, .int (iI 0)), (6, .int (iI 0)), (5, .int (iI (-2147483648))), (4, .int (iI 2147483647)), (0, .ref mo), (1, .int (iI rr)), (2, .int (iI cl)), (3, .int (iI wh))]) F.1 F.2.1 dX7_column__79 hl (by decide) rfl (fun ls hl => ?_)
      have cut_81_5 : ∀ (NN : Nat) (le mst un i : Int) (H : Heap) (locs : List Loc) (ls : Array Slot), zr le → zr mst → zr un → zr i → (0 ≤ un ∧ un ≤ i ∧ i ≤ 120) → (120 - i) < ((NN : Nat) : Int) → gH g I_2 R J AI AJ AR H → va_S (gA g) s.heap H locs → lv_has ls 11 [(7, .int (iI i)), (6, .int (iI un)), (5, .int (iI mst)), (4, .int (iI le)), (0, .ref mo), (1, .int (iI rr)), (2, .int (iI cl)), (3, .int (iI wh))] → W p l e rmX7_column_ s m ([.ref mo, .int (iI rr), .int (iI cl), .int (iI wh)] : List Value).toArray below meth c H locs 0 0 (MQ below (gQi g (fun (z : Int) (w : gS) => R = w.2.1 ∧ J = w.2.2.1 ∧ AI = w.2.2.2.1 ∧ AJ = w.2.2.2.2.1 ∧ AR = w.2.2.2.2.2 ∧ (mInv g gh R (w.1) AI) ∧ (nF mo I (w.1)))) ([.ref mo, .int (iI rr), .int (iI cl), .int (iI wh)] : List Value).toArray s 0 0 (gA g)) (F0 m 81 ls []) := by
        intro NN81
        induction NN81 with
        | zero =>
          intro le mst un i H locs ls zle zmst zun zi hi hm81 hH hS hl
          exact absurd hm81 (by omega)
        | succ NN81 ih81 =>
          intro le mst un i H locs ls zle zmst zun zi hi hm81 hH hS hl
          refine lv_iload F.1 F.2.1 dX7_column__81 (lv_at hl 0 rfl) ?_
          refine lv_aload_n F.1 F.2.1 dX7_column__83 rfl (lv_at hl 4 rfl) ?_
          refine z_iconst F dX7_column__84 ?_
          refine lv_iload_n F.1 F.2.1 dX7_column__85 rfl (lv_at hl 5 rfl) ?_
          have b_7 := mJ hv hm
          unfold mNum1 at b_7
          refine g_calli (g_runV (As := [.int (iI 0), .int (iI rr)]) (rest := [.int (iI i)]) (ci := 7) F hl.1 hH hS hz (c_X7_sizeOf l g gh T I_2 R J AI AJ AR mo 0 rr ⟨by decide, by decide⟩ zrr hv hm hT (by omega) (by omega)) (cwV 2 F.2.2.2.2.1 (good_up gT_X7_sizeOf) rfl rfl rfl hdX7_sizeOf ⟨Nat.le_of_ble_eq_true rfl, Nat.le_of_ble_eq_true rfl⟩) hm (by decide) rfl rfl rfl (Nat.le_of_ble_eq_true rfl) dX7_column__86 ⟨Nat.zero_le _, Nat.zero_le _⟩) hS (fun v_14 I_8 R_9 J_10 AI_11 AJ_12 AR_13 H locs zv_14 hp_15 hH hS => ?_)
          dsimp only at hp_15
          obtain ⟨rfl, rfl, rfl, rfl, rfl, rfl, q_16, q_17⟩ := hp_15
          refine z_icmp_ge (tgt := 194) F dX7_column__89 (by decide) zi zv_14 (fun c_18 => ?_) (fun c_18 => ?_)
          · refine lv_iload_n F.1 F.2.1 dX7_column__194 rfl (lv_at hl 7 rfl) ?_
            refine z_if_ne (tgt := 203) F dX7_column__195 (by decide) zwh (fun c_19 => ?_) (fun c_19 => ?_)
            · refine lv_iload_n F.1 F.2.1 dX7_column__203 rfl (lv_at hl 7 rfl) ?_
              refine z_iconst F dX7_column__204 ?_
              refine z_icmp_ne (tgt := 213) F dX7_column__205 (by decide) zwh ⟨by decide, by decide⟩ (fun c_20 => ?_) (fun c_20 => ?_)
              · refine lv_iload F.1 F.2.1 dX7_column__213 (lv_at hl 1 rfl) ?_
                exact g_iret F hr hlk hH hS hz zun ⟨rfl, rfl, rfl, rfl, rfl, hv, nf⟩ dX7_column__215
              · refine lv_iload F.1 F.2.1 dX7_column__208 (lv_at hl 2 rfl) ?_
                refine z_goto (tgt := 215) F dX7_column__210 (by decide) ?_
                exact g_iret F hr hlk hH hS hz zmst ⟨rfl, rfl, rfl, rfl, rfl, hv, nf⟩ dX7_column__215
            · refine lv_iload F.1 F.2.1 dX7_column__198 (lv_at hl 3 rfl) ?_
              refine z_goto (tgt := 215) F dX7_column__200 (by decide) ?_
              exact g_iret F hr hlk hH hS hz zle ⟨rfl, rfl, rfl, rfl, rfl, hv, nf⟩ dX7_column__215
          · refine lv_aload_n F.1 F.2.1 dX7_column__92 rfl (lv_at hl 4 rfl) ?_
            obtain ⟨r_21a, r_21b⟩ : R mo 6 = some (gh 56 0) ∧ gAr g (gh 56 0) 9 126720 := mR hv hm (q := (6, 126720)) (by decide)
            refine g_getR (ci := 7) (k := 6) F hH rfl (by decide) iX7 hm (by decide) rfl (b := gh 56 0) r_21a k24 dX7_column__93 ?_
            refine z_iconst F dX7_column__96 ?_
            refine lv_iload_n F.1 F.2.1 dX7_column__97 rfl (lv_at hl 5 rfl) ?_
            refine lv_iload F.1 F.2.1 dX7_column__98 (lv_at hl 0 rfl) ?_
            refine g_calli (g_runS (As := [.int (iI 0), .int (iI rr), .int (iI i)]) (rest := [.ref (gh 56 0)]) F hl.1 hH hS hz (c_X7_spot l g  I_2 R J AI AJ AR 0 rr i ⟨by decide, by decide⟩ zrr zi (by omega) (by omega) (by omega)) (va_cwS 3 F.2.2.2.2.1 (good_up gT_X7_spot) rfl rfl rfl hdX7_spot.2 ⟨Nat.le_of_ble_eq_true rfl, Nat.le_of_ble_eq_true rfl⟩) rfl rfl (Nat.le_of_ble_eq_true rfl) dX7_column__100 ⟨Nat.zero_le _, Nat.zero_le _⟩) hS (fun v_28 I_22 R_23 J_24 AI_25 AJ_26 AR_27 H locs zv_28 hp_29 hH hS => ?_)
            dsimp only at hp_29
            obtain ⟨rfl, rfl, rfl, rfl, rfl, rfl, q_30⟩ := hp_29
            refine lv_iload_n F.1 F.2.1 dX7_column__103 rfl (lv_at hl 6 rfl) ?_
            refine z_iadd F dX7_column__104 ?_
            have hx105 : 0 ≤ (v_28 + cl) ∧ (v_28 + cl) < ((126720 : Nat) : Int) ∧ (v_28 + cl) ≤ 2147483647 := ⟨by omega, by omega, by omega⟩
            refine g_iald F hH r_21b hx105.1 hx105.2.1 hx105.2.2 dX7_column__105 ?_
            refine z_name (fun v_31 ev_31 => ?_)
            have zv_31 : zr v_31 := by rw [ev_31]; exact zr_t _
            refine lv_istore (lv' := [(8, .int (iI v_31)), (7, .int (iI i)), (6, .int (iI un)), (5, .int (iI mst)), (4, .int (iI le)), (0, .ref mo), (1, .int (iI rr)), (2, .int (iI cl)), (3, .int (iI wh))]) F.1 F.2.1 dX7_column__106 hl (by decide) rfl (fun ls hl => ?_)
            have cut_119_31 : ∀ (le2 : Int) (H : Heap) (locs : List Loc) (ls : Array Slot), zr le2 → gH g I_2 R J AI AJ AR H → va_S (gA g) s.heap H locs → lv_has ls 11 [(8, .int (iI v_31)), (7, .int (iI i)), (6, .int (iI un)), (5, .int (iI mst)), (4, .int (iI le2)), (0, .ref mo), (1, .int (iI rr)), (2, .int (iI cl)), (3, .int (iI wh))] → W p l e rmX7_column_ s m ([.ref mo, .int (iI rr), .int (iI cl), .int (iI wh)] : List Value).toArray below meth c H locs 0 0 (MQ below (gQi g (fun (z : Int) (w : gS) => R = w.2.1 ∧ J = w.2.2.1 ∧ AI = w.2.2.2.1 ∧ AJ = w.2.2.2.2.1 ∧ AR = w.2.2.2.2.2 ∧ (mInv g gh R (w.1) AI) ∧ (nF mo I (w.1)))) ([.ref mo, .int (iI rr), .int (iI cl), .int (iI wh)] : List Value).toArray s 0 0 (gA g)) (F0 m 119 ls []) := by
              intro le2 H locs ls zle2 hH hS hl
              have cut_130_32 : ∀ (ms2 : Int) (H : Heap) (locs : List Loc) (ls : Array Slot), zr ms2 → gH g I_2 R J AI AJ AR H → va_S (gA g) s.heap H locs → lv_has ls 11 [(8, .int (iI v_31)), (7, .int (iI i)), (6, .int (iI un)), (5, .int (iI ms2)), (4, .int (iI le2)), (0, .ref mo), (1, .int (iI rr)), (2, .int (iI cl)), (3, .int (iI wh))] → W p l e rmX7_column_ s m ([.ref mo, .int (iI rr), .int (iI cl), .int (iI wh)] : List Value).toArray below meth c H locs 0 0 (MQ below (gQi g (fun (z : Int) (w : gS) => R = w.2.1 ∧ J = w.2.2.1 ∧ AI = w.2.2.2.1 ∧ AJ = w.2.2.2.2.1 ∧ AR = w.2.2.2.2.2 ∧ (mInv g gh R (w.1) AI) ∧ (nF mo I (w.1)))) ([.ref mo, .int (iI rr), .int (iI cl), .int (iI wh)] : List Value).toArray s 0 0 (gA g)) (F0 m 130 ls []) := by
                intro ms2 H locs ls zms2 hH hS hl
                refine z_iconst F dX7_column__130 ?_
                refine lv_istore (lv' := [(9, .int (iI 1)), (8, .int (iI v_31)), (7, .int (iI i)), (6, .int (iI un)), (5, .int (iI ms2)), (4, .int (iI le2)), (0, .ref mo), (1, .int (iI rr)), (2, .int (iI cl)), (3, .int (iI wh))]) F.1 F.2.1 dX7_column__131 hl (by decide) rfl (fun ls hl => ?_)
                refine z_iconst F dX7_column__133 ?_
                refine lv_istore (lv' := [(10, .int (iI 0)), (9, .int (iI 1)), (8, .int (iI v_31)), (7, .int (iI i)), (6, .int (iI un)), (5, .int (iI ms2)), (4, .int (iI le2)), (0, .ref mo), (1, .int (iI rr)), (2, .int (iI cl)), (3, .int (iI wh))]) F.1 F.2.1 dX7_column__134 hl (by decide) rfl (fun ls hl => ?_)
                have cut_136_33 : ∀ (NN : Nat) (is jj : Int) (H : Heap) (locs : List Loc) (ls : Array Slot), zr is → zr jj → (0 ≤ jj ∧ jj ≤ i) → (i - jj) < ((NN : Nat) : Int) → gH g I_2 R J AI AJ AR H → va_S (gA g) s.heap H locs → lv_has ls 11 [(10, .int (iI jj)), (9, .int (iI is)), (8, .int (iI v_31)), (7, .int (iI i)), (6, .int (iI un)), (5, .int (iI ms2)), (4, .int (iI le2)), (0, .ref mo), (1, .int (iI rr)), (2, .int (iI cl)), (3, .int (iI wh))] → W p l e rmX7_column_ s m ([.ref mo, .int (iI rr), .int (iI cl), .int (iI wh)] : List Value).toArray below meth c H locs 0 0 (MQ below (gQi g (fun (z : Int) (w : gS) => R = w.2.1 ∧ J = w.2.2.1 ∧ AI = w.2.2.2.1 ∧ AJ = w.2.2.2.2.1 ∧ AR = w.2.2.2.2.2 ∧ (mInv g gh R (w.1) AI) ∧ (nF mo I (w.1)))) ([.ref mo, .int (iI rr), .int (iI cl), .int (iI wh)] : List Value).toArray s 0 0 (gA g)) (F0 m 136 ls []) := by
                  intro NN136
                  induction NN136 with
                  | zero =>
                    intro is jj H locs ls zis zjj hj hm136 hH hS hl
                    exact absurd hm136 (by omega)
                  | succ NN136 ih136 =>
                    intro is jj H locs ls zis zjj hj hm136 hH hS hl
                    refine lv_iload F.1 F.2.1 dX7_column__136 (lv_at hl 0 rfl) ?_
                    refine lv_iload F.1 F.2.1 dX7_column__138 (lv_at hl 3 rfl) ?_
                    refine z_icmp_ge (tgt := 180) F dX7_column__140 (by decide) zjj zi (fun c_35 => ?_) (fun c_35 => ?_)
                    · refine lv_iload F.1 F.2.1 dX7_column__180 (lv_at hl 1 rfl) ?_
                      refine z_if_eq (tgt := 188) F dX7_column__182 (by decide) zis (fun c_36 => ?_) (fun c_36 => ?_)
                      · refine z_iinc (lv' := [(7, .int (iI (i + 1))), (10, .int (iI jj)), (9, .int (iI is)), (8, .int (iI v_31)), (6, .int (iI un)), (5, .int (iI ms2)), (4, .int (iI le2)), (0, .ref mo), (1, .int (iI rr)), (2, .int (iI cl)), (3, .int (iI wh))]) F dX7_column__188 hl (k := 3) rfl (by decide) rfl (fun ls hl => ?_)
                        refine z_goto (tgt := 81) F dX7_column__191 (by decide) ?_
                        exact ih81 le2 ms2 un (i + 1) H locs ls zle2 zms2 zun ⟨by omega, by omega⟩ (by omega) (by omega) hH hS (lv_sub hl [0, 4, 5, 6, 7, 8, 9, 10] rfl)
                      · refine z_iinc (lv' := [(6, .int (iI (un + 1))), (10, .int (iI jj)), (9, .int (iI is)), (8, .int (iI v_31)), (7, .int (iI i)), (5, .int (iI ms2)), (4, .int (iI le2)), (0, .ref mo), (1, .int (iI rr)), (2, .int (iI cl)), (3, .int (iI wh))]) F dX7_column__185 hl (k := 4) rfl (by decide) rfl (fun ls hl => ?_)
                        refine z_iinc (lv' := [(7, .int (iI (i + 1))), (6, .int (iI (un + 1))), (10, .int (iI jj)), (9, .int (iI is)), (8, .int (iI v_31)), (5, .int (iI ms2)), (4, .int (iI le2)), (0, .ref mo), (1, .int (iI rr)), (2, .int (iI cl)), (3, .int (iI wh))]) F dX7_column__188 hl (k := 4) rfl (by decide) rfl (fun ls hl => ?_)
                        refine z_goto (tgt := 81) F dX7_column__191 (by decide) ?_
                        exact ih81 le2 ms2 (un + 1) (i + 1) H locs ls zle2 zms2 ⟨by omega, by omega⟩ ⟨by omega, by omega⟩ (by omega) (by omega) hH hS (lv_sub hl [0, 1, 5, 6, 7, 8, 9, 10] rfl)
                    · refine lv_iload F.1 F.2.1 dX7_column__143 (lv_at hl 1 rfl) ?_
                      refine z_if_eq (tgt := 171) F dX7_column__145 (by decide) zis (fun c_37 => ?_) (fun c_37 => ?_)
                      · refine z_iconst F dX7_column__171 ?_
                        refine lv_istore (lv' := [(9, .int (iI 0)), (10, .int (iI jj)), (8, .int (iI v_31)), (7, .int (iI i)), (6, .int (iI un)), (5, .int (iI ms2)), (4, .int (iI le2)), (0, .ref mo), (1, .int (iI rr)), (2, .int (iI cl)), (3, .int (iI wh))]) F.1 F.2.1 dX7_column__172 hl (by decide) rfl (fun ls hl => ?_)
                        refine z_iinc (lv' := [(10, .int (iI (jj + 1))), (9, .int (iI 0)), (8, .int (iI v_31)), (7, .int (iI i)), (6, .int (iI un)), (5, .int (iI ms2)), (4, .int (iI le2)), (0, .ref mo), (1, .int (iI rr)), (2, .int (iI cl)), (3, .int (iI wh))]) F dX7_column__174 hl (k := 1) rfl (by decide) rfl (fun ls hl => ?_)
                        refine z_goto (tgt := 136) F dX7_column__177 (by decide) ?_
                        exact ih136 0 (jj + 1) H locs ls ⟨by decide, by decide⟩ ⟨by omega, by omega⟩ (by omega) (by omega) hH hS (lv_sub hl [0, 1, 2, 3, 4, 5, 6, 7, 8, 9, 10] rfl)
                      · refine lv_aload_n F.1 F.2.1 dX7_column__148 rfl (lv_at hl 7 rfl) ?_
                        refine g_getR (ci := 7) (k := 6) F hH rfl (by decide) iX7 hm (by decide) rfl (b := gh 56 0) r_21a k24 dX7_column__149 ?_
                        refine z_iconst F dX7_column__152 ?_
                        refine lv_iload_n F.1 F.2.1 dX7_column__153 rfl (lv_at hl 8 rfl) ?_
                        refine lv_iload F.1 F.2.1 dX7_column__154 (lv_at hl 0 rfl) ?_
                        refine g_calli (g_runS (As := [.int (iI 0), .int (iI rr), .int (iI jj)]) (rest := [.ref (gh 56 0)]) F hl.1 hH hS hz (c_X7_spot l g  I_2 R J AI AJ AR 0 rr jj ⟨by decide, by decide⟩ zrr zjj (by omega) (by omega) (by omega)) (va_cwS 3 F.2.2.2.2.1 (good_up gT_X7_spot) rfl rfl rfl hdX7_spot.2 ⟨Nat.le_of_ble_eq_true rfl, Nat.le_of_ble_eq_true rfl⟩) rfl rfl (Nat.le_of_ble_eq_true rfl) dX7_column__156 ⟨Nat.zero_le _, Nat.zero_le _⟩) hS (fun v_44 I_38 R_39 J_40 AI_41 AJ_42 AR_43 H locs zv_44 hp_45 hH hS => ?_)
                        dsimp only at hp_45
                        obtain ⟨rfl, rfl, rfl, rfl, rfl, rfl, q_46⟩ := hp_45
                        refine lv_iload_n F.1 F.2.1 dX7_column__159 rfl (lv_at hl 9 rfl) ?_
                        refine z_iadd F dX7_column__160 ?_
                        have hx161 : 0 ≤ (v_44 + cl) ∧ (v_44 + cl) < ((126720 : Nat) : Int) ∧ (v_44 + cl) ≤ 2147483647 := ⟨by omega, by omega, by omega⟩
                        refine g_iald F hH r_21b hx161.1 hx161.2.1 hx161.2.2 dX7_column__161 ?_
                        refine z_name (fun v_47 ev_47 => ?_)
                        have zv_47 : zr v_47 := by rw [ev_47]; exact zr_t _
                        refine lv_iload F.1 F.2.1 dX7_column__162 (lv_at hl 2 rfl) ?_
                        refine z_icmp_eq (tgt := 171) F dX7_column__164 (by decide) zv_47 zv_31 (fun c_48 => ?_) (fun c_48 => ?_)
                        · refine z_iconst F dX7_column__171 ?_
                          refine lv_istore (lv' := [(9, .int (iI 0)), (10, .int (iI jj)), (8, .int (iI v_31)), (7, .int (iI i)), (6, .int (iI un)), (5, .int (iI ms2)), (4, .int (iI le2)), (0, .ref mo), (1, .int (iI rr)), (2, .int (iI cl)), (3, .int (iI wh))]) F.1 F.2.1 dX7_column__172 hl (by decide) rfl (fun ls hl => ?_)
                          refine z_iinc (lv' := [(10, .int (iI (jj + 1))), (9, .int (iI 0)), (8, .int (iI v_31)), (7, .int (iI i)), (6, .int (iI un)), (5, .int (iI ms2)), (4, .int (iI le2)), (0, .ref mo), (1, .int (iI rr)), (2, .int (iI cl)), (3, .int (iI wh))]) F dX7_column__174 hl (k := 1) rfl (by decide) rfl (fun ls hl => ?_)
                          refine z_goto (tgt := 136) F dX7_column__177 (by decide) ?_
                          exact ih136 0 (jj + 1) H locs ls ⟨by decide, by decide⟩ ⟨by omega, by omega⟩ (by omega) (by omega) hH hS (lv_sub hl [0, 1, 2, 3, 4, 5, 6, 7, 8, 9, 10] rfl)
                        · refine z_iconst F dX7_column__167 ?_
                          refine z_goto (tgt := 172) F dX7_column__168 (by decide) ?_
                          refine lv_istore (lv' := [(9, .int (iI 1)), (10, .int (iI jj)), (8, .int (iI v_31)), (7, .int (iI i)), (6, .int (iI un)), (5, .int (iI ms2)), (4, .int (iI le2)), (0, .ref mo), (1, .int (iI rr)), (2, .int (iI cl)), (3, .int (iI wh))]) F.1 F.2.1 dX7_column__172 hl (by decide) rfl (fun ls hl => ?_)
                          refine z_iinc (lv' := [(10, .int (iI (jj + 1))), (9, .int (iI 1)), (8, .int (iI v_31)), (7, .int (iI i)), (6, .int (iI un)), (5, .int (iI ms2)), (4, .int (iI le2)), (0, .ref mo), (1, .int (iI rr)), (2, .int (iI cl)), (3, .int (iI wh))]) F dX7_column__174 hl (k := 1) rfl (by decide) rfl (fun ls hl => ?_)
                          refine z_goto (tgt := 136) F dX7_column__177 (by decide) ?_
                          exact ih136 1 (jj + 1) H locs ls ⟨by decide, by decide⟩ ⟨by omega, by omega⟩ (by omega) (by omega) hH hS (lv_sub hl [0, 1, 2, 3, 4, 5, 6, 7, 8, 9, 10] rfl)
                exact cut_136_33 (((i - 0) + 1 : Int).toNat) 1 0 H locs ls ⟨by decide, by decide⟩ ⟨by decide, by decide⟩ (by omega) (by omega) hH hS (lv_sub hl [0, 1, 2, 3, 4, 5, 6, 7, 8, 9, 10] rfl)
              refine lv_iload F.1 F.2.1 dX7_column__119 (lv_at hl 0 rfl) ?_
              refine lv_iload F.1 F.2.1 dX7_column__121 (lv_at hl 3 rfl) ?_
              refine z_icmp_le (tgt := 130) F dX7_column__123 (by decide) zv_31 zmst (fun c_49 => ?_) (fun c_49 => ?_)
              · exact cut_130_32 mst H locs ls zmst hH hS (lv_sub hl [0, 1, 2, 3, 4, 5, 6, 7, 8] rfl)
              · refine lv_iload F.1 F.2.1 dX7_column__126 (lv_at hl 0 rfl) ?_
                refine lv_istore (lv' := [(5, .int (iI v_31)), (8, .int (iI v_31)), (7, .int (iI i)), (6, .int (iI un)), (4, .int (iI le2)), (0, .ref mo), (1, .int (iI rr)), (2, .int (iI cl)), (3, .int (iI wh))]) F.1 F.2.1 dX7_column__128 hl (by decide) rfl (fun ls hl => ?_)
                exact cut_130_32 v_31 H locs ls zv_31 hH hS (lv_sub hl [1, 2, 3, 0, 4, 5, 6, 7, 8] rfl)
            refine lv_iload F.1 F.2.1 dX7_column__108 (lv_at hl 0 rfl) ?_
            refine lv_iload F.1 F.2.1 dX7_column__110 (lv_at hl 4 rfl) ?_
            refine z_icmp_ge (tgt := 119) F dX7_column__112 (by decide) zv_31 zle (fun c_50 => ?_) (fun c_50 => ?_)
            · exact cut_119_31 le H locs ls zle hH hS (lv_sub hl [0, 1, 2, 3, 4, 5, 6, 7, 8] rfl)
            · refine lv_iload F.1 F.2.1 dX7_column__115 (lv_at hl 0 rfl) ?_
              refine lv_istore (lv' := [(4, .int (iI v_31)), (8, .int (iI v_31)), (7, .int (iI i)), (6, .int (iI un)), (5, .int (iI mst)), (0, .ref mo), (1, .int (iI rr)), (2, .int (iI cl)), (3, .int (iI wh))]) F.1 F.2.1 dX7_column__117 hl (by decide) rfl (fun ls hl => ?_)
              exact cut_119_31 v_31 H locs ls zv_31 hH hS (lv_sub hl [1, 2, 3, 4, 0, 5, 6, 7, 8] rfl)
      exact cut_81_5 (((120 - 0) + 1 : Int).toNat) 2147483647 (-2147483648) 0 0 H locs ls ⟨by decide, by decide⟩ ⟨by decide, by decide⟩ ⟨by decide, by decide⟩ ⟨by decide, by decide⟩ (by omega) (by omega) hH hS (lv_sub hl [0, 1, 2, 3, 4, 5, 6, 7] rfl)
    · refine z_iconst F dX7_column__63 ?_
      exact g_iret F hr hlk hH hS hz ⟨by decide, by decide⟩ ⟨rfl, rfl, rfl, rfl, rfl, hv, nf⟩ dX7_column__64
  refine lv_aload_n F.1 F.2.1 dX7_column__1 rfl (lv_at hl 0 rfl) ?_
  refine lv_iload_n F.1 F.2.1 dX7_column__2 rfl (lv_at hl 1 rfl) ?_
  have b_51 := mJ hv hm
  unfold mNum1 at b_51
  refine g_calli (g_runV (As := [.int (iI rr)]) (rest := [.ref mo]) (ci := 7) F hl.1 hH hS hz (c_X7_isRelation l g gh T I R J AI AJ AR mo rr zrr hv hm hT) (cwV 1 F.2.2.2.2.1 (good_up gT_X7_isRelation) rfl rfl rfl hdX7_isRelation ⟨Nat.le_of_ble_eq_true rfl, Nat.le_of_ble_eq_true rfl⟩) hm (by decide) rfl rfl rfl (Nat.le_of_ble_eq_true rfl) dX7_column__3 ⟨Nat.zero_le _, Nat.zero_le _⟩) hS (fun v_58 I_52 R_53 J_54 AI_55 AJ_56 AR_57 H locs zv_58 hp_59 hH hS => ?_)
  dsimp only at hp_59
  obtain ⟨rfl, rfl, rfl, rfl, rfl, rfl, q_60⟩ := hp_59
  refine z_if_eq (tgt := 51) F dX7_column__6 (by decide) zv_58 (fun c_61 => ?_) (fun c_61 => ?_)
  · refine z_iconst F dX7_column__51 ?_
    exact cut_52_0 1 H locs ls ⟨by decide, by decide⟩ (by omega) hH hS (lv_sub hl [0, 1, 2, 3] rfl)
  · refine lv_iload_n F.1 F.2.1 dX7_column__9 rfl (lv_at hl 2 rfl) ?_
    refine z_iconst F dX7_column__10 ?_
    have x := mRow hv hm hT (z := rr) (by omega) (by omega)
    have xa := x.1
    refine lv_aload_n F.1 F.2.1 dX7_column__11 rfl (lv_at hl 0 rfl) ?_
    refine lv_iload_n F.1 F.2.1 dX7_column__12 rfl (lv_at hl 1 rfl) ?_
    refine g_calli (g_runV (As := [.int (iI rr)]) (rest := [.int (iI 0), .int (iI cl), .ref mo]) (ci := 7) F hl.1 hH hS hz (c_X7_columnsOf l g gh T I R J AI AJ AR mo rr zrr hv hm hT (by omega)) (cwV 1 F.2.2.2.2.1 (good_up gT_X7_columnsOf) rfl rfl rfl hdX7_columnsOf ⟨Nat.le_of_ble_eq_true rfl, Nat.le_of_ble_eq_true rfl⟩) hm (by decide) rfl rfl rfl (Nat.le_of_ble_eq_true rfl) dX7_column__13 ⟨Nat.zero_le _, Nat.zero_le _⟩) hS (fun v_68 I_62 R_63 J_64 AI_65 AJ_66 AR_67 H locs zv_68 hp_69 hH hS => ?_)
    dsimp only at hp_69
    obtain ⟨rfl, rfl, rfl, rfl, rfl, rfl, q_70⟩ := hp_69
    refine z_iconst F dX7_column__16 ?_
    refine z_isub F dX7_column__17 ?_
    refine g_calli (g_runS (As := [.int (iI cl), .int (iI 0), .int (iI (v_68 - 1))]) (rest := [.ref mo]) F hl.1 hH hS hz (c_X7_within l g  I R J AI AJ AR cl 0 (v_68 - 1) zcl ⟨by decide, by decide⟩ ⟨by omega, by omega⟩) (va_cwS 3 F.2.2.2.2.1 (good_up gT_X7_within) rfl rfl rfl hdX7_within.2 ⟨Nat.le_of_ble_eq_true rfl, Nat.le_of_ble_eq_true rfl⟩) rfl rfl (Nat.le_of_ble_eq_true rfl) dX7_column__18 ⟨Nat.zero_le _, Nat.zero_le _⟩) hS (fun v_77 I_71 R_72 J_73 AI_74 AJ_75 AR_76 H locs zv_77 hp_78 hH hS => ?_)
    dsimp only at hp_78
    obtain ⟨rfl, rfl, rfl, rfl, rfl, rfl, q_79⟩ := hp_78
    refine z_if_eq (tgt := 51) F dX7_column__21 (by decide) zv_77 (fun c_80 => ?_) (fun c_80 => ?_)
    · refine z_iconst F dX7_column__51 ?_
      exact cut_52_0 1 H locs ls ⟨by decide, by decide⟩ (by omega) hH hS (lv_sub hl [0, 1, 2, 3] rfl)
    · refine lv_iload_n F.1 F.2.1 dX7_column__24 rfl (lv_at hl 3 rfl) ?_
      refine z_iconst F dX7_column__25 ?_
      refine z_iconst F dX7_column__26 ?_
      refine g_calli (g_runS (As := [.int (iI wh), .int (iI 0), .int (iI 2)]) (rest := [.ref mo]) F hl.1 hH hS hz (c_X7_within l g  I R J AI AJ AR wh 0 2 zwh ⟨by decide, by decide⟩ ⟨by decide, by decide⟩) (va_cwS 3 F.2.2.2.2.1 (good_up gT_X7_within) rfl rfl rfl hdX7_within.2 ⟨Nat.le_of_ble_eq_true rfl, Nat.le_of_ble_eq_true rfl⟩) rfl rfl (Nat.le_of_ble_eq_true rfl) dX7_column__27 ⟨Nat.zero_le _, Nat.zero_le _⟩) hS (fun v_87 I_81 R_82 J_83 AI_84 AJ_85 AR_86 H locs zv_87 hp_88 hH hS => ?_)
      dsimp only at hp_88
      obtain ⟨rfl, rfl, rfl, rfl, rfl, rfl, q_89⟩ := hp_88
      refine z_if_eq (tgt := 51) F dX7_column__30 (by decide) zv_87 (fun c_90 => ?_) (fun c_90 => ?_)
      · refine z_iconst F dX7_column__51 ?_
        exact cut_52_0 1 H locs ls ⟨by decide, by decide⟩ (by omega) hH hS (lv_sub hl [0, 1, 2, 3] rfl)
      · refine lv_iload_n F.1 F.2.1 dX7_column__33 rfl (lv_at hl 3 rfl) ?_
        refine z_iconst F dX7_column__34 ?_
        refine z_icmp_eq (tgt := 47) F dX7_column__35 (by decide) zwh ⟨by decide, by decide⟩ (fun c_91 => ?_) (fun c_91 => ?_)
        · refine z_iconst F dX7_column__47 ?_
          refine z_goto (tgt := 52) F dX7_column__48 (by decide) ?_
          exact cut_52_0 0 H locs ls ⟨by decide, by decide⟩ (by omega) hH hS (lv_sub hl [0, 1, 2, 3] rfl)
        · refine lv_aload_n F.1 F.2.1 dX7_column__38 rfl (lv_at hl 0 rfl) ?_
          refine z_iconst F dX7_column__39 ?_
          refine lv_iload_n F.1 F.2.1 dX7_column__40 rfl (lv_at hl 1 rfl) ?_
          refine g_calli (g_runV (As := [.int (iI 0), .int (iI rr)]) (rest := [.ref mo]) (ci := 7) F hl.1 hH hS hz (c_X7_sizeOf l g gh T I R J AI AJ AR mo 0 rr ⟨by decide, by decide⟩ zrr hv hm hT (by omega) (by omega)) (cwV 2 F.2.2.2.2.1 (good_up gT_X7_sizeOf) rfl rfl rfl hdX7_sizeOf ⟨Nat.le_of_ble_eq_true rfl, Nat.le_of_ble_eq_true rfl⟩) hm (by decide) rfl rfl rfl (Nat.le_of_ble_eq_true rfl) dX7_column__41 ⟨Nat.zero_le _, Nat.zero_le _⟩) hS (fun v_98 I_92 R_93 J_94 AI_95 AJ_96 AR_97 H locs zv_98 hp_99 hH hS => ?_)
          dsimp only at hp_99
          obtain ⟨rfl, rfl, rfl, rfl, rfl, rfl, q_100, q_101⟩ := hp_99
          refine z_if_le (tgt := 51) F dX7_column__44 (by decide) zv_98 (fun c_102 => ?_) (fun c_102 => ?_)
          · refine z_iconst F dX7_column__51 ?_
            exact cut_52_0 1 H locs ls ⟨by decide, by decide⟩ (by omega) hH hS (lv_sub hl [0, 1, 2, 3] rfl)
          · refine z_iconst F dX7_column__47 ?_
            refine z_goto (tgt := 52) F dX7_column__48 (by decide) ?_
            exact cut_52_0 0 H locs ls ⟨by decide, by decide⟩ (by omega) hH hS (lv_sub hl [0, 1, 2, 3] rfl)

def rmX7_told : Room := { frames := 3, cells := 0, slots := 0, locals := 76 }
theorem hdX7_told : yX7_told.cls = RX7 ∧ yX7_told.cls ≠ "java/lang/invoke/MethodHandle" ∧ yX7_told.cls ≠ "java/lang/invoke/VarHandle" ∧ (parseMethodDescriptor yX7_told.desc).map (fun d => d.parameters.length) = some 1 := by decide +kernel
set_option maxHeartbeats 4000000 in
set_option maxRecDepth 100000 in
/-- told -/
theorem c_X7_told (l : Launch) (g : gG) (gh : gGh) (T : Nat → Int32) (I : gI) (R : gR) (J : gJ) (AI : gI) (AJ : gJ) (AR : gR) (mo : Nat) (wh : Int) (zwh : zr wh) (hv : mInv g gh R I AI) (hm : gO g mo 7) (hT : AI (gh 50 0) = T) : gMet l g yX7_told tsX7_told rmX7_told [.ref mo, .int (iI wh)] (I, R, J, AI, AJ, AR) (gQi g (fun (z : Int) (w : gS) => R = w.2.1 ∧ J = w.2.2.1 ∧ AJ = w.2.2.2.2.1 ∧ AR = w.2.2.2.2.2 ∧ (mInv g gh R (w.1) (w.2.2.2.1)) ∧ ((w.2.2.2.1) (gh 50 0) = T) ∧ (nF mo I (w.1)) ∧ (wh = 9 → z = (I mo 16).toInt))) := by
  refine gStart (cc := cX7_told) (maxL := 4) (ret := (some (.int))) (by decide) rfl (Nat.le_of_ble_eq_true rfl) ?_
  intro p e s m below meth c ls F hr hlk hH hz hS hl
  have hl : lv_has ls 4 [(0, .ref mo), (1, .int (iI wh))] := hl
  have hS : va_S (gA g) s.heap s.heap [] := hS
  obtain ⟨H, hHe⟩ : ∃ H : Heap, H = s.heap := ⟨_, rfl⟩
  obtain ⟨locs, hlo⟩ : ∃ k : List Loc, k = [] := ⟨_, rfl⟩
  have hH : gH g I R J AI AJ AR H := by rw [hHe]; exact hH
  have hS : va_S (gA g) s.heap H locs := by rw [hHe, hlo]; exact hS
  suffices hw : W p l e rmX7_told s m ([.ref mo, .int (iI wh)] : List Value).toArray below meth c H locs 0 0 (MQ below (gQi g (fun (z : Int) (w : gS) => R = w.2.1 ∧ J = w.2.2.1 ∧ AJ = w.2.2.2.2.1 ∧ AR = w.2.2.2.2.2 ∧ (mInv g gh R (w.1) (w.2.2.2.1)) ∧ ((w.2.2.2.1) (gh 50 0) = T) ∧ (nF mo I (w.1)) ∧ (wh = 9 → z = (I mo 16).toInt))) ([.ref mo, .int (iI wh)] : List Value).toArray s 0 0 (gA g)) (F0 m 0 ls []) by
    rw [hHe, hlo] at hw; exact hw
  clear hHe hlo
  have nf : nF mo I I := nF_r
  have iX7 : ∀ w ∈ u_ws RX7 TX7 32, w ∈ tsX7_told := fun w h => List.mem_cons_of_mem _ (inTB7 w h)
  have k60 : Cond.fieldLink RX7 60 (TX7 17).1 (TX7 17).2.1 (TX7 17).2.2.1 ∈ tsX7_told := List.mem_cons_of_mem _ fl_60
  have k64 : Cond.fieldLink RX7 64 (TX7 2).1 (TX7 2).2.1 (TX7 2).2.2.1 ∈ tsX7_told := List.mem_cons_of_mem _ fl_64
  have k260 : Cond.fieldLink RX7 260 (TX7 9).1 (TX7 9).2.1 (TX7 9).2.2.1 ∈ tsX7_told := List.mem_cons_of_mem _ fl_260
  have k263 : Cond.fieldLink RX7 263 (TX7 10).1 (TX7 10).2.1 (TX7 10).2.2.1 ∈ tsX7_told := List.mem_cons_of_mem _ fl_263
  have k257 : Cond.fieldLink RX7 257 (TX7 8).1 (TX7 8).2.1 (TX7 8).2.2.1 ∈ tsX7_told := List.mem_cons_of_mem _ fl_257
  have k266 : Cond.fieldLink RX7 266 (TX7 14).1 (TX7 14).2.1 (TX7 14).2.2.1 ∈ tsX7_told := List.mem_cons_of_mem _ fl_266
  have k71 : Cond.fieldLink RX7 71 (TX7 16).1 (TX7 16).2.1 (TX7 16).2.2.1 ∈ tsX7_told := List.mem_cons_of_mem _ fl_71
  refine lv_aload_n F.1 F.2.1 dX7_told_0 rfl (lv_at hl 0 rfl) ?_
  refine z_iconst F dX7_told_1 ?_
  refine g_putI (ci := 7) (k := 17) F hH hS rfl (by decide) iX7 hm (by decide) tyX7 tyX7_ok nmX7 rfl rfl rfl k60 dX7_told_2 (fun H locs hH hS => ?_)
  obtain ⟨I_1, eI_1⟩ : ∃ qQ, qQ = gup2 I mo 17 (iI (0)) := ⟨_, rfl⟩
  rw [← eI_1] at hH
  have kI_1 : ∀ b, b ≠ mo → I_1 b = I b := fun b hb => by rw [eI_1]; exact funext fun j => gup2_a _ _ hb
  have w_2 : (I_1 mo 17).toInt = 0 := by rw [eI_1, gup2_s]; exact iI_val ⟨by decide, by decide⟩
  have hv : mInv g gh R I_1 AI := by rw [eI_1]; exact mP17 hv hm
  have nf : nF mo I I_1 := nF_t nf (by rw [eI_1]; exact nF_p (by decide))
  have u_3_2 : (I_1 mo 2).toInt = (I mo 2).toInt := by rw [nf 2 (by decide) (by decide) (by decide) (by decide) (by decide)]
  have u_3_5 : (I_1 mo 5).toInt = (I mo 5).toInt := by rw [nf 5 (by decide) (by decide) (by decide) (by decide) (by decide)]
  have u_3_14 : (I_1 mo 14).toInt = (I mo 14).toInt := by rw [nf 14 (by decide) (by decide) (by decide) (by decide) (by decide)]
  have u_3_16 : (I_1 mo 16).toInt = (I mo 16).toInt := by rw [nf 16 (by decide) (by decide) (by decide) (by decide) (by decide)]
  have u_3_24 : (I_1 mo 24).toInt = (I mo 24).toInt := by rw [nf 24 (by decide) (by decide) (by decide) (by decide) (by decide)]
  refine z_iconst F dX7_told_5 ?_
  refine lv_istore_n (lv' := [(2, .int (iI 0)), (0, .ref mo), (1, .int (iI wh))]) F.1 F.2.1 dX7_told_6 rfl hl (by decide) rfl (fun ls hl => ?_)
  refine lv_iload_n F.1 F.2.1 dX7_told_7 rfl (lv_at hl 2 rfl) ?_
  have ec_4 : (iI wh).toInt = wh := iI_val zwh
  by_cases c_4 : wh < 0 ∨ 9 < wh
  · refine lv_tableOut (tgt := 168) F.1 F.2.1 dX7_told_8 (by rw [ec_4]; exact c_4) (by decide) ?_
    refine z_iconst F dX7_told_168 ?_
    exact g_iret F hr hlk hH hS hz ⟨by decide, by decide⟩ ⟨rfl, rfl, rfl, rfl, hv, hT, nf, fun _ => by omega⟩ dX7_told_169
  by_cases c_4_0 : wh = 0
  · refine lv_tableIn (tgt := 64) (off := 56) F.1 F.2.1 dX7_told_8 (by rw [ec_4]; omega) (by rw [ec_4]; omega) (by rw [ec_4, c_4_0]; rfl) (by decide) ?_
    refine lv_aload_n F.1 F.2.1 dX7_told_64 rfl (lv_at hl 1 rfl) ?_
    have b_5 := mJ hv hm
    unfold mNum1 at b_5
    refine g_calli (g_runV (As := []) (rest := []) (ci := 7) F hl.1 hH hS hz (c_X7_tables l g gh T I_1 R J AI AJ AR mo hv hm hT) (cwV 0 F.2.2.2.2.1 (good_up gT_X7_tables) rfl rfl rfl hdX7_tables ⟨Nat.le_of_ble_eq_true rfl, Nat.le_of_ble_eq_true rfl⟩) hm (by decide) rfl rfl rfl (Nat.le_of_ble_eq_true rfl) dX7_told_65 ⟨Nat.zero_le _, Nat.zero_le _⟩) hS (fun v_12 I_6 R_7 J_8 AI_9 AJ_10 AR_11 H locs zv_12 hp_13 hH hS => ?_)
    dsimp only at hp_13
    obtain ⟨rfl, rfl, rfl, rfl, rfl, rfl, q_14, hvw⟩ := hp_13
    exact g_iret F hr hlk hH hS hz zv_12 ⟨rfl, rfl, rfl, rfl, hv, hT, nf, fun _ => by omega⟩ dX7_told_68
  by_cases c_4_1 : wh = 1
  · refine lv_tableIn (tgt := 69) (off := 61) F.1 F.2.1 dX7_told_8 (by rw [ec_4]; omega) (by rw [ec_4]; omega) (by rw [ec_4, c_4_1]; rfl) (by decide) ?_
    refine lv_aload_n F.1 F.2.1 dX7_told_69 rfl (lv_at hl 1 rfl) ?_
    refine g_getI (ci := 7) (k := 2) F hH rfl (by decide) iX7 hm (by decide) rfl k64 dX7_told_70 ?_
    have b_15 := mJ hv hm
    unfold mNum1 at b_15
    refine lv_aload_n F.1 F.2.1 dX7_told_73 rfl (lv_at hl 1 rfl) ?_
    refine g_calli (g_runV (As := []) (rest := [.int (iI ((I_1 mo 2).toInt))]) (ci := 7) F hl.1 hH hS hz (c_X7_tables l g gh T I_1 R J AI AJ AR mo hv hm hT) (cwV 0 F.2.2.2.2.1 (good_up gT_X7_tables) rfl rfl rfl hdX7_tables ⟨Nat.le_of_ble_eq_true rfl, Nat.le_of_ble_eq_true rfl⟩) hm (by decide) rfl rfl rfl (Nat.le_of_ble_eq_true rfl) dX7_told_74 ⟨Nat.zero_le _, Nat.zero_le _⟩) hS (fun v_22 I_16 R_17 J_18 AI_19 AJ_20 AR_21 H locs zv_22 hp_23 hH hS => ?_)
    dsimp only at hp_23
    obtain ⟨rfl, rfl, rfl, rfl, rfl, rfl, q_24, hvw⟩ := hp_23
    refine z_isub F dX7_told_77 ?_
    exact g_iret F hr hlk hH hS hz ⟨by omega, by omega⟩ ⟨rfl, rfl, rfl, rfl, hv, hT, nf, fun _ => by omega⟩ dX7_told_78
  by_cases c_4_2 : wh = 2
  · refine lv_tableIn (tgt := 79) (off := 71) F.1 F.2.1 dX7_told_8 (by rw [ec_4]; omega) (by rw [ec_4]; omega) (by rw [ec_4, c_4_2]; rfl) (by decide) ?_
    refine lv_aload_n F.1 F.2.1 dX7_told_79 rfl (lv_at hl 1 rfl) ?_
    refine g_getI (ci := 7) (k := 9) F hH rfl (by decide) iX7 hm (by decide) rfl k260 dX7_told_80 ?_
    refine z_norm (fun v_25 zv_25 ev_25 => ?_)
    exact g_iret F hr hlk hH hS hz zv_25 ⟨rfl, rfl, rfl, rfl, hv, hT, nf, fun _ => by omega⟩ dX7_told_83
  by_cases c_4_3 : wh = 3
  · refine lv_tableIn (tgt := 84) (off := 76) F.1 F.2.1 dX7_told_8 (by rw [ec_4]; omega) (by rw [ec_4]; omega) (by rw [ec_4, c_4_3]; rfl) (by decide) ?_
    refine lv_aload_n F.1 F.2.1 dX7_told_84 rfl (lv_at hl 1 rfl) ?_
    refine g_getI (ci := 7) (k := 10) F hH rfl (by decide) iX7 hm (by decide) rfl k263 dX7_told_85 ?_
    refine z_norm (fun v_26 zv_26 ev_26 => ?_)
    exact g_iret F hr hlk hH hS hz zv_26 ⟨rfl, rfl, rfl, rfl, hv, hT, nf, fun _ => by omega⟩ dX7_told_88
  by_cases c_4_4 : wh = 4
  · refine lv_tableIn (tgt := 89) (off := 81) F.1 F.2.1 dX7_told_8 (by rw [ec_4]; omega) (by rw [ec_4]; omega) (by rw [ec_4, c_4_4]; rfl) (by decide) ?_
    refine lv_aload_n F.1 F.2.1 dX7_told_89 rfl (lv_at hl 1 rfl) ?_
    refine g_getI (ci := 7) (k := 8) F hH rfl (by decide) iX7 hm (by decide) rfl k257 dX7_told_90 ?_
    have b_27 := mJ hv hm
    unfold mNum1 at b_27
    exact g_iret F hr hlk hH hS hz (zr_t _) ⟨rfl, rfl, rfl, rfl, hv, hT, nf, fun _ => by omega⟩ dX7_told_93
  by_cases c_4_5 : wh = 5
  · refine lv_tableIn (tgt := 94) (off := 86) F.1 F.2.1 dX7_told_8 (by rw [ec_4]; omega) (by rw [ec_4]; omega) (by rw [ec_4, c_4_5]; rfl) (by decide) ?_
    refine lv_aload_n F.1 F.2.1 dX7_told_94 rfl (lv_at hl 1 rfl) ?_
    refine g_getI (ci := 7) (k := 14) F hH rfl (by decide) iX7 hm (by decide) rfl k266 dX7_told_95 ?_
    have b_28 := mJ hv hm
    unfold mNum1 at b_28
    exact g_iret F hr hlk hH hS hz (zr_t _) ⟨rfl, rfl, rfl, rfl, hv, hT, nf, fun _ => by omega⟩ dX7_told_98
  by_cases c_4_6 : wh = 6
  · refine lv_tableIn (tgt := 99) (off := 91) F.1 F.2.1 dX7_told_8 (by rw [ec_4]; omega) (by rw [ec_4]; omega) (by rw [ec_4, c_4_6]; rfl) (by decide) ?_
    refine lv_aload_n F.1 F.2.1 dX7_told_99 rfl (lv_at hl 1 rfl) ?_
    have b_29 := mJ hv hm
    unfold mNum1 at b_29
    refine g_calli (g_runV (As := []) (rest := []) (ci := 7) F hl.1 hH hS hz (c_X7_tables l g gh T I_1 R J AI AJ AR mo hv hm hT) (cwV 0 F.2.2.2.2.1 (good_up gT_X7_tables) rfl rfl rfl hdX7_tables ⟨Nat.le_of_ble_eq_true rfl, Nat.le_of_ble_eq_true rfl⟩) hm (by decide) rfl rfl rfl (Nat.le_of_ble_eq_true rfl) dX7_told_100 ⟨Nat.zero_le _, Nat.zero_le _⟩) hS (fun v_36 I_30 R_31 J_32 AI_33 AJ_34 AR_35 H locs zv_36 hp_37 hH hS => ?_)
    dsimp only at hp_37
    obtain ⟨rfl, rfl, rfl, rfl, rfl, rfl, q_38, hvw⟩ := hp_37
    refine lv_istore_n (lv' := [(3, .int (iI v_36)), (2, .int (iI 0)), (0, .ref mo), (1, .int (iI wh))]) F.1 F.2.1 dX7_told_103 rfl hl (by decide) rfl (fun ls hl => ?_)
    have cut_104_38 : ∀ (NN : Nat) (n k : Int) (H : Heap) (locs : List Loc) (ls : Array Slot), zr n → zr k → (0 ≤ k ∧ k ≤ 16 ∧ 0 ≤ n ∧ n ≤ 120 * k) → (16 - k) < ((NN : Nat) : Int) → gH g I_1 R J AI AJ AR H → va_S (gA g) s.heap H locs → lv_has ls 4 [(3, .int (iI k)), (2, .int (iI n)), (0, .ref mo), (1, .int (iI wh))] → W p l e rmX7_told s m ([.ref mo, .int (iI wh)] : List Value).toArray below meth c H locs 0 0 (MQ below (gQi g (fun (z : Int) (w : gS) => R = w.2.1 ∧ J = w.2.2.1 ∧ AJ = w.2.2.2.2.1 ∧ AR = w.2.2.2.2.2 ∧ (mInv g gh R (w.1) (w.2.2.2.1)) ∧ ((w.2.2.2.1) (gh 50 0) = T) ∧ (nF mo I (w.1)) ∧ (wh = 9 → z = (I mo 16).toInt))) ([.ref mo, .int (iI wh)] : List Value).toArray s 0 0 (gA g)) (F0 m 104 ls []) := by
      intro NN104
      induction NN104 with
      | zero =>
        intro n k H locs ls zn zk hk hm104 hH hS hl
        exact absurd hm104 (by omega)
      | succ NN104 ih104 =>
        intro n k H locs ls zn zk hk hm104 hH hS hl
        refine lv_iload_n F.1 F.2.1 dX7_told_104 rfl (lv_at hl 0 rfl) ?_
        refine lv_aload_n F.1 F.2.1 dX7_told_105 rfl (lv_at hl 2 rfl) ?_
        refine g_getI (ci := 7) (k := 2) F hH rfl (by decide) iX7 hm (by decide) rfl k64 dX7_told_106 ?_
        refine z_icmp_ge (tgt := 127) F dX7_told_109 (by decide) zk (zr_t _) (fun c_40 => ?_) (fun c_40 => ?_)
        · refine lv_iload_n F.1 F.2.1 dX7_told_127 rfl (lv_at hl 1 rfl) ?_
          exact g_iret F hr hlk hH hS hz zn ⟨rfl, rfl, rfl, rfl, hv, hT, nf, fun _ => by omega⟩ dX7_told_128
        · refine lv_iload_n F.1 F.2.1 dX7_told_112 rfl (lv_at hl 1 rfl) ?_
          refine lv_aload_n F.1 F.2.1 dX7_told_113 rfl (lv_at hl 2 rfl) ?_
          refine z_iconst F dX7_told_114 ?_
          refine lv_iload_n F.1 F.2.1 dX7_told_115 rfl (lv_at hl 0 rfl) ?_
          refine g_calli (g_runV (As := [.int (iI 0), .int (iI k)]) (rest := [.int (iI n)]) (ci := 7) F hl.1 hH hS hz (c_X7_sizeOf l g gh T I_1 R J AI AJ AR mo 0 k ⟨by decide, by decide⟩ zk hv hm hT (by omega) (by omega)) (cwV 2 F.2.2.2.2.1 (good_up gT_X7_sizeOf) rfl rfl rfl hdX7_sizeOf ⟨Nat.le_of_ble_eq_true rfl, Nat.le_of_ble_eq_true rfl⟩) hm (by decide) rfl rfl rfl (Nat.le_of_ble_eq_true rfl) dX7_told_116 ⟨Nat.zero_le _, Nat.zero_le _⟩) hS (fun v_47 I_41 R_42 J_43 AI_44 AJ_45 AR_46 H locs zv_47 hp_48 hH hS => ?_)
          dsimp only at hp_48
          obtain ⟨rfl, rfl, rfl, rfl, rfl, rfl, q_49, q_50⟩ := hp_48
          refine z_iadd F dX7_told_119 ?_
          refine lv_istore_n (lv' := [(2, .int (iI (n + v_47))), (3, .int (iI k)), (0, .ref mo), (1, .int (iI wh))]) F.1 F.2.1 dX7_told_120 rfl hl (by decide) rfl (fun ls hl => ?_)
          refine z_iinc (lv' := [(3, .int (iI (k + 1))), (2, .int (iI (n + v_47))), (0, .ref mo), (1, .int (iI wh))]) F dX7_told_121 hl (k := 1) rfl (by decide) rfl (fun ls hl => ?_)
          refine z_goto (tgt := 104) F dX7_told_124 (by decide) ?_
          exact ih104 (n + v_47) (k + 1) H locs ls ⟨by omega, by omega⟩ ⟨by omega, by omega⟩ (by omega) (by omega) hH hS (lv_sub hl [0, 1, 2, 3] rfl)
    exact cut_104_38 (((16 - v_36) + 1 : Int).toNat) 0 v_36 H locs ls ⟨by decide, by decide⟩ zv_36 (by omega) (by omega) hH hS (lv_sub hl [0, 1, 2, 3] rfl)
  by_cases c_4_7 : wh = 7
  · refine lv_tableIn (tgt := 129) (off := 121) F.1 F.2.1 dX7_told_8 (by rw [ec_4]; omega) (by rw [ec_4]; omega) (by rw [ec_4, c_4_7]; rfl) (by decide) ?_
    refine lv_aload_n F.1 F.2.1 dX7_told_129 rfl (lv_at hl 1 rfl) ?_
    have b_51 := mJ hv hm
    unfold mNum1 at b_51
    refine g_calli (g_runV (As := []) (rest := []) (ci := 7) F hl.1 hH hS hz (c_X7_movedInViews l g gh T I_1 R J AI AJ AR mo hv hm hT) (cwV 0 F.2.2.2.2.1 (good_up gT_X7_movedInViews) rfl rfl rfl hdX7_movedInViews ⟨Nat.le_of_ble_eq_true rfl, Nat.le_of_ble_eq_true rfl⟩) hm (by decide) rfl rfl rfl (Nat.le_of_ble_eq_true rfl) dX7_told_130 ⟨Nat.zero_le _, Nat.zero_le _⟩) hS (fun v_58 I_52 R_53 J_54 AI_55 AJ_56 AR_57 H locs zv_58 hp_59 hH hS => ?_)
    dsimp only at hp_59
    obtain ⟨rfl, rfl, rfl, rfl, rfl, hv, hT⟩ := hp_59
    exact g_iret F hr hlk hH hS hz zv_58 ⟨rfl, rfl, rfl, rfl, hv, hT, nf, fun _ => by omega⟩ dX7_told_133
  by_cases c_4_8 : wh = 8
  · refine lv_tableIn (tgt := 134) (off := 126) F.1 F.2.1 dX7_told_8 (by rw [ec_4]; omega) (by rw [ec_4]; omega) (by rw [ec_4, c_4_8]; rfl) (by decide) ?_
    refine lv_aload_n F.1 F.2.1 dX7_told_134 rfl (lv_at hl 1 rfl) ?_
    have b_60 := mJ hv hm
    unfold mNum1 at b_60
    refine g_calli (g_runV (As := []) (rest := []) (ci := 7) F hl.1 hH hS hz (c_X7_tables l g gh T I_1 R J AI AJ AR mo hv hm hT) (cwV 0 F.2.2.2.2.1 (good_up gT_X7_tables) rfl rfl rfl hdX7_tables ⟨Nat.le_of_ble_eq_true rfl, Nat.le_of_ble_eq_true rfl⟩) hm (by decide) rfl rfl rfl (Nat.le_of_ble_eq_true rfl) dX7_told_135 ⟨Nat.zero_le _, Nat.zero_le _⟩) hS (fun v_67 I_61 R_62 J_63 AI_64 AJ_65 AR_66 H locs zv_67 hp_68 hH hS => ?_)
    dsimp only at hp_68
    obtain ⟨rfl, rfl, rfl, rfl, rfl, rfl, q_69, hvw⟩ := hp_68
    obtain ⟨tb, etb⟩ : ∃ q, q = v_67 := ⟨_, rfl⟩
    refine lv_istore_n (lv' := [(3, .int (iI v_67)), (2, .int (iI 0)), (0, .ref mo), (1, .int (iI wh))]) F.1 F.2.1 dX7_told_138 rfl hl (by decide) rfl (fun ls hl => ?_)
    have cut_139_70 : ∀ (NN : Nat) (n k : Int) (AI_70 : gI) (H : Heap) (locs : List Loc) (ls : Array Slot), zr n → zr k → (mInv g gh R I_1 AI_70) → (AI_70 (gh 50 0) = T) → (tb ≤ k ∧ 0 ≤ k ∧ k ≤ 16 ∧ 0 ≤ n ∧ n ≤ 480 * k) → (16 - k) < ((NN : Nat) : Int) → gH g I_1 R J AI_70 AJ AR H → va_S (gA g) s.heap H locs → lv_has ls 4 [(3, .int (iI k)), (2, .int (iI n)), (0, .ref mo), (1, .int (iI wh))] → W p l e rmX7_told s m ([.ref mo, .int (iI wh)] : List Value).toArray below meth c H locs 0 0 (MQ below (gQi g (fun (z : Int) (w : gS) => R = w.2.1 ∧ J = w.2.2.1 ∧ AJ = w.2.2.2.2.1 ∧ AR = w.2.2.2.2.2 ∧ (mInv g gh R (w.1) (w.2.2.2.1)) ∧ ((w.2.2.2.1) (gh 50 0) = T) ∧ (nF mo I (w.1)) ∧ (wh = 9 → z = (I mo 16).toInt))) ([.ref mo, .int (iI wh)] : List Value).toArray s 0 0 (gA g)) (F0 m 139 ls []) := by
      intro NN139
      induction NN139 with
      | zero =>
        intro n k AI_70 H locs ls zn zk hv hT hk hm139 hH hS hl
        exact absurd hm139 (by omega)
      | succ NN139 ih139 =>
        intro n k AI_70 H locs ls zn zk hv hT hk hm139 hH hS hl
        refine lv_iload_n F.1 F.2.1 dX7_told_139 rfl (lv_at hl 0 rfl) ?_
        refine lv_aload_n F.1 F.2.1 dX7_told_140 rfl (lv_at hl 2 rfl) ?_
        refine g_getI (ci := 7) (k := 2) F hH rfl (by decide) iX7 hm (by decide) rfl k64 dX7_told_141 ?_
        refine z_icmp_ge (tgt := 161) F dX7_told_144 (by decide) zk (zr_t _) (fun c_72 => ?_) (fun c_72 => ?_)
        · refine lv_iload_n F.1 F.2.1 dX7_told_161 rfl (lv_at hl 1 rfl) ?_
          exact g_iret F hr hlk hH hS hz zn ⟨rfl, rfl, rfl, rfl, hv, hT, nf, fun _ => by omega⟩ dX7_told_162
        · refine lv_iload_n F.1 F.2.1 dX7_told_147 rfl (lv_at hl 1 rfl) ?_
          refine lv_aload_n F.1 F.2.1 dX7_told_148 rfl (lv_at hl 2 rfl) ?_
          refine lv_iload_n F.1 F.2.1 dX7_told_149 rfl (lv_at hl 0 rfl) ?_
          refine g_calli (g_runV (As := [.int (iI k)]) (rest := [.int (iI n)]) (ci := 7) F hl.1 hH hS hz (c_X7_cameTo l g gh T I_1 R J AI_70 AJ AR mo k zk hv hm hT (by omega) (hvw k (by omega) (by omega))) (cwV 1 F.2.2.2.2.1 (good_up gT_X7_cameTo) rfl rfl rfl hdX7_cameTo ⟨Nat.le_of_ble_eq_true rfl, Nat.le_of_ble_eq_true rfl⟩) hm (by decide) rfl rfl rfl (Nat.le_of_ble_eq_true rfl) dX7_told_150 ⟨Nat.zero_le _, Nat.zero_le _⟩) hS (fun v_79 I_73 R_74 J_75 AI_76 AJ_77 AR_78 H locs zv_79 hp_80 hH hS => ?_)
          dsimp only at hp_80
          obtain ⟨rfl, rfl, rfl, rfl, rfl, hv, hT, q_81⟩ := hp_80
          refine z_iadd F dX7_told_153 ?_
          refine lv_istore_n (lv' := [(2, .int (iI (n + v_79))), (3, .int (iI k)), (0, .ref mo), (1, .int (iI wh))]) F.1 F.2.1 dX7_told_154 rfl hl (by decide) rfl (fun ls hl => ?_)
          refine z_iinc (lv' := [(3, .int (iI (k + 1))), (2, .int (iI (n + v_79))), (0, .ref mo), (1, .int (iI wh))]) F dX7_told_155 hl (k := 1) rfl (by decide) rfl (fun ls hl => ?_)
          refine z_goto (tgt := 139) F dX7_told_158 (by decide) ?_
          exact ih139 (n + v_79) (k + 1) AI_76 H locs ls ⟨by omega, by omega⟩ ⟨by omega, by omega⟩ hv hT (by omega) (by omega) hH hS (lv_sub hl [0, 1, 2, 3] rfl)
    exact cut_139_70 (((16 - v_67) + 1 : Int).toNat) 0 v_67 AI H locs ls ⟨by decide, by decide⟩ zv_67 hv hT (by omega) (by omega) hH hS (lv_sub hl [0, 1, 2, 3] rfl)
  have c_4_9 : wh = 9 := by omega
  refine lv_tableIn (tgt := 163) (off := 155) F.1 F.2.1 dX7_told_8 (by rw [ec_4]; omega) (by rw [ec_4]; omega) (by rw [ec_4, c_4_9]; rfl) (by decide) ?_
  refine lv_aload_n F.1 F.2.1 dX7_told_163 rfl (lv_at hl 1 rfl) ?_
  refine g_getI (ci := 7) (k := 16) F hH rfl (by decide) iX7 hm (by decide) rfl k71 dX7_told_164 ?_
  have b_82 := mJ hv hm
  unfold mNum1 at b_82
  exact g_iret F hr hlk hH hS hz (zr_t _) ⟨rfl, rfl, rfl, rfl, hv, hT, nf, fun _ => by omega⟩ dX7_told_167
