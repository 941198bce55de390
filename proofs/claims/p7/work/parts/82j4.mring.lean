def rmX7_ringToldf : Room := { frames := 8, cells := 0, slots := 0, locals := 170 }
set_option maxHeartbeats 4000000 in
set_option maxRecDepth 100000 in
/-- a ring told -/
theorem c_X7_ringToldf (l : Launch) (g : gG) (gh : gGh) (T : Nat → Int32) (M : Int) (b : tTx) (nn nr : Nat) (nt : Nat → Nat) (cc : Nat → Int) (f : Int) (h : Nat) (I : gI) (R : gR) (J : gJ) (AI : gI) (AJ : gJ) (AR : gR) (mo : Nat) (hv : mInv g gh R I AI) (hm : gO g mo 7) (hT : AI (gh 50 0) = T) (hE : (I mo 20).toInt ≤ 936) (hM : (I mo 24).toInt = 0 → (I mo 5).toInt ≤ 15) (hMM : (I mo 5).toInt = M) (h65 : gh 9 (gh 65 0) ≠ 5) (hbM : ∀ k : Nat, k < nn → ((gM g).2 (gh 65 0) k).toInt = b k % 256) (hr7 : ∀ k : Nat, -128 ≤ b k ∧ b k ≤ 127) (hsz : (I mo 18).toInt = (nn : Int)) (hn9 : nn ≤ 900) (hm5 : (I mo 5).toInt = (nr : Int)) (hQ : mQ gh I J AI AJ mo b nn nr nt cc f h) : gMet l g yX7_ringTold tsX7_ringTold rmX7_ringToldf [.ref mo] (I, R, J, AI, AJ, AR) (gQv g (fun w : gS => R = w.2.1 ∧ AJ = w.2.2.2.2.1 ∧ AR = w.2.2.2.2.2 ∧ (mInv g gh R (w.1) (w.2.2.2.1)) ∧ ((w.2.2.2.1) (gh 50 0) = T) ∧ (qF mo I (w.1)) ∧ (((w.1) mo 20).toInt ≤ 936 ∧ (I mo 24).toInt ≤ ((w.1) mo 24).toInt) ∧ (((w.1) mo 24).toInt = 0 → ((w.1) mo 21).toInt = 4 → ((w.1) mo 23).toInt = 59 → rowOK ((w.2.2.2.1) (gh 53 0)) M) ∧ (((w.1) mo 24).toInt = 0 → tI ((w.2.2.2.1) (gh 53 0)) (40 * M) = 8) ∧ (mQ gh (w.1) (w.2.2.1) (w.2.2.2.1) AJ mo b nn nr nt cc (thn (f, h, 0) (fun t _ => sRngM b nn nr nt cc t)).1 (thn (f, h, 0) (fun t _ => sRngM b nn nr nt cc t)).2.1) ∧ (pIc (thn (f, h, 0) (fun t _ => sRngM b nn nr nt cc t)).1 (pK b nn (thn (f, h, 0) (fun t _ => sRngM b nn nr nt cc t)).2.1) (tI ((w.2.2.2.1) (gh 53 0)) (40 * (nr : Int) + 1)) (thn (f, h, 0) (fun t _ => sRngM b nn nr nt cc t)).2.2))) := by
  refine gStart (cc := cX7_ringTold) (maxL := 7) (ret := none) (by decide) rfl (Nat.le_of_ble_eq_true rfl) ?_
  intro p e s m below meth c ls F hr hlk hH hz hS hl
  have hl : lv_has ls 7 [(0, .ref mo)] := hl
  have hS : va_S (gA g) s.heap s.heap [] := hS
  obtain ⟨H, hHe⟩ : ∃ H : Heap, H = s.heap := ⟨_, rfl⟩
  obtain ⟨locs, hlo⟩ : ∃ k : List Loc, k = [] := ⟨_, rfl⟩
  have hH : gH g I R J AI AJ AR H := by rw [hHe]; exact hH
  have hS : va_S (gA g) s.heap H locs := by rw [hHe, hlo]; exact hS
  suffices hw : W p l e rmX7_ringToldf s m ([.ref mo] : List Value).toArray below meth c H locs 0 0 (MQ below (gQv g (fun w : gS => R = w.2.1 ∧ AJ = w.2.2.2.2.1 ∧ AR = w.2.2.2.2.2 ∧ (mInv g gh R (w.1) (w.2.2.2.1)) ∧ ((w.2.2.2.1) (gh 50 0) = T) ∧ (qF mo I (w.1)) ∧ (((w.1) mo 20).toInt ≤ 936 ∧ (I mo 24).toInt ≤ ((w.1) mo 24).toInt) ∧ (((w.1) mo 24).toInt = 0 → ((w.1) mo 21).toInt = 4 → ((w.1) mo 23).toInt = 59 → rowOK ((w.2.2.2.1) (gh 53 0)) M) ∧ (((w.1) mo 24).toInt = 0 → tI ((w.2.2.2.1) (gh 53 0)) (40 * M) = 8) ∧ (mQ gh (w.1) (w.2.2.1) (w.2.2.2.1) AJ mo b nn nr nt cc (thn (f, h, 0) (fun t _ => sRngM b nn nr nt cc t)).1 (thn (f, h, 0) (fun t _ => sRngM b nn nr nt cc t)).2.1) ∧ (pIc (thn (f, h, 0) (fun t _ => sRngM b nn nr nt cc t)).1 (pK b nn (thn (f, h, 0) (fun t _ => sRngM b nn nr nt cc t)).2.1) (tI ((w.2.2.2.1) (gh 53 0)) (40 * (nr : Int) + 1)) (thn (f, h, 0) (fun t _ => sRngM b nn nr nt cc t)).2.2))) ([.ref mo] : List Value).toArray s 0 0 (gA g)) (F0 m 0 ls []) by
    rw [hHe, hlo] at hw; exact hw
  clear hHe hlo
  have pf : qF mo I I := qF_r
  have hb0 := mJ hv hm
  unfold mNum1 at hb0
  have hf0 := mQ_p hQ
  by_cases q0 : f = 0
  · have hQ := mQ_ok hQ q0
    have hz0 := mQ_0 hQ rfl
    have cut_55_3 : ∀ (l1 l2 l3 l4 : Int) (I_1 : gI) (J_2 : gJ) (AI_3 : gI) (H : Heap) (locs : List Loc) (ls : Array Slot), zr l1 → zr l2 → zr l3 → zr l4 → (mInv g gh R I_1 AI_3) → (AI_3 (gh 50 0) = T) → (qF mo I I_1) → (∃ (f9 : Int) (h9 : Nat), f9 ≠ 0 ∧ mQ gh I_1 J_2 AI_3 AJ mo b nn nr nt cc f9 h9 ∧ thn (f, h, 0) (fun t _ => sRngM b nn nr nt cc t) = (f9, h9, 0)) → ((I_1 mo 20).toInt ≤ 936 ∧ (I mo 24).toInt ≤ (I_1 mo 24).toInt) → (0 ≤ l1 ∧ l1 ≤ 15 ∧ 0 ≤ l2 ∧ l2 ≤ 15) → gH g I_1 R J_2 AI_3 AJ AR H → va_S (gA g) s.heap H locs → lv_has ls 7 [(0, .ref mo), (1, .int (iI l1)), (2, .int (iI l2)), (3, .int (iI l3)), (4, .int (iI l4))] → W p l e rmX7_ringToldf s m ([.ref mo] : List Value).toArray below meth c H locs 0 0 (MQ below (gQv g (fun w : gS => R = w.2.1 ∧ AJ = w.2.2.2.2.1 ∧ AR = w.2.2.2.2.2 ∧ (mInv g gh R (w.1) (w.2.2.2.1)) ∧ ((w.2.2.2.1) (gh 50 0) = T) ∧ (qF mo I (w.1)) ∧ (((w.1) mo 20).toInt ≤ 936 ∧ (I mo 24).toInt ≤ ((w.1) mo 24).toInt) ∧ (((w.1) mo 24).toInt = 0 → ((w.1) mo 21).toInt = 4 → ((w.1) mo 23).toInt = 59 → rowOK ((w.2.2.2.1) (gh 53 0)) M) ∧ (((w.1) mo 24).toInt = 0 → tI ((w.2.2.2.1) (gh 53 0)) (40 * M) = 8) ∧ (mQ gh (w.1) (w.2.2.1) (w.2.2.2.1) AJ mo b nn nr nt cc (thn (f, h, 0) (fun t _ => sRngM b nn nr nt cc t)).1 (thn (f, h, 0) (fun t _ => sRngM b nn nr nt cc t)).2.1) ∧ (pIc (thn (f, h, 0) (fun t _ => sRngM b nn nr nt cc t)).1 (pK b nn (thn (f, h, 0) (fun t _ => sRngM b nn nr nt cc t)).2.1) (tI ((w.2.2.2.1) (gh 53 0)) (40 * (nr : Int) + 1)) (thn (f, h, 0) (fun t _ => sRngM b nn nr nt cc t)).2.2))) ([.ref mo] : List Value).toArray s 0 0 (gA g)) (F0 m 55 ls []) := by
      intro l1 l2 l3 l4 I_1 J_2 AI_3 H locs ls zl1 zl2 zl3 zl4 hv hT pf hBad hx9 hl12 hH hS hl
      have uc_2 : (I_1 mo 2).toInt = (I mo 2).toInt := by rw [pf 2 (by decide) (by decide) (by decide) (by decide) (by decide)]
      have uc_5 : (I_1 mo 5).toInt = (I mo 5).toInt := by rw [pf 5 (by decide) (by decide) (by decide) (by decide) (by decide)]
      have uc_14 : (I_1 mo 14).toInt = (I mo 14).toInt := by rw [pf 14 (by decide) (by decide) (by decide) (by decide) (by decide)]
      have uc_16 : (I_1 mo 16).toInt = (I mo 16).toInt := by rw [pf 16 (by decide) (by decide) (by decide) (by decide) (by decide)]
      have uc_18 : (I_1 mo 18).toInt = (I mo 18).toInt := by rw [pf 18 (by decide) (by decide) (by decide) (by decide) (by decide)]
      obtain ⟨fb9, hb9, q9, hQ, hfin⟩ := hBad
      have q9f := mQ_f hQ q9
      have q9p := mQ_p hQ
      refine lv_aload_n F.1 F.2.1 dX7_ringTold_55 rfl (lv_at hl 0 rfl) ?_
      refine z_iconst F dX7_ringTold_56 ?_
      refine lv_iload_n F.1 F.2.1 dX7_ringTold_57 rfl (lv_at hl 3 rfl) ?_
      refine lv_iload F.1 F.2.1 dX7_ringTold_58 (lv_at hl 4 rfl) ?_
      refine z_iconst F dX7_ringTold_60 ?_
      refine z_iconst F dX7_ringTold_61 ?_
      have b_5 := mJ hv hm
      unfold mNum1 at b_5
      refine g_callv (g_runV (As := [.int (iI 0), .int (iI l3), .int (iI l4), .int (iI 0), .int (iI 0)]) (rest := []) (ci := 7) F hl.1 hH hS hz (c_X7_setsPart l g gh T M I_1 R J_2 AI_3 AJ AR mo 0 l3 l4 0 0 ⟨by decide, by decide⟩ zl3 zl4 ⟨by decide, by decide⟩ ⟨by decide, by decide⟩ hv hm hT (by omega) (by omega) (by omega)) (cwV 5 F.2.2.2.2.1 (good_up gT_X7_setsPart) rfl rfl rfl hdX7_setsPart ⟨Nat.le_of_ble_eq_true rfl, Nat.le_of_ble_eq_true rfl⟩) hm (by decide) rfl rfl rfl (Nat.le_of_ble_eq_true rfl) dX7_ringTold_62 ⟨Nat.zero_le _, Nat.zero_le _⟩) hS (fun I_6 R_7 J_8 AI_9 AJ_10 AR_11 H locs hp_12 hH hS => ?_)
      dsimp only at hp_12
      obtain ⟨rfl, rfl, rfl, rfl, rfl, hv, hT, hsp⟩ := hp_12
      replace hsp := hid hsp
      have hQ : mQ gh I_1 J_2 AI_9 AJ mo b nn nr nt cc fb9 hb9 := mQ_bad hQ (by omega) rfl
      refine lv_aload_n F.1 F.2.1 dX7_ringTold_65 rfl (lv_at hl 0 rfl) ?_
      refine lv_iload_n F.1 F.2.1 dX7_ringTold_66 rfl (lv_at hl 1 rfl) ?_
      refine g_calli (g_runV (As := [.int (iI l1)]) (rest := []) (ci := 7) F hl.1 hH hS hz (c_X7_columns l g gh T I_1 R J_2 AI_9 AJ AR mo l1 zl1 hv hm hT (by omega)) (cwV 1 F.2.2.2.2.1 (good_up gT_X7_columns) rfl rfl rfl hdX7_columns ⟨Nat.le_of_ble_eq_true rfl, Nat.le_of_ble_eq_true rfl⟩) hm (by decide) rfl rfl rfl (Nat.le_of_ble_eq_true rfl) dX7_ringTold_67 ⟨Nat.zero_le _, Nat.zero_le _⟩) hS (fun v_20 I_14 R_15 J_16 AI_17 AJ_18 AR_19 H locs zv_20 hp_21 hH hS => ?_)
      dsimp only at hp_21
      obtain ⟨rfl, rfl, rfl, rfl, rfl, rfl, q_13⟩ := hp_21
      refine lv_aload_n F.1 F.2.1 dX7_ringTold_70 rfl (lv_at hl 0 rfl) ?_
      refine lv_iload_n F.1 F.2.1 dX7_ringTold_71 rfl (lv_at hl 2 rfl) ?_
      refine g_calli (g_runV (As := [.int (iI l2)]) (rest := [.int (iI v_20)]) (ci := 7) F hl.1 hH hS hz (c_X7_columns l g gh T I_1 R J_2 AI_9 AJ AR mo l2 zl2 hv hm hT (by omega)) (cwV 1 F.2.2.2.2.1 (good_up gT_X7_columns) rfl rfl rfl hdX7_columns ⟨Nat.le_of_ble_eq_true rfl, Nat.le_of_ble_eq_true rfl⟩) hm (by decide) rfl rfl rfl (Nat.le_of_ble_eq_true rfl) dX7_ringTold_72 ⟨Nat.zero_le _, Nat.zero_le _⟩) hS (fun v_29 I_23 R_24 J_25 AI_26 AJ_27 AR_28 H locs zv_29 hp_30 hH hS => ?_)
      dsimp only at hp_30
      obtain ⟨rfl, rfl, rfl, rfl, rfl, rfl, q_22⟩ := hp_30
      refine z_iadd F dX7_ringTold_75 ?_
      refine z_norm (fun v_31 zv_31 ev_31 => ?_)
      refine lv_istore (lv' := [(5, .int (iI v_31)), (0, .ref mo), (1, .int (iI l1)), (2, .int (iI l2)), (3, .int (iI l3)), (4, .int (iI l4))]) F.1 F.2.1 dX7_ringTold_76 hl (by decide) rfl (fun ls hl => ?_)
      refine lv_aload_n F.1 F.2.1 dX7_ringTold_78 rfl (lv_at hl 1 rfl) ?_
      refine lv_iload F.1 F.2.1 dX7_ringTold_79 (lv_at hl 0 rfl) ?_
      refine z_iconst F dX7_ringTold_81 ?_
      refine g_calli (g_runV (As := [.int (iI v_31), .int (iI 1)]) (rest := []) (ci := 7) F hl.1 hH hS hz (c_X7_termsToldf l g gh T M b nn nr nt cc fb9 hb9 I_1 R J_2 AI_9 AJ AR mo v_31 1 zv_31 ⟨by decide, by decide⟩ hv hm hT (by omega) (by omega) (by omega) (by omega) h65 hbM hr7 (by omega) hn9 (by omega) hQ) (cwV 2 F.2.2.2.2.1 (good_up gT_X7_termsTold) rfl rfl rfl hdX7_termsTold ⟨Nat.le_of_ble_eq_true rfl, Nat.le_of_ble_eq_true rfl⟩) hm (by decide) rfl rfl rfl (Nat.le_of_ble_eq_true rfl) dX7_ringTold_82 ⟨Nat.zero_le _, Nat.zero_le _⟩) hS (fun v_38 I_32 R_33 J_34 AI_35 AJ_36 AR_37 H locs zv_38 hp_39 hH hS => ?_)
      dsimp only at hp_39
      obtain ⟨r_40, er_40⟩ : ∃ qQ : pR, qQ = thn (fb9, hb9, 0) (fun t _ => sTerms b nn v_31 5 0 t) := ⟨_, rfl⟩
      rw [← er_40] at hp_39
      obtain ⟨rfl, rfl, rfl, hv, hT, pfq, q_41, q_42, htt, hQ, q_43⟩ := hp_39
      have pf := qF_t pf pfq
      have u_44_2 : (I_32 mo 2).toInt = (I mo 2).toInt := by rw [pf 2 (by decide) (by decide) (by decide) (by decide) (by decide)]
      have u_44_5 : (I_32 mo 5).toInt = (I mo 5).toInt := by rw [pf 5 (by decide) (by decide) (by decide) (by decide) (by decide)]
      have u_44_14 : (I_32 mo 14).toInt = (I mo 14).toInt := by rw [pf 14 (by decide) (by decide) (by decide) (by decide) (by decide)]
      have u_44_16 : (I_32 mo 16).toInt = (I mo 16).toInt := by rw [pf 16 (by decide) (by decide) (by decide) (by decide) (by decide)]
      have u_44_18 : (I_32 mo 18).toInt = (I mo 18).toInt := by rw [pf 18 (by decide) (by decide) (by decide) (by decide) (by decide)]
      rw [thn_b (by omega)] at er_40
      have hQ : mQ gh I_32 J_34 AI_35 AJ mo b nn nr nt cc fb9 hb9 := by rw [er_40] at hQ; exact hQ
      replace htt := hid htt
      refine lv_istore (lv' := [(6, .int (iI v_38)), (5, .int (iI v_31)), (0, .ref mo), (1, .int (iI l1)), (2, .int (iI l2)), (3, .int (iI l3)), (4, .int (iI l4))]) F.1 F.2.1 dX7_ringTold_85 hl (by decide) rfl (fun ls hl => ?_)
      obtain ⟨f9, ef9⟩ : ∃ q, q = (I_32 mo 24).toInt := ⟨_, rfl⟩
      refine lv_aload_n F.1 F.2.1 dX7_ringTold_87 rfl (lv_at hl 2 rfl) ?_
      refine z_bipush F dX7_ringTold_88 (by decide) ?_
      have b_45 := mJ hv hm
      unfold mNum1 at b_45
      refine g_calli (g_runV (As := [.int (iI 59)]) (rest := []) (ci := 7) F hl.1 hH hS hz (c_X7_isSignf l g gh T b nn nr nt cc fb9 hb9 I_32 R J_34 AI_35 AJ AR mo 59 ⟨by decide, by decide⟩ hv hm hT h65 hbM hr7 (by omega) hn9 (by omega) (by omega) hQ) (cwV 1 F.2.2.2.2.1 (good_up gT_X7_isSign) rfl rfl rfl hdX7_isSign ⟨Nat.le_of_ble_eq_true rfl, Nat.le_of_ble_eq_true rfl⟩) hm (by decide) rfl rfl rfl (Nat.le_of_ble_eq_true rfl) dX7_ringTold_90 ⟨Nat.zero_le _, Nat.zero_le _⟩) hS (fun v_52 I_46 R_47 J_48 AI_49 AJ_50 AR_51 H locs zv_52 hp_53 hH hS => ?_)
      dsimp only at hp_53
      obtain ⟨rfl, rfl, rfl, rfl, rfl, rfl, q_54, q_55⟩ := hp_53
      replace q_54 := q_54.1
      refine z_if_eq (tgt := 117) F dX7_ringTold_93 (by decide) zv_52 (fun c_56 => ?_) (fun c_56 => ?_)
      · have t_57 := tIz_0 q_55 (by omega)
        refine lv_aload_n F.1 F.2.1 dX7_ringTold_117 rfl (lv_at hl 2 rfl) ?_
        refine z_bipush F dX7_ringTold_118 (by decide) ?_
        refine lv_aload_n F.1 F.2.1 dX7_ringTold_120 rfl (lv_at hl 2 rfl) ?_
        refine lv_iload_n F.1 F.2.1 dX7_ringTold_121 rfl (lv_at hl 3 rfl) ?_
        refine g_calli (g_runV (As := [.int (iI l1)]) (rest := [.int (iI 8), .ref mo]) (ci := 7) F hl.1 hH hS hz (c_X7_columns l g gh T I_32 R J_34 AI_35 AJ AR mo l1 zl1 hv hm hT (by omega)) (cwV 1 F.2.2.2.2.1 (good_up gT_X7_columns) rfl rfl rfl hdX7_columns ⟨Nat.le_of_ble_eq_true rfl, Nat.le_of_ble_eq_true rfl⟩) hm (by decide) rfl rfl rfl (Nat.le_of_ble_eq_true rfl) dX7_ringTold_122 ⟨Nat.zero_le _, Nat.zero_le _⟩) hS (fun v_65 I_59 R_60 J_61 AI_62 AJ_63 AR_64 H locs zv_65 hp_66 hH hS => ?_)
        dsimp only at hp_66
        obtain ⟨rfl, rfl, rfl, rfl, rfl, rfl, q_58⟩ := hp_66
        have hcol : Hid ((I_32 mo 24).toInt = 0 → 1 ≤ v_65 ∧ v_65 ≤ 4) := fun h => by have q9 := mCol hv hm (z := l1) (by omega) (by omega); omega
        refine lv_iload_n F.1 F.2.1 dX7_ringTold_125 rfl (lv_at hl 3 rfl) ?_
        refine lv_iload_n F.1 F.2.1 dX7_ringTold_126 rfl (lv_at hl 4 rfl) ?_
        refine lv_iload F.1 F.2.1 dX7_ringTold_127 (lv_at hl 0 rfl) ?_
        refine g_callv (g_runV (As := [.int (iI 8), .int (iI v_65), .int (iI l1), .int (iI l2), .int (iI v_38)]) (rest := []) (ci := 7) F hl.1 hH hS hz (c_X7_header l g gh T M I_32 R J_34 AI_35 AJ AR mo 8 v_65 l1 l2 v_38 ⟨by decide, by decide⟩ zv_65 zl1 zl2 zv_38 hv hm hT (by omega) (by omega)) (cwV 5 F.2.2.2.2.1 (good_up gT_X7_header) rfl rfl rfl hdX7_header ⟨Nat.le_of_ble_eq_true rfl, Nat.le_of_ble_eq_true rfl⟩) hm (by decide) rfl rfl rfl (Nat.le_of_ble_eq_true rfl) dX7_ringTold_129 ⟨Nat.zero_le _, Nat.zero_le _⟩) hS (fun I_67 R_68 J_69 AI_70 AJ_71 AR_72 H locs hp_73 hH hS => ?_)
        dsimp only at hp_73
        obtain ⟨rfl, rfl, rfl, rfl, rfl, hv, hT, hhd⟩ := hp_73
        replace hhd := hid hhd
        have hQ : mQ gh I_32 J_34 AI_70 AJ mo b nn nr nt cc fb9 hb9 := mQ_bad hQ (by omega) rfl
        exact g_vret F hr hlk hH hS hz ⟨rfl, rfl, rfl, hv, hT, pf, by first | (dsimp only; omega) | omega | rfl, by (try dsimp only); exact (fun hf => absurd hf (by omega)), by (try dsimp only); exact (fun hf => absurd hf (by omega)), by (try dsimp only); rw [hfin]; exact hQ, by (try dsimp only); rw [hfin]; exact pIc_n (by omega)⟩ dX7_ringTold_132
      · exact absurd (tIz_1 q_55 (by omega)).1 (by omega)
    refine lv_aload_n F.1 F.2.1 dX7_ringTold_0 rfl (lv_at hl 0 rfl) ?_
    have b_74 := mJ hv hm
    unfold mNum1 at b_74
    refine g_calli (g_runV (As := []) (rest := []) (ci := 7) F hl.1 hH hS hz (c_X7_relationf l g gh T b nn nr nt cc 0 h I R J AI AJ AR mo hv hm hT (by omega) h65 hbM hr7 (by omega) hn9 (by omega) hQ) (cwV 0 F.2.2.2.2.1 (good_up gT_X7_relation) rfl rfl rfl hdX7_relation ⟨Nat.le_of_ble_eq_true rfl, Nat.le_of_ble_eq_true rfl⟩) hm (by decide) rfl rfl rfl (Nat.le_of_ble_eq_true rfl) dX7_ringTold_1 ⟨Nat.zero_le _, Nat.zero_le _⟩) hS (fun v_81 I_75 R_76 J_77 AI_78 AJ_79 AR_80 H locs zv_81 hp_82 hH hS => ?_)
    dsimp only at hp_82
    obtain ⟨r_83, er_83⟩ : ∃ qQ : pR, qQ = thn (0, h, 0) (fun t _ => sRl b nn nr nt cc t) := ⟨_, rfl⟩
    rw [← er_83] at hp_82
    obtain ⟨rfl, rfl, rfl, rfl, hv, pfq, q_84, q_85, hQ, q_86⟩ := hp_82
    have pf := qF_t pf pfq
    have u_87_2 : (I_75 mo 2).toInt = (I mo 2).toInt := by rw [pf 2 (by decide) (by decide) (by decide) (by decide) (by decide)]
    have u_87_5 : (I_75 mo 5).toInt = (I mo 5).toInt := by rw [pf 5 (by decide) (by decide) (by decide) (by decide) (by decide)]
    have u_87_14 : (I_75 mo 14).toInt = (I mo 14).toInt := by rw [pf 14 (by decide) (by decide) (by decide) (by decide) (by decide)]
    have u_87_16 : (I_75 mo 16).toInt = (I mo 16).toInt := by rw [pf 16 (by decide) (by decide) (by decide) (by decide) (by decide)]
    have u_87_18 : (I_75 mo 18).toInt = (I mo 18).toInt := by rw [pf 18 (by decide) (by decide) (by decide) (by decide) (by decide)]
    have er_83 : r_83 = sRl b nn nr nt cc h := er_83
    have sr_83 := er_83
    rcases sRl_c er_83 with ⟨er_83, pr_83⟩ | ⟨er_83, pr_83⟩
    · have hQ : mQ gh I_75 J_77 AI AJ mo b nn nr nt cc 0 (h + 1) := by rw [er_83] at hQ; exact hQ
      have sr_83 : sRl b nn nr nt cc h = (0, h + 1, cF b nn nr nt cc h) := sr_83.symm.trans er_83
      have vlr_83 := q_86 (by rw [er_83])
      try rw [er_83] at vlr_83
      try dsimp only at vlr_83
      replace q_85 := (⟨q_85.1, q_85.2.1, q_85.2.2 (mQ_0 hQ rfl)⟩ : _ ∧ _ ∧ _)
      obtain ⟨fa0, efa0⟩ : ∃ q, q = (I_75 mo 24).toInt := ⟨_, rfl⟩
      have hra : Hid (fa0 = 0 → v_81 < M) := fun h9 => by omega
      refine lv_istore_n (lv' := [(1, .int (iI v_81)), (0, .ref mo)]) F.1 F.2.1 dX7_ringTold_4 rfl hl (by decide) rfl (fun ls hl => ?_)
      refine lv_aload_n F.1 F.2.1 dX7_ringTold_5 rfl (lv_at hl 1 rfl) ?_
      refine va_ldcS F.1 F.2.1 F.2.2.2.1 (F.2.2.2.2.2.2.1 25 _ rfl).1 dX7_ringTold_6 ?_
      have b_88 := mJ hv hm
      unfold mNum1 at b_88
      refine g_callv (g_runV (As := [.ref (gSK g 25)]) (rest := []) (ci := 7) F hl.1 hH hS hz (c_X7_mustWordf l g gh T 25 _ 14 b nn nr nt cc 0 (h + 1) I_75 R J_77 AI AJ AR mo hv hm hT (by omega) (rfl : sTab[25]? = some _) h65 hbM hr7 (by omega) hn9 (by omega) (by decide) (by decide +kernel) hQ) (cwV 1 F.2.2.2.2.1 (good_up gT_X7_mustWord) rfl rfl rfl hdX7_mustWord ⟨Nat.le_of_ble_eq_true rfl, Nat.le_of_ble_eq_true rfl⟩) hm (by decide) rfl rfl rfl (Nat.le_of_ble_eq_true rfl) dX7_ringTold_8 ⟨Nat.zero_le _, Nat.zero_le _⟩) hS (fun I_89 R_90 J_91 AI_92 AJ_93 AR_94 H locs hp_95 hH hS => ?_)
      dsimp only at hp_95
      obtain ⟨r_96, er_96⟩ : ∃ qQ : pR, qQ = thn (0, (h + 1), 0) (fun t _ => sTw b nn ((14 : Nat) : Int) t) := ⟨_, rfl⟩
      rw [← er_96] at hp_95
      obtain ⟨rfl, rfl, rfl, rfl, hv, pfq, q_97, hQ⟩ := hp_95
      have pf := qF_t pf pfq
      have u_98_2 : (I_89 mo 2).toInt = (I mo 2).toInt := by rw [pf 2 (by decide) (by decide) (by decide) (by decide) (by decide)]
      have u_98_5 : (I_89 mo 5).toInt = (I mo 5).toInt := by rw [pf 5 (by decide) (by decide) (by decide) (by decide) (by decide)]
      have u_98_14 : (I_89 mo 14).toInt = (I mo 14).toInt := by rw [pf 14 (by decide) (by decide) (by decide) (by decide) (by decide)]
      have u_98_16 : (I_89 mo 16).toInt = (I mo 16).toInt := by rw [pf 16 (by decide) (by decide) (by decide) (by decide) (by decide)]
      have u_98_18 : (I_89 mo 18).toInt = (I mo 18).toInt := by rw [pf 18 (by decide) (by decide) (by decide) (by decide) (by decide)]
      have er_96 : r_96 = sTw b nn 14 (h + 1) := er_96
      have sr_96 := er_96
      rcases sTw_c er_96 with ⟨er_96, pr_96⟩ | ⟨er_96, pr_96⟩
      · have hQ : mQ gh I_89 J_91 AI AJ mo b nn nr nt cc 0 (h + 2) := by rw [er_96] at hQ; exact hQ
        have sr_96 : sTw b nn 14 (h + 1) = (0, h + 2, 0) := sr_96.symm.trans er_96
        refine lv_aload_n F.1 F.2.1 dX7_ringTold_11 rfl (lv_at hl 1 rfl) ?_
        have b_99 := mJ hv hm
        unfold mNum1 at b_99
        refine g_calli (g_runV (As := []) (rest := []) (ci := 7) F hl.1 hH hS hz (c_X7_relationf l g gh T b nn nr nt cc 0 (h + 2) I_89 R J_91 AI AJ AR mo hv hm hT (by omega) h65 hbM hr7 (by omega) hn9 (by omega) hQ) (cwV 0 F.2.2.2.2.1 (good_up gT_X7_relation) rfl rfl rfl hdX7_relation ⟨Nat.le_of_ble_eq_true rfl, Nat.le_of_ble_eq_true rfl⟩) hm (by decide) rfl rfl rfl (Nat.le_of_ble_eq_true rfl) dX7_ringTold_12 ⟨Nat.zero_le _, Nat.zero_le _⟩) hS (fun v_106 I_100 R_101 J_102 AI_103 AJ_104 AR_105 H locs zv_106 hp_107 hH hS => ?_)
        dsimp only at hp_107
        obtain ⟨r_108, er_108⟩ : ∃ qQ : pR, qQ = thn (0, (h + 2), 0) (fun t _ => sRl b nn nr nt cc t) := ⟨_, rfl⟩
        rw [← er_108] at hp_107
        obtain ⟨rfl, rfl, rfl, rfl, hv, pfq, q_109, q_110, hQ, q_111⟩ := hp_107
        have pf := qF_t pf pfq
        have u_112_2 : (I_100 mo 2).toInt = (I mo 2).toInt := by rw [pf 2 (by decide) (by decide) (by decide) (by decide) (by decide)]
        have u_112_5 : (I_100 mo 5).toInt = (I mo 5).toInt := by rw [pf 5 (by decide) (by decide) (by decide) (by decide) (by decide)]
        have u_112_14 : (I_100 mo 14).toInt = (I mo 14).toInt := by rw [pf 14 (by decide) (by decide) (by decide) (by decide) (by decide)]
        have u_112_16 : (I_100 mo 16).toInt = (I mo 16).toInt := by rw [pf 16 (by decide) (by decide) (by decide) (by decide) (by decide)]
        have u_112_18 : (I_100 mo 18).toInt = (I mo 18).toInt := by rw [pf 18 (by decide) (by decide) (by decide) (by decide) (by decide)]
        have er_108 : r_108 = sRl b nn nr nt cc (h + 2) := er_108
        have sr_108 := er_108
        rcases sRl_c er_108 with ⟨er_108, pr_108⟩ | ⟨er_108, pr_108⟩
        · have hQ : mQ gh I_100 J_102 AI AJ mo b nn nr nt cc 0 (h + 3) := by rw [er_108] at hQ; exact hQ
          have sr_108 : sRl b nn nr nt cc (h + 2) = (0, h + 3, cF b nn nr nt cc (h + 2)) := sr_108.symm.trans er_108
          have vlr_108 := q_111 (by rw [er_108])
          try rw [er_108] at vlr_108
          try dsimp only at vlr_108
          replace q_110 := (⟨q_110.1, q_110.2.1, q_110.2.2 (mQ_0 hQ rfl)⟩ : _ ∧ _ ∧ _)
          obtain ⟨f0, ef0⟩ : ∃ q, q = (I_100 mo 24).toInt := ⟨_, rfl⟩
          have hr2 : Hid (f0 = 0 → v_106 < M ∧ fa0 = 0) := fun h9 => by omega
          refine lv_istore_n (lv' := [(2, .int (iI v_106)), (1, .int (iI v_81)), (0, .ref mo)]) F.1 F.2.1 dX7_ringTold_15 rfl hl (by decide) rfl (fun ls hl => ?_)
          refine lv_aload_n F.1 F.2.1 dX7_ringTold_16 rfl (lv_at hl 2 rfl) ?_
          refine va_ldcS F.1 F.2.1 F.2.2.2.1 (F.2.2.2.2.2.2.1 14 _ rfl).1 dX7_ringTold_17 ?_
          have b_113 := mJ hv hm
          unfold mNum1 at b_113
          refine g_callv (g_runV (As := [.ref (gSK g 14)]) (rest := []) (ci := 7) F hl.1 hH hS hz (c_X7_mustWordf l g gh T 14 _ 12 b nn nr nt cc 0 (h + 3) I_100 R J_102 AI AJ AR mo hv hm hT (by omega) (rfl : sTab[14]? = some _) h65 hbM hr7 (by omega) hn9 (by omega) (by decide) (by decide +kernel) hQ) (cwV 1 F.2.2.2.2.1 (good_up gT_X7_mustWord) rfl rfl rfl hdX7_mustWord ⟨Nat.le_of_ble_eq_true rfl, Nat.le_of_ble_eq_true rfl⟩) hm (by decide) rfl rfl rfl (Nat.le_of_ble_eq_true rfl) dX7_ringTold_19 ⟨Nat.zero_le _, Nat.zero_le _⟩) hS (fun I_114 R_115 J_116 AI_117 AJ_118 AR_119 H locs hp_120 hH hS => ?_)
          dsimp only at hp_120
          obtain ⟨r_121, er_121⟩ : ∃ qQ : pR, qQ = thn (0, (h + 3), 0) (fun t _ => sTw b nn ((12 : Nat) : Int) t) := ⟨_, rfl⟩
          rw [← er_121] at hp_120
          obtain ⟨rfl, rfl, rfl, rfl, hv, pfq, q_122, hQ⟩ := hp_120
          have pf := qF_t pf pfq
          have u_123_2 : (I_114 mo 2).toInt = (I mo 2).toInt := by rw [pf 2 (by decide) (by decide) (by decide) (by decide) (by decide)]
          have u_123_5 : (I_114 mo 5).toInt = (I mo 5).toInt := by rw [pf 5 (by decide) (by decide) (by decide) (by decide) (by decide)]
          have u_123_14 : (I_114 mo 14).toInt = (I mo 14).toInt := by rw [pf 14 (by decide) (by decide) (by decide) (by decide) (by decide)]
          have u_123_16 : (I_114 mo 16).toInt = (I mo 16).toInt := by rw [pf 16 (by decide) (by decide) (by decide) (by decide) (by decide)]
          have u_123_18 : (I_114 mo 18).toInt = (I mo 18).toInt := by rw [pf 18 (by decide) (by decide) (by decide) (by decide) (by decide)]
          have er_121 : r_121 = sTw b nn 12 (h + 3) := er_121
          have sr_121 := er_121
          rcases sTw_c er_121 with ⟨er_121, pr_121⟩ | ⟨er_121, pr_121⟩
          · have hQ : mQ gh I_114 J_116 AI AJ mo b nn nr nt cc 0 (h + 4) := by rw [er_121] at hQ; exact hQ
            have sr_121 : sTw b nn 12 (h + 3) = (0, h + 4, 0) := sr_121.symm.trans er_121
            have cut_22_125 : ∀ (I_124 : gI) (J_125 : gJ) (H : Heap) (locs : List Loc) (ls : Array Slot), (mInv g gh R I_124 AI) → (qF mo I I_124) → (mQ gh I_124 J_125 AI AJ mo b nn nr nt cc 0 (h + 4)) → ((I_124 mo 20).toInt ≤ 936) → gH g I_124 R J_125 AI AJ AR H → va_S (gA g) s.heap H locs → lv_has ls 7 [(2, .int (iI v_106)), (1, .int (iI v_81)), (0, .ref mo)] → W p l e rmX7_ringToldf s m ([.ref mo] : List Value).toArray below meth c H locs 0 0 (MQ below (gQv g (fun w : gS => R = w.2.1 ∧ AJ = w.2.2.2.2.1 ∧ AR = w.2.2.2.2.2 ∧ (mInv g gh R (w.1) (w.2.2.2.1)) ∧ ((w.2.2.2.1) (gh 50 0) = T) ∧ (qF mo I (w.1)) ∧ (((w.1) mo 20).toInt ≤ 936 ∧ (I mo 24).toInt ≤ ((w.1) mo 24).toInt) ∧ (((w.1) mo 24).toInt = 0 → ((w.1) mo 21).toInt = 4 → ((w.1) mo 23).toInt = 59 → rowOK ((w.2.2.2.1) (gh 53 0)) M) ∧ (((w.1) mo 24).toInt = 0 → tI ((w.2.2.2.1) (gh 53 0)) (40 * M) = 8) ∧ (mQ gh (w.1) (w.2.2.1) (w.2.2.2.1) AJ mo b nn nr nt cc (thn (f, h, 0) (fun t _ => sRngM b nn nr nt cc t)).1 (thn (f, h, 0) (fun t _ => sRngM b nn nr nt cc t)).2.1) ∧ (pIc (thn (f, h, 0) (fun t _ => sRngM b nn nr nt cc t)).1 (pK b nn (thn (f, h, 0) (fun t _ => sRngM b nn nr nt cc t)).2.1) (tI ((w.2.2.2.1) (gh 53 0)) (40 * (nr : Int) + 1)) (thn (f, h, 0) (fun t _ => sRngM b nn nr nt cc t)).2.2))) ([.ref mo] : List Value).toArray s 0 0 (gA g)) (F0 m 22 ls []) := by
              intro I_124 J_125 H locs ls hv pf hQ hx9 hH hS hl
              (try clear u_123_18); (try clear u_123_16); (try clear u_123_14); (try clear u_123_5); (try clear u_123_2); (try clear b_113); (try clear u_112_18); (try clear u_112_16); (try clear u_112_14); (try clear u_112_5); (try clear u_112_2); (try clear b_99); (try clear u_98_18); (try clear u_98_16); (try clear u_98_14); (try clear u_98_5); (try clear u_98_2); (try clear b_88); (try clear u_87_18); (try clear u_87_16); (try clear u_87_14); (try clear u_87_5); (try clear u_87_2); (try clear b_74)
              have uc_2 : (I_124 mo 2).toInt = (I mo 2).toInt := by rw [pf 2 (by decide) (by decide) (by decide) (by decide) (by decide)]
              have uc_5 : (I_124 mo 5).toInt = (I mo 5).toInt := by rw [pf 5 (by decide) (by decide) (by decide) (by decide) (by decide)]
              have uc_14 : (I_124 mo 14).toInt = (I mo 14).toInt := by rw [pf 14 (by decide) (by decide) (by decide) (by decide) (by decide)]
              have uc_16 : (I_124 mo 16).toInt = (I mo 16).toInt := by rw [pf 16 (by decide) (by decide) (by decide) (by decide) (by decide)]
              have uc_18 : (I_124 mo 18).toInt = (I mo 18).toInt := by rw [pf 18 (by decide) (by decide) (by decide) (by decide) (by decide)]
              have hz9 := mQ_0 hQ rfl
              refine lv_aload_n F.1 F.2.1 dX7_ringTold_22 rfl (lv_at hl 2 rfl) ?_
              refine lv_aload_n F.1 F.2.1 dX7_ringTold_23 rfl (lv_at hl 2 rfl) ?_
              refine lv_iload_n F.1 F.2.1 dX7_ringTold_24 rfl (lv_at hl 1 rfl) ?_
              have b_128 := mJ hv hm
              unfold mNum1 at b_128
              refine g_calli (g_runV (As := [.int (iI v_81)]) (rest := [.ref mo]) (ci := 7) F hl.1 hH hS hz (c_X7_columns l g gh T I_124 R J_125 AI AJ AR mo v_81 zv_81 hv hm hT (by omega)) (cwV 1 F.2.2.2.2.1 (good_up gT_X7_columns) rfl rfl rfl hdX7_columns ⟨Nat.le_of_ble_eq_true rfl, Nat.le_of_ble_eq_true rfl⟩) hm (by decide) rfl rfl rfl (Nat.le_of_ble_eq_true rfl) dX7_ringTold_25 ⟨Nat.zero_le _, Nat.zero_le _⟩) hS (fun v_135 I_129 R_130 J_131 AI_132 AJ_133 AR_134 H locs zv_135 hp_136 hH hS => ?_)
              dsimp only at hp_136
              obtain ⟨rfl, rfl, rfl, rfl, rfl, rfl, q_127⟩ := hp_136
              have cvv_135 : v_135 = cF b nn nr nt cc h := q_127.trans ((mQ_c hQ rfl vlr_83.1 vlr_83.2.1).trans vlr_83.2.2)
              refine g_calli (g_runV (As := [.int (iI v_135)]) (rest := []) (ci := 7) F hl.1 hH hS hz (c_X7_columnf l g gh T b nn nr nt cc 0 (h + 4) I_124 R J_125 AI AJ AR mo v_135 zv_135 hv hm hT (by omega) h65 hbM hr7 (by omega) hn9 (by omega) hQ) (cwV 1 F.2.2.2.2.1 (good_up gT_X7_column) rfl rfl rfl hdX7_column ⟨Nat.le_of_ble_eq_true rfl, Nat.le_of_ble_eq_true rfl⟩) hm (by decide) rfl rfl rfl (Nat.le_of_ble_eq_true rfl) dX7_ringTold_28 ⟨Nat.zero_le _, Nat.zero_le _⟩) hS (fun v_143 I_137 R_138 J_139 AI_140 AJ_141 AR_142 H locs zv_143 hp_144 hH hS => ?_)
              dsimp only at hp_144
              rw [show v_135 = cF b nn nr nt cc h by omega] at hp_144
              obtain ⟨r_145, er_145⟩ : ∃ qQ : pR, qQ = thn (0, (h + 4), 0) (fun t _ => sCol b nn (cF b nn nr nt cc h) t) := ⟨_, rfl⟩
              rw [← er_145] at hp_144
              obtain ⟨rfl, rfl, rfl, rfl, hv, pfq, q_146, q_147, hQ, q_148⟩ := hp_144
              have pf := qF_t pf pfq
              have u_149_2 : (I_137 mo 2).toInt = (I mo 2).toInt := by rw [pf 2 (by decide) (by decide) (by decide) (by decide) (by decide)]
              have u_149_5 : (I_137 mo 5).toInt = (I mo 5).toInt := by rw [pf 5 (by decide) (by decide) (by decide) (by decide) (by decide)]
              have u_149_14 : (I_137 mo 14).toInt = (I mo 14).toInt := by rw [pf 14 (by decide) (by decide) (by decide) (by decide) (by decide)]
              have u_149_16 : (I_137 mo 16).toInt = (I mo 16).toInt := by rw [pf 16 (by decide) (by decide) (by decide) (by decide) (by decide)]
              have u_149_18 : (I_137 mo 18).toInt = (I mo 18).toInt := by rw [pf 18 (by decide) (by decide) (by decide) (by decide) (by decide)]
              have er_145 : r_145 = sCol b nn (cF b nn nr nt cc h) (h + 4) := er_145
              have sr_145 := er_145
              rcases sCol_c er_145 with ⟨er_145, pr_145⟩ | ⟨er_145, pr_145⟩
              · have hQ : mQ gh I_137 J_139 AI AJ mo b nn nr nt cc 0 (h + 5) := by rw [er_145] at hQ; exact hQ
                have sr_145 : sCol b nn (cF b nn nr nt cc h) (h + 4) = (0, h + 5, pV b nn (h + 4)) := sr_145.symm.trans er_145
                have vlr_145 := q_148 (by rw [er_145])
                try rw [er_145] at vlr_145
                try dsimp only at vlr_145
                have kq_147 := q_147 (mQ_0 hQ rfl)
                replace q_147 := hid q_147
                obtain ⟨f1, ef1⟩ : ∃ q, q = (I_137 mo 24).toInt := ⟨_, rfl⟩
                have hc1 : Hid (f1 = 0 → 0 ≤ v_143 ∧ v_143 ≤ 3) := fun h9 => by omega
                refine lv_istore_n (lv' := [(3, .int (iI v_143)), (2, .int (iI v_106)), (1, .int (iI v_81)), (0, .ref mo)]) F.1 F.2.1 dX7_ringTold_31 rfl hl (by decide) rfl (fun ls hl => ?_)
                refine lv_aload_n F.1 F.2.1 dX7_ringTold_32 rfl (lv_at hl 3 rfl) ?_
                refine z_bipush F dX7_ringTold_33 (by decide) ?_
                have b_150 := mJ hv hm
                unfold mNum1 at b_150
                refine g_callv (g_runV (As := [.int (iI 61)]) (rest := []) (ci := 7) F hl.1 hH hS hz (c_X7_mustSignf l g gh T b nn nr nt cc 0 (h + 5) I_137 R J_139 AI AJ AR mo 61 ⟨by decide, by decide⟩ hv hm hT (by omega) h65 hbM hr7 (by omega) hn9 (by omega) (by omega) hQ) (cwV 1 F.2.2.2.2.1 (good_up gT_X7_mustSign) rfl rfl rfl hdX7_mustSign ⟨Nat.le_of_ble_eq_true rfl, Nat.le_of_ble_eq_true rfl⟩) hm (by decide) rfl rfl rfl (Nat.le_of_ble_eq_true rfl) dX7_ringTold_35 ⟨Nat.zero_le _, Nat.zero_le _⟩) hS (fun I_151 R_152 J_153 AI_154 AJ_155 AR_156 H locs hp_157 hH hS => ?_)
                dsimp only at hp_157
                obtain ⟨r_158, er_158⟩ : ∃ qQ : pR, qQ = thn (0, (h + 5), 0) (fun t _ => sTk b nn 61 t) := ⟨_, rfl⟩
                rw [← er_158] at hp_157
                obtain ⟨rfl, rfl, rfl, rfl, hv, pfq, q_159, q_160, hQ⟩ := hp_157
                have pf := qF_t pf pfq
                have u_161_2 : (I_151 mo 2).toInt = (I mo 2).toInt := by rw [pf 2 (by decide) (by decide) (by decide) (by decide) (by decide)]
                have u_161_5 : (I_151 mo 5).toInt = (I mo 5).toInt := by rw [pf 5 (by decide) (by decide) (by decide) (by decide) (by decide)]
                have u_161_14 : (I_151 mo 14).toInt = (I mo 14).toInt := by rw [pf 14 (by decide) (by decide) (by decide) (by decide) (by decide)]
                have u_161_16 : (I_151 mo 16).toInt = (I mo 16).toInt := by rw [pf 16 (by decide) (by decide) (by decide) (by decide) (by decide)]
                have u_161_18 : (I_151 mo 18).toInt = (I mo 18).toInt := by rw [pf 18 (by decide) (by decide) (by decide) (by decide) (by decide)]
                have er_158 : r_158 = sTk b nn 61 (h + 5) := er_158
                have sr_158 := er_158
                rcases sTk_c er_158 with ⟨er_158, pr_158⟩ | ⟨er_158, pr_158⟩
                · have hQ : mQ gh I_151 J_153 AI AJ mo b nn nr nt cc 0 (h + 6) := by rw [er_158] at hQ; exact hQ
                  have sr_158 : sTk b nn 61 (h + 5) = (0, h + 6, 0) := sr_158.symm.trans er_158
                  replace q_160 := hid q_160
                  refine lv_aload_n F.1 F.2.1 dX7_ringTold_38 rfl (lv_at hl 3 rfl) ?_
                  refine lv_aload_n F.1 F.2.1 dX7_ringTold_39 rfl (lv_at hl 3 rfl) ?_
                  refine lv_iload_n F.1 F.2.1 dX7_ringTold_40 rfl (lv_at hl 1 rfl) ?_
                  have b_163 := mJ hv hm
                  unfold mNum1 at b_163
                  refine g_calli (g_runV (As := [.int (iI v_106)]) (rest := [.ref mo]) (ci := 7) F hl.1 hH hS hz (c_X7_columns l g gh T I_151 R J_153 AI AJ AR mo v_106 zv_106 hv hm hT (by omega)) (cwV 1 F.2.2.2.2.1 (good_up gT_X7_columns) rfl rfl rfl hdX7_columns ⟨Nat.le_of_ble_eq_true rfl, Nat.le_of_ble_eq_true rfl⟩) hm (by decide) rfl rfl rfl (Nat.le_of_ble_eq_true rfl) dX7_ringTold_41 ⟨Nat.zero_le _, Nat.zero_le _⟩) hS (fun v_170 I_164 R_165 J_166 AI_167 AJ_168 AR_169 H locs zv_170 hp_171 hH hS => ?_)
                  dsimp only at hp_171
                  obtain ⟨rfl, rfl, rfl, rfl, rfl, rfl, q_162⟩ := hp_171
                  have cvv_170 : v_170 = cF b nn nr nt cc (h + 2) := q_162.trans ((mQ_c hQ rfl vlr_108.1 vlr_108.2.1).trans vlr_108.2.2)
                  refine g_calli (g_runV (As := [.int (iI v_170)]) (rest := []) (ci := 7) F hl.1 hH hS hz (c_X7_columnf l g gh T b nn nr nt cc 0 (h + 6) I_151 R J_153 AI AJ AR mo v_170 zv_170 hv hm hT (by omega) h65 hbM hr7 (by omega) hn9 (by omega) hQ) (cwV 1 F.2.2.2.2.1 (good_up gT_X7_column) rfl rfl rfl hdX7_column ⟨Nat.le_of_ble_eq_true rfl, Nat.le_of_ble_eq_true rfl⟩) hm (by decide) rfl rfl rfl (Nat.le_of_ble_eq_true rfl) dX7_ringTold_44 ⟨Nat.zero_le _, Nat.zero_le _⟩) hS (fun v_178 I_172 R_173 J_174 AI_175 AJ_176 AR_177 H locs zv_178 hp_179 hH hS => ?_)
                  dsimp only at hp_179
                  rw [show v_170 = cF b nn nr nt cc (h + 2) by omega] at hp_179
                  obtain ⟨r_180, er_180⟩ : ∃ qQ : pR, qQ = thn (0, (h + 6), 0) (fun t _ => sCol b nn (cF b nn nr nt cc (h + 2)) t) := ⟨_, rfl⟩
                  rw [← er_180] at hp_179
                  obtain ⟨rfl, rfl, rfl, rfl, hv, pfq, q_181, q_182, hQ, q_183⟩ := hp_179
                  have pf := qF_t pf pfq
                  have u_184_2 : (I_172 mo 2).toInt = (I mo 2).toInt := by rw [pf 2 (by decide) (by decide) (by decide) (by decide) (by decide)]
                  have u_184_5 : (I_172 mo 5).toInt = (I mo 5).toInt := by rw [pf 5 (by decide) (by decide) (by decide) (by decide) (by decide)]
                  have u_184_14 : (I_172 mo 14).toInt = (I mo 14).toInt := by rw [pf 14 (by decide) (by decide) (by decide) (by decide) (by decide)]
                  have u_184_16 : (I_172 mo 16).toInt = (I mo 16).toInt := by rw [pf 16 (by decide) (by decide) (by decide) (by decide) (by decide)]
                  have u_184_18 : (I_172 mo 18).toInt = (I mo 18).toInt := by rw [pf 18 (by decide) (by decide) (by decide) (by decide) (by decide)]
                  have er_180 : r_180 = sCol b nn (cF b nn nr nt cc (h + 2)) (h + 6) := er_180
                  have sr_180 := er_180
                  rcases sCol_c er_180 with ⟨er_180, pr_180⟩ | ⟨er_180, pr_180⟩
                  · have hQ : mQ gh I_172 J_174 AI AJ mo b nn nr nt cc 0 (h + 7) := by rw [er_180] at hQ; exact hQ
                    have sr_180 : sCol b nn (cF b nn nr nt cc (h + 2)) (h + 6) = (0, h + 7, pV b nn (h + 6)) := sr_180.symm.trans er_180
                    have vlr_180 := q_183 (by rw [er_180])
                    try rw [er_180] at vlr_180
                    try dsimp only at vlr_180
                    have kq_182 := q_182 (mQ_0 hQ rfl)
                    replace q_182 := hid q_182
                    obtain ⟨f2, ef2⟩ : ∃ q, q = (I_172 mo 24).toInt := ⟨_, rfl⟩
                    have hd1 : Hid (f2 = 0 → 0 ≤ v_178 ∧ v_178 ≤ 3) := fun h9 => by omega
                    refine lv_istore (lv' := [(4, .int (iI v_178)), (3, .int (iI v_143)), (2, .int (iI v_106)), (1, .int (iI v_81)), (0, .ref mo)]) F.1 F.2.1 dX7_ringTold_47 hl (by decide) rfl (fun ls hl => ?_)
                    have cut_49_186 : ∀ (I_185 : gI) (J_186 : gJ) (H : Heap) (locs : List Loc) (ls : Array Slot), (mInv g gh R I_185 AI) → (qF mo I I_185) → (mQ gh I_185 J_186 AI AJ mo b nn nr nt cc 0 (h + 7)) → ((I_185 mo 20).toInt ≤ 936) → gH g I_185 R J_186 AI AJ AR H → va_S (gA g) s.heap H locs → lv_has ls 7 [(4, .int (iI v_178)), (3, .int (iI v_143)), (2, .int (iI v_106)), (1, .int (iI v_81)), (0, .ref mo)] → W p l e rmX7_ringToldf s m ([.ref mo] : List Value).toArray below meth c H locs 0 0 (MQ below (gQv g (fun w : gS => R = w.2.1 ∧ AJ = w.2.2.2.2.1 ∧ AR = w.2.2.2.2.2 ∧ (mInv g gh R (w.1) (w.2.2.2.1)) ∧ ((w.2.2.2.1) (gh 50 0) = T) ∧ (qF mo I (w.1)) ∧ (((w.1) mo 20).toInt ≤ 936 ∧ (I mo 24).toInt ≤ ((w.1) mo 24).toInt) ∧ (((w.1) mo 24).toInt = 0 → ((w.1) mo 21).toInt = 4 → ((w.1) mo 23).toInt = 59 → rowOK ((w.2.2.2.1) (gh 53 0)) M) ∧ (((w.1) mo 24).toInt = 0 → tI ((w.2.2.2.1) (gh 53 0)) (40 * M) = 8) ∧ (mQ gh (w.1) (w.2.2.1) (w.2.2.2.1) AJ mo b nn nr nt cc (thn (f, h, 0) (fun t _ => sRngM b nn nr nt cc t)).1 (thn (f, h, 0) (fun t _ => sRngM b nn nr nt cc t)).2.1) ∧ (pIc (thn (f, h, 0) (fun t _ => sRngM b nn nr nt cc t)).1 (pK b nn (thn (f, h, 0) (fun t _ => sRngM b nn nr nt cc t)).2.1) (tI ((w.2.2.2.1) (gh 53 0)) (40 * (nr : Int) + 1)) (thn (f, h, 0) (fun t _ => sRngM b nn nr nt cc t)).2.2))) ([.ref mo] : List Value).toArray s 0 0 (gA g)) (F0 m 49 ls []) := by
                      intro I_185 J_186 H locs ls hv pf hQ hx9 hH hS hl
                      (try clear u_184_18); (try clear u_184_16); (try clear u_184_14); (try clear u_184_5); (try clear u_184_2); (try clear b_163); (try clear u_161_18); (try clear u_161_16); (try clear u_161_14); (try clear u_161_5); (try clear u_161_2); (try clear b_150); (try clear u_149_18); (try clear u_149_16); (try clear u_149_14); (try clear u_149_5); (try clear u_149_2); (try clear b_128); (try clear uc_18); (try clear uc_16); (try clear uc_14); (try clear uc_5); (try clear uc_2); (try clear u_123_18); (try clear u_123_16); (try clear u_123_14); (try clear u_123_5); (try clear u_123_2); (try clear b_113); (try clear u_112_18); (try clear u_112_16); (try clear u_112_14); (try clear u_112_5); (try clear u_112_2); (try clear b_99); (try clear u_98_18); (try clear u_98_16); (try clear u_98_14); (try clear u_98_5); (try clear u_98_2); (try clear b_88); (try clear u_87_18); (try clear u_87_16); (try clear u_87_14); (try clear u_87_5); (try clear u_87_2); (try clear b_74)
                      have uc_2 : (I_185 mo 2).toInt = (I mo 2).toInt := by rw [pf 2 (by decide) (by decide) (by decide) (by decide) (by decide)]
                      have uc_5 : (I_185 mo 5).toInt = (I mo 5).toInt := by rw [pf 5 (by decide) (by decide) (by decide) (by decide) (by decide)]
                      have uc_14 : (I_185 mo 14).toInt = (I mo 14).toInt := by rw [pf 14 (by decide) (by decide) (by decide) (by decide) (by decide)]
                      have uc_16 : (I_185 mo 16).toInt = (I mo 16).toInt := by rw [pf 16 (by decide) (by decide) (by decide) (by decide) (by decide)]
                      have uc_18 : (I_185 mo 18).toInt = (I mo 18).toInt := by rw [pf 18 (by decide) (by decide) (by decide) (by decide) (by decide)]
                      have hz9 := mQ_0 hQ rfl
                      refine lv_aload_n F.1 F.2.1 dX7_ringTold_49 rfl (lv_at hl 4 rfl) ?_
                      refine va_ldcS F.1 F.2.1 F.2.2.2.1 (F.2.2.2.2.2.2.1 26 _ rfl).1 dX7_ringTold_50 ?_
                      have b_188 := mJ hv hm
                      unfold mNum1 at b_188
                      refine g_callv (g_runV (As := [.ref (gSK g 26)]) (rest := []) (ci := 7) F hl.1 hH hS hz (c_X7_mustWordf l g gh T 26 _ 15 b nn nr nt cc 0 (h + 7) I_185 R J_186 AI AJ AR mo hv hm hT (by omega) (rfl : sTab[26]? = some _) h65 hbM hr7 (by omega) hn9 (by omega) (by decide) (by decide +kernel) hQ) (cwV 1 F.2.2.2.2.1 (good_up gT_X7_mustWord) rfl rfl rfl hdX7_mustWord ⟨Nat.le_of_ble_eq_true rfl, Nat.le_of_ble_eq_true rfl⟩) hm (by decide) rfl rfl rfl (Nat.le_of_ble_eq_true rfl) dX7_ringTold_52 ⟨Nat.zero_le _, Nat.zero_le _⟩) hS (fun I_189 R_190 J_191 AI_192 AJ_193 AR_194 H locs hp_195 hH hS => ?_)
                      dsimp only at hp_195
                      obtain ⟨r_196, er_196⟩ : ∃ qQ : pR, qQ = thn (0, (h + 7), 0) (fun t _ => sTw b nn ((15 : Nat) : Int) t) := ⟨_, rfl⟩
                      rw [← er_196] at hp_195
                      obtain ⟨rfl, rfl, rfl, rfl, hv, pfq, q_197, hQ⟩ := hp_195
                      have pf := qF_t pf pfq
                      have u_198_2 : (I_189 mo 2).toInt = (I mo 2).toInt := by rw [pf 2 (by decide) (by decide) (by decide) (by decide) (by decide)]
                      have u_198_5 : (I_189 mo 5).toInt = (I mo 5).toInt := by rw [pf 5 (by decide) (by decide) (by decide) (by decide) (by decide)]
                      have u_198_14 : (I_189 mo 14).toInt = (I mo 14).toInt := by rw [pf 14 (by decide) (by decide) (by decide) (by decide) (by decide)]
                      have u_198_16 : (I_189 mo 16).toInt = (I mo 16).toInt := by rw [pf 16 (by decide) (by decide) (by decide) (by decide) (by decide)]
                      have u_198_18 : (I_189 mo 18).toInt = (I mo 18).toInt := by rw [pf 18 (by decide) (by decide) (by decide) (by decide) (by decide)]
                      have er_196 : r_196 = sTw b nn 15 (h + 7) := er_196
                      have sr_196 := er_196
                      rcases sTw_c er_196 with ⟨er_196, pr_196⟩ | ⟨er_196, pr_196⟩
                      · have hQ : mQ gh I_189 J_191 AI AJ mo b nn nr nt cc 0 (h + 8) := by rw [er_196] at hQ; exact hQ
                        have sr_196 : sTw b nn 15 (h + 7) = (0, h + 8, 0) := sr_196.symm.trans er_196
                        refine lv_aload_n F.1 F.2.1 dX7_ringTold_55 rfl (lv_at hl 4 rfl) ?_
                        refine z_iconst F dX7_ringTold_56 ?_
                        refine lv_iload_n F.1 F.2.1 dX7_ringTold_57 rfl (lv_at hl 1 rfl) ?_
                        refine lv_iload F.1 F.2.1 dX7_ringTold_58 (lv_at hl 0 rfl) ?_
                        refine z_iconst F dX7_ringTold_60 ?_
                        refine z_iconst F dX7_ringTold_61 ?_
                        have b_199 := mJ hv hm
                        unfold mNum1 at b_199
                        refine g_callv (g_runV (As := [.int (iI 0), .int (iI v_143), .int (iI v_178), .int (iI 0), .int (iI 0)]) (rest := []) (ci := 7) F hl.1 hH hS hz (c_X7_setsPart l g gh T M I_189 R J_191 AI AJ AR mo 0 v_143 v_178 0 0 ⟨by decide, by decide⟩ zv_143 zv_178 ⟨by decide, by decide⟩ ⟨by decide, by decide⟩ hv hm hT (by omega) (by omega) (by omega)) (cwV 5 F.2.2.2.2.1 (good_up gT_X7_setsPart) rfl rfl rfl hdX7_setsPart ⟨Nat.le_of_ble_eq_true rfl, Nat.le_of_ble_eq_true rfl⟩) hm (by decide) rfl rfl rfl (Nat.le_of_ble_eq_true rfl) dX7_ringTold_62 ⟨Nat.zero_le _, Nat.zero_le _⟩) hS (fun I_200 R_201 J_202 AI_203 AJ_204 AR_205 H locs hp_206 hH hS => ?_)
                        dsimp only at hp_206
                        obtain ⟨rfl, rfl, rfl, rfl, rfl, hv, hT, hsp⟩ := hp_206
                        replace hsp := hid hsp
                        have hQ : mQ gh I_189 J_191 AI_203 AJ mo b nn nr nt cc 0 (h + 8) := mQ_a hQ (fun hf9 z9 h09 h19 => (hsp hf9).1 z9 h09 (Or.inl (by omega)))
                        refine lv_aload_n F.1 F.2.1 dX7_ringTold_65 rfl (lv_at hl 4 rfl) ?_
                        refine lv_iload_n F.1 F.2.1 dX7_ringTold_66 rfl (lv_at hl 3 rfl) ?_
                        refine g_calli (g_runV (As := [.int (iI v_81)]) (rest := []) (ci := 7) F hl.1 hH hS hz (c_X7_columns l g gh T I_189 R J_191 AI_203 AJ AR mo v_81 zv_81 hv hm hT (by omega)) (cwV 1 F.2.2.2.2.1 (good_up gT_X7_columns) rfl rfl rfl hdX7_columns ⟨Nat.le_of_ble_eq_true rfl, Nat.le_of_ble_eq_true rfl⟩) hm (by decide) rfl rfl rfl (Nat.le_of_ble_eq_true rfl) dX7_ringTold_67 ⟨Nat.zero_le _, Nat.zero_le _⟩) hS (fun v_214 I_208 R_209 J_210 AI_211 AJ_212 AR_213 H locs zv_214 hp_215 hH hS => ?_)
                        dsimp only at hp_215
                        obtain ⟨rfl, rfl, rfl, rfl, rfl, rfl, q_207⟩ := hp_215
                        have cvv_214 : v_214 = cF b nn nr nt cc h := q_207.trans ((mQ_c hQ rfl vlr_83.1 vlr_83.2.1).trans vlr_83.2.2)
                        refine lv_aload_n F.1 F.2.1 dX7_ringTold_70 rfl (lv_at hl 4 rfl) ?_
                        refine lv_iload_n F.1 F.2.1 dX7_ringTold_71 rfl (lv_at hl 2 rfl) ?_
                        refine g_calli (g_runV (As := [.int (iI v_106)]) (rest := [.int (iI v_214)]) (ci := 7) F hl.1 hH hS hz (c_X7_columns l g gh T I_189 R J_191 AI_203 AJ AR mo v_106 zv_106 hv hm hT (by omega)) (cwV 1 F.2.2.2.2.1 (good_up gT_X7_columns) rfl rfl rfl hdX7_columns ⟨Nat.le_of_ble_eq_true rfl, Nat.le_of_ble_eq_true rfl⟩) hm (by decide) rfl rfl rfl (Nat.le_of_ble_eq_true rfl) dX7_ringTold_72 ⟨Nat.zero_le _, Nat.zero_le _⟩) hS (fun v_223 I_217 R_218 J_219 AI_220 AJ_221 AR_222 H locs zv_223 hp_224 hH hS => ?_)
                        dsimp only at hp_224
                        obtain ⟨rfl, rfl, rfl, rfl, rfl, rfl, q_216⟩ := hp_224
                        have cvv_223 : v_223 = cF b nn nr nt cc (h + 2) := q_216.trans ((mQ_c hQ rfl vlr_108.1 vlr_108.2.1).trans vlr_108.2.2)
                        refine z_iadd F dX7_ringTold_75 ?_
                        refine z_norm (fun v_225 zv_225 ev_225 => ?_)
                        have bA := mQ_cb hQ rfl vlr_83.1 vlr_83.2.1
                        rw [vlr_83.2.2] at bA
                        have bB := mQ_cb hQ rfl vlr_108.1 vlr_108.2.1
                        rw [vlr_108.2.2] at bB
                        have hall : v_225 = cF b nn nr nt cc h + cF b nn nr nt cc (h + 2) := z_eq zv_225 ⟨by omega, by omega⟩ (ev_225.trans (congrArg iI (by omega)))
                        refine lv_istore (lv' := [(5, .int (iI v_225)), (4, .int (iI v_178)), (3, .int (iI v_143)), (2, .int (iI v_106)), (1, .int (iI v_81)), (0, .ref mo)]) F.1 F.2.1 dX7_ringTold_76 hl (by decide) rfl (fun ls hl => ?_)
                        refine lv_aload_n F.1 F.2.1 dX7_ringTold_78 rfl (lv_at hl 5 rfl) ?_
                        refine lv_iload F.1 F.2.1 dX7_ringTold_79 (lv_at hl 0 rfl) ?_
                        refine z_iconst F dX7_ringTold_81 ?_
                        refine g_calli (g_runV (As := [.int (iI v_225), .int (iI 1)]) (rest := []) (ci := 7) F hl.1 hH hS hz (c_X7_termsToldf l g gh T M b nn nr nt cc 0 (h + 8) I_189 R J_191 AI_203 AJ AR mo v_225 1 zv_225 ⟨by decide, by decide⟩ hv hm hT (by omega) (by omega) (by omega) (by omega) h65 hbM hr7 (by omega) hn9 (by omega) hQ) (cwV 2 F.2.2.2.2.1 (good_up gT_X7_termsTold) rfl rfl rfl hdX7_termsTold ⟨Nat.le_of_ble_eq_true rfl, Nat.le_of_ble_eq_true rfl⟩) hm (by decide) rfl rfl rfl (Nat.le_of_ble_eq_true rfl) dX7_ringTold_82 ⟨Nat.zero_le _, Nat.zero_le _⟩) hS (fun v_232 I_226 R_227 J_228 AI_229 AJ_230 AR_231 H locs zv_232 hp_233 hH hS => ?_)
                        dsimp only at hp_233
                        rw [show v_225 = cF b nn nr nt cc h + cF b nn nr nt cc (h + 2) by omega] at hp_233
                        obtain ⟨r_234, er_234⟩ : ∃ qQ : pR, qQ = thn (0, (h + 8), 0) (fun t _ => sTerms b nn (cF b nn nr nt cc h + cF b nn nr nt cc (h + 2)) 5 0 t) := ⟨_, rfl⟩
                        rw [← er_234] at hp_233
                        obtain ⟨rfl, rfl, rfl, hv, hT, pfq, q_235, q_236, htt, hQ, q_237⟩ := hp_233
                        have pf := qF_t pf pfq
                        have u_238_2 : (I_226 mo 2).toInt = (I mo 2).toInt := by rw [pf 2 (by decide) (by decide) (by decide) (by decide) (by decide)]
                        have u_238_5 : (I_226 mo 5).toInt = (I mo 5).toInt := by rw [pf 5 (by decide) (by decide) (by decide) (by decide) (by decide)]
                        have u_238_14 : (I_226 mo 14).toInt = (I mo 14).toInt := by rw [pf 14 (by decide) (by decide) (by decide) (by decide) (by decide)]
                        have u_238_16 : (I_226 mo 16).toInt = (I mo 16).toInt := by rw [pf 16 (by decide) (by decide) (by decide) (by decide) (by decide)]
                        have u_238_18 : (I_226 mo 18).toInt = (I mo 18).toInt := by rw [pf 18 (by decide) (by decide) (by decide) (by decide) (by decide)]
                        have er_234 : r_234 = sTerms b nn (cF b nn nr nt cc h + cF b nn nr nt cc (h + 2)) 5 0 (h + 8) := er_234
                        by_cases pr_234 : r_234.1 = 0
                        · have hQ := mQ_ok hQ pr_234
                          have vlr_234_7 := q_237 pr_234
                          replace htt := hid htt
                          refine lv_istore (lv' := [(6, .int (iI v_232)), (5, .int (iI v_225)), (4, .int (iI v_178)), (3, .int (iI v_143)), (2, .int (iI v_106)), (1, .int (iI v_81)), (0, .ref mo)]) F.1 F.2.1 dX7_ringTold_85 hl (by decide) rfl (fun ls hl => ?_)
                          obtain ⟨f9, ef9⟩ : ∃ q, q = (I_226 mo 24).toInt := ⟨_, rfl⟩
                          refine lv_aload_n F.1 F.2.1 dX7_ringTold_87 rfl (lv_at hl 6 rfl) ?_
                          refine z_bipush F dX7_ringTold_88 (by decide) ?_
                          have b_239 := mJ hv hm
                          unfold mNum1 at b_239
                          refine g_calli (g_runV (As := [.int (iI 59)]) (rest := []) (ci := 7) F hl.1 hH hS hz (c_X7_isSignf l g gh T b nn nr nt cc 0 r_234.2.1 I_226 R J_228 AI_229 AJ AR mo 59 ⟨by decide, by decide⟩ hv hm hT h65 hbM hr7 (by omega) hn9 (by omega) (by omega) hQ) (cwV 1 F.2.2.2.2.1 (good_up gT_X7_isSign) rfl rfl rfl hdX7_isSign ⟨Nat.le_of_ble_eq_true rfl, Nat.le_of_ble_eq_true rfl⟩) hm (by decide) rfl rfl rfl (Nat.le_of_ble_eq_true rfl) dX7_ringTold_90 ⟨Nat.zero_le _, Nat.zero_le _⟩) hS (fun v_246 I_240 R_241 J_242 AI_243 AJ_244 AR_245 H locs zv_246 hp_247 hH hS => ?_)
                          dsimp only at hp_247
                          obtain ⟨rfl, rfl, rfl, rfl, rfl, rfl, q_248, q_249⟩ := hp_247
                          replace q_248 := q_248.1
                          refine z_if_eq (tgt := 117) F dX7_ringTold_93 (by decide) zv_246 (fun c_250 => ?_) (fun c_250 => ?_)
                          · have t_251 := tIz_n q_249 (by omega)
                            refine lv_aload_n F.1 F.2.1 dX7_ringTold_117 rfl (lv_at hl 6 rfl) ?_
                            refine z_bipush F dX7_ringTold_118 (by decide) ?_
                            refine lv_aload_n F.1 F.2.1 dX7_ringTold_120 rfl (lv_at hl 6 rfl) ?_
                            refine lv_iload_n F.1 F.2.1 dX7_ringTold_121 rfl (lv_at hl 5 rfl) ?_
                            refine g_calli (g_runV (As := [.int (iI v_81)]) (rest := [.int (iI 8), .ref mo]) (ci := 7) F hl.1 hH hS hz (c_X7_columns l g gh T I_226 R J_228 AI_229 AJ AR mo v_81 zv_81 hv hm hT (by omega)) (cwV 1 F.2.2.2.2.1 (good_up gT_X7_columns) rfl rfl rfl hdX7_columns ⟨Nat.le_of_ble_eq_true rfl, Nat.le_of_ble_eq_true rfl⟩) hm (by decide) rfl rfl rfl (Nat.le_of_ble_eq_true rfl) dX7_ringTold_122 ⟨Nat.zero_le _, Nat.zero_le _⟩) hS (fun v_259 I_253 R_254 J_255 AI_256 AJ_257 AR_258 H locs zv_259 hp_260 hH hS => ?_)
                            dsimp only at hp_260
                            obtain ⟨rfl, rfl, rfl, rfl, rfl, rfl, q_252⟩ := hp_260
                            have cvv_259 : v_259 = cF b nn nr nt cc h := q_252.trans ((mQ_c hQ rfl vlr_83.1 vlr_83.2.1).trans vlr_83.2.2)
                            have hcol : Hid ((I_226 mo 24).toInt = 0 → 1 ≤ v_259 ∧ v_259 ≤ 4) := fun h => by have q9 := mCol hv hm (z := v_81) (by omega) (by omega); omega
                            refine lv_iload_n F.1 F.2.1 dX7_ringTold_125 rfl (lv_at hl 5 rfl) ?_
                            refine lv_iload_n F.1 F.2.1 dX7_ringTold_126 rfl (lv_at hl 4 rfl) ?_
                            refine lv_iload F.1 F.2.1 dX7_ringTold_127 (lv_at hl 0 rfl) ?_
                            refine g_callv (g_runV (As := [.int (iI 8), .int (iI v_259), .int (iI v_81), .int (iI v_106), .int (iI v_232)]) (rest := []) (ci := 7) F hl.1 hH hS hz (c_X7_header l g gh T M I_226 R J_228 AI_229 AJ AR mo 8 v_259 v_81 v_106 v_232 ⟨by decide, by decide⟩ zv_259 zv_81 zv_106 zv_232 hv hm hT (by omega) (by omega)) (cwV 5 F.2.2.2.2.1 (good_up gT_X7_header) rfl rfl rfl hdX7_header ⟨Nat.le_of_ble_eq_true rfl, Nat.le_of_ble_eq_true rfl⟩) hm (by decide) rfl rfl rfl (Nat.le_of_ble_eq_true rfl) dX7_ringTold_129 ⟨Nat.zero_le _, Nat.zero_le _⟩) hS (fun I_261 R_262 J_263 AI_264 AJ_265 AR_266 H locs hp_267 hH hS => ?_)
                            dsimp only at hp_267
                            obtain ⟨rfl, rfl, rfl, rfl, rfl, hv, hT, hhd⟩ := hp_267
                            replace hhd := hid hhd
                            have hQ : mQ gh I_226 J_228 AI_264 AJ mo b nn nr nt cc 0 r_234.2.1 := mQ_a hQ (fun hf9 z9 h09 h19 => (hhd hf9).1 z9 h09 (Or.inl (by omega)))
                            have hP9 : sPair b nn (cF b nn nr nt cc h) (cF b nn nr nt cc (h + 2)) 0 1 (h + 4) = (0, h + 7, pV b nn (h + 6)) := sPair_ok pr_145.1 (by decide) pr_158 pr_180.1
                            have hS9 : sRng b nn nr nt cc h = (0, r_234.2.1, rX (cF b nn nr nt cc h) (cF b nn nr nt cc (h + 2)) r_234.2.2) := by unfold sRng; exact thn_t sr_83 rfl (thn_t sr_96 rfl (thn_t sr_108 rfl (thn_t sr_121 rfl (thn_t hP9 rfl (thn_t sr_196 rfl (thn_y er_234 pr_234 rfl))))))
                            have hfin : thn (f, h, 0) (fun t _ => sRngM b nn nr nt cc t) = (0, r_234.2.1, rX (cF b nn nr nt cc h) (cF b nn nr nt cc (h + 2)) r_234.2.2) := (thn_k q0).trans (by show sRngM b nn nr nt cc h = _; unfold sRngM; exact thn_t hS9 rfl (show sEnd b nn (rX (cF b nn nr nt cc h) (cF b nn nr nt cc (h + 2)) r_234.2.2) (r_234.2.1) = _ from ite_n (fun e9 => by first | exact absurd e9.1 (by omega) | exact absurd e9.2 (rX_n (by omega) (by omega))) rfl))
                            exact g_vret F hr hlk hH hS hz ⟨rfl, rfl, rfl, hv, hT, pf, by first | (dsimp only; omega) | omega | rfl, by (try dsimp only); intro hf ht hn; have e59 := (mQ_s hQ rfl (c := 59) (by decide)).mp ⟨ht, hn⟩; have q9 := htt (by omega); have qs := hsp (by omega); have qc := hcol (by omega); have e0 := q9.2.2.2 (40 * M + 6 + 4 * 0 + 0) (by omega) (by omega); have e1 := q9.2.2.2 (40 * M + 6 + 4 * 0 + 1) (by omega) (by omega); have e2 := qs.2.1; have e3 := qs.2.2.1; unfold mP at e2 e3; exact row_mk (by omega) (hhd (by omega)) (by omega) (by omega) (by omega) (by omega) (fun h => absurd h (by omega)) (fun h => absurd h (by omega)) (fun h => absurd h (by omega)) (fun h => absurd h (by omega)) (fun h => absurd h (by omega)) (fun h => absurd h (by omega)) (fun _ => ⟨by omega, by omega, by unfold mP; omega, by unfold mP; omega, by unfold mP; omega, by unfold mP; omega, q9.2.2.1, by omega⟩), by (try dsimp only); intro hf; exact (hhd (by omega)).2.1, by (try dsimp only); rw [hfin]; exact hQ, by (try dsimp only); rw [hfin]; first | exact pIc_k (by (try dsimp only); omega) | (have q9 := (hhd (mQ_0 hQ rfl)).2.2.1; rw [show M = (nr : Int) by omega] at q9; (try dsimp only); exact pIc_y (by rw [rX_e (by omega)]; omega))⟩ dX7_ringTold_132
                          · have t_268 := tIz_y q_249 (by omega)
                            refine lv_iload F.1 F.2.1 dX7_ringTold_96 (lv_at hl 1 rfl) ?_
                            refine z_iconst F dX7_ringTold_98 ?_
                            refine z_icmp_gt (tgt := 112) F dX7_ringTold_99 (by decide) zv_225 ⟨by decide, by decide⟩ (fun c_269 => ?_) (fun c_269 => ?_)
                            · refine lv_aload_n F.1 F.2.1 dX7_ringTold_112 rfl (lv_at hl 6 rfl) ?_
                              refine z_iconst F dX7_ringTold_113 ?_
                              refine g_callv (g_runV (As := [.int (iI 5)]) (rest := []) (ci := 7) F hl.1 hH hS hz (c_X7_wrongf l g gh T b nn nr nt cc 0 r_234.2.1 I_226 R J_228 AI_229 AJ AR mo 5 ⟨by decide, by decide⟩ hv hm hT (by omega) h65 hbM hr7 (by omega) hn9 (by omega) hQ) (cwV 1 F.2.2.2.2.1 (good_up gT_X7_wrong) rfl rfl rfl hdX7_wrong ⟨Nat.le_of_ble_eq_true rfl, Nat.le_of_ble_eq_true rfl⟩) hm (by decide) rfl rfl rfl (Nat.le_of_ble_eq_true rfl) dX7_ringTold_114 ⟨Nat.zero_le _, Nat.zero_le _⟩) hS (fun I_270 R_271 J_272 AI_273 AJ_274 AR_275 H locs hp_276 hH hS => ?_)
                              dsimp only at hp_276
                              obtain ⟨r_277, er_277⟩ : ∃ qQ : pR, qQ = thn (0, r_234.2.1, 0) (fun t _ => (5, t, 0)) := ⟨_, rfl⟩
                              rw [← er_277] at hp_276
                              obtain ⟨rfl, rfl, rfl, rfl, rfl, hv, pfq, q_278, hQ⟩ := hp_276
                              have pf := qF_t pf pfq
                              have u_279_2 : (I_270 mo 2).toInt = (I mo 2).toInt := by rw [pf 2 (by decide) (by decide) (by decide) (by decide) (by decide)]
                              have u_279_5 : (I_270 mo 5).toInt = (I mo 5).toInt := by rw [pf 5 (by decide) (by decide) (by decide) (by decide) (by decide)]
                              have u_279_14 : (I_270 mo 14).toInt = (I mo 14).toInt := by rw [pf 14 (by decide) (by decide) (by decide) (by decide) (by decide)]
                              have u_279_16 : (I_270 mo 16).toInt = (I mo 16).toInt := by rw [pf 16 (by decide) (by decide) (by decide) (by decide) (by decide)]
                              have u_279_18 : (I_270 mo 18).toInt = (I mo 18).toInt := by rw [pf 18 (by decide) (by decide) (by decide) (by decide) (by decide)]
                              have er_277 : r_277 = (5, r_234.2.1, 0) := er_277
                              have hQ : mQ gh I_270 J_228 AI_229 AJ mo b nn nr nt cc 5 r_234.2.1 := by rw [er_277] at hQ; exact hQ
                              have q9_r_277 : (5 : Int) ≠ 0 := by omega
                              have g9_r_277 := mQ_f hQ q9_r_277
                              refine lv_aload_n F.1 F.2.1 dX7_ringTold_117 rfl (lv_at hl 6 rfl) ?_
                              refine z_bipush F dX7_ringTold_118 (by decide) ?_
                              refine lv_aload_n F.1 F.2.1 dX7_ringTold_120 rfl (lv_at hl 6 rfl) ?_
                              refine lv_iload_n F.1 F.2.1 dX7_ringTold_121 rfl (lv_at hl 5 rfl) ?_
                              have b_281 := mJ hv hm
                              unfold mNum1 at b_281
                              refine g_calli (g_runV (As := [.int (iI v_81)]) (rest := [.int (iI 8), .ref mo]) (ci := 7) F hl.1 hH hS hz (c_X7_columns l g gh T I_270 R J_228 AI_229 AJ AR mo v_81 zv_81 hv hm hT (by omega)) (cwV 1 F.2.2.2.2.1 (good_up gT_X7_columns) rfl rfl rfl hdX7_columns ⟨Nat.le_of_ble_eq_true rfl, Nat.le_of_ble_eq_true rfl⟩) hm (by decide) rfl rfl rfl (Nat.le_of_ble_eq_true rfl) dX7_ringTold_122 ⟨Nat.zero_le _, Nat.zero_le _⟩) hS (fun v_288 I_282 R_283 J_284 AI_285 AJ_286 AR_287 H locs zv_288 hp_289 hH hS => ?_)
                              dsimp only at hp_289
                              obtain ⟨rfl, rfl, rfl, rfl, rfl, rfl, q_280⟩ := hp_289
                              have hcol : Hid ((I_270 mo 24).toInt = 0 → 1 ≤ v_288 ∧ v_288 ≤ 4) := fun h => by have q9 := mCol hv hm (z := v_81) (by omega) (by omega); omega
                              refine lv_iload_n F.1 F.2.1 dX7_ringTold_125 rfl (lv_at hl 5 rfl) ?_
                              refine lv_iload_n F.1 F.2.1 dX7_ringTold_126 rfl (lv_at hl 4 rfl) ?_
                              refine lv_iload F.1 F.2.1 dX7_ringTold_127 (lv_at hl 0 rfl) ?_
                              refine g_callv (g_runV (As := [.int (iI 8), .int (iI v_288), .int (iI v_81), .int (iI v_106), .int (iI v_232)]) (rest := []) (ci := 7) F hl.1 hH hS hz (c_X7_header l g gh T M I_270 R J_228 AI_229 AJ AR mo 8 v_288 v_81 v_106 v_232 ⟨by decide, by decide⟩ zv_288 zv_81 zv_106 zv_232 hv hm hT (by omega) (by omega)) (cwV 5 F.2.2.2.2.1 (good_up gT_X7_header) rfl rfl rfl hdX7_header ⟨Nat.le_of_ble_eq_true rfl, Nat.le_of_ble_eq_true rfl⟩) hm (by decide) rfl rfl rfl (Nat.le_of_ble_eq_true rfl) dX7_ringTold_129 ⟨Nat.zero_le _, Nat.zero_le _⟩) hS (fun I_290 R_291 J_292 AI_293 AJ_294 AR_295 H locs hp_296 hH hS => ?_)
                              dsimp only at hp_296
                              obtain ⟨rfl, rfl, rfl, rfl, rfl, hv, hT, hhd⟩ := hp_296
                              replace hhd := hid hhd
                              have hQ : mQ gh I_270 J_228 AI_293 AJ mo b nn nr nt cc 5 r_234.2.1 := mQ_bad hQ (by omega) rfl
                              have hP9 : sPair b nn (cF b nn nr nt cc h) (cF b nn nr nt cc (h + 2)) 0 1 (h + 4) = (0, h + 7, pV b nn (h + 6)) := sPair_ok pr_145.1 (by decide) pr_158 pr_180.1
                              have hS9 : sRng b nn nr nt cc h = (0, r_234.2.1, rX (cF b nn nr nt cc h) (cF b nn nr nt cc (h + 2)) r_234.2.2) := by unfold sRng; exact thn_t sr_83 rfl (thn_t sr_96 rfl (thn_t sr_108 rfl (thn_t sr_121 rfl (thn_t hP9 rfl (thn_t sr_196 rfl (thn_y er_234 pr_234 rfl))))))
                              have hfin : thn (f, h, 0) (fun t _ => sRngM b nn nr nt cc t) = (5, r_234.2.1, 0) := (thn_k q0).trans (by show sRngM b nn nr nt cc h = _; unfold sRngM; exact thn_t hS9 rfl (show sEnd b nn (rX (cF b nn nr nt cc h) (cF b nn nr nt cc (h + 2)) r_234.2.2) (r_234.2.1) = _ from ite_y ⟨by omega, rX_y (by omega)⟩ rfl))
                              exact g_vret F hr hlk hH hS hz ⟨rfl, rfl, rfl, hv, hT, pf, by first | (dsimp only; omega) | omega | rfl, by (try dsimp only); exact (fun hf => absurd hf (by omega)), by (try dsimp only); exact (fun hf => absurd hf (by omega)), by (try dsimp only); rw [hfin]; exact hQ, by (try dsimp only); rw [hfin]; exact pIc_n (by omega)⟩ dX7_ringTold_132
                            · refine lv_iload F.1 F.2.1 dX7_ringTold_102 (lv_at hl 0 rfl) ?_
                              refine lv_aload_n F.1 F.2.1 dX7_ringTold_104 rfl (lv_at hl 6 rfl) ?_
                              refine lv_iload_n F.1 F.2.1 dX7_ringTold_105 rfl (lv_at hl 5 rfl) ?_
                              refine g_calli (g_runV (As := [.int (iI v_81)]) (rest := [.int (iI v_232)]) (ci := 7) F hl.1 hH hS hz (c_X7_columns l g gh T I_226 R J_228 AI_229 AJ AR mo v_81 zv_81 hv hm hT (by omega)) (cwV 1 F.2.2.2.2.1 (good_up gT_X7_columns) rfl rfl rfl hdX7_columns ⟨Nat.le_of_ble_eq_true rfl, Nat.le_of_ble_eq_true rfl⟩) hm (by decide) rfl rfl rfl (Nat.le_of_ble_eq_true rfl) dX7_ringTold_106 ⟨Nat.zero_le _, Nat.zero_le _⟩) hS (fun v_304 I_298 R_299 J_300 AI_301 AJ_302 AR_303 H locs zv_304 hp_305 hH hS => ?_)
                              dsimp only at hp_305
                              obtain ⟨rfl, rfl, rfl, rfl, rfl, rfl, q_297⟩ := hp_305
                              have cvv_304 : v_304 = cF b nn nr nt cc h := q_297.trans ((mQ_c hQ rfl vlr_83.1 vlr_83.2.1).trans vlr_83.2.2)
                              refine z_icmp_eq (tgt := 117) F dX7_ringTold_109 (by decide) zv_232 zv_304 (fun c_306 => ?_) (fun c_306 => ?_)
                              · refine lv_aload_n F.1 F.2.1 dX7_ringTold_117 rfl (lv_at hl 6 rfl) ?_
                                refine z_bipush F dX7_ringTold_118 (by decide) ?_
                                refine lv_aload_n F.1 F.2.1 dX7_ringTold_120 rfl (lv_at hl 6 rfl) ?_
                                refine lv_iload_n F.1 F.2.1 dX7_ringTold_121 rfl (lv_at hl 5 rfl) ?_
                                refine g_calli (g_runV (As := [.int (iI v_81)]) (rest := [.int (iI 8), .ref mo]) (ci := 7) F hl.1 hH hS hz (c_X7_columns l g gh T I_226 R J_228 AI_229 AJ AR mo v_81 zv_81 hv hm hT (by omega)) (cwV 1 F.2.2.2.2.1 (good_up gT_X7_columns) rfl rfl rfl hdX7_columns ⟨Nat.le_of_ble_eq_true rfl, Nat.le_of_ble_eq_true rfl⟩) hm (by decide) rfl rfl rfl (Nat.le_of_ble_eq_true rfl) dX7_ringTold_122 ⟨Nat.zero_le _, Nat.zero_le _⟩) hS (fun v_314 I_308 R_309 J_310 AI_311 AJ_312 AR_313 H locs zv_314 hp_315 hH hS => ?_)
                                dsimp only at hp_315
                                obtain ⟨rfl, rfl, rfl, rfl, rfl, rfl, q_307⟩ := hp_315
                                have cvv_314 : v_314 = cF b nn nr nt cc h := q_307.trans ((mQ_c hQ rfl vlr_83.1 vlr_83.2.1).trans vlr_83.2.2)
                                have hcol : Hid ((I_226 mo 24).toInt = 0 → 1 ≤ v_314 ∧ v_314 ≤ 4) := fun h => by have q9 := mCol hv hm (z := v_81) (by omega) (by omega); omega
                                refine lv_iload_n F.1 F.2.1 dX7_ringTold_125 rfl (lv_at hl 5 rfl) ?_
                                refine lv_iload_n F.1 F.2.1 dX7_ringTold_126 rfl (lv_at hl 4 rfl) ?_
                                refine lv_iload F.1 F.2.1 dX7_ringTold_127 (lv_at hl 0 rfl) ?_
                                refine g_callv (g_runV (As := [.int (iI 8), .int (iI v_314), .int (iI v_81), .int (iI v_106), .int (iI v_232)]) (rest := []) (ci := 7) F hl.1 hH hS hz (c_X7_header l g gh T M I_226 R J_228 AI_229 AJ AR mo 8 v_314 v_81 v_106 v_232 ⟨by decide, by decide⟩ zv_314 zv_81 zv_106 zv_232 hv hm hT (by omega) (by omega)) (cwV 5 F.2.2.2.2.1 (good_up gT_X7_header) rfl rfl rfl hdX7_header ⟨Nat.le_of_ble_eq_true rfl, Nat.le_of_ble_eq_true rfl⟩) hm (by decide) rfl rfl rfl (Nat.le_of_ble_eq_true rfl) dX7_ringTold_129 ⟨Nat.zero_le _, Nat.zero_le _⟩) hS (fun I_316 R_317 J_318 AI_319 AJ_320 AR_321 H locs hp_322 hH hS => ?_)
                                dsimp only at hp_322
                                obtain ⟨rfl, rfl, rfl, rfl, rfl, hv, hT, hhd⟩ := hp_322
                                replace hhd := hid hhd
                                have hQ : mQ gh I_226 J_228 AI_319 AJ mo b nn nr nt cc 0 r_234.2.1 := mQ_a hQ (fun hf9 z9 h09 h19 => (hhd hf9).1 z9 h09 (Or.inl (by omega)))
                                have hP9 : sPair b nn (cF b nn nr nt cc h) (cF b nn nr nt cc (h + 2)) 0 1 (h + 4) = (0, h + 7, pV b nn (h + 6)) := sPair_ok pr_145.1 (by decide) pr_158 pr_180.1
                                have hS9 : sRng b nn nr nt cc h = (0, r_234.2.1, rX (cF b nn nr nt cc h) (cF b nn nr nt cc (h + 2)) r_234.2.2) := by unfold sRng; exact thn_t sr_83 rfl (thn_t sr_96 rfl (thn_t sr_108 rfl (thn_t sr_121 rfl (thn_t hP9 rfl (thn_t sr_196 rfl (thn_y er_234 pr_234 rfl))))))
                                have hfin : thn (f, h, 0) (fun t _ => sRngM b nn nr nt cc t) = (0, r_234.2.1, rX (cF b nn nr nt cc h) (cF b nn nr nt cc (h + 2)) r_234.2.2) := (thn_k q0).trans (by show sRngM b nn nr nt cc h = _; unfold sRngM; exact thn_t hS9 rfl (show sEnd b nn (rX (cF b nn nr nt cc h) (cF b nn nr nt cc (h + 2)) r_234.2.2) (r_234.2.1) = _ from ite_n (fun e9 => by first | exact absurd e9.1 (by omega) | exact absurd e9.2 (rX_n (by omega) (by omega))) rfl))
                                exact g_vret F hr hlk hH hS hz ⟨rfl, rfl, rfl, hv, hT, pf, by first | (dsimp only; omega) | omega | rfl, by (try dsimp only); intro hf ht hn; have e59 := (mQ_s hQ rfl (c := 59) (by decide)).mp ⟨ht, hn⟩; have q9 := htt (by omega); have qs := hsp (by omega); have qc := hcol (by omega); have e0 := q9.2.2.2 (40 * M + 6 + 4 * 0 + 0) (by omega) (by omega); have e1 := q9.2.2.2 (40 * M + 6 + 4 * 0 + 1) (by omega) (by omega); have e2 := qs.2.1; have e3 := qs.2.2.1; unfold mP at e2 e3; exact row_mk (by omega) (hhd (by omega)) (by omega) (by omega) (by omega) (by omega) (fun h => absurd h (by omega)) (fun h => absurd h (by omega)) (fun h => absurd h (by omega)) (fun h => absurd h (by omega)) (fun h => absurd h (by omega)) (fun h => absurd h (by omega)) (fun _ => ⟨by omega, by omega, by unfold mP; omega, by unfold mP; omega, by unfold mP; omega, by unfold mP; omega, q9.2.2.1, by omega⟩), by (try dsimp only); intro hf; exact (hhd (by omega)).2.1, by (try dsimp only); rw [hfin]; exact hQ, by (try dsimp only); rw [hfin]; first | exact pIc_k (by (try dsimp only); omega) | (have q9 := (hhd (mQ_0 hQ rfl)).2.2.1; rw [show M = (nr : Int) by omega] at q9; (try dsimp only); exact pIc_y (by rw [rX_e (by omega)]; omega))⟩ dX7_ringTold_132
                              · refine lv_aload_n F.1 F.2.1 dX7_ringTold_112 rfl (lv_at hl 6 rfl) ?_
                                refine z_iconst F dX7_ringTold_113 ?_
                                refine g_callv (g_runV (As := [.int (iI 5)]) (rest := []) (ci := 7) F hl.1 hH hS hz (c_X7_wrongf l g gh T b nn nr nt cc 0 r_234.2.1 I_226 R J_228 AI_229 AJ AR mo 5 ⟨by decide, by decide⟩ hv hm hT (by omega) h65 hbM hr7 (by omega) hn9 (by omega) hQ) (cwV 1 F.2.2.2.2.1 (good_up gT_X7_wrong) rfl rfl rfl hdX7_wrong ⟨Nat.le_of_ble_eq_true rfl, Nat.le_of_ble_eq_true rfl⟩) hm (by decide) rfl rfl rfl (Nat.le_of_ble_eq_true rfl) dX7_ringTold_114 ⟨Nat.zero_le _, Nat.zero_le _⟩) hS (fun I_323 R_324 J_325 AI_326 AJ_327 AR_328 H locs hp_329 hH hS => ?_)
                                dsimp only at hp_329
                                obtain ⟨r_330, er_330⟩ : ∃ qQ : pR, qQ = thn (0, r_234.2.1, 0) (fun t _ => (5, t, 0)) := ⟨_, rfl⟩
                                rw [← er_330] at hp_329
                                obtain ⟨rfl, rfl, rfl, rfl, rfl, hv, pfq, q_331, hQ⟩ := hp_329
                                have pf := qF_t pf pfq
                                have u_332_2 : (I_323 mo 2).toInt = (I mo 2).toInt := by rw [pf 2 (by decide) (by decide) (by decide) (by decide) (by decide)]
                                have u_332_5 : (I_323 mo 5).toInt = (I mo 5).toInt := by rw [pf 5 (by decide) (by decide) (by decide) (by decide) (by decide)]
                                have u_332_14 : (I_323 mo 14).toInt = (I mo 14).toInt := by rw [pf 14 (by decide) (by decide) (by decide) (by decide) (by decide)]
                                have u_332_16 : (I_323 mo 16).toInt = (I mo 16).toInt := by rw [pf 16 (by decide) (by decide) (by decide) (by decide) (by decide)]
                                have u_332_18 : (I_323 mo 18).toInt = (I mo 18).toInt := by rw [pf 18 (by decide) (by decide) (by decide) (by decide) (by decide)]
                                have er_330 : r_330 = (5, r_234.2.1, 0) := er_330
                                have hQ : mQ gh I_323 J_228 AI_229 AJ mo b nn nr nt cc 5 r_234.2.1 := by rw [er_330] at hQ; exact hQ
                                have q9_r_330 : (5 : Int) ≠ 0 := by omega
                                have g9_r_330 := mQ_f hQ q9_r_330
                                refine lv_aload_n F.1 F.2.1 dX7_ringTold_117 rfl (lv_at hl 6 rfl) ?_
                                refine z_bipush F dX7_ringTold_118 (by decide) ?_
                                refine lv_aload_n F.1 F.2.1 dX7_ringTold_120 rfl (lv_at hl 6 rfl) ?_
                                refine lv_iload_n F.1 F.2.1 dX7_ringTold_121 rfl (lv_at hl 5 rfl) ?_
                                have b_334 := mJ hv hm
                                unfold mNum1 at b_334
                                refine g_calli (g_runV (As := [.int (iI v_81)]) (rest := [.int (iI 8), .ref mo]) (ci := 7) F hl.1 hH hS hz (c_X7_columns l g gh T I_323 R J_228 AI_229 AJ AR mo v_81 zv_81 hv hm hT (by omega)) (cwV 1 F.2.2.2.2.1 (good_up gT_X7_columns) rfl rfl rfl hdX7_columns ⟨Nat.le_of_ble_eq_true rfl, Nat.le_of_ble_eq_true rfl⟩) hm (by decide) rfl rfl rfl (Nat.le_of_ble_eq_true rfl) dX7_ringTold_122 ⟨Nat.zero_le _, Nat.zero_le _⟩) hS (fun v_341 I_335 R_336 J_337 AI_338 AJ_339 AR_340 H locs zv_341 hp_342 hH hS => ?_)
                                dsimp only at hp_342
                                obtain ⟨rfl, rfl, rfl, rfl, rfl, rfl, q_333⟩ := hp_342
                                have hcol : Hid ((I_323 mo 24).toInt = 0 → 1 ≤ v_341 ∧ v_341 ≤ 4) := fun h => by have q9 := mCol hv hm (z := v_81) (by omega) (by omega); omega
                                refine lv_iload_n F.1 F.2.1 dX7_ringTold_125 rfl (lv_at hl 5 rfl) ?_
                                refine lv_iload_n F.1 F.2.1 dX7_ringTold_126 rfl (lv_at hl 4 rfl) ?_
                                refine lv_iload F.1 F.2.1 dX7_ringTold_127 (lv_at hl 0 rfl) ?_
                                refine g_callv (g_runV (As := [.int (iI 8), .int (iI v_341), .int (iI v_81), .int (iI v_106), .int (iI v_232)]) (rest := []) (ci := 7) F hl.1 hH hS hz (c_X7_header l g gh T M I_323 R J_228 AI_229 AJ AR mo 8 v_341 v_81 v_106 v_232 ⟨by decide, by decide⟩ zv_341 zv_81 zv_106 zv_232 hv hm hT (by omega) (by omega)) (cwV 5 F.2.2.2.2.1 (good_up gT_X7_header) rfl rfl rfl hdX7_header ⟨Nat.le_of_ble_eq_true rfl, Nat.le_of_ble_eq_true rfl⟩) hm (by decide) rfl rfl rfl (Nat.le_of_ble_eq_true rfl) dX7_ringTold_129 ⟨Nat.zero_le _, Nat.zero_le _⟩) hS (fun I_343 R_344 J_345 AI_346 AJ_347 AR_348 H locs hp_349 hH hS => ?_)
                                dsimp only at hp_349
                                obtain ⟨rfl, rfl, rfl, rfl, rfl, hv, hT, hhd⟩ := hp_349
                                replace hhd := hid hhd
                                have hQ : mQ gh I_323 J_228 AI_346 AJ mo b nn nr nt cc 5 r_234.2.1 := mQ_bad hQ (by omega) rfl
                                have hP9 : sPair b nn (cF b nn nr nt cc h) (cF b nn nr nt cc (h + 2)) 0 1 (h + 4) = (0, h + 7, pV b nn (h + 6)) := sPair_ok pr_145.1 (by decide) pr_158 pr_180.1
                                have hS9 : sRng b nn nr nt cc h = (0, r_234.2.1, rX (cF b nn nr nt cc h) (cF b nn nr nt cc (h + 2)) r_234.2.2) := by unfold sRng; exact thn_t sr_83 rfl (thn_t sr_96 rfl (thn_t sr_108 rfl (thn_t sr_121 rfl (thn_t hP9 rfl (thn_t sr_196 rfl (thn_y er_234 pr_234 rfl))))))
                                have hfin : thn (f, h, 0) (fun t _ => sRngM b nn nr nt cc t) = (5, r_234.2.1, 0) := (thn_k q0).trans (by show sRngM b nn nr nt cc h = _; unfold sRngM; exact thn_t hS9 rfl (show sEnd b nn (rX (cF b nn nr nt cc h) (cF b nn nr nt cc (h + 2)) r_234.2.2) (r_234.2.1) = _ from ite_y ⟨by omega, rX_y (by omega)⟩ rfl))
                                exact g_vret F hr hlk hH hS hz ⟨rfl, rfl, rfl, hv, hT, pf, by first | (dsimp only; omega) | omega | rfl, by (try dsimp only); exact (fun hf => absurd hf (by omega)), by (try dsimp only); exact (fun hf => absurd hf (by omega)), by (try dsimp only); rw [hfin]; exact hQ, by (try dsimp only); rw [hfin]; exact pIc_n (by omega)⟩ dX7_ringTold_132
                        · have g9r_234 := mQ_f hQ pr_234
                          have g8r_234 := mQ_p hQ
                          replace htt := hid htt
                          refine lv_istore (lv' := [(6, .int (iI v_232)), (5, .int (iI v_225)), (4, .int (iI v_178)), (3, .int (iI v_143)), (2, .int (iI v_106)), (1, .int (iI v_81)), (0, .ref mo)]) F.1 F.2.1 dX7_ringTold_85 hl (by decide) rfl (fun ls hl => ?_)
                          obtain ⟨f9, ef9⟩ : ∃ q, q = (I_226 mo 24).toInt := ⟨_, rfl⟩
                          refine lv_aload_n F.1 F.2.1 dX7_ringTold_87 rfl (lv_at hl 6 rfl) ?_
                          refine z_bipush F dX7_ringTold_88 (by decide) ?_
                          have b_350 := mJ hv hm
                          unfold mNum1 at b_350
                          refine g_calli (g_runV (As := [.int (iI 59)]) (rest := []) (ci := 7) F hl.1 hH hS hz (c_X7_isSignf l g gh T b nn nr nt cc r_234.1 r_234.2.1 I_226 R J_228 AI_229 AJ AR mo 59 ⟨by decide, by decide⟩ hv hm hT h65 hbM hr7 (by omega) hn9 (by omega) (by omega) hQ) (cwV 1 F.2.2.2.2.1 (good_up gT_X7_isSign) rfl rfl rfl hdX7_isSign ⟨Nat.le_of_ble_eq_true rfl, Nat.le_of_ble_eq_true rfl⟩) hm (by decide) rfl rfl rfl (Nat.le_of_ble_eq_true rfl) dX7_ringTold_90 ⟨Nat.zero_le _, Nat.zero_le _⟩) hS (fun v_357 I_351 R_352 J_353 AI_354 AJ_355 AR_356 H locs zv_357 hp_358 hH hS => ?_)
                          dsimp only at hp_358
                          obtain ⟨rfl, rfl, rfl, rfl, rfl, rfl, q_359, q_360⟩ := hp_358
                          replace q_359 := q_359.1
                          refine z_if_eq (tgt := 117) F dX7_ringTold_93 (by decide) zv_357 (fun c_361 => ?_) (fun c_361 => ?_)
                          · have t_362 := tIz_0 q_360 (by omega)
                            refine lv_aload_n F.1 F.2.1 dX7_ringTold_117 rfl (lv_at hl 6 rfl) ?_
                            refine z_bipush F dX7_ringTold_118 (by decide) ?_
                            refine lv_aload_n F.1 F.2.1 dX7_ringTold_120 rfl (lv_at hl 6 rfl) ?_
                            refine lv_iload_n F.1 F.2.1 dX7_ringTold_121 rfl (lv_at hl 5 rfl) ?_
                            refine g_calli (g_runV (As := [.int (iI v_81)]) (rest := [.int (iI 8), .ref mo]) (ci := 7) F hl.1 hH hS hz (c_X7_columns l g gh T I_226 R J_228 AI_229 AJ AR mo v_81 zv_81 hv hm hT (by omega)) (cwV 1 F.2.2.2.2.1 (good_up gT_X7_columns) rfl rfl rfl hdX7_columns ⟨Nat.le_of_ble_eq_true rfl, Nat.le_of_ble_eq_true rfl⟩) hm (by decide) rfl rfl rfl (Nat.le_of_ble_eq_true rfl) dX7_ringTold_122 ⟨Nat.zero_le _, Nat.zero_le _⟩) hS (fun v_370 I_364 R_365 J_366 AI_367 AJ_368 AR_369 H locs zv_370 hp_371 hH hS => ?_)
                            dsimp only at hp_371
                            obtain ⟨rfl, rfl, rfl, rfl, rfl, rfl, q_363⟩ := hp_371
                            have hcol : Hid ((I_226 mo 24).toInt = 0 → 1 ≤ v_370 ∧ v_370 ≤ 4) := fun h => by have q9 := mCol hv hm (z := v_81) (by omega) (by omega); omega
                            refine lv_iload_n F.1 F.2.1 dX7_ringTold_125 rfl (lv_at hl 5 rfl) ?_
                            refine lv_iload_n F.1 F.2.1 dX7_ringTold_126 rfl (lv_at hl 4 rfl) ?_
                            refine lv_iload F.1 F.2.1 dX7_ringTold_127 (lv_at hl 0 rfl) ?_
                            refine g_callv (g_runV (As := [.int (iI 8), .int (iI v_370), .int (iI v_81), .int (iI v_106), .int (iI v_232)]) (rest := []) (ci := 7) F hl.1 hH hS hz (c_X7_header l g gh T M I_226 R J_228 AI_229 AJ AR mo 8 v_370 v_81 v_106 v_232 ⟨by decide, by decide⟩ zv_370 zv_81 zv_106 zv_232 hv hm hT (by omega) (by omega)) (cwV 5 F.2.2.2.2.1 (good_up gT_X7_header) rfl rfl rfl hdX7_header ⟨Nat.le_of_ble_eq_true rfl, Nat.le_of_ble_eq_true rfl⟩) hm (by decide) rfl rfl rfl (Nat.le_of_ble_eq_true rfl) dX7_ringTold_129 ⟨Nat.zero_le _, Nat.zero_le _⟩) hS (fun I_372 R_373 J_374 AI_375 AJ_376 AR_377 H locs hp_378 hH hS => ?_)
                            dsimp only at hp_378
                            obtain ⟨rfl, rfl, rfl, rfl, rfl, hv, hT, hhd⟩ := hp_378
                            replace hhd := hid hhd
                            have hQ : mQ gh I_226 J_228 AI_375 AJ mo b nn nr nt cc r_234.1 r_234.2.1 := mQ_bad hQ (by omega) rfl
                            have hP9 : sPair b nn (cF b nn nr nt cc h) (cF b nn nr nt cc (h + 2)) 0 1 (h + 4) = (0, h + 7, pV b nn (h + 6)) := sPair_ok pr_145.1 (by decide) pr_158 pr_180.1
                            have hS9 : sRng b nn nr nt cc h = r_234 := by unfold sRng; exact thn_t sr_83 rfl (thn_t sr_96 rfl (thn_t sr_108 rfl (thn_t sr_121 rfl (thn_t hP9 rfl (thn_t sr_196 rfl (thn_x er_234 pr_234))))))
                            have hfin : thn (f, h, 0) (fun t _ => sRngM b nn nr nt cc t) = r_234 := (thn_k q0).trans (by show sRngM b nn nr nt cc h = _; unfold sRngM; exact thn_x hS9.symm (by (try dsimp only); omega))
                            exact g_vret F hr hlk hH hS hz ⟨rfl, rfl, rfl, hv, hT, pf, by first | (dsimp only; omega) | omega | rfl, by (try dsimp only); exact (fun hf => absurd hf (by omega)), by (try dsimp only); exact (fun hf => absurd hf (by omega)), by (try dsimp only); rw [hfin]; exact hQ, by (try dsimp only); rw [hfin]; exact pIc_n (by omega)⟩ dX7_ringTold_132
                          · exact absurd (tIz_1 q_360 (by omega)).1 (by omega)
                      · have hQ : mQ gh I_189 J_191 AI AJ mo b nn nr nt cc 1 (h + 7) := by rw [er_196] at hQ; exact hQ
                        have sr_196 := sr_196.symm.trans er_196
                        have g9r_196 := mQ_f hQ (by omega)
                        have hP9 : sPair b nn (cF b nn nr nt cc h) (cF b nn nr nt cc (h + 2)) 0 1 (h + 4) = (0, h + 7, pV b nn (h + 6)) := sPair_ok pr_145.1 (by decide) pr_158 pr_180.1
                        have hS9 : sRng b nn nr nt cc h = (1, h + 7, 0) := by unfold sRng; exact thn_t sr_83 rfl (thn_t sr_96 rfl (thn_t sr_108 rfl (thn_t sr_121 rfl (thn_t hP9 rfl (thn_x sr_196.symm (by omega))))))
                        have hfin : thn (f, h, 0) (fun t _ => sRngM b nn nr nt cc t) = (1, h + 7, 0) := (thn_k q0).trans (by show sRngM b nn nr nt cc h = _; unfold sRngM; exact thn_x hS9.symm (by (try dsimp only); omega))
                        exact cut_55_3 v_81 v_106 v_143 v_178 I_189 J_191 AI H locs ls zv_81 zv_106 zv_143 zv_178 hv hT pf ⟨_, _, by omega, hQ, hfin⟩ (by omega) (by omega) hH hS (lv_sub hl [4, 3, 2, 1, 0] rfl)
                    exact cut_49_186 I_172 J_174 H locs ls hv pf hQ (by omega) hH hS (lv_sub hl [0, 1, 2, 3, 4] rfl)
                  · have hQ : mQ gh I_172 J_174 AI AJ mo b nn nr nt cc (pCf b nn (cF b nn nr nt cc (h + 2)) (h + 6)) (h + 6) := by rw [er_180] at hQ; exact hQ
                    have sr_180 := sr_180.symm.trans er_180
                    have g9r_180 := mQ_f hQ (by omega)
                    replace q_182 := hid q_182
                    obtain ⟨f2, ef2⟩ : ∃ q, q = (I_172 mo 24).toInt := ⟨_, rfl⟩
                    have hd1 : Hid (f2 = 0 → 0 ≤ v_178 ∧ v_178 ≤ 3) := fun h9 => by omega
                    refine lv_istore (lv' := [(4, .int (iI v_178)), (3, .int (iI v_143)), (2, .int (iI v_106)), (1, .int (iI v_81)), (0, .ref mo)]) F.1 F.2.1 dX7_ringTold_47 hl (by decide) rfl (fun ls hl => ?_)
                    refine lv_aload_n F.1 F.2.1 dX7_ringTold_49 rfl (lv_at hl 4 rfl) ?_
                    refine va_ldcS F.1 F.2.1 F.2.2.2.1 (F.2.2.2.2.2.2.1 26 _ rfl).1 dX7_ringTold_50 ?_
                    have b_379 := mJ hv hm
                    unfold mNum1 at b_379
                    refine g_callv (g_runV (As := [.ref (gSK g 26)]) (rest := []) (ci := 7) F hl.1 hH hS hz (c_X7_mustWordf l g gh T 26 _ 15 b nn nr nt cc (pCf b nn (cF b nn nr nt cc (h + 2)) (h + 6)) (h + 6) I_172 R J_174 AI AJ AR mo hv hm hT (by omega) (rfl : sTab[26]? = some _) h65 hbM hr7 (by omega) hn9 (by omega) (by decide) (by decide +kernel) hQ) (cwV 1 F.2.2.2.2.1 (good_up gT_X7_mustWord) rfl rfl rfl hdX7_mustWord ⟨Nat.le_of_ble_eq_true rfl, Nat.le_of_ble_eq_true rfl⟩) hm (by decide) rfl rfl rfl (Nat.le_of_ble_eq_true rfl) dX7_ringTold_52 ⟨Nat.zero_le _, Nat.zero_le _⟩) hS (fun I_380 R_381 J_382 AI_383 AJ_384 AR_385 H locs hp_386 hH hS => ?_)
                    dsimp only at hp_386
                    obtain ⟨r_387, er_387⟩ : ∃ qQ : pR, qQ = thn ((pCf b nn (cF b nn nr nt cc (h + 2)) (h + 6)), (h + 6), 0) (fun t _ => sTw b nn ((15 : Nat) : Int) t) := ⟨_, rfl⟩
                    rw [← er_387] at hp_386
                    obtain ⟨rfl, rfl, rfl, rfl, hv, pfq, q_388, hQ⟩ := hp_386
                    have pf := qF_t pf pfq
                    have u_389_2 : (I_380 mo 2).toInt = (I mo 2).toInt := by rw [pf 2 (by decide) (by decide) (by decide) (by decide) (by decide)]
                    have u_389_5 : (I_380 mo 5).toInt = (I mo 5).toInt := by rw [pf 5 (by decide) (by decide) (by decide) (by decide) (by decide)]
                    have u_389_14 : (I_380 mo 14).toInt = (I mo 14).toInt := by rw [pf 14 (by decide) (by decide) (by decide) (by decide) (by decide)]
                    have u_389_16 : (I_380 mo 16).toInt = (I mo 16).toInt := by rw [pf 16 (by decide) (by decide) (by decide) (by decide) (by decide)]
                    have u_389_18 : (I_380 mo 18).toInt = (I mo 18).toInt := by rw [pf 18 (by decide) (by decide) (by decide) (by decide) (by decide)]
                    rw [thn_b (by omega)] at er_387
                    have hQ : mQ gh I_380 J_382 AI AJ mo b nn nr nt cc (pCf b nn (cF b nn nr nt cc (h + 2)) (h + 6)) (h + 6) := by rw [er_387] at hQ; exact hQ
                    have hP9 : sPair b nn (cF b nn nr nt cc h) (cF b nn nr nt cc (h + 2)) 0 1 (h + 4) = (pCf b nn (cF b nn nr nt cc (h + 2)) (h + 6), h + 6, 0) := sPair_v pr_145.1 (by decide) pr_158 pr_180.1
                    have hS9 : sRng b nn nr nt cc h = (pCf b nn (cF b nn nr nt cc (h + 2)) (h + 6), h + 6, 0) := by unfold sRng; exact thn_t sr_83 rfl (thn_t sr_96 rfl (thn_t sr_108 rfl (thn_t sr_121 rfl (thn_x hP9.symm (by omega)))))
                    have hfin : thn (f, h, 0) (fun t _ => sRngM b nn nr nt cc t) = (pCf b nn (cF b nn nr nt cc (h + 2)) (h + 6), h + 6, 0) := (thn_k q0).trans (by show sRngM b nn nr nt cc h = _; unfold sRngM; exact thn_x hS9.symm (by (try dsimp only); omega))
                    exact cut_55_3 v_81 v_106 v_143 v_178 I_380 J_382 AI H locs ls zv_81 zv_106 zv_143 zv_178 hv hT pf ⟨_, _, by omega, hQ, hfin⟩ (by omega) (by omega) hH hS (lv_sub hl [4, 3, 2, 1, 0] rfl)
                · have hQ : mQ gh I_151 J_153 AI AJ mo b nn nr nt cc 1 (h + 5) := by rw [er_158] at hQ; exact hQ
                  have sr_158 := sr_158.symm.trans er_158
                  have g9r_158 := mQ_f hQ (by omega)
                  replace q_160 := hid q_160
                  refine lv_aload_n F.1 F.2.1 dX7_ringTold_38 rfl (lv_at hl 3 rfl) ?_
                  refine lv_aload_n F.1 F.2.1 dX7_ringTold_39 rfl (lv_at hl 3 rfl) ?_
                  refine lv_iload_n F.1 F.2.1 dX7_ringTold_40 rfl (lv_at hl 1 rfl) ?_
                  have b_391 := mJ hv hm
                  unfold mNum1 at b_391
                  refine g_calli (g_runV (As := [.int (iI v_106)]) (rest := [.ref mo]) (ci := 7) F hl.1 hH hS hz (c_X7_columns l g gh T I_151 R J_153 AI AJ AR mo v_106 zv_106 hv hm hT (by omega)) (cwV 1 F.2.2.2.2.1 (good_up gT_X7_columns) rfl rfl rfl hdX7_columns ⟨Nat.le_of_ble_eq_true rfl, Nat.le_of_ble_eq_true rfl⟩) hm (by decide) rfl rfl rfl (Nat.le_of_ble_eq_true rfl) dX7_ringTold_41 ⟨Nat.zero_le _, Nat.zero_le _⟩) hS (fun v_398 I_392 R_393 J_394 AI_395 AJ_396 AR_397 H locs zv_398 hp_399 hH hS => ?_)
                  dsimp only at hp_399
                  obtain ⟨rfl, rfl, rfl, rfl, rfl, rfl, q_390⟩ := hp_399
                  refine g_calli (g_runV (As := [.int (iI v_398)]) (rest := []) (ci := 7) F hl.1 hH hS hz (c_X7_columnf l g gh T b nn nr nt cc 1 (h + 5) I_151 R J_153 AI AJ AR mo v_398 zv_398 hv hm hT (by omega) h65 hbM hr7 (by omega) hn9 (by omega) hQ) (cwV 1 F.2.2.2.2.1 (good_up gT_X7_column) rfl rfl rfl hdX7_column ⟨Nat.le_of_ble_eq_true rfl, Nat.le_of_ble_eq_true rfl⟩) hm (by decide) rfl rfl rfl (Nat.le_of_ble_eq_true rfl) dX7_ringTold_44 ⟨Nat.zero_le _, Nat.zero_le _⟩) hS (fun v_406 I_400 R_401 J_402 AI_403 AJ_404 AR_405 H locs zv_406 hp_407 hH hS => ?_)
                  dsimp only at hp_407
                  obtain ⟨r_408, er_408⟩ : ∃ qQ : pR, qQ = thn (1, (h + 5), 0) (fun t _ => sCol b nn v_398 t) := ⟨_, rfl⟩
                  rw [← er_408] at hp_407
                  obtain ⟨rfl, rfl, rfl, rfl, hv, pfq, q_409, q_410, hQ, q_411⟩ := hp_407
                  have pf := qF_t pf pfq
                  have u_412_2 : (I_400 mo 2).toInt = (I mo 2).toInt := by rw [pf 2 (by decide) (by decide) (by decide) (by decide) (by decide)]
                  have u_412_5 : (I_400 mo 5).toInt = (I mo 5).toInt := by rw [pf 5 (by decide) (by decide) (by decide) (by decide) (by decide)]
                  have u_412_14 : (I_400 mo 14).toInt = (I mo 14).toInt := by rw [pf 14 (by decide) (by decide) (by decide) (by decide) (by decide)]
                  have u_412_16 : (I_400 mo 16).toInt = (I mo 16).toInt := by rw [pf 16 (by decide) (by decide) (by decide) (by decide) (by decide)]
                  have u_412_18 : (I_400 mo 18).toInt = (I mo 18).toInt := by rw [pf 18 (by decide) (by decide) (by decide) (by decide) (by decide)]
                  rw [thn_b (by omega)] at er_408
                  have hQ : mQ gh I_400 J_402 AI AJ mo b nn nr nt cc 1 (h + 5) := by rw [er_408] at hQ; exact hQ
                  replace q_410 := hid q_410
                  obtain ⟨f2, ef2⟩ : ∃ q, q = (I_400 mo 24).toInt := ⟨_, rfl⟩
                  have hd1 : Hid (f2 = 0 → 0 ≤ v_406 ∧ v_406 ≤ 3) := fun h9 => by omega
                  refine lv_istore (lv' := [(4, .int (iI v_406)), (3, .int (iI v_143)), (2, .int (iI v_106)), (1, .int (iI v_81)), (0, .ref mo)]) F.1 F.2.1 dX7_ringTold_47 hl (by decide) rfl (fun ls hl => ?_)
                  refine lv_aload_n F.1 F.2.1 dX7_ringTold_49 rfl (lv_at hl 4 rfl) ?_
                  refine va_ldcS F.1 F.2.1 F.2.2.2.1 (F.2.2.2.2.2.2.1 26 _ rfl).1 dX7_ringTold_50 ?_
                  have b_413 := mJ hv hm
                  unfold mNum1 at b_413
                  refine g_callv (g_runV (As := [.ref (gSK g 26)]) (rest := []) (ci := 7) F hl.1 hH hS hz (c_X7_mustWordf l g gh T 26 _ 15 b nn nr nt cc 1 (h + 5) I_400 R J_402 AI AJ AR mo hv hm hT (by omega) (rfl : sTab[26]? = some _) h65 hbM hr7 (by omega) hn9 (by omega) (by decide) (by decide +kernel) hQ) (cwV 1 F.2.2.2.2.1 (good_up gT_X7_mustWord) rfl rfl rfl hdX7_mustWord ⟨Nat.le_of_ble_eq_true rfl, Nat.le_of_ble_eq_true rfl⟩) hm (by decide) rfl rfl rfl (Nat.le_of_ble_eq_true rfl) dX7_ringTold_52 ⟨Nat.zero_le _, Nat.zero_le _⟩) hS (fun I_414 R_415 J_416 AI_417 AJ_418 AR_419 H locs hp_420 hH hS => ?_)
                  dsimp only at hp_420
                  obtain ⟨r_421, er_421⟩ : ∃ qQ : pR, qQ = thn (1, (h + 5), 0) (fun t _ => sTw b nn ((15 : Nat) : Int) t) := ⟨_, rfl⟩
                  rw [← er_421] at hp_420
                  obtain ⟨rfl, rfl, rfl, rfl, hv, pfq, q_422, hQ⟩ := hp_420
                  have pf := qF_t pf pfq
                  have u_423_2 : (I_414 mo 2).toInt = (I mo 2).toInt := by rw [pf 2 (by decide) (by decide) (by decide) (by decide) (by decide)]
                  have u_423_5 : (I_414 mo 5).toInt = (I mo 5).toInt := by rw [pf 5 (by decide) (by decide) (by decide) (by decide) (by decide)]
                  have u_423_14 : (I_414 mo 14).toInt = (I mo 14).toInt := by rw [pf 14 (by decide) (by decide) (by decide) (by decide) (by decide)]
                  have u_423_16 : (I_414 mo 16).toInt = (I mo 16).toInt := by rw [pf 16 (by decide) (by decide) (by decide) (by decide) (by decide)]
                  have u_423_18 : (I_414 mo 18).toInt = (I mo 18).toInt := by rw [pf 18 (by decide) (by decide) (by decide) (by decide) (by decide)]
                  rw [thn_b (by omega)] at er_421
                  have hQ : mQ gh I_414 J_416 AI AJ mo b nn nr nt cc 1 (h + 5) := by rw [er_421] at hQ; exact hQ
                  have hP9 : sPair b nn (cF b nn nr nt cc h) (cF b nn nr nt cc (h + 2)) 0 1 (h + 4) = (1, h + 5, 0) := sPair_1 pr_145.1 (by decide) pr_158
                  have hS9 : sRng b nn nr nt cc h = (1, h + 5, 0) := by unfold sRng; exact thn_t sr_83 rfl (thn_t sr_96 rfl (thn_t sr_108 rfl (thn_t sr_121 rfl (thn_x hP9.symm (by omega)))))
                  have hfin : thn (f, h, 0) (fun t _ => sRngM b nn nr nt cc t) = (1, h + 5, 0) := (thn_k q0).trans (by show sRngM b nn nr nt cc h = _; unfold sRngM; exact thn_x hS9.symm (by (try dsimp only); omega))
                  exact cut_55_3 v_81 v_106 v_143 v_406 I_414 J_416 AI H locs ls zv_81 zv_106 zv_143 zv_406 hv hT pf ⟨_, _, by omega, hQ, hfin⟩ (by omega) (by omega) hH hS (lv_sub hl [4, 3, 2, 1, 0] rfl)
              · have hQ : mQ gh I_137 J_139 AI AJ mo b nn nr nt cc (pCf b nn (cF b nn nr nt cc h) (h + 4)) (h + 4) := by rw [er_145] at hQ; exact hQ
                have sr_145 := sr_145.symm.trans er_145
                have g9r_145 := mQ_f hQ (by omega)
                replace q_147 := hid q_147
                obtain ⟨f1, ef1⟩ : ∃ q, q = (I_137 mo 24).toInt := ⟨_, rfl⟩
                have hc1 : Hid (f1 = 0 → 0 ≤ v_143 ∧ v_143 ≤ 3) := fun h9 => by omega
                refine lv_istore_n (lv' := [(3, .int (iI v_143)), (2, .int (iI v_106)), (1, .int (iI v_81)), (0, .ref mo)]) F.1 F.2.1 dX7_ringTold_31 rfl hl (by decide) rfl (fun ls hl => ?_)
                refine lv_aload_n F.1 F.2.1 dX7_ringTold_32 rfl (lv_at hl 3 rfl) ?_
                refine z_bipush F dX7_ringTold_33 (by decide) ?_
                have b_424 := mJ hv hm
                unfold mNum1 at b_424
                refine g_callv (g_runV (As := [.int (iI 61)]) (rest := []) (ci := 7) F hl.1 hH hS hz (c_X7_mustSignf l g gh T b nn nr nt cc (pCf b nn (cF b nn nr nt cc h) (h + 4)) (h + 4) I_137 R J_139 AI AJ AR mo 61 ⟨by decide, by decide⟩ hv hm hT (by omega) h65 hbM hr7 (by omega) hn9 (by omega) (by omega) hQ) (cwV 1 F.2.2.2.2.1 (good_up gT_X7_mustSign) rfl rfl rfl hdX7_mustSign ⟨Nat.le_of_ble_eq_true rfl, Nat.le_of_ble_eq_true rfl⟩) hm (by decide) rfl rfl rfl (Nat.le_of_ble_eq_true rfl) dX7_ringTold_35 ⟨Nat.zero_le _, Nat.zero_le _⟩) hS (fun I_425 R_426 J_427 AI_428 AJ_429 AR_430 H locs hp_431 hH hS => ?_)
                dsimp only at hp_431
                obtain ⟨r_432, er_432⟩ : ∃ qQ : pR, qQ = thn ((pCf b nn (cF b nn nr nt cc h) (h + 4)), (h + 4), 0) (fun t _ => sTk b nn 61 t) := ⟨_, rfl⟩
                rw [← er_432] at hp_431
                obtain ⟨rfl, rfl, rfl, rfl, hv, pfq, q_433, q_434, hQ⟩ := hp_431
                have pf := qF_t pf pfq
                have u_435_2 : (I_425 mo 2).toInt = (I mo 2).toInt := by rw [pf 2 (by decide) (by decide) (by decide) (by decide) (by decide)]
                have u_435_5 : (I_425 mo 5).toInt = (I mo 5).toInt := by rw [pf 5 (by decide) (by decide) (by decide) (by decide) (by decide)]
                have u_435_14 : (I_425 mo 14).toInt = (I mo 14).toInt := by rw [pf 14 (by decide) (by decide) (by decide) (by decide) (by decide)]
                have u_435_16 : (I_425 mo 16).toInt = (I mo 16).toInt := by rw [pf 16 (by decide) (by decide) (by decide) (by decide) (by decide)]
                have u_435_18 : (I_425 mo 18).toInt = (I mo 18).toInt := by rw [pf 18 (by decide) (by decide) (by decide) (by decide) (by decide)]
                rw [thn_b (by omega)] at er_432
                have hQ : mQ gh I_425 J_427 AI AJ mo b nn nr nt cc (pCf b nn (cF b nn nr nt cc h) (h + 4)) (h + 4) := by rw [er_432] at hQ; exact hQ
                replace q_434 := hid q_434
                refine lv_aload_n F.1 F.2.1 dX7_ringTold_38 rfl (lv_at hl 3 rfl) ?_
                refine lv_aload_n F.1 F.2.1 dX7_ringTold_39 rfl (lv_at hl 3 rfl) ?_
                refine lv_iload_n F.1 F.2.1 dX7_ringTold_40 rfl (lv_at hl 1 rfl) ?_
                have b_437 := mJ hv hm
                unfold mNum1 at b_437
                refine g_calli (g_runV (As := [.int (iI v_106)]) (rest := [.ref mo]) (ci := 7) F hl.1 hH hS hz (c_X7_columns l g gh T I_425 R J_427 AI AJ AR mo v_106 zv_106 hv hm hT (by omega)) (cwV 1 F.2.2.2.2.1 (good_up gT_X7_columns) rfl rfl rfl hdX7_columns ⟨Nat.le_of_ble_eq_true rfl, Nat.le_of_ble_eq_true rfl⟩) hm (by decide) rfl rfl rfl (Nat.le_of_ble_eq_true rfl) dX7_ringTold_41 ⟨Nat.zero_le _, Nat.zero_le _⟩) hS (fun v_444 I_438 R_439 J_440 AI_441 AJ_442 AR_443 H locs zv_444 hp_445 hH hS => ?_)
                dsimp only at hp_445
                obtain ⟨rfl, rfl, rfl, rfl, rfl, rfl, q_436⟩ := hp_445
                refine g_calli (g_runV (As := [.int (iI v_444)]) (rest := []) (ci := 7) F hl.1 hH hS hz (c_X7_columnf l g gh T b nn nr nt cc (pCf b nn (cF b nn nr nt cc h) (h + 4)) (h + 4) I_425 R J_427 AI AJ AR mo v_444 zv_444 hv hm hT (by omega) h65 hbM hr7 (by omega) hn9 (by omega) hQ) (cwV 1 F.2.2.2.2.1 (good_up gT_X7_column) rfl rfl rfl hdX7_column ⟨Nat.le_of_ble_eq_true rfl, Nat.le_of_ble_eq_true rfl⟩) hm (by decide) rfl rfl rfl (Nat.le_of_ble_eq_true rfl) dX7_ringTold_44 ⟨Nat.zero_le _, Nat.zero_le _⟩) hS (fun v_452 I_446 R_447 J_448 AI_449 AJ_450 AR_451 H locs zv_452 hp_453 hH hS => ?_)
                dsimp only at hp_453
                obtain ⟨r_454, er_454⟩ : ∃ qQ : pR, qQ = thn ((pCf b nn (cF b nn nr nt cc h) (h + 4)), (h + 4), 0) (fun t _ => sCol b nn v_444 t) := ⟨_, rfl⟩
                rw [← er_454] at hp_453
                obtain ⟨rfl, rfl, rfl, rfl, hv, pfq, q_455, q_456, hQ, q_457⟩ := hp_453
                have pf := qF_t pf pfq
                have u_458_2 : (I_446 mo 2).toInt = (I mo 2).toInt := by rw [pf 2 (by decide) (by decide) (by decide) (by decide) (by decide)]
                have u_458_5 : (I_446 mo 5).toInt = (I mo 5).toInt := by rw [pf 5 (by decide) (by decide) (by decide) (by decide) (by decide)]
                have u_458_14 : (I_446 mo 14).toInt = (I mo 14).toInt := by rw [pf 14 (by decide) (by decide) (by decide) (by decide) (by decide)]
                have u_458_16 : (I_446 mo 16).toInt = (I mo 16).toInt := by rw [pf 16 (by decide) (by decide) (by decide) (by decide) (by decide)]
                have u_458_18 : (I_446 mo 18).toInt = (I mo 18).toInt := by rw [pf 18 (by decide) (by decide) (by decide) (by decide) (by decide)]
                rw [thn_b (by omega)] at er_454
                have hQ : mQ gh I_446 J_448 AI AJ mo b nn nr nt cc (pCf b nn (cF b nn nr nt cc h) (h + 4)) (h + 4) := by rw [er_454] at hQ; exact hQ
                replace q_456 := hid q_456
                obtain ⟨f2, ef2⟩ : ∃ q, q = (I_446 mo 24).toInt := ⟨_, rfl⟩
                have hd1 : Hid (f2 = 0 → 0 ≤ v_452 ∧ v_452 ≤ 3) := fun h9 => by omega
                refine lv_istore (lv' := [(4, .int (iI v_452)), (3, .int (iI v_143)), (2, .int (iI v_106)), (1, .int (iI v_81)), (0, .ref mo)]) F.1 F.2.1 dX7_ringTold_47 hl (by decide) rfl (fun ls hl => ?_)
                refine lv_aload_n F.1 F.2.1 dX7_ringTold_49 rfl (lv_at hl 4 rfl) ?_
                refine va_ldcS F.1 F.2.1 F.2.2.2.1 (F.2.2.2.2.2.2.1 26 _ rfl).1 dX7_ringTold_50 ?_
                have b_459 := mJ hv hm
                unfold mNum1 at b_459
                refine g_callv (g_runV (As := [.ref (gSK g 26)]) (rest := []) (ci := 7) F hl.1 hH hS hz (c_X7_mustWordf l g gh T 26 _ 15 b nn nr nt cc (pCf b nn (cF b nn nr nt cc h) (h + 4)) (h + 4) I_446 R J_448 AI AJ AR mo hv hm hT (by omega) (rfl : sTab[26]? = some _) h65 hbM hr7 (by omega) hn9 (by omega) (by decide) (by decide +kernel) hQ) (cwV 1 F.2.2.2.2.1 (good_up gT_X7_mustWord) rfl rfl rfl hdX7_mustWord ⟨Nat.le_of_ble_eq_true rfl, Nat.le_of_ble_eq_true rfl⟩) hm (by decide) rfl rfl rfl (Nat.le_of_ble_eq_true rfl) dX7_ringTold_52 ⟨Nat.zero_le _, Nat.zero_le _⟩) hS (fun I_460 R_461 J_462 AI_463 AJ_464 AR_465 H locs hp_466 hH hS => ?_)
                dsimp only at hp_466
                obtain ⟨r_467, er_467⟩ : ∃ qQ : pR, qQ = thn ((pCf b nn (cF b nn nr nt cc h) (h + 4)), (h + 4), 0) (fun t _ => sTw b nn ((15 : Nat) : Int) t) := ⟨_, rfl⟩
                rw [← er_467] at hp_466
                obtain ⟨rfl, rfl, rfl, rfl, hv, pfq, q_468, hQ⟩ := hp_466
                have pf := qF_t pf pfq
                have u_469_2 : (I_460 mo 2).toInt = (I mo 2).toInt := by rw [pf 2 (by decide) (by decide) (by decide) (by decide) (by decide)]
                have u_469_5 : (I_460 mo 5).toInt = (I mo 5).toInt := by rw [pf 5 (by decide) (by decide) (by decide) (by decide) (by decide)]
                have u_469_14 : (I_460 mo 14).toInt = (I mo 14).toInt := by rw [pf 14 (by decide) (by decide) (by decide) (by decide) (by decide)]
                have u_469_16 : (I_460 mo 16).toInt = (I mo 16).toInt := by rw [pf 16 (by decide) (by decide) (by decide) (by decide) (by decide)]
                have u_469_18 : (I_460 mo 18).toInt = (I mo 18).toInt := by rw [pf 18 (by decide) (by decide) (by decide) (by decide) (by decide)]
                rw [thn_b (by omega)] at er_467
                have hQ : mQ gh I_460 J_462 AI AJ mo b nn nr nt cc (pCf b nn (cF b nn nr nt cc h) (h + 4)) (h + 4) := by rw [er_467] at hQ; exact hQ
                have hP9 : sPair b nn (cF b nn nr nt cc h) (cF b nn nr nt cc (h + 2)) 0 1 (h + 4) = (pCf b nn (cF b nn nr nt cc h) (h + 4), h + 4, 0) := sPair_x pr_145.1
                have hS9 : sRng b nn nr nt cc h = (pCf b nn (cF b nn nr nt cc h) (h + 4), h + 4, 0) := by unfold sRng; exact thn_t sr_83 rfl (thn_t sr_96 rfl (thn_t sr_108 rfl (thn_t sr_121 rfl (thn_x hP9.symm (by omega)))))
                have hfin : thn (f, h, 0) (fun t _ => sRngM b nn nr nt cc t) = (pCf b nn (cF b nn nr nt cc h) (h + 4), h + 4, 0) := (thn_k q0).trans (by show sRngM b nn nr nt cc h = _; unfold sRngM; exact thn_x hS9.symm (by (try dsimp only); omega))
                exact cut_55_3 v_81 v_106 v_143 v_452 I_460 J_462 AI H locs ls zv_81 zv_106 zv_143 zv_452 hv hT pf ⟨_, _, by omega, hQ, hfin⟩ (by omega) (by omega) hH hS (lv_sub hl [4, 3, 2, 1, 0] rfl)
            exact cut_22_125 I_114 J_116 H locs ls hv pf hQ (by omega) hH hS (lv_sub hl [0, 1, 2] rfl)
          · have hQ : mQ gh I_114 J_116 AI AJ mo b nn nr nt cc 1 (h + 3) := by rw [er_121] at hQ; exact hQ
            have sr_121 := sr_121.symm.trans er_121
            have g9r_121 := mQ_f hQ (by omega)
            refine lv_aload_n F.1 F.2.1 dX7_ringTold_22 rfl (lv_at hl 2 rfl) ?_
            refine lv_aload_n F.1 F.2.1 dX7_ringTold_23 rfl (lv_at hl 2 rfl) ?_
            refine lv_iload_n F.1 F.2.1 dX7_ringTold_24 rfl (lv_at hl 1 rfl) ?_
            have b_471 := mJ hv hm
            unfold mNum1 at b_471
            refine g_calli (g_runV (As := [.int (iI v_81)]) (rest := [.ref mo]) (ci := 7) F hl.1 hH hS hz (c_X7_columns l g gh T I_114 R J_116 AI AJ AR mo v_81 zv_81 hv hm hT (by omega)) (cwV 1 F.2.2.2.2.1 (good_up gT_X7_columns) rfl rfl rfl hdX7_columns ⟨Nat.le_of_ble_eq_true rfl, Nat.le_of_ble_eq_true rfl⟩) hm (by decide) rfl rfl rfl (Nat.le_of_ble_eq_true rfl) dX7_ringTold_25 ⟨Nat.zero_le _, Nat.zero_le _⟩) hS (fun v_478 I_472 R_473 J_474 AI_475 AJ_476 AR_477 H locs zv_478 hp_479 hH hS => ?_)
            dsimp only at hp_479
            obtain ⟨rfl, rfl, rfl, rfl, rfl, rfl, q_470⟩ := hp_479
            refine g_calli (g_runV (As := [.int (iI v_478)]) (rest := []) (ci := 7) F hl.1 hH hS hz (c_X7_columnf l g gh T b nn nr nt cc 1 (h + 3) I_114 R J_116 AI AJ AR mo v_478 zv_478 hv hm hT (by omega) h65 hbM hr7 (by omega) hn9 (by omega) hQ) (cwV 1 F.2.2.2.2.1 (good_up gT_X7_column) rfl rfl rfl hdX7_column ⟨Nat.le_of_ble_eq_true rfl, Nat.le_of_ble_eq_true rfl⟩) hm (by decide) rfl rfl rfl (Nat.le_of_ble_eq_true rfl) dX7_ringTold_28 ⟨Nat.zero_le _, Nat.zero_le _⟩) hS (fun v_486 I_480 R_481 J_482 AI_483 AJ_484 AR_485 H locs zv_486 hp_487 hH hS => ?_)
            dsimp only at hp_487
            obtain ⟨r_488, er_488⟩ : ∃ qQ : pR, qQ = thn (1, (h + 3), 0) (fun t _ => sCol b nn v_478 t) := ⟨_, rfl⟩
            rw [← er_488] at hp_487
            obtain ⟨rfl, rfl, rfl, rfl, hv, pfq, q_489, q_490, hQ, q_491⟩ := hp_487
            have pf := qF_t pf pfq
            have u_492_2 : (I_480 mo 2).toInt = (I mo 2).toInt := by rw [pf 2 (by decide) (by decide) (by decide) (by decide) (by decide)]
            have u_492_5 : (I_480 mo 5).toInt = (I mo 5).toInt := by rw [pf 5 (by decide) (by decide) (by decide) (by decide) (by decide)]
            have u_492_14 : (I_480 mo 14).toInt = (I mo 14).toInt := by rw [pf 14 (by decide) (by decide) (by decide) (by decide) (by decide)]
            have u_492_16 : (I_480 mo 16).toInt = (I mo 16).toInt := by rw [pf 16 (by decide) (by decide) (by decide) (by decide) (by decide)]
            have u_492_18 : (I_480 mo 18).toInt = (I mo 18).toInt := by rw [pf 18 (by decide) (by decide) (by decide) (by decide) (by decide)]
            rw [thn_b (by omega)] at er_488
            have hQ : mQ gh I_480 J_482 AI AJ mo b nn nr nt cc 1 (h + 3) := by rw [er_488] at hQ; exact hQ
            replace q_490 := hid q_490
            obtain ⟨f1, ef1⟩ : ∃ q, q = (I_480 mo 24).toInt := ⟨_, rfl⟩
            have hc1 : Hid (f1 = 0 → 0 ≤ v_486 ∧ v_486 ≤ 3) := fun h9 => by omega
            refine lv_istore_n (lv' := [(3, .int (iI v_486)), (2, .int (iI v_106)), (1, .int (iI v_81)), (0, .ref mo)]) F.1 F.2.1 dX7_ringTold_31 rfl hl (by decide) rfl (fun ls hl => ?_)
            refine lv_aload_n F.1 F.2.1 dX7_ringTold_32 rfl (lv_at hl 3 rfl) ?_
            refine z_bipush F dX7_ringTold_33 (by decide) ?_
            have b_493 := mJ hv hm
            unfold mNum1 at b_493
            refine g_callv (g_runV (As := [.int (iI 61)]) (rest := []) (ci := 7) F hl.1 hH hS hz (c_X7_mustSignf l g gh T b nn nr nt cc 1 (h + 3) I_480 R J_482 AI AJ AR mo 61 ⟨by decide, by decide⟩ hv hm hT (by omega) h65 hbM hr7 (by omega) hn9 (by omega) (by omega) hQ) (cwV 1 F.2.2.2.2.1 (good_up gT_X7_mustSign) rfl rfl rfl hdX7_mustSign ⟨Nat.le_of_ble_eq_true rfl, Nat.le_of_ble_eq_true rfl⟩) hm (by decide) rfl rfl rfl (Nat.le_of_ble_eq_true rfl) dX7_ringTold_35 ⟨Nat.zero_le _, Nat.zero_le _⟩) hS (fun I_494 R_495 J_496 AI_497 AJ_498 AR_499 H locs hp_500 hH hS => ?_)
            dsimp only at hp_500
            obtain ⟨r_501, er_501⟩ : ∃ qQ : pR, qQ = thn (1, (h + 3), 0) (fun t _ => sTk b nn 61 t) := ⟨_, rfl⟩
            rw [← er_501] at hp_500
            obtain ⟨rfl, rfl, rfl, rfl, hv, pfq, q_502, q_503, hQ⟩ := hp_500
            have pf := qF_t pf pfq
            have u_504_2 : (I_494 mo 2).toInt = (I mo 2).toInt := by rw [pf 2 (by decide) (by decide) (by decide) (by decide) (by decide)]
            have u_504_5 : (I_494 mo 5).toInt = (I mo 5).toInt := by rw [pf 5 (by decide) (by decide) (by decide) (by decide) (by decide)]
            have u_504_14 : (I_494 mo 14).toInt = (I mo 14).toInt := by rw [pf 14 (by decide) (by decide) (by decide) (by decide) (by decide)]
            have u_504_16 : (I_494 mo 16).toInt = (I mo 16).toInt := by rw [pf 16 (by decide) (by decide) (by decide) (by decide) (by decide)]
            have u_504_18 : (I_494 mo 18).toInt = (I mo 18).toInt := by rw [pf 18 (by decide) (by decide) (by decide) (by decide) (by decide)]
            rw [thn_b (by omega)] at er_501
            have hQ : mQ gh I_494 J_496 AI AJ mo b nn nr nt cc 1 (h + 3) := by rw [er_501] at hQ; exact hQ
            replace q_503 := hid q_503
            refine lv_aload_n F.1 F.2.1 dX7_ringTold_38 rfl (lv_at hl 3 rfl) ?_
            refine lv_aload_n F.1 F.2.1 dX7_ringTold_39 rfl (lv_at hl 3 rfl) ?_
            refine lv_iload_n F.1 F.2.1 dX7_ringTold_40 rfl (lv_at hl 1 rfl) ?_
            have b_506 := mJ hv hm
            unfold mNum1 at b_506
            refine g_calli (g_runV (As := [.int (iI v_106)]) (rest := [.ref mo]) (ci := 7) F hl.1 hH hS hz (c_X7_columns l g gh T I_494 R J_496 AI AJ AR mo v_106 zv_106 hv hm hT (by omega)) (cwV 1 F.2.2.2.2.1 (good_up gT_X7_columns) rfl rfl rfl hdX7_columns ⟨Nat.le_of_ble_eq_true rfl, Nat.le_of_ble_eq_true rfl⟩) hm (by decide) rfl rfl rfl (Nat.le_of_ble_eq_true rfl) dX7_ringTold_41 ⟨Nat.zero_le _, Nat.zero_le _⟩) hS (fun v_513 I_507 R_508 J_509 AI_510 AJ_511 AR_512 H locs zv_513 hp_514 hH hS => ?_)
            dsimp only at hp_514
            obtain ⟨rfl, rfl, rfl, rfl, rfl, rfl, q_505⟩ := hp_514
            refine g_calli (g_runV (As := [.int (iI v_513)]) (rest := []) (ci := 7) F hl.1 hH hS hz (c_X7_columnf l g gh T b nn nr nt cc 1 (h + 3) I_494 R J_496 AI AJ AR mo v_513 zv_513 hv hm hT (by omega) h65 hbM hr7 (by omega) hn9 (by omega) hQ) (cwV 1 F.2.2.2.2.1 (good_up gT_X7_column) rfl rfl rfl hdX7_column ⟨Nat.le_of_ble_eq_true rfl, Nat.le_of_ble_eq_true rfl⟩) hm (by decide) rfl rfl rfl (Nat.le_of_ble_eq_true rfl) dX7_ringTold_44 ⟨Nat.zero_le _, Nat.zero_le _⟩) hS (fun v_521 I_515 R_516 J_517 AI_518 AJ_519 AR_520 H locs zv_521 hp_522 hH hS => ?_)
            dsimp only at hp_522
            obtain ⟨r_523, er_523⟩ : ∃ qQ : pR, qQ = thn (1, (h + 3), 0) (fun t _ => sCol b nn v_513 t) := ⟨_, rfl⟩
            rw [← er_523] at hp_522
            obtain ⟨rfl, rfl, rfl, rfl, hv, pfq, q_524, q_525, hQ, q_526⟩ := hp_522
            have pf := qF_t pf pfq
            have u_527_2 : (I_515 mo 2).toInt = (I mo 2).toInt := by rw [pf 2 (by decide) (by decide) (by decide) (by decide) (by decide)]
            have u_527_5 : (I_515 mo 5).toInt = (I mo 5).toInt := by rw [pf 5 (by decide) (by decide) (by decide) (by decide) (by decide)]
            have u_527_14 : (I_515 mo 14).toInt = (I mo 14).toInt := by rw [pf 14 (by decide) (by decide) (by decide) (by decide) (by decide)]
            have u_527_16 : (I_515 mo 16).toInt = (I mo 16).toInt := by rw [pf 16 (by decide) (by decide) (by decide) (by decide) (by decide)]
            have u_527_18 : (I_515 mo 18).toInt = (I mo 18).toInt := by rw [pf 18 (by decide) (by decide) (by decide) (by decide) (by decide)]
            rw [thn_b (by omega)] at er_523
            have hQ : mQ gh I_515 J_517 AI AJ mo b nn nr nt cc 1 (h + 3) := by rw [er_523] at hQ; exact hQ
            replace q_525 := hid q_525
            obtain ⟨f2, ef2⟩ : ∃ q, q = (I_515 mo 24).toInt := ⟨_, rfl⟩
            have hd1 : Hid (f2 = 0 → 0 ≤ v_521 ∧ v_521 ≤ 3) := fun h9 => by omega
            refine lv_istore (lv' := [(4, .int (iI v_521)), (3, .int (iI v_486)), (2, .int (iI v_106)), (1, .int (iI v_81)), (0, .ref mo)]) F.1 F.2.1 dX7_ringTold_47 hl (by decide) rfl (fun ls hl => ?_)
            refine lv_aload_n F.1 F.2.1 dX7_ringTold_49 rfl (lv_at hl 4 rfl) ?_
            refine va_ldcS F.1 F.2.1 F.2.2.2.1 (F.2.2.2.2.2.2.1 26 _ rfl).1 dX7_ringTold_50 ?_
            have b_528 := mJ hv hm
            unfold mNum1 at b_528
            refine g_callv (g_runV (As := [.ref (gSK g 26)]) (rest := []) (ci := 7) F hl.1 hH hS hz (c_X7_mustWordf l g gh T 26 _ 15 b nn nr nt cc 1 (h + 3) I_515 R J_517 AI AJ AR mo hv hm hT (by omega) (rfl : sTab[26]? = some _) h65 hbM hr7 (by omega) hn9 (by omega) (by decide) (by decide +kernel) hQ) (cwV 1 F.2.2.2.2.1 (good_up gT_X7_mustWord) rfl rfl rfl hdX7_mustWord ⟨Nat.le_of_ble_eq_true rfl, Nat.le_of_ble_eq_true rfl⟩) hm (by decide) rfl rfl rfl (Nat.le_of_ble_eq_true rfl) dX7_ringTold_52 ⟨Nat.zero_le _, Nat.zero_le _⟩) hS (fun I_529 R_530 J_531 AI_532 AJ_533 AR_534 H locs hp_535 hH hS => ?_)
            dsimp only at hp_535
            obtain ⟨r_536, er_536⟩ : ∃ qQ : pR, qQ = thn (1, (h + 3), 0) (fun t _ => sTw b nn ((15 : Nat) : Int) t) := ⟨_, rfl⟩
            rw [← er_536] at hp_535
            obtain ⟨rfl, rfl, rfl, rfl, hv, pfq, q_537, hQ⟩ := hp_535
            have pf := qF_t pf pfq
            have u_538_2 : (I_529 mo 2).toInt = (I mo 2).toInt := by rw [pf 2 (by decide) (by decide) (by decide) (by decide) (by decide)]
            have u_538_5 : (I_529 mo 5).toInt = (I mo 5).toInt := by rw [pf 5 (by decide) (by decide) (by decide) (by decide) (by decide)]
            have u_538_14 : (I_529 mo 14).toInt = (I mo 14).toInt := by rw [pf 14 (by decide) (by decide) (by decide) (by decide) (by decide)]
            have u_538_16 : (I_529 mo 16).toInt = (I mo 16).toInt := by rw [pf 16 (by decide) (by decide) (by decide) (by decide) (by decide)]
            have u_538_18 : (I_529 mo 18).toInt = (I mo 18).toInt := by rw [pf 18 (by decide) (by decide) (by decide) (by decide) (by decide)]
            rw [thn_b (by omega)] at er_536
            have hQ : mQ gh I_529 J_531 AI AJ mo b nn nr nt cc 1 (h + 3) := by rw [er_536] at hQ; exact hQ
            have hS9 : sRng b nn nr nt cc h = (1, h + 3, 0) := by unfold sRng; exact thn_y sr_83.symm rfl (thn_y sr_96.symm rfl (thn_y sr_108.symm rfl (thn_x sr_121.symm (by omega))))
            have hfin : thn (f, h, 0) (fun t _ => sRngM b nn nr nt cc t) = (1, h + 3, 0) := (thn_k q0).trans (by show sRngM b nn nr nt cc h = _; unfold sRngM; exact thn_x hS9.symm (by (try dsimp only); omega))
            exact cut_55_3 v_81 v_106 v_486 v_521 I_529 J_531 AI H locs ls zv_81 zv_106 zv_486 zv_521 hv hT pf ⟨_, _, by omega, hQ, hfin⟩ (by omega) (by omega) hH hS (lv_sub hl [4, 3, 2, 1, 0] rfl)
        · have hQ : mQ gh I_100 J_102 AI AJ mo b nn nr nt cc (pRf b nn nt nr (h + 2)) (h + 2) := by rw [er_108] at hQ; exact hQ
          have sr_108 := sr_108.symm.trans er_108
          have g9r_108 := mQ_f hQ (by omega)
          replace q_110 := (⟨q_110.1, q_110.2.1⟩ : _ ∧ _)
          obtain ⟨f0, ef0⟩ : ∃ q, q = (I_100 mo 24).toInt := ⟨_, rfl⟩
          have hr2 : Hid (f0 = 0 → v_106 < M ∧ fa0 = 0) := fun h9 => by omega
          refine lv_istore_n (lv' := [(2, .int (iI v_106)), (1, .int (iI v_81)), (0, .ref mo)]) F.1 F.2.1 dX7_ringTold_15 rfl hl (by decide) rfl (fun ls hl => ?_)
          refine lv_aload_n F.1 F.2.1 dX7_ringTold_16 rfl (lv_at hl 2 rfl) ?_
          refine va_ldcS F.1 F.2.1 F.2.2.2.1 (F.2.2.2.2.2.2.1 14 _ rfl).1 dX7_ringTold_17 ?_
          have b_539 := mJ hv hm
          unfold mNum1 at b_539
          refine g_callv (g_runV (As := [.ref (gSK g 14)]) (rest := []) (ci := 7) F hl.1 hH hS hz (c_X7_mustWordf l g gh T 14 _ 12 b nn nr nt cc (pRf b nn nt nr (h + 2)) (h + 2) I_100 R J_102 AI AJ AR mo hv hm hT (by omega) (rfl : sTab[14]? = some _) h65 hbM hr7 (by omega) hn9 (by omega) (by decide) (by decide +kernel) hQ) (cwV 1 F.2.2.2.2.1 (good_up gT_X7_mustWord) rfl rfl rfl hdX7_mustWord ⟨Nat.le_of_ble_eq_true rfl, Nat.le_of_ble_eq_true rfl⟩) hm (by decide) rfl rfl rfl (Nat.le_of_ble_eq_true rfl) dX7_ringTold_19 ⟨Nat.zero_le _, Nat.zero_le _⟩) hS (fun I_540 R_541 J_542 AI_543 AJ_544 AR_545 H locs hp_546 hH hS => ?_)
          dsimp only at hp_546
          obtain ⟨r_547, er_547⟩ : ∃ qQ : pR, qQ = thn ((pRf b nn nt nr (h + 2)), (h + 2), 0) (fun t _ => sTw b nn ((12 : Nat) : Int) t) := ⟨_, rfl⟩
          rw [← er_547] at hp_546
          obtain ⟨rfl, rfl, rfl, rfl, hv, pfq, q_548, hQ⟩ := hp_546
          have pf := qF_t pf pfq
          have u_549_2 : (I_540 mo 2).toInt = (I mo 2).toInt := by rw [pf 2 (by decide) (by decide) (by decide) (by decide) (by decide)]
          have u_549_5 : (I_540 mo 5).toInt = (I mo 5).toInt := by rw [pf 5 (by decide) (by decide) (by decide) (by decide) (by decide)]
          have u_549_14 : (I_540 mo 14).toInt = (I mo 14).toInt := by rw [pf 14 (by decide) (by decide) (by decide) (by decide) (by decide)]
          have u_549_16 : (I_540 mo 16).toInt = (I mo 16).toInt := by rw [pf 16 (by decide) (by decide) (by decide) (by decide) (by decide)]
          have u_549_18 : (I_540 mo 18).toInt = (I mo 18).toInt := by rw [pf 18 (by decide) (by decide) (by decide) (by decide) (by decide)]
          rw [thn_b (by omega)] at er_547
          have hQ : mQ gh I_540 J_542 AI AJ mo b nn nr nt cc (pRf b nn nt nr (h + 2)) (h + 2) := by rw [er_547] at hQ; exact hQ
          refine lv_aload_n F.1 F.2.1 dX7_ringTold_22 rfl (lv_at hl 2 rfl) ?_
          refine lv_aload_n F.1 F.2.1 dX7_ringTold_23 rfl (lv_at hl 2 rfl) ?_
          refine lv_iload_n F.1 F.2.1 dX7_ringTold_24 rfl (lv_at hl 1 rfl) ?_
          have b_551 := mJ hv hm
          unfold mNum1 at b_551
          refine g_calli (g_runV (As := [.int (iI v_81)]) (rest := [.ref mo]) (ci := 7) F hl.1 hH hS hz (c_X7_columns l g gh T I_540 R J_542 AI AJ AR mo v_81 zv_81 hv hm hT (by omega)) (cwV 1 F.2.2.2.2.1 (good_up gT_X7_columns) rfl rfl rfl hdX7_columns ⟨Nat.le_of_ble_eq_true rfl, Nat.le_of_ble_eq_true rfl⟩) hm (by decide) rfl rfl rfl (Nat.le_of_ble_eq_true rfl) dX7_ringTold_25 ⟨Nat.zero_le _, Nat.zero_le _⟩) hS (fun v_558 I_552 R_553 J_554 AI_555 AJ_556 AR_557 H locs zv_558 hp_559 hH hS => ?_)
          dsimp only at hp_559
          obtain ⟨rfl, rfl, rfl, rfl, rfl, rfl, q_550⟩ := hp_559
          refine g_calli (g_runV (As := [.int (iI v_558)]) (rest := []) (ci := 7) F hl.1 hH hS hz (c_X7_columnf l g gh T b nn nr nt cc (pRf b nn nt nr (h + 2)) (h + 2) I_540 R J_542 AI AJ AR mo v_558 zv_558 hv hm hT (by omega) h65 hbM hr7 (by omega) hn9 (by omega) hQ) (cwV 1 F.2.2.2.2.1 (good_up gT_X7_column) rfl rfl rfl hdX7_column ⟨Nat.le_of_ble_eq_true rfl, Nat.le_of_ble_eq_true rfl⟩) hm (by decide) rfl rfl rfl (Nat.le_of_ble_eq_true rfl) dX7_ringTold_28 ⟨Nat.zero_le _, Nat.zero_le _⟩) hS (fun v_566 I_560 R_561 J_562 AI_563 AJ_564 AR_565 H locs zv_566 hp_567 hH hS => ?_)
          dsimp only at hp_567
          obtain ⟨r_568, er_568⟩ : ∃ qQ : pR, qQ = thn ((pRf b nn nt nr (h + 2)), (h + 2), 0) (fun t _ => sCol b nn v_558 t) := ⟨_, rfl⟩
          rw [← er_568] at hp_567
          obtain ⟨rfl, rfl, rfl, rfl, hv, pfq, q_569, q_570, hQ, q_571⟩ := hp_567
          have pf := qF_t pf pfq
          have u_572_2 : (I_560 mo 2).toInt = (I mo 2).toInt := by rw [pf 2 (by decide) (by decide) (by decide) (by decide) (by decide)]
          have u_572_5 : (I_560 mo 5).toInt = (I mo 5).toInt := by rw [pf 5 (by decide) (by decide) (by decide) (by decide) (by decide)]
          have u_572_14 : (I_560 mo 14).toInt = (I mo 14).toInt := by rw [pf 14 (by decide) (by decide) (by decide) (by decide) (by decide)]
          have u_572_16 : (I_560 mo 16).toInt = (I mo 16).toInt := by rw [pf 16 (by decide) (by decide) (by decide) (by decide) (by decide)]
          have u_572_18 : (I_560 mo 18).toInt = (I mo 18).toInt := by rw [pf 18 (by decide) (by decide) (by decide) (by decide) (by decide)]
          rw [thn_b (by omega)] at er_568
          have hQ : mQ gh I_560 J_562 AI AJ mo b nn nr nt cc (pRf b nn nt nr (h + 2)) (h + 2) := by rw [er_568] at hQ; exact hQ
          replace q_570 := hid q_570
          obtain ⟨f1, ef1⟩ : ∃ q, q = (I_560 mo 24).toInt := ⟨_, rfl⟩
          have hc1 : Hid (f1 = 0 → 0 ≤ v_566 ∧ v_566 ≤ 3) := fun h9 => by omega
          refine lv_istore_n (lv' := [(3, .int (iI v_566)), (2, .int (iI v_106)), (1, .int (iI v_81)), (0, .ref mo)]) F.1 F.2.1 dX7_ringTold_31 rfl hl (by decide) rfl (fun ls hl => ?_)
          refine lv_aload_n F.1 F.2.1 dX7_ringTold_32 rfl (lv_at hl 3 rfl) ?_
          refine z_bipush F dX7_ringTold_33 (by decide) ?_
          have b_573 := mJ hv hm
          unfold mNum1 at b_573
          refine g_callv (g_runV (As := [.int (iI 61)]) (rest := []) (ci := 7) F hl.1 hH hS hz (c_X7_mustSignf l g gh T b nn nr nt cc (pRf b nn nt nr (h + 2)) (h + 2) I_560 R J_562 AI AJ AR mo 61 ⟨by decide, by decide⟩ hv hm hT (by omega) h65 hbM hr7 (by omega) hn9 (by omega) (by omega) hQ) (cwV 1 F.2.2.2.2.1 (good_up gT_X7_mustSign) rfl rfl rfl hdX7_mustSign ⟨Nat.le_of_ble_eq_true rfl, Nat.le_of_ble_eq_true rfl⟩) hm (by decide) rfl rfl rfl (Nat.le_of_ble_eq_true rfl) dX7_ringTold_35 ⟨Nat.zero_le _, Nat.zero_le _⟩) hS (fun I_574 R_575 J_576 AI_577 AJ_578 AR_579 H locs hp_580 hH hS => ?_)
          dsimp only at hp_580
          obtain ⟨r_581, er_581⟩ : ∃ qQ : pR, qQ = thn ((pRf b nn nt nr (h + 2)), (h + 2), 0) (fun t _ => sTk b nn 61 t) := ⟨_, rfl⟩
          rw [← er_581] at hp_580
          obtain ⟨rfl, rfl, rfl, rfl, hv, pfq, q_582, q_583, hQ⟩ := hp_580
          have pf := qF_t pf pfq
          have u_584_2 : (I_574 mo 2).toInt = (I mo 2).toInt := by rw [pf 2 (by decide) (by decide) (by decide) (by decide) (by decide)]
          have u_584_5 : (I_574 mo 5).toInt = (I mo 5).toInt := by rw [pf 5 (by decide) (by decide) (by decide) (by decide) (by decide)]
          have u_584_14 : (I_574 mo 14).toInt = (I mo 14).toInt := by rw [pf 14 (by decide) (by decide) (by decide) (by decide) (by decide)]
          have u_584_16 : (I_574 mo 16).toInt = (I mo 16).toInt := by rw [pf 16 (by decide) (by decide) (by decide) (by decide) (by decide)]
          have u_584_18 : (I_574 mo 18).toInt = (I mo 18).toInt := by rw [pf 18 (by decide) (by decide) (by decide) (by decide) (by decide)]
          rw [thn_b (by omega)] at er_581
          have hQ : mQ gh I_574 J_576 AI AJ mo b nn nr nt cc (pRf b nn nt nr (h + 2)) (h + 2) := by rw [er_581] at hQ; exact hQ
          replace q_583 := hid q_583
          refine lv_aload_n F.1 F.2.1 dX7_ringTold_38 rfl (lv_at hl 3 rfl) ?_
          refine lv_aload_n F.1 F.2.1 dX7_ringTold_39 rfl (lv_at hl 3 rfl) ?_
          refine lv_iload_n F.1 F.2.1 dX7_ringTold_40 rfl (lv_at hl 1 rfl) ?_
          have b_586 := mJ hv hm
          unfold mNum1 at b_586
          refine g_calli (g_runV (As := [.int (iI v_106)]) (rest := [.ref mo]) (ci := 7) F hl.1 hH hS hz (c_X7_columns l g gh T I_574 R J_576 AI AJ AR mo v_106 zv_106 hv hm hT (by omega)) (cwV 1 F.2.2.2.2.1 (good_up gT_X7_columns) rfl rfl rfl hdX7_columns ⟨Nat.le_of_ble_eq_true rfl, Nat.le_of_ble_eq_true rfl⟩) hm (by decide) rfl rfl rfl (Nat.le_of_ble_eq_true rfl) dX7_ringTold_41 ⟨Nat.zero_le _, Nat.zero_le _⟩) hS (fun v_593 I_587 R_588 J_589 AI_590 AJ_591 AR_592 H locs zv_593 hp_594 hH hS => ?_)
          dsimp only at hp_594
          obtain ⟨rfl, rfl, rfl, rfl, rfl, rfl, q_585⟩ := hp_594
          refine g_calli (g_runV (As := [.int (iI v_593)]) (rest := []) (ci := 7) F hl.1 hH hS hz (c_X7_columnf l g gh T b nn nr nt cc (pRf b nn nt nr (h + 2)) (h + 2) I_574 R J_576 AI AJ AR mo v_593 zv_593 hv hm hT (by omega) h65 hbM hr7 (by omega) hn9 (by omega) hQ) (cwV 1 F.2.2.2.2.1 (good_up gT_X7_column) rfl rfl rfl hdX7_column ⟨Nat.le_of_ble_eq_true rfl, Nat.le_of_ble_eq_true rfl⟩) hm (by decide) rfl rfl rfl (Nat.le_of_ble_eq_true rfl) dX7_ringTold_44 ⟨Nat.zero_le _, Nat.zero_le _⟩) hS (fun v_601 I_595 R_596 J_597 AI_598 AJ_599 AR_600 H locs zv_601 hp_602 hH hS => ?_)
          dsimp only at hp_602
          obtain ⟨r_603, er_603⟩ : ∃ qQ : pR, qQ = thn ((pRf b nn nt nr (h + 2)), (h + 2), 0) (fun t _ => sCol b nn v_593 t) := ⟨_, rfl⟩
          rw [← er_603] at hp_602
          obtain ⟨rfl, rfl, rfl, rfl, hv, pfq, q_604, q_605, hQ, q_606⟩ := hp_602
          have pf := qF_t pf pfq
          have u_607_2 : (I_595 mo 2).toInt = (I mo 2).toInt := by rw [pf 2 (by decide) (by decide) (by decide) (by decide) (by decide)]
          have u_607_5 : (I_595 mo 5).toInt = (I mo 5).toInt := by rw [pf 5 (by decide) (by decide) (by decide) (by decide) (by decide)]
          have u_607_14 : (I_595 mo 14).toInt = (I mo 14).toInt := by rw [pf 14 (by decide) (by decide) (by decide) (by decide) (by decide)]
          have u_607_16 : (I_595 mo 16).toInt = (I mo 16).toInt := by rw [pf 16 (by decide) (by decide) (by decide) (by decide) (by decide)]
          have u_607_18 : (I_595 mo 18).toInt = (I mo 18).toInt := by rw [pf 18 (by decide) (by decide) (by decide) (by decide) (by decide)]
          rw [thn_b (by omega)] at er_603
          have hQ : mQ gh I_595 J_597 AI AJ mo b nn nr nt cc (pRf b nn nt nr (h + 2)) (h + 2) := by rw [er_603] at hQ; exact hQ
          replace q_605 := hid q_605
          obtain ⟨f2, ef2⟩ : ∃ q, q = (I_595 mo 24).toInt := ⟨_, rfl⟩
          have hd1 : Hid (f2 = 0 → 0 ≤ v_601 ∧ v_601 ≤ 3) := fun h9 => by omega
          refine lv_istore (lv' := [(4, .int (iI v_601)), (3, .int (iI v_566)), (2, .int (iI v_106)), (1, .int (iI v_81)), (0, .ref mo)]) F.1 F.2.1 dX7_ringTold_47 hl (by decide) rfl (fun ls hl => ?_)
          refine lv_aload_n F.1 F.2.1 dX7_ringTold_49 rfl (lv_at hl 4 rfl) ?_
          refine va_ldcS F.1 F.2.1 F.2.2.2.1 (F.2.2.2.2.2.2.1 26 _ rfl).1 dX7_ringTold_50 ?_
          have b_608 := mJ hv hm
          unfold mNum1 at b_608
          refine g_callv (g_runV (As := [.ref (gSK g 26)]) (rest := []) (ci := 7) F hl.1 hH hS hz (c_X7_mustWordf l g gh T 26 _ 15 b nn nr nt cc (pRf b nn nt nr (h + 2)) (h + 2) I_595 R J_597 AI AJ AR mo hv hm hT (by omega) (rfl : sTab[26]? = some _) h65 hbM hr7 (by omega) hn9 (by omega) (by decide) (by decide +kernel) hQ) (cwV 1 F.2.2.2.2.1 (good_up gT_X7_mustWord) rfl rfl rfl hdX7_mustWord ⟨Nat.le_of_ble_eq_true rfl, Nat.le_of_ble_eq_true rfl⟩) hm (by decide) rfl rfl rfl (Nat.le_of_ble_eq_true rfl) dX7_ringTold_52 ⟨Nat.zero_le _, Nat.zero_le _⟩) hS (fun I_609 R_610 J_611 AI_612 AJ_613 AR_614 H locs hp_615 hH hS => ?_)
          dsimp only at hp_615
          obtain ⟨r_616, er_616⟩ : ∃ qQ : pR, qQ = thn ((pRf b nn nt nr (h + 2)), (h + 2), 0) (fun t _ => sTw b nn ((15 : Nat) : Int) t) := ⟨_, rfl⟩
          rw [← er_616] at hp_615
          obtain ⟨rfl, rfl, rfl, rfl, hv, pfq, q_617, hQ⟩ := hp_615
          have pf := qF_t pf pfq
          have u_618_2 : (I_609 mo 2).toInt = (I mo 2).toInt := by rw [pf 2 (by decide) (by decide) (by decide) (by decide) (by decide)]
          have u_618_5 : (I_609 mo 5).toInt = (I mo 5).toInt := by rw [pf 5 (by decide) (by decide) (by decide) (by decide) (by decide)]
          have u_618_14 : (I_609 mo 14).toInt = (I mo 14).toInt := by rw [pf 14 (by decide) (by decide) (by decide) (by decide) (by decide)]
          have u_618_16 : (I_609 mo 16).toInt = (I mo 16).toInt := by rw [pf 16 (by decide) (by decide) (by decide) (by decide) (by decide)]
          have u_618_18 : (I_609 mo 18).toInt = (I mo 18).toInt := by rw [pf 18 (by decide) (by decide) (by decide) (by decide) (by decide)]
          rw [thn_b (by omega)] at er_616
          have hQ : mQ gh I_609 J_611 AI AJ mo b nn nr nt cc (pRf b nn nt nr (h + 2)) (h + 2) := by rw [er_616] at hQ; exact hQ
          have hS9 : sRng b nn nr nt cc h = (pRf b nn nt nr (h + 2), h + 2, 0) := by unfold sRng; exact thn_y sr_83.symm rfl (thn_y sr_96.symm rfl (thn_x sr_108.symm (by omega)))
          have hfin : thn (f, h, 0) (fun t _ => sRngM b nn nr nt cc t) = (pRf b nn nt nr (h + 2), h + 2, 0) := (thn_k q0).trans (by show sRngM b nn nr nt cc h = _; unfold sRngM; exact thn_x hS9.symm (by (try dsimp only); omega))
          exact cut_55_3 v_81 v_106 v_566 v_601 I_609 J_611 AI H locs ls zv_81 zv_106 zv_566 zv_601 hv hT pf ⟨_, _, by omega, hQ, hfin⟩ (by omega) (by omega) hH hS (lv_sub hl [4, 3, 2, 1, 0] rfl)
      · have hQ : mQ gh I_89 J_91 AI AJ mo b nn nr nt cc 1 (h + 1) := by rw [er_96] at hQ; exact hQ
        have sr_96 := sr_96.symm.trans er_96
        have g9r_96 := mQ_f hQ (by omega)
        refine lv_aload_n F.1 F.2.1 dX7_ringTold_11 rfl (lv_at hl 1 rfl) ?_
        have b_619 := mJ hv hm
        unfold mNum1 at b_619
        refine g_calli (g_runV (As := []) (rest := []) (ci := 7) F hl.1 hH hS hz (c_X7_relationf l g gh T b nn nr nt cc 1 (h + 1) I_89 R J_91 AI AJ AR mo hv hm hT (by omega) h65 hbM hr7 (by omega) hn9 (by omega) hQ) (cwV 0 F.2.2.2.2.1 (good_up gT_X7_relation) rfl rfl rfl hdX7_relation ⟨Nat.le_of_ble_eq_true rfl, Nat.le_of_ble_eq_true rfl⟩) hm (by decide) rfl rfl rfl (Nat.le_of_ble_eq_true rfl) dX7_ringTold_12 ⟨Nat.zero_le _, Nat.zero_le _⟩) hS (fun v_626 I_620 R_621 J_622 AI_623 AJ_624 AR_625 H locs zv_626 hp_627 hH hS => ?_)
        dsimp only at hp_627
        obtain ⟨r_628, er_628⟩ : ∃ qQ : pR, qQ = thn (1, (h + 1), 0) (fun t _ => sRl b nn nr nt cc t) := ⟨_, rfl⟩
        rw [← er_628] at hp_627
        obtain ⟨rfl, rfl, rfl, rfl, hv, pfq, q_629, q_630, hQ, q_631⟩ := hp_627
        have pf := qF_t pf pfq
        have u_632_2 : (I_620 mo 2).toInt = (I mo 2).toInt := by rw [pf 2 (by decide) (by decide) (by decide) (by decide) (by decide)]
        have u_632_5 : (I_620 mo 5).toInt = (I mo 5).toInt := by rw [pf 5 (by decide) (by decide) (by decide) (by decide) (by decide)]
        have u_632_14 : (I_620 mo 14).toInt = (I mo 14).toInt := by rw [pf 14 (by decide) (by decide) (by decide) (by decide) (by decide)]
        have u_632_16 : (I_620 mo 16).toInt = (I mo 16).toInt := by rw [pf 16 (by decide) (by decide) (by decide) (by decide) (by decide)]
        have u_632_18 : (I_620 mo 18).toInt = (I mo 18).toInt := by rw [pf 18 (by decide) (by decide) (by decide) (by decide) (by decide)]
        rw [thn_b (by omega)] at er_628
        have hQ : mQ gh I_620 J_622 AI AJ mo b nn nr nt cc 1 (h + 1) := by rw [er_628] at hQ; exact hQ
        replace q_630 := (⟨q_630.1, q_630.2.1⟩ : _ ∧ _)
        obtain ⟨f0, ef0⟩ : ∃ q, q = (I_620 mo 24).toInt := ⟨_, rfl⟩
        have hr2 : Hid (f0 = 0 → v_626 < M ∧ fa0 = 0) := fun h9 => by omega
        refine lv_istore_n (lv' := [(2, .int (iI v_626)), (1, .int (iI v_81)), (0, .ref mo)]) F.1 F.2.1 dX7_ringTold_15 rfl hl (by decide) rfl (fun ls hl => ?_)
        refine lv_aload_n F.1 F.2.1 dX7_ringTold_16 rfl (lv_at hl 2 rfl) ?_
        refine va_ldcS F.1 F.2.1 F.2.2.2.1 (F.2.2.2.2.2.2.1 14 _ rfl).1 dX7_ringTold_17 ?_
        have b_633 := mJ hv hm
        unfold mNum1 at b_633
        refine g_callv (g_runV (As := [.ref (gSK g 14)]) (rest := []) (ci := 7) F hl.1 hH hS hz (c_X7_mustWordf l g gh T 14 _ 12 b nn nr nt cc 1 (h + 1) I_620 R J_622 AI AJ AR mo hv hm hT (by omega) (rfl : sTab[14]? = some _) h65 hbM hr7 (by omega) hn9 (by omega) (by decide) (by decide +kernel) hQ) (cwV 1 F.2.2.2.2.1 (good_up gT_X7_mustWord) rfl rfl rfl hdX7_mustWord ⟨Nat.le_of_ble_eq_true rfl, Nat.le_of_ble_eq_true rfl⟩) hm (by decide) rfl rfl rfl (Nat.le_of_ble_eq_true rfl) dX7_ringTold_19 ⟨Nat.zero_le _, Nat.zero_le _⟩) hS (fun I_634 R_635 J_636 AI_637 AJ_638 AR_639 H locs hp_640 hH hS => ?_)
        dsimp only at hp_640
        obtain ⟨r_641, er_641⟩ : ∃ qQ : pR, qQ = thn (1, (h + 1), 0) (fun t _ => sTw b nn ((12 : Nat) : Int) t) := ⟨_, rfl⟩
        rw [← er_641] at hp_640
        obtain ⟨rfl, rfl, rfl, rfl, hv, pfq, q_642, hQ⟩ := hp_640
        have pf := qF_t pf pfq
        have u_643_2 : (I_634 mo 2).toInt = (I mo 2).toInt := by rw [pf 2 (by decide) (by decide) (by decide) (by decide) (by decide)]
        have u_643_5 : (I_634 mo 5).toInt = (I mo 5).toInt := by rw [pf 5 (by decide) (by decide) (by decide) (by decide) (by decide)]
        have u_643_14 : (I_634 mo 14).toInt = (I mo 14).toInt := by rw [pf 14 (by decide) (by decide) (by decide) (by decide) (by decide)]
        have u_643_16 : (I_634 mo 16).toInt = (I mo 16).toInt := by rw [pf 16 (by decide) (by decide) (by decide) (by decide) (by decide)]
        have u_643_18 : (I_634 mo 18).toInt = (I mo 18).toInt := by rw [pf 18 (by decide) (by decide) (by decide) (by decide) (by decide)]
        rw [thn_b (by omega)] at er_641
        have hQ : mQ gh I_634 J_636 AI AJ mo b nn nr nt cc 1 (h + 1) := by rw [er_641] at hQ; exact hQ
        refine lv_aload_n F.1 F.2.1 dX7_ringTold_22 rfl (lv_at hl 2 rfl) ?_
        refine lv_aload_n F.1 F.2.1 dX7_ringTold_23 rfl (lv_at hl 2 rfl) ?_
        refine lv_iload_n F.1 F.2.1 dX7_ringTold_24 rfl (lv_at hl 1 rfl) ?_
        have b_645 := mJ hv hm
        unfold mNum1 at b_645
        refine g_calli (g_runV (As := [.int (iI v_81)]) (rest := [.ref mo]) (ci := 7) F hl.1 hH hS hz (c_X7_columns l g gh T I_634 R J_636 AI AJ AR mo v_81 zv_81 hv hm hT (by omega)) (cwV 1 F.2.2.2.2.1 (good_up gT_X7_columns) rfl rfl rfl hdX7_columns ⟨Nat.le_of_ble_eq_true rfl, Nat.le_of_ble_eq_true rfl⟩) hm (by decide) rfl rfl rfl (Nat.le_of_ble_eq_true rfl) dX7_ringTold_25 ⟨Nat.zero_le _, Nat.zero_le _⟩) hS (fun v_652 I_646 R_647 J_648 AI_649 AJ_650 AR_651 H locs zv_652 hp_653 hH hS => ?_)
        dsimp only at hp_653
        obtain ⟨rfl, rfl, rfl, rfl, rfl, rfl, q_644⟩ := hp_653
        refine g_calli (g_runV (As := [.int (iI v_652)]) (rest := []) (ci := 7) F hl.1 hH hS hz (c_X7_columnf l g gh T b nn nr nt cc 1 (h + 1) I_634 R J_636 AI AJ AR mo v_652 zv_652 hv hm hT (by omega) h65 hbM hr7 (by omega) hn9 (by omega) hQ) (cwV 1 F.2.2.2.2.1 (good_up gT_X7_column) rfl rfl rfl hdX7_column ⟨Nat.le_of_ble_eq_true rfl, Nat.le_of_ble_eq_true rfl⟩) hm (by decide) rfl rfl rfl (Nat.le_of_ble_eq_true rfl) dX7_ringTold_28 ⟨Nat.zero_le _, Nat.zero_le _⟩) hS (fun v_660 I_654 R_655 J_656 AI_657 AJ_658 AR_659 H locs zv_660 hp_661 hH hS => ?_)
        dsimp only at hp_661
        obtain ⟨r_662, er_662⟩ : ∃ qQ : pR, qQ = thn (1, (h + 1), 0) (fun t _ => sCol b nn v_652 t) := ⟨_, rfl⟩
        rw [← er_662] at hp_661
        obtain ⟨rfl, rfl, rfl, rfl, hv, pfq, q_663, q_664, hQ, q_665⟩ := hp_661
        have pf := qF_t pf pfq
        have u_666_2 : (I_654 mo 2).toInt = (I mo 2).toInt := by rw [pf 2 (by decide) (by decide) (by decide) (by decide) (by decide)]
        have u_666_5 : (I_654 mo 5).toInt = (I mo 5).toInt := by rw [pf 5 (by decide) (by decide) (by decide) (by decide) (by decide)]
        have u_666_14 : (I_654 mo 14).toInt = (I mo 14).toInt := by rw [pf 14 (by decide) (by decide) (by decide) (by decide) (by decide)]
        have u_666_16 : (I_654 mo 16).toInt = (I mo 16).toInt := by rw [pf 16 (by decide) (by decide) (by decide) (by decide) (by decide)]
        have u_666_18 : (I_654 mo 18).toInt = (I mo 18).toInt := by rw [pf 18 (by decide) (by decide) (by decide) (by decide) (by decide)]
        rw [thn_b (by omega)] at er_662
        have hQ : mQ gh I_654 J_656 AI AJ mo b nn nr nt cc 1 (h + 1) := by rw [er_662] at hQ; exact hQ
        replace q_664 := hid q_664
        obtain ⟨f1, ef1⟩ : ∃ q, q = (I_654 mo 24).toInt := ⟨_, rfl⟩
        have hc1 : Hid (f1 = 0 → 0 ≤ v_660 ∧ v_660 ≤ 3) := fun h9 => by omega
        refine lv_istore_n (lv' := [(3, .int (iI v_660)), (2, .int (iI v_626)), (1, .int (iI v_81)), (0, .ref mo)]) F.1 F.2.1 dX7_ringTold_31 rfl hl (by decide) rfl (fun ls hl => ?_)
        refine lv_aload_n F.1 F.2.1 dX7_ringTold_32 rfl (lv_at hl 3 rfl) ?_
        refine z_bipush F dX7_ringTold_33 (by decide) ?_
        have b_667 := mJ hv hm
        unfold mNum1 at b_667
        refine g_callv (g_runV (As := [.int (iI 61)]) (rest := []) (ci := 7) F hl.1 hH hS hz (c_X7_mustSignf l g gh T b nn nr nt cc 1 (h + 1) I_654 R J_656 AI AJ AR mo 61 ⟨by decide, by decide⟩ hv hm hT (by omega) h65 hbM hr7 (by omega) hn9 (by omega) (by omega) hQ) (cwV 1 F.2.2.2.2.1 (good_up gT_X7_mustSign) rfl rfl rfl hdX7_mustSign ⟨Nat.le_of_ble_eq_true rfl, Nat.le_of_ble_eq_true rfl⟩) hm (by decide) rfl rfl rfl (Nat.le_of_ble_eq_true rfl) dX7_ringTold_35 ⟨Nat.zero_le _, Nat.zero_le _⟩) hS (fun I_668 R_669 J_670 AI_671 AJ_672 AR_673 H locs hp_674 hH hS => ?_)
        dsimp only at hp_674
        obtain ⟨r_675, er_675⟩ : ∃ qQ : pR, qQ = thn (1, (h + 1), 0) (fun t _ => sTk b nn 61 t) := ⟨_, rfl⟩
        rw [← er_675] at hp_674
        obtain ⟨rfl, rfl, rfl, rfl, hv, pfq, q_676, q_677, hQ⟩ := hp_674
        have pf := qF_t pf pfq
        have u_678_2 : (I_668 mo 2).toInt = (I mo 2).toInt := by rw [pf 2 (by decide) (by decide) (by decide) (by decide) (by decide)]
        have u_678_5 : (I_668 mo 5).toInt = (I mo 5).toInt := by rw [pf 5 (by decide) (by decide) (by decide) (by decide) (by decide)]
        have u_678_14 : (I_668 mo 14).toInt = (I mo 14).toInt := by rw [pf 14 (by decide) (by decide) (by decide) (by decide) (by decide)]
        have u_678_16 : (I_668 mo 16).toInt = (I mo 16).toInt := by rw [pf 16 (by decide) (by decide) (by decide) (by decide) (by decide)]
        have u_678_18 : (I_668 mo 18).toInt = (I mo 18).toInt := by rw [pf 18 (by decide) (by decide) (by decide) (by decide) (by decide)]
        rw [thn_b (by omega)] at er_675
        have hQ : mQ gh I_668 J_670 AI AJ mo b nn nr nt cc 1 (h + 1) := by rw [er_675] at hQ; exact hQ
        replace q_677 := hid q_677
        refine lv_aload_n F.1 F.2.1 dX7_ringTold_38 rfl (lv_at hl 3 rfl) ?_
        refine lv_aload_n F.1 F.2.1 dX7_ringTold_39 rfl (lv_at hl 3 rfl) ?_
        refine lv_iload_n F.1 F.2.1 dX7_ringTold_40 rfl (lv_at hl 1 rfl) ?_
        have b_680 := mJ hv hm
        unfold mNum1 at b_680
        refine g_calli (g_runV (As := [.int (iI v_626)]) (rest := [.ref mo]) (ci := 7) F hl.1 hH hS hz (c_X7_columns l g gh T I_668 R J_670 AI AJ AR mo v_626 zv_626 hv hm hT (by omega)) (cwV 1 F.2.2.2.2.1 (good_up gT_X7_columns) rfl rfl rfl hdX7_columns ⟨Nat.le_of_ble_eq_true rfl, Nat.le_of_ble_eq_true rfl⟩) hm (by decide) rfl rfl rfl (Nat.le_of_ble_eq_true rfl) dX7_ringTold_41 ⟨Nat.zero_le _, Nat.zero_le _⟩) hS (fun v_687 I_681 R_682 J_683 AI_684 AJ_685 AR_686 H locs zv_687 hp_688 hH hS => ?_)
        dsimp only at hp_688
        obtain ⟨rfl, rfl, rfl, rfl, rfl, rfl, q_679⟩ := hp_688
        refine g_calli (g_runV (As := [.int (iI v_687)]) (rest := []) (ci := 7) F hl.1 hH hS hz (c_X7_columnf l g gh T b nn nr nt cc 1 (h + 1) I_668 R J_670 AI AJ AR mo v_687 zv_687 hv hm hT (by omega) h65 hbM hr7 (by omega) hn9 (by omega) hQ) (cwV 1 F.2.2.2.2.1 (good_up gT_X7_column) rfl rfl rfl hdX7_column ⟨Nat.le_of_ble_eq_true rfl, Nat.le_of_ble_eq_true rfl⟩) hm (by decide) rfl rfl rfl (Nat.le_of_ble_eq_true rfl) dX7_ringTold_44 ⟨Nat.zero_le _, Nat.zero_le _⟩) hS (fun v_695 I_689 R_690 J_691 AI_692 AJ_693 AR_694 H locs zv_695 hp_696 hH hS => ?_)
        dsimp only at hp_696
        obtain ⟨r_697, er_697⟩ : ∃ qQ : pR, qQ = thn (1, (h + 1), 0) (fun t _ => sCol b nn v_687 t) := ⟨_, rfl⟩
        rw [← er_697] at hp_696
        obtain ⟨rfl, rfl, rfl, rfl, hv, pfq, q_698, q_699, hQ, q_700⟩ := hp_696
        have pf := qF_t pf pfq
        have u_701_2 : (I_689 mo 2).toInt = (I mo 2).toInt := by rw [pf 2 (by decide) (by decide) (by decide) (by decide) (by decide)]
        have u_701_5 : (I_689 mo 5).toInt = (I mo 5).toInt := by rw [pf 5 (by decide) (by decide) (by decide) (by decide) (by decide)]
        have u_701_14 : (I_689 mo 14).toInt = (I mo 14).toInt := by rw [pf 14 (by decide) (by decide) (by decide) (by decide) (by decide)]
        have u_701_16 : (I_689 mo 16).toInt = (I mo 16).toInt := by rw [pf 16 (by decide) (by decide) (by decide) (by decide) (by decide)]
        have u_701_18 : (I_689 mo 18).toInt = (I mo 18).toInt := by rw [pf 18 (by decide) (by decide) (by decide) (by decide) (by decide)]
        rw [thn_b (by omega)] at er_697
        have hQ : mQ gh I_689 J_691 AI AJ mo b nn nr nt cc 1 (h + 1) := by rw [er_697] at hQ; exact hQ
        replace q_699 := hid q_699
        obtain ⟨f2, ef2⟩ : ∃ q, q = (I_689 mo 24).toInt := ⟨_, rfl⟩
        have hd1 : Hid (f2 = 0 → 0 ≤ v_695 ∧ v_695 ≤ 3) := fun h9 => by omega
        refine lv_istore (lv' := [(4, .int (iI v_695)), (3, .int (iI v_660)), (2, .int (iI v_626)), (1, .int (iI v_81)), (0, .ref mo)]) F.1 F.2.1 dX7_ringTold_47 hl (by decide) rfl (fun ls hl => ?_)
        refine lv_aload_n F.1 F.2.1 dX7_ringTold_49 rfl (lv_at hl 4 rfl) ?_
        refine va_ldcS F.1 F.2.1 F.2.2.2.1 (F.2.2.2.2.2.2.1 26 _ rfl).1 dX7_ringTold_50 ?_
        have b_702 := mJ hv hm
        unfold mNum1 at b_702
        refine g_callv (g_runV (As := [.ref (gSK g 26)]) (rest := []) (ci := 7) F hl.1 hH hS hz (c_X7_mustWordf l g gh T 26 _ 15 b nn nr nt cc 1 (h + 1) I_689 R J_691 AI AJ AR mo hv hm hT (by omega) (rfl : sTab[26]? = some _) h65 hbM hr7 (by omega) hn9 (by omega) (by decide) (by decide +kernel) hQ) (cwV 1 F.2.2.2.2.1 (good_up gT_X7_mustWord) rfl rfl rfl hdX7_mustWord ⟨Nat.le_of_ble_eq_true rfl, Nat.le_of_ble_eq_true rfl⟩) hm (by decide) rfl rfl rfl (Nat.le_of_ble_eq_true rfl) dX7_ringTold_52 ⟨Nat.zero_le _, Nat.zero_le _⟩) hS (fun I_703 R_704 J_705 AI_706 AJ_707 AR_708 H locs hp_709 hH hS => ?_)
        dsimp only at hp_709
        obtain ⟨r_710, er_710⟩ : ∃ qQ : pR, qQ = thn (1, (h + 1), 0) (fun t _ => sTw b nn ((15 : Nat) : Int) t) := ⟨_, rfl⟩
        rw [← er_710] at hp_709
        obtain ⟨rfl, rfl, rfl, rfl, hv, pfq, q_711, hQ⟩ := hp_709
        have pf := qF_t pf pfq
        have u_712_2 : (I_703 mo 2).toInt = (I mo 2).toInt := by rw [pf 2 (by decide) (by decide) (by decide) (by decide) (by decide)]
        have u_712_5 : (I_703 mo 5).toInt = (I mo 5).toInt := by rw [pf 5 (by decide) (by decide) (by decide) (by decide) (by decide)]
        have u_712_14 : (I_703 mo 14).toInt = (I mo 14).toInt := by rw [pf 14 (by decide) (by decide) (by decide) (by decide) (by decide)]
        have u_712_16 : (I_703 mo 16).toInt = (I mo 16).toInt := by rw [pf 16 (by decide) (by decide) (by decide) (by decide) (by decide)]
        have u_712_18 : (I_703 mo 18).toInt = (I mo 18).toInt := by rw [pf 18 (by decide) (by decide) (by decide) (by decide) (by decide)]
        rw [thn_b (by omega)] at er_710
        have hQ : mQ gh I_703 J_705 AI AJ mo b nn nr nt cc 1 (h + 1) := by rw [er_710] at hQ; exact hQ
        have hS9 : sRng b nn nr nt cc h = (1, h + 1, 0) := by unfold sRng; exact thn_y sr_83.symm rfl (thn_x sr_96.symm (by omega))
        have hfin : thn (f, h, 0) (fun t _ => sRngM b nn nr nt cc t) = (1, h + 1, 0) := (thn_k q0).trans (by show sRngM b nn nr nt cc h = _; unfold sRngM; exact thn_x hS9.symm (by (try dsimp only); omega))
        exact cut_55_3 v_81 v_626 v_660 v_695 I_703 J_705 AI H locs ls zv_81 zv_626 zv_660 zv_695 hv hT pf ⟨_, _, by omega, hQ, hfin⟩ (by omega) (by omega) hH hS (lv_sub hl [4, 3, 2, 1, 0] rfl)
    · have hQ : mQ gh I_75 J_77 AI AJ mo b nn nr nt cc (pRf b nn nt nr h) h := by rw [er_83] at hQ; exact hQ
      have sr_83 := sr_83.symm.trans er_83
      have g9r_83 := mQ_f hQ (by omega)
      replace q_85 := (⟨q_85.1, q_85.2.1⟩ : _ ∧ _)
      obtain ⟨fa0, efa0⟩ : ∃ q, q = (I_75 mo 24).toInt := ⟨_, rfl⟩
      have hra : Hid (fa0 = 0 → v_81 < M) := fun h9 => by omega
      refine lv_istore_n (lv' := [(1, .int (iI v_81)), (0, .ref mo)]) F.1 F.2.1 dX7_ringTold_4 rfl hl (by decide) rfl (fun ls hl => ?_)
      refine lv_aload_n F.1 F.2.1 dX7_ringTold_5 rfl (lv_at hl 1 rfl) ?_
      refine va_ldcS F.1 F.2.1 F.2.2.2.1 (F.2.2.2.2.2.2.1 25 _ rfl).1 dX7_ringTold_6 ?_
      have b_713 := mJ hv hm
      unfold mNum1 at b_713
      refine g_callv (g_runV (As := [.ref (gSK g 25)]) (rest := []) (ci := 7) F hl.1 hH hS hz (c_X7_mustWordf l g gh T 25 _ 14 b nn nr nt cc (pRf b nn nt nr h) h I_75 R J_77 AI AJ AR mo hv hm hT (by omega) (rfl : sTab[25]? = some _) h65 hbM hr7 (by omega) hn9 (by omega) (by decide) (by decide +kernel) hQ) (cwV 1 F.2.2.2.2.1 (good_up gT_X7_mustWord) rfl rfl rfl hdX7_mustWord ⟨Nat.le_of_ble_eq_true rfl, Nat.le_of_ble_eq_true rfl⟩) hm (by decide) rfl rfl rfl (Nat.le_of_ble_eq_true rfl) dX7_ringTold_8 ⟨Nat.zero_le _, Nat.zero_le _⟩) hS (fun I_714 R_715 J_716 AI_717 AJ_718 AR_719 H locs hp_720 hH hS => ?_)
      dsimp only at hp_720
      obtain ⟨r_721, er_721⟩ : ∃ qQ : pR, qQ = thn ((pRf b nn nt nr h), h, 0) (fun t _ => sTw b nn ((14 : Nat) : Int) t) := ⟨_, rfl⟩
      rw [← er_721] at hp_720
      obtain ⟨rfl, rfl, rfl, rfl, hv, pfq, q_722, hQ⟩ := hp_720
      have pf := qF_t pf pfq
      have u_723_2 : (I_714 mo 2).toInt = (I mo 2).toInt := by rw [pf 2 (by decide) (by decide) (by decide) (by decide) (by decide)]
      have u_723_5 : (I_714 mo 5).toInt = (I mo 5).toInt := by rw [pf 5 (by decide) (by decide) (by decide) (by decide) (by decide)]
      have u_723_14 : (I_714 mo 14).toInt = (I mo 14).toInt := by rw [pf 14 (by decide) (by decide) (by decide) (by decide) (by decide)]
      have u_723_16 : (I_714 mo 16).toInt = (I mo 16).toInt := by rw [pf 16 (by decide) (by decide) (by decide) (by decide) (by decide)]
      have u_723_18 : (I_714 mo 18).toInt = (I mo 18).toInt := by rw [pf 18 (by decide) (by decide) (by decide) (by decide) (by decide)]
      rw [thn_b (by omega)] at er_721
      have hQ : mQ gh I_714 J_716 AI AJ mo b nn nr nt cc (pRf b nn nt nr h) h := by rw [er_721] at hQ; exact hQ
      refine lv_aload_n F.1 F.2.1 dX7_ringTold_11 rfl (lv_at hl 1 rfl) ?_
      have b_724 := mJ hv hm
      unfold mNum1 at b_724
      refine g_calli (g_runV (As := []) (rest := []) (ci := 7) F hl.1 hH hS hz (c_X7_relationf l g gh T b nn nr nt cc (pRf b nn nt nr h) h I_714 R J_716 AI AJ AR mo hv hm hT (by omega) h65 hbM hr7 (by omega) hn9 (by omega) hQ) (cwV 0 F.2.2.2.2.1 (good_up gT_X7_relation) rfl rfl rfl hdX7_relation ⟨Nat.le_of_ble_eq_true rfl, Nat.le_of_ble_eq_true rfl⟩) hm (by decide) rfl rfl rfl (Nat.le_of_ble_eq_true rfl) dX7_ringTold_12 ⟨Nat.zero_le _, Nat.zero_le _⟩) hS (fun v_731 I_725 R_726 J_727 AI_728 AJ_729 AR_730 H locs zv_731 hp_732 hH hS => ?_)
      dsimp only at hp_732
      obtain ⟨r_733, er_733⟩ : ∃ qQ : pR, qQ = thn ((pRf b nn nt nr h), h, 0) (fun t _ => sRl b nn nr nt cc t) := ⟨_, rfl⟩
      rw [← er_733] at hp_732
      obtain ⟨rfl, rfl, rfl, rfl, hv, pfq, q_734, q_735, hQ, q_736⟩ := hp_732
      have pf := qF_t pf pfq
      have u_737_2 : (I_725 mo 2).toInt = (I mo 2).toInt := by rw [pf 2 (by decide) (by decide) (by decide) (by decide) (by decide)]
      have u_737_5 : (I_725 mo 5).toInt = (I mo 5).toInt := by rw [pf 5 (by decide) (by decide) (by decide) (by decide) (by decide)]
      have u_737_14 : (I_725 mo 14).toInt = (I mo 14).toInt := by rw [pf 14 (by decide) (by decide) (by decide) (by decide) (by decide)]
      have u_737_16 : (I_725 mo 16).toInt = (I mo 16).toInt := by rw [pf 16 (by decide) (by decide) (by decide) (by decide) (by decide)]
      have u_737_18 : (I_725 mo 18).toInt = (I mo 18).toInt := by rw [pf 18 (by decide) (by decide) (by decide) (by decide) (by decide)]
      rw [thn_b (by omega)] at er_733
      have hQ : mQ gh I_725 J_727 AI AJ mo b nn nr nt cc (pRf b nn nt nr h) h := by rw [er_733] at hQ; exact hQ
      replace q_735 := (⟨q_735.1, q_735.2.1⟩ : _ ∧ _)
      obtain ⟨f0, ef0⟩ : ∃ q, q = (I_725 mo 24).toInt := ⟨_, rfl⟩
      have hr2 : Hid (f0 = 0 → v_731 < M ∧ fa0 = 0) := fun h9 => by omega
      refine lv_istore_n (lv' := [(2, .int (iI v_731)), (1, .int (iI v_81)), (0, .ref mo)]) F.1 F.2.1 dX7_ringTold_15 rfl hl (by decide) rfl (fun ls hl => ?_)
      refine lv_aload_n F.1 F.2.1 dX7_ringTold_16 rfl (lv_at hl 2 rfl) ?_
      refine va_ldcS F.1 F.2.1 F.2.2.2.1 (F.2.2.2.2.2.2.1 14 _ rfl).1 dX7_ringTold_17 ?_
      have b_738 := mJ hv hm
      unfold mNum1 at b_738
      refine g_callv (g_runV (As := [.ref (gSK g 14)]) (rest := []) (ci := 7) F hl.1 hH hS hz (c_X7_mustWordf l g gh T 14 _ 12 b nn nr nt cc (pRf b nn nt nr h) h I_725 R J_727 AI AJ AR mo hv hm hT (by omega) (rfl : sTab[14]? = some _) h65 hbM hr7 (by omega) hn9 (by omega) (by decide) (by decide +kernel) hQ) (cwV 1 F.2.2.2.2.1 (good_up gT_X7_mustWord) rfl rfl rfl hdX7_mustWord ⟨Nat.le_of_ble_eq_true rfl, Nat.le_of_ble_eq_true rfl⟩) hm (by decide) rfl rfl rfl (Nat.le_of_ble_eq_true rfl) dX7_ringTold_19 ⟨Nat.zero_le _, Nat.zero_le _⟩) hS (fun I_739 R_740 J_741 AI_742 AJ_743 AR_744 H locs hp_745 hH hS => ?_)
      dsimp only at hp_745
      obtain ⟨r_746, er_746⟩ : ∃ qQ : pR, qQ = thn ((pRf b nn nt nr h), h, 0) (fun t _ => sTw b nn ((12 : Nat) : Int) t) := ⟨_, rfl⟩
      rw [← er_746] at hp_745
      obtain ⟨rfl, rfl, rfl, rfl, hv, pfq, q_747, hQ⟩ := hp_745
      have pf := qF_t pf pfq
      have u_748_2 : (I_739 mo 2).toInt = (I mo 2).toInt := by rw [pf 2 (by decide) (by decide) (by decide) (by decide) (by decide)]
      have u_748_5 : (I_739 mo 5).toInt = (I mo 5).toInt := by rw [pf 5 (by decide) (by decide) (by decide) (by decide) (by decide)]
      have u_748_14 : (I_739 mo 14).toInt = (I mo 14).toInt := by rw [pf 14 (by decide) (by decide) (by decide) (by decide) (by decide)]
      have u_748_16 : (I_739 mo 16).toInt = (I mo 16).toInt := by rw [pf 16 (by decide) (by decide) (by decide) (by decide) (by decide)]
      have u_748_18 : (I_739 mo 18).toInt = (I mo 18).toInt := by rw [pf 18 (by decide) (by decide) (by decide) (by decide) (by decide)]
      rw [thn_b (by omega)] at er_746
      have hQ : mQ gh I_739 J_741 AI AJ mo b nn nr nt cc (pRf b nn nt nr h) h := by rw [er_746] at hQ; exact hQ
      refine lv_aload_n F.1 F.2.1 dX7_ringTold_22 rfl (lv_at hl 2 rfl) ?_
      refine lv_aload_n F.1 F.2.1 dX7_ringTold_23 rfl (lv_at hl 2 rfl) ?_
      refine lv_iload_n F.1 F.2.1 dX7_ringTold_24 rfl (lv_at hl 1 rfl) ?_
      have b_750 := mJ hv hm
      unfold mNum1 at b_750
      refine g_calli (g_runV (As := [.int (iI v_81)]) (rest := [.ref mo]) (ci := 7) F hl.1 hH hS hz (c_X7_columns l g gh T I_739 R J_741 AI AJ AR mo v_81 zv_81 hv hm hT (by omega)) (cwV 1 F.2.2.2.2.1 (good_up gT_X7_columns) rfl rfl rfl hdX7_columns ⟨Nat.le_of_ble_eq_true rfl, Nat.le_of_ble_eq_true rfl⟩) hm (by decide) rfl rfl rfl (Nat.le_of_ble_eq_true rfl) dX7_ringTold_25 ⟨Nat.zero_le _, Nat.zero_le _⟩) hS (fun v_757 I_751 R_752 J_753 AI_754 AJ_755 AR_756 H locs zv_757 hp_758 hH hS => ?_)
      dsimp only at hp_758
      obtain ⟨rfl, rfl, rfl, rfl, rfl, rfl, q_749⟩ := hp_758
      refine g_calli (g_runV (As := [.int (iI v_757)]) (rest := []) (ci := 7) F hl.1 hH hS hz (c_X7_columnf l g gh T b nn nr nt cc (pRf b nn nt nr h) h I_739 R J_741 AI AJ AR mo v_757 zv_757 hv hm hT (by omega) h65 hbM hr7 (by omega) hn9 (by omega) hQ) (cwV 1 F.2.2.2.2.1 (good_up gT_X7_column) rfl rfl rfl hdX7_column ⟨Nat.le_of_ble_eq_true rfl, Nat.le_of_ble_eq_true rfl⟩) hm (by decide) rfl rfl rfl (Nat.le_of_ble_eq_true rfl) dX7_ringTold_28 ⟨Nat.zero_le _, Nat.zero_le _⟩) hS (fun v_765 I_759 R_760 J_761 AI_762 AJ_763 AR_764 H locs zv_765 hp_766 hH hS => ?_)
      dsimp only at hp_766
      obtain ⟨r_767, er_767⟩ : ∃ qQ : pR, qQ = thn ((pRf b nn nt nr h), h, 0) (fun t _ => sCol b nn v_757 t) := ⟨_, rfl⟩
      rw [← er_767] at hp_766
      obtain ⟨rfl, rfl, rfl, rfl, hv, pfq, q_768, q_769, hQ, q_770⟩ := hp_766
      have pf := qF_t pf pfq
      have u_771_2 : (I_759 mo 2).toInt = (I mo 2).toInt := by rw [pf 2 (by decide) (by decide) (by decide) (by decide) (by decide)]
      have u_771_5 : (I_759 mo 5).toInt = (I mo 5).toInt := by rw [pf 5 (by decide) (by decide) (by decide) (by decide) (by decide)]
      have u_771_14 : (I_759 mo 14).toInt = (I mo 14).toInt := by rw [pf 14 (by decide) (by decide) (by decide) (by decide) (by decide)]
      have u_771_16 : (I_759 mo 16).toInt = (I mo 16).toInt := by rw [pf 16 (by decide) (by decide) (by decide) (by decide) (by decide)]
      have u_771_18 : (I_759 mo 18).toInt = (I mo 18).toInt := by rw [pf 18 (by decide) (by decide) (by decide) (by decide) (by decide)]
      rw [thn_b (by omega)] at er_767
      have hQ : mQ gh I_759 J_761 AI AJ mo b nn nr nt cc (pRf b nn nt nr h) h := by rw [er_767] at hQ; exact hQ
      replace q_769 := hid q_769
      obtain ⟨f1, ef1⟩ : ∃ q, q = (I_759 mo 24).toInt := ⟨_, rfl⟩
      have hc1 : Hid (f1 = 0 → 0 ≤ v_765 ∧ v_765 ≤ 3) := fun h9 => by omega
      refine lv_istore_n (lv' := [(3, .int (iI v_765)), (2, .int (iI v_731)), (1, .int (iI v_81)), (0, .ref mo)]) F.1 F.2.1 dX7_ringTold_31 rfl hl (by decide) rfl (fun ls hl => ?_)
      refine lv_aload_n F.1 F.2.1 dX7_ringTold_32 rfl (lv_at hl 3 rfl) ?_
      refine z_bipush F dX7_ringTold_33 (by decide) ?_
      have b_772 := mJ hv hm
      unfold mNum1 at b_772
      refine g_callv (g_runV (As := [.int (iI 61)]) (rest := []) (ci := 7) F hl.1 hH hS hz (c_X7_mustSignf l g gh T b nn nr nt cc (pRf b nn nt nr h) h I_759 R J_761 AI AJ AR mo 61 ⟨by decide, by decide⟩ hv hm hT (by omega) h65 hbM hr7 (by omega) hn9 (by omega) (by omega) hQ) (cwV 1 F.2.2.2.2.1 (good_up gT_X7_mustSign) rfl rfl rfl hdX7_mustSign ⟨Nat.le_of_ble_eq_true rfl, Nat.le_of_ble_eq_true rfl⟩) hm (by decide) rfl rfl rfl (Nat.le_of_ble_eq_true rfl) dX7_ringTold_35 ⟨Nat.zero_le _, Nat.zero_le _⟩) hS (fun I_773 R_774 J_775 AI_776 AJ_777 AR_778 H locs hp_779 hH hS => ?_)
      dsimp only at hp_779
      obtain ⟨r_780, er_780⟩ : ∃ qQ : pR, qQ = thn ((pRf b nn nt nr h), h, 0) (fun t _ => sTk b nn 61 t) := ⟨_, rfl⟩
      rw [← er_780] at hp_779
      obtain ⟨rfl, rfl, rfl, rfl, hv, pfq, q_781, q_782, hQ⟩ := hp_779
      have pf := qF_t pf pfq
      have u_783_2 : (I_773 mo 2).toInt = (I mo 2).toInt := by rw [pf 2 (by decide) (by decide) (by decide) (by decide) (by decide)]
      have u_783_5 : (I_773 mo 5).toInt = (I mo 5).toInt := by rw [pf 5 (by decide) (by decide) (by decide) (by decide) (by decide)]
      have u_783_14 : (I_773 mo 14).toInt = (I mo 14).toInt := by rw [pf 14 (by decide) (by decide) (by decide) (by decide) (by decide)]
      have u_783_16 : (I_773 mo 16).toInt = (I mo 16).toInt := by rw [pf 16 (by decide) (by decide) (by decide) (by decide) (by decide)]
      have u_783_18 : (I_773 mo 18).toInt = (I mo 18).toInt := by rw [pf 18 (by decide) (by decide) (by decide) (by decide) (by decide)]
      rw [thn_b (by omega)] at er_780
      have hQ : mQ gh I_773 J_775 AI AJ mo b nn nr nt cc (pRf b nn nt nr h) h := by rw [er_780] at hQ; exact hQ
      replace q_782 := hid q_782
      refine lv_aload_n F.1 F.2.1 dX7_ringTold_38 rfl (lv_at hl 3 rfl) ?_
      refine lv_aload_n F.1 F.2.1 dX7_ringTold_39 rfl (lv_at hl 3 rfl) ?_
      refine lv_iload_n F.1 F.2.1 dX7_ringTold_40 rfl (lv_at hl 1 rfl) ?_
      have b_785 := mJ hv hm
      unfold mNum1 at b_785
      refine g_calli (g_runV (As := [.int (iI v_731)]) (rest := [.ref mo]) (ci := 7) F hl.1 hH hS hz (c_X7_columns l g gh T I_773 R J_775 AI AJ AR mo v_731 zv_731 hv hm hT (by omega)) (cwV 1 F.2.2.2.2.1 (good_up gT_X7_columns) rfl rfl rfl hdX7_columns ⟨Nat.le_of_ble_eq_true rfl, Nat.le_of_ble_eq_true rfl⟩) hm (by decide) rfl rfl rfl (Nat.le_of_ble_eq_true rfl) dX7_ringTold_41 ⟨Nat.zero_le _, Nat.zero_le _⟩) hS (fun v_792 I_786 R_787 J_788 AI_789 AJ_790 AR_791 H locs zv_792 hp_793 hH hS => ?_)
      dsimp only at hp_793
      obtain ⟨rfl, rfl, rfl, rfl, rfl, rfl, q_784⟩ := hp_793
      refine g_calli (g_runV (As := [.int (iI v_792)]) (rest := []) (ci := 7) F hl.1 hH hS hz (c_X7_columnf l g gh T b nn nr nt cc (pRf b nn nt nr h) h I_773 R J_775 AI AJ AR mo v_792 zv_792 hv hm hT (by omega) h65 hbM hr7 (by omega) hn9 (by omega) hQ) (cwV 1 F.2.2.2.2.1 (good_up gT_X7_column) rfl rfl rfl hdX7_column ⟨Nat.le_of_ble_eq_true rfl, Nat.le_of_ble_eq_true rfl⟩) hm (by decide) rfl rfl rfl (Nat.le_of_ble_eq_true rfl) dX7_ringTold_44 ⟨Nat.zero_le _, Nat.zero_le _⟩) hS (fun v_800 I_794 R_795 J_796 AI_797 AJ_798 AR_799 H locs zv_800 hp_801 hH hS => ?_)
      dsimp only at hp_801
      obtain ⟨r_802, er_802⟩ : ∃ qQ : pR, qQ = thn ((pRf b nn nt nr h), h, 0) (fun t _ => sCol b nn v_792 t) := ⟨_, rfl⟩
      rw [← er_802] at hp_801
      obtain ⟨rfl, rfl, rfl, rfl, hv, pfq, q_803, q_804, hQ, q_805⟩ := hp_801
      have pf := qF_t pf pfq
      have u_806_2 : (I_794 mo 2).toInt = (I mo 2).toInt := by rw [pf 2 (by decide) (by decide) (by decide) (by decide) (by decide)]
      have u_806_5 : (I_794 mo 5).toInt = (I mo 5).toInt := by rw [pf 5 (by decide) (by decide) (by decide) (by decide) (by decide)]
      have u_806_14 : (I_794 mo 14).toInt = (I mo 14).toInt := by rw [pf 14 (by decide) (by decide) (by decide) (by decide) (by decide)]
      have u_806_16 : (I_794 mo 16).toInt = (I mo 16).toInt := by rw [pf 16 (by decide) (by decide) (by decide) (by decide) (by decide)]
      have u_806_18 : (I_794 mo 18).toInt = (I mo 18).toInt := by rw [pf 18 (by decide) (by decide) (by decide) (by decide) (by decide)]
      rw [thn_b (by omega)] at er_802
      have hQ : mQ gh I_794 J_796 AI AJ mo b nn nr nt cc (pRf b nn nt nr h) h := by rw [er_802] at hQ; exact hQ
      replace q_804 := hid q_804
      obtain ⟨f2, ef2⟩ : ∃ q, q = (I_794 mo 24).toInt := ⟨_, rfl⟩
      have hd1 : Hid (f2 = 0 → 0 ≤ v_800 ∧ v_800 ≤ 3) := fun h9 => by omega
      refine lv_istore (lv' := [(4, .int (iI v_800)), (3, .int (iI v_765)), (2, .int (iI v_731)), (1, .int (iI v_81)), (0, .ref mo)]) F.1 F.2.1 dX7_ringTold_47 hl (by decide) rfl (fun ls hl => ?_)
      refine lv_aload_n F.1 F.2.1 dX7_ringTold_49 rfl (lv_at hl 4 rfl) ?_
      refine va_ldcS F.1 F.2.1 F.2.2.2.1 (F.2.2.2.2.2.2.1 26 _ rfl).1 dX7_ringTold_50 ?_
      have b_807 := mJ hv hm
      unfold mNum1 at b_807
      refine g_callv (g_runV (As := [.ref (gSK g 26)]) (rest := []) (ci := 7) F hl.1 hH hS hz (c_X7_mustWordf l g gh T 26 _ 15 b nn nr nt cc (pRf b nn nt nr h) h I_794 R J_796 AI AJ AR mo hv hm hT (by omega) (rfl : sTab[26]? = some _) h65 hbM hr7 (by omega) hn9 (by omega) (by decide) (by decide +kernel) hQ) (cwV 1 F.2.2.2.2.1 (good_up gT_X7_mustWord) rfl rfl rfl hdX7_mustWord ⟨Nat.le_of_ble_eq_true rfl, Nat.le_of_ble_eq_true rfl⟩) hm (by decide) rfl rfl rfl (Nat.le_of_ble_eq_true rfl) dX7_ringTold_52 ⟨Nat.zero_le _, Nat.zero_le _⟩) hS (fun I_808 R_809 J_810 AI_811 AJ_812 AR_813 H locs hp_814 hH hS => ?_)
      dsimp only at hp_814
      obtain ⟨r_815, er_815⟩ : ∃ qQ : pR, qQ = thn ((pRf b nn nt nr h), h, 0) (fun t _ => sTw b nn ((15 : Nat) : Int) t) := ⟨_, rfl⟩
      rw [← er_815] at hp_814
      obtain ⟨rfl, rfl, rfl, rfl, hv, pfq, q_816, hQ⟩ := hp_814
      have pf := qF_t pf pfq
      have u_817_2 : (I_808 mo 2).toInt = (I mo 2).toInt := by rw [pf 2 (by decide) (by decide) (by decide) (by decide) (by decide)]
      have u_817_5 : (I_808 mo 5).toInt = (I mo 5).toInt := by rw [pf 5 (by decide) (by decide) (by decide) (by decide) (by decide)]
      have u_817_14 : (I_808 mo 14).toInt = (I mo 14).toInt := by rw [pf 14 (by decide) (by decide) (by decide) (by decide) (by decide)]
      have u_817_16 : (I_808 mo 16).toInt = (I mo 16).toInt := by rw [pf 16 (by decide) (by decide) (by decide) (by decide) (by decide)]
      have u_817_18 : (I_808 mo 18).toInt = (I mo 18).toInt := by rw [pf 18 (by decide) (by decide) (by decide) (by decide) (by decide)]
      rw [thn_b (by omega)] at er_815
      have hQ : mQ gh I_808 J_810 AI AJ mo b nn nr nt cc (pRf b nn nt nr h) h := by rw [er_815] at hQ; exact hQ
      have hS9 : sRng b nn nr nt cc h = (pRf b nn nt nr h, h, 0) := by unfold sRng; exact thn_x sr_83.symm (by omega)
      have hfin : thn (f, h, 0) (fun t _ => sRngM b nn nr nt cc t) = (pRf b nn nt nr h, h, 0) := (thn_k q0).trans (by show sRngM b nn nr nt cc h = _; unfold sRngM; exact thn_x hS9.symm (by (try dsimp only); omega))
      exact cut_55_3 v_81 v_731 v_765 v_800 I_808 J_810 AI H locs ls zv_81 zv_731 zv_765 zv_800 hv hT pf ⟨_, _, by omega, hQ, hfin⟩ (by omega) (by omega) hH hS (lv_sub hl [4, 3, 2, 1, 0] rfl)
  · have hf1 := mQ_f hQ q0
    have cut_55_820 : ∀ (l1 l2 l3 l4 : Int) (I_818 : gI) (J_819 : gJ) (AI_820 : gI) (H : Heap) (locs : List Loc) (ls : Array Slot), zr l1 → zr l2 → zr l3 → zr l4 → (mInv g gh R I_818 AI_820) → (AI_820 (gh 50 0) = T) → (qF mo I I_818) → (∃ (f9 : Int) (h9 : Nat), f9 ≠ 0 ∧ mQ gh I_818 J_819 AI_820 AJ mo b nn nr nt cc f9 h9 ∧ thn (f, h, 0) (fun t _ => sRngM b nn nr nt cc t) = (f9, h9, 0)) → ((I_818 mo 20).toInt ≤ 936 ∧ (I mo 24).toInt ≤ (I_818 mo 24).toInt) → (0 ≤ l1 ∧ l1 ≤ 15 ∧ 0 ≤ l2 ∧ l2 ≤ 15) → gH g I_818 R J_819 AI_820 AJ AR H → va_S (gA g) s.heap H locs → lv_has ls 7 [(0, .ref mo), (1, .int (iI l1)), (2, .int (iI l2)), (3, .int (iI l3)), (4, .int (iI l4))] → W p l e rmX7_ringToldf s m ([.ref mo] : List Value).toArray below meth c H locs 0 0 (MQ below (gQv g (fun w : gS => R = w.2.1 ∧ AJ = w.2.2.2.2.1 ∧ AR = w.2.2.2.2.2 ∧ (mInv g gh R (w.1) (w.2.2.2.1)) ∧ ((w.2.2.2.1) (gh 50 0) = T) ∧ (qF mo I (w.1)) ∧ (((w.1) mo 20).toInt ≤ 936 ∧ (I mo 24).toInt ≤ ((w.1) mo 24).toInt) ∧ (((w.1) mo 24).toInt = 0 → ((w.1) mo 21).toInt = 4 → ((w.1) mo 23).toInt = 59 → rowOK ((w.2.2.2.1) (gh 53 0)) M) ∧ (((w.1) mo 24).toInt = 0 → tI ((w.2.2.2.1) (gh 53 0)) (40 * M) = 8) ∧ (mQ gh (w.1) (w.2.2.1) (w.2.2.2.1) AJ mo b nn nr nt cc (thn (f, h, 0) (fun t _ => sRngM b nn nr nt cc t)).1 (thn (f, h, 0) (fun t _ => sRngM b nn nr nt cc t)).2.1) ∧ (pIc (thn (f, h, 0) (fun t _ => sRngM b nn nr nt cc t)).1 (pK b nn (thn (f, h, 0) (fun t _ => sRngM b nn nr nt cc t)).2.1) (tI ((w.2.2.2.1) (gh 53 0)) (40 * (nr : Int) + 1)) (thn (f, h, 0) (fun t _ => sRngM b nn nr nt cc t)).2.2))) ([.ref mo] : List Value).toArray s 0 0 (gA g)) (F0 m 55 ls []) := by
      intro l1 l2 l3 l4 I_818 J_819 AI_820 H locs ls zl1 zl2 zl3 zl4 hv hT pf hBad hx9 hl12 hH hS hl
      (try clear u_87_18); (try clear u_87_16); (try clear u_87_14); (try clear u_87_5); (try clear u_87_2); (try clear b_74)
      have uc_2 : (I_818 mo 2).toInt = (I mo 2).toInt := by rw [pf 2 (by decide) (by decide) (by decide) (by decide) (by decide)]
      have uc_5 : (I_818 mo 5).toInt = (I mo 5).toInt := by rw [pf 5 (by decide) (by decide) (by decide) (by decide) (by decide)]
      have uc_14 : (I_818 mo 14).toInt = (I mo 14).toInt := by rw [pf 14 (by decide) (by decide) (by decide) (by decide) (by decide)]
      have uc_16 : (I_818 mo 16).toInt = (I mo 16).toInt := by rw [pf 16 (by decide) (by decide) (by decide) (by decide) (by decide)]
      have uc_18 : (I_818 mo 18).toInt = (I mo 18).toInt := by rw [pf 18 (by decide) (by decide) (by decide) (by decide) (by decide)]
      obtain ⟨fb9, hb9, q9, hQ, hfin⟩ := hBad
      have q9f := mQ_f hQ q9
      have q9p := mQ_p hQ
      refine lv_aload_n F.1 F.2.1 dX7_ringTold_55 rfl (lv_at hl 0 rfl) ?_
      refine z_iconst F dX7_ringTold_56 ?_
      refine lv_iload_n F.1 F.2.1 dX7_ringTold_57 rfl (lv_at hl 3 rfl) ?_
      refine lv_iload F.1 F.2.1 dX7_ringTold_58 (lv_at hl 4 rfl) ?_
      refine z_iconst F dX7_ringTold_60 ?_
      refine z_iconst F dX7_ringTold_61 ?_
      have b_822 := mJ hv hm
      unfold mNum1 at b_822
      refine g_callv (g_runV (As := [.int (iI 0), .int (iI l3), .int (iI l4), .int (iI 0), .int (iI 0)]) (rest := []) (ci := 7) F hl.1 hH hS hz (c_X7_setsPart l g gh T M I_818 R J_819 AI_820 AJ AR mo 0 l3 l4 0 0 ⟨by decide, by decide⟩ zl3 zl4 ⟨by decide, by decide⟩ ⟨by decide, by decide⟩ hv hm hT (by omega) (by omega) (by omega)) (cwV 5 F.2.2.2.2.1 (good_up gT_X7_setsPart) rfl rfl rfl hdX7_setsPart ⟨Nat.le_of_ble_eq_true rfl, Nat.le_of_ble_eq_true rfl⟩) hm (by decide) rfl rfl rfl (Nat.le_of_ble_eq_true rfl) dX7_ringTold_62 ⟨Nat.zero_le _, Nat.zero_le _⟩) hS (fun I_823 R_824 J_825 AI_826 AJ_827 AR_828 H locs hp_829 hH hS => ?_)
      dsimp only at hp_829
      obtain ⟨rfl, rfl, rfl, rfl, rfl, hv, hT, hsp⟩ := hp_829
      replace hsp := hid hsp
      have hQ : mQ gh I_818 J_819 AI_826 AJ mo b nn nr nt cc fb9 hb9 := mQ_bad hQ (by omega) rfl
      refine lv_aload_n F.1 F.2.1 dX7_ringTold_65 rfl (lv_at hl 0 rfl) ?_
      refine lv_iload_n F.1 F.2.1 dX7_ringTold_66 rfl (lv_at hl 1 rfl) ?_
      refine g_calli (g_runV (As := [.int (iI l1)]) (rest := []) (ci := 7) F hl.1 hH hS hz (c_X7_columns l g gh T I_818 R J_819 AI_826 AJ AR mo l1 zl1 hv hm hT (by omega)) (cwV 1 F.2.2.2.2.1 (good_up gT_X7_columns) rfl rfl rfl hdX7_columns ⟨Nat.le_of_ble_eq_true rfl, Nat.le_of_ble_eq_true rfl⟩) hm (by decide) rfl rfl rfl (Nat.le_of_ble_eq_true rfl) dX7_ringTold_67 ⟨Nat.zero_le _, Nat.zero_le _⟩) hS (fun v_837 I_831 R_832 J_833 AI_834 AJ_835 AR_836 H locs zv_837 hp_838 hH hS => ?_)
      dsimp only at hp_838
      obtain ⟨rfl, rfl, rfl, rfl, rfl, rfl, q_830⟩ := hp_838
      refine lv_aload_n F.1 F.2.1 dX7_ringTold_70 rfl (lv_at hl 0 rfl) ?_
      refine lv_iload_n F.1 F.2.1 dX7_ringTold_71 rfl (lv_at hl 2 rfl) ?_
      refine g_calli (g_runV (As := [.int (iI l2)]) (rest := [.int (iI v_837)]) (ci := 7) F hl.1 hH hS hz (c_X7_columns l g gh T I_818 R J_819 AI_826 AJ AR mo l2 zl2 hv hm hT (by omega)) (cwV 1 F.2.2.2.2.1 (good_up gT_X7_columns) rfl rfl rfl hdX7_columns ⟨Nat.le_of_ble_eq_true rfl, Nat.le_of_ble_eq_true rfl⟩) hm (by decide) rfl rfl rfl (Nat.le_of_ble_eq_true rfl) dX7_ringTold_72 ⟨Nat.zero_le _, Nat.zero_le _⟩) hS (fun v_846 I_840 R_841 J_842 AI_843 AJ_844 AR_845 H locs zv_846 hp_847 hH hS => ?_)
      dsimp only at hp_847
      obtain ⟨rfl, rfl, rfl, rfl, rfl, rfl, q_839⟩ := hp_847
      refine z_iadd F dX7_ringTold_75 ?_
      refine z_norm (fun v_848 zv_848 ev_848 => ?_)
      refine lv_istore (lv' := [(5, .int (iI v_848)), (0, .ref mo), (1, .int (iI l1)), (2, .int (iI l2)), (3, .int (iI l3)), (4, .int (iI l4))]) F.1 F.2.1 dX7_ringTold_76 hl (by decide) rfl (fun ls hl => ?_)
      refine lv_aload_n F.1 F.2.1 dX7_ringTold_78 rfl (lv_at hl 1 rfl) ?_
      refine lv_iload F.1 F.2.1 dX7_ringTold_79 (lv_at hl 0 rfl) ?_
      refine z_iconst F dX7_ringTold_81 ?_
      refine g_calli (g_runV (As := [.int (iI v_848), .int (iI 1)]) (rest := []) (ci := 7) F hl.1 hH hS hz (c_X7_termsToldf l g gh T M b nn nr nt cc fb9 hb9 I_818 R J_819 AI_826 AJ AR mo v_848 1 zv_848 ⟨by decide, by decide⟩ hv hm hT (by omega) (by omega) (by omega) (by omega) h65 hbM hr7 (by omega) hn9 (by omega) hQ) (cwV 2 F.2.2.2.2.1 (good_up gT_X7_termsTold) rfl rfl rfl hdX7_termsTold ⟨Nat.le_of_ble_eq_true rfl, Nat.le_of_ble_eq_true rfl⟩) hm (by decide) rfl rfl rfl (Nat.le_of_ble_eq_true rfl) dX7_ringTold_82 ⟨Nat.zero_le _, Nat.zero_le _⟩) hS (fun v_855 I_849 R_850 J_851 AI_852 AJ_853 AR_854 H locs zv_855 hp_856 hH hS => ?_)
      dsimp only at hp_856
      obtain ⟨r_857, er_857⟩ : ∃ qQ : pR, qQ = thn (fb9, hb9, 0) (fun t _ => sTerms b nn v_848 5 0 t) := ⟨_, rfl⟩
      rw [← er_857] at hp_856
      obtain ⟨rfl, rfl, rfl, hv, hT, pfq, q_858, q_859, htt, hQ, q_860⟩ := hp_856
      have pf := qF_t pf pfq
      have u_861_2 : (I_849 mo 2).toInt = (I mo 2).toInt := by rw [pf 2 (by decide) (by decide) (by decide) (by decide) (by decide)]
      have u_861_5 : (I_849 mo 5).toInt = (I mo 5).toInt := by rw [pf 5 (by decide) (by decide) (by decide) (by decide) (by decide)]
      have u_861_14 : (I_849 mo 14).toInt = (I mo 14).toInt := by rw [pf 14 (by decide) (by decide) (by decide) (by decide) (by decide)]
      have u_861_16 : (I_849 mo 16).toInt = (I mo 16).toInt := by rw [pf 16 (by decide) (by decide) (by decide) (by decide) (by decide)]
      have u_861_18 : (I_849 mo 18).toInt = (I mo 18).toInt := by rw [pf 18 (by decide) (by decide) (by decide) (by decide) (by decide)]
      rw [thn_b (by omega)] at er_857
      have hQ : mQ gh I_849 J_851 AI_852 AJ mo b nn nr nt cc fb9 hb9 := by rw [er_857] at hQ; exact hQ
      replace htt := hid htt
      refine lv_istore (lv' := [(6, .int (iI v_855)), (5, .int (iI v_848)), (0, .ref mo), (1, .int (iI l1)), (2, .int (iI l2)), (3, .int (iI l3)), (4, .int (iI l4))]) F.1 F.2.1 dX7_ringTold_85 hl (by decide) rfl (fun ls hl => ?_)
      obtain ⟨f9, ef9⟩ : ∃ q, q = (I_849 mo 24).toInt := ⟨_, rfl⟩
      refine lv_aload_n F.1 F.2.1 dX7_ringTold_87 rfl (lv_at hl 2 rfl) ?_
      refine z_bipush F dX7_ringTold_88 (by decide) ?_
      have b_862 := mJ hv hm
      unfold mNum1 at b_862
      refine g_calli (g_runV (As := [.int (iI 59)]) (rest := []) (ci := 7) F hl.1 hH hS hz (c_X7_isSignf l g gh T b nn nr nt cc fb9 hb9 I_849 R J_851 AI_852 AJ AR mo 59 ⟨by decide, by decide⟩ hv hm hT h65 hbM hr7 (by omega) hn9 (by omega) (by omega) hQ) (cwV 1 F.2.2.2.2.1 (good_up gT_X7_isSign) rfl rfl rfl hdX7_isSign ⟨Nat.le_of_ble_eq_true rfl, Nat.le_of_ble_eq_true rfl⟩) hm (by decide) rfl rfl rfl (Nat.le_of_ble_eq_true rfl) dX7_ringTold_90 ⟨Nat.zero_le _, Nat.zero_le _⟩) hS (fun v_869 I_863 R_864 J_865 AI_866 AJ_867 AR_868 H locs zv_869 hp_870 hH hS => ?_)
      dsimp only at hp_870
      obtain ⟨rfl, rfl, rfl, rfl, rfl, rfl, q_871, q_872⟩ := hp_870
      replace q_871 := q_871.1
      refine z_if_eq (tgt := 117) F dX7_ringTold_93 (by decide) zv_869 (fun c_873 => ?_) (fun c_873 => ?_)
      · have t_874 := tIz_0 q_872 (by omega)
        refine lv_aload_n F.1 F.2.1 dX7_ringTold_117 rfl (lv_at hl 2 rfl) ?_
        refine z_bipush F dX7_ringTold_118 (by decide) ?_
        refine lv_aload_n F.1 F.2.1 dX7_ringTold_120 rfl (lv_at hl 2 rfl) ?_
        refine lv_iload_n F.1 F.2.1 dX7_ringTold_121 rfl (lv_at hl 3 rfl) ?_
        refine g_calli (g_runV (As := [.int (iI l1)]) (rest := [.int (iI 8), .ref mo]) (ci := 7) F hl.1 hH hS hz (c_X7_columns l g gh T I_849 R J_851 AI_852 AJ AR mo l1 zl1 hv hm hT (by omega)) (cwV 1 F.2.2.2.2.1 (good_up gT_X7_columns) rfl rfl rfl hdX7_columns ⟨Nat.le_of_ble_eq_true rfl, Nat.le_of_ble_eq_true rfl⟩) hm (by decide) rfl rfl rfl (Nat.le_of_ble_eq_true rfl) dX7_ringTold_122 ⟨Nat.zero_le _, Nat.zero_le _⟩) hS (fun v_882 I_876 R_877 J_878 AI_879 AJ_880 AR_881 H locs zv_882 hp_883 hH hS => ?_)
        dsimp only at hp_883
        obtain ⟨rfl, rfl, rfl, rfl, rfl, rfl, q_875⟩ := hp_883
        have hcol : Hid ((I_849 mo 24).toInt = 0 → 1 ≤ v_882 ∧ v_882 ≤ 4) := fun h => by have q9 := mCol hv hm (z := l1) (by omega) (by omega); omega
        refine lv_iload_n F.1 F.2.1 dX7_ringTold_125 rfl (lv_at hl 3 rfl) ?_
        refine lv_iload_n F.1 F.2.1 dX7_ringTold_126 rfl (lv_at hl 4 rfl) ?_
        refine lv_iload F.1 F.2.1 dX7_ringTold_127 (lv_at hl 0 rfl) ?_
        refine g_callv (g_runV (As := [.int (iI 8), .int (iI v_882), .int (iI l1), .int (iI l2), .int (iI v_855)]) (rest := []) (ci := 7) F hl.1 hH hS hz (c_X7_header l g gh T M I_849 R J_851 AI_852 AJ AR mo 8 v_882 l1 l2 v_855 ⟨by decide, by decide⟩ zv_882 zl1 zl2 zv_855 hv hm hT (by omega) (by omega)) (cwV 5 F.2.2.2.2.1 (good_up gT_X7_header) rfl rfl rfl hdX7_header ⟨Nat.le_of_ble_eq_true rfl, Nat.le_of_ble_eq_true rfl⟩) hm (by decide) rfl rfl rfl (Nat.le_of_ble_eq_true rfl) dX7_ringTold_129 ⟨Nat.zero_le _, Nat.zero_le _⟩) hS (fun I_884 R_885 J_886 AI_887 AJ_888 AR_889 H locs hp_890 hH hS => ?_)
        dsimp only at hp_890
        obtain ⟨rfl, rfl, rfl, rfl, rfl, hv, hT, hhd⟩ := hp_890
        replace hhd := hid hhd
        have hQ : mQ gh I_849 J_851 AI_887 AJ mo b nn nr nt cc fb9 hb9 := mQ_bad hQ (by omega) rfl
        exact g_vret F hr hlk hH hS hz ⟨rfl, rfl, rfl, hv, hT, pf, by first | (dsimp only; omega) | omega | rfl, by (try dsimp only); exact (fun hf => absurd hf (by omega)), by (try dsimp only); exact (fun hf => absurd hf (by omega)), by (try dsimp only); rw [hfin]; exact hQ, by (try dsimp only); rw [hfin]; exact pIc_n (by omega)⟩ dX7_ringTold_132
      · exact absurd (tIz_1 q_872 (by omega)).1 (by omega)
    refine lv_aload_n F.1 F.2.1 dX7_ringTold_0 rfl (lv_at hl 0 rfl) ?_
    have b_891 := mJ hv hm
    unfold mNum1 at b_891
    refine g_calli (g_runV (As := []) (rest := []) (ci := 7) F hl.1 hH hS hz (c_X7_relationf l g gh T b nn nr nt cc f h I R J AI AJ AR mo hv hm hT (by omega) h65 hbM hr7 (by omega) hn9 (by omega) hQ) (cwV 0 F.2.2.2.2.1 (good_up gT_X7_relation) rfl rfl rfl hdX7_relation ⟨Nat.le_of_ble_eq_true rfl, Nat.le_of_ble_eq_true rfl⟩) hm (by decide) rfl rfl rfl (Nat.le_of_ble_eq_true rfl) dX7_ringTold_1 ⟨Nat.zero_le _, Nat.zero_le _⟩) hS (fun v_898 I_892 R_893 J_894 AI_895 AJ_896 AR_897 H locs zv_898 hp_899 hH hS => ?_)
    dsimp only at hp_899
    obtain ⟨r_900, er_900⟩ : ∃ qQ : pR, qQ = thn (f, h, 0) (fun t _ => sRl b nn nr nt cc t) := ⟨_, rfl⟩
    rw [← er_900] at hp_899
    obtain ⟨rfl, rfl, rfl, rfl, hv, pfq, q_901, q_902, hQ, q_903⟩ := hp_899
    have pf := qF_t pf pfq
    have u_904_2 : (I_892 mo 2).toInt = (I mo 2).toInt := by rw [pf 2 (by decide) (by decide) (by decide) (by decide) (by decide)]
    have u_904_5 : (I_892 mo 5).toInt = (I mo 5).toInt := by rw [pf 5 (by decide) (by decide) (by decide) (by decide) (by decide)]
    have u_904_14 : (I_892 mo 14).toInt = (I mo 14).toInt := by rw [pf 14 (by decide) (by decide) (by decide) (by decide) (by decide)]
    have u_904_16 : (I_892 mo 16).toInt = (I mo 16).toInt := by rw [pf 16 (by decide) (by decide) (by decide) (by decide) (by decide)]
    have u_904_18 : (I_892 mo 18).toInt = (I mo 18).toInt := by rw [pf 18 (by decide) (by decide) (by decide) (by decide) (by decide)]
    rw [thn_b (by omega)] at er_900
    have hQ : mQ gh I_892 J_894 AI AJ mo b nn nr nt cc f h := by rw [er_900] at hQ; exact hQ
    replace q_902 := (⟨q_902.1, q_902.2.1⟩ : _ ∧ _)
    obtain ⟨fa0, efa0⟩ : ∃ q, q = (I_892 mo 24).toInt := ⟨_, rfl⟩
    have hra : Hid (fa0 = 0 → v_898 < M) := fun h9 => by omega
    refine lv_istore_n (lv' := [(1, .int (iI v_898)), (0, .ref mo)]) F.1 F.2.1 dX7_ringTold_4 rfl hl (by decide) rfl (fun ls hl => ?_)
    refine lv_aload_n F.1 F.2.1 dX7_ringTold_5 rfl (lv_at hl 1 rfl) ?_
    refine va_ldcS F.1 F.2.1 F.2.2.2.1 (F.2.2.2.2.2.2.1 25 _ rfl).1 dX7_ringTold_6 ?_
    have b_905 := mJ hv hm
    unfold mNum1 at b_905
    refine g_callv (g_runV (As := [.ref (gSK g 25)]) (rest := []) (ci := 7) F hl.1 hH hS hz (c_X7_mustWordf l g gh T 25 _ 14 b nn nr nt cc f h I_892 R J_894 AI AJ AR mo hv hm hT (by omega) (rfl : sTab[25]? = some _) h65 hbM hr7 (by omega) hn9 (by omega) (by decide) (by decide +kernel) hQ) (cwV 1 F.2.2.2.2.1 (good_up gT_X7_mustWord) rfl rfl rfl hdX7_mustWord ⟨Nat.le_of_ble_eq_true rfl, Nat.le_of_ble_eq_true rfl⟩) hm (by decide) rfl rfl rfl (Nat.le_of_ble_eq_true rfl) dX7_ringTold_8 ⟨Nat.zero_le _, Nat.zero_le _⟩) hS (fun I_906 R_907 J_908 AI_909 AJ_910 AR_911 H locs hp_912 hH hS => ?_)
    dsimp only at hp_912
    obtain ⟨r_913, er_913⟩ : ∃ qQ : pR, qQ = thn (f, h, 0) (fun t _ => sTw b nn ((14 : Nat) : Int) t) := ⟨_, rfl⟩
    rw [← er_913] at hp_912
    obtain ⟨rfl, rfl, rfl, rfl, hv, pfq, q_914, hQ⟩ := hp_912
    have pf := qF_t pf pfq
    have u_915_2 : (I_906 mo 2).toInt = (I mo 2).toInt := by rw [pf 2 (by decide) (by decide) (by decide) (by decide) (by decide)]
    have u_915_5 : (I_906 mo 5).toInt = (I mo 5).toInt := by rw [pf 5 (by decide) (by decide) (by decide) (by decide) (by decide)]
    have u_915_14 : (I_906 mo 14).toInt = (I mo 14).toInt := by rw [pf 14 (by decide) (by decide) (by decide) (by decide) (by decide)]
    have u_915_16 : (I_906 mo 16).toInt = (I mo 16).toInt := by rw [pf 16 (by decide) (by decide) (by decide) (by decide) (by decide)]
    have u_915_18 : (I_906 mo 18).toInt = (I mo 18).toInt := by rw [pf 18 (by decide) (by decide) (by decide) (by decide) (by decide)]
    rw [thn_b (by omega)] at er_913
    have hQ : mQ gh I_906 J_908 AI AJ mo b nn nr nt cc f h := by rw [er_913] at hQ; exact hQ
    refine lv_aload_n F.1 F.2.1 dX7_ringTold_11 rfl (lv_at hl 1 rfl) ?_
    have b_916 := mJ hv hm
    unfold mNum1 at b_916
    refine g_calli (g_runV (As := []) (rest := []) (ci := 7) F hl.1 hH hS hz (c_X7_relationf l g gh T b nn nr nt cc f h I_906 R J_908 AI AJ AR mo hv hm hT (by omega) h65 hbM hr7 (by omega) hn9 (by omega) hQ) (cwV 0 F.2.2.2.2.1 (good_up gT_X7_relation) rfl rfl rfl hdX7_relation ⟨Nat.le_of_ble_eq_true rfl, Nat.le_of_ble_eq_true rfl⟩) hm (by decide) rfl rfl rfl (Nat.le_of_ble_eq_true rfl) dX7_ringTold_12 ⟨Nat.zero_le _, Nat.zero_le _⟩) hS (fun v_923 I_917 R_918 J_919 AI_920 AJ_921 AR_922 H locs zv_923 hp_924 hH hS => ?_)
    dsimp only at hp_924
    obtain ⟨r_925, er_925⟩ : ∃ qQ : pR, qQ = thn (f, h, 0) (fun t _ => sRl b nn nr nt cc t) := ⟨_, rfl⟩
    rw [← er_925] at hp_924
    obtain ⟨rfl, rfl, rfl, rfl, hv, pfq, q_926, q_927, hQ, q_928⟩ := hp_924
    have pf := qF_t pf pfq
    have u_929_2 : (I_917 mo 2).toInt = (I mo 2).toInt := by rw [pf 2 (by decide) (by decide) (by decide) (by decide) (by decide)]
    have u_929_5 : (I_917 mo 5).toInt = (I mo 5).toInt := by rw [pf 5 (by decide) (by decide) (by decide) (by decide) (by decide)]
    have u_929_14 : (I_917 mo 14).toInt = (I mo 14).toInt := by rw [pf 14 (by decide) (by decide) (by decide) (by decide) (by decide)]
    have u_929_16 : (I_917 mo 16).toInt = (I mo 16).toInt := by rw [pf 16 (by decide) (by decide) (by decide) (by decide) (by decide)]
    have u_929_18 : (I_917 mo 18).toInt = (I mo 18).toInt := by rw [pf 18 (by decide) (by decide) (by decide) (by decide) (by decide)]
    rw [thn_b (by omega)] at er_925
    have hQ : mQ gh I_917 J_919 AI AJ mo b nn nr nt cc f h := by rw [er_925] at hQ; exact hQ
    replace q_927 := (⟨q_927.1, q_927.2.1⟩ : _ ∧ _)
    obtain ⟨f0, ef0⟩ : ∃ q, q = (I_917 mo 24).toInt := ⟨_, rfl⟩
    have hr2 : Hid (f0 = 0 → v_923 < M ∧ fa0 = 0) := fun h9 => by omega
    refine lv_istore_n (lv' := [(2, .int (iI v_923)), (1, .int (iI v_898)), (0, .ref mo)]) F.1 F.2.1 dX7_ringTold_15 rfl hl (by decide) rfl (fun ls hl => ?_)
    refine lv_aload_n F.1 F.2.1 dX7_ringTold_16 rfl (lv_at hl 2 rfl) ?_
    refine va_ldcS F.1 F.2.1 F.2.2.2.1 (F.2.2.2.2.2.2.1 14 _ rfl).1 dX7_ringTold_17 ?_
    have b_930 := mJ hv hm
    unfold mNum1 at b_930
    refine g_callv (g_runV (As := [.ref (gSK g 14)]) (rest := []) (ci := 7) F hl.1 hH hS hz (c_X7_mustWordf l g gh T 14 _ 12 b nn nr nt cc f h I_917 R J_919 AI AJ AR mo hv hm hT (by omega) (rfl : sTab[14]? = some _) h65 hbM hr7 (by omega) hn9 (by omega) (by decide) (by decide +kernel) hQ) (cwV 1 F.2.2.2.2.1 (good_up gT_X7_mustWord) rfl rfl rfl hdX7_mustWord ⟨Nat.le_of_ble_eq_true rfl, Nat.le_of_ble_eq_true rfl⟩) hm (by decide) rfl rfl rfl (Nat.le_of_ble_eq_true rfl) dX7_ringTold_19 ⟨Nat.zero_le _, Nat.zero_le _⟩) hS (fun I_931 R_932 J_933 AI_934 AJ_935 AR_936 H locs hp_937 hH hS => ?_)
    dsimp only at hp_937
    obtain ⟨r_938, er_938⟩ : ∃ qQ : pR, qQ = thn (f, h, 0) (fun t _ => sTw b nn ((12 : Nat) : Int) t) := ⟨_, rfl⟩
    rw [← er_938] at hp_937
    obtain ⟨rfl, rfl, rfl, rfl, hv, pfq, q_939, hQ⟩ := hp_937
    have pf := qF_t pf pfq
    have u_940_2 : (I_931 mo 2).toInt = (I mo 2).toInt := by rw [pf 2 (by decide) (by decide) (by decide) (by decide) (by decide)]
    have u_940_5 : (I_931 mo 5).toInt = (I mo 5).toInt := by rw [pf 5 (by decide) (by decide) (by decide) (by decide) (by decide)]
    have u_940_14 : (I_931 mo 14).toInt = (I mo 14).toInt := by rw [pf 14 (by decide) (by decide) (by decide) (by decide) (by decide)]
    have u_940_16 : (I_931 mo 16).toInt = (I mo 16).toInt := by rw [pf 16 (by decide) (by decide) (by decide) (by decide) (by decide)]
    have u_940_18 : (I_931 mo 18).toInt = (I mo 18).toInt := by rw [pf 18 (by decide) (by decide) (by decide) (by decide) (by decide)]
    rw [thn_b (by omega)] at er_938
    have hQ : mQ gh I_931 J_933 AI AJ mo b nn nr nt cc f h := by rw [er_938] at hQ; exact hQ
    refine lv_aload_n F.1 F.2.1 dX7_ringTold_22 rfl (lv_at hl 2 rfl) ?_
    refine lv_aload_n F.1 F.2.1 dX7_ringTold_23 rfl (lv_at hl 2 rfl) ?_
    refine lv_iload_n F.1 F.2.1 dX7_ringTold_24 rfl (lv_at hl 1 rfl) ?_
    have b_942 := mJ hv hm
    unfold mNum1 at b_942
    refine g_calli (g_runV (As := [.int (iI v_898)]) (rest := [.ref mo]) (ci := 7) F hl.1 hH hS hz (c_X7_columns l g gh T I_931 R J_933 AI AJ AR mo v_898 zv_898 hv hm hT (by omega)) (cwV 1 F.2.2.2.2.1 (good_up gT_X7_columns) rfl rfl rfl hdX7_columns ⟨Nat.le_of_ble_eq_true rfl, Nat.le_of_ble_eq_true rfl⟩) hm (by decide) rfl rfl rfl (Nat.le_of_ble_eq_true rfl) dX7_ringTold_25 ⟨Nat.zero_le _, Nat.zero_le _⟩) hS (fun v_949 I_943 R_944 J_945 AI_946 AJ_947 AR_948 H locs zv_949 hp_950 hH hS => ?_)
    dsimp only at hp_950
    obtain ⟨rfl, rfl, rfl, rfl, rfl, rfl, q_941⟩ := hp_950
    refine g_calli (g_runV (As := [.int (iI v_949)]) (rest := []) (ci := 7) F hl.1 hH hS hz (c_X7_columnf l g gh T b nn nr nt cc f h I_931 R J_933 AI AJ AR mo v_949 zv_949 hv hm hT (by omega) h65 hbM hr7 (by omega) hn9 (by omega) hQ) (cwV 1 F.2.2.2.2.1 (good_up gT_X7_column) rfl rfl rfl hdX7_column ⟨Nat.le_of_ble_eq_true rfl, Nat.le_of_ble_eq_true rfl⟩) hm (by decide) rfl rfl rfl (Nat.le_of_ble_eq_true rfl) dX7_ringTold_28 ⟨Nat.zero_le _, Nat.zero_le _⟩) hS (fun v_957 I_951 R_952 J_953 AI_954 AJ_955 AR_956 H locs zv_957 hp_958 hH hS => ?_)
    dsimp only at hp_958
    obtain ⟨r_959, er_959⟩ : ∃ qQ : pR, qQ = thn (f, h, 0) (fun t _ => sCol b nn v_949 t) := ⟨_, rfl⟩
    rw [← er_959] at hp_958
    obtain ⟨rfl, rfl, rfl, rfl, hv, pfq, q_960, q_961, hQ, q_962⟩ := hp_958
    have pf := qF_t pf pfq
    have u_963_2 : (I_951 mo 2).toInt = (I mo 2).toInt := by rw [pf 2 (by decide) (by decide) (by decide) (by decide) (by decide)]
    have u_963_5 : (I_951 mo 5).toInt = (I mo 5).toInt := by rw [pf 5 (by decide) (by decide) (by decide) (by decide) (by decide)]
    have u_963_14 : (I_951 mo 14).toInt = (I mo 14).toInt := by rw [pf 14 (by decide) (by decide) (by decide) (by decide) (by decide)]
    have u_963_16 : (I_951 mo 16).toInt = (I mo 16).toInt := by rw [pf 16 (by decide) (by decide) (by decide) (by decide) (by decide)]
    have u_963_18 : (I_951 mo 18).toInt = (I mo 18).toInt := by rw [pf 18 (by decide) (by decide) (by decide) (by decide) (by decide)]
    rw [thn_b (by omega)] at er_959
    have hQ : mQ gh I_951 J_953 AI AJ mo b nn nr nt cc f h := by rw [er_959] at hQ; exact hQ
    replace q_961 := hid q_961
    obtain ⟨f1, ef1⟩ : ∃ q, q = (I_951 mo 24).toInt := ⟨_, rfl⟩
    have hc1 : Hid (f1 = 0 → 0 ≤ v_957 ∧ v_957 ≤ 3) := fun h9 => by omega
    refine lv_istore_n (lv' := [(3, .int (iI v_957)), (2, .int (iI v_923)), (1, .int (iI v_898)), (0, .ref mo)]) F.1 F.2.1 dX7_ringTold_31 rfl hl (by decide) rfl (fun ls hl => ?_)
    refine lv_aload_n F.1 F.2.1 dX7_ringTold_32 rfl (lv_at hl 3 rfl) ?_
    refine z_bipush F dX7_ringTold_33 (by decide) ?_
    have b_964 := mJ hv hm
    unfold mNum1 at b_964
    refine g_callv (g_runV (As := [.int (iI 61)]) (rest := []) (ci := 7) F hl.1 hH hS hz (c_X7_mustSignf l g gh T b nn nr nt cc f h I_951 R J_953 AI AJ AR mo 61 ⟨by decide, by decide⟩ hv hm hT (by omega) h65 hbM hr7 (by omega) hn9 (by omega) (by omega) hQ) (cwV 1 F.2.2.2.2.1 (good_up gT_X7_mustSign) rfl rfl rfl hdX7_mustSign ⟨Nat.le_of_ble_eq_true rfl, Nat.le_of_ble_eq_true rfl⟩) hm (by decide) rfl rfl rfl (Nat.le_of_ble_eq_true rfl) dX7_ringTold_35 ⟨Nat.zero_le _, Nat.zero_le _⟩) hS (fun I_965 R_966 J_967 AI_968 AJ_969 AR_970 H locs hp_971 hH hS => ?_)
    dsimp only at hp_971
    obtain ⟨r_972, er_972⟩ : ∃ qQ : pR, qQ = thn (f, h, 0) (fun t _ => sTk b nn 61 t) := ⟨_, rfl⟩
    rw [← er_972] at hp_971
    obtain ⟨rfl, rfl, rfl, rfl, hv, pfq, q_973, q_974, hQ⟩ := hp_971
    have pf := qF_t pf pfq
    have u_975_2 : (I_965 mo 2).toInt = (I mo 2).toInt := by rw [pf 2 (by decide) (by decide) (by decide) (by decide) (by decide)]
    have u_975_5 : (I_965 mo 5).toInt = (I mo 5).toInt := by rw [pf 5 (by decide) (by decide) (by decide) (by decide) (by decide)]
    have u_975_14 : (I_965 mo 14).toInt = (I mo 14).toInt := by rw [pf 14 (by decide) (by decide) (by decide) (by decide) (by decide)]
    have u_975_16 : (I_965 mo 16).toInt = (I mo 16).toInt := by rw [pf 16 (by decide) (by decide) (by decide) (by decide) (by decide)]
    have u_975_18 : (I_965 mo 18).toInt = (I mo 18).toInt := by rw [pf 18 (by decide) (by decide) (by decide) (by decide) (by decide)]
    rw [thn_b (by omega)] at er_972
    have hQ : mQ gh I_965 J_967 AI AJ mo b nn nr nt cc f h := by rw [er_972] at hQ; exact hQ
    replace q_974 := hid q_974
    refine lv_aload_n F.1 F.2.1 dX7_ringTold_38 rfl (lv_at hl 3 rfl) ?_
    refine lv_aload_n F.1 F.2.1 dX7_ringTold_39 rfl (lv_at hl 3 rfl) ?_
    refine lv_iload_n F.1 F.2.1 dX7_ringTold_40 rfl (lv_at hl 1 rfl) ?_
    have b_977 := mJ hv hm
    unfold mNum1 at b_977
    refine g_calli (g_runV (As := [.int (iI v_923)]) (rest := [.ref mo]) (ci := 7) F hl.1 hH hS hz (c_X7_columns l g gh T I_965 R J_967 AI AJ AR mo v_923 zv_923 hv hm hT (by omega)) (cwV 1 F.2.2.2.2.1 (good_up gT_X7_columns) rfl rfl rfl hdX7_columns ⟨Nat.le_of_ble_eq_true rfl, Nat.le_of_ble_eq_true rfl⟩) hm (by decide) rfl rfl rfl (Nat.le_of_ble_eq_true rfl) dX7_ringTold_41 ⟨Nat.zero_le _, Nat.zero_le _⟩) hS (fun v_984 I_978 R_979 J_980 AI_981 AJ_982 AR_983 H locs zv_984 hp_985 hH hS => ?_)
    dsimp only at hp_985
    obtain ⟨rfl, rfl, rfl, rfl, rfl, rfl, q_976⟩ := hp_985
    refine g_calli (g_runV (As := [.int (iI v_984)]) (rest := []) (ci := 7) F hl.1 hH hS hz (c_X7_columnf l g gh T b nn nr nt cc f h I_965 R J_967 AI AJ AR mo v_984 zv_984 hv hm hT (by omega) h65 hbM hr7 (by omega) hn9 (by omega) hQ) (cwV 1 F.2.2.2.2.1 (good_up gT_X7_column) rfl rfl rfl hdX7_column ⟨Nat.le_of_ble_eq_true rfl, Nat.le_of_ble_eq_true rfl⟩) hm (by decide) rfl rfl rfl (Nat.le_of_ble_eq_true rfl) dX7_ringTold_44 ⟨Nat.zero_le _, Nat.zero_le _⟩) hS (fun v_992 I_986 R_987 J_988 AI_989 AJ_990 AR_991 H locs zv_992 hp_993 hH hS => ?_)
    dsimp only at hp_993
    obtain ⟨r_994, er_994⟩ : ∃ qQ : pR, qQ = thn (f, h, 0) (fun t _ => sCol b nn v_984 t) := ⟨_, rfl⟩
    rw [← er_994] at hp_993
    obtain ⟨rfl, rfl, rfl, rfl, hv, pfq, q_995, q_996, hQ, q_997⟩ := hp_993
    have pf := qF_t pf pfq
    have u_998_2 : (I_986 mo 2).toInt = (I mo 2).toInt := by rw [pf 2 (by decide) (by decide) (by decide) (by decide) (by decide)]
    have u_998_5 : (I_986 mo 5).toInt = (I mo 5).toInt := by rw [pf 5 (by decide) (by decide) (by decide) (by decide) (by decide)]
    have u_998_14 : (I_986 mo 14).toInt = (I mo 14).toInt := by rw [pf 14 (by decide) (by decide) (by decide) (by decide) (by decide)]
    have u_998_16 : (I_986 mo 16).toInt = (I mo 16).toInt := by rw [pf 16 (by decide) (by decide) (by decide) (by decide) (by decide)]
    have u_998_18 : (I_986 mo 18).toInt = (I mo 18).toInt := by rw [pf 18 (by decide) (by decide) (by decide) (by decide) (by decide)]
    rw [thn_b (by omega)] at er_994
    have hQ : mQ gh I_986 J_988 AI AJ mo b nn nr nt cc f h := by rw [er_994] at hQ; exact hQ
    replace q_996 := hid q_996
    obtain ⟨f2, ef2⟩ : ∃ q, q = (I_986 mo 24).toInt := ⟨_, rfl⟩
    have hd1 : Hid (f2 = 0 → 0 ≤ v_992 ∧ v_992 ≤ 3) := fun h9 => by omega
    refine lv_istore (lv' := [(4, .int (iI v_992)), (3, .int (iI v_957)), (2, .int (iI v_923)), (1, .int (iI v_898)), (0, .ref mo)]) F.1 F.2.1 dX7_ringTold_47 hl (by decide) rfl (fun ls hl => ?_)
    refine lv_aload_n F.1 F.2.1 dX7_ringTold_49 rfl (lv_at hl 4 rfl) ?_
    refine va_ldcS F.1 F.2.1 F.2.2.2.1 (F.2.2.2.2.2.2.1 26 _ rfl).1 dX7_ringTold_50 ?_
    have b_999 := mJ hv hm
    unfold mNum1 at b_999
    refine g_callv (g_runV (As := [.ref (gSK g 26)]) (rest := []) (ci := 7) F hl.1 hH hS hz (c_X7_mustWordf l g gh T 26 _ 15 b nn nr nt cc f h I_986 R J_988 AI AJ AR mo hv hm hT (by omega) (rfl : sTab[26]? = some _) h65 hbM hr7 (by omega) hn9 (by omega) (by decide) (by decide +kernel) hQ) (cwV 1 F.2.2.2.2.1 (good_up gT_X7_mustWord) rfl rfl rfl hdX7_mustWord ⟨Nat.le_of_ble_eq_true rfl, Nat.le_of_ble_eq_true rfl⟩) hm (by decide) rfl rfl rfl (Nat.le_of_ble_eq_true rfl) dX7_ringTold_52 ⟨Nat.zero_le _, Nat.zero_le _⟩) hS (fun I_1000 R_1001 J_1002 AI_1003 AJ_1004 AR_1005 H locs hp_1006 hH hS => ?_)
    dsimp only at hp_1006
    obtain ⟨r_1007, er_1007⟩ : ∃ qQ : pR, qQ = thn (f, h, 0) (fun t _ => sTw b nn ((15 : Nat) : Int) t) := ⟨_, rfl⟩
    rw [← er_1007] at hp_1006
    obtain ⟨rfl, rfl, rfl, rfl, hv, pfq, q_1008, hQ⟩ := hp_1006
    have pf := qF_t pf pfq
    have u_1009_2 : (I_1000 mo 2).toInt = (I mo 2).toInt := by rw [pf 2 (by decide) (by decide) (by decide) (by decide) (by decide)]
    have u_1009_5 : (I_1000 mo 5).toInt = (I mo 5).toInt := by rw [pf 5 (by decide) (by decide) (by decide) (by decide) (by decide)]
    have u_1009_14 : (I_1000 mo 14).toInt = (I mo 14).toInt := by rw [pf 14 (by decide) (by decide) (by decide) (by decide) (by decide)]
    have u_1009_16 : (I_1000 mo 16).toInt = (I mo 16).toInt := by rw [pf 16 (by decide) (by decide) (by decide) (by decide) (by decide)]
    have u_1009_18 : (I_1000 mo 18).toInt = (I mo 18).toInt := by rw [pf 18 (by decide) (by decide) (by decide) (by decide) (by decide)]
    rw [thn_b (by omega)] at er_1007
    have hQ : mQ gh I_1000 J_1002 AI AJ mo b nn nr nt cc f h := by rw [er_1007] at hQ; exact hQ
    have hfin : thn (f, h, 0) (fun t _ => sRngM b nn nr nt cc t) = (f, h, 0) := thn_b q0
    exact cut_55_820 v_898 v_923 v_957 v_992 I_1000 J_1002 AI H locs ls zv_898 zv_923 zv_957 zv_992 hv hT pf ⟨_, _, by omega, hQ, hfin⟩ (by omega) (by omega) hH hS (lv_sub hl [4, 3, 2, 1, 0] rfl)
