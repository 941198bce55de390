def rmX7_ringToldg : Room := { frames := 8, cells := 0, slots := 0, locals := 170 }
set_option maxHeartbeats 4000000 in
set_option maxRecDepth 100000 in
/-- a ring told -/
theorem c_X7_ringToldg (l : Launch) (g : gG) (gh : gGh) (T : Nat → Int32) (M : Int) (b : tTx) (nn nr : Nat) (nt : Nat → Nat) (cc : Nat → Int) (f : Int) (h : Nat) (I : gI) (R : gR) (J : gJ) (AI : gI) (AJ : gJ) (AR : gR) (mo : Nat) (hv : mInv g gh R I AI) (hm : gO g mo 7) (hT : AI (gh 50 0) = T) (hE : (I mo 20).toInt ≤ 936) (hM : (I mo 24).toInt = 0 → (I mo 5).toInt ≤ 15) (hMM : (I mo 5).toInt = M) (h65 : gh 9 (gh 65 0) ≠ 5) (hbM : ∀ k : Nat, k < nn → ((gM g).2 (gh 65 0) k).toInt = b k % 256) (hr7 : ∀ k : Nat, -128 ≤ b k ∧ b k ≤ 127) (hsz : (I mo 18).toInt = (nn : Int)) (hn9 : nn ≤ 900) (hm5 : (I mo 5).toInt = (nr : Int)) (hQ : mQ gh I J AI AJ mo b nn nr nt cc f h) : gMet l g yX7_ringTold tsX7_ringTold rmX7_ringToldg [.ref mo] (I, R, J, AI, AJ, AR) (gQv g (fun w : gS => R = w.2.1 ∧ AJ = w.2.2.2.2.1 ∧ AR = w.2.2.2.2.2 ∧ (mInv g gh R (w.1) (w.2.2.2.1)) ∧ ((w.2.2.2.1) (gh 50 0) = T) ∧ (qF mo I (w.1)) ∧ (((w.1) mo 20).toInt ≤ 936 ∧ (I mo 24).toInt ≤ ((w.1) mo 24).toInt) ∧ (((w.1) mo 24).toInt = 0 → ((w.1) mo 21).toInt = 4 → ((w.1) mo 23).toInt = 59 → rowOK ((w.2.2.2.1) (gh 53 0)) M) ∧ (((w.1) mo 24).toInt = 0 → tI ((w.2.2.2.1) (gh 53 0)) (40 * M) = 8) ∧ (mQ gh (w.1) (w.2.2.1) (w.2.2.2.1) AJ mo b nn nr nt cc (thn (f, h, 0) (fun t _ => sRngM b nn nr nt cc t)).1 (thn (f, h, 0) (fun t _ => sRngM b nn nr nt cc t)).2.1) ∧ (pIc (thn (f, h, 0) (fun t _ => sRngM b nn nr nt cc t)).1 (pK b nn (thn (f, h, 0) (fun t _ => sRngM b nn nr nt cc t)).2.1) (tI ((w.2.2.2.1) (gh 53 0)) (40 * (nr : Int) + 1)) (thn (f, h, 0) (fun t _ => sRngM b nn nr nt cc t)).2.2) ∧ (zIf (thn (f, h, 0) (fun t _ => sRngM b nn nr nt cc t)).1 (frM M (AI (gh 53 0)) ((w.2.2.2.1) (gh 53 0)))) ∧ (zIf (thn (f, h, 0) (fun t _ => sRngM b nn nr nt cc t)).1 (mRng b nn nr nt h ((w.2.2.2.1) (gh 53 0)) M)) ∧ (∀ b, b ≠ gh 53 0 → (w.2.2.2.1) b = AI b))) := by
  refine gStart (cc := cX7_ringTold) (maxL := 7) (ret := none) (by decide) rfl (Nat.le_of_ble_eq_true rfl) ?_
  intro p e s m below meth c ls F hr hlk hH hz hS hl
  have hl : lv_has ls 7 [(0, .ref mo)] := hl
  have hS : va_S (gA g) s.heap s.heap [] := hS
  obtain ⟨H, hHe⟩ : ∃ H : Heap, H = s.heap := ⟨_, rfl⟩
  obtain ⟨locs, hlo⟩ : ∃ k : List Loc, k = [] := ⟨_, rfl⟩
  have hH : gH g I R J AI AJ AR H := by rw [hHe]; exact hH
  have hS : va_S (gA g) s.heap H locs := by rw [hHe, hlo]; exact hS
  suffices hw : W p l e rmX7_ringToldg s m ([.ref mo] : List Value).toArray below meth c H locs 0 0 (MQ below (gQv g (fun w : gS => R = w.2.1 ∧ AJ = w.2.2.2.2.1 ∧ AR = w.2.2.2.2.2 ∧ (mInv g gh R (w.1) (w.2.2.2.1)) ∧ ((w.2.2.2.1) (gh 50 0) = T) ∧ (qF mo I (w.1)) ∧ (((w.1) mo 20).toInt ≤ 936 ∧ (I mo 24).toInt ≤ ((w.1) mo 24).toInt) ∧ (((w.1) mo 24).toInt = 0 → ((w.1) mo 21).toInt = 4 → ((w.1) mo 23).toInt = 59 → rowOK ((w.2.2.2.1) (gh 53 0)) M) ∧ (((w.1) mo 24).toInt = 0 → tI ((w.2.2.2.1) (gh 53 0)) (40 * M) = 8) ∧ (mQ gh (w.1) (w.2.2.1) (w.2.2.2.1) AJ mo b nn nr nt cc (thn (f, h, 0) (fun t _ => sRngM b nn nr nt cc t)).1 (thn (f, h, 0) (fun t _ => sRngM b nn nr nt cc t)).2.1) ∧ (pIc (thn (f, h, 0) (fun t _ => sRngM b nn nr nt cc t)).1 (pK b nn (thn (f, h, 0) (fun t _ => sRngM b nn nr nt cc t)).2.1) (tI ((w.2.2.2.1) (gh 53 0)) (40 * (nr : Int) + 1)) (thn (f, h, 0) (fun t _ => sRngM b nn nr nt cc t)).2.2) ∧ (zIf (thn (f, h, 0) (fun t _ => sRngM b nn nr nt cc t)).1 (frM M (AI (gh 53 0)) ((w.2.2.2.1) (gh 53 0)))) ∧ (zIf (thn (f, h, 0) (fun t _ => sRngM b nn nr nt cc t)).1 (mRng b nn nr nt h ((w.2.2.2.1) (gh 53 0)) M)) ∧ (∀ b, b ≠ gh 53 0 → (w.2.2.2.1) b = AI b))) ([.ref mo] : List Value).toArray s 0 0 (gA g)) (F0 m 0 ls []) by
    rw [hHe, hlo] at hw; exact hw
  clear hHe hlo
  have pf : qF mo I I := qF_r
  have hb0 := mJ hv hm
  unfold mNum1 at hb0
  have hfr : frM M (AI (gh 53 0)) (AI (gh 53 0)) := frM_r
  have hf0 := mQ_p hQ
  by_cases q0 : f = 0
  · have hQ := mQ_ok hQ q0
    have hz0 := mQ_0 hQ rfl
    have cut_55_3 : ∀ (l1 l2 l3 l4 : Int) (I_1 : gI) (J_2 : gJ) (AI_3 : gI) (H : Heap) (locs : List Loc) (ls : Array Slot), zr l1 → zr l2 → zr l3 → zr l4 → (mInv g gh R I_1 AI_3) → (AI_3 (gh 50 0) = T) → (qF mo I I_1) → (∃ (f9 : Int) (h9 : Nat), f9 ≠ 0 ∧ mQ gh I_1 J_2 AI_3 AJ mo b nn nr nt cc f9 h9 ∧ thn (f, h, 0) (fun t _ => sRngM b nn nr nt cc t) = (f9, h9, 0)) → ((I_1 mo 20).toInt ≤ 936 ∧ (I mo 24).toInt ≤ (I_1 mo 24).toInt) → (0 ≤ l1 ∧ l1 ≤ 15 ∧ 0 ≤ l2 ∧ l2 ≤ 15) → (∀ b, b ≠ gh 53 0 → AI_3 b = AI b) → gH g I_1 R J_2 AI_3 AJ AR H → va_S (gA g) s.heap H locs → lv_has ls 7 [(0, .ref mo), (1, .int (iI l1)), (2, .int (iI l2)), (3, .int (iI l3)), (4, .int (iI l4))] → W p l e rmX7_ringToldg s m ([.ref mo] : List Value).toArray below meth c H locs 0 0 (MQ below (gQv g (fun w : gS => R = w.2.1 ∧ AJ = w.2.2.2.2.1 ∧ AR = w.2.2.2.2.2 ∧ (mInv g gh R (w.1) (w.2.2.2.1)) ∧ ((w.2.2.2.1) (gh 50 0) = T) ∧ (qF mo I (w.1)) ∧ (((w.1) mo 20).toInt ≤ 936 ∧ (I mo 24).toInt ≤ ((w.1) mo 24).toInt) ∧ (((w.1) mo 24).toInt = 0 → ((w.1) mo 21).toInt = 4 → ((w.1) mo 23).toInt = 59 → rowOK ((w.2.2.2.1) (gh 53 0)) M) ∧ (((w.1) mo 24).toInt = 0 → tI ((w.2.2.2.1) (gh 53 0)) (40 * M) = 8) ∧ (mQ gh (w.1) (w.2.2.1) (w.2.2.2.1) AJ mo b nn nr nt cc (thn (f, h, 0) (fun t _ => sRngM b nn nr nt cc t)).1 (thn (f, h, 0) (fun t _ => sRngM b nn nr nt cc t)).2.1) ∧ (pIc (thn (f, h, 0) (fun t _ => sRngM b nn nr nt cc t)).1 (pK b nn (thn (f, h, 0) (fun t _ => sRngM b nn nr nt cc t)).2.1) (tI ((w.2.2.2.1) (gh 53 0)) (40 * (nr : Int) + 1)) (thn (f, h, 0) (fun t _ => sRngM b nn nr nt cc t)).2.2) ∧ (zIf (thn (f, h, 0) (fun t _ => sRngM b nn nr nt cc t)).1 (frM M (AI (gh 53 0)) ((w.2.2.2.1) (gh 53 0)))) ∧ (zIf (thn (f, h, 0) (fun t _ => sRngM b nn nr nt cc t)).1 (mRng b nn nr nt h ((w.2.2.2.1) (gh 53 0)) M)) ∧ (∀ b, b ≠ gh 53 0 → (w.2.2.2.1) b = AI b))) ([.ref mo] : List Value).toArray s 0 0 (gA g)) (F0 m 55 ls []) := by
      intro l1 l2 l3 l4 I_1 J_2 AI_3 H locs ls zl1 zl2 zl3 zl4 hv hT pf hBad hx9 hl12 fA9 hH hS hl
      have uc_2 : (I_1 mo 2).toInt = (I mo 2).toInt := by rw [pf 2 (by decide) (by decide) (by decide) (by decide) (by decide)]
      have uc_5 : (I_1 mo 5).toInt = (I mo 5).toInt := by rw [pf 5 (by decide) (by decide) (by decide) (by decide) (by decide)]
      have uc_14 : (I_1 mo 14).toInt = (I mo 14).toInt := by rw [pf 14 (by decide) (by decide) (by decide) (by decide) (by decide)]
      have uc_16 : (I_1 mo 16).toInt = (I mo 16).toInt := by rw [pf 16 (by decide) (by decide) (by decide) (by decide) (by decide)]
      have uc_18 : (I_1 mo 18).toInt = (I mo 18).toInt := by rw [pf 18 (by decide) (by decide) (by decide) (by decide) (by decide)]
      obtain ⟨fb9, hb9, q9, hQ, hfin⟩ := hBad
      have q9f := mQ_f hQ q9
      have q9p := mQ_p hQ
      refine lv_aload_n F.1 F.2.1 dX7_ringTold_55 rfl (lv_at hl 0 rfl) ?_
      refine z_iconst F dX7_ringTold_56 ?_
      refine lv_iload_n F.1 F.2.1 dX7_ringTold_57 rfl (lv_at hl 3 rfl) ?_
      refine lv_iload F.1 F.2.1 dX7_ringTold_58 (lv_at hl 4 rfl) ?_
      refine z_iconst F dX7_ringTold_60 ?_
      refine z_iconst F dX7_ringTold_61 ?_
      have b_5 := mJ hv hm
      unfold mNum1 at b_5
      refine g_callv (g_runV (As := [.int (iI 0), .int (iI l3), .int (iI l4), .int (iI 0), .int (iI 0)]) (rest := []) (ci := 7) F hl.1 hH hS hz (c_X7_setsPartg l g gh T M I_1 R J_2 AI_3 AJ AR mo 0 l3 l4 0 0 ⟨by decide, by decide⟩ zl3 zl4 ⟨by decide, by decide⟩ ⟨by decide, by decide⟩ hv hm hT (by omega) (by omega) (by omega)) (cwV 5 F.2.2.2.2.1 (good_up gT_X7_setsPart) rfl rfl rfl hdX7_setsPart ⟨Nat.le_of_ble_eq_true rfl, Nat.le_of_ble_eq_true rfl⟩) hm (by decide) rfl rfl rfl (Nat.le_of_ble_eq_true rfl) dX7_ringTold_62 ⟨Nat.zero_le _, Nat.zero_le _⟩) hS (fun I_6 R_7 J_8 AI_9 AJ_10 AR_11 H locs hp_12 hH hS => ?_)
      dsimp only at hp_12
      obtain ⟨rfl, rfl, rfl, rfl, rfl, hv, hT, hsp, q_13⟩ := hp_12
      replace hsp := hid hsp
      have hQ : mQ gh I_1 J_2 AI_9 AJ mo b nn nr nt cc fb9 hb9 := mQ_bad hQ (by omega) rfl
      refine lv_aload_n F.1 F.2.1 dX7_ringTold_65 rfl (lv_at hl 0 rfl) ?_
      refine lv_iload_n F.1 F.2.1 dX7_ringTold_66 rfl (lv_at hl 1 rfl) ?_
      refine g_calli (g_runV (As := [.int (iI l1)]) (rest := []) (ci := 7) F hl.1 hH hS hz (c_X7_columns l g gh T I_1 R J_2 AI_9 AJ AR mo l1 zl1 hv hm hT (by omega)) (cwV 1 F.2.2.2.2.1 (good_up gT_X7_columns) rfl rfl rfl hdX7_columns ⟨Nat.le_of_ble_eq_true rfl, Nat.le_of_ble_eq_true rfl⟩) hm (by decide) rfl rfl rfl (Nat.le_of_ble_eq_true rfl) dX7_ringTold_67 ⟨Nat.zero_le _, Nat.zero_le _⟩) hS (fun v_21 I_15 R_16 J_17 AI_18 AJ_19 AR_20 H locs zv_21 hp_22 hH hS => ?_)
      dsimp only at hp_22
      obtain ⟨rfl, rfl, rfl, rfl, rfl, rfl, q_14⟩ := hp_22
      refine lv_aload_n F.1 F.2.1 dX7_ringTold_70 rfl (lv_at hl 0 rfl) ?_
      refine lv_iload_n F.1 F.2.1 dX7_ringTold_71 rfl (lv_at hl 2 rfl) ?_
      refine g_calli (g_runV (As := [.int (iI l2)]) (rest := [.int (iI v_21)]) (ci := 7) F hl.1 hH hS hz (c_X7_columns l g gh T I_1 R J_2 AI_9 AJ AR mo l2 zl2 hv hm hT (by omega)) (cwV 1 F.2.2.2.2.1 (good_up gT_X7_columns) rfl rfl rfl hdX7_columns ⟨Nat.le_of_ble_eq_true rfl, Nat.le_of_ble_eq_true rfl⟩) hm (by decide) rfl rfl rfl (Nat.le_of_ble_eq_true rfl) dX7_ringTold_72 ⟨Nat.zero_le _, Nat.zero_le _⟩) hS (fun v_30 I_24 R_25 J_26 AI_27 AJ_28 AR_29 H locs zv_30 hp_31 hH hS => ?_)
      dsimp only at hp_31
      obtain ⟨rfl, rfl, rfl, rfl, rfl, rfl, q_23⟩ := hp_31
      refine z_iadd F dX7_ringTold_75 ?_
      refine z_norm (fun v_32 zv_32 ev_32 => ?_)
      refine lv_istore (lv' := [(5, .int (iI v_32)), (0, .ref mo), (1, .int (iI l1)), (2, .int (iI l2)), (3, .int (iI l3)), (4, .int (iI l4))]) F.1 F.2.1 dX7_ringTold_76 hl (by decide) rfl (fun ls hl => ?_)
      refine lv_aload_n F.1 F.2.1 dX7_ringTold_78 rfl (lv_at hl 1 rfl) ?_
      refine lv_iload F.1 F.2.1 dX7_ringTold_79 (lv_at hl 0 rfl) ?_
      refine z_iconst F dX7_ringTold_81 ?_
      refine g_calli (g_runV (As := [.int (iI v_32), .int (iI 1)]) (rest := []) (ci := 7) F hl.1 hH hS hz (c_X7_termsToldg l g gh T M b nn nr nt cc fb9 hb9 I_1 R J_2 AI_9 AJ AR mo v_32 1 zv_32 ⟨by decide, by decide⟩ hv hm hT (by omega) (by omega) (by omega) (by omega) h65 hbM hr7 (by omega) hn9 (by omega) hQ) (cwV 2 F.2.2.2.2.1 (good_up gT_X7_termsTold) rfl rfl rfl hdX7_termsTold ⟨Nat.le_of_ble_eq_true rfl, Nat.le_of_ble_eq_true rfl⟩) hm (by decide) rfl rfl rfl (Nat.le_of_ble_eq_true rfl) dX7_ringTold_82 ⟨Nat.zero_le _, Nat.zero_le _⟩) hS (fun v_39 I_33 R_34 J_35 AI_36 AJ_37 AR_38 H locs zv_39 hp_40 hH hS => ?_)
      dsimp only at hp_40
      obtain ⟨r_41, er_41⟩ : ∃ qQ : pR, qQ = thn (fb9, hb9, 0) (fun t _ => sTerms b nn v_32 5 0 t) := ⟨_, rfl⟩
      rw [← er_41] at hp_40
      obtain ⟨rfl, rfl, rfl, hv, hT, pfq, q_42, q_43, htt, hQ, q_44, tmq, q_45⟩ := hp_40
      have pf := qF_t pf pfq
      have u_46_2 : (I_33 mo 2).toInt = (I mo 2).toInt := by rw [pf 2 (by decide) (by decide) (by decide) (by decide) (by decide)]
      have u_46_5 : (I_33 mo 5).toInt = (I mo 5).toInt := by rw [pf 5 (by decide) (by decide) (by decide) (by decide) (by decide)]
      have u_46_14 : (I_33 mo 14).toInt = (I mo 14).toInt := by rw [pf 14 (by decide) (by decide) (by decide) (by decide) (by decide)]
      have u_46_16 : (I_33 mo 16).toInt = (I mo 16).toInt := by rw [pf 16 (by decide) (by decide) (by decide) (by decide) (by decide)]
      have u_46_18 : (I_33 mo 18).toInt = (I mo 18).toInt := by rw [pf 18 (by decide) (by decide) (by decide) (by decide) (by decide)]
      rw [thn_b (by omega)] at er_41
      have hQ : mQ gh I_33 J_35 AI_36 AJ mo b nn nr nt cc fb9 hb9 := by rw [er_41] at hQ; exact hQ
      replace htt := hid htt
      refine lv_istore (lv' := [(6, .int (iI v_39)), (5, .int (iI v_32)), (0, .ref mo), (1, .int (iI l1)), (2, .int (iI l2)), (3, .int (iI l3)), (4, .int (iI l4))]) F.1 F.2.1 dX7_ringTold_85 hl (by decide) rfl (fun ls hl => ?_)
      obtain ⟨f9, ef9⟩ : ∃ q, q = (I_33 mo 24).toInt := ⟨_, rfl⟩
      refine lv_aload_n F.1 F.2.1 dX7_ringTold_87 rfl (lv_at hl 2 rfl) ?_
      refine z_bipush F dX7_ringTold_88 (by decide) ?_
      have b_47 := mJ hv hm
      unfold mNum1 at b_47
      refine g_calli (g_runV (As := [.int (iI 59)]) (rest := []) (ci := 7) F hl.1 hH hS hz (c_X7_isSignf l g gh T b nn nr nt cc fb9 hb9 I_33 R J_35 AI_36 AJ AR mo 59 ⟨by decide, by decide⟩ hv hm hT h65 hbM hr7 (by omega) hn9 (by omega) (by omega) hQ) (cwV 1 F.2.2.2.2.1 (good_up gT_X7_isSign) rfl rfl rfl hdX7_isSign ⟨Nat.le_of_ble_eq_true rfl, Nat.le_of_ble_eq_true rfl⟩) hm (by decide) rfl rfl rfl (Nat.le_of_ble_eq_true rfl) dX7_ringTold_90 ⟨Nat.zero_le _, Nat.zero_le _⟩) hS (fun v_54 I_48 R_49 J_50 AI_51 AJ_52 AR_53 H locs zv_54 hp_55 hH hS => ?_)
      dsimp only at hp_55
      obtain ⟨rfl, rfl, rfl, rfl, rfl, rfl, q_56, q_57⟩ := hp_55
      replace q_56 := q_56.1
      refine z_if_eq (tgt := 117) F dX7_ringTold_93 (by decide) zv_54 (fun c_58 => ?_) (fun c_58 => ?_)
      · have t_59 := tIz_0 q_57 (by omega)
        refine lv_aload_n F.1 F.2.1 dX7_ringTold_117 rfl (lv_at hl 2 rfl) ?_
        refine z_bipush F dX7_ringTold_118 (by decide) ?_
        refine lv_aload_n F.1 F.2.1 dX7_ringTold_120 rfl (lv_at hl 2 rfl) ?_
        refine lv_iload_n F.1 F.2.1 dX7_ringTold_121 rfl (lv_at hl 3 rfl) ?_
        refine g_calli (g_runV (As := [.int (iI l1)]) (rest := [.int (iI 8), .ref mo]) (ci := 7) F hl.1 hH hS hz (c_X7_columns l g gh T I_33 R J_35 AI_36 AJ AR mo l1 zl1 hv hm hT (by omega)) (cwV 1 F.2.2.2.2.1 (good_up gT_X7_columns) rfl rfl rfl hdX7_columns ⟨Nat.le_of_ble_eq_true rfl, Nat.le_of_ble_eq_true rfl⟩) hm (by decide) rfl rfl rfl (Nat.le_of_ble_eq_true rfl) dX7_ringTold_122 ⟨Nat.zero_le _, Nat.zero_le _⟩) hS (fun v_67 I_61 R_62 J_63 AI_64 AJ_65 AR_66 H locs zv_67 hp_68 hH hS => ?_)
        dsimp only at hp_68
        obtain ⟨rfl, rfl, rfl, rfl, rfl, rfl, q_60⟩ := hp_68
        have hcol : Hid ((I_33 mo 24).toInt = 0 → 1 ≤ v_67 ∧ v_67 ≤ 4) := fun h => by have q9 := mCol hv hm (z := l1) (by omega) (by omega); omega
        refine lv_iload_n F.1 F.2.1 dX7_ringTold_125 rfl (lv_at hl 3 rfl) ?_
        refine lv_iload_n F.1 F.2.1 dX7_ringTold_126 rfl (lv_at hl 4 rfl) ?_
        refine lv_iload F.1 F.2.1 dX7_ringTold_127 (lv_at hl 0 rfl) ?_
        refine g_callv (g_runV (As := [.int (iI 8), .int (iI v_67), .int (iI l1), .int (iI l2), .int (iI v_39)]) (rest := []) (ci := 7) F hl.1 hH hS hz (c_X7_headerg l g gh T M I_33 R J_35 AI_36 AJ AR mo 8 v_67 l1 l2 v_39 ⟨by decide, by decide⟩ zv_67 zl1 zl2 zv_39 hv hm hT (by omega) (by omega)) (cwV 5 F.2.2.2.2.1 (good_up gT_X7_header) rfl rfl rfl hdX7_header ⟨Nat.le_of_ble_eq_true rfl, Nat.le_of_ble_eq_true rfl⟩) hm (by decide) rfl rfl rfl (Nat.le_of_ble_eq_true rfl) dX7_ringTold_129 ⟨Nat.zero_le _, Nat.zero_le _⟩) hS (fun I_69 R_70 J_71 AI_72 AJ_73 AR_74 H locs hp_75 hH hS => ?_)
        dsimp only at hp_75
        obtain ⟨rfl, rfl, rfl, rfl, rfl, hv, hT, hhd, q_76⟩ := hp_75
        replace hhd := hid hhd
        have hQ : mQ gh I_33 J_35 AI_72 AJ mo b nn nr nt cc fb9 hb9 := mQ_bad hQ (by omega) rfl
        exact g_vret F hr hlk hH hS hz ⟨rfl, rfl, rfl, hv, hT, pf, by first | (dsimp only; omega) | omega | rfl, by (try dsimp only); exact (fun hf => absurd hf (by omega)), by (try dsimp only); exact (fun hf => absurd hf (by omega)), by (try dsimp only); rw [hfin]; exact hQ, by (try dsimp only); rw [hfin]; exact pIc_n (by omega), by (try dsimp only); rw [hfin]; exact zIf_n (by omega), by (try dsimp only); rw [hfin]; exact zIf_n (by omega), fun b hb => (((q_76 b hb).trans (q_45 b hb)).trans (q_13 b hb)).trans (fA9 b hb)⟩ dX7_ringTold_132
      · exact absurd (tIz_1 q_57 (by omega)).1 (by omega)
    refine lv_aload_n F.1 F.2.1 dX7_ringTold_0 rfl (lv_at hl 0 rfl) ?_
    have b_77 := mJ hv hm
    unfold mNum1 at b_77
    refine g_calli (g_runV (As := []) (rest := []) (ci := 7) F hl.1 hH hS hz (c_X7_relationg l g gh T b nn nr nt cc 0 h I R J AI AJ AR mo hv hm hT (by omega) h65 hbM hr7 (by omega) hn9 (by omega) hQ) (cwV 0 F.2.2.2.2.1 (good_up gT_X7_relation) rfl rfl rfl hdX7_relation ⟨Nat.le_of_ble_eq_true rfl, Nat.le_of_ble_eq_true rfl⟩) hm (by decide) rfl rfl rfl (Nat.le_of_ble_eq_true rfl) dX7_ringTold_1 ⟨Nat.zero_le _, Nat.zero_le _⟩) hS (fun v_84 I_78 R_79 J_80 AI_81 AJ_82 AR_83 H locs zv_84 hp_85 hH hS => ?_)
    dsimp only at hp_85
    obtain ⟨r_86, er_86⟩ : ∃ qQ : pR, qQ = thn (0, h, 0) (fun t _ => sRl b nn nr nt cc t) := ⟨_, rfl⟩
    rw [← er_86] at hp_85
    obtain ⟨rfl, rfl, rfl, rfl, hv, pfq, q_87, q_88, hQ, q_89, q_90⟩ := hp_85
    have pf := qF_t pf pfq
    have u_91_2 : (I_78 mo 2).toInt = (I mo 2).toInt := by rw [pf 2 (by decide) (by decide) (by decide) (by decide) (by decide)]
    have u_91_5 : (I_78 mo 5).toInt = (I mo 5).toInt := by rw [pf 5 (by decide) (by decide) (by decide) (by decide) (by decide)]
    have u_91_14 : (I_78 mo 14).toInt = (I mo 14).toInt := by rw [pf 14 (by decide) (by decide) (by decide) (by decide) (by decide)]
    have u_91_16 : (I_78 mo 16).toInt = (I mo 16).toInt := by rw [pf 16 (by decide) (by decide) (by decide) (by decide) (by decide)]
    have u_91_18 : (I_78 mo 18).toInt = (I mo 18).toInt := by rw [pf 18 (by decide) (by decide) (by decide) (by decide) (by decide)]
    have er_86 : r_86 = sRl b nn nr nt cc h := er_86
    have sr_86 := er_86
    rcases sRl_c er_86 with ⟨er_86, pr_86⟩ | ⟨er_86, pr_86⟩
    · have hQ : mQ gh I_78 J_80 AI AJ mo b nn nr nt cc 0 (h + 1) := by rw [er_86] at hQ; exact hQ
      have sr_86 : sRl b nn nr nt cc h = (0, h + 1, cF b nn nr nt cc h) := sr_86.symm.trans er_86
      have vlr_86 := q_89 (by rw [er_86])
      try rw [er_86] at vlr_86
      try dsimp only at vlr_86
      replace q_88 := (⟨q_88.1, q_88.2.1, q_88.2.2 (mQ_0 hQ rfl)⟩ : _ ∧ _ ∧ _)
      have vfr_86 := q_90 (by rw [er_86])
      try rw [er_86] at vfr_86
      try dsimp only at vfr_86
      obtain ⟨fa0, efa0⟩ : ∃ q, q = (I_78 mo 24).toInt := ⟨_, rfl⟩
      have hra : Hid (fa0 = 0 → v_84 < M) := fun h9 => by omega
      refine lv_istore_n (lv' := [(1, .int (iI v_84)), (0, .ref mo)]) F.1 F.2.1 dX7_ringTold_4 rfl hl (by decide) rfl (fun ls hl => ?_)
      refine lv_aload_n F.1 F.2.1 dX7_ringTold_5 rfl (lv_at hl 1 rfl) ?_
      refine va_ldcS F.1 F.2.1 F.2.2.2.1 (F.2.2.2.2.2.2.1 25 _ rfl).1 dX7_ringTold_6 ?_
      have b_92 := mJ hv hm
      unfold mNum1 at b_92
      refine g_callv (g_runV (As := [.ref (gSK g 25)]) (rest := []) (ci := 7) F hl.1 hH hS hz (c_X7_mustWordf l g gh T 25 _ 14 b nn nr nt cc 0 (h + 1) I_78 R J_80 AI AJ AR mo hv hm hT (by omega) (rfl : sTab[25]? = some _) h65 hbM hr7 (by omega) hn9 (by omega) (by decide) (by decide +kernel) hQ) (cwV 1 F.2.2.2.2.1 (good_up gT_X7_mustWord) rfl rfl rfl hdX7_mustWord ⟨Nat.le_of_ble_eq_true rfl, Nat.le_of_ble_eq_true rfl⟩) hm (by decide) rfl rfl rfl (Nat.le_of_ble_eq_true rfl) dX7_ringTold_8 ⟨Nat.zero_le _, Nat.zero_le _⟩) hS (fun I_93 R_94 J_95 AI_96 AJ_97 AR_98 H locs hp_99 hH hS => ?_)
      dsimp only at hp_99
      obtain ⟨r_100, er_100⟩ : ∃ qQ : pR, qQ = thn (0, (h + 1), 0) (fun t _ => sTw b nn ((14 : Nat) : Int) t) := ⟨_, rfl⟩
      rw [← er_100] at hp_99
      obtain ⟨rfl, rfl, rfl, rfl, hv, pfq, q_101, hQ⟩ := hp_99
      have pf := qF_t pf pfq
      have u_102_2 : (I_93 mo 2).toInt = (I mo 2).toInt := by rw [pf 2 (by decide) (by decide) (by decide) (by decide) (by decide)]
      have u_102_5 : (I_93 mo 5).toInt = (I mo 5).toInt := by rw [pf 5 (by decide) (by decide) (by decide) (by decide) (by decide)]
      have u_102_14 : (I_93 mo 14).toInt = (I mo 14).toInt := by rw [pf 14 (by decide) (by decide) (by decide) (by decide) (by decide)]
      have u_102_16 : (I_93 mo 16).toInt = (I mo 16).toInt := by rw [pf 16 (by decide) (by decide) (by decide) (by decide) (by decide)]
      have u_102_18 : (I_93 mo 18).toInt = (I mo 18).toInt := by rw [pf 18 (by decide) (by decide) (by decide) (by decide) (by decide)]
      have er_100 : r_100 = sTw b nn 14 (h + 1) := er_100
      have sr_100 := er_100
      rcases sTw_c er_100 with ⟨er_100, pr_100⟩ | ⟨er_100, pr_100⟩
      · have hQ : mQ gh I_93 J_95 AI AJ mo b nn nr nt cc 0 (h + 2) := by rw [er_100] at hQ; exact hQ
        have sr_100 : sTw b nn 14 (h + 1) = (0, h + 2, 0) := sr_100.symm.trans er_100
        refine lv_aload_n F.1 F.2.1 dX7_ringTold_11 rfl (lv_at hl 1 rfl) ?_
        have b_103 := mJ hv hm
        unfold mNum1 at b_103
        refine g_calli (g_runV (As := []) (rest := []) (ci := 7) F hl.1 hH hS hz (c_X7_relationg l g gh T b nn nr nt cc 0 (h + 2) I_93 R J_95 AI AJ AR mo hv hm hT (by omega) h65 hbM hr7 (by omega) hn9 (by omega) hQ) (cwV 0 F.2.2.2.2.1 (good_up gT_X7_relation) rfl rfl rfl hdX7_relation ⟨Nat.le_of_ble_eq_true rfl, Nat.le_of_ble_eq_true rfl⟩) hm (by decide) rfl rfl rfl (Nat.le_of_ble_eq_true rfl) dX7_ringTold_12 ⟨Nat.zero_le _, Nat.zero_le _⟩) hS (fun v_110 I_104 R_105 J_106 AI_107 AJ_108 AR_109 H locs zv_110 hp_111 hH hS => ?_)
        dsimp only at hp_111
        obtain ⟨r_112, er_112⟩ : ∃ qQ : pR, qQ = thn (0, (h + 2), 0) (fun t _ => sRl b nn nr nt cc t) := ⟨_, rfl⟩
        rw [← er_112] at hp_111
        obtain ⟨rfl, rfl, rfl, rfl, hv, pfq, q_113, q_114, hQ, q_115, q_116⟩ := hp_111
        have pf := qF_t pf pfq
        have u_117_2 : (I_104 mo 2).toInt = (I mo 2).toInt := by rw [pf 2 (by decide) (by decide) (by decide) (by decide) (by decide)]
        have u_117_5 : (I_104 mo 5).toInt = (I mo 5).toInt := by rw [pf 5 (by decide) (by decide) (by decide) (by decide) (by decide)]
        have u_117_14 : (I_104 mo 14).toInt = (I mo 14).toInt := by rw [pf 14 (by decide) (by decide) (by decide) (by decide) (by decide)]
        have u_117_16 : (I_104 mo 16).toInt = (I mo 16).toInt := by rw [pf 16 (by decide) (by decide) (by decide) (by decide) (by decide)]
        have u_117_18 : (I_104 mo 18).toInt = (I mo 18).toInt := by rw [pf 18 (by decide) (by decide) (by decide) (by decide) (by decide)]
        have er_112 : r_112 = sRl b nn nr nt cc (h + 2) := er_112
        have sr_112 := er_112
        rcases sRl_c er_112 with ⟨er_112, pr_112⟩ | ⟨er_112, pr_112⟩
        · have hQ : mQ gh I_104 J_106 AI AJ mo b nn nr nt cc 0 (h + 3) := by rw [er_112] at hQ; exact hQ
          have sr_112 : sRl b nn nr nt cc (h + 2) = (0, h + 3, cF b nn nr nt cc (h + 2)) := sr_112.symm.trans er_112
          have vlr_112 := q_115 (by rw [er_112])
          try rw [er_112] at vlr_112
          try dsimp only at vlr_112
          replace q_114 := (⟨q_114.1, q_114.2.1, q_114.2.2 (mQ_0 hQ rfl)⟩ : _ ∧ _ ∧ _)
          have vfr_112 := q_116 (by rw [er_112])
          try rw [er_112] at vfr_112
          try dsimp only at vfr_112
          obtain ⟨f0, ef0⟩ : ∃ q, q = (I_104 mo 24).toInt := ⟨_, rfl⟩
          have hr2 : Hid (f0 = 0 → v_110 < M ∧ fa0 = 0) := fun h9 => by omega
          refine lv_istore_n (lv' := [(2, .int (iI v_110)), (1, .int (iI v_84)), (0, .ref mo)]) F.1 F.2.1 dX7_ringTold_15 rfl hl (by decide) rfl (fun ls hl => ?_)
          refine lv_aload_n F.1 F.2.1 dX7_ringTold_16 rfl (lv_at hl 2 rfl) ?_
          refine va_ldcS F.1 F.2.1 F.2.2.2.1 (F.2.2.2.2.2.2.1 14 _ rfl).1 dX7_ringTold_17 ?_
          have b_118 := mJ hv hm
          unfold mNum1 at b_118
          refine g_callv (g_runV (As := [.ref (gSK g 14)]) (rest := []) (ci := 7) F hl.1 hH hS hz (c_X7_mustWordf l g gh T 14 _ 12 b nn nr nt cc 0 (h + 3) I_104 R J_106 AI AJ AR mo hv hm hT (by omega) (rfl : sTab[14]? = some _) h65 hbM hr7 (by omega) hn9 (by omega) (by decide) (by decide +kernel) hQ) (cwV 1 F.2.2.2.2.1 (good_up gT_X7_mustWord) rfl rfl rfl hdX7_mustWord ⟨Nat.le_of_ble_eq_true rfl, Nat.le_of_ble_eq_true rfl⟩) hm (by decide) rfl rfl rfl (Nat.le_of_ble_eq_true rfl) dX7_ringTold_19 ⟨Nat.zero_le _, Nat.zero_le _⟩) hS (fun I_119 R_120 J_121 AI_122 AJ_123 AR_124 H locs hp_125 hH hS => ?_)
          dsimp only at hp_125
          obtain ⟨r_126, er_126⟩ : ∃ qQ : pR, qQ = thn (0, (h + 3), 0) (fun t _ => sTw b nn ((12 : Nat) : Int) t) := ⟨_, rfl⟩
          rw [← er_126] at hp_125
          obtain ⟨rfl, rfl, rfl, rfl, hv, pfq, q_127, hQ⟩ := hp_125
          have pf := qF_t pf pfq
          have u_128_2 : (I_119 mo 2).toInt = (I mo 2).toInt := by rw [pf 2 (by decide) (by decide) (by decide) (by decide) (by decide)]
          have u_128_5 : (I_119 mo 5).toInt = (I mo 5).toInt := by rw [pf 5 (by decide) (by decide) (by decide) (by decide) (by decide)]
          have u_128_14 : (I_119 mo 14).toInt = (I mo 14).toInt := by rw [pf 14 (by decide) (by decide) (by decide) (by decide) (by decide)]
          have u_128_16 : (I_119 mo 16).toInt = (I mo 16).toInt := by rw [pf 16 (by decide) (by decide) (by decide) (by decide) (by decide)]
          have u_128_18 : (I_119 mo 18).toInt = (I mo 18).toInt := by rw [pf 18 (by decide) (by decide) (by decide) (by decide) (by decide)]
          have er_126 : r_126 = sTw b nn 12 (h + 3) := er_126
          have sr_126 := er_126
          rcases sTw_c er_126 with ⟨er_126, pr_126⟩ | ⟨er_126, pr_126⟩
          · have hQ : mQ gh I_119 J_121 AI AJ mo b nn nr nt cc 0 (h + 4) := by rw [er_126] at hQ; exact hQ
            have sr_126 : sTw b nn 12 (h + 3) = (0, h + 4, 0) := sr_126.symm.trans er_126
            have cut_22_130 : ∀ (I_129 : gI) (J_130 : gJ) (H : Heap) (locs : List Loc) (ls : Array Slot), (mInv g gh R I_129 AI) → (qF mo I I_129) → (mQ gh I_129 J_130 AI AJ mo b nn nr nt cc 0 (h + 4)) → ((I_129 mo 20).toInt ≤ 936) → gH g I_129 R J_130 AI AJ AR H → va_S (gA g) s.heap H locs → lv_has ls 7 [(2, .int (iI v_110)), (1, .int (iI v_84)), (0, .ref mo)] → W p l e rmX7_ringToldg s m ([.ref mo] : List Value).toArray below meth c H locs 0 0 (MQ below (gQv g (fun w : gS => R = w.2.1 ∧ AJ = w.2.2.2.2.1 ∧ AR = w.2.2.2.2.2 ∧ (mInv g gh R (w.1) (w.2.2.2.1)) ∧ ((w.2.2.2.1) (gh 50 0) = T) ∧ (qF mo I (w.1)) ∧ (((w.1) mo 20).toInt ≤ 936 ∧ (I mo 24).toInt ≤ ((w.1) mo 24).toInt) ∧ (((w.1) mo 24).toInt = 0 → ((w.1) mo 21).toInt = 4 → ((w.1) mo 23).toInt = 59 → rowOK ((w.2.2.2.1) (gh 53 0)) M) ∧ (((w.1) mo 24).toInt = 0 → tI ((w.2.2.2.1) (gh 53 0)) (40 * M) = 8) ∧ (mQ gh (w.1) (w.2.2.1) (w.2.2.2.1) AJ mo b nn nr nt cc (thn (f, h, 0) (fun t _ => sRngM b nn nr nt cc t)).1 (thn (f, h, 0) (fun t _ => sRngM b nn nr nt cc t)).2.1) ∧ (pIc (thn (f, h, 0) (fun t _ => sRngM b nn nr nt cc t)).1 (pK b nn (thn (f, h, 0) (fun t _ => sRngM b nn nr nt cc t)).2.1) (tI ((w.2.2.2.1) (gh 53 0)) (40 * (nr : Int) + 1)) (thn (f, h, 0) (fun t _ => sRngM b nn nr nt cc t)).2.2) ∧ (zIf (thn (f, h, 0) (fun t _ => sRngM b nn nr nt cc t)).1 (frM M (AI (gh 53 0)) ((w.2.2.2.1) (gh 53 0)))) ∧ (zIf (thn (f, h, 0) (fun t _ => sRngM b nn nr nt cc t)).1 (mRng b nn nr nt h ((w.2.2.2.1) (gh 53 0)) M)) ∧ (∀ b, b ≠ gh 53 0 → (w.2.2.2.1) b = AI b))) ([.ref mo] : List Value).toArray s 0 0 (gA g)) (F0 m 22 ls []) := by
              intro I_129 J_130 H locs ls hv pf hQ hx9 hH hS hl
              (try clear u_128_18); (try clear u_128_16); (try clear u_128_14); (try clear u_128_5); (try clear u_128_2); (try clear b_118); (try clear u_117_18); (try clear u_117_16); (try clear u_117_14); (try clear u_117_5); (try clear u_117_2); (try clear b_103); (try clear u_102_18); (try clear u_102_16); (try clear u_102_14); (try clear u_102_5); (try clear u_102_2); (try clear b_92); (try clear u_91_18); (try clear u_91_16); (try clear u_91_14); (try clear u_91_5); (try clear u_91_2); (try clear b_77)
              have uc_2 : (I_129 mo 2).toInt = (I mo 2).toInt := by rw [pf 2 (by decide) (by decide) (by decide) (by decide) (by decide)]
              have uc_5 : (I_129 mo 5).toInt = (I mo 5).toInt := by rw [pf 5 (by decide) (by decide) (by decide) (by decide) (by decide)]
              have uc_14 : (I_129 mo 14).toInt = (I mo 14).toInt := by rw [pf 14 (by decide) (by decide) (by decide) (by decide) (by decide)]
              have uc_16 : (I_129 mo 16).toInt = (I mo 16).toInt := by rw [pf 16 (by decide) (by decide) (by decide) (by decide) (by decide)]
              have uc_18 : (I_129 mo 18).toInt = (I mo 18).toInt := by rw [pf 18 (by decide) (by decide) (by decide) (by decide) (by decide)]
              have hz9 := mQ_0 hQ rfl
              refine lv_aload_n F.1 F.2.1 dX7_ringTold_22 rfl (lv_at hl 2 rfl) ?_
              refine lv_aload_n F.1 F.2.1 dX7_ringTold_23 rfl (lv_at hl 2 rfl) ?_
              refine lv_iload_n F.1 F.2.1 dX7_ringTold_24 rfl (lv_at hl 1 rfl) ?_
              have b_133 := mJ hv hm
              unfold mNum1 at b_133
              refine g_calli (g_runV (As := [.int (iI v_84)]) (rest := [.ref mo]) (ci := 7) F hl.1 hH hS hz (c_X7_columns l g gh T I_129 R J_130 AI AJ AR mo v_84 zv_84 hv hm hT (by omega)) (cwV 1 F.2.2.2.2.1 (good_up gT_X7_columns) rfl rfl rfl hdX7_columns ⟨Nat.le_of_ble_eq_true rfl, Nat.le_of_ble_eq_true rfl⟩) hm (by decide) rfl rfl rfl (Nat.le_of_ble_eq_true rfl) dX7_ringTold_25 ⟨Nat.zero_le _, Nat.zero_le _⟩) hS (fun v_140 I_134 R_135 J_136 AI_137 AJ_138 AR_139 H locs zv_140 hp_141 hH hS => ?_)
              dsimp only at hp_141
              obtain ⟨rfl, rfl, rfl, rfl, rfl, rfl, q_132⟩ := hp_141
              have cvv_140 : v_140 = cF b nn nr nt cc h := q_132.trans ((mQ_c hQ rfl vlr_86.1 vlr_86.2.1).trans vlr_86.2.2)
              refine g_calli (g_runV (As := [.int (iI v_140)]) (rest := []) (ci := 7) F hl.1 hH hS hz (c_X7_columnf l g gh T b nn nr nt cc 0 (h + 4) I_129 R J_130 AI AJ AR mo v_140 zv_140 hv hm hT (by omega) h65 hbM hr7 (by omega) hn9 (by omega) hQ) (cwV 1 F.2.2.2.2.1 (good_up gT_X7_column) rfl rfl rfl hdX7_column ⟨Nat.le_of_ble_eq_true rfl, Nat.le_of_ble_eq_true rfl⟩) hm (by decide) rfl rfl rfl (Nat.le_of_ble_eq_true rfl) dX7_ringTold_28 ⟨Nat.zero_le _, Nat.zero_le _⟩) hS (fun v_148 I_142 R_143 J_144 AI_145 AJ_146 AR_147 H locs zv_148 hp_149 hH hS => ?_)
              dsimp only at hp_149
              rw [show v_140 = cF b nn nr nt cc h by omega] at hp_149
              obtain ⟨r_150, er_150⟩ : ∃ qQ : pR, qQ = thn (0, (h + 4), 0) (fun t _ => sCol b nn (cF b nn nr nt cc h) t) := ⟨_, rfl⟩
              rw [← er_150] at hp_149
              obtain ⟨rfl, rfl, rfl, rfl, hv, pfq, q_151, q_152, hQ, q_153⟩ := hp_149
              have pf := qF_t pf pfq
              have u_154_2 : (I_142 mo 2).toInt = (I mo 2).toInt := by rw [pf 2 (by decide) (by decide) (by decide) (by decide) (by decide)]
              have u_154_5 : (I_142 mo 5).toInt = (I mo 5).toInt := by rw [pf 5 (by decide) (by decide) (by decide) (by decide) (by decide)]
              have u_154_14 : (I_142 mo 14).toInt = (I mo 14).toInt := by rw [pf 14 (by decide) (by decide) (by decide) (by decide) (by decide)]
              have u_154_16 : (I_142 mo 16).toInt = (I mo 16).toInt := by rw [pf 16 (by decide) (by decide) (by decide) (by decide) (by decide)]
              have u_154_18 : (I_142 mo 18).toInt = (I mo 18).toInt := by rw [pf 18 (by decide) (by decide) (by decide) (by decide) (by decide)]
              have er_150 : r_150 = sCol b nn (cF b nn nr nt cc h) (h + 4) := er_150
              have sr_150 := er_150
              rcases sCol_c er_150 with ⟨er_150, pr_150⟩ | ⟨er_150, pr_150⟩
              · have hQ : mQ gh I_142 J_144 AI AJ mo b nn nr nt cc 0 (h + 5) := by rw [er_150] at hQ; exact hQ
                have sr_150 : sCol b nn (cF b nn nr nt cc h) (h + 4) = (0, h + 5, pV b nn (h + 4)) := sr_150.symm.trans er_150
                have vlr_150 := q_153 (by rw [er_150])
                try rw [er_150] at vlr_150
                try dsimp only at vlr_150
                have kq_152 := q_152 (mQ_0 hQ rfl)
                replace q_152 := hid q_152
                obtain ⟨f1, ef1⟩ : ∃ q, q = (I_142 mo 24).toInt := ⟨_, rfl⟩
                have hc1 : Hid (f1 = 0 → 0 ≤ v_148 ∧ v_148 ≤ 3) := fun h9 => by omega
                refine lv_istore_n (lv' := [(3, .int (iI v_148)), (2, .int (iI v_110)), (1, .int (iI v_84)), (0, .ref mo)]) F.1 F.2.1 dX7_ringTold_31 rfl hl (by decide) rfl (fun ls hl => ?_)
                refine lv_aload_n F.1 F.2.1 dX7_ringTold_32 rfl (lv_at hl 3 rfl) ?_
                refine z_bipush F dX7_ringTold_33 (by decide) ?_
                have b_155 := mJ hv hm
                unfold mNum1 at b_155
                refine g_callv (g_runV (As := [.int (iI 61)]) (rest := []) (ci := 7) F hl.1 hH hS hz (c_X7_mustSignf l g gh T b nn nr nt cc 0 (h + 5) I_142 R J_144 AI AJ AR mo 61 ⟨by decide, by decide⟩ hv hm hT (by omega) h65 hbM hr7 (by omega) hn9 (by omega) (by omega) hQ) (cwV 1 F.2.2.2.2.1 (good_up gT_X7_mustSign) rfl rfl rfl hdX7_mustSign ⟨Nat.le_of_ble_eq_true rfl, Nat.le_of_ble_eq_true rfl⟩) hm (by decide) rfl rfl rfl (Nat.le_of_ble_eq_true rfl) dX7_ringTold_35 ⟨Nat.zero_le _, Nat.zero_le _⟩) hS (fun I_156 R_157 J_158 AI_159 AJ_160 AR_161 H locs hp_162 hH hS => ?_)
                dsimp only at hp_162
                obtain ⟨r_163, er_163⟩ : ∃ qQ : pR, qQ = thn (0, (h + 5), 0) (fun t _ => sTk b nn 61 t) := ⟨_, rfl⟩
                rw [← er_163] at hp_162
                obtain ⟨rfl, rfl, rfl, rfl, hv, pfq, q_164, q_165, hQ⟩ := hp_162
                have pf := qF_t pf pfq
                have u_166_2 : (I_156 mo 2).toInt = (I mo 2).toInt := by rw [pf 2 (by decide) (by decide) (by decide) (by decide) (by decide)]
                have u_166_5 : (I_156 mo 5).toInt = (I mo 5).toInt := by rw [pf 5 (by decide) (by decide) (by decide) (by decide) (by decide)]
                have u_166_14 : (I_156 mo 14).toInt = (I mo 14).toInt := by rw [pf 14 (by decide) (by decide) (by decide) (by decide) (by decide)]
                have u_166_16 : (I_156 mo 16).toInt = (I mo 16).toInt := by rw [pf 16 (by decide) (by decide) (by decide) (by decide) (by decide)]
                have u_166_18 : (I_156 mo 18).toInt = (I mo 18).toInt := by rw [pf 18 (by decide) (by decide) (by decide) (by decide) (by decide)]
                have er_163 : r_163 = sTk b nn 61 (h + 5) := er_163
                have sr_163 := er_163
                rcases sTk_c er_163 with ⟨er_163, pr_163⟩ | ⟨er_163, pr_163⟩
                · have hQ : mQ gh I_156 J_158 AI AJ mo b nn nr nt cc 0 (h + 6) := by rw [er_163] at hQ; exact hQ
                  have sr_163 : sTk b nn 61 (h + 5) = (0, h + 6, 0) := sr_163.symm.trans er_163
                  replace q_165 := hid q_165
                  refine lv_aload_n F.1 F.2.1 dX7_ringTold_38 rfl (lv_at hl 3 rfl) ?_
                  refine lv_aload_n F.1 F.2.1 dX7_ringTold_39 rfl (lv_at hl 3 rfl) ?_
                  refine lv_iload_n F.1 F.2.1 dX7_ringTold_40 rfl (lv_at hl 1 rfl) ?_
                  have b_168 := mJ hv hm
                  unfold mNum1 at b_168
                  refine g_calli (g_runV (As := [.int (iI v_110)]) (rest := [.ref mo]) (ci := 7) F hl.1 hH hS hz (c_X7_columns l g gh T I_156 R J_158 AI AJ AR mo v_110 zv_110 hv hm hT (by omega)) (cwV 1 F.2.2.2.2.1 (good_up gT_X7_columns) rfl rfl rfl hdX7_columns ⟨Nat.le_of_ble_eq_true rfl, Nat.le_of_ble_eq_true rfl⟩) hm (by decide) rfl rfl rfl (Nat.le_of_ble_eq_true rfl) dX7_ringTold_41 ⟨Nat.zero_le _, Nat.zero_le _⟩) hS (fun v_175 I_169 R_170 J_171 AI_172 AJ_173 AR_174 H locs zv_175 hp_176 hH hS => ?_)
                  dsimp only at hp_176
                  obtain ⟨rfl, rfl, rfl, rfl, rfl, rfl, q_167⟩ := hp_176
                  have cvv_175 : v_175 = cF b nn nr nt cc (h + 2) := q_167.trans ((mQ_c hQ rfl vlr_112.1 vlr_112.2.1).trans vlr_112.2.2)
                  refine g_calli (g_runV (As := [.int (iI v_175)]) (rest := []) (ci := 7) F hl.1 hH hS hz (c_X7_columnf l g gh T b nn nr nt cc 0 (h + 6) I_156 R J_158 AI AJ AR mo v_175 zv_175 hv hm hT (by omega) h65 hbM hr7 (by omega) hn9 (by omega) hQ) (cwV 1 F.2.2.2.2.1 (good_up gT_X7_column) rfl rfl rfl hdX7_column ⟨Nat.le_of_ble_eq_true rfl, Nat.le_of_ble_eq_true rfl⟩) hm (by decide) rfl rfl rfl (Nat.le_of_ble_eq_true rfl) dX7_ringTold_44 ⟨Nat.zero_le _, Nat.zero_le _⟩) hS (fun v_183 I_177 R_178 J_179 AI_180 AJ_181 AR_182 H locs zv_183 hp_184 hH hS => ?_)
                  dsimp only at hp_184
                  rw [show v_175 = cF b nn nr nt cc (h + 2) by omega] at hp_184
                  obtain ⟨r_185, er_185⟩ : ∃ qQ : pR, qQ = thn (0, (h + 6), 0) (fun t _ => sCol b nn (cF b nn nr nt cc (h + 2)) t) := ⟨_, rfl⟩
                  rw [← er_185] at hp_184
                  obtain ⟨rfl, rfl, rfl, rfl, hv, pfq, q_186, q_187, hQ, q_188⟩ := hp_184
                  have pf := qF_t pf pfq
                  have u_189_2 : (I_177 mo 2).toInt = (I mo 2).toInt := by rw [pf 2 (by decide) (by decide) (by decide) (by decide) (by decide)]
                  have u_189_5 : (I_177 mo 5).toInt = (I mo 5).toInt := by rw [pf 5 (by decide) (by decide) (by decide) (by decide) (by decide)]
                  have u_189_14 : (I_177 mo 14).toInt = (I mo 14).toInt := by rw [pf 14 (by decide) (by decide) (by decide) (by decide) (by decide)]
                  have u_189_16 : (I_177 mo 16).toInt = (I mo 16).toInt := by rw [pf 16 (by decide) (by decide) (by decide) (by decide) (by decide)]
                  have u_189_18 : (I_177 mo 18).toInt = (I mo 18).toInt := by rw [pf 18 (by decide) (by decide) (by decide) (by decide) (by decide)]
                  have er_185 : r_185 = sCol b nn (cF b nn nr nt cc (h + 2)) (h + 6) := er_185
                  have sr_185 := er_185
                  rcases sCol_c er_185 with ⟨er_185, pr_185⟩ | ⟨er_185, pr_185⟩
                  · have hQ : mQ gh I_177 J_179 AI AJ mo b nn nr nt cc 0 (h + 7) := by rw [er_185] at hQ; exact hQ
                    have sr_185 : sCol b nn (cF b nn nr nt cc (h + 2)) (h + 6) = (0, h + 7, pV b nn (h + 6)) := sr_185.symm.trans er_185
                    have vlr_185 := q_188 (by rw [er_185])
                    try rw [er_185] at vlr_185
                    try dsimp only at vlr_185
                    have kq_187 := q_187 (mQ_0 hQ rfl)
                    replace q_187 := hid q_187
                    obtain ⟨f2, ef2⟩ : ∃ q, q = (I_177 mo 24).toInt := ⟨_, rfl⟩
                    have hd1 : Hid (f2 = 0 → 0 ≤ v_183 ∧ v_183 ≤ 3) := fun h9 => by omega
                    refine lv_istore (lv' := [(4, .int (iI v_183)), (3, .int (iI v_148)), (2, .int (iI v_110)), (1, .int (iI v_84)), (0, .ref mo)]) F.1 F.2.1 dX7_ringTold_47 hl (by decide) rfl (fun ls hl => ?_)
                    have cut_49_191 : ∀ (I_190 : gI) (J_191 : gJ) (H : Heap) (locs : List Loc) (ls : Array Slot), (mInv g gh R I_190 AI) → (qF mo I I_190) → (mQ gh I_190 J_191 AI AJ mo b nn nr nt cc 0 (h + 7)) → ((I_190 mo 20).toInt ≤ 936) → gH g I_190 R J_191 AI AJ AR H → va_S (gA g) s.heap H locs → lv_has ls 7 [(4, .int (iI v_183)), (3, .int (iI v_148)), (2, .int (iI v_110)), (1, .int (iI v_84)), (0, .ref mo)] → W p l e rmX7_ringToldg s m ([.ref mo] : List Value).toArray below meth c H locs 0 0 (MQ below (gQv g (fun w : gS => R = w.2.1 ∧ AJ = w.2.2.2.2.1 ∧ AR = w.2.2.2.2.2 ∧ (mInv g gh R (w.1) (w.2.2.2.1)) ∧ ((w.2.2.2.1) (gh 50 0) = T) ∧ (qF mo I (w.1)) ∧ (((w.1) mo 20).toInt ≤ 936 ∧ (I mo 24).toInt ≤ ((w.1) mo 24).toInt) ∧ (((w.1) mo 24).toInt = 0 → ((w.1) mo 21).toInt = 4 → ((w.1) mo 23).toInt = 59 → rowOK ((w.2.2.2.1) (gh 53 0)) M) ∧ (((w.1) mo 24).toInt = 0 → tI ((w.2.2.2.1) (gh 53 0)) (40 * M) = 8) ∧ (mQ gh (w.1) (w.2.2.1) (w.2.2.2.1) AJ mo b nn nr nt cc (thn (f, h, 0) (fun t _ => sRngM b nn nr nt cc t)).1 (thn (f, h, 0) (fun t _ => sRngM b nn nr nt cc t)).2.1) ∧ (pIc (thn (f, h, 0) (fun t _ => sRngM b nn nr nt cc t)).1 (pK b nn (thn (f, h, 0) (fun t _ => sRngM b nn nr nt cc t)).2.1) (tI ((w.2.2.2.1) (gh 53 0)) (40 * (nr : Int) + 1)) (thn (f, h, 0) (fun t _ => sRngM b nn nr nt cc t)).2.2) ∧ (zIf (thn (f, h, 0) (fun t _ => sRngM b nn nr nt cc t)).1 (frM M (AI (gh 53 0)) ((w.2.2.2.1) (gh 53 0)))) ∧ (zIf (thn (f, h, 0) (fun t _ => sRngM b nn nr nt cc t)).1 (mRng b nn nr nt h ((w.2.2.2.1) (gh 53 0)) M)) ∧ (∀ b, b ≠ gh 53 0 → (w.2.2.2.1) b = AI b))) ([.ref mo] : List Value).toArray s 0 0 (gA g)) (F0 m 49 ls []) := by
                      intro I_190 J_191 H locs ls hv pf hQ hx9 hH hS hl
                      (try clear u_189_18); (try clear u_189_16); (try clear u_189_14); (try clear u_189_5); (try clear u_189_2); (try clear b_168); (try clear u_166_18); (try clear u_166_16); (try clear u_166_14); (try clear u_166_5); (try clear u_166_2); (try clear b_155); (try clear u_154_18); (try clear u_154_16); (try clear u_154_14); (try clear u_154_5); (try clear u_154_2); (try clear b_133); (try clear uc_18); (try clear uc_16); (try clear uc_14); (try clear uc_5); (try clear uc_2); (try clear u_128_18); (try clear u_128_16); (try clear u_128_14); (try clear u_128_5); (try clear u_128_2); (try clear b_118); (try clear u_117_18); (try clear u_117_16); (try clear u_117_14); (try clear u_117_5); (try clear u_117_2); (try clear b_103); (try clear u_102_18); (try clear u_102_16); (try clear u_102_14); (try clear u_102_5); (try clear u_102_2); (try clear b_92); (try clear u_91_18); (try clear u_91_16); (try clear u_91_14); (try clear u_91_5); (try clear u_91_2); (try clear b_77)
                      have uc_2 : (I_190 mo 2).toInt = (I mo 2).toInt := by rw [pf 2 (by decide) (by decide) (by decide) (by decide) (by decide)]
                      have uc_5 : (I_190 mo 5).toInt = (I mo 5).toInt := by rw [pf 5 (by decide) (by decide) (by decide) (by decide) (by decide)]
                      have uc_14 : (I_190 mo 14).toInt = (I mo 14).toInt := by rw [pf 14 (by decide) (by decide) (by decide) (by decide) (by decide)]
                      have uc_16 : (I_190 mo 16).toInt = (I mo 16).toInt := by rw [pf 16 (by decide) (by decide) (by decide) (by decide) (by decide)]
                      have uc_18 : (I_190 mo 18).toInt = (I mo 18).toInt := by rw [pf 18 (by decide) (by decide) (by decide) (by decide) (by decide)]
                      have hz9 := mQ_0 hQ rfl
                      refine lv_aload_n F.1 F.2.1 dX7_ringTold_49 rfl (lv_at hl 4 rfl) ?_
                      refine va_ldcS F.1 F.2.1 F.2.2.2.1 (F.2.2.2.2.2.2.1 26 _ rfl).1 dX7_ringTold_50 ?_
                      have b_193 := mJ hv hm
                      unfold mNum1 at b_193
                      refine g_callv (g_runV (As := [.ref (gSK g 26)]) (rest := []) (ci := 7) F hl.1 hH hS hz (c_X7_mustWordf l g gh T 26 _ 15 b nn nr nt cc 0 (h + 7) I_190 R J_191 AI AJ AR mo hv hm hT (by omega) (rfl : sTab[26]? = some _) h65 hbM hr7 (by omega) hn9 (by omega) (by decide) (by decide +kernel) hQ) (cwV 1 F.2.2.2.2.1 (good_up gT_X7_mustWord) rfl rfl rfl hdX7_mustWord ⟨Nat.le_of_ble_eq_true rfl, Nat.le_of_ble_eq_true rfl⟩) hm (by decide) rfl rfl rfl (Nat.le_of_ble_eq_true rfl) dX7_ringTold_52 ⟨Nat.zero_le _, Nat.zero_le _⟩) hS (fun I_194 R_195 J_196 AI_197 AJ_198 AR_199 H locs hp_200 hH hS => ?_)
                      dsimp only at hp_200
                      obtain ⟨r_201, er_201⟩ : ∃ qQ : pR, qQ = thn (0, (h + 7), 0) (fun t _ => sTw b nn ((15 : Nat) : Int) t) := ⟨_, rfl⟩
                      rw [← er_201] at hp_200
                      obtain ⟨rfl, rfl, rfl, rfl, hv, pfq, q_202, hQ⟩ := hp_200
                      have pf := qF_t pf pfq
                      have u_203_2 : (I_194 mo 2).toInt = (I mo 2).toInt := by rw [pf 2 (by decide) (by decide) (by decide) (by decide) (by decide)]
                      have u_203_5 : (I_194 mo 5).toInt = (I mo 5).toInt := by rw [pf 5 (by decide) (by decide) (by decide) (by decide) (by decide)]
                      have u_203_14 : (I_194 mo 14).toInt = (I mo 14).toInt := by rw [pf 14 (by decide) (by decide) (by decide) (by decide) (by decide)]
                      have u_203_16 : (I_194 mo 16).toInt = (I mo 16).toInt := by rw [pf 16 (by decide) (by decide) (by decide) (by decide) (by decide)]
                      have u_203_18 : (I_194 mo 18).toInt = (I mo 18).toInt := by rw [pf 18 (by decide) (by decide) (by decide) (by decide) (by decide)]
                      have er_201 : r_201 = sTw b nn 15 (h + 7) := er_201
                      have sr_201 := er_201
                      rcases sTw_c er_201 with ⟨er_201, pr_201⟩ | ⟨er_201, pr_201⟩
                      · have hQ : mQ gh I_194 J_196 AI AJ mo b nn nr nt cc 0 (h + 8) := by rw [er_201] at hQ; exact hQ
                        have sr_201 : sTw b nn 15 (h + 7) = (0, h + 8, 0) := sr_201.symm.trans er_201
                        refine lv_aload_n F.1 F.2.1 dX7_ringTold_55 rfl (lv_at hl 4 rfl) ?_
                        refine z_iconst F dX7_ringTold_56 ?_
                        refine lv_iload_n F.1 F.2.1 dX7_ringTold_57 rfl (lv_at hl 1 rfl) ?_
                        refine lv_iload F.1 F.2.1 dX7_ringTold_58 (lv_at hl 0 rfl) ?_
                        refine z_iconst F dX7_ringTold_60 ?_
                        refine z_iconst F dX7_ringTold_61 ?_
                        have b_204 := mJ hv hm
                        unfold mNum1 at b_204
                        refine g_callv (g_runV (As := [.int (iI 0), .int (iI v_148), .int (iI v_183), .int (iI 0), .int (iI 0)]) (rest := []) (ci := 7) F hl.1 hH hS hz (c_X7_setsPartg l g gh T M I_194 R J_196 AI AJ AR mo 0 v_148 v_183 0 0 ⟨by decide, by decide⟩ zv_148 zv_183 ⟨by decide, by decide⟩ ⟨by decide, by decide⟩ hv hm hT (by omega) (by omega) (by omega)) (cwV 5 F.2.2.2.2.1 (good_up gT_X7_setsPart) rfl rfl rfl hdX7_setsPart ⟨Nat.le_of_ble_eq_true rfl, Nat.le_of_ble_eq_true rfl⟩) hm (by decide) rfl rfl rfl (Nat.le_of_ble_eq_true rfl) dX7_ringTold_62 ⟨Nat.zero_le _, Nat.zero_le _⟩) hS (fun I_205 R_206 J_207 AI_208 AJ_209 AR_210 H locs hp_211 hH hS => ?_)
                        dsimp only at hp_211
                        obtain ⟨rfl, rfl, rfl, rfl, rfl, hv, hT, hsp, q_212⟩ := hp_211
                        replace hsp := hid hsp
                        have hQ : mQ gh I_194 J_196 AI_208 AJ mo b nn nr nt cc 0 (h + 8) := mQ_a hQ (fun hf9 z9 h09 h19 => (hsp hf9).1 z9 h09 (Or.inl (by omega)))
                        have hpr : mP (AI_208 (gh 53 0)) M 0 0 = pV b nn (h + 4) ∧ mP (AI_208 (gh 53 0)) M 0 1 = pV b nn (h + 6) := ⟨(hsp (mQ_0 hQ rfl)).2.1.trans (by omega), (hsp (mQ_0 hQ rfl)).2.2.1.trans (by omega)⟩
                        have hfr := frM_p hfr (by omega) (hsp (mQ_0 hQ rfl))
                        refine lv_aload_n F.1 F.2.1 dX7_ringTold_65 rfl (lv_at hl 4 rfl) ?_
                        refine lv_iload_n F.1 F.2.1 dX7_ringTold_66 rfl (lv_at hl 3 rfl) ?_
                        refine g_calli (g_runV (As := [.int (iI v_84)]) (rest := []) (ci := 7) F hl.1 hH hS hz (c_X7_columns l g gh T I_194 R J_196 AI_208 AJ AR mo v_84 zv_84 hv hm hT (by omega)) (cwV 1 F.2.2.2.2.1 (good_up gT_X7_columns) rfl rfl rfl hdX7_columns ⟨Nat.le_of_ble_eq_true rfl, Nat.le_of_ble_eq_true rfl⟩) hm (by decide) rfl rfl rfl (Nat.le_of_ble_eq_true rfl) dX7_ringTold_67 ⟨Nat.zero_le _, Nat.zero_le _⟩) hS (fun v_220 I_214 R_215 J_216 AI_217 AJ_218 AR_219 H locs zv_220 hp_221 hH hS => ?_)
                        dsimp only at hp_221
                        obtain ⟨rfl, rfl, rfl, rfl, rfl, rfl, q_213⟩ := hp_221
                        have cvv_220 : v_220 = cF b nn nr nt cc h := q_213.trans ((mQ_c hQ rfl vlr_86.1 vlr_86.2.1).trans vlr_86.2.2)
                        refine lv_aload_n F.1 F.2.1 dX7_ringTold_70 rfl (lv_at hl 4 rfl) ?_
                        refine lv_iload_n F.1 F.2.1 dX7_ringTold_71 rfl (lv_at hl 2 rfl) ?_
                        refine g_calli (g_runV (As := [.int (iI v_110)]) (rest := [.int (iI v_220)]) (ci := 7) F hl.1 hH hS hz (c_X7_columns l g gh T I_194 R J_196 AI_208 AJ AR mo v_110 zv_110 hv hm hT (by omega)) (cwV 1 F.2.2.2.2.1 (good_up gT_X7_columns) rfl rfl rfl hdX7_columns ⟨Nat.le_of_ble_eq_true rfl, Nat.le_of_ble_eq_true rfl⟩) hm (by decide) rfl rfl rfl (Nat.le_of_ble_eq_true rfl) dX7_ringTold_72 ⟨Nat.zero_le _, Nat.zero_le _⟩) hS (fun v_229 I_223 R_224 J_225 AI_226 AJ_227 AR_228 H locs zv_229 hp_230 hH hS => ?_)
                        dsimp only at hp_230
                        obtain ⟨rfl, rfl, rfl, rfl, rfl, rfl, q_222⟩ := hp_230
                        have cvv_229 : v_229 = cF b nn nr nt cc (h + 2) := q_222.trans ((mQ_c hQ rfl vlr_112.1 vlr_112.2.1).trans vlr_112.2.2)
                        refine z_iadd F dX7_ringTold_75 ?_
                        refine z_norm (fun v_231 zv_231 ev_231 => ?_)
                        have bA := mQ_cb hQ rfl vlr_86.1 vlr_86.2.1
                        rw [vlr_86.2.2] at bA
                        have bB := mQ_cb hQ rfl vlr_112.1 vlr_112.2.1
                        rw [vlr_112.2.2] at bB
                        have hall : v_231 = cF b nn nr nt cc h + cF b nn nr nt cc (h + 2) := z_eq zv_231 ⟨by omega, by omega⟩ (ev_231.trans (congrArg iI (by omega)))
                        refine lv_istore (lv' := [(5, .int (iI v_231)), (4, .int (iI v_183)), (3, .int (iI v_148)), (2, .int (iI v_110)), (1, .int (iI v_84)), (0, .ref mo)]) F.1 F.2.1 dX7_ringTold_76 hl (by decide) rfl (fun ls hl => ?_)
                        refine lv_aload_n F.1 F.2.1 dX7_ringTold_78 rfl (lv_at hl 5 rfl) ?_
                        refine lv_iload F.1 F.2.1 dX7_ringTold_79 (lv_at hl 0 rfl) ?_
                        refine z_iconst F dX7_ringTold_81 ?_
                        refine g_calli (g_runV (As := [.int (iI v_231), .int (iI 1)]) (rest := []) (ci := 7) F hl.1 hH hS hz (c_X7_termsToldg l g gh T M b nn nr nt cc 0 (h + 8) I_194 R J_196 AI_208 AJ AR mo v_231 1 zv_231 ⟨by decide, by decide⟩ hv hm hT (by omega) (by omega) (by omega) (by omega) h65 hbM hr7 (by omega) hn9 (by omega) hQ) (cwV 2 F.2.2.2.2.1 (good_up gT_X7_termsTold) rfl rfl rfl hdX7_termsTold ⟨Nat.le_of_ble_eq_true rfl, Nat.le_of_ble_eq_true rfl⟩) hm (by decide) rfl rfl rfl (Nat.le_of_ble_eq_true rfl) dX7_ringTold_82 ⟨Nat.zero_le _, Nat.zero_le _⟩) hS (fun v_238 I_232 R_233 J_234 AI_235 AJ_236 AR_237 H locs zv_238 hp_239 hH hS => ?_)
                        dsimp only at hp_239
                        rw [show v_231 = cF b nn nr nt cc h + cF b nn nr nt cc (h + 2) by omega] at hp_239
                        obtain ⟨r_240, er_240⟩ : ∃ qQ : pR, qQ = thn (0, (h + 8), 0) (fun t _ => sTerms b nn (cF b nn nr nt cc h + cF b nn nr nt cc (h + 2)) 5 0 t) := ⟨_, rfl⟩
                        rw [← er_240] at hp_239
                        obtain ⟨rfl, rfl, rfl, hv, hT, pfq, q_241, q_242, htt, hQ, q_243, tmq, q_244⟩ := hp_239
                        have pf := qF_t pf pfq
                        have u_245_2 : (I_232 mo 2).toInt = (I mo 2).toInt := by rw [pf 2 (by decide) (by decide) (by decide) (by decide) (by decide)]
                        have u_245_5 : (I_232 mo 5).toInt = (I mo 5).toInt := by rw [pf 5 (by decide) (by decide) (by decide) (by decide) (by decide)]
                        have u_245_14 : (I_232 mo 14).toInt = (I mo 14).toInt := by rw [pf 14 (by decide) (by decide) (by decide) (by decide) (by decide)]
                        have u_245_16 : (I_232 mo 16).toInt = (I mo 16).toInt := by rw [pf 16 (by decide) (by decide) (by decide) (by decide) (by decide)]
                        have u_245_18 : (I_232 mo 18).toInt = (I mo 18).toInt := by rw [pf 18 (by decide) (by decide) (by decide) (by decide) (by decide)]
                        have er_240 : r_240 = sTerms b nn (cF b nn nr nt cc h + cF b nn nr nt cc (h + 2)) 5 0 (h + 8) := er_240
                        by_cases pr_240 : r_240.1 = 0
                        · have hQ := mQ_ok hQ pr_240
                          have vlr_240_7 := q_243 pr_240
                          have vlr_240_8 := tmq pr_240
                          replace htt := hid htt
                          have tm9 := vlr_240_8
                          have hqa := tm9.1
                          have hnz := tm9.2
                          clear tm9
                          have hpr : mP (AI_235 (gh 53 0)) M 0 0 = pV b nn (h + 4) ∧ mP (AI_235 (gh 53 0)) M 0 1 = pV b nn (h + 6) := ⟨(trF_m (by omega) (by decide) (htt (mQ_0 hQ rfl)).2.2.2).trans hpr.1, (trF_m (by omega) (by decide) (htt (mQ_0 hQ rfl)).2.2.2).trans hpr.2⟩
                          have hfr := frM_f (by decide) hfr (htt (mQ_0 hQ rfl)).2.2.2
                          refine lv_istore (lv' := [(6, .int (iI v_238)), (5, .int (iI v_231)), (4, .int (iI v_183)), (3, .int (iI v_148)), (2, .int (iI v_110)), (1, .int (iI v_84)), (0, .ref mo)]) F.1 F.2.1 dX7_ringTold_85 hl (by decide) rfl (fun ls hl => ?_)
                          obtain ⟨f9, ef9⟩ : ∃ q, q = (I_232 mo 24).toInt := ⟨_, rfl⟩
                          refine lv_aload_n F.1 F.2.1 dX7_ringTold_87 rfl (lv_at hl 6 rfl) ?_
                          refine z_bipush F dX7_ringTold_88 (by decide) ?_
                          have b_246 := mJ hv hm
                          unfold mNum1 at b_246
                          refine g_calli (g_runV (As := [.int (iI 59)]) (rest := []) (ci := 7) F hl.1 hH hS hz (c_X7_isSignf l g gh T b nn nr nt cc 0 r_240.2.1 I_232 R J_234 AI_235 AJ AR mo 59 ⟨by decide, by decide⟩ hv hm hT h65 hbM hr7 (by omega) hn9 (by omega) (by omega) hQ) (cwV 1 F.2.2.2.2.1 (good_up gT_X7_isSign) rfl rfl rfl hdX7_isSign ⟨Nat.le_of_ble_eq_true rfl, Nat.le_of_ble_eq_true rfl⟩) hm (by decide) rfl rfl rfl (Nat.le_of_ble_eq_true rfl) dX7_ringTold_90 ⟨Nat.zero_le _, Nat.zero_le _⟩) hS (fun v_253 I_247 R_248 J_249 AI_250 AJ_251 AR_252 H locs zv_253 hp_254 hH hS => ?_)
                          dsimp only at hp_254
                          obtain ⟨rfl, rfl, rfl, rfl, rfl, rfl, q_255, q_256⟩ := hp_254
                          replace q_255 := q_255.1
                          refine z_if_eq (tgt := 117) F dX7_ringTold_93 (by decide) zv_253 (fun c_257 => ?_) (fun c_257 => ?_)
                          · have t_258 := tIz_n q_256 (by omega)
                            refine lv_aload_n F.1 F.2.1 dX7_ringTold_117 rfl (lv_at hl 6 rfl) ?_
                            refine z_bipush F dX7_ringTold_118 (by decide) ?_
                            refine lv_aload_n F.1 F.2.1 dX7_ringTold_120 rfl (lv_at hl 6 rfl) ?_
                            refine lv_iload_n F.1 F.2.1 dX7_ringTold_121 rfl (lv_at hl 5 rfl) ?_
                            refine g_calli (g_runV (As := [.int (iI v_84)]) (rest := [.int (iI 8), .ref mo]) (ci := 7) F hl.1 hH hS hz (c_X7_columns l g gh T I_232 R J_234 AI_235 AJ AR mo v_84 zv_84 hv hm hT (by omega)) (cwV 1 F.2.2.2.2.1 (good_up gT_X7_columns) rfl rfl rfl hdX7_columns ⟨Nat.le_of_ble_eq_true rfl, Nat.le_of_ble_eq_true rfl⟩) hm (by decide) rfl rfl rfl (Nat.le_of_ble_eq_true rfl) dX7_ringTold_122 ⟨Nat.zero_le _, Nat.zero_le _⟩) hS (fun v_266 I_260 R_261 J_262 AI_263 AJ_264 AR_265 H locs zv_266 hp_267 hH hS => ?_)
                            dsimp only at hp_267
                            obtain ⟨rfl, rfl, rfl, rfl, rfl, rfl, q_259⟩ := hp_267
                            have cvv_266 : v_266 = cF b nn nr nt cc h := q_259.trans ((mQ_c hQ rfl vlr_86.1 vlr_86.2.1).trans vlr_86.2.2)
                            have hcol : Hid ((I_232 mo 24).toInt = 0 → 1 ≤ v_266 ∧ v_266 ≤ 4) := fun h => by have q9 := mCol hv hm (z := v_84) (by omega) (by omega); omega
                            refine lv_iload_n F.1 F.2.1 dX7_ringTold_125 rfl (lv_at hl 5 rfl) ?_
                            refine lv_iload_n F.1 F.2.1 dX7_ringTold_126 rfl (lv_at hl 4 rfl) ?_
                            refine lv_iload F.1 F.2.1 dX7_ringTold_127 (lv_at hl 0 rfl) ?_
                            refine g_callv (g_runV (As := [.int (iI 8), .int (iI v_266), .int (iI v_84), .int (iI v_110), .int (iI v_238)]) (rest := []) (ci := 7) F hl.1 hH hS hz (c_X7_headerg l g gh T M I_232 R J_234 AI_235 AJ AR mo 8 v_266 v_84 v_110 v_238 ⟨by decide, by decide⟩ zv_266 zv_84 zv_110 zv_238 hv hm hT (by omega) (by omega)) (cwV 5 F.2.2.2.2.1 (good_up gT_X7_header) rfl rfl rfl hdX7_header ⟨Nat.le_of_ble_eq_true rfl, Nat.le_of_ble_eq_true rfl⟩) hm (by decide) rfl rfl rfl (Nat.le_of_ble_eq_true rfl) dX7_ringTold_129 ⟨Nat.zero_le _, Nat.zero_le _⟩) hS (fun I_268 R_269 J_270 AI_271 AJ_272 AR_273 H locs hp_274 hH hS => ?_)
                            dsimp only at hp_274
                            obtain ⟨rfl, rfl, rfl, rfl, rfl, hv, hT, hhd, q_275⟩ := hp_274
                            replace hhd := hid hhd
                            have hQ : mQ gh I_232 J_234 AI_271 AJ mo b nn nr nt cc 0 r_240.2.1 := mQ_a hQ (fun hf9 z9 h09 h19 => (hhd hf9).1 z9 h09 (Or.inl (by omega)))
                            have hfr := frM_h hfr (hhd (mQ_0 hQ rfl))
                            have hqa := rAll_h rTerm_l (by omega) (by decide) (hhd (mQ_0 hQ rfl)) hqa
                            have hpr : mP (AI_271 (gh 53 0)) M 0 0 = pV b nn (h + 4) ∧ mP (AI_271 (gh 53 0)) M 0 1 = pV b nn (h + 6) := ⟨(hP_m (by omega) (Int.le_refl 0) (by decide) (hhd (mQ_0 hQ rfl))).trans hpr.1, (hP_m (by omega) (Int.le_refl 0) (by decide) (hhd (mQ_0 hQ rfl))).trans hpr.2⟩
                            have hP9 : sPair b nn (cF b nn nr nt cc h) (cF b nn nr nt cc (h + 2)) 0 1 (h + 4) = (0, h + 7, pV b nn (h + 6)) := sPair_ok pr_150.1 (by decide) pr_163 pr_185.1
                            have hS9 : sRng b nn nr nt cc h = (0, r_240.2.1, rX (cF b nn nr nt cc h) (cF b nn nr nt cc (h + 2)) r_240.2.2) := by unfold sRng; exact thn_t sr_86 rfl (thn_t sr_100 rfl (thn_t sr_112 rfl (thn_t sr_126 rfl (thn_t hP9 rfl (thn_t sr_201 rfl (thn_y er_240 pr_240 rfl))))))
                            have hfin : thn (f, h, 0) (fun t _ => sRngM b nn nr nt cc t) = (0, r_240.2.1, rX (cF b nn nr nt cc h) (cF b nn nr nt cc (h + 2)) r_240.2.2) := (thn_k q0).trans (by show sRngM b nn nr nt cc h = _; unfold sRngM; exact thn_t hS9 rfl (show sEnd b nn (rX (cF b nn nr nt cc h) (cF b nn nr nt cc (h + 2)) r_240.2.2) (r_240.2.1) = _ from ite_n (fun e9 => by first | exact absurd e9.1 (by omega) | exact absurd e9.2 (rX_n (by omega) (by omega))) rfl))
                            exact g_vret F hr hlk hH hS hz ⟨rfl, rfl, rfl, hv, hT, pf, by first | (dsimp only; omega) | omega | rfl, by (try dsimp only); intro hf ht hn; have e59 := (mQ_s hQ rfl (c := 59) (by decide)).mp ⟨ht, hn⟩; have q9 := htt (by omega); have qs := hsp (by omega); have qc := hcol (by omega); have e0 := q9.2.2.2 (40 * M + 6 + 4 * 0 + 0) (by omega) (by omega); have e1 := q9.2.2.2 (40 * M + 6 + 4 * 0 + 1) (by omega) (by omega); have e2 := qs.2.1; have e3 := qs.2.2.1; unfold mP at e2 e3; exact row_mk (by omega) (hhd (by omega)) (by omega) (by omega) (by omega) (by omega) (fun h => absurd h (by omega)) (fun h => absurd h (by omega)) (fun h => absurd h (by omega)) (fun h => absurd h (by omega)) (fun h => absurd h (by omega)) (fun h => absurd h (by omega)) (fun _ => ⟨by omega, by omega, by unfold mP; omega, by unfold mP; omega, by unfold mP; omega, by unfold mP; omega, q9.2.2.1, by omega⟩), by (try dsimp only); intro hf; exact (hhd (by omega)).2.1, by (try dsimp only); rw [hfin]; exact hQ, by (try dsimp only); rw [hfin]; first | exact pIc_k (by (try dsimp only); omega) | (have q9 := (hhd (mQ_0 hQ rfl)).2.2.1; rw [show M = (nr : Int) by omega] at q9; (try dsimp only); exact pIc_y (by rw [rX_e (by omega)]; omega)), by (try dsimp only); rw [hfin]; exact zIf_y (hfr), by (try dsimp only); rw [hfin]; exact zIf_y (⟨⟨(hhd (mQ_0 hQ rfl)).2.2.2.1.trans vfr_86, (hhd (mQ_0 hQ rfl)).2.2.2.2.1.trans vfr_112⟩, (hhd (mQ_0 hQ rfl)).2.2.2.2.2.trans (by omega), hqa, hpr.1, hpr.2⟩), fun b hb => ((q_275 b hb).trans (q_244 b hb)).trans (q_212 b hb)⟩ dX7_ringTold_132
                          · have t_276 := tIz_y q_256 (by omega)
                            refine lv_iload F.1 F.2.1 dX7_ringTold_96 (lv_at hl 1 rfl) ?_
                            refine z_iconst F dX7_ringTold_98 ?_
                            refine z_icmp_gt (tgt := 112) F dX7_ringTold_99 (by decide) zv_231 ⟨by decide, by decide⟩ (fun c_277 => ?_) (fun c_277 => ?_)
                            · refine lv_aload_n F.1 F.2.1 dX7_ringTold_112 rfl (lv_at hl 6 rfl) ?_
                              refine z_iconst F dX7_ringTold_113 ?_
                              refine g_callv (g_runV (As := [.int (iI 5)]) (rest := []) (ci := 7) F hl.1 hH hS hz (c_X7_wrongf l g gh T b nn nr nt cc 0 r_240.2.1 I_232 R J_234 AI_235 AJ AR mo 5 ⟨by decide, by decide⟩ hv hm hT (by omega) h65 hbM hr7 (by omega) hn9 (by omega) hQ) (cwV 1 F.2.2.2.2.1 (good_up gT_X7_wrong) rfl rfl rfl hdX7_wrong ⟨Nat.le_of_ble_eq_true rfl, Nat.le_of_ble_eq_true rfl⟩) hm (by decide) rfl rfl rfl (Nat.le_of_ble_eq_true rfl) dX7_ringTold_114 ⟨Nat.zero_le _, Nat.zero_le _⟩) hS (fun I_278 R_279 J_280 AI_281 AJ_282 AR_283 H locs hp_284 hH hS => ?_)
                              dsimp only at hp_284
                              obtain ⟨r_285, er_285⟩ : ∃ qQ : pR, qQ = thn (0, r_240.2.1, 0) (fun t _ => (5, t, 0)) := ⟨_, rfl⟩
                              rw [← er_285] at hp_284
                              obtain ⟨rfl, rfl, rfl, rfl, rfl, hv, pfq, q_286, hQ⟩ := hp_284
                              have pf := qF_t pf pfq
                              have u_287_2 : (I_278 mo 2).toInt = (I mo 2).toInt := by rw [pf 2 (by decide) (by decide) (by decide) (by decide) (by decide)]
                              have u_287_5 : (I_278 mo 5).toInt = (I mo 5).toInt := by rw [pf 5 (by decide) (by decide) (by decide) (by decide) (by decide)]
                              have u_287_14 : (I_278 mo 14).toInt = (I mo 14).toInt := by rw [pf 14 (by decide) (by decide) (by decide) (by decide) (by decide)]
                              have u_287_16 : (I_278 mo 16).toInt = (I mo 16).toInt := by rw [pf 16 (by decide) (by decide) (by decide) (by decide) (by decide)]
                              have u_287_18 : (I_278 mo 18).toInt = (I mo 18).toInt := by rw [pf 18 (by decide) (by decide) (by decide) (by decide) (by decide)]
                              have er_285 : r_285 = (5, r_240.2.1, 0) := er_285
                              have hQ : mQ gh I_278 J_234 AI_235 AJ mo b nn nr nt cc 5 r_240.2.1 := by rw [er_285] at hQ; exact hQ
                              have q9_r_285 : (5 : Int) ≠ 0 := by omega
                              have g9_r_285 := mQ_f hQ q9_r_285
                              refine lv_aload_n F.1 F.2.1 dX7_ringTold_117 rfl (lv_at hl 6 rfl) ?_
                              refine z_bipush F dX7_ringTold_118 (by decide) ?_
                              refine lv_aload_n F.1 F.2.1 dX7_ringTold_120 rfl (lv_at hl 6 rfl) ?_
                              refine lv_iload_n F.1 F.2.1 dX7_ringTold_121 rfl (lv_at hl 5 rfl) ?_
                              have b_289 := mJ hv hm
                              unfold mNum1 at b_289
                              refine g_calli (g_runV (As := [.int (iI v_84)]) (rest := [.int (iI 8), .ref mo]) (ci := 7) F hl.1 hH hS hz (c_X7_columns l g gh T I_278 R J_234 AI_235 AJ AR mo v_84 zv_84 hv hm hT (by omega)) (cwV 1 F.2.2.2.2.1 (good_up gT_X7_columns) rfl rfl rfl hdX7_columns ⟨Nat.le_of_ble_eq_true rfl, Nat.le_of_ble_eq_true rfl⟩) hm (by decide) rfl rfl rfl (Nat.le_of_ble_eq_true rfl) dX7_ringTold_122 ⟨Nat.zero_le _, Nat.zero_le _⟩) hS (fun v_296 I_290 R_291 J_292 AI_293 AJ_294 AR_295 H locs zv_296 hp_297 hH hS => ?_)
                              dsimp only at hp_297
                              obtain ⟨rfl, rfl, rfl, rfl, rfl, rfl, q_288⟩ := hp_297
                              have hcol : Hid ((I_278 mo 24).toInt = 0 → 1 ≤ v_296 ∧ v_296 ≤ 4) := fun h => by have q9 := mCol hv hm (z := v_84) (by omega) (by omega); omega
                              refine lv_iload_n F.1 F.2.1 dX7_ringTold_125 rfl (lv_at hl 5 rfl) ?_
                              refine lv_iload_n F.1 F.2.1 dX7_ringTold_126 rfl (lv_at hl 4 rfl) ?_
                              refine lv_iload F.1 F.2.1 dX7_ringTold_127 (lv_at hl 0 rfl) ?_
                              refine g_callv (g_runV (As := [.int (iI 8), .int (iI v_296), .int (iI v_84), .int (iI v_110), .int (iI v_238)]) (rest := []) (ci := 7) F hl.1 hH hS hz (c_X7_headerg l g gh T M I_278 R J_234 AI_235 AJ AR mo 8 v_296 v_84 v_110 v_238 ⟨by decide, by decide⟩ zv_296 zv_84 zv_110 zv_238 hv hm hT (by omega) (by omega)) (cwV 5 F.2.2.2.2.1 (good_up gT_X7_header) rfl rfl rfl hdX7_header ⟨Nat.le_of_ble_eq_true rfl, Nat.le_of_ble_eq_true rfl⟩) hm (by decide) rfl rfl rfl (Nat.le_of_ble_eq_true rfl) dX7_ringTold_129 ⟨Nat.zero_le _, Nat.zero_le _⟩) hS (fun I_298 R_299 J_300 AI_301 AJ_302 AR_303 H locs hp_304 hH hS => ?_)
                              dsimp only at hp_304
                              obtain ⟨rfl, rfl, rfl, rfl, rfl, hv, hT, hhd, q_305⟩ := hp_304
                              replace hhd := hid hhd
                              have hQ : mQ gh I_278 J_234 AI_301 AJ mo b nn nr nt cc 5 r_240.2.1 := mQ_bad hQ (by omega) rfl
                              have hP9 : sPair b nn (cF b nn nr nt cc h) (cF b nn nr nt cc (h + 2)) 0 1 (h + 4) = (0, h + 7, pV b nn (h + 6)) := sPair_ok pr_150.1 (by decide) pr_163 pr_185.1
                              have hS9 : sRng b nn nr nt cc h = (0, r_240.2.1, rX (cF b nn nr nt cc h) (cF b nn nr nt cc (h + 2)) r_240.2.2) := by unfold sRng; exact thn_t sr_86 rfl (thn_t sr_100 rfl (thn_t sr_112 rfl (thn_t sr_126 rfl (thn_t hP9 rfl (thn_t sr_201 rfl (thn_y er_240 pr_240 rfl))))))
                              have hfin : thn (f, h, 0) (fun t _ => sRngM b nn nr nt cc t) = (5, r_240.2.1, 0) := (thn_k q0).trans (by show sRngM b nn nr nt cc h = _; unfold sRngM; exact thn_t hS9 rfl (show sEnd b nn (rX (cF b nn nr nt cc h) (cF b nn nr nt cc (h + 2)) r_240.2.2) (r_240.2.1) = _ from ite_y ⟨by omega, rX_y (by omega)⟩ rfl))
                              exact g_vret F hr hlk hH hS hz ⟨rfl, rfl, rfl, hv, hT, pf, by first | (dsimp only; omega) | omega | rfl, by (try dsimp only); exact (fun hf => absurd hf (by omega)), by (try dsimp only); exact (fun hf => absurd hf (by omega)), by (try dsimp only); rw [hfin]; exact hQ, by (try dsimp only); rw [hfin]; exact pIc_n (by omega), by (try dsimp only); rw [hfin]; exact zIf_n (by omega), by (try dsimp only); rw [hfin]; exact zIf_n (by omega), fun b hb => ((q_305 b hb).trans (q_244 b hb)).trans (q_212 b hb)⟩ dX7_ringTold_132
                            · refine lv_iload F.1 F.2.1 dX7_ringTold_102 (lv_at hl 0 rfl) ?_
                              refine lv_aload_n F.1 F.2.1 dX7_ringTold_104 rfl (lv_at hl 6 rfl) ?_
                              refine lv_iload_n F.1 F.2.1 dX7_ringTold_105 rfl (lv_at hl 5 rfl) ?_
                              refine g_calli (g_runV (As := [.int (iI v_84)]) (rest := [.int (iI v_238)]) (ci := 7) F hl.1 hH hS hz (c_X7_columns l g gh T I_232 R J_234 AI_235 AJ AR mo v_84 zv_84 hv hm hT (by omega)) (cwV 1 F.2.2.2.2.1 (good_up gT_X7_columns) rfl rfl rfl hdX7_columns ⟨Nat.le_of_ble_eq_true rfl, Nat.le_of_ble_eq_true rfl⟩) hm (by decide) rfl rfl rfl (Nat.le_of_ble_eq_true rfl) dX7_ringTold_106 ⟨Nat.zero_le _, Nat.zero_le _⟩) hS (fun v_313 I_307 R_308 J_309 AI_310 AJ_311 AR_312 H locs zv_313 hp_314 hH hS => ?_)
                              dsimp only at hp_314
                              obtain ⟨rfl, rfl, rfl, rfl, rfl, rfl, q_306⟩ := hp_314
                              have cvv_313 : v_313 = cF b nn nr nt cc h := q_306.trans ((mQ_c hQ rfl vlr_86.1 vlr_86.2.1).trans vlr_86.2.2)
                              refine z_icmp_eq (tgt := 117) F dX7_ringTold_109 (by decide) zv_238 zv_313 (fun c_315 => ?_) (fun c_315 => ?_)
                              · refine lv_aload_n F.1 F.2.1 dX7_ringTold_117 rfl (lv_at hl 6 rfl) ?_
                                refine z_bipush F dX7_ringTold_118 (by decide) ?_
                                refine lv_aload_n F.1 F.2.1 dX7_ringTold_120 rfl (lv_at hl 6 rfl) ?_
                                refine lv_iload_n F.1 F.2.1 dX7_ringTold_121 rfl (lv_at hl 5 rfl) ?_
                                refine g_calli (g_runV (As := [.int (iI v_84)]) (rest := [.int (iI 8), .ref mo]) (ci := 7) F hl.1 hH hS hz (c_X7_columns l g gh T I_232 R J_234 AI_235 AJ AR mo v_84 zv_84 hv hm hT (by omega)) (cwV 1 F.2.2.2.2.1 (good_up gT_X7_columns) rfl rfl rfl hdX7_columns ⟨Nat.le_of_ble_eq_true rfl, Nat.le_of_ble_eq_true rfl⟩) hm (by decide) rfl rfl rfl (Nat.le_of_ble_eq_true rfl) dX7_ringTold_122 ⟨Nat.zero_le _, Nat.zero_le _⟩) hS (fun v_323 I_317 R_318 J_319 AI_320 AJ_321 AR_322 H locs zv_323 hp_324 hH hS => ?_)
                                dsimp only at hp_324
                                obtain ⟨rfl, rfl, rfl, rfl, rfl, rfl, q_316⟩ := hp_324
                                have cvv_323 : v_323 = cF b nn nr nt cc h := q_316.trans ((mQ_c hQ rfl vlr_86.1 vlr_86.2.1).trans vlr_86.2.2)
                                have hcol : Hid ((I_232 mo 24).toInt = 0 → 1 ≤ v_323 ∧ v_323 ≤ 4) := fun h => by have q9 := mCol hv hm (z := v_84) (by omega) (by omega); omega
                                refine lv_iload_n F.1 F.2.1 dX7_ringTold_125 rfl (lv_at hl 5 rfl) ?_
                                refine lv_iload_n F.1 F.2.1 dX7_ringTold_126 rfl (lv_at hl 4 rfl) ?_
                                refine lv_iload F.1 F.2.1 dX7_ringTold_127 (lv_at hl 0 rfl) ?_
                                refine g_callv (g_runV (As := [.int (iI 8), .int (iI v_323), .int (iI v_84), .int (iI v_110), .int (iI v_238)]) (rest := []) (ci := 7) F hl.1 hH hS hz (c_X7_headerg l g gh T M I_232 R J_234 AI_235 AJ AR mo 8 v_323 v_84 v_110 v_238 ⟨by decide, by decide⟩ zv_323 zv_84 zv_110 zv_238 hv hm hT (by omega) (by omega)) (cwV 5 F.2.2.2.2.1 (good_up gT_X7_header) rfl rfl rfl hdX7_header ⟨Nat.le_of_ble_eq_true rfl, Nat.le_of_ble_eq_true rfl⟩) hm (by decide) rfl rfl rfl (Nat.le_of_ble_eq_true rfl) dX7_ringTold_129 ⟨Nat.zero_le _, Nat.zero_le _⟩) hS (fun I_325 R_326 J_327 AI_328 AJ_329 AR_330 H locs hp_331 hH hS => ?_)
                                dsimp only at hp_331
                                obtain ⟨rfl, rfl, rfl, rfl, rfl, hv, hT, hhd, q_332⟩ := hp_331
                                replace hhd := hid hhd
                                have hQ : mQ gh I_232 J_234 AI_328 AJ mo b nn nr nt cc 0 r_240.2.1 := mQ_a hQ (fun hf9 z9 h09 h19 => (hhd hf9).1 z9 h09 (Or.inl (by omega)))
                                have hfr := frM_h hfr (hhd (mQ_0 hQ rfl))
                                have hqa := rAll_h rTerm_l (by omega) (by decide) (hhd (mQ_0 hQ rfl)) hqa
                                have hpr : mP (AI_328 (gh 53 0)) M 0 0 = pV b nn (h + 4) ∧ mP (AI_328 (gh 53 0)) M 0 1 = pV b nn (h + 6) := ⟨(hP_m (by omega) (Int.le_refl 0) (by decide) (hhd (mQ_0 hQ rfl))).trans hpr.1, (hP_m (by omega) (Int.le_refl 0) (by decide) (hhd (mQ_0 hQ rfl))).trans hpr.2⟩
                                have hP9 : sPair b nn (cF b nn nr nt cc h) (cF b nn nr nt cc (h + 2)) 0 1 (h + 4) = (0, h + 7, pV b nn (h + 6)) := sPair_ok pr_150.1 (by decide) pr_163 pr_185.1
                                have hS9 : sRng b nn nr nt cc h = (0, r_240.2.1, rX (cF b nn nr nt cc h) (cF b nn nr nt cc (h + 2)) r_240.2.2) := by unfold sRng; exact thn_t sr_86 rfl (thn_t sr_100 rfl (thn_t sr_112 rfl (thn_t sr_126 rfl (thn_t hP9 rfl (thn_t sr_201 rfl (thn_y er_240 pr_240 rfl))))))
                                have hfin : thn (f, h, 0) (fun t _ => sRngM b nn nr nt cc t) = (0, r_240.2.1, rX (cF b nn nr nt cc h) (cF b nn nr nt cc (h + 2)) r_240.2.2) := (thn_k q0).trans (by show sRngM b nn nr nt cc h = _; unfold sRngM; exact thn_t hS9 rfl (show sEnd b nn (rX (cF b nn nr nt cc h) (cF b nn nr nt cc (h + 2)) r_240.2.2) (r_240.2.1) = _ from ite_n (fun e9 => by first | exact absurd e9.1 (by omega) | exact absurd e9.2 (rX_n (by omega) (by omega))) rfl))
                                exact g_vret F hr hlk hH hS hz ⟨rfl, rfl, rfl, hv, hT, pf, by first | (dsimp only; omega) | omega | rfl, by (try dsimp only); intro hf ht hn; have e59 := (mQ_s hQ rfl (c := 59) (by decide)).mp ⟨ht, hn⟩; have q9 := htt (by omega); have qs := hsp (by omega); have qc := hcol (by omega); have e0 := q9.2.2.2 (40 * M + 6 + 4 * 0 + 0) (by omega) (by omega); have e1 := q9.2.2.2 (40 * M + 6 + 4 * 0 + 1) (by omega) (by omega); have e2 := qs.2.1; have e3 := qs.2.2.1; unfold mP at e2 e3; exact row_mk (by omega) (hhd (by omega)) (by omega) (by omega) (by omega) (by omega) (fun h => absurd h (by omega)) (fun h => absurd h (by omega)) (fun h => absurd h (by omega)) (fun h => absurd h (by omega)) (fun h => absurd h (by omega)) (fun h => absurd h (by omega)) (fun _ => ⟨by omega, by omega, by unfold mP; omega, by unfold mP; omega, by unfold mP; omega, by unfold mP; omega, q9.2.2.1, by omega⟩), by (try dsimp only); intro hf; exact (hhd (by omega)).2.1, by (try dsimp only); rw [hfin]; exact hQ, by (try dsimp only); rw [hfin]; first | exact pIc_k (by (try dsimp only); omega) | (have q9 := (hhd (mQ_0 hQ rfl)).2.2.1; rw [show M = (nr : Int) by omega] at q9; (try dsimp only); exact pIc_y (by rw [rX_e (by omega)]; omega)), by (try dsimp only); rw [hfin]; exact zIf_y (hfr), by (try dsimp only); rw [hfin]; exact zIf_y (⟨⟨(hhd (mQ_0 hQ rfl)).2.2.2.1.trans vfr_86, (hhd (mQ_0 hQ rfl)).2.2.2.2.1.trans vfr_112⟩, (hhd (mQ_0 hQ rfl)).2.2.2.2.2.trans (by omega), hqa, hpr.1, hpr.2⟩), fun b hb => ((q_332 b hb).trans (q_244 b hb)).trans (q_212 b hb)⟩ dX7_ringTold_132
                              · refine lv_aload_n F.1 F.2.1 dX7_ringTold_112 rfl (lv_at hl 6 rfl) ?_
                                refine z_iconst F dX7_ringTold_113 ?_
                                refine g_callv (g_runV (As := [.int (iI 5)]) (rest := []) (ci := 7) F hl.1 hH hS hz (c_X7_wrongf l g gh T b nn nr nt cc 0 r_240.2.1 I_232 R J_234 AI_235 AJ AR mo 5 ⟨by decide, by decide⟩ hv hm hT (by omega) h65 hbM hr7 (by omega) hn9 (by omega) hQ) (cwV 1 F.2.2.2.2.1 (good_up gT_X7_wrong) rfl rfl rfl hdX7_wrong ⟨Nat.le_of_ble_eq_true rfl, Nat.le_of_ble_eq_true rfl⟩) hm (by decide) rfl rfl rfl (Nat.le_of_ble_eq_true rfl) dX7_ringTold_114 ⟨Nat.zero_le _, Nat.zero_le _⟩) hS (fun I_333 R_334 J_335 AI_336 AJ_337 AR_338 H locs hp_339 hH hS => ?_)
                                dsimp only at hp_339
                                obtain ⟨r_340, er_340⟩ : ∃ qQ : pR, qQ = thn (0, r_240.2.1, 0) (fun t _ => (5, t, 0)) := ⟨_, rfl⟩
                                rw [← er_340] at hp_339
                                obtain ⟨rfl, rfl, rfl, rfl, rfl, hv, pfq, q_341, hQ⟩ := hp_339
                                have pf := qF_t pf pfq
                                have u_342_2 : (I_333 mo 2).toInt = (I mo 2).toInt := by rw [pf 2 (by decide) (by decide) (by decide) (by decide) (by decide)]
                                have u_342_5 : (I_333 mo 5).toInt = (I mo 5).toInt := by rw [pf 5 (by decide) (by decide) (by decide) (by decide) (by decide)]
                                have u_342_14 : (I_333 mo 14).toInt = (I mo 14).toInt := by rw [pf 14 (by decide) (by decide) (by decide) (by decide) (by decide)]
                                have u_342_16 : (I_333 mo 16).toInt = (I mo 16).toInt := by rw [pf 16 (by decide) (by decide) (by decide) (by decide) (by decide)]
                                have u_342_18 : (I_333 mo 18).toInt = (I mo 18).toInt := by rw [pf 18 (by decide) (by decide) (by decide) (by decide) (by decide)]
                                have er_340 : r_340 = (5, r_240.2.1, 0) := er_340
                                have hQ : mQ gh I_333 J_234 AI_235 AJ mo b nn nr nt cc 5 r_240.2.1 := by rw [er_340] at hQ; exact hQ
                                have q9_r_340 : (5 : Int) ≠ 0 := by omega
                                have g9_r_340 := mQ_f hQ q9_r_340
                                refine lv_aload_n F.1 F.2.1 dX7_ringTold_117 rfl (lv_at hl 6 rfl) ?_
                                refine z_bipush F dX7_ringTold_118 (by decide) ?_
                                refine lv_aload_n F.1 F.2.1 dX7_ringTold_120 rfl (lv_at hl 6 rfl) ?_
                                refine lv_iload_n F.1 F.2.1 dX7_ringTold_121 rfl (lv_at hl 5 rfl) ?_
                                have b_344 := mJ hv hm
                                unfold mNum1 at b_344
                                refine g_calli (g_runV (As := [.int (iI v_84)]) (rest := [.int (iI 8), .ref mo]) (ci := 7) F hl.1 hH hS hz (c_X7_columns l g gh T I_333 R J_234 AI_235 AJ AR mo v_84 zv_84 hv hm hT (by omega)) (cwV 1 F.2.2.2.2.1 (good_up gT_X7_columns) rfl rfl rfl hdX7_columns ⟨Nat.le_of_ble_eq_true rfl, Nat.le_of_ble_eq_true rfl⟩) hm (by decide) rfl rfl rfl (Nat.le_of_ble_eq_true rfl) dX7_ringTold_122 ⟨Nat.zero_le _, Nat.zero_le _⟩) hS (fun v_351 I_345 R_346 J_347 AI_348 AJ_349 AR_350 H locs zv_351 hp_352 hH hS => ?_)
                                dsimp only at hp_352
                                obtain ⟨rfl, rfl, rfl, rfl, rfl, rfl, q_343⟩ := hp_352
                                have hcol : Hid ((I_333 mo 24).toInt = 0 → 1 ≤ v_351 ∧ v_351 ≤ 4) := fun h => by have q9 := mCol hv hm (z := v_84) (by omega) (by omega); omega
                                refine lv_iload_n F.1 F.2.1 dX7_ringTold_125 rfl (lv_at hl 5 rfl) ?_
                                refine lv_iload_n F.1 F.2.1 dX7_ringTold_126 rfl (lv_at hl 4 rfl) ?_
                                refine lv_iload F.1 F.2.1 dX7_ringTold_127 (lv_at hl 0 rfl) ?_
                                refine g_callv (g_runV (As := [.int (iI 8), .int (iI v_351), .int (iI v_84), .int (iI v_110), .int (iI v_238)]) (rest := []) (ci := 7) F hl.1 hH hS hz (c_X7_headerg l g gh T M I_333 R J_234 AI_235 AJ AR mo 8 v_351 v_84 v_110 v_238 ⟨by decide, by decide⟩ zv_351 zv_84 zv_110 zv_238 hv hm hT (by omega) (by omega)) (cwV 5 F.2.2.2.2.1 (good_up gT_X7_header) rfl rfl rfl hdX7_header ⟨Nat.le_of_ble_eq_true rfl, Nat.le_of_ble_eq_true rfl⟩) hm (by decide) rfl rfl rfl (Nat.le_of_ble_eq_true rfl) dX7_ringTold_129 ⟨Nat.zero_le _, Nat.zero_le _⟩) hS (fun I_353 R_354 J_355 AI_356 AJ_357 AR_358 H locs hp_359 hH hS => ?_)
                                dsimp only at hp_359
                                obtain ⟨rfl, rfl, rfl, rfl, rfl, hv, hT, hhd, q_360⟩ := hp_359
                                replace hhd := hid hhd
                                have hQ : mQ gh I_333 J_234 AI_356 AJ mo b nn nr nt cc 5 r_240.2.1 := mQ_bad hQ (by omega) rfl
                                have hP9 : sPair b nn (cF b nn nr nt cc h) (cF b nn nr nt cc (h + 2)) 0 1 (h + 4) = (0, h + 7, pV b nn (h + 6)) := sPair_ok pr_150.1 (by decide) pr_163 pr_185.1
                                have hS9 : sRng b nn nr nt cc h = (0, r_240.2.1, rX (cF b nn nr nt cc h) (cF b nn nr nt cc (h + 2)) r_240.2.2) := by unfold sRng; exact thn_t sr_86 rfl (thn_t sr_100 rfl (thn_t sr_112 rfl (thn_t sr_126 rfl (thn_t hP9 rfl (thn_t sr_201 rfl (thn_y er_240 pr_240 rfl))))))
                                have hfin : thn (f, h, 0) (fun t _ => sRngM b nn nr nt cc t) = (5, r_240.2.1, 0) := (thn_k q0).trans (by show sRngM b nn nr nt cc h = _; unfold sRngM; exact thn_t hS9 rfl (show sEnd b nn (rX (cF b nn nr nt cc h) (cF b nn nr nt cc (h + 2)) r_240.2.2) (r_240.2.1) = _ from ite_y ⟨by omega, rX_y (by omega)⟩ rfl))
                                exact g_vret F hr hlk hH hS hz ⟨rfl, rfl, rfl, hv, hT, pf, by first | (dsimp only; omega) | omega | rfl, by (try dsimp only); exact (fun hf => absurd hf (by omega)), by (try dsimp only); exact (fun hf => absurd hf (by omega)), by (try dsimp only); rw [hfin]; exact hQ, by (try dsimp only); rw [hfin]; exact pIc_n (by omega), by (try dsimp only); rw [hfin]; exact zIf_n (by omega), by (try dsimp only); rw [hfin]; exact zIf_n (by omega), fun b hb => ((q_360 b hb).trans (q_244 b hb)).trans (q_212 b hb)⟩ dX7_ringTold_132
                        · have g9r_240 := mQ_f hQ pr_240
                          have g8r_240 := mQ_p hQ
                          replace htt := hid htt
                          refine lv_istore (lv' := [(6, .int (iI v_238)), (5, .int (iI v_231)), (4, .int (iI v_183)), (3, .int (iI v_148)), (2, .int (iI v_110)), (1, .int (iI v_84)), (0, .ref mo)]) F.1 F.2.1 dX7_ringTold_85 hl (by decide) rfl (fun ls hl => ?_)
                          obtain ⟨f9, ef9⟩ : ∃ q, q = (I_232 mo 24).toInt := ⟨_, rfl⟩
                          refine lv_aload_n F.1 F.2.1 dX7_ringTold_87 rfl (lv_at hl 6 rfl) ?_
                          refine z_bipush F dX7_ringTold_88 (by decide) ?_
                          have b_361 := mJ hv hm
                          unfold mNum1 at b_361
                          refine g_calli (g_runV (As := [.int (iI 59)]) (rest := []) (ci := 7) F hl.1 hH hS hz (c_X7_isSignf l g gh T b nn nr nt cc r_240.1 r_240.2.1 I_232 R J_234 AI_235 AJ AR mo 59 ⟨by decide, by decide⟩ hv hm hT h65 hbM hr7 (by omega) hn9 (by omega) (by omega) hQ) (cwV 1 F.2.2.2.2.1 (good_up gT_X7_isSign) rfl rfl rfl hdX7_isSign ⟨Nat.le_of_ble_eq_true rfl, Nat.le_of_ble_eq_true rfl⟩) hm (by decide) rfl rfl rfl (Nat.le_of_ble_eq_true rfl) dX7_ringTold_90 ⟨Nat.zero_le _, Nat.zero_le _⟩) hS (fun v_368 I_362 R_363 J_364 AI_365 AJ_366 AR_367 H locs zv_368 hp_369 hH hS => ?_)
                          dsimp only at hp_369
                          obtain ⟨rfl, rfl, rfl, rfl, rfl, rfl, q_370, q_371⟩ := hp_369
                          replace q_370 := q_370.1
                          refine z_if_eq (tgt := 117) F dX7_ringTold_93 (by decide) zv_368 (fun c_372 => ?_) (fun c_372 => ?_)
                          · have t_373 := tIz_0 q_371 (by omega)
                            refine lv_aload_n F.1 F.2.1 dX7_ringTold_117 rfl (lv_at hl 6 rfl) ?_
                            refine z_bipush F dX7_ringTold_118 (by decide) ?_
                            refine lv_aload_n F.1 F.2.1 dX7_ringTold_120 rfl (lv_at hl 6 rfl) ?_
                            refine lv_iload_n F.1 F.2.1 dX7_ringTold_121 rfl (lv_at hl 5 rfl) ?_
                            refine g_calli (g_runV (As := [.int (iI v_84)]) (rest := [.int (iI 8), .ref mo]) (ci := 7) F hl.1 hH hS hz (c_X7_columns l g gh T I_232 R J_234 AI_235 AJ AR mo v_84 zv_84 hv hm hT (by omega)) (cwV 1 F.2.2.2.2.1 (good_up gT_X7_columns) rfl rfl rfl hdX7_columns ⟨Nat.le_of_ble_eq_true rfl, Nat.le_of_ble_eq_true rfl⟩) hm (by decide) rfl rfl rfl (Nat.le_of_ble_eq_true rfl) dX7_ringTold_122 ⟨Nat.zero_le _, Nat.zero_le _⟩) hS (fun v_381 I_375 R_376 J_377 AI_378 AJ_379 AR_380 H locs zv_381 hp_382 hH hS => ?_)
                            dsimp only at hp_382
                            obtain ⟨rfl, rfl, rfl, rfl, rfl, rfl, q_374⟩ := hp_382
                            have hcol : Hid ((I_232 mo 24).toInt = 0 → 1 ≤ v_381 ∧ v_381 ≤ 4) := fun h => by have q9 := mCol hv hm (z := v_84) (by omega) (by omega); omega
                            refine lv_iload_n F.1 F.2.1 dX7_ringTold_125 rfl (lv_at hl 5 rfl) ?_
                            refine lv_iload_n F.1 F.2.1 dX7_ringTold_126 rfl (lv_at hl 4 rfl) ?_
                            refine lv_iload F.1 F.2.1 dX7_ringTold_127 (lv_at hl 0 rfl) ?_
                            refine g_callv (g_runV (As := [.int (iI 8), .int (iI v_381), .int (iI v_84), .int (iI v_110), .int (iI v_238)]) (rest := []) (ci := 7) F hl.1 hH hS hz (c_X7_headerg l g gh T M I_232 R J_234 AI_235 AJ AR mo 8 v_381 v_84 v_110 v_238 ⟨by decide, by decide⟩ zv_381 zv_84 zv_110 zv_238 hv hm hT (by omega) (by omega)) (cwV 5 F.2.2.2.2.1 (good_up gT_X7_header) rfl rfl rfl hdX7_header ⟨Nat.le_of_ble_eq_true rfl, Nat.le_of_ble_eq_true rfl⟩) hm (by decide) rfl rfl rfl (Nat.le_of_ble_eq_true rfl) dX7_ringTold_129 ⟨Nat.zero_le _, Nat.zero_le _⟩) hS (fun I_383 R_384 J_385 AI_386 AJ_387 AR_388 H locs hp_389 hH hS => ?_)
                            dsimp only at hp_389
                            obtain ⟨rfl, rfl, rfl, rfl, rfl, hv, hT, hhd, q_390⟩ := hp_389
                            replace hhd := hid hhd
                            have hQ : mQ gh I_232 J_234 AI_386 AJ mo b nn nr nt cc r_240.1 r_240.2.1 := mQ_bad hQ (by omega) rfl
                            have hP9 : sPair b nn (cF b nn nr nt cc h) (cF b nn nr nt cc (h + 2)) 0 1 (h + 4) = (0, h + 7, pV b nn (h + 6)) := sPair_ok pr_150.1 (by decide) pr_163 pr_185.1
                            have hS9 : sRng b nn nr nt cc h = r_240 := by unfold sRng; exact thn_t sr_86 rfl (thn_t sr_100 rfl (thn_t sr_112 rfl (thn_t sr_126 rfl (thn_t hP9 rfl (thn_t sr_201 rfl (thn_x er_240 pr_240))))))
                            have hfin : thn (f, h, 0) (fun t _ => sRngM b nn nr nt cc t) = r_240 := (thn_k q0).trans (by show sRngM b nn nr nt cc h = _; unfold sRngM; exact thn_x hS9.symm (by (try dsimp only); omega))
                            exact g_vret F hr hlk hH hS hz ⟨rfl, rfl, rfl, hv, hT, pf, by first | (dsimp only; omega) | omega | rfl, by (try dsimp only); exact (fun hf => absurd hf (by omega)), by (try dsimp only); exact (fun hf => absurd hf (by omega)), by (try dsimp only); rw [hfin]; exact hQ, by (try dsimp only); rw [hfin]; exact pIc_n (by omega), by (try dsimp only); rw [hfin]; exact zIf_n (by omega), by (try dsimp only); rw [hfin]; exact zIf_n (by omega), fun b hb => ((q_390 b hb).trans (q_244 b hb)).trans (q_212 b hb)⟩ dX7_ringTold_132
                          · exact absurd (tIz_1 q_371 (by omega)).1 (by omega)
                      · have hQ : mQ gh I_194 J_196 AI AJ mo b nn nr nt cc 1 (h + 7) := by rw [er_201] at hQ; exact hQ
                        have sr_201 := sr_201.symm.trans er_201
                        have g9r_201 := mQ_f hQ (by omega)
                        have hP9 : sPair b nn (cF b nn nr nt cc h) (cF b nn nr nt cc (h + 2)) 0 1 (h + 4) = (0, h + 7, pV b nn (h + 6)) := sPair_ok pr_150.1 (by decide) pr_163 pr_185.1
                        have hS9 : sRng b nn nr nt cc h = (1, h + 7, 0) := by unfold sRng; exact thn_t sr_86 rfl (thn_t sr_100 rfl (thn_t sr_112 rfl (thn_t sr_126 rfl (thn_t hP9 rfl (thn_x sr_201.symm (by omega))))))
                        have hfin : thn (f, h, 0) (fun t _ => sRngM b nn nr nt cc t) = (1, h + 7, 0) := (thn_k q0).trans (by show sRngM b nn nr nt cc h = _; unfold sRngM; exact thn_x hS9.symm (by (try dsimp only); omega))
                        exact cut_55_3 v_84 v_110 v_148 v_183 I_194 J_196 AI H locs ls zv_84 zv_110 zv_148 zv_183 hv hT pf ⟨_, _, by omega, hQ, hfin⟩ (by omega) (by omega) (fun _ _ => rfl) hH hS (lv_sub hl [4, 3, 2, 1, 0] rfl)
                    exact cut_49_191 I_177 J_179 H locs ls hv pf hQ (by omega) hH hS (lv_sub hl [0, 1, 2, 3, 4] rfl)
                  · have hQ : mQ gh I_177 J_179 AI AJ mo b nn nr nt cc (pCf b nn (cF b nn nr nt cc (h + 2)) (h + 6)) (h + 6) := by rw [er_185] at hQ; exact hQ
                    have sr_185 := sr_185.symm.trans er_185
                    have g9r_185 := mQ_f hQ (by omega)
                    replace q_187 := hid q_187
                    obtain ⟨f2, ef2⟩ : ∃ q, q = (I_177 mo 24).toInt := ⟨_, rfl⟩
                    have hd1 : Hid (f2 = 0 → 0 ≤ v_183 ∧ v_183 ≤ 3) := fun h9 => by omega
                    refine lv_istore (lv' := [(4, .int (iI v_183)), (3, .int (iI v_148)), (2, .int (iI v_110)), (1, .int (iI v_84)), (0, .ref mo)]) F.1 F.2.1 dX7_ringTold_47 hl (by decide) rfl (fun ls hl => ?_)
                    refine lv_aload_n F.1 F.2.1 dX7_ringTold_49 rfl (lv_at hl 4 rfl) ?_
                    refine va_ldcS F.1 F.2.1 F.2.2.2.1 (F.2.2.2.2.2.2.1 26 _ rfl).1 dX7_ringTold_50 ?_
                    have b_391 := mJ hv hm
                    unfold mNum1 at b_391
                    refine g_callv (g_runV (As := [.ref (gSK g 26)]) (rest := []) (ci := 7) F hl.1 hH hS hz (c_X7_mustWordf l g gh T 26 _ 15 b nn nr nt cc (pCf b nn (cF b nn nr nt cc (h + 2)) (h + 6)) (h + 6) I_177 R J_179 AI AJ AR mo hv hm hT (by omega) (rfl : sTab[26]? = some _) h65 hbM hr7 (by omega) hn9 (by omega) (by decide) (by decide +kernel) hQ) (cwV 1 F.2.2.2.2.1 (good_up gT_X7_mustWord) rfl rfl rfl hdX7_mustWord ⟨Nat.le_of_ble_eq_true rfl, Nat.le_of_ble_eq_true rfl⟩) hm (by decide) rfl rfl rfl (Nat.le_of_ble_eq_true rfl) dX7_ringTold_52 ⟨Nat.zero_le _, Nat.zero_le _⟩) hS (fun I_392 R_393 J_394 AI_395 AJ_396 AR_397 H locs hp_398 hH hS => ?_)
                    dsimp only at hp_398
                    obtain ⟨r_399, er_399⟩ : ∃ qQ : pR, qQ = thn ((pCf b nn (cF b nn nr nt cc (h + 2)) (h + 6)), (h + 6), 0) (fun t _ => sTw b nn ((15 : Nat) : Int) t) := ⟨_, rfl⟩
                    rw [← er_399] at hp_398
                    obtain ⟨rfl, rfl, rfl, rfl, hv, pfq, q_400, hQ⟩ := hp_398
                    have pf := qF_t pf pfq
                    have u_401_2 : (I_392 mo 2).toInt = (I mo 2).toInt := by rw [pf 2 (by decide) (by decide) (by decide) (by decide) (by decide)]
                    have u_401_5 : (I_392 mo 5).toInt = (I mo 5).toInt := by rw [pf 5 (by decide) (by decide) (by decide) (by decide) (by decide)]
                    have u_401_14 : (I_392 mo 14).toInt = (I mo 14).toInt := by rw [pf 14 (by decide) (by decide) (by decide) (by decide) (by decide)]
                    have u_401_16 : (I_392 mo 16).toInt = (I mo 16).toInt := by rw [pf 16 (by decide) (by decide) (by decide) (by decide) (by decide)]
                    have u_401_18 : (I_392 mo 18).toInt = (I mo 18).toInt := by rw [pf 18 (by decide) (by decide) (by decide) (by decide) (by decide)]
                    rw [thn_b (by omega)] at er_399
                    have hQ : mQ gh I_392 J_394 AI AJ mo b nn nr nt cc (pCf b nn (cF b nn nr nt cc (h + 2)) (h + 6)) (h + 6) := by rw [er_399] at hQ; exact hQ
                    have hP9 : sPair b nn (cF b nn nr nt cc h) (cF b nn nr nt cc (h + 2)) 0 1 (h + 4) = (pCf b nn (cF b nn nr nt cc (h + 2)) (h + 6), h + 6, 0) := sPair_v pr_150.1 (by decide) pr_163 pr_185.1
                    have hS9 : sRng b nn nr nt cc h = (pCf b nn (cF b nn nr nt cc (h + 2)) (h + 6), h + 6, 0) := by unfold sRng; exact thn_t sr_86 rfl (thn_t sr_100 rfl (thn_t sr_112 rfl (thn_t sr_126 rfl (thn_x hP9.symm (by omega)))))
                    have hfin : thn (f, h, 0) (fun t _ => sRngM b nn nr nt cc t) = (pCf b nn (cF b nn nr nt cc (h + 2)) (h + 6), h + 6, 0) := (thn_k q0).trans (by show sRngM b nn nr nt cc h = _; unfold sRngM; exact thn_x hS9.symm (by (try dsimp only); omega))
                    exact cut_55_3 v_84 v_110 v_148 v_183 I_392 J_394 AI H locs ls zv_84 zv_110 zv_148 zv_183 hv hT pf ⟨_, _, by omega, hQ, hfin⟩ (by omega) (by omega) (fun _ _ => rfl) hH hS (lv_sub hl [4, 3, 2, 1, 0] rfl)
                · have hQ : mQ gh I_156 J_158 AI AJ mo b nn nr nt cc 1 (h + 5) := by rw [er_163] at hQ; exact hQ
                  have sr_163 := sr_163.symm.trans er_163
                  have g9r_163 := mQ_f hQ (by omega)
                  replace q_165 := hid q_165
                  refine lv_aload_n F.1 F.2.1 dX7_ringTold_38 rfl (lv_at hl 3 rfl) ?_
                  refine lv_aload_n F.1 F.2.1 dX7_ringTold_39 rfl (lv_at hl 3 rfl) ?_
                  refine lv_iload_n F.1 F.2.1 dX7_ringTold_40 rfl (lv_at hl 1 rfl) ?_
                  have b_403 := mJ hv hm
                  unfold mNum1 at b_403
                  refine g_calli (g_runV (As := [.int (iI v_110)]) (rest := [.ref mo]) (ci := 7) F hl.1 hH hS hz (c_X7_columns l g gh T I_156 R J_158 AI AJ AR mo v_110 zv_110 hv hm hT (by omega)) (cwV 1 F.2.2.2.2.1 (good_up gT_X7_columns) rfl rfl rfl hdX7_columns ⟨Nat.le_of_ble_eq_true rfl, Nat.le_of_ble_eq_true rfl⟩) hm (by decide) rfl rfl rfl (Nat.le_of_ble_eq_true rfl) dX7_ringTold_41 ⟨Nat.zero_le _, Nat.zero_le _⟩) hS (fun v_410 I_404 R_405 J_406 AI_407 AJ_408 AR_409 H locs zv_410 hp_411 hH hS => ?_)
                  dsimp only at hp_411
                  obtain ⟨rfl, rfl, rfl, rfl, rfl, rfl, q_402⟩ := hp_411
                  refine g_calli (g_runV (As := [.int (iI v_410)]) (rest := []) (ci := 7) F hl.1 hH hS hz (c_X7_columnf l g gh T b nn nr nt cc 1 (h + 5) I_156 R J_158 AI AJ AR mo v_410 zv_410 hv hm hT (by omega) h65 hbM hr7 (by omega) hn9 (by omega) hQ) (cwV 1 F.2.2.2.2.1 (good_up gT_X7_column) rfl rfl rfl hdX7_column ⟨Nat.le_of_ble_eq_true rfl, Nat.le_of_ble_eq_true rfl⟩) hm (by decide) rfl rfl rfl (Nat.le_of_ble_eq_true rfl) dX7_ringTold_44 ⟨Nat.zero_le _, Nat.zero_le _⟩) hS (fun v_418 I_412 R_413 J_414 AI_415 AJ_416 AR_417 H locs zv_418 hp_419 hH hS => ?_)
                  dsimp only at hp_419
                  obtain ⟨r_420, er_420⟩ : ∃ qQ : pR, qQ = thn (1, (h + 5), 0) (fun t _ => sCol b nn v_410 t) := ⟨_, rfl⟩
                  rw [← er_420] at hp_419
                  obtain ⟨rfl, rfl, rfl, rfl, hv, pfq, q_421, q_422, hQ, q_423⟩ := hp_419
                  have pf := qF_t pf pfq
                  have u_424_2 : (I_412 mo 2).toInt = (I mo 2).toInt := by rw [pf 2 (by decide) (by decide) (by decide) (by decide) (by decide)]
                  have u_424_5 : (I_412 mo 5).toInt = (I mo 5).toInt := by rw [pf 5 (by decide) (by decide) (by decide) (by decide) (by decide)]
                  have u_424_14 : (I_412 mo 14).toInt = (I mo 14).toInt := by rw [pf 14 (by decide) (by decide) (by decide) (by decide) (by decide)]
                  have u_424_16 : (I_412 mo 16).toInt = (I mo 16).toInt := by rw [pf 16 (by decide) (by decide) (by decide) (by decide) (by decide)]
                  have u_424_18 : (I_412 mo 18).toInt = (I mo 18).toInt := by rw [pf 18 (by decide) (by decide) (by decide) (by decide) (by decide)]
                  rw [thn_b (by omega)] at er_420
                  have hQ : mQ gh I_412 J_414 AI AJ mo b nn nr nt cc 1 (h + 5) := by rw [er_420] at hQ; exact hQ
                  replace q_422 := hid q_422
                  obtain ⟨f2, ef2⟩ : ∃ q, q = (I_412 mo 24).toInt := ⟨_, rfl⟩
                  have hd1 : Hid (f2 = 0 → 0 ≤ v_418 ∧ v_418 ≤ 3) := fun h9 => by omega
                  refine lv_istore (lv' := [(4, .int (iI v_418)), (3, .int (iI v_148)), (2, .int (iI v_110)), (1, .int (iI v_84)), (0, .ref mo)]) F.1 F.2.1 dX7_ringTold_47 hl (by decide) rfl (fun ls hl => ?_)
                  refine lv_aload_n F.1 F.2.1 dX7_ringTold_49 rfl (lv_at hl 4 rfl) ?_
                  refine va_ldcS F.1 F.2.1 F.2.2.2.1 (F.2.2.2.2.2.2.1 26 _ rfl).1 dX7_ringTold_50 ?_
                  have b_425 := mJ hv hm
                  unfold mNum1 at b_425
                  refine g_callv (g_runV (As := [.ref (gSK g 26)]) (rest := []) (ci := 7) F hl.1 hH hS hz (c_X7_mustWordf l g gh T 26 _ 15 b nn nr nt cc 1 (h + 5) I_412 R J_414 AI AJ AR mo hv hm hT (by omega) (rfl : sTab[26]? = some _) h65 hbM hr7 (by omega) hn9 (by omega) (by decide) (by decide +kernel) hQ) (cwV 1 F.2.2.2.2.1 (good_up gT_X7_mustWord) rfl rfl rfl hdX7_mustWord ⟨Nat.le_of_ble_eq_true rfl, Nat.le_of_ble_eq_true rfl⟩) hm (by decide) rfl rfl rfl (Nat.le_of_ble_eq_true rfl) dX7_ringTold_52 ⟨Nat.zero_le _, Nat.zero_le _⟩) hS (fun I_426 R_427 J_428 AI_429 AJ_430 AR_431 H locs hp_432 hH hS => ?_)
                  dsimp only at hp_432
                  obtain ⟨r_433, er_433⟩ : ∃ qQ : pR, qQ = thn (1, (h + 5), 0) (fun t _ => sTw b nn ((15 : Nat) : Int) t) := ⟨_, rfl⟩
                  rw [← er_433] at hp_432
                  obtain ⟨rfl, rfl, rfl, rfl, hv, pfq, q_434, hQ⟩ := hp_432
                  have pf := qF_t pf pfq
                  have u_435_2 : (I_426 mo 2).toInt = (I mo 2).toInt := by rw [pf 2 (by decide) (by decide) (by decide) (by decide) (by decide)]
                  have u_435_5 : (I_426 mo 5).toInt = (I mo 5).toInt := by rw [pf 5 (by decide) (by decide) (by decide) (by decide) (by decide)]
                  have u_435_14 : (I_426 mo 14).toInt = (I mo 14).toInt := by rw [pf 14 (by decide) (by decide) (by decide) (by decide) (by decide)]
                  have u_435_16 : (I_426 mo 16).toInt = (I mo 16).toInt := by rw [pf 16 (by decide) (by decide) (by decide) (by decide) (by decide)]
                  have u_435_18 : (I_426 mo 18).toInt = (I mo 18).toInt := by rw [pf 18 (by decide) (by decide) (by decide) (by decide) (by decide)]
                  rw [thn_b (by omega)] at er_433
                  have hQ : mQ gh I_426 J_428 AI AJ mo b nn nr nt cc 1 (h + 5) := by rw [er_433] at hQ; exact hQ
                  have hP9 : sPair b nn (cF b nn nr nt cc h) (cF b nn nr nt cc (h + 2)) 0 1 (h + 4) = (1, h + 5, 0) := sPair_1 pr_150.1 (by decide) pr_163
                  have hS9 : sRng b nn nr nt cc h = (1, h + 5, 0) := by unfold sRng; exact thn_t sr_86 rfl (thn_t sr_100 rfl (thn_t sr_112 rfl (thn_t sr_126 rfl (thn_x hP9.symm (by omega)))))
                  have hfin : thn (f, h, 0) (fun t _ => sRngM b nn nr nt cc t) = (1, h + 5, 0) := (thn_k q0).trans (by show sRngM b nn nr nt cc h = _; unfold sRngM; exact thn_x hS9.symm (by (try dsimp only); omega))
                  exact cut_55_3 v_84 v_110 v_148 v_418 I_426 J_428 AI H locs ls zv_84 zv_110 zv_148 zv_418 hv hT pf ⟨_, _, by omega, hQ, hfin⟩ (by omega) (by omega) (fun _ _ => rfl) hH hS (lv_sub hl [4, 3, 2, 1, 0] rfl)
              · have hQ : mQ gh I_142 J_144 AI AJ mo b nn nr nt cc (pCf b nn (cF b nn nr nt cc h) (h + 4)) (h + 4) := by rw [er_150] at hQ; exact hQ
                have sr_150 := sr_150.symm.trans er_150
                have g9r_150 := mQ_f hQ (by omega)
                replace q_152 := hid q_152
                obtain ⟨f1, ef1⟩ : ∃ q, q = (I_142 mo 24).toInt := ⟨_, rfl⟩
                have hc1 : Hid (f1 = 0 → 0 ≤ v_148 ∧ v_148 ≤ 3) := fun h9 => by omega
                refine lv_istore_n (lv' := [(3, .int (iI v_148)), (2, .int (iI v_110)), (1, .int (iI v_84)), (0, .ref mo)]) F.1 F.2.1 dX7_ringTold_31 rfl hl (by decide) rfl (fun ls hl => ?_)
                refine lv_aload_n F.1 F.2.1 dX7_ringTold_32 rfl (lv_at hl 3 rfl) ?_
                refine z_bipush F dX7_ringTold_33 (by decide) ?_
                have b_436 := mJ hv hm
                unfold mNum1 at b_436
                refine g_callv (g_runV (As := [.int (iI 61)]) (rest := []) (ci := 7) F hl.1 hH hS hz (c_X7_mustSignf l g gh T b nn nr nt cc (pCf b nn (cF b nn nr nt cc h) (h + 4)) (h + 4) I_142 R J_144 AI AJ AR mo 61 ⟨by decide, by decide⟩ hv hm hT (by omega) h65 hbM hr7 (by omega) hn9 (by omega) (by omega) hQ) (cwV 1 F.2.2.2.2.1 (good_up gT_X7_mustSign) rfl rfl rfl hdX7_mustSign ⟨Nat.le_of_ble_eq_true rfl, Nat.le_of_ble_eq_true rfl⟩) hm (by decide) rfl rfl rfl (Nat.le_of_ble_eq_true rfl) dX7_ringTold_35 ⟨Nat.zero_le _, Nat.zero_le _⟩) hS (fun I_437 R_438 J_439 AI_440 AJ_441 AR_442 H locs hp_443 hH hS => ?_)
                dsimp only at hp_443
                obtain ⟨r_444, er_444⟩ : ∃ qQ : pR, qQ = thn ((pCf b nn (cF b nn nr nt cc h) (h + 4)), (h + 4), 0) (fun t _ => sTk b nn 61 t) := ⟨_, rfl⟩
                rw [← er_444] at hp_443
                obtain ⟨rfl, rfl, rfl, rfl, hv, pfq, q_445, q_446, hQ⟩ := hp_443
                have pf := qF_t pf pfq
                have u_447_2 : (I_437 mo 2).toInt = (I mo 2).toInt := by rw [pf 2 (by decide) (by decide) (by decide) (by decide) (by decide)]
                have u_447_5 : (I_437 mo 5).toInt = (I mo 5).toInt := by rw [pf 5 (by decide) (by decide) (by decide) (by decide) (by decide)]
                have u_447_14 : (I_437 mo 14).toInt = (I mo 14).toInt := by rw [pf 14 (by decide) (by decide) (by decide) (by decide) (by decide)]
                have u_447_16 : (I_437 mo 16).toInt = (I mo 16).toInt := by rw [pf 16 (by decide) (by decide) (by decide) (by decide) (by decide)]
                have u_447_18 : (I_437 mo 18).toInt = (I mo 18).toInt := by rw [pf 18 (by decide) (by decide) (by decide) (by decide) (by decide)]
                rw [thn_b (by omega)] at er_444
                have hQ : mQ gh I_437 J_439 AI AJ mo b nn nr nt cc (pCf b nn (cF b nn nr nt cc h) (h + 4)) (h + 4) := by rw [er_444] at hQ; exact hQ
                replace q_446 := hid q_446
                refine lv_aload_n F.1 F.2.1 dX7_ringTold_38 rfl (lv_at hl 3 rfl) ?_
                refine lv_aload_n F.1 F.2.1 dX7_ringTold_39 rfl (lv_at hl 3 rfl) ?_
                refine lv_iload_n F.1 F.2.1 dX7_ringTold_40 rfl (lv_at hl 1 rfl) ?_
                have b_449 := mJ hv hm
                unfold mNum1 at b_449
                refine g_calli (g_runV (As := [.int (iI v_110)]) (rest := [.ref mo]) (ci := 7) F hl.1 hH hS hz (c_X7_columns l g gh T I_437 R J_439 AI AJ AR mo v_110 zv_110 hv hm hT (by omega)) (cwV 1 F.2.2.2.2.1 (good_up gT_X7_columns) rfl rfl rfl hdX7_columns ⟨Nat.le_of_ble_eq_true rfl, Nat.le_of_ble_eq_true rfl⟩) hm (by decide) rfl rfl rfl (Nat.le_of_ble_eq_true rfl) dX7_ringTold_41 ⟨Nat.zero_le _, Nat.zero_le _⟩) hS (fun v_456 I_450 R_451 J_452 AI_453 AJ_454 AR_455 H locs zv_456 hp_457 hH hS => ?_)
                dsimp only at hp_457
                obtain ⟨rfl, rfl, rfl, rfl, rfl, rfl, q_448⟩ := hp_457
                refine g_calli (g_runV (As := [.int (iI v_456)]) (rest := []) (ci := 7) F hl.1 hH hS hz (c_X7_columnf l g gh T b nn nr nt cc (pCf b nn (cF b nn nr nt cc h) (h + 4)) (h + 4) I_437 R J_439 AI AJ AR mo v_456 zv_456 hv hm hT (by omega) h65 hbM hr7 (by omega) hn9 (by omega) hQ) (cwV 1 F.2.2.2.2.1 (good_up gT_X7_column) rfl rfl rfl hdX7_column ⟨Nat.le_of_ble_eq_true rfl, Nat.le_of_ble_eq_true rfl⟩) hm (by decide) rfl rfl rfl (Nat.le_of_ble_eq_true rfl) dX7_ringTold_44 ⟨Nat.zero_le _, Nat.zero_le _⟩) hS (fun v_464 I_458 R_459 J_460 AI_461 AJ_462 AR_463 H locs zv_464 hp_465 hH hS => ?_)
                dsimp only at hp_465
                obtain ⟨r_466, er_466⟩ : ∃ qQ : pR, qQ = thn ((pCf b nn (cF b nn nr nt cc h) (h + 4)), (h + 4), 0) (fun t _ => sCol b nn v_456 t) := ⟨_, rfl⟩
                rw [← er_466] at hp_465
                obtain ⟨rfl, rfl, rfl, rfl, hv, pfq, q_467, q_468, hQ, q_469⟩ := hp_465
                have pf := qF_t pf pfq
                have u_470_2 : (I_458 mo 2).toInt = (I mo 2).toInt := by rw [pf 2 (by decide) (by decide) (by decide) (by decide) (by decide)]
                have u_470_5 : (I_458 mo 5).toInt = (I mo 5).toInt := by rw [pf 5 (by decide) (by decide) (by decide) (by decide) (by decide)]
                have u_470_14 : (I_458 mo 14).toInt = (I mo 14).toInt := by rw [pf 14 (by decide) (by decide) (by decide) (by decide) (by decide)]
                have u_470_16 : (I_458 mo 16).toInt = (I mo 16).toInt := by rw [pf 16 (by decide) (by decide) (by decide) (by decide) (by decide)]
                have u_470_18 : (I_458 mo 18).toInt = (I mo 18).toInt := by rw [pf 18 (by decide) (by decide) (by decide) (by decide) (by decide)]
                rw [thn_b (by omega)] at er_466
                have hQ : mQ gh I_458 J_460 AI AJ mo b nn nr nt cc (pCf b nn (cF b nn nr nt cc h) (h + 4)) (h + 4) := by rw [er_466] at hQ; exact hQ
                replace q_468 := hid q_468
                obtain ⟨f2, ef2⟩ : ∃ q, q = (I_458 mo 24).toInt := ⟨_, rfl⟩
                have hd1 : Hid (f2 = 0 → 0 ≤ v_464 ∧ v_464 ≤ 3) := fun h9 => by omega
                refine lv_istore (lv' := [(4, .int (iI v_464)), (3, .int (iI v_148)), (2, .int (iI v_110)), (1, .int (iI v_84)), (0, .ref mo)]) F.1 F.2.1 dX7_ringTold_47 hl (by decide) rfl (fun ls hl => ?_)
                refine lv_aload_n F.1 F.2.1 dX7_ringTold_49 rfl (lv_at hl 4 rfl) ?_
                refine va_ldcS F.1 F.2.1 F.2.2.2.1 (F.2.2.2.2.2.2.1 26 _ rfl).1 dX7_ringTold_50 ?_
                have b_471 := mJ hv hm
                unfold mNum1 at b_471
                refine g_callv (g_runV (As := [.ref (gSK g 26)]) (rest := []) (ci := 7) F hl.1 hH hS hz (c_X7_mustWordf l g gh T 26 _ 15 b nn nr nt cc (pCf b nn (cF b nn nr nt cc h) (h + 4)) (h + 4) I_458 R J_460 AI AJ AR mo hv hm hT (by omega) (rfl : sTab[26]? = some _) h65 hbM hr7 (by omega) hn9 (by omega) (by decide) (by decide +kernel) hQ) (cwV 1 F.2.2.2.2.1 (good_up gT_X7_mustWord) rfl rfl rfl hdX7_mustWord ⟨Nat.le_of_ble_eq_true rfl, Nat.le_of_ble_eq_true rfl⟩) hm (by decide) rfl rfl rfl (Nat.le_of_ble_eq_true rfl) dX7_ringTold_52 ⟨Nat.zero_le _, Nat.zero_le _⟩) hS (fun I_472 R_473 J_474 AI_475 AJ_476 AR_477 H locs hp_478 hH hS => ?_)
                dsimp only at hp_478
                obtain ⟨r_479, er_479⟩ : ∃ qQ : pR, qQ = thn ((pCf b nn (cF b nn nr nt cc h) (h + 4)), (h + 4), 0) (fun t _ => sTw b nn ((15 : Nat) : Int) t) := ⟨_, rfl⟩
                rw [← er_479] at hp_478
                obtain ⟨rfl, rfl, rfl, rfl, hv, pfq, q_480, hQ⟩ := hp_478
                have pf := qF_t pf pfq
                have u_481_2 : (I_472 mo 2).toInt = (I mo 2).toInt := by rw [pf 2 (by decide) (by decide) (by decide) (by decide) (by decide)]
                have u_481_5 : (I_472 mo 5).toInt = (I mo 5).toInt := by rw [pf 5 (by decide) (by decide) (by decide) (by decide) (by decide)]
                have u_481_14 : (I_472 mo 14).toInt = (I mo 14).toInt := by rw [pf 14 (by decide) (by decide) (by decide) (by decide) (by decide)]
                have u_481_16 : (I_472 mo 16).toInt = (I mo 16).toInt := by rw [pf 16 (by decide) (by decide) (by decide) (by decide) (by decide)]
                have u_481_18 : (I_472 mo 18).toInt = (I mo 18).toInt := by rw [pf 18 (by decide) (by decide) (by decide) (by decide) (by decide)]
                rw [thn_b (by omega)] at er_479
                have hQ : mQ gh I_472 J_474 AI AJ mo b nn nr nt cc (pCf b nn (cF b nn nr nt cc h) (h + 4)) (h + 4) := by rw [er_479] at hQ; exact hQ
                have hP9 : sPair b nn (cF b nn nr nt cc h) (cF b nn nr nt cc (h + 2)) 0 1 (h + 4) = (pCf b nn (cF b nn nr nt cc h) (h + 4), h + 4, 0) := sPair_x pr_150.1
                have hS9 : sRng b nn nr nt cc h = (pCf b nn (cF b nn nr nt cc h) (h + 4), h + 4, 0) := by unfold sRng; exact thn_t sr_86 rfl (thn_t sr_100 rfl (thn_t sr_112 rfl (thn_t sr_126 rfl (thn_x hP9.symm (by omega)))))
                have hfin : thn (f, h, 0) (fun t _ => sRngM b nn nr nt cc t) = (pCf b nn (cF b nn nr nt cc h) (h + 4), h + 4, 0) := (thn_k q0).trans (by show sRngM b nn nr nt cc h = _; unfold sRngM; exact thn_x hS9.symm (by (try dsimp only); omega))
                exact cut_55_3 v_84 v_110 v_148 v_464 I_472 J_474 AI H locs ls zv_84 zv_110 zv_148 zv_464 hv hT pf ⟨_, _, by omega, hQ, hfin⟩ (by omega) (by omega) (fun _ _ => rfl) hH hS (lv_sub hl [4, 3, 2, 1, 0] rfl)
            exact cut_22_130 I_119 J_121 H locs ls hv pf hQ (by omega) hH hS (lv_sub hl [0, 1, 2] rfl)
          · have hQ : mQ gh I_119 J_121 AI AJ mo b nn nr nt cc 1 (h + 3) := by rw [er_126] at hQ; exact hQ
            have sr_126 := sr_126.symm.trans er_126
            have g9r_126 := mQ_f hQ (by omega)
            refine lv_aload_n F.1 F.2.1 dX7_ringTold_22 rfl (lv_at hl 2 rfl) ?_
            refine lv_aload_n F.1 F.2.1 dX7_ringTold_23 rfl (lv_at hl 2 rfl) ?_
            refine lv_iload_n F.1 F.2.1 dX7_ringTold_24 rfl (lv_at hl 1 rfl) ?_
            have b_483 := mJ hv hm
            unfold mNum1 at b_483
            refine g_calli (g_runV (As := [.int (iI v_84)]) (rest := [.ref mo]) (ci := 7) F hl.1 hH hS hz (c_X7_columns l g gh T I_119 R J_121 AI AJ AR mo v_84 zv_84 hv hm hT (by omega)) (cwV 1 F.2.2.2.2.1 (good_up gT_X7_columns) rfl rfl rfl hdX7_columns ⟨Nat.le_of_ble_eq_true rfl, Nat.le_of_ble_eq_true rfl⟩) hm (by decide) rfl rfl rfl (Nat.le_of_ble_eq_true rfl) dX7_ringTold_25 ⟨Nat.zero_le _, Nat.zero_le _⟩) hS (fun v_490 I_484 R_485 J_486 AI_487 AJ_488 AR_489 H locs zv_490 hp_491 hH hS => ?_)
            dsimp only at hp_491
            obtain ⟨rfl, rfl, rfl, rfl, rfl, rfl, q_482⟩ := hp_491
            refine g_calli (g_runV (As := [.int (iI v_490)]) (rest := []) (ci := 7) F hl.1 hH hS hz (c_X7_columnf l g gh T b nn nr nt cc 1 (h + 3) I_119 R J_121 AI AJ AR mo v_490 zv_490 hv hm hT (by omega) h65 hbM hr7 (by omega) hn9 (by omega) hQ) (cwV 1 F.2.2.2.2.1 (good_up gT_X7_column) rfl rfl rfl hdX7_column ⟨Nat.le_of_ble_eq_true rfl, Nat.le_of_ble_eq_true rfl⟩) hm (by decide) rfl rfl rfl (Nat.le_of_ble_eq_true rfl) dX7_ringTold_28 ⟨Nat.zero_le _, Nat.zero_le _⟩) hS (fun v_498 I_492 R_493 J_494 AI_495 AJ_496 AR_497 H locs zv_498 hp_499 hH hS => ?_)
            dsimp only at hp_499
            obtain ⟨r_500, er_500⟩ : ∃ qQ : pR, qQ = thn (1, (h + 3), 0) (fun t _ => sCol b nn v_490 t) := ⟨_, rfl⟩
            rw [← er_500] at hp_499
            obtain ⟨rfl, rfl, rfl, rfl, hv, pfq, q_501, q_502, hQ, q_503⟩ := hp_499
            have pf := qF_t pf pfq
            have u_504_2 : (I_492 mo 2).toInt = (I mo 2).toInt := by rw [pf 2 (by decide) (by decide) (by decide) (by decide) (by decide)]
            have u_504_5 : (I_492 mo 5).toInt = (I mo 5).toInt := by rw [pf 5 (by decide) (by decide) (by decide) (by decide) (by decide)]
            have u_504_14 : (I_492 mo 14).toInt = (I mo 14).toInt := by rw [pf 14 (by decide) (by decide) (by decide) (by decide) (by decide)]
            have u_504_16 : (I_492 mo 16).toInt = (I mo 16).toInt := by rw [pf 16 (by decide) (by decide) (by decide) (by decide) (by decide)]
            have u_504_18 : (I_492 mo 18).toInt = (I mo 18).toInt := by rw [pf 18 (by decide) (by decide) (by decide) (by decide) (by decide)]
            rw [thn_b (by omega)] at er_500
            have hQ : mQ gh I_492 J_494 AI AJ mo b nn nr nt cc 1 (h + 3) := by rw [er_500] at hQ; exact hQ
            replace q_502 := hid q_502
            obtain ⟨f1, ef1⟩ : ∃ q, q = (I_492 mo 24).toInt := ⟨_, rfl⟩
            have hc1 : Hid (f1 = 0 → 0 ≤ v_498 ∧ v_498 ≤ 3) := fun h9 => by omega
            refine lv_istore_n (lv' := [(3, .int (iI v_498)), (2, .int (iI v_110)), (1, .int (iI v_84)), (0, .ref mo)]) F.1 F.2.1 dX7_ringTold_31 rfl hl (by decide) rfl (fun ls hl => ?_)
            refine lv_aload_n F.1 F.2.1 dX7_ringTold_32 rfl (lv_at hl 3 rfl) ?_
            refine z_bipush F dX7_ringTold_33 (by decide) ?_
            have b_505 := mJ hv hm
            unfold mNum1 at b_505
            refine g_callv (g_runV (As := [.int (iI 61)]) (rest := []) (ci := 7) F hl.1 hH hS hz (c_X7_mustSignf l g gh T b nn nr nt cc 1 (h + 3) I_492 R J_494 AI AJ AR mo 61 ⟨by decide, by decide⟩ hv hm hT (by omega) h65 hbM hr7 (by omega) hn9 (by omega) (by omega) hQ) (cwV 1 F.2.2.2.2.1 (good_up gT_X7_mustSign) rfl rfl rfl hdX7_mustSign ⟨Nat.le_of_ble_eq_true rfl, Nat.le_of_ble_eq_true rfl⟩) hm (by decide) rfl rfl rfl (Nat.le_of_ble_eq_true rfl) dX7_ringTold_35 ⟨Nat.zero_le _, Nat.zero_le _⟩) hS (fun I_506 R_507 J_508 AI_509 AJ_510 AR_511 H locs hp_512 hH hS => ?_)
            dsimp only at hp_512
            obtain ⟨r_513, er_513⟩ : ∃ qQ : pR, qQ = thn (1, (h + 3), 0) (fun t _ => sTk b nn 61 t) := ⟨_, rfl⟩
            rw [← er_513] at hp_512
            obtain ⟨rfl, rfl, rfl, rfl, hv, pfq, q_514, q_515, hQ⟩ := hp_512
            have pf := qF_t pf pfq
            have u_516_2 : (I_506 mo 2).toInt = (I mo 2).toInt := by rw [pf 2 (by decide) (by decide) (by decide) (by decide) (by decide)]
            have u_516_5 : (I_506 mo 5).toInt = (I mo 5).toInt := by rw [pf 5 (by decide) (by decide) (by decide) (by decide) (by decide)]
            have u_516_14 : (I_506 mo 14).toInt = (I mo 14).toInt := by rw [pf 14 (by decide) (by decide) (by decide) (by decide) (by decide)]
            have u_516_16 : (I_506 mo 16).toInt = (I mo 16).toInt := by rw [pf 16 (by decide) (by decide) (by decide) (by decide) (by decide)]
            have u_516_18 : (I_506 mo 18).toInt = (I mo 18).toInt := by rw [pf 18 (by decide) (by decide) (by decide) (by decide) (by decide)]
            rw [thn_b (by omega)] at er_513
            have hQ : mQ gh I_506 J_508 AI AJ mo b nn nr nt cc 1 (h + 3) := by rw [er_513] at hQ; exact hQ
            replace q_515 := hid q_515
            refine lv_aload_n F.1 F.2.1 dX7_ringTold_38 rfl (lv_at hl 3 rfl) ?_
            refine lv_aload_n F.1 F.2.1 dX7_ringTold_39 rfl (lv_at hl 3 rfl) ?_
            refine lv_iload_n F.1 F.2.1 dX7_ringTold_40 rfl (lv_at hl 1 rfl) ?_
            have b_518 := mJ hv hm
            unfold mNum1 at b_518
            refine g_calli (g_runV (As := [.int (iI v_110)]) (rest := [.ref mo]) (ci := 7) F hl.1 hH hS hz (c_X7_columns l g gh T I_506 R J_508 AI AJ AR mo v_110 zv_110 hv hm hT (by omega)) (cwV 1 F.2.2.2.2.1 (good_up gT_X7_columns) rfl rfl rfl hdX7_columns ⟨Nat.le_of_ble_eq_true rfl, Nat.le_of_ble_eq_true rfl⟩) hm (by decide) rfl rfl rfl (Nat.le_of_ble_eq_true rfl) dX7_ringTold_41 ⟨Nat.zero_le _, Nat.zero_le _⟩) hS (fun v_525 I_519 R_520 J_521 AI_522 AJ_523 AR_524 H locs zv_525 hp_526 hH hS => ?_)
            dsimp only at hp_526
            obtain ⟨rfl, rfl, rfl, rfl, rfl, rfl, q_517⟩ := hp_526
            refine g_calli (g_runV (As := [.int (iI v_525)]) (rest := []) (ci := 7) F hl.1 hH hS hz (c_X7_columnf l g gh T b nn nr nt cc 1 (h + 3) I_506 R J_508 AI AJ AR mo v_525 zv_525 hv hm hT (by omega) h65 hbM hr7 (by omega) hn9 (by omega) hQ) (cwV 1 F.2.2.2.2.1 (good_up gT_X7_column) rfl rfl rfl hdX7_column ⟨Nat.le_of_ble_eq_true rfl, Nat.le_of_ble_eq_true rfl⟩) hm (by decide) rfl rfl rfl (Nat.le_of_ble_eq_true rfl) dX7_ringTold_44 ⟨Nat.zero_le _, Nat.zero_le _⟩) hS (fun v_533 I_527 R_528 J_529 AI_530 AJ_531 AR_532 H locs zv_533 hp_534 hH hS => ?_)
            dsimp only at hp_534
            obtain ⟨r_535, er_535⟩ : ∃ qQ : pR, qQ = thn (1, (h + 3), 0) (fun t _ => sCol b nn v_525 t) := ⟨_, rfl⟩
            rw [← er_535] at hp_534
            obtain ⟨rfl, rfl, rfl, rfl, hv, pfq, q_536, q_537, hQ, q_538⟩ := hp_534
            have pf := qF_t pf pfq
            have u_539_2 : (I_527 mo 2).toInt = (I mo 2).toInt := by rw [pf 2 (by decide) (by decide) (by decide) (by decide) (by decide)]
            have u_539_5 : (I_527 mo 5).toInt = (I mo 5).toInt := by rw [pf 5 (by decide) (by decide) (by decide) (by decide) (by decide)]
            have u_539_14 : (I_527 mo 14).toInt = (I mo 14).toInt := by rw [pf 14 (by decide) (by decide) (by decide) (by decide) (by decide)]
            have u_539_16 : (I_527 mo 16).toInt = (I mo 16).toInt := by rw [pf 16 (by decide) (by decide) (by decide) (by decide) (by decide)]
            have u_539_18 : (I_527 mo 18).toInt = (I mo 18).toInt := by rw [pf 18 (by decide) (by decide) (by decide) (by decide) (by decide)]
            rw [thn_b (by omega)] at er_535
            have hQ : mQ gh I_527 J_529 AI AJ mo b nn nr nt cc 1 (h + 3) := by rw [er_535] at hQ; exact hQ
            replace q_537 := hid q_537
            obtain ⟨f2, ef2⟩ : ∃ q, q = (I_527 mo 24).toInt := ⟨_, rfl⟩
            have hd1 : Hid (f2 = 0 → 0 ≤ v_533 ∧ v_533 ≤ 3) := fun h9 => by omega
            refine lv_istore (lv' := [(4, .int (iI v_533)), (3, .int (iI v_498)), (2, .int (iI v_110)), (1, .int (iI v_84)), (0, .ref mo)]) F.1 F.2.1 dX7_ringTold_47 hl (by decide) rfl (fun ls hl => ?_)
            refine lv_aload_n F.1 F.2.1 dX7_ringTold_49 rfl (lv_at hl 4 rfl) ?_
            refine va_ldcS F.1 F.2.1 F.2.2.2.1 (F.2.2.2.2.2.2.1 26 _ rfl).1 dX7_ringTold_50 ?_
            have b_540 := mJ hv hm
            unfold mNum1 at b_540
            refine g_callv (g_runV (As := [.ref (gSK g 26)]) (rest := []) (ci := 7) F hl.1 hH hS hz (c_X7_mustWordf l g gh T 26 _ 15 b nn nr nt cc 1 (h + 3) I_527 R J_529 AI AJ AR mo hv hm hT (by omega) (rfl : sTab[26]? = some _) h65 hbM hr7 (by omega) hn9 (by omega) (by decide) (by decide +kernel) hQ) (cwV 1 F.2.2.2.2.1 (good_up gT_X7_mustWord) rfl rfl rfl hdX7_mustWord ⟨Nat.le_of_ble_eq_true rfl, Nat.le_of_ble_eq_true rfl⟩) hm (by decide) rfl rfl rfl (Nat.le_of_ble_eq_true rfl) dX7_ringTold_52 ⟨Nat.zero_le _, Nat.zero_le _⟩) hS (fun I_541 R_542 J_543 AI_544 AJ_545 AR_546 H locs hp_547 hH hS => ?_)
            dsimp only at hp_547
            obtain ⟨r_548, er_548⟩ : ∃ qQ : pR, qQ = thn (1, (h + 3), 0) (fun t _ => sTw b nn ((15 : Nat) : Int) t) := ⟨_, rfl⟩
            rw [← er_548] at hp_547
            obtain ⟨rfl, rfl, rfl, rfl, hv, pfq, q_549, hQ⟩ := hp_547
            have pf := qF_t pf pfq
            have u_550_2 : (I_541 mo 2).toInt = (I mo 2).toInt := by rw [pf 2 (by decide) (by decide) (by decide) (by decide) (by decide)]
            have u_550_5 : (I_541 mo 5).toInt = (I mo 5).toInt := by rw [pf 5 (by decide) (by decide) (by decide) (by decide) (by decide)]
            have u_550_14 : (I_541 mo 14).toInt = (I mo 14).toInt := by rw [pf 14 (by decide) (by decide) (by decide) (by decide) (by decide)]
            have u_550_16 : (I_541 mo 16).toInt = (I mo 16).toInt := by rw [pf 16 (by decide) (by decide) (by decide) (by decide) (by decide)]
            have u_550_18 : (I_541 mo 18).toInt = (I mo 18).toInt := by rw [pf 18 (by decide) (by decide) (by decide) (by decide) (by decide)]
            rw [thn_b (by omega)] at er_548
            have hQ : mQ gh I_541 J_543 AI AJ mo b nn nr nt cc 1 (h + 3) := by rw [er_548] at hQ; exact hQ
            have hS9 : sRng b nn nr nt cc h = (1, h + 3, 0) := by unfold sRng; exact thn_y sr_86.symm rfl (thn_y sr_100.symm rfl (thn_y sr_112.symm rfl (thn_x sr_126.symm (by omega))))
            have hfin : thn (f, h, 0) (fun t _ => sRngM b nn nr nt cc t) = (1, h + 3, 0) := (thn_k q0).trans (by show sRngM b nn nr nt cc h = _; unfold sRngM; exact thn_x hS9.symm (by (try dsimp only); omega))
            exact cut_55_3 v_84 v_110 v_498 v_533 I_541 J_543 AI H locs ls zv_84 zv_110 zv_498 zv_533 hv hT pf ⟨_, _, by omega, hQ, hfin⟩ (by omega) (by omega) (fun _ _ => rfl) hH hS (lv_sub hl [4, 3, 2, 1, 0] rfl)
        · have hQ : mQ gh I_104 J_106 AI AJ mo b nn nr nt cc (pRf b nn nt nr (h + 2)) (h + 2) := by rw [er_112] at hQ; exact hQ
          have sr_112 := sr_112.symm.trans er_112
          have g9r_112 := mQ_f hQ (by omega)
          replace q_114 := (⟨q_114.1, q_114.2.1⟩ : _ ∧ _)
          obtain ⟨f0, ef0⟩ : ∃ q, q = (I_104 mo 24).toInt := ⟨_, rfl⟩
          have hr2 : Hid (f0 = 0 → v_110 < M ∧ fa0 = 0) := fun h9 => by omega
          refine lv_istore_n (lv' := [(2, .int (iI v_110)), (1, .int (iI v_84)), (0, .ref mo)]) F.1 F.2.1 dX7_ringTold_15 rfl hl (by decide) rfl (fun ls hl => ?_)
          refine lv_aload_n F.1 F.2.1 dX7_ringTold_16 rfl (lv_at hl 2 rfl) ?_
          refine va_ldcS F.1 F.2.1 F.2.2.2.1 (F.2.2.2.2.2.2.1 14 _ rfl).1 dX7_ringTold_17 ?_
          have b_551 := mJ hv hm
          unfold mNum1 at b_551
          refine g_callv (g_runV (As := [.ref (gSK g 14)]) (rest := []) (ci := 7) F hl.1 hH hS hz (c_X7_mustWordf l g gh T 14 _ 12 b nn nr nt cc (pRf b nn nt nr (h + 2)) (h + 2) I_104 R J_106 AI AJ AR mo hv hm hT (by omega) (rfl : sTab[14]? = some _) h65 hbM hr7 (by omega) hn9 (by omega) (by decide) (by decide +kernel) hQ) (cwV 1 F.2.2.2.2.1 (good_up gT_X7_mustWord) rfl rfl rfl hdX7_mustWord ⟨Nat.le_of_ble_eq_true rfl, Nat.le_of_ble_eq_true rfl⟩) hm (by decide) rfl rfl rfl (Nat.le_of_ble_eq_true rfl) dX7_ringTold_19 ⟨Nat.zero_le _, Nat.zero_le _⟩) hS (fun I_552 R_553 J_554 AI_555 AJ_556 AR_557 H locs hp_558 hH hS => ?_)
          dsimp only at hp_558
          obtain ⟨r_559, er_559⟩ : ∃ qQ : pR, qQ = thn ((pRf b nn nt nr (h + 2)), (h + 2), 0) (fun t _ => sTw b nn ((12 : Nat) : Int) t) := ⟨_, rfl⟩
          rw [← er_559] at hp_558
          obtain ⟨rfl, rfl, rfl, rfl, hv, pfq, q_560, hQ⟩ := hp_558
          have pf := qF_t pf pfq
          have u_561_2 : (I_552 mo 2).toInt = (I mo 2).toInt := by rw [pf 2 (by decide) (by decide) (by decide) (by decide) (by decide)]
          have u_561_5 : (I_552 mo 5).toInt = (I mo 5).toInt := by rw [pf 5 (by decide) (by decide) (by decide) (by decide) (by decide)]
          have u_561_14 : (I_552 mo 14).toInt = (I mo 14).toInt := by rw [pf 14 (by decide) (by decide) (by decide) (by decide) (by decide)]
          have u_561_16 : (I_552 mo 16).toInt = (I mo 16).toInt := by rw [pf 16 (by decide) (by decide) (by decide) (by decide) (by decide)]
          have u_561_18 : (I_552 mo 18).toInt = (I mo 18).toInt := by rw [pf 18 (by decide) (by decide) (by decide) (by decide) (by decide)]
          rw [thn_b (by omega)] at er_559
          have hQ : mQ gh I_552 J_554 AI AJ mo b nn nr nt cc (pRf b nn nt nr (h + 2)) (h + 2) := by rw [er_559] at hQ; exact hQ
          refine lv_aload_n F.1 F.2.1 dX7_ringTold_22 rfl (lv_at hl 2 rfl) ?_
          refine lv_aload_n F.1 F.2.1 dX7_ringTold_23 rfl (lv_at hl 2 rfl) ?_
          refine lv_iload_n F.1 F.2.1 dX7_ringTold_24 rfl (lv_at hl 1 rfl) ?_
          have b_563 := mJ hv hm
          unfold mNum1 at b_563
          refine g_calli (g_runV (As := [.int (iI v_84)]) (rest := [.ref mo]) (ci := 7) F hl.1 hH hS hz (c_X7_columns l g gh T I_552 R J_554 AI AJ AR mo v_84 zv_84 hv hm hT (by omega)) (cwV 1 F.2.2.2.2.1 (good_up gT_X7_columns) rfl rfl rfl hdX7_columns ⟨Nat.le_of_ble_eq_true rfl, Nat.le_of_ble_eq_true rfl⟩) hm (by decide) rfl rfl rfl (Nat.le_of_ble_eq_true rfl) dX7_ringTold_25 ⟨Nat.zero_le _, Nat.zero_le _⟩) hS (fun v_570 I_564 R_565 J_566 AI_567 AJ_568 AR_569 H locs zv_570 hp_571 hH hS => ?_)
          dsimp only at hp_571
          obtain ⟨rfl, rfl, rfl, rfl, rfl, rfl, q_562⟩ := hp_571
          refine g_calli (g_runV (As := [.int (iI v_570)]) (rest := []) (ci := 7) F hl.1 hH hS hz (c_X7_columnf l g gh T b nn nr nt cc (pRf b nn nt nr (h + 2)) (h + 2) I_552 R J_554 AI AJ AR mo v_570 zv_570 hv hm hT (by omega) h65 hbM hr7 (by omega) hn9 (by omega) hQ) (cwV 1 F.2.2.2.2.1 (good_up gT_X7_column) rfl rfl rfl hdX7_column ⟨Nat.le_of_ble_eq_true rfl, Nat.le_of_ble_eq_true rfl⟩) hm (by decide) rfl rfl rfl (Nat.le_of_ble_eq_true rfl) dX7_ringTold_28 ⟨Nat.zero_le _, Nat.zero_le _⟩) hS (fun v_578 I_572 R_573 J_574 AI_575 AJ_576 AR_577 H locs zv_578 hp_579 hH hS => ?_)
          dsimp only at hp_579
          obtain ⟨r_580, er_580⟩ : ∃ qQ : pR, qQ = thn ((pRf b nn nt nr (h + 2)), (h + 2), 0) (fun t _ => sCol b nn v_570 t) := ⟨_, rfl⟩
          rw [← er_580] at hp_579
          obtain ⟨rfl, rfl, rfl, rfl, hv, pfq, q_581, q_582, hQ, q_583⟩ := hp_579
          have pf := qF_t pf pfq
          have u_584_2 : (I_572 mo 2).toInt = (I mo 2).toInt := by rw [pf 2 (by decide) (by decide) (by decide) (by decide) (by decide)]
          have u_584_5 : (I_572 mo 5).toInt = (I mo 5).toInt := by rw [pf 5 (by decide) (by decide) (by decide) (by decide) (by decide)]
          have u_584_14 : (I_572 mo 14).toInt = (I mo 14).toInt := by rw [pf 14 (by decide) (by decide) (by decide) (by decide) (by decide)]
          have u_584_16 : (I_572 mo 16).toInt = (I mo 16).toInt := by rw [pf 16 (by decide) (by decide) (by decide) (by decide) (by decide)]
          have u_584_18 : (I_572 mo 18).toInt = (I mo 18).toInt := by rw [pf 18 (by decide) (by decide) (by decide) (by decide) (by decide)]
          rw [thn_b (by omega)] at er_580
          have hQ : mQ gh I_572 J_574 AI AJ mo b nn nr nt cc (pRf b nn nt nr (h + 2)) (h + 2) := by rw [er_580] at hQ; exact hQ
          replace q_582 := hid q_582
          obtain ⟨f1, ef1⟩ : ∃ q, q = (I_572 mo 24).toInt := ⟨_, rfl⟩
          have hc1 : Hid (f1 = 0 → 0 ≤ v_578 ∧ v_578 ≤ 3) := fun h9 => by omega
          refine lv_istore_n (lv' := [(3, .int (iI v_578)), (2, .int (iI v_110)), (1, .int (iI v_84)), (0, .ref mo)]) F.1 F.2.1 dX7_ringTold_31 rfl hl (by decide) rfl (fun ls hl => ?_)
          refine lv_aload_n F.1 F.2.1 dX7_ringTold_32 rfl (lv_at hl 3 rfl) ?_
          refine z_bipush F dX7_ringTold_33 (by decide) ?_
          have b_585 := mJ hv hm
          unfold mNum1 at b_585
          refine g_callv (g_runV (As := [.int (iI 61)]) (rest := []) (ci := 7) F hl.1 hH hS hz (c_X7_mustSignf l g gh T b nn nr nt cc (pRf b nn nt nr (h + 2)) (h + 2) I_572 R J_574 AI AJ AR mo 61 ⟨by decide, by decide⟩ hv hm hT (by omega) h65 hbM hr7 (by omega) hn9 (by omega) (by omega) hQ) (cwV 1 F.2.2.2.2.1 (good_up gT_X7_mustSign) rfl rfl rfl hdX7_mustSign ⟨Nat.le_of_ble_eq_true rfl, Nat.le_of_ble_eq_true rfl⟩) hm (by decide) rfl rfl rfl (Nat.le_of_ble_eq_true rfl) dX7_ringTold_35 ⟨Nat.zero_le _, Nat.zero_le _⟩) hS (fun I_586 R_587 J_588 AI_589 AJ_590 AR_591 H locs hp_592 hH hS => ?_)
          dsimp only at hp_592
          obtain ⟨r_593, er_593⟩ : ∃ qQ : pR, qQ = thn ((pRf b nn nt nr (h + 2)), (h + 2), 0) (fun t _ => sTk b nn 61 t) := ⟨_, rfl⟩
          rw [← er_593] at hp_592
          obtain ⟨rfl, rfl, rfl, rfl, hv, pfq, q_594, q_595, hQ⟩ := hp_592
          have pf := qF_t pf pfq
          have u_596_2 : (I_586 mo 2).toInt = (I mo 2).toInt := by rw [pf 2 (by decide) (by decide) (by decide) (by decide) (by decide)]
          have u_596_5 : (I_586 mo 5).toInt = (I mo 5).toInt := by rw [pf 5 (by decide) (by decide) (by decide) (by decide) (by decide)]
          have u_596_14 : (I_586 mo 14).toInt = (I mo 14).toInt := by rw [pf 14 (by decide) (by decide) (by decide) (by decide) (by decide)]
          have u_596_16 : (I_586 mo 16).toInt = (I mo 16).toInt := by rw [pf 16 (by decide) (by decide) (by decide) (by decide) (by decide)]
          have u_596_18 : (I_586 mo 18).toInt = (I mo 18).toInt := by rw [pf 18 (by decide) (by decide) (by decide) (by decide) (by decide)]
          rw [thn_b (by omega)] at er_593
          have hQ : mQ gh I_586 J_588 AI AJ mo b nn nr nt cc (pRf b nn nt nr (h + 2)) (h + 2) := by rw [er_593] at hQ; exact hQ
          replace q_595 := hid q_595
          refine lv_aload_n F.1 F.2.1 dX7_ringTold_38 rfl (lv_at hl 3 rfl) ?_
          refine lv_aload_n F.1 F.2.1 dX7_ringTold_39 rfl (lv_at hl 3 rfl) ?_
          refine lv_iload_n F.1 F.2.1 dX7_ringTold_40 rfl (lv_at hl 1 rfl) ?_
          have b_598 := mJ hv hm
          unfold mNum1 at b_598
          refine g_calli (g_runV (As := [.int (iI v_110)]) (rest := [.ref mo]) (ci := 7) F hl.1 hH hS hz (c_X7_columns l g gh T I_586 R J_588 AI AJ AR mo v_110 zv_110 hv hm hT (by omega)) (cwV 1 F.2.2.2.2.1 (good_up gT_X7_columns) rfl rfl rfl hdX7_columns ⟨Nat.le_of_ble_eq_true rfl, Nat.le_of_ble_eq_true rfl⟩) hm (by decide) rfl rfl rfl (Nat.le_of_ble_eq_true rfl) dX7_ringTold_41 ⟨Nat.zero_le _, Nat.zero_le _⟩) hS (fun v_605 I_599 R_600 J_601 AI_602 AJ_603 AR_604 H locs zv_605 hp_606 hH hS => ?_)
          dsimp only at hp_606
          obtain ⟨rfl, rfl, rfl, rfl, rfl, rfl, q_597⟩ := hp_606
          refine g_calli (g_runV (As := [.int (iI v_605)]) (rest := []) (ci := 7) F hl.1 hH hS hz (c_X7_columnf l g gh T b nn nr nt cc (pRf b nn nt nr (h + 2)) (h + 2) I_586 R J_588 AI AJ AR mo v_605 zv_605 hv hm hT (by omega) h65 hbM hr7 (by omega) hn9 (by omega) hQ) (cwV 1 F.2.2.2.2.1 (good_up gT_X7_column) rfl rfl rfl hdX7_column ⟨Nat.le_of_ble_eq_true rfl, Nat.le_of_ble_eq_true rfl⟩) hm (by decide) rfl rfl rfl (Nat.le_of_ble_eq_true rfl) dX7_ringTold_44 ⟨Nat.zero_le _, Nat.zero_le _⟩) hS (fun v_613 I_607 R_608 J_609 AI_610 AJ_611 AR_612 H locs zv_613 hp_614 hH hS => ?_)
          dsimp only at hp_614
          obtain ⟨r_615, er_615⟩ : ∃ qQ : pR, qQ = thn ((pRf b nn nt nr (h + 2)), (h + 2), 0) (fun t _ => sCol b nn v_605 t) := ⟨_, rfl⟩
          rw [← er_615] at hp_614
          obtain ⟨rfl, rfl, rfl, rfl, hv, pfq, q_616, q_617, hQ, q_618⟩ := hp_614
          have pf := qF_t pf pfq
          have u_619_2 : (I_607 mo 2).toInt = (I mo 2).toInt := by rw [pf 2 (by decide) (by decide) (by decide) (by decide) (by decide)]
          have u_619_5 : (I_607 mo 5).toInt = (I mo 5).toInt := by rw [pf 5 (by decide) (by decide) (by decide) (by decide) (by decide)]
          have u_619_14 : (I_607 mo 14).toInt = (I mo 14).toInt := by rw [pf 14 (by decide) (by decide) (by decide) (by decide) (by decide)]
          have u_619_16 : (I_607 mo 16).toInt = (I mo 16).toInt := by rw [pf 16 (by decide) (by decide) (by decide) (by decide) (by decide)]
          have u_619_18 : (I_607 mo 18).toInt = (I mo 18).toInt := by rw [pf 18 (by decide) (by decide) (by decide) (by decide) (by decide)]
          rw [thn_b (by omega)] at er_615
          have hQ : mQ gh I_607 J_609 AI AJ mo b nn nr nt cc (pRf b nn nt nr (h + 2)) (h + 2) := by rw [er_615] at hQ; exact hQ
          replace q_617 := hid q_617
          obtain ⟨f2, ef2⟩ : ∃ q, q = (I_607 mo 24).toInt := ⟨_, rfl⟩
          have hd1 : Hid (f2 = 0 → 0 ≤ v_613 ∧ v_613 ≤ 3) := fun h9 => by omega
          refine lv_istore (lv' := [(4, .int (iI v_613)), (3, .int (iI v_578)), (2, .int (iI v_110)), (1, .int (iI v_84)), (0, .ref mo)]) F.1 F.2.1 dX7_ringTold_47 hl (by decide) rfl (fun ls hl => ?_)
          refine lv_aload_n F.1 F.2.1 dX7_ringTold_49 rfl (lv_at hl 4 rfl) ?_
          refine va_ldcS F.1 F.2.1 F.2.2.2.1 (F.2.2.2.2.2.2.1 26 _ rfl).1 dX7_ringTold_50 ?_
          have b_620 := mJ hv hm
          unfold mNum1 at b_620
          refine g_callv (g_runV (As := [.ref (gSK g 26)]) (rest := []) (ci := 7) F hl.1 hH hS hz (c_X7_mustWordf l g gh T 26 _ 15 b nn nr nt cc (pRf b nn nt nr (h + 2)) (h + 2) I_607 R J_609 AI AJ AR mo hv hm hT (by omega) (rfl : sTab[26]? = some _) h65 hbM hr7 (by omega) hn9 (by omega) (by decide) (by decide +kernel) hQ) (cwV 1 F.2.2.2.2.1 (good_up gT_X7_mustWord) rfl rfl rfl hdX7_mustWord ⟨Nat.le_of_ble_eq_true rfl, Nat.le_of_ble_eq_true rfl⟩) hm (by decide) rfl rfl rfl (Nat.le_of_ble_eq_true rfl) dX7_ringTold_52 ⟨Nat.zero_le _, Nat.zero_le _⟩) hS (fun I_621 R_622 J_623 AI_624 AJ_625 AR_626 H locs hp_627 hH hS => ?_)
          dsimp only at hp_627
          obtain ⟨r_628, er_628⟩ : ∃ qQ : pR, qQ = thn ((pRf b nn nt nr (h + 2)), (h + 2), 0) (fun t _ => sTw b nn ((15 : Nat) : Int) t) := ⟨_, rfl⟩
          rw [← er_628] at hp_627
          obtain ⟨rfl, rfl, rfl, rfl, hv, pfq, q_629, hQ⟩ := hp_627
          have pf := qF_t pf pfq
          have u_630_2 : (I_621 mo 2).toInt = (I mo 2).toInt := by rw [pf 2 (by decide) (by decide) (by decide) (by decide) (by decide)]
          have u_630_5 : (I_621 mo 5).toInt = (I mo 5).toInt := by rw [pf 5 (by decide) (by decide) (by decide) (by decide) (by decide)]
          have u_630_14 : (I_621 mo 14).toInt = (I mo 14).toInt := by rw [pf 14 (by decide) (by decide) (by decide) (by decide) (by decide)]
          have u_630_16 : (I_621 mo 16).toInt = (I mo 16).toInt := by rw [pf 16 (by decide) (by decide) (by decide) (by decide) (by decide)]
          have u_630_18 : (I_621 mo 18).toInt = (I mo 18).toInt := by rw [pf 18 (by decide) (by decide) (by decide) (by decide) (by decide)]
          rw [thn_b (by omega)] at er_628
          have hQ : mQ gh I_621 J_623 AI AJ mo b nn nr nt cc (pRf b nn nt nr (h + 2)) (h + 2) := by rw [er_628] at hQ; exact hQ
          have hS9 : sRng b nn nr nt cc h = (pRf b nn nt nr (h + 2), h + 2, 0) := by unfold sRng; exact thn_y sr_86.symm rfl (thn_y sr_100.symm rfl (thn_x sr_112.symm (by omega)))
          have hfin : thn (f, h, 0) (fun t _ => sRngM b nn nr nt cc t) = (pRf b nn nt nr (h + 2), h + 2, 0) := (thn_k q0).trans (by show sRngM b nn nr nt cc h = _; unfold sRngM; exact thn_x hS9.symm (by (try dsimp only); omega))
          exact cut_55_3 v_84 v_110 v_578 v_613 I_621 J_623 AI H locs ls zv_84 zv_110 zv_578 zv_613 hv hT pf ⟨_, _, by omega, hQ, hfin⟩ (by omega) (by omega) (fun _ _ => rfl) hH hS (lv_sub hl [4, 3, 2, 1, 0] rfl)
      · have hQ : mQ gh I_93 J_95 AI AJ mo b nn nr nt cc 1 (h + 1) := by rw [er_100] at hQ; exact hQ
        have sr_100 := sr_100.symm.trans er_100
        have g9r_100 := mQ_f hQ (by omega)
        refine lv_aload_n F.1 F.2.1 dX7_ringTold_11 rfl (lv_at hl 1 rfl) ?_
        have b_631 := mJ hv hm
        unfold mNum1 at b_631
        refine g_calli (g_runV (As := []) (rest := []) (ci := 7) F hl.1 hH hS hz (c_X7_relationg l g gh T b nn nr nt cc 1 (h + 1) I_93 R J_95 AI AJ AR mo hv hm hT (by omega) h65 hbM hr7 (by omega) hn9 (by omega) hQ) (cwV 0 F.2.2.2.2.1 (good_up gT_X7_relation) rfl rfl rfl hdX7_relation ⟨Nat.le_of_ble_eq_true rfl, Nat.le_of_ble_eq_true rfl⟩) hm (by decide) rfl rfl rfl (Nat.le_of_ble_eq_true rfl) dX7_ringTold_12 ⟨Nat.zero_le _, Nat.zero_le _⟩) hS (fun v_638 I_632 R_633 J_634 AI_635 AJ_636 AR_637 H locs zv_638 hp_639 hH hS => ?_)
        dsimp only at hp_639
        obtain ⟨r_640, er_640⟩ : ∃ qQ : pR, qQ = thn (1, (h + 1), 0) (fun t _ => sRl b nn nr nt cc t) := ⟨_, rfl⟩
        rw [← er_640] at hp_639
        obtain ⟨rfl, rfl, rfl, rfl, hv, pfq, q_641, q_642, hQ, q_643, q_644⟩ := hp_639
        have pf := qF_t pf pfq
        have u_645_2 : (I_632 mo 2).toInt = (I mo 2).toInt := by rw [pf 2 (by decide) (by decide) (by decide) (by decide) (by decide)]
        have u_645_5 : (I_632 mo 5).toInt = (I mo 5).toInt := by rw [pf 5 (by decide) (by decide) (by decide) (by decide) (by decide)]
        have u_645_14 : (I_632 mo 14).toInt = (I mo 14).toInt := by rw [pf 14 (by decide) (by decide) (by decide) (by decide) (by decide)]
        have u_645_16 : (I_632 mo 16).toInt = (I mo 16).toInt := by rw [pf 16 (by decide) (by decide) (by decide) (by decide) (by decide)]
        have u_645_18 : (I_632 mo 18).toInt = (I mo 18).toInt := by rw [pf 18 (by decide) (by decide) (by decide) (by decide) (by decide)]
        rw [thn_b (by omega)] at er_640
        have hQ : mQ gh I_632 J_634 AI AJ mo b nn nr nt cc 1 (h + 1) := by rw [er_640] at hQ; exact hQ
        replace q_642 := (⟨q_642.1, q_642.2.1⟩ : _ ∧ _)
        obtain ⟨f0, ef0⟩ : ∃ q, q = (I_632 mo 24).toInt := ⟨_, rfl⟩
        have hr2 : Hid (f0 = 0 → v_638 < M ∧ fa0 = 0) := fun h9 => by omega
        refine lv_istore_n (lv' := [(2, .int (iI v_638)), (1, .int (iI v_84)), (0, .ref mo)]) F.1 F.2.1 dX7_ringTold_15 rfl hl (by decide) rfl (fun ls hl => ?_)
        refine lv_aload_n F.1 F.2.1 dX7_ringTold_16 rfl (lv_at hl 2 rfl) ?_
        refine va_ldcS F.1 F.2.1 F.2.2.2.1 (F.2.2.2.2.2.2.1 14 _ rfl).1 dX7_ringTold_17 ?_
        have b_646 := mJ hv hm
        unfold mNum1 at b_646
        refine g_callv (g_runV (As := [.ref (gSK g 14)]) (rest := []) (ci := 7) F hl.1 hH hS hz (c_X7_mustWordf l g gh T 14 _ 12 b nn nr nt cc 1 (h + 1) I_632 R J_634 AI AJ AR mo hv hm hT (by omega) (rfl : sTab[14]? = some _) h65 hbM hr7 (by omega) hn9 (by omega) (by decide) (by decide +kernel) hQ) (cwV 1 F.2.2.2.2.1 (good_up gT_X7_mustWord) rfl rfl rfl hdX7_mustWord ⟨Nat.le_of_ble_eq_true rfl, Nat.le_of_ble_eq_true rfl⟩) hm (by decide) rfl rfl rfl (Nat.le_of_ble_eq_true rfl) dX7_ringTold_19 ⟨Nat.zero_le _, Nat.zero_le _⟩) hS (fun I_647 R_648 J_649 AI_650 AJ_651 AR_652 H locs hp_653 hH hS => ?_)
        dsimp only at hp_653
        obtain ⟨r_654, er_654⟩ : ∃ qQ : pR, qQ = thn (1, (h + 1), 0) (fun t _ => sTw b nn ((12 : Nat) : Int) t) := ⟨_, rfl⟩
        rw [← er_654] at hp_653
        obtain ⟨rfl, rfl, rfl, rfl, hv, pfq, q_655, hQ⟩ := hp_653
        have pf := qF_t pf pfq
        have u_656_2 : (I_647 mo 2).toInt = (I mo 2).toInt := by rw [pf 2 (by decide) (by decide) (by decide) (by decide) (by decide)]
        have u_656_5 : (I_647 mo 5).toInt = (I mo 5).toInt := by rw [pf 5 (by decide) (by decide) (by decide) (by decide) (by decide)]
        have u_656_14 : (I_647 mo 14).toInt = (I mo 14).toInt := by rw [pf 14 (by decide) (by decide) (by decide) (by decide) (by decide)]
        have u_656_16 : (I_647 mo 16).toInt = (I mo 16).toInt := by rw [pf 16 (by decide) (by decide) (by decide) (by decide) (by decide)]
        have u_656_18 : (I_647 mo 18).toInt = (I mo 18).toInt := by rw [pf 18 (by decide) (by decide) (by decide) (by decide) (by decide)]
        rw [thn_b (by omega)] at er_654
        have hQ : mQ gh I_647 J_649 AI AJ mo b nn nr nt cc 1 (h + 1) := by rw [er_654] at hQ; exact hQ
        refine lv_aload_n F.1 F.2.1 dX7_ringTold_22 rfl (lv_at hl 2 rfl) ?_
        refine lv_aload_n F.1 F.2.1 dX7_ringTold_23 rfl (lv_at hl 2 rfl) ?_
        refine lv_iload_n F.1 F.2.1 dX7_ringTold_24 rfl (lv_at hl 1 rfl) ?_
        have b_658 := mJ hv hm
        unfold mNum1 at b_658
        refine g_calli (g_runV (As := [.int (iI v_84)]) (rest := [.ref mo]) (ci := 7) F hl.1 hH hS hz (c_X7_columns l g gh T I_647 R J_649 AI AJ AR mo v_84 zv_84 hv hm hT (by omega)) (cwV 1 F.2.2.2.2.1 (good_up gT_X7_columns) rfl rfl rfl hdX7_columns ⟨Nat.le_of_ble_eq_true rfl, Nat.le_of_ble_eq_true rfl⟩) hm (by decide) rfl rfl rfl (Nat.le_of_ble_eq_true rfl) dX7_ringTold_25 ⟨Nat.zero_le _, Nat.zero_le _⟩) hS (fun v_665 I_659 R_660 J_661 AI_662 AJ_663 AR_664 H locs zv_665 hp_666 hH hS => ?_)
        dsimp only at hp_666
        obtain ⟨rfl, rfl, rfl, rfl, rfl, rfl, q_657⟩ := hp_666
        refine g_calli (g_runV (As := [.int (iI v_665)]) (rest := []) (ci := 7) F hl.1 hH hS hz (c_X7_columnf l g gh T b nn nr nt cc 1 (h + 1) I_647 R J_649 AI AJ AR mo v_665 zv_665 hv hm hT (by omega) h65 hbM hr7 (by omega) hn9 (by omega) hQ) (cwV 1 F.2.2.2.2.1 (good_up gT_X7_column) rfl rfl rfl hdX7_column ⟨Nat.le_of_ble_eq_true rfl, Nat.le_of_ble_eq_true rfl⟩) hm (by decide) rfl rfl rfl (Nat.le_of_ble_eq_true rfl) dX7_ringTold_28 ⟨Nat.zero_le _, Nat.zero_le _⟩) hS (fun v_673 I_667 R_668 J_669 AI_670 AJ_671 AR_672 H locs zv_673 hp_674 hH hS => ?_)
        dsimp only at hp_674
        obtain ⟨r_675, er_675⟩ : ∃ qQ : pR, qQ = thn (1, (h + 1), 0) (fun t _ => sCol b nn v_665 t) := ⟨_, rfl⟩
        rw [← er_675] at hp_674
        obtain ⟨rfl, rfl, rfl, rfl, hv, pfq, q_676, q_677, hQ, q_678⟩ := hp_674
        have pf := qF_t pf pfq
        have u_679_2 : (I_667 mo 2).toInt = (I mo 2).toInt := by rw [pf 2 (by decide) (by decide) (by decide) (by decide) (by decide)]
        have u_679_5 : (I_667 mo 5).toInt = (I mo 5).toInt := by rw [pf 5 (by decide) (by decide) (by decide) (by decide) (by decide)]
        have u_679_14 : (I_667 mo 14).toInt = (I mo 14).toInt := by rw [pf 14 (by decide) (by decide) (by decide) (by decide) (by decide)]
        have u_679_16 : (I_667 mo 16).toInt = (I mo 16).toInt := by rw [pf 16 (by decide) (by decide) (by decide) (by decide) (by decide)]
        have u_679_18 : (I_667 mo 18).toInt = (I mo 18).toInt := by rw [pf 18 (by decide) (by decide) (by decide) (by decide) (by decide)]
        rw [thn_b (by omega)] at er_675
        have hQ : mQ gh I_667 J_669 AI AJ mo b nn nr nt cc 1 (h + 1) := by rw [er_675] at hQ; exact hQ
        replace q_677 := hid q_677
        obtain ⟨f1, ef1⟩ : ∃ q, q = (I_667 mo 24).toInt := ⟨_, rfl⟩
        have hc1 : Hid (f1 = 0 → 0 ≤ v_673 ∧ v_673 ≤ 3) := fun h9 => by omega
        refine lv_istore_n (lv' := [(3, .int (iI v_673)), (2, .int (iI v_638)), (1, .int (iI v_84)), (0, .ref mo)]) F.1 F.2.1 dX7_ringTold_31 rfl hl (by decide) rfl (fun ls hl => ?_)
        refine lv_aload_n F.1 F.2.1 dX7_ringTold_32 rfl (lv_at hl 3 rfl) ?_
        refine z_bipush F dX7_ringTold_33 (by decide) ?_
        have b_680 := mJ hv hm
        unfold mNum1 at b_680
        refine g_callv (g_runV (As := [.int (iI 61)]) (rest := []) (ci := 7) F hl.1 hH hS hz (c_X7_mustSignf l g gh T b nn nr nt cc 1 (h + 1) I_667 R J_669 AI AJ AR mo 61 ⟨by decide, by decide⟩ hv hm hT (by omega) h65 hbM hr7 (by omega) hn9 (by omega) (by omega) hQ) (cwV 1 F.2.2.2.2.1 (good_up gT_X7_mustSign) rfl rfl rfl hdX7_mustSign ⟨Nat.le_of_ble_eq_true rfl, Nat.le_of_ble_eq_true rfl⟩) hm (by decide) rfl rfl rfl (Nat.le_of_ble_eq_true rfl) dX7_ringTold_35 ⟨Nat.zero_le _, Nat.zero_le _⟩) hS (fun I_681 R_682 J_683 AI_684 AJ_685 AR_686 H locs hp_687 hH hS => ?_)
        dsimp only at hp_687
        obtain ⟨r_688, er_688⟩ : ∃ qQ : pR, qQ = thn (1, (h + 1), 0) (fun t _ => sTk b nn 61 t) := ⟨_, rfl⟩
        rw [← er_688] at hp_687
        obtain ⟨rfl, rfl, rfl, rfl, hv, pfq, q_689, q_690, hQ⟩ := hp_687
        have pf := qF_t pf pfq
        have u_691_2 : (I_681 mo 2).toInt = (I mo 2).toInt := by rw [pf 2 (by decide) (by decide) (by decide) (by decide) (by decide)]
        have u_691_5 : (I_681 mo 5).toInt = (I mo 5).toInt := by rw [pf 5 (by decide) (by decide) (by decide) (by decide) (by decide)]
        have u_691_14 : (I_681 mo 14).toInt = (I mo 14).toInt := by rw [pf 14 (by decide) (by decide) (by decide) (by decide) (by decide)]
        have u_691_16 : (I_681 mo 16).toInt = (I mo 16).toInt := by rw [pf 16 (by decide) (by decide) (by decide) (by decide) (by decide)]
        have u_691_18 : (I_681 mo 18).toInt = (I mo 18).toInt := by rw [pf 18 (by decide) (by decide) (by decide) (by decide) (by decide)]
        rw [thn_b (by omega)] at er_688
        have hQ : mQ gh I_681 J_683 AI AJ mo b nn nr nt cc 1 (h + 1) := by rw [er_688] at hQ; exact hQ
        replace q_690 := hid q_690
        refine lv_aload_n F.1 F.2.1 dX7_ringTold_38 rfl (lv_at hl 3 rfl) ?_
        refine lv_aload_n F.1 F.2.1 dX7_ringTold_39 rfl (lv_at hl 3 rfl) ?_
        refine lv_iload_n F.1 F.2.1 dX7_ringTold_40 rfl (lv_at hl 1 rfl) ?_
        have b_693 := mJ hv hm
        unfold mNum1 at b_693
        refine g_calli (g_runV (As := [.int (iI v_638)]) (rest := [.ref mo]) (ci := 7) F hl.1 hH hS hz (c_X7_columns l g gh T I_681 R J_683 AI AJ AR mo v_638 zv_638 hv hm hT (by omega)) (cwV 1 F.2.2.2.2.1 (good_up gT_X7_columns) rfl rfl rfl hdX7_columns ⟨Nat.le_of_ble_eq_true rfl, Nat.le_of_ble_eq_true rfl⟩) hm (by decide) rfl rfl rfl (Nat.le_of_ble_eq_true rfl) dX7_ringTold_41 ⟨Nat.zero_le _, Nat.zero_le _⟩) hS (fun v_700 I_694 R_695 J_696 AI_697 AJ_698 AR_699 H locs zv_700 hp_701 hH hS => ?_)
        dsimp only at hp_701
        obtain ⟨rfl, rfl, rfl, rfl, rfl, rfl, q_692⟩ := hp_701
        refine g_calli (g_runV (As := [.int (iI v_700)]) (rest := []) (ci := 7) F hl.1 hH hS hz (c_X7_columnf l g gh T b nn nr nt cc 1 (h + 1) I_681 R J_683 AI AJ AR mo v_700 zv_700 hv hm hT (by omega) h65 hbM hr7 (by omega) hn9 (by omega) hQ) (cwV 1 F.2.2.2.2.1 (good_up gT_X7_column) rfl rfl rfl hdX7_column ⟨Nat.le_of_ble_eq_true rfl, Nat.le_of_ble_eq_true rfl⟩) hm (by decide) rfl rfl rfl (Nat.le_of_ble_eq_true rfl) dX7_ringTold_44 ⟨Nat.zero_le _, Nat.zero_le _⟩) hS (fun v_708 I_702 R_703 J_704 AI_705 AJ_706 AR_707 H locs zv_708 hp_709 hH hS => ?_)
        dsimp only at hp_709
        obtain ⟨r_710, er_710⟩ : ∃ qQ : pR, qQ = thn (1, (h + 1), 0) (fun t _ => sCol b nn v_700 t) := ⟨_, rfl⟩
        rw [← er_710] at hp_709
        obtain ⟨rfl, rfl, rfl, rfl, hv, pfq, q_711, q_712, hQ, q_713⟩ := hp_709
        have pf := qF_t pf pfq
        have u_714_2 : (I_702 mo 2).toInt = (I mo 2).toInt := by rw [pf 2 (by decide) (by decide) (by decide) (by decide) (by decide)]
        have u_714_5 : (I_702 mo 5).toInt = (I mo 5).toInt := by rw [pf 5 (by decide) (by decide) (by decide) (by decide) (by decide)]
        have u_714_14 : (I_702 mo 14).toInt = (I mo 14).toInt := by rw [pf 14 (by decide) (by decide) (by decide) (by decide) (by decide)]
        have u_714_16 : (I_702 mo 16).toInt = (I mo 16).toInt := by rw [pf 16 (by decide) (by decide) (by decide) (by decide) (by decide)]
        have u_714_18 : (I_702 mo 18).toInt = (I mo 18).toInt := by rw [pf 18 (by decide) (by decide) (by decide) (by decide) (by decide)]
        rw [thn_b (by omega)] at er_710
        have hQ : mQ gh I_702 J_704 AI AJ mo b nn nr nt cc 1 (h + 1) := by rw [er_710] at hQ; exact hQ
        replace q_712 := hid q_712
        obtain ⟨f2, ef2⟩ : ∃ q, q = (I_702 mo 24).toInt := ⟨_, rfl⟩
        have hd1 : Hid (f2 = 0 → 0 ≤ v_708 ∧ v_708 ≤ 3) := fun h9 => by omega
        refine lv_istore (lv' := [(4, .int (iI v_708)), (3, .int (iI v_673)), (2, .int (iI v_638)), (1, .int (iI v_84)), (0, .ref mo)]) F.1 F.2.1 dX7_ringTold_47 hl (by decide) rfl (fun ls hl => ?_)
        refine lv_aload_n F.1 F.2.1 dX7_ringTold_49 rfl (lv_at hl 4 rfl) ?_
        refine va_ldcS F.1 F.2.1 F.2.2.2.1 (F.2.2.2.2.2.2.1 26 _ rfl).1 dX7_ringTold_50 ?_
        have b_715 := mJ hv hm
        unfold mNum1 at b_715
        refine g_callv (g_runV (As := [.ref (gSK g 26)]) (rest := []) (ci := 7) F hl.1 hH hS hz (c_X7_mustWordf l g gh T 26 _ 15 b nn nr nt cc 1 (h + 1) I_702 R J_704 AI AJ AR mo hv hm hT (by omega) (rfl : sTab[26]? = some _) h65 hbM hr7 (by omega) hn9 (by omega) (by decide) (by decide +kernel) hQ) (cwV 1 F.2.2.2.2.1 (good_up gT_X7_mustWord) rfl rfl rfl hdX7_mustWord ⟨Nat.le_of_ble_eq_true rfl, Nat.le_of_ble_eq_true rfl⟩) hm (by decide) rfl rfl rfl (Nat.le_of_ble_eq_true rfl) dX7_ringTold_52 ⟨Nat.zero_le _, Nat.zero_le _⟩) hS (fun I_716 R_717 J_718 AI_719 AJ_720 AR_721 H locs hp_722 hH hS => ?_)
        dsimp only at hp_722
        obtain ⟨r_723, er_723⟩ : ∃ qQ : pR, qQ = thn (1, (h + 1), 0) (fun t _ => sTw b nn ((15 : Nat) : Int) t) := ⟨_, rfl⟩
        rw [← er_723] at hp_722
        obtain ⟨rfl, rfl, rfl, rfl, hv, pfq, q_724, hQ⟩ := hp_722
        have pf := qF_t pf pfq
        have u_725_2 : (I_716 mo 2).toInt = (I mo 2).toInt := by rw [pf 2 (by decide) (by decide) (by decide) (by decide) (by decide)]
        have u_725_5 : (I_716 mo 5).toInt = (I mo 5).toInt := by rw [pf 5 (by decide) (by decide) (by decide) (by decide) (by decide)]
        have u_725_14 : (I_716 mo 14).toInt = (I mo 14).toInt := by rw [pf 14 (by decide) (by decide) (by decide) (by decide) (by decide)]
        have u_725_16 : (I_716 mo 16).toInt = (I mo 16).toInt := by rw [pf 16 (by decide) (by decide) (by decide) (by decide) (by decide)]
        have u_725_18 : (I_716 mo 18).toInt = (I mo 18).toInt := by rw [pf 18 (by decide) (by decide) (by decide) (by decide) (by decide)]
        rw [thn_b (by omega)] at er_723
        have hQ : mQ gh I_716 J_718 AI AJ mo b nn nr nt cc 1 (h + 1) := by rw [er_723] at hQ; exact hQ
        have hS9 : sRng b nn nr nt cc h = (1, h + 1, 0) := by unfold sRng; exact thn_y sr_86.symm rfl (thn_x sr_100.symm (by omega))
        have hfin : thn (f, h, 0) (fun t _ => sRngM b nn nr nt cc t) = (1, h + 1, 0) := (thn_k q0).trans (by show sRngM b nn nr nt cc h = _; unfold sRngM; exact thn_x hS9.symm (by (try dsimp only); omega))
        exact cut_55_3 v_84 v_638 v_673 v_708 I_716 J_718 AI H locs ls zv_84 zv_638 zv_673 zv_708 hv hT pf ⟨_, _, by omega, hQ, hfin⟩ (by omega) (by omega) (fun _ _ => rfl) hH hS (lv_sub hl [4, 3, 2, 1, 0] rfl)
    · have hQ : mQ gh I_78 J_80 AI AJ mo b nn nr nt cc (pRf b nn nt nr h) h := by rw [er_86] at hQ; exact hQ
      have sr_86 := sr_86.symm.trans er_86
      have g9r_86 := mQ_f hQ (by omega)
      replace q_88 := (⟨q_88.1, q_88.2.1⟩ : _ ∧ _)
      obtain ⟨fa0, efa0⟩ : ∃ q, q = (I_78 mo 24).toInt := ⟨_, rfl⟩
      have hra : Hid (fa0 = 0 → v_84 < M) := fun h9 => by omega
      refine lv_istore_n (lv' := [(1, .int (iI v_84)), (0, .ref mo)]) F.1 F.2.1 dX7_ringTold_4 rfl hl (by decide) rfl (fun ls hl => ?_)
      refine lv_aload_n F.1 F.2.1 dX7_ringTold_5 rfl (lv_at hl 1 rfl) ?_
      refine va_ldcS F.1 F.2.1 F.2.2.2.1 (F.2.2.2.2.2.2.1 25 _ rfl).1 dX7_ringTold_6 ?_
      have b_726 := mJ hv hm
      unfold mNum1 at b_726
      refine g_callv (g_runV (As := [.ref (gSK g 25)]) (rest := []) (ci := 7) F hl.1 hH hS hz (c_X7_mustWordf l g gh T 25 _ 14 b nn nr nt cc (pRf b nn nt nr h) h I_78 R J_80 AI AJ AR mo hv hm hT (by omega) (rfl : sTab[25]? = some _) h65 hbM hr7 (by omega) hn9 (by omega) (by decide) (by decide +kernel) hQ) (cwV 1 F.2.2.2.2.1 (good_up gT_X7_mustWord) rfl rfl rfl hdX7_mustWord ⟨Nat.le_of_ble_eq_true rfl, Nat.le_of_ble_eq_true rfl⟩) hm (by decide) rfl rfl rfl (Nat.le_of_ble_eq_true rfl) dX7_ringTold_8 ⟨Nat.zero_le _, Nat.zero_le _⟩) hS (fun I_727 R_728 J_729 AI_730 AJ_731 AR_732 H locs hp_733 hH hS => ?_)
      dsimp only at hp_733
      obtain ⟨r_734, er_734⟩ : ∃ qQ : pR, qQ = thn ((pRf b nn nt nr h), h, 0) (fun t _ => sTw b nn ((14 : Nat) : Int) t) := ⟨_, rfl⟩
      rw [← er_734] at hp_733
      obtain ⟨rfl, rfl, rfl, rfl, hv, pfq, q_735, hQ⟩ := hp_733
      have pf := qF_t pf pfq
      have u_736_2 : (I_727 mo 2).toInt = (I mo 2).toInt := by rw [pf 2 (by decide) (by decide) (by decide) (by decide) (by decide)]
      have u_736_5 : (I_727 mo 5).toInt = (I mo 5).toInt := by rw [pf 5 (by decide) (by decide) (by decide) (by decide) (by decide)]
      have u_736_14 : (I_727 mo 14).toInt = (I mo 14).toInt := by rw [pf 14 (by decide) (by decide) (by decide) (by decide) (by decide)]
      have u_736_16 : (I_727 mo 16).toInt = (I mo 16).toInt := by rw [pf 16 (by decide) (by decide) (by decide) (by decide) (by decide)]
      have u_736_18 : (I_727 mo 18).toInt = (I mo 18).toInt := by rw [pf 18 (by decide) (by decide) (by decide) (by decide) (by decide)]
      rw [thn_b (by omega)] at er_734
      have hQ : mQ gh I_727 J_729 AI AJ mo b nn nr nt cc (pRf b nn nt nr h) h := by rw [er_734] at hQ; exact hQ
      refine lv_aload_n F.1 F.2.1 dX7_ringTold_11 rfl (lv_at hl 1 rfl) ?_
      have b_737 := mJ hv hm
      unfold mNum1 at b_737
      refine g_calli (g_runV (As := []) (rest := []) (ci := 7) F hl.1 hH hS hz (c_X7_relationg l g gh T b nn nr nt cc (pRf b nn nt nr h) h I_727 R J_729 AI AJ AR mo hv hm hT (by omega) h65 hbM hr7 (by omega) hn9 (by omega) hQ) (cwV 0 F.2.2.2.2.1 (good_up gT_X7_relation) rfl rfl rfl hdX7_relation ⟨Nat.le_of_ble_eq_true rfl, Nat.le_of_ble_eq_true rfl⟩) hm (by decide) rfl rfl rfl (Nat.le_of_ble_eq_true rfl) dX7_ringTold_12 ⟨Nat.zero_le _, Nat.zero_le _⟩) hS (fun v_744 I_738 R_739 J_740 AI_741 AJ_742 AR_743 H locs zv_744 hp_745 hH hS => ?_)
      dsimp only at hp_745
      obtain ⟨r_746, er_746⟩ : ∃ qQ : pR, qQ = thn ((pRf b nn nt nr h), h, 0) (fun t _ => sRl b nn nr nt cc t) := ⟨_, rfl⟩
      rw [← er_746] at hp_745
      obtain ⟨rfl, rfl, rfl, rfl, hv, pfq, q_747, q_748, hQ, q_749, q_750⟩ := hp_745
      have pf := qF_t pf pfq
      have u_751_2 : (I_738 mo 2).toInt = (I mo 2).toInt := by rw [pf 2 (by decide) (by decide) (by decide) (by decide) (by decide)]
      have u_751_5 : (I_738 mo 5).toInt = (I mo 5).toInt := by rw [pf 5 (by decide) (by decide) (by decide) (by decide) (by decide)]
      have u_751_14 : (I_738 mo 14).toInt = (I mo 14).toInt := by rw [pf 14 (by decide) (by decide) (by decide) (by decide) (by decide)]
      have u_751_16 : (I_738 mo 16).toInt = (I mo 16).toInt := by rw [pf 16 (by decide) (by decide) (by decide) (by decide) (by decide)]
      have u_751_18 : (I_738 mo 18).toInt = (I mo 18).toInt := by rw [pf 18 (by decide) (by decide) (by decide) (by decide) (by decide)]
      rw [thn_b (by omega)] at er_746
      have hQ : mQ gh I_738 J_740 AI AJ mo b nn nr nt cc (pRf b nn nt nr h) h := by rw [er_746] at hQ; exact hQ
      replace q_748 := (⟨q_748.1, q_748.2.1⟩ : _ ∧ _)
      obtain ⟨f0, ef0⟩ : ∃ q, q = (I_738 mo 24).toInt := ⟨_, rfl⟩
      have hr2 : Hid (f0 = 0 → v_744 < M ∧ fa0 = 0) := fun h9 => by omega
      refine lv_istore_n (lv' := [(2, .int (iI v_744)), (1, .int (iI v_84)), (0, .ref mo)]) F.1 F.2.1 dX7_ringTold_15 rfl hl (by decide) rfl (fun ls hl => ?_)
      refine lv_aload_n F.1 F.2.1 dX7_ringTold_16 rfl (lv_at hl 2 rfl) ?_
      refine va_ldcS F.1 F.2.1 F.2.2.2.1 (F.2.2.2.2.2.2.1 14 _ rfl).1 dX7_ringTold_17 ?_
      have b_752 := mJ hv hm
      unfold mNum1 at b_752
      refine g_callv (g_runV (As := [.ref (gSK g 14)]) (rest := []) (ci := 7) F hl.1 hH hS hz (c_X7_mustWordf l g gh T 14 _ 12 b nn nr nt cc (pRf b nn nt nr h) h I_738 R J_740 AI AJ AR mo hv hm hT (by omega) (rfl : sTab[14]? = some _) h65 hbM hr7 (by omega) hn9 (by omega) (by decide) (by decide +kernel) hQ) (cwV 1 F.2.2.2.2.1 (good_up gT_X7_mustWord) rfl rfl rfl hdX7_mustWord ⟨Nat.le_of_ble_eq_true rfl, Nat.le_of_ble_eq_true rfl⟩) hm (by decide) rfl rfl rfl (Nat.le_of_ble_eq_true rfl) dX7_ringTold_19 ⟨Nat.zero_le _, Nat.zero_le _⟩) hS (fun I_753 R_754 J_755 AI_756 AJ_757 AR_758 H locs hp_759 hH hS => ?_)
      dsimp only at hp_759
      obtain ⟨r_760, er_760⟩ : ∃ qQ : pR, qQ = thn ((pRf b nn nt nr h), h, 0) (fun t _ => sTw b nn ((12 : Nat) : Int) t) := ⟨_, rfl⟩
      rw [← er_760] at hp_759
      obtain ⟨rfl, rfl, rfl, rfl, hv, pfq, q_761, hQ⟩ := hp_759
      have pf := qF_t pf pfq
      have u_762_2 : (I_753 mo 2).toInt = (I mo 2).toInt := by rw [pf 2 (by decide) (by decide) (by decide) (by decide) (by decide)]
      have u_762_5 : (I_753 mo 5).toInt = (I mo 5).toInt := by rw [pf 5 (by decide) (by decide) (by decide) (by decide) (by decide)]
      have u_762_14 : (I_753 mo 14).toInt = (I mo 14).toInt := by rw [pf 14 (by decide) (by decide) (by decide) (by decide) (by decide)]
      have u_762_16 : (I_753 mo 16).toInt = (I mo 16).toInt := by rw [pf 16 (by decide) (by decide) (by decide) (by decide) (by decide)]
      have u_762_18 : (I_753 mo 18).toInt = (I mo 18).toInt := by rw [pf 18 (by decide) (by decide) (by decide) (by decide) (by decide)]
      rw [thn_b (by omega)] at er_760
      have hQ : mQ gh I_753 J_755 AI AJ mo b nn nr nt cc (pRf b nn nt nr h) h := by rw [er_760] at hQ; exact hQ
      refine lv_aload_n F.1 F.2.1 dX7_ringTold_22 rfl (lv_at hl 2 rfl) ?_
      refine lv_aload_n F.1 F.2.1 dX7_ringTold_23 rfl (lv_at hl 2 rfl) ?_
      refine lv_iload_n F.1 F.2.1 dX7_ringTold_24 rfl (lv_at hl 1 rfl) ?_
      have b_764 := mJ hv hm
      unfold mNum1 at b_764
      refine g_calli (g_runV (As := [.int (iI v_84)]) (rest := [.ref mo]) (ci := 7) F hl.1 hH hS hz (c_X7_columns l g gh T I_753 R J_755 AI AJ AR mo v_84 zv_84 hv hm hT (by omega)) (cwV 1 F.2.2.2.2.1 (good_up gT_X7_columns) rfl rfl rfl hdX7_columns ⟨Nat.le_of_ble_eq_true rfl, Nat.le_of_ble_eq_true rfl⟩) hm (by decide) rfl rfl rfl (Nat.le_of_ble_eq_true rfl) dX7_ringTold_25 ⟨Nat.zero_le _, Nat.zero_le _⟩) hS (fun v_771 I_765 R_766 J_767 AI_768 AJ_769 AR_770 H locs zv_771 hp_772 hH hS => ?_)
      dsimp only at hp_772
      obtain ⟨rfl, rfl, rfl, rfl, rfl, rfl, q_763⟩ := hp_772
      refine g_calli (g_runV (As := [.int (iI v_771)]) (rest := []) (ci := 7) F hl.1 hH hS hz (c_X7_columnf l g gh T b nn nr nt cc (pRf b nn nt nr h) h I_753 R J_755 AI AJ AR mo v_771 zv_771 hv hm hT (by omega) h65 hbM hr7 (by omega) hn9 (by omega) hQ) (cwV 1 F.2.2.2.2.1 (good_up gT_X7_column) rfl rfl rfl hdX7_column ⟨Nat.le_of_ble_eq_true rfl, Nat.le_of_ble_eq_true rfl⟩) hm (by decide) rfl rfl rfl (Nat.le_of_ble_eq_true rfl) dX7_ringTold_28 ⟨Nat.zero_le _, Nat.zero_le _⟩) hS (fun v_779 I_773 R_774 J_775 AI_776 AJ_777 AR_778 H locs zv_779 hp_780 hH hS => ?_)
      dsimp only at hp_780
      obtain ⟨r_781, er_781⟩ : ∃ qQ : pR, qQ = thn ((pRf b nn nt nr h), h, 0) (fun t _ => sCol b nn v_771 t) := ⟨_, rfl⟩
      rw [← er_781] at hp_780
      obtain ⟨rfl, rfl, rfl, rfl, hv, pfq, q_782, q_783, hQ, q_784⟩ := hp_780
      have pf := qF_t pf pfq
      have u_785_2 : (I_773 mo 2).toInt = (I mo 2).toInt := by rw [pf 2 (by decide) (by decide) (by decide) (by decide) (by decide)]
      have u_785_5 : (I_773 mo 5).toInt = (I mo 5).toInt := by rw [pf 5 (by decide) (by decide) (by decide) (by decide) (by decide)]
      have u_785_14 : (I_773 mo 14).toInt = (I mo 14).toInt := by rw [pf 14 (by decide) (by decide) (by decide) (by decide) (by decide)]
      have u_785_16 : (I_773 mo 16).toInt = (I mo 16).toInt := by rw [pf 16 (by decide) (by decide) (by decide) (by decide) (by decide)]
      have u_785_18 : (I_773 mo 18).toInt = (I mo 18).toInt := by rw [pf 18 (by decide) (by decide) (by decide) (by decide) (by decide)]
      rw [thn_b (by omega)] at er_781
      have hQ : mQ gh I_773 J_775 AI AJ mo b nn nr nt cc (pRf b nn nt nr h) h := by rw [er_781] at hQ; exact hQ
      replace q_783 := hid q_783
      obtain ⟨f1, ef1⟩ : ∃ q, q = (I_773 mo 24).toInt := ⟨_, rfl⟩
      have hc1 : Hid (f1 = 0 → 0 ≤ v_779 ∧ v_779 ≤ 3) := fun h9 => by omega
      refine lv_istore_n (lv' := [(3, .int (iI v_779)), (2, .int (iI v_744)), (1, .int (iI v_84)), (0, .ref mo)]) F.1 F.2.1 dX7_ringTold_31 rfl hl (by decide) rfl (fun ls hl => ?_)
      refine lv_aload_n F.1 F.2.1 dX7_ringTold_32 rfl (lv_at hl 3 rfl) ?_
      refine z_bipush F dX7_ringTold_33 (by decide) ?_
      have b_786 := mJ hv hm
      unfold mNum1 at b_786
      refine g_callv (g_runV (As := [.int (iI 61)]) (rest := []) (ci := 7) F hl.1 hH hS hz (c_X7_mustSignf l g gh T b nn nr nt cc (pRf b nn nt nr h) h I_773 R J_775 AI AJ AR mo 61 ⟨by decide, by decide⟩ hv hm hT (by omega) h65 hbM hr7 (by omega) hn9 (by omega) (by omega) hQ) (cwV 1 F.2.2.2.2.1 (good_up gT_X7_mustSign) rfl rfl rfl hdX7_mustSign ⟨Nat.le_of_ble_eq_true rfl, Nat.le_of_ble_eq_true rfl⟩) hm (by decide) rfl rfl rfl (Nat.le_of_ble_eq_true rfl) dX7_ringTold_35 ⟨Nat.zero_le _, Nat.zero_le _⟩) hS (fun I_787 R_788 J_789 AI_790 AJ_791 AR_792 H locs hp_793 hH hS => ?_)
      dsimp only at hp_793
      obtain ⟨r_794, er_794⟩ : ∃ qQ : pR, qQ = thn ((pRf b nn nt nr h), h, 0) (fun t _ => sTk b nn 61 t) := ⟨_, rfl⟩
      rw [← er_794] at hp_793
      obtain ⟨rfl, rfl, rfl, rfl, hv, pfq, q_795, q_796, hQ⟩ := hp_793
      have pf := qF_t pf pfq
      have u_797_2 : (I_787 mo 2).toInt = (I mo 2).toInt := by rw [pf 2 (by decide) (by decide) (by decide) (by decide) (by decide)]
      have u_797_5 : (I_787 mo 5).toInt = (I mo 5).toInt := by rw [pf 5 (by decide) (by decide) (by decide) (by decide) (by decide)]
      have u_797_14 : (I_787 mo 14).toInt = (I mo 14).toInt := by rw [pf 14 (by decide) (by decide) (by decide) (by decide) (by decide)]
      have u_797_16 : (I_787 mo 16).toInt = (I mo 16).toInt := by rw [pf 16 (by decide) (by decide) (by decide) (by decide) (by decide)]
      have u_797_18 : (I_787 mo 18).toInt = (I mo 18).toInt := by rw [pf 18 (by decide) (by decide) (by decide) (by decide) (by decide)]
      rw [thn_b (by omega)] at er_794
      have hQ : mQ gh I_787 J_789 AI AJ mo b nn nr nt cc (pRf b nn nt nr h) h := by rw [er_794] at hQ; exact hQ
      replace q_796 := hid q_796
      refine lv_aload_n F.1 F.2.1 dX7_ringTold_38 rfl (lv_at hl 3 rfl) ?_
      refine lv_aload_n F.1 F.2.1 dX7_ringTold_39 rfl (lv_at hl 3 rfl) ?_
      refine lv_iload_n F.1 F.2.1 dX7_ringTold_40 rfl (lv_at hl 1 rfl) ?_
      have b_799 := mJ hv hm
      unfold mNum1 at b_799
      refine g_calli (g_runV (As := [.int (iI v_744)]) (rest := [.ref mo]) (ci := 7) F hl.1 hH hS hz (c_X7_columns l g gh T I_787 R J_789 AI AJ AR mo v_744 zv_744 hv hm hT (by omega)) (cwV 1 F.2.2.2.2.1 (good_up gT_X7_columns) rfl rfl rfl hdX7_columns ⟨Nat.le_of_ble_eq_true rfl, Nat.le_of_ble_eq_true rfl⟩) hm (by decide) rfl rfl rfl (Nat.le_of_ble_eq_true rfl) dX7_ringTold_41 ⟨Nat.zero_le _, Nat.zero_le _⟩) hS (fun v_806 I_800 R_801 J_802 AI_803 AJ_804 AR_805 H locs zv_806 hp_807 hH hS => ?_)
      dsimp only at hp_807
      obtain ⟨rfl, rfl, rfl, rfl, rfl, rfl, q_798⟩ := hp_807
      refine g_calli (g_runV (As := [.int (iI v_806)]) (rest := []) (ci := 7) F hl.1 hH hS hz (c_X7_columnf l g gh T b nn nr nt cc (pRf b nn nt nr h) h I_787 R J_789 AI AJ AR mo v_806 zv_806 hv hm hT (by omega) h65 hbM hr7 (by omega) hn9 (by omega) hQ) (cwV 1 F.2.2.2.2.1 (good_up gT_X7_column) rfl rfl rfl hdX7_column ⟨Nat.le_of_ble_eq_true rfl, Nat.le_of_ble_eq_true rfl⟩) hm (by decide) rfl rfl rfl (Nat.le_of_ble_eq_true rfl) dX7_ringTold_44 ⟨Nat.zero_le _, Nat.zero_le _⟩) hS (fun v_814 I_808 R_809 J_810 AI_811 AJ_812 AR_813 H locs zv_814 hp_815 hH hS => ?_)
      dsimp only at hp_815
      obtain ⟨r_816, er_816⟩ : ∃ qQ : pR, qQ = thn ((pRf b nn nt nr h), h, 0) (fun t _ => sCol b nn v_806 t) := ⟨_, rfl⟩
      rw [← er_816] at hp_815
      obtain ⟨rfl, rfl, rfl, rfl, hv, pfq, q_817, q_818, hQ, q_819⟩ := hp_815
      have pf := qF_t pf pfq
      have u_820_2 : (I_808 mo 2).toInt = (I mo 2).toInt := by rw [pf 2 (by decide) (by decide) (by decide) (by decide) (by decide)]
      have u_820_5 : (I_808 mo 5).toInt = (I mo 5).toInt := by rw [pf 5 (by decide) (by decide) (by decide) (by decide) (by decide)]
      have u_820_14 : (I_808 mo 14).toInt = (I mo 14).toInt := by rw [pf 14 (by decide) (by decide) (by decide) (by decide) (by decide)]
      have u_820_16 : (I_808 mo 16).toInt = (I mo 16).toInt := by rw [pf 16 (by decide) (by decide) (by decide) (by decide) (by decide)]
      have u_820_18 : (I_808 mo 18).toInt = (I mo 18).toInt := by rw [pf 18 (by decide) (by decide) (by decide) (by decide) (by decide)]
      rw [thn_b (by omega)] at er_816
      have hQ : mQ gh I_808 J_810 AI AJ mo b nn nr nt cc (pRf b nn nt nr h) h := by rw [er_816] at hQ; exact hQ
      replace q_818 := hid q_818
      obtain ⟨f2, ef2⟩ : ∃ q, q = (I_808 mo 24).toInt := ⟨_, rfl⟩
      have hd1 : Hid (f2 = 0 → 0 ≤ v_814 ∧ v_814 ≤ 3) := fun h9 => by omega
      refine lv_istore (lv' := [(4, .int (iI v_814)), (3, .int (iI v_779)), (2, .int (iI v_744)), (1, .int (iI v_84)), (0, .ref mo)]) F.1 F.2.1 dX7_ringTold_47 hl (by decide) rfl (fun ls hl => ?_)
      refine lv_aload_n F.1 F.2.1 dX7_ringTold_49 rfl (lv_at hl 4 rfl) ?_
      refine va_ldcS F.1 F.2.1 F.2.2.2.1 (F.2.2.2.2.2.2.1 26 _ rfl).1 dX7_ringTold_50 ?_
      have b_821 := mJ hv hm
      unfold mNum1 at b_821
      refine g_callv (g_runV (As := [.ref (gSK g 26)]) (rest := []) (ci := 7) F hl.1 hH hS hz (c_X7_mustWordf l g gh T 26 _ 15 b nn nr nt cc (pRf b nn nt nr h) h I_808 R J_810 AI AJ AR mo hv hm hT (by omega) (rfl : sTab[26]? = some _) h65 hbM hr7 (by omega) hn9 (by omega) (by decide) (by decide +kernel) hQ) (cwV 1 F.2.2.2.2.1 (good_up gT_X7_mustWord) rfl rfl rfl hdX7_mustWord ⟨Nat.le_of_ble_eq_true rfl, Nat.le_of_ble_eq_true rfl⟩) hm (by decide) rfl rfl rfl (Nat.le_of_ble_eq_true rfl) dX7_ringTold_52 ⟨Nat.zero_le _, Nat.zero_le _⟩) hS (fun I_822 R_823 J_824 AI_825 AJ_826 AR_827 H locs hp_828 hH hS => ?_)
      dsimp only at hp_828
      obtain ⟨r_829, er_829⟩ : ∃ qQ : pR, qQ = thn ((pRf b nn nt nr h), h, 0) (fun t _ => sTw b nn ((15 : Nat) : Int) t) := ⟨_, rfl⟩
      rw [← er_829] at hp_828
      obtain ⟨rfl, rfl, rfl, rfl, hv, pfq, q_830, hQ⟩ := hp_828
      have pf := qF_t pf pfq
      have u_831_2 : (I_822 mo 2).toInt = (I mo 2).toInt := by rw [pf 2 (by decide) (by decide) (by decide) (by decide) (by decide)]
      have u_831_5 : (I_822 mo 5).toInt = (I mo 5).toInt := by rw [pf 5 (by decide) (by decide) (by decide) (by decide) (by decide)]
      have u_831_14 : (I_822 mo 14).toInt = (I mo 14).toInt := by rw [pf 14 (by decide) (by decide) (by decide) (by decide) (by decide)]
      have u_831_16 : (I_822 mo 16).toInt = (I mo 16).toInt := by rw [pf 16 (by decide) (by decide) (by decide) (by decide) (by decide)]
      have u_831_18 : (I_822 mo 18).toInt = (I mo 18).toInt := by rw [pf 18 (by decide) (by decide) (by decide) (by decide) (by decide)]
      rw [thn_b (by omega)] at er_829
      have hQ : mQ gh I_822 J_824 AI AJ mo b nn nr nt cc (pRf b nn nt nr h) h := by rw [er_829] at hQ; exact hQ
      have hS9 : sRng b nn nr nt cc h = (pRf b nn nt nr h, h, 0) := by unfold sRng; exact thn_x sr_86.symm (by omega)
      have hfin : thn (f, h, 0) (fun t _ => sRngM b nn nr nt cc t) = (pRf b nn nt nr h, h, 0) := (thn_k q0).trans (by show sRngM b nn nr nt cc h = _; unfold sRngM; exact thn_x hS9.symm (by (try dsimp only); omega))
      exact cut_55_3 v_84 v_744 v_779 v_814 I_822 J_824 AI H locs ls zv_84 zv_744 zv_779 zv_814 hv hT pf ⟨_, _, by omega, hQ, hfin⟩ (by omega) (by omega) (fun _ _ => rfl) hH hS (lv_sub hl [4, 3, 2, 1, 0] rfl)
  · have hf1 := mQ_f hQ q0
    have cut_55_834 : ∀ (l1 l2 l3 l4 : Int) (I_832 : gI) (J_833 : gJ) (AI_834 : gI) (H : Heap) (locs : List Loc) (ls : Array Slot), zr l1 → zr l2 → zr l3 → zr l4 → (mInv g gh R I_832 AI_834) → (AI_834 (gh 50 0) = T) → (qF mo I I_832) → (∃ (f9 : Int) (h9 : Nat), f9 ≠ 0 ∧ mQ gh I_832 J_833 AI_834 AJ mo b nn nr nt cc f9 h9 ∧ thn (f, h, 0) (fun t _ => sRngM b nn nr nt cc t) = (f9, h9, 0)) → ((I_832 mo 20).toInt ≤ 936 ∧ (I mo 24).toInt ≤ (I_832 mo 24).toInt) → (0 ≤ l1 ∧ l1 ≤ 15 ∧ 0 ≤ l2 ∧ l2 ≤ 15) → (∀ b, b ≠ gh 53 0 → AI_834 b = AI b) → gH g I_832 R J_833 AI_834 AJ AR H → va_S (gA g) s.heap H locs → lv_has ls 7 [(0, .ref mo), (1, .int (iI l1)), (2, .int (iI l2)), (3, .int (iI l3)), (4, .int (iI l4))] → W p l e rmX7_ringToldg s m ([.ref mo] : List Value).toArray below meth c H locs 0 0 (MQ below (gQv g (fun w : gS => R = w.2.1 ∧ AJ = w.2.2.2.2.1 ∧ AR = w.2.2.2.2.2 ∧ (mInv g gh R (w.1) (w.2.2.2.1)) ∧ ((w.2.2.2.1) (gh 50 0) = T) ∧ (qF mo I (w.1)) ∧ (((w.1) mo 20).toInt ≤ 936 ∧ (I mo 24).toInt ≤ ((w.1) mo 24).toInt) ∧ (((w.1) mo 24).toInt = 0 → ((w.1) mo 21).toInt = 4 → ((w.1) mo 23).toInt = 59 → rowOK ((w.2.2.2.1) (gh 53 0)) M) ∧ (((w.1) mo 24).toInt = 0 → tI ((w.2.2.2.1) (gh 53 0)) (40 * M) = 8) ∧ (mQ gh (w.1) (w.2.2.1) (w.2.2.2.1) AJ mo b nn nr nt cc (thn (f, h, 0) (fun t _ => sRngM b nn nr nt cc t)).1 (thn (f, h, 0) (fun t _ => sRngM b nn nr nt cc t)).2.1) ∧ (pIc (thn (f, h, 0) (fun t _ => sRngM b nn nr nt cc t)).1 (pK b nn (thn (f, h, 0) (fun t _ => sRngM b nn nr nt cc t)).2.1) (tI ((w.2.2.2.1) (gh 53 0)) (40 * (nr : Int) + 1)) (thn (f, h, 0) (fun t _ => sRngM b nn nr nt cc t)).2.2) ∧ (zIf (thn (f, h, 0) (fun t _ => sRngM b nn nr nt cc t)).1 (frM M (AI (gh 53 0)) ((w.2.2.2.1) (gh 53 0)))) ∧ (zIf (thn (f, h, 0) (fun t _ => sRngM b nn nr nt cc t)).1 (mRng b nn nr nt h ((w.2.2.2.1) (gh 53 0)) M)) ∧ (∀ b, b ≠ gh 53 0 → (w.2.2.2.1) b = AI b))) ([.ref mo] : List Value).toArray s 0 0 (gA g)) (F0 m 55 ls []) := by
      intro l1 l2 l3 l4 I_832 J_833 AI_834 H locs ls zl1 zl2 zl3 zl4 hv hT pf hBad hx9 hl12 fA9 hH hS hl
      (try clear u_91_18); (try clear u_91_16); (try clear u_91_14); (try clear u_91_5); (try clear u_91_2); (try clear b_77)
      have uc_2 : (I_832 mo 2).toInt = (I mo 2).toInt := by rw [pf 2 (by decide) (by decide) (by decide) (by decide) (by decide)]
      have uc_5 : (I_832 mo 5).toInt = (I mo 5).toInt := by rw [pf 5 (by decide) (by decide) (by decide) (by decide) (by decide)]
      have uc_14 : (I_832 mo 14).toInt = (I mo 14).toInt := by rw [pf 14 (by decide) (by decide) (by decide) (by decide) (by decide)]
      have uc_16 : (I_832 mo 16).toInt = (I mo 16).toInt := by rw [pf 16 (by decide) (by decide) (by decide) (by decide) (by decide)]
      have uc_18 : (I_832 mo 18).toInt = (I mo 18).toInt := by rw [pf 18 (by decide) (by decide) (by decide) (by decide) (by decide)]
      obtain ⟨fb9, hb9, q9, hQ, hfin⟩ := hBad
      have q9f := mQ_f hQ q9
      have q9p := mQ_p hQ
      refine lv_aload_n F.1 F.2.1 dX7_ringTold_55 rfl (lv_at hl 0 rfl) ?_
      refine z_iconst F dX7_ringTold_56 ?_
      refine lv_iload_n F.1 F.2.1 dX7_ringTold_57 rfl (lv_at hl 3 rfl) ?_
      refine lv_iload F.1 F.2.1 dX7_ringTold_58 (lv_at hl 4 rfl) ?_
      refine z_iconst F dX7_ringTold_60 ?_
      refine z_iconst F dX7_ringTold_61 ?_
      have b_836 := mJ hv hm
      unfold mNum1 at b_836
      refine g_callv (g_runV (As := [.int (iI 0), .int (iI l3), .int (iI l4), .int (iI 0), .int (iI 0)]) (rest := []) (ci := 7) F hl.1 hH hS hz (c_X7_setsPartg l g gh T M I_832 R J_833 AI_834 AJ AR mo 0 l3 l4 0 0 ⟨by decide, by decide⟩ zl3 zl4 ⟨by decide, by decide⟩ ⟨by decide, by decide⟩ hv hm hT (by omega) (by omega) (by omega)) (cwV 5 F.2.2.2.2.1 (good_up gT_X7_setsPart) rfl rfl rfl hdX7_setsPart ⟨Nat.le_of_ble_eq_true rfl, Nat.le_of_ble_eq_true rfl⟩) hm (by decide) rfl rfl rfl (Nat.le_of_ble_eq_true rfl) dX7_ringTold_62 ⟨Nat.zero_le _, Nat.zero_le _⟩) hS (fun I_837 R_838 J_839 AI_840 AJ_841 AR_842 H locs hp_843 hH hS => ?_)
      dsimp only at hp_843
      obtain ⟨rfl, rfl, rfl, rfl, rfl, hv, hT, hsp, q_844⟩ := hp_843
      replace hsp := hid hsp
      have hQ : mQ gh I_832 J_833 AI_840 AJ mo b nn nr nt cc fb9 hb9 := mQ_bad hQ (by omega) rfl
      refine lv_aload_n F.1 F.2.1 dX7_ringTold_65 rfl (lv_at hl 0 rfl) ?_
      refine lv_iload_n F.1 F.2.1 dX7_ringTold_66 rfl (lv_at hl 1 rfl) ?_
      refine g_calli (g_runV (As := [.int (iI l1)]) (rest := []) (ci := 7) F hl.1 hH hS hz (c_X7_columns l g gh T I_832 R J_833 AI_840 AJ AR mo l1 zl1 hv hm hT (by omega)) (cwV 1 F.2.2.2.2.1 (good_up gT_X7_columns) rfl rfl rfl hdX7_columns ⟨Nat.le_of_ble_eq_true rfl, Nat.le_of_ble_eq_true rfl⟩) hm (by decide) rfl rfl rfl (Nat.le_of_ble_eq_true rfl) dX7_ringTold_67 ⟨Nat.zero_le _, Nat.zero_le _⟩) hS (fun v_852 I_846 R_847 J_848 AI_849 AJ_850 AR_851 H locs zv_852 hp_853 hH hS => ?_)
      dsimp only at hp_853
      obtain ⟨rfl, rfl, rfl, rfl, rfl, rfl, q_845⟩ := hp_853
      refine lv_aload_n F.1 F.2.1 dX7_ringTold_70 rfl (lv_at hl 0 rfl) ?_
      refine lv_iload_n F.1 F.2.1 dX7_ringTold_71 rfl (lv_at hl 2 rfl) ?_
      refine g_calli (g_runV (As := [.int (iI l2)]) (rest := [.int (iI v_852)]) (ci := 7) F hl.1 hH hS hz (c_X7_columns l g gh T I_832 R J_833 AI_840 AJ AR mo l2 zl2 hv hm hT (by omega)) (cwV 1 F.2.2.2.2.1 (good_up gT_X7_columns) rfl rfl rfl hdX7_columns ⟨Nat.le_of_ble_eq_true rfl, Nat.le_of_ble_eq_true rfl⟩) hm (by decide) rfl rfl rfl (Nat.le_of_ble_eq_true rfl) dX7_ringTold_72 ⟨Nat.zero_le _, Nat.zero_le _⟩) hS (fun v_861 I_855 R_856 J_857 AI_858 AJ_859 AR_860 H locs zv_861 hp_862 hH hS => ?_)
      dsimp only at hp_862
      obtain ⟨rfl, rfl, rfl, rfl, rfl, rfl, q_854⟩ := hp_862
      refine z_iadd F dX7_ringTold_75 ?_
      refine z_norm (fun v_863 zv_863 ev_863 => ?_)
      refine lv_istore (lv' := [(5, .int (iI v_863)), (0, .ref mo), (1, .int (iI l1)), (2, .int (iI l2)), (3, .int (iI l3)), (4, .int (iI l4))]) F.1 F.2.1 dX7_ringTold_76 hl (by decide) rfl (fun ls hl => ?_)
      refine lv_aload_n F.1 F.2.1 dX7_ringTold_78 rfl (lv_at hl 1 rfl) ?_
      refine lv_iload F.1 F.2.1 dX7_ringTold_79 (lv_at hl 0 rfl) ?_
      refine z_iconst F dX7_ringTold_81 ?_
      refine g_calli (g_runV (As := [.int (iI v_863), .int (iI 1)]) (rest := []) (ci := 7) F hl.1 hH hS hz (c_X7_termsToldg l g gh T M b nn nr nt cc fb9 hb9 I_832 R J_833 AI_840 AJ AR mo v_863 1 zv_863 ⟨by decide, by decide⟩ hv hm hT (by omega) (by omega) (by omega) (by omega) h65 hbM hr7 (by omega) hn9 (by omega) hQ) (cwV 2 F.2.2.2.2.1 (good_up gT_X7_termsTold) rfl rfl rfl hdX7_termsTold ⟨Nat.le_of_ble_eq_true rfl, Nat.le_of_ble_eq_true rfl⟩) hm (by decide) rfl rfl rfl (Nat.le_of_ble_eq_true rfl) dX7_ringTold_82 ⟨Nat.zero_le _, Nat.zero_le _⟩) hS (fun v_870 I_864 R_865 J_866 AI_867 AJ_868 AR_869 H locs zv_870 hp_871 hH hS => ?_)
      dsimp only at hp_871
      obtain ⟨r_872, er_872⟩ : ∃ qQ : pR, qQ = thn (fb9, hb9, 0) (fun t _ => sTerms b nn v_863 5 0 t) := ⟨_, rfl⟩
      rw [← er_872] at hp_871
      obtain ⟨rfl, rfl, rfl, hv, hT, pfq, q_873, q_874, htt, hQ, q_875, tmq, q_876⟩ := hp_871
      have pf := qF_t pf pfq
      have u_877_2 : (I_864 mo 2).toInt = (I mo 2).toInt := by rw [pf 2 (by decide) (by decide) (by decide) (by decide) (by decide)]
      have u_877_5 : (I_864 mo 5).toInt = (I mo 5).toInt := by rw [pf 5 (by decide) (by decide) (by decide) (by decide) (by decide)]
      have u_877_14 : (I_864 mo 14).toInt = (I mo 14).toInt := by rw [pf 14 (by decide) (by decide) (by decide) (by decide) (by decide)]
      have u_877_16 : (I_864 mo 16).toInt = (I mo 16).toInt := by rw [pf 16 (by decide) (by decide) (by decide) (by decide) (by decide)]
      have u_877_18 : (I_864 mo 18).toInt = (I mo 18).toInt := by rw [pf 18 (by decide) (by decide) (by decide) (by decide) (by decide)]
      rw [thn_b (by omega)] at er_872
      have hQ : mQ gh I_864 J_866 AI_867 AJ mo b nn nr nt cc fb9 hb9 := by rw [er_872] at hQ; exact hQ
      replace htt := hid htt
      refine lv_istore (lv' := [(6, .int (iI v_870)), (5, .int (iI v_863)), (0, .ref mo), (1, .int (iI l1)), (2, .int (iI l2)), (3, .int (iI l3)), (4, .int (iI l4))]) F.1 F.2.1 dX7_ringTold_85 hl (by decide) rfl (fun ls hl => ?_)
      obtain ⟨f9, ef9⟩ : ∃ q, q = (I_864 mo 24).toInt := ⟨_, rfl⟩
      refine lv_aload_n F.1 F.2.1 dX7_ringTold_87 rfl (lv_at hl 2 rfl) ?_
      refine z_bipush F dX7_ringTold_88 (by decide) ?_
      have b_878 := mJ hv hm
      unfold mNum1 at b_878
      refine g_calli (g_runV (As := [.int (iI 59)]) (rest := []) (ci := 7) F hl.1 hH hS hz (c_X7_isSignf l g gh T b nn nr nt cc fb9 hb9 I_864 R J_866 AI_867 AJ AR mo 59 ⟨by decide, by decide⟩ hv hm hT h65 hbM hr7 (by omega) hn9 (by omega) (by omega) hQ) (cwV 1 F.2.2.2.2.1 (good_up gT_X7_isSign) rfl rfl rfl hdX7_isSign ⟨Nat.le_of_ble_eq_true rfl, Nat.le_of_ble_eq_true rfl⟩) hm (by decide) rfl rfl rfl (Nat.le_of_ble_eq_true rfl) dX7_ringTold_90 ⟨Nat.zero_le _, Nat.zero_le _⟩) hS (fun v_885 I_879 R_880 J_881 AI_882 AJ_883 AR_884 H locs zv_885 hp_886 hH hS => ?_)
      dsimp only at hp_886
      obtain ⟨rfl, rfl, rfl, rfl, rfl, rfl, q_887, q_888⟩ := hp_886
      replace q_887 := q_887.1
      refine z_if_eq (tgt := 117) F dX7_ringTold_93 (by decide) zv_885 (fun c_889 => ?_) (fun c_889 => ?_)
      · have t_890 := tIz_0 q_888 (by omega)
        refine lv_aload_n F.1 F.2.1 dX7_ringTold_117 rfl (lv_at hl 2 rfl) ?_
        refine z_bipush F dX7_ringTold_118 (by decide) ?_
        refine lv_aload_n F.1 F.2.1 dX7_ringTold_120 rfl (lv_at hl 2 rfl) ?_
        refine lv_iload_n F.1 F.2.1 dX7_ringTold_121 rfl (lv_at hl 3 rfl) ?_
        refine g_calli (g_runV (As := [.int (iI l1)]) (rest := [.int (iI 8), .ref mo]) (ci := 7) F hl.1 hH hS hz (c_X7_columns l g gh T I_864 R J_866 AI_867 AJ AR mo l1 zl1 hv hm hT (by omega)) (cwV 1 F.2.2.2.2.1 (good_up gT_X7_columns) rfl rfl rfl hdX7_columns ⟨Nat.le_of_ble_eq_true rfl, Nat.le_of_ble_eq_true rfl⟩) hm (by decide) rfl rfl rfl (Nat.le_of_ble_eq_true rfl) dX7_ringTold_122 ⟨Nat.zero_le _, Nat.zero_le _⟩) hS (fun v_898 I_892 R_893 J_894 AI_895 AJ_896 AR_897 H locs zv_898 hp_899 hH hS => ?_)
        dsimp only at hp_899
        obtain ⟨rfl, rfl, rfl, rfl, rfl, rfl, q_891⟩ := hp_899
        have hcol : Hid ((I_864 mo 24).toInt = 0 → 1 ≤ v_898 ∧ v_898 ≤ 4) := fun h => by have q9 := mCol hv hm (z := l1) (by omega) (by omega); omega
        refine lv_iload_n F.1 F.2.1 dX7_ringTold_125 rfl (lv_at hl 3 rfl) ?_
        refine lv_iload_n F.1 F.2.1 dX7_ringTold_126 rfl (lv_at hl 4 rfl) ?_
        refine lv_iload F.1 F.2.1 dX7_ringTold_127 (lv_at hl 0 rfl) ?_
        refine g_callv (g_runV (As := [.int (iI 8), .int (iI v_898), .int (iI l1), .int (iI l2), .int (iI v_870)]) (rest := []) (ci := 7) F hl.1 hH hS hz (c_X7_headerg l g gh T M I_864 R J_866 AI_867 AJ AR mo 8 v_898 l1 l2 v_870 ⟨by decide, by decide⟩ zv_898 zl1 zl2 zv_870 hv hm hT (by omega) (by omega)) (cwV 5 F.2.2.2.2.1 (good_up gT_X7_header) rfl rfl rfl hdX7_header ⟨Nat.le_of_ble_eq_true rfl, Nat.le_of_ble_eq_true rfl⟩) hm (by decide) rfl rfl rfl (Nat.le_of_ble_eq_true rfl) dX7_ringTold_129 ⟨Nat.zero_le _, Nat.zero_le _⟩) hS (fun I_900 R_901 J_902 AI_903 AJ_904 AR_905 H locs hp_906 hH hS => ?_)
        dsimp only at hp_906
        obtain ⟨rfl, rfl, rfl, rfl, rfl, hv, hT, hhd, q_907⟩ := hp_906
        replace hhd := hid hhd
        have hQ : mQ gh I_864 J_866 AI_903 AJ mo b nn nr nt cc fb9 hb9 := mQ_bad hQ (by omega) rfl
        exact g_vret F hr hlk hH hS hz ⟨rfl, rfl, rfl, hv, hT, pf, by first | (dsimp only; omega) | omega | rfl, by (try dsimp only); exact (fun hf => absurd hf (by omega)), by (try dsimp only); exact (fun hf => absurd hf (by omega)), by (try dsimp only); rw [hfin]; exact hQ, by (try dsimp only); rw [hfin]; exact pIc_n (by omega), by (try dsimp only); rw [hfin]; exact zIf_n (by omega), by (try dsimp only); rw [hfin]; exact zIf_n (by omega), fun b hb => (((q_907 b hb).trans (q_876 b hb)).trans (q_844 b hb)).trans (fA9 b hb)⟩ dX7_ringTold_132
      · exact absurd (tIz_1 q_888 (by omega)).1 (by omega)
    refine lv_aload_n F.1 F.2.1 dX7_ringTold_0 rfl (lv_at hl 0 rfl) ?_
    have b_908 := mJ hv hm
    unfold mNum1 at b_908
    refine g_calli (g_runV (As := []) (rest := []) (ci := 7) F hl.1 hH hS hz (c_X7_relationg l g gh T b nn nr nt cc f h I R J AI AJ AR mo hv hm hT (by omega) h65 hbM hr7 (by omega) hn9 (by omega) hQ) (cwV 0 F.2.2.2.2.1 (good_up gT_X7_relation) rfl rfl rfl hdX7_relation ⟨Nat.le_of_ble_eq_true rfl, Nat.le_of_ble_eq_true rfl⟩) hm (by decide) rfl rfl rfl (Nat.le_of_ble_eq_true rfl) dX7_ringTold_1 ⟨Nat.zero_le _, Nat.zero_le _⟩) hS (fun v_915 I_909 R_910 J_911 AI_912 AJ_913 AR_914 H locs zv_915 hp_916 hH hS => ?_)
    dsimp only at hp_916
    obtain ⟨r_917, er_917⟩ : ∃ qQ : pR, qQ = thn (f, h, 0) (fun t _ => sRl b nn nr nt cc t) := ⟨_, rfl⟩
    rw [← er_917] at hp_916
    obtain ⟨rfl, rfl, rfl, rfl, hv, pfq, q_918, q_919, hQ, q_920, q_921⟩ := hp_916
    have pf := qF_t pf pfq
    have u_922_2 : (I_909 mo 2).toInt = (I mo 2).toInt := by rw [pf 2 (by decide) (by decide) (by decide) (by decide) (by decide)]
    have u_922_5 : (I_909 mo 5).toInt = (I mo 5).toInt := by rw [pf 5 (by decide) (by decide) (by decide) (by decide) (by decide)]
    have u_922_14 : (I_909 mo 14).toInt = (I mo 14).toInt := by rw [pf 14 (by decide) (by decide) (by decide) (by decide) (by decide)]
    have u_922_16 : (I_909 mo 16).toInt = (I mo 16).toInt := by rw [pf 16 (by decide) (by decide) (by decide) (by decide) (by decide)]
    have u_922_18 : (I_909 mo 18).toInt = (I mo 18).toInt := by rw [pf 18 (by decide) (by decide) (by decide) (by decide) (by decide)]
    rw [thn_b (by omega)] at er_917
    have hQ : mQ gh I_909 J_911 AI AJ mo b nn nr nt cc f h := by rw [er_917] at hQ; exact hQ
    replace q_919 := (⟨q_919.1, q_919.2.1⟩ : _ ∧ _)
    obtain ⟨fa0, efa0⟩ : ∃ q, q = (I_909 mo 24).toInt := ⟨_, rfl⟩
    have hra : Hid (fa0 = 0 → v_915 < M) := fun h9 => by omega
    refine lv_istore_n (lv' := [(1, .int (iI v_915)), (0, .ref mo)]) F.1 F.2.1 dX7_ringTold_4 rfl hl (by decide) rfl (fun ls hl => ?_)
    refine lv_aload_n F.1 F.2.1 dX7_ringTold_5 rfl (lv_at hl 1 rfl) ?_
    refine va_ldcS F.1 F.2.1 F.2.2.2.1 (F.2.2.2.2.2.2.1 25 _ rfl).1 dX7_ringTold_6 ?_
    have b_923 := mJ hv hm
    unfold mNum1 at b_923
    refine g_callv (g_runV (As := [.ref (gSK g 25)]) (rest := []) (ci := 7) F hl.1 hH hS hz (c_X7_mustWordf l g gh T 25 _ 14 b nn nr nt cc f h I_909 R J_911 AI AJ AR mo hv hm hT (by omega) (rfl : sTab[25]? = some _) h65 hbM hr7 (by omega) hn9 (by omega) (by decide) (by decide +kernel) hQ) (cwV 1 F.2.2.2.2.1 (good_up gT_X7_mustWord) rfl rfl rfl hdX7_mustWord ⟨Nat.le_of_ble_eq_true rfl, Nat.le_of_ble_eq_true rfl⟩) hm (by decide) rfl rfl rfl (Nat.le_of_ble_eq_true rfl) dX7_ringTold_8 ⟨Nat.zero_le _, Nat.zero_le _⟩) hS (fun I_924 R_925 J_926 AI_927 AJ_928 AR_929 H locs hp_930 hH hS => ?_)
    dsimp only at hp_930
    obtain ⟨r_931, er_931⟩ : ∃ qQ : pR, qQ = thn (f, h, 0) (fun t _ => sTw b nn ((14 : Nat) : Int) t) := ⟨_, rfl⟩
    rw [← er_931] at hp_930
    obtain ⟨rfl, rfl, rfl, rfl, hv, pfq, q_932, hQ⟩ := hp_930
    have pf := qF_t pf pfq
    have u_933_2 : (I_924 mo 2).toInt = (I mo 2).toInt := by rw [pf 2 (by decide) (by decide) (by decide) (by decide) (by decide)]
    have u_933_5 : (I_924 mo 5).toInt = (I mo 5).toInt := by rw [pf 5 (by decide) (by decide) (by decide) (by decide) (by decide)]
    have u_933_14 : (I_924 mo 14).toInt = (I mo 14).toInt := by rw [pf 14 (by decide) (by decide) (by decide) (by decide) (by decide)]
    have u_933_16 : (I_924 mo 16).toInt = (I mo 16).toInt := by rw [pf 16 (by decide) (by decide) (by decide) (by decide) (by decide)]
    have u_933_18 : (I_924 mo 18).toInt = (I mo 18).toInt := by rw [pf 18 (by decide) (by decide) (by decide) (by decide) (by decide)]
    rw [thn_b (by omega)] at er_931
    have hQ : mQ gh I_924 J_926 AI AJ mo b nn nr nt cc f h := by rw [er_931] at hQ; exact hQ
    refine lv_aload_n F.1 F.2.1 dX7_ringTold_11 rfl (lv_at hl 1 rfl) ?_
    have b_934 := mJ hv hm
    unfold mNum1 at b_934
    refine g_calli (g_runV (As := []) (rest := []) (ci := 7) F hl.1 hH hS hz (c_X7_relationg l g gh T b nn nr nt cc f h I_924 R J_926 AI AJ AR mo hv hm hT (by omega) h65 hbM hr7 (by omega) hn9 (by omega) hQ) (cwV 0 F.2.2.2.2.1 (good_up gT_X7_relation) rfl rfl rfl hdX7_relation ⟨Nat.le_of_ble_eq_true rfl, Nat.le_of_ble_eq_true rfl⟩) hm (by decide) rfl rfl rfl (Nat.le_of_ble_eq_true rfl) dX7_ringTold_12 ⟨Nat.zero_le _, Nat.zero_le _⟩) hS (fun v_941 I_935 R_936 J_937 AI_938 AJ_939 AR_940 H locs zv_941 hp_942 hH hS => ?_)
    dsimp only at hp_942
    obtain ⟨r_943, er_943⟩ : ∃ qQ : pR, qQ = thn (f, h, 0) (fun t _ => sRl b nn nr nt cc t) := ⟨_, rfl⟩
    rw [← er_943] at hp_942
    obtain ⟨rfl, rfl, rfl, rfl, hv, pfq, q_944, q_945, hQ, q_946, q_947⟩ := hp_942
    have pf := qF_t pf pfq
    have u_948_2 : (I_935 mo 2).toInt = (I mo 2).toInt := by rw [pf 2 (by decide) (by decide) (by decide) (by decide) (by decide)]
    have u_948_5 : (I_935 mo 5).toInt = (I mo 5).toInt := by rw [pf 5 (by decide) (by decide) (by decide) (by decide) (by decide)]
    have u_948_14 : (I_935 mo 14).toInt = (I mo 14).toInt := by rw [pf 14 (by decide) (by decide) (by decide) (by decide) (by decide)]
    have u_948_16 : (I_935 mo 16).toInt = (I mo 16).toInt := by rw [pf 16 (by decide) (by decide) (by decide) (by decide) (by decide)]
    have u_948_18 : (I_935 mo 18).toInt = (I mo 18).toInt := by rw [pf 18 (by decide) (by decide) (by decide) (by decide) (by decide)]
    rw [thn_b (by omega)] at er_943
    have hQ : mQ gh I_935 J_937 AI AJ mo b nn nr nt cc f h := by rw [er_943] at hQ; exact hQ
    replace q_945 := (⟨q_945.1, q_945.2.1⟩ : _ ∧ _)
    obtain ⟨f0, ef0⟩ : ∃ q, q = (I_935 mo 24).toInt := ⟨_, rfl⟩
    have hr2 : Hid (f0 = 0 → v_941 < M ∧ fa0 = 0) := fun h9 => by omega
    refine lv_istore_n (lv' := [(2, .int (iI v_941)), (1, .int (iI v_915)), (0, .ref mo)]) F.1 F.2.1 dX7_ringTold_15 rfl hl (by decide) rfl (fun ls hl => ?_)
    refine lv_aload_n F.1 F.2.1 dX7_ringTold_16 rfl (lv_at hl 2 rfl) ?_
    refine va_ldcS F.1 F.2.1 F.2.2.2.1 (F.2.2.2.2.2.2.1 14 _ rfl).1 dX7_ringTold_17 ?_
    have b_949 := mJ hv hm
    unfold mNum1 at b_949
    refine g_callv (g_runV (As := [.ref (gSK g 14)]) (rest := []) (ci := 7) F hl.1 hH hS hz (c_X7_mustWordf l g gh T 14 _ 12 b nn nr nt cc f h I_935 R J_937 AI AJ AR mo hv hm hT (by omega) (rfl : sTab[14]? = some _) h65 hbM hr7 (by omega) hn9 (by omega) (by decide) (by decide +kernel) hQ) (cwV 1 F.2.2.2.2.1 (good_up gT_X7_mustWord) rfl rfl rfl hdX7_mustWord ⟨Nat.le_of_ble_eq_true rfl, Nat.le_of_ble_eq_true rfl⟩) hm (by decide) rfl rfl rfl (Nat.le_of_ble_eq_true rfl) dX7_ringTold_19 ⟨Nat.zero_le _, Nat.zero_le _⟩) hS (fun I_950 R_951 J_952 AI_953 AJ_954 AR_955 H locs hp_956 hH hS => ?_)
    dsimp only at hp_956
    obtain ⟨r_957, er_957⟩ : ∃ qQ : pR, qQ = thn (f, h, 0) (fun t _ => sTw b nn ((12 : Nat) : Int) t) := ⟨_, rfl⟩
    rw [← er_957] at hp_956
    obtain ⟨rfl, rfl, rfl, rfl, hv, pfq, q_958, hQ⟩ := hp_956
    have pf := qF_t pf pfq
    have u_959_2 : (I_950 mo 2).toInt = (I mo 2).toInt := by rw [pf 2 (by decide) (by decide) (by decide) (by decide) (by decide)]
    have u_959_5 : (I_950 mo 5).toInt = (I mo 5).toInt := by rw [pf 5 (by decide) (by decide) (by decide) (by decide) (by decide)]
    have u_959_14 : (I_950 mo 14).toInt = (I mo 14).toInt := by rw [pf 14 (by decide) (by decide) (by decide) (by decide) (by decide)]
    have u_959_16 : (I_950 mo 16).toInt = (I mo 16).toInt := by rw [pf 16 (by decide) (by decide) (by decide) (by decide) (by decide)]
    have u_959_18 : (I_950 mo 18).toInt = (I mo 18).toInt := by rw [pf 18 (by decide) (by decide) (by decide) (by decide) (by decide)]
    rw [thn_b (by omega)] at er_957
    have hQ : mQ gh I_950 J_952 AI AJ mo b nn nr nt cc f h := by rw [er_957] at hQ; exact hQ
    refine lv_aload_n F.1 F.2.1 dX7_ringTold_22 rfl (lv_at hl 2 rfl) ?_
    refine lv_aload_n F.1 F.2.1 dX7_ringTold_23 rfl (lv_at hl 2 rfl) ?_
    refine lv_iload_n F.1 F.2.1 dX7_ringTold_24 rfl (lv_at hl 1 rfl) ?_
    have b_961 := mJ hv hm
    unfold mNum1 at b_961
    refine g_calli (g_runV (As := [.int (iI v_915)]) (rest := [.ref mo]) (ci := 7) F hl.1 hH hS hz (c_X7_columns l g gh T I_950 R J_952 AI AJ AR mo v_915 zv_915 hv hm hT (by omega)) (cwV 1 F.2.2.2.2.1 (good_up gT_X7_columns) rfl rfl rfl hdX7_columns ⟨Nat.le_of_ble_eq_true rfl, Nat.le_of_ble_eq_true rfl⟩) hm (by decide) rfl rfl rfl (Nat.le_of_ble_eq_true rfl) dX7_ringTold_25 ⟨Nat.zero_le _, Nat.zero_le _⟩) hS (fun v_968 I_962 R_963 J_964 AI_965 AJ_966 AR_967 H locs zv_968 hp_969 hH hS => ?_)
    dsimp only at hp_969
    obtain ⟨rfl, rfl, rfl, rfl, rfl, rfl, q_960⟩ := hp_969
    refine g_calli (g_runV (As := [.int (iI v_968)]) (rest := []) (ci := 7) F hl.1 hH hS hz (c_X7_columnf l g gh T b nn nr nt cc f h I_950 R J_952 AI AJ AR mo v_968 zv_968 hv hm hT (by omega) h65 hbM hr7 (by omega) hn9 (by omega) hQ) (cwV 1 F.2.2.2.2.1 (good_up gT_X7_column) rfl rfl rfl hdX7_column ⟨Nat.le_of_ble_eq_true rfl, Nat.le_of_ble_eq_true rfl⟩) hm (by decide) rfl rfl rfl (Nat.le_of_ble_eq_true rfl) dX7_ringTold_28 ⟨Nat.zero_le _, Nat.zero_le _⟩) hS (fun v_976 I_970 R_971 J_972 AI_973 AJ_974 AR_975 H locs zv_976 hp_977 hH hS => ?_)
    dsimp only at hp_977
    obtain ⟨r_978, er_978⟩ : ∃ qQ : pR, qQ = thn (f, h, 0) (fun t _ => sCol b nn v_968 t) := ⟨_, rfl⟩
    rw [← er_978] at hp_977
    obtain ⟨rfl, rfl, rfl, rfl, hv, pfq, q_979, q_980, hQ, q_981⟩ := hp_977
    have pf := qF_t pf pfq
    have u_982_2 : (I_970 mo 2).toInt = (I mo 2).toInt := by rw [pf 2 (by decide) (by decide) (by decide) (by decide) (by decide)]
    have u_982_5 : (I_970 mo 5).toInt = (I mo 5).toInt := by rw [pf 5 (by decide) (by decide) (by decide) (by decide) (by decide)]
    have u_982_14 : (I_970 mo 14).toInt = (I mo 14).toInt := by rw [pf 14 (by decide) (by decide) (by decide) (by decide) (by decide)]
    have u_982_16 : (I_970 mo 16).toInt = (I mo 16).toInt := by rw [pf 16 (by decide) (by decide) (by decide) (by decide) (by decide)]
    have u_982_18 : (I_970 mo 18).toInt = (I mo 18).toInt := by rw [pf 18 (by decide) (by decide) (by decide) (by decide) (by decide)]
    rw [thn_b (by omega)] at er_978
    have hQ : mQ gh I_970 J_972 AI AJ mo b nn nr nt cc f h := by rw [er_978] at hQ; exact hQ
    replace q_980 := hid q_980
    obtain ⟨f1, ef1⟩ : ∃ q, q = (I_970 mo 24).toInt := ⟨_, rfl⟩
    have hc1 : Hid (f1 = 0 → 0 ≤ v_976 ∧ v_976 ≤ 3) := fun h9 => by omega
    refine lv_istore_n (lv' := [(3, .int (iI v_976)), (2, .int (iI v_941)), (1, .int (iI v_915)), (0, .ref mo)]) F.1 F.2.1 dX7_ringTold_31 rfl hl (by decide) rfl (fun ls hl => ?_)
    refine lv_aload_n F.1 F.2.1 dX7_ringTold_32 rfl (lv_at hl 3 rfl) ?_
    refine z_bipush F dX7_ringTold_33 (by decide) ?_
    have b_983 := mJ hv hm
    unfold mNum1 at b_983
    refine g_callv (g_runV (As := [.int (iI 61)]) (rest := []) (ci := 7) F hl.1 hH hS hz (c_X7_mustSignf l g gh T b nn nr nt cc f h I_970 R J_972 AI AJ AR mo 61 ⟨by decide, by decide⟩ hv hm hT (by omega) h65 hbM hr7 (by omega) hn9 (by omega) (by omega) hQ) (cwV 1 F.2.2.2.2.1 (good_up gT_X7_mustSign) rfl rfl rfl hdX7_mustSign ⟨Nat.le_of_ble_eq_true rfl, Nat.le_of_ble_eq_true rfl⟩) hm (by decide) rfl rfl rfl (Nat.le_of_ble_eq_true rfl) dX7_ringTold_35 ⟨Nat.zero_le _, Nat.zero_le _⟩) hS (fun I_984 R_985 J_986 AI_987 AJ_988 AR_989 H locs hp_990 hH hS => ?_)
    dsimp only at hp_990
    obtain ⟨r_991, er_991⟩ : ∃ qQ : pR, qQ = thn (f, h, 0) (fun t _ => sTk b nn 61 t) := ⟨_, rfl⟩
    rw [← er_991] at hp_990
    obtain ⟨rfl, rfl, rfl, rfl, hv, pfq, q_992, q_993, hQ⟩ := hp_990
    have pf := qF_t pf pfq
    have u_994_2 : (I_984 mo 2).toInt = (I mo 2).toInt := by rw [pf 2 (by decide) (by decide) (by decide) (by decide) (by decide)]
    have u_994_5 : (I_984 mo 5).toInt = (I mo 5).toInt := by rw [pf 5 (by decide) (by decide) (by decide) (by decide) (by decide)]
    have u_994_14 : (I_984 mo 14).toInt = (I mo 14).toInt := by rw [pf 14 (by decide) (by decide) (by decide) (by decide) (by decide)]
    have u_994_16 : (I_984 mo 16).toInt = (I mo 16).toInt := by rw [pf 16 (by decide) (by decide) (by decide) (by decide) (by decide)]
    have u_994_18 : (I_984 mo 18).toInt = (I mo 18).toInt := by rw [pf 18 (by decide) (by decide) (by decide) (by decide) (by decide)]
    rw [thn_b (by omega)] at er_991
    have hQ : mQ gh I_984 J_986 AI AJ mo b nn nr nt cc f h := by rw [er_991] at hQ; exact hQ
    replace q_993 := hid q_993
    refine lv_aload_n F.1 F.2.1 dX7_ringTold_38 rfl (lv_at hl 3 rfl) ?_
    refine lv_aload_n F.1 F.2.1 dX7_ringTold_39 rfl (lv_at hl 3 rfl) ?_
    refine lv_iload_n F.1 F.2.1 dX7_ringTold_40 rfl (lv_at hl 1 rfl) ?_
    have b_996 := mJ hv hm
    unfold mNum1 at b_996
    refine g_calli (g_runV (As := [.int (iI v_941)]) (rest := [.ref mo]) (ci := 7) F hl.1 hH hS hz (c_X7_columns l g gh T I_984 R J_986 AI AJ AR mo v_941 zv_941 hv hm hT (by omega)) (cwV 1 F.2.2.2.2.1 (good_up gT_X7_columns) rfl rfl rfl hdX7_columns ⟨Nat.le_of_ble_eq_true rfl, Nat.le_of_ble_eq_true rfl⟩) hm (by decide) rfl rfl rfl (Nat.le_of_ble_eq_true rfl) dX7_ringTold_41 ⟨Nat.zero_le _, Nat.zero_le _⟩) hS (fun v_1003 I_997 R_998 J_999 AI_1000 AJ_1001 AR_1002 H locs zv_1003 hp_1004 hH hS => ?_)
    dsimp only at hp_1004
    obtain ⟨rfl, rfl, rfl, rfl, rfl, rfl, q_995⟩ := hp_1004
    refine g_calli (g_runV (As := [.int (iI v_1003)]) (rest := []) (ci := 7) F hl.1 hH hS hz (c_X7_columnf l g gh T b nn nr nt cc f h I_984 R J_986 AI AJ AR mo v_1003 zv_1003 hv hm hT (by omega) h65 hbM hr7 (by omega) hn9 (by omega) hQ) (cwV 1 F.2.2.2.2.1 (good_up gT_X7_column) rfl rfl rfl hdX7_column ⟨Nat.le_of_ble_eq_true rfl, Nat.le_of_ble_eq_true rfl⟩) hm (by decide) rfl rfl rfl (Nat.le_of_ble_eq_true rfl) dX7_ringTold_44 ⟨Nat.zero_le _, Nat.zero_le _⟩) hS (fun v_1011 I_1005 R_1006 J_1007 AI_1008 AJ_1009 AR_1010 H locs zv_1011 hp_1012 hH hS => ?_)
    dsimp only at hp_1012
    obtain ⟨r_1013, er_1013⟩ : ∃ qQ : pR, qQ = thn (f, h, 0) (fun t _ => sCol b nn v_1003 t) := ⟨_, rfl⟩
    rw [← er_1013] at hp_1012
    obtain ⟨rfl, rfl, rfl, rfl, hv, pfq, q_1014, q_1015, hQ, q_1016⟩ := hp_1012
    have pf := qF_t pf pfq
    have u_1017_2 : (I_1005 mo 2).toInt = (I mo 2).toInt := by rw [pf 2 (by decide) (by decide) (by decide) (by decide) (by decide)]
    have u_1017_5 : (I_1005 mo 5).toInt = (I mo 5).toInt := by rw [pf 5 (by decide) (by decide) (by decide) (by decide) (by decide)]
    have u_1017_14 : (I_1005 mo 14).toInt = (I mo 14).toInt := by rw [pf 14 (by decide) (by decide) (by decide) (by decide) (by decide)]
    have u_1017_16 : (I_1005 mo 16).toInt = (I mo 16).toInt := by rw [pf 16 (by decide) (by decide) (by decide) (by decide) (by decide)]
    have u_1017_18 : (I_1005 mo 18).toInt = (I mo 18).toInt := by rw [pf 18 (by decide) (by decide) (by decide) (by decide) (by decide)]
    rw [thn_b (by omega)] at er_1013
    have hQ : mQ gh I_1005 J_1007 AI AJ mo b nn nr nt cc f h := by rw [er_1013] at hQ; exact hQ
    replace q_1015 := hid q_1015
    obtain ⟨f2, ef2⟩ : ∃ q, q = (I_1005 mo 24).toInt := ⟨_, rfl⟩
    have hd1 : Hid (f2 = 0 → 0 ≤ v_1011 ∧ v_1011 ≤ 3) := fun h9 => by omega
    refine lv_istore (lv' := [(4, .int (iI v_1011)), (3, .int (iI v_976)), (2, .int (iI v_941)), (1, .int (iI v_915)), (0, .ref mo)]) F.1 F.2.1 dX7_ringTold_47 hl (by decide) rfl (fun ls hl => ?_)
    refine lv_aload_n F.1 F.2.1 dX7_ringTold_49 rfl (lv_at hl 4 rfl) ?_
    refine va_ldcS F.1 F.2.1 F.2.2.2.1 (F.2.2.2.2.2.2.1 26 _ rfl).1 dX7_ringTold_50 ?_
    have b_1018 := mJ hv hm
    unfold mNum1 at b_1018
    refine g_callv (g_runV (As := [.ref (gSK g 26)]) (rest := []) (ci := 7) F hl.1 hH hS hz (c_X7_mustWordf l g gh T 26 _ 15 b nn nr nt cc f h I_1005 R J_1007 AI AJ AR mo hv hm hT (by omega) (rfl : sTab[26]? = some _) h65 hbM hr7 (by omega) hn9 (by omega) (by decide) (by decide +kernel) hQ) (cwV 1 F.2.2.2.2.1 (good_up gT_X7_mustWord) rfl rfl rfl hdX7_mustWord ⟨Nat.le_of_ble_eq_true rfl, Nat.le_of_ble_eq_true rfl⟩) hm (by decide) rfl rfl rfl (Nat.le_of_ble_eq_true rfl) dX7_ringTold_52 ⟨Nat.zero_le _, Nat.zero_le _⟩) hS (fun I_1019 R_1020 J_1021 AI_1022 AJ_1023 AR_1024 H locs hp_1025 hH hS => ?_)
    dsimp only at hp_1025
    obtain ⟨r_1026, er_1026⟩ : ∃ qQ : pR, qQ = thn (f, h, 0) (fun t _ => sTw b nn ((15 : Nat) : Int) t) := ⟨_, rfl⟩
    rw [← er_1026] at hp_1025
    obtain ⟨rfl, rfl, rfl, rfl, hv, pfq, q_1027, hQ⟩ := hp_1025
    have pf := qF_t pf pfq
    have u_1028_2 : (I_1019 mo 2).toInt = (I mo 2).toInt := by rw [pf 2 (by decide) (by decide) (by decide) (by decide) (by decide)]
    have u_1028_5 : (I_1019 mo 5).toInt = (I mo 5).toInt := by rw [pf 5 (by decide) (by decide) (by decide) (by decide) (by decide)]
    have u_1028_14 : (I_1019 mo 14).toInt = (I mo 14).toInt := by rw [pf 14 (by decide) (by decide) (by decide) (by decide) (by decide)]
    have u_1028_16 : (I_1019 mo 16).toInt = (I mo 16).toInt := by rw [pf 16 (by decide) (by decide) (by decide) (by decide) (by decide)]
    have u_1028_18 : (I_1019 mo 18).toInt = (I mo 18).toInt := by rw [pf 18 (by decide) (by decide) (by decide) (by decide) (by decide)]
    rw [thn_b (by omega)] at er_1026
    have hQ : mQ gh I_1019 J_1021 AI AJ mo b nn nr nt cc f h := by rw [er_1026] at hQ; exact hQ
    have hfin : thn (f, h, 0) (fun t _ => sRngM b nn nr nt cc t) = (f, h, 0) := thn_b q0
    exact cut_55_834 v_915 v_941 v_976 v_1011 I_1019 J_1021 AI H locs ls zv_915 zv_941 zv_976 zv_1011 hv hT pf ⟨_, _, by omega, hQ, hfin⟩ (by omega) (by omega) (fun _ _ => rfl) hH hS (lv_sub hl [4, 3, 2, 1, 0] rfl)
