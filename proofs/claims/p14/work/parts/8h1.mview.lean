def rmX7_viewToldg : Room := { frames := 9, cells := 0, slots := 0, locals := 197 }
set_option maxHeartbeats 4000000 in
set_option maxRecDepth 100000 in
/-- a view told -/
theorem c_X7_viewToldg (l : Launch) (g : gG) (gh : gGh) (T : Nat → Int32) (M : Int) (b : tTx) (nn nr : Nat) (nt : Nat → Nat) (cc : Nat → Int) (f : Int) (h : Nat) (I : gI) (R : gR) (J : gJ) (AI : gI) (AJ : gJ) (AR : gR) (mo : Nat) (hv : mInv g gh R I AI) (hm : gO g mo 7) (hT : AI (gh 50 0) = T) (hE : (I mo 20).toInt ≤ 936) (hMM : (I mo 5).toInt = M) (h65 : gh 9 (gh 65 0) ≠ 5) (hbM : ∀ k : Nat, k < nn → ((gM g).2 (gh 65 0) k).toInt = b k % 256) (hr7 : ∀ k : Nat, -128 ≤ b k ∧ b k ≤ 127) (hsz : (I mo 18).toInt = (nn : Int)) (hn9 : nn ≤ 900) (hm5 : (I mo 5).toInt = (nr : Int)) (hQ : mQ gh I J AI AJ mo b nn nr nt cc f h) : gMet l g yX7_viewTold tsX7_viewTold rmX7_viewToldg [.ref mo] (I, R, J, AI, AJ, AR) (gQv g (fun w : gS => R = w.2.1 ∧ AR = w.2.2.2.2.2 ∧ (mInv g gh R (w.1) (w.2.2.2.1)) ∧ ((w.2.2.2.1) (gh 50 0) = T) ∧ (qF mo I (w.1)) ∧ (((w.1) mo 20).toInt ≤ 936 ∧ (I mo 24).toInt ≤ ((w.1) mo 24).toInt) ∧ (((w.1) mo 24).toInt = 0 → ((w.1) mo 21).toInt = 4 → ((w.1) mo 23).toInt = 59 → rowOK ((w.2.2.2.1) (gh 53 0)) M) ∧ (((w.1) mo 24).toInt = 0 → M ≤ 15) ∧ (((w.1) mo 24).toInt = 0 → 1 ≤ tI ((w.2.2.2.1) (gh 53 0)) (40 * M)) ∧ (mQ gh (w.1) (w.2.2.1) (w.2.2.2.1) (w.2.2.2.2.1) mo b nn nr nt cc (thn (f, h, 0) (fun t _ => sVwM b nn nr nt cc t)).1 (thn (f, h, 0) (fun t _ => sVwM b nn nr nt cc t)).2.1) ∧ (pIc (thn (f, h, 0) (fun t _ => sVwM b nn nr nt cc t)).1 (pK b nn (thn (f, h, 0) (fun t _ => sVwM b nn nr nt cc t)).2.1) (tI ((w.2.2.2.1) (gh 53 0)) (40 * (nr : Int) + 1)) (thn (f, h, 0) (fun t _ => sVwM b nn nr nt cc t)).2.2) ∧ (pJm (thn (f, h, 0) (fun t _ => sVwM b nn nr nt cc t)).1 ((w.2.2.2.2.1) (gh 54 0) nr) (pMw b nn (h + 1))) ∧ (pIm (thn (f, h, 0) (fun t _ => sVwM b nn nr nt cc t)).1 (tI ((w.2.2.2.1) (gh 53 0)) (40 * (nr : Int))) (pV b nn (h + 3))) ∧ (zIf (thn (f, h, 0) (fun t _ => sVwM b nn nr nt cc t)).1 (frM M (AI (gh 53 0)) ((w.2.2.2.1) (gh 53 0)))) ∧ (zIf (thn (f, h, 0) (fun t _ => sVwM b nn nr nt cc t)).1 (mLn b nn nr nt (h + 4) ((w.2.2.2.1) (gh 53 0)) M (pV b nn (h + 3)))) ∧ (∀ b, b ≠ gh 53 0 → (w.2.2.2.1) b = AI b))) := by
  refine gStart (cc := cX7_viewTold) (maxL := 3) (ret := none) (by decide) rfl (Nat.le_of_ble_eq_true rfl) ?_
  intro p e s m below meth c ls F hr hlk hH hz hS hl
  have hl : lv_has ls 3 [(0, .ref mo)] := hl
  have hS : va_S (gA g) s.heap s.heap [] := hS
  obtain ⟨H, hHe⟩ : ∃ H : Heap, H = s.heap := ⟨_, rfl⟩
  obtain ⟨locs, hlo⟩ : ∃ k : List Loc, k = [] := ⟨_, rfl⟩
  have hH : gH g I R J AI AJ AR H := by rw [hHe]; exact hH
  have hS : va_S (gA g) s.heap H locs := by rw [hHe, hlo]; exact hS
  suffices hw : W p l e rmX7_viewToldg s m ([.ref mo] : List Value).toArray below meth c H locs 0 0 (MQ below (gQv g (fun w : gS => R = w.2.1 ∧ AR = w.2.2.2.2.2 ∧ (mInv g gh R (w.1) (w.2.2.2.1)) ∧ ((w.2.2.2.1) (gh 50 0) = T) ∧ (qF mo I (w.1)) ∧ (((w.1) mo 20).toInt ≤ 936 ∧ (I mo 24).toInt ≤ ((w.1) mo 24).toInt) ∧ (((w.1) mo 24).toInt = 0 → ((w.1) mo 21).toInt = 4 → ((w.1) mo 23).toInt = 59 → rowOK ((w.2.2.2.1) (gh 53 0)) M) ∧ (((w.1) mo 24).toInt = 0 → M ≤ 15) ∧ (((w.1) mo 24).toInt = 0 → 1 ≤ tI ((w.2.2.2.1) (gh 53 0)) (40 * M)) ∧ (mQ gh (w.1) (w.2.2.1) (w.2.2.2.1) (w.2.2.2.2.1) mo b nn nr nt cc (thn (f, h, 0) (fun t _ => sVwM b nn nr nt cc t)).1 (thn (f, h, 0) (fun t _ => sVwM b nn nr nt cc t)).2.1) ∧ (pIc (thn (f, h, 0) (fun t _ => sVwM b nn nr nt cc t)).1 (pK b nn (thn (f, h, 0) (fun t _ => sVwM b nn nr nt cc t)).2.1) (tI ((w.2.2.2.1) (gh 53 0)) (40 * (nr : Int) + 1)) (thn (f, h, 0) (fun t _ => sVwM b nn nr nt cc t)).2.2) ∧ (pJm (thn (f, h, 0) (fun t _ => sVwM b nn nr nt cc t)).1 ((w.2.2.2.2.1) (gh 54 0) nr) (pMw b nn (h + 1))) ∧ (pIm (thn (f, h, 0) (fun t _ => sVwM b nn nr nt cc t)).1 (tI ((w.2.2.2.1) (gh 53 0)) (40 * (nr : Int))) (pV b nn (h + 3))) ∧ (zIf (thn (f, h, 0) (fun t _ => sVwM b nn nr nt cc t)).1 (frM M (AI (gh 53 0)) ((w.2.2.2.1) (gh 53 0)))) ∧ (zIf (thn (f, h, 0) (fun t _ => sVwM b nn nr nt cc t)).1 (mLn b nn nr nt (h + 4) ((w.2.2.2.1) (gh 53 0)) M (pV b nn (h + 3)))) ∧ (∀ b, b ≠ gh 53 0 → (w.2.2.2.1) b = AI b))) ([.ref mo] : List Value).toArray s 0 0 (gA g)) (F0 m 0 ls []) by
    rw [hHe, hlo] at hw; exact hw
  clear hHe hlo
  have pf : qF mo I I := qF_r
  have hb0 := mJ hv hm
  unfold mNum1 at hb0
  have hfr : frM M (AI (gh 53 0)) (AI (gh 53 0)) := frM_r
  have iX7 : ∀ w ∈ u_ws RX7 TX7 32, w ∈ tsX7_viewTold := fun w h => List.mem_cons_of_mem _ (inTB7 w h)
  have k184 : Cond.fieldLink RX7 184 (TX7 5).1 (TX7 5).2.1 (TX7 5).2.2.1 ∈ tsX7_viewTold := List.mem_cons_of_mem _ fl_184
  have k81 : Cond.fieldLink RX7 81 (TX7 24).1 (TX7 24).2.1 (TX7 24).2.2.1 ∈ tsX7_viewTold := List.mem_cons_of_mem _ fl_81
  have hf0 := mQ_p hQ
  by_cases q0 : f = 0
  · have hQ := mQ_ok hQ q0
    have hz0 := mQ_0 hQ rfl
    refine lv_aload_n F.1 F.2.1 dX7_viewTold_0 rfl (lv_at hl 0 rfl) ?_
    refine g_getI (ci := 7) (k := 5) F hH rfl (by decide) iX7 hm (by decide) rfl k184 dX7_viewTold_1 ?_
    have b_1 := mJ hv hm
    unfold mNum1 at b_1
    refine z_bipush F dX7_viewTold_4 (by decide) ?_
    refine z_icmp_ne (tgt := 14) F dX7_viewTold_6 (by decide) (zr_t _) ⟨by decide, by decide⟩ (fun c_2 => ?_) (fun c_2 => ?_)
    · refine lv_aload_n F.1 F.2.1 dX7_viewTold_14 rfl (lv_at hl 0 rfl) ?_
      refine g_callv (g_runV (As := []) (rest := []) (ci := 7) F hl.1 hH hS hz (c_X7_nextf l g gh T b nn (tNd b nn (tPs b nn h)) I R J AI AJ AR mo hv hm hT (by omega) (mTp hv h65 hbM) hr7 (by omega) (by omega) (mQ_e0 hQ) tNd_le.1) (cwV 0 F.2.2.2.2.1 (good_up gT_X7_next) rfl rfl rfl hdX7_next ⟨Nat.le_of_ble_eq_true rfl, Nat.le_of_ble_eq_true rfl⟩) hm (by decide) rfl rfl rfl (Nat.le_of_ble_eq_true rfl) dX7_viewTold_15 ⟨Nat.zero_le _, Nat.zero_le _⟩) hS (fun I_3 R_4 J_5 AI_6 AJ_7 AR_8 H locs hp_9 hH hS => ?_)
      dsimp only at hp_9
      obtain ⟨rfl, rfl, rfl, rfl, hv, pfq, q_10, nx4, nxa, nxb⟩ := hp_9
      have pf := qF_t pf pfq
      have u_11_2 : (I_3 mo 2).toInt = (I mo 2).toInt := by rw [pf 2 (by decide) (by decide) (by decide) (by decide) (by decide)]
      have u_11_5 : (I_3 mo 5).toInt = (I mo 5).toInt := by rw [pf 5 (by decide) (by decide) (by decide) (by decide) (by decide)]
      have u_11_14 : (I_3 mo 14).toInt = (I mo 14).toInt := by rw [pf 14 (by decide) (by decide) (by decide) (by decide) (by decide)]
      have u_11_16 : (I_3 mo 16).toInt = (I mo 16).toInt := by rw [pf 16 (by decide) (by decide) (by decide) (by decide) (by decide)]
      have u_11_18 : (I_3 mo 18).toInt = (I mo 18).toInt := by rw [pf 18 (by decide) (by decide) (by decide) (by decide) (by decide)]
      have hQ : mQ gh I_3 J_5 AI AJ mo b nn nr nt cc 0 (h + 1) := mQ_nx hQ nx4 nxa
      clear nxa nxb
      refine lv_aload_n F.1 F.2.1 dX7_viewTold_18 rfl (lv_at hl 0 rfl) ?_
      have b_12 := mJ hv hm
      unfold mNum1 at b_12
      refine g_callv (g_runV (As := []) (rest := []) (ci := 7) F hl.1 hH hS hz (c_X7_newNamef l g gh T b nn nr nt cc 0 (h + 1) I_3 R J_5 AI AJ AR mo hv hm hT (by omega) (by omega) h65 hbM hr7 (by omega) hn9 (by omega) hQ) (cwV 0 F.2.2.2.2.1 (good_up gT_X7_newName) rfl rfl rfl hdX7_newName ⟨Nat.le_of_ble_eq_true rfl, Nat.le_of_ble_eq_true rfl⟩) hm (by decide) rfl rfl rfl (Nat.le_of_ble_eq_true rfl) dX7_viewTold_19 ⟨Nat.zero_le _, Nat.zero_le _⟩) hS (fun I_13 R_14 J_15 AI_16 AJ_17 AR_18 H locs hp_19 hH hS => ?_)
      dsimp only at hp_19
      obtain ⟨r_20, er_20⟩ : ∃ qQ : pR, qQ = thn (0, (h + 1), 0) (fun t _ => sNam b nn nr nt t) := ⟨_, rfl⟩
      rw [← er_20] at hp_19
      obtain ⟨rfl, rfl, rfl, hv, pfq, q_21, hQ, q_22⟩ := hp_19
      have pf := qF_t pf pfq
      have u_23_2 : (I_13 mo 2).toInt = (I mo 2).toInt := by rw [pf 2 (by decide) (by decide) (by decide) (by decide) (by decide)]
      have u_23_5 : (I_13 mo 5).toInt = (I mo 5).toInt := by rw [pf 5 (by decide) (by decide) (by decide) (by decide) (by decide)]
      have u_23_14 : (I_13 mo 14).toInt = (I mo 14).toInt := by rw [pf 14 (by decide) (by decide) (by decide) (by decide) (by decide)]
      have u_23_16 : (I_13 mo 16).toInt = (I mo 16).toInt := by rw [pf 16 (by decide) (by decide) (by decide) (by decide) (by decide)]
      have u_23_18 : (I_13 mo 18).toInt = (I mo 18).toInt := by rw [pf 18 (by decide) (by decide) (by decide) (by decide) (by decide)]
      have er_20 : r_20 = sNam b nn nr nt (h + 1) := er_20
      have sr_20 := er_20
      rcases sNam_c er_20 with ⟨er_20, pr_20⟩ | ⟨kdr_20, er_20, pr_20⟩
      · have hQ : mQ gh I_13 J_15 AI AJ_17 mo b nn nr nt cc 0 (h + 2) := by rw [er_20] at hQ; exact hQ
        have sr_20 : sNam b nn nr nt (h + 1) = (0, h + 2, 0) := sr_20.symm.trans er_20
        have vlr_20 := q_22 (by rw [er_20])
        try rw [er_20] at vlr_20
        try dsimp only at vlr_20
        refine lv_aload_n F.1 F.2.1 dX7_viewTold_22 rfl (lv_at hl 0 rfl) ?_
        refine z_bipush F dX7_viewTold_23 (by decide) ?_
        have b_24 := mJ hv hm
        unfold mNum1 at b_24
        refine g_callv (g_runV (As := [.int (iI 61)]) (rest := []) (ci := 7) F hl.1 hH hS hz (c_X7_mustSignf l g gh T b nn nr nt cc 0 (h + 2) I_13 R J_15 AI AJ_17 AR mo 61 ⟨by decide, by decide⟩ hv hm hT (by omega) h65 hbM hr7 (by omega) hn9 (by omega) (by omega) hQ) (cwV 1 F.2.2.2.2.1 (good_up gT_X7_mustSign) rfl rfl rfl hdX7_mustSign ⟨Nat.le_of_ble_eq_true rfl, Nat.le_of_ble_eq_true rfl⟩) hm (by decide) rfl rfl rfl (Nat.le_of_ble_eq_true rfl) dX7_viewTold_25 ⟨Nat.zero_le _, Nat.zero_le _⟩) hS (fun I_25 R_26 J_27 AI_28 AJ_29 AR_30 H locs hp_31 hH hS => ?_)
        dsimp only at hp_31
        obtain ⟨r_32, er_32⟩ : ∃ qQ : pR, qQ = thn (0, (h + 2), 0) (fun t _ => sTk b nn 61 t) := ⟨_, rfl⟩
        rw [← er_32] at hp_31
        obtain ⟨rfl, rfl, rfl, rfl, hv, pfq, q_33, q_34, hQ⟩ := hp_31
        have pf := qF_t pf pfq
        have u_35_2 : (I_25 mo 2).toInt = (I mo 2).toInt := by rw [pf 2 (by decide) (by decide) (by decide) (by decide) (by decide)]
        have u_35_5 : (I_25 mo 5).toInt = (I mo 5).toInt := by rw [pf 5 (by decide) (by decide) (by decide) (by decide) (by decide)]
        have u_35_14 : (I_25 mo 14).toInt = (I mo 14).toInt := by rw [pf 14 (by decide) (by decide) (by decide) (by decide) (by decide)]
        have u_35_16 : (I_25 mo 16).toInt = (I mo 16).toInt := by rw [pf 16 (by decide) (by decide) (by decide) (by decide) (by decide)]
        have u_35_18 : (I_25 mo 18).toInt = (I mo 18).toInt := by rw [pf 18 (by decide) (by decide) (by decide) (by decide) (by decide)]
        have er_32 : r_32 = sTk b nn 61 (h + 2) := er_32
        have sr_32 := er_32
        rcases sTk_c er_32 with ⟨er_32, pr_32⟩ | ⟨er_32, pr_32⟩
        · have hQ : mQ gh I_25 J_27 AI AJ_17 mo b nn nr nt cc 0 (h + 3) := by rw [er_32] at hQ; exact hQ
          have sr_32 : sTk b nn 61 (h + 2) = (0, h + 3, 0) := sr_32.symm.trans er_32
          replace q_34 := hid q_34
          obtain ⟨fb, efb⟩ : ∃ q, q = (I_25 mo 24).toInt := ⟨_, rfl⟩
          refine lv_aload_n F.1 F.2.1 dX7_viewTold_28 rfl (lv_at hl 0 rfl) ?_
          refine g_getI (ci := 7) (k := 24) F hH rfl (by decide) iX7 hm (by decide) rfl k81 dX7_viewTold_29 ?_
          have b_36 := mJ hv hm
          unfold mNum1 at b_36
          refine z_if_le (tgt := 36) F dX7_viewTold_32 (by decide) (zr_t _) (fun c_37 => ?_) (fun c_37 => ?_)
          · have cut_144_37 : ∀ (kd : Int) (H : Heap) (locs : List Loc) (ls : Array Slot), zr kd → (-1 ≤ kd ∧ kd ≤ 8 ∧ kd ≠ 0) → (pKd kd (pK b nn (h + 3)) (pV b nn (h + 3))) → gH g I_25 R J_27 AI AJ_17 AR H → va_S (gA g) s.heap H locs → lv_has ls 3 [(0, .ref mo)] → W p l e rmX7_viewToldg s m ([.ref mo] : List Value).toArray below meth c H locs 0 0 (MQ below (gQv g (fun w : gS => R = w.2.1 ∧ AR = w.2.2.2.2.2 ∧ (mInv g gh R (w.1) (w.2.2.2.1)) ∧ ((w.2.2.2.1) (gh 50 0) = T) ∧ (qF mo I (w.1)) ∧ (((w.1) mo 20).toInt ≤ 936 ∧ (I mo 24).toInt ≤ ((w.1) mo 24).toInt) ∧ (((w.1) mo 24).toInt = 0 → ((w.1) mo 21).toInt = 4 → ((w.1) mo 23).toInt = 59 → rowOK ((w.2.2.2.1) (gh 53 0)) M) ∧ (((w.1) mo 24).toInt = 0 → M ≤ 15) ∧ (((w.1) mo 24).toInt = 0 → 1 ≤ tI ((w.2.2.2.1) (gh 53 0)) (40 * M)) ∧ (mQ gh (w.1) (w.2.2.1) (w.2.2.2.1) (w.2.2.2.2.1) mo b nn nr nt cc (thn (f, h, 0) (fun t _ => sVwM b nn nr nt cc t)).1 (thn (f, h, 0) (fun t _ => sVwM b nn nr nt cc t)).2.1) ∧ (pIc (thn (f, h, 0) (fun t _ => sVwM b nn nr nt cc t)).1 (pK b nn (thn (f, h, 0) (fun t _ => sVwM b nn nr nt cc t)).2.1) (tI ((w.2.2.2.1) (gh 53 0)) (40 * (nr : Int) + 1)) (thn (f, h, 0) (fun t _ => sVwM b nn nr nt cc t)).2.2) ∧ (pJm (thn (f, h, 0) (fun t _ => sVwM b nn nr nt cc t)).1 ((w.2.2.2.2.1) (gh 54 0) nr) (pMw b nn (h + 1))) ∧ (pIm (thn (f, h, 0) (fun t _ => sVwM b nn nr nt cc t)).1 (tI ((w.2.2.2.1) (gh 53 0)) (40 * (nr : Int))) (pV b nn (h + 3))) ∧ (zIf (thn (f, h, 0) (fun t _ => sVwM b nn nr nt cc t)).1 (frM M (AI (gh 53 0)) ((w.2.2.2.1) (gh 53 0)))) ∧ (zIf (thn (f, h, 0) (fun t _ => sVwM b nn nr nt cc t)).1 (mLn b nn nr nt (h + 4) ((w.2.2.2.1) (gh 53 0)) M (pV b nn (h + 3)))) ∧ (∀ b, b ≠ gh 53 0 → (w.2.2.2.1) b = AI b))) ([.ref mo] : List Value).toArray s 0 0 (gA g)) (F0 m 144 ls [.int (iI kd)]) := by
              intro kd H locs ls zkd hkd hkd2 hH hS hl
              refine lv_istore_n (lv' := [(1, .int (iI kd)), (0, .ref mo)]) F.1 F.2.1 dX7_viewTold_144 rfl hl (by decide) rfl (fun ls hl => ?_)
              refine lv_iload_n F.1 F.2.1 dX7_viewTold_145 rfl (lv_at hl 0 rfl) ?_
              refine z_if_ge (tgt := 154) F dX7_viewTold_146 (by decide) zkd (fun c_39 => ?_) (fun c_39 => ?_)
              · have ykd := pKd_y hkd2 (by omega)
                refine lv_aload_n F.1 F.2.1 dX7_viewTold_154 rfl (lv_at hl 1 rfl) ?_
                refine g_callv (g_runV (As := []) (rest := []) (ci := 7) F hl.1 hH hS hz (c_X7_nextf l g gh T b nn (tNd b nn (tPs b nn (h + 3))) I_25 R J_27 AI AJ_17 AR mo hv hm hT (by omega) (mTp hv h65 hbM) hr7 (by omega) (by omega) (mQ_e0 hQ) tNd_le.1) (cwV 0 F.2.2.2.2.1 (good_up gT_X7_next) rfl rfl rfl hdX7_next ⟨Nat.le_of_ble_eq_true rfl, Nat.le_of_ble_eq_true rfl⟩) hm (by decide) rfl rfl rfl (Nat.le_of_ble_eq_true rfl) dX7_viewTold_155 ⟨Nat.zero_le _, Nat.zero_le _⟩) hS (fun I_40 R_41 J_42 AI_43 AJ_44 AR_45 H locs hp_46 hH hS => ?_)
                dsimp only at hp_46
                obtain ⟨rfl, rfl, rfl, rfl, hv, pfq, q_47, nx4, nxa, nxb⟩ := hp_46
                have pf := qF_t pf pfq
                have u_48_2 : (I_40 mo 2).toInt = (I mo 2).toInt := by rw [pf 2 (by decide) (by decide) (by decide) (by decide) (by decide)]
                have u_48_5 : (I_40 mo 5).toInt = (I mo 5).toInt := by rw [pf 5 (by decide) (by decide) (by decide) (by decide) (by decide)]
                have u_48_14 : (I_40 mo 14).toInt = (I mo 14).toInt := by rw [pf 14 (by decide) (by decide) (by decide) (by decide) (by decide)]
                have u_48_16 : (I_40 mo 16).toInt = (I mo 16).toInt := by rw [pf 16 (by decide) (by decide) (by decide) (by decide) (by decide)]
                have u_48_18 : (I_40 mo 18).toInt = (I mo 18).toInt := by rw [pf 18 (by decide) (by decide) (by decide) (by decide) (by decide)]
                have hQ : mQ gh I_40 J_42 AI AJ_17 mo b nn nr nt cc 0 (h + 4) := mQ_nx hQ nx4 nxa
                clear nxa nxb
                refine lv_aload_n F.1 F.2.1 dX7_viewTold_158 rfl (lv_at hl 1 rfl) ?_
                refine g_getI (ci := 7) (k := 24) F hH rfl (by decide) iX7 hm (by decide) rfl k81 dX7_viewTold_159 ?_
                have b_49 := mJ hv hm
                unfold mNum1 at b_49
                refine z_if_le (tgt := 166) F dX7_viewTold_162 (by decide) (zr_t _) (fun c_50 => ?_) (fun c_50 => ?_)
                · refine lv_iload_n F.1 F.2.1 dX7_viewTold_166 rfl (lv_at hl 0 rfl) ?_
                  refine z_iconst F dX7_viewTold_167 ?_
                  refine z_icmp_ne (tgt := 178) F dX7_viewTold_168 (by decide) zkd ⟨by decide, by decide⟩ (fun c_51 => ?_) (fun c_51 => ?_)
                  · refine lv_iload_n F.1 F.2.1 dX7_viewTold_178 rfl (lv_at hl 0 rfl) ?_
                    refine z_iconst F dX7_viewTold_179 ?_
                    refine z_icmp_ne (tgt := 190) F dX7_viewTold_180 (by decide) zkd ⟨by decide, by decide⟩ (fun c_52 => ?_) (fun c_52 => ?_)
                    · refine lv_iload_n F.1 F.2.1 dX7_viewTold_190 rfl (lv_at hl 0 rfl) ?_
                      refine z_iconst F dX7_viewTold_191 ?_
                      refine z_icmp_ne (tgt := 202) F dX7_viewTold_192 (by decide) zkd ⟨by decide, by decide⟩ (fun c_53 => ?_) (fun c_53 => ?_)
                      · refine lv_iload_n F.1 F.2.1 dX7_viewTold_202 rfl (lv_at hl 0 rfl) ?_
                        refine z_iconst F dX7_viewTold_203 ?_
                        refine z_icmp_eq (tgt := 212) F dX7_viewTold_204 (by decide) zkd ⟨by decide, by decide⟩ (fun c_54 => ?_) (fun c_54 => ?_)
                        · refine lv_aload_n F.1 F.2.1 dX7_viewTold_212 rfl (lv_at hl 1 rfl) ?_
                          refine lv_iload_n F.1 F.2.1 dX7_viewTold_213 rfl (lv_at hl 0 rfl) ?_
                          refine g_callv (g_runV (As := [.int (iI kd)]) (rest := []) (ci := 7) F hl.1 hH hS hz (c_X7_bothToldg l g gh T M b nn nr nt cc 0 (h + 4) I_40 R J_42 AI AJ_17 AR mo kd zkd hv hm hT (by omega) (by omega) (by omega) (by omega) h65 hbM hr7 (by omega) hn9 (by omega) hQ) (cwV 1 F.2.2.2.2.1 (good_up gT_X7_bothTold) rfl rfl rfl hdX7_bothTold ⟨Nat.le_of_ble_eq_true rfl, Nat.le_of_ble_eq_true rfl⟩) hm (by decide) rfl rfl rfl (Nat.le_of_ble_eq_true rfl) dX7_viewTold_214 ⟨Nat.zero_le _, Nat.zero_le _⟩) hS (fun I_55 R_56 J_57 AI_58 AJ_59 AR_60 H locs hp_61 hH hS => ?_)
                          dsimp only at hp_61
                          obtain ⟨r_62, er_62⟩ : ∃ qQ : pR, qQ = thn (0, (h + 4), 0) (fun t _ => sTwo b nn nr nt cc t) := ⟨_, rfl⟩
                          rw [← er_62] at hp_61
                          obtain ⟨rfl, rfl, rfl, hv, hT, pfq, q_63, hrow, hkq, hQ, q_64, hfrq, mcq, q_65⟩ := hp_61
                          have pf := qF_t pf pfq
                          have u_66_2 : (I_55 mo 2).toInt = (I mo 2).toInt := by rw [pf 2 (by decide) (by decide) (by decide) (by decide) (by decide)]
                          have u_66_5 : (I_55 mo 5).toInt = (I mo 5).toInt := by rw [pf 5 (by decide) (by decide) (by decide) (by decide) (by decide)]
                          have u_66_14 : (I_55 mo 14).toInt = (I mo 14).toInt := by rw [pf 14 (by decide) (by decide) (by decide) (by decide) (by decide)]
                          have u_66_16 : (I_55 mo 16).toInt = (I mo 16).toInt := by rw [pf 16 (by decide) (by decide) (by decide) (by decide) (by decide)]
                          have u_66_18 : (I_55 mo 18).toInt = (I mo 18).toInt := by rw [pf 18 (by decide) (by decide) (by decide) (by decide) (by decide)]
                          have er_62 : r_62 = sTwo b nn nr nt cc (h + 4) := er_62
                          by_cases pr_62 : r_62.1 = 0
                          · have hQ := mQ_ok hQ pr_62
                            have vlr_62_7 := q_64 pr_62
                            replace hrow := hid hrow
                            replace hkq := hid hkq
                            have hfr := frM_t hfr (hfrq pr_62)
                            have mc := mcq pr_62
                            refine z_goto (tgt := 265) F dX7_viewTold_217 (by decide) ?_
                            have hV9 : sVk b nn (h + 2) = (0, h + 4, pV b nn (h + 3)) := by unfold sVk; exact thn_t sr_32 rfl (ite_y (by omega) rfl)
                            have hfin : thn (f, h, 0) (fun t _ => sVwM b nn nr nt cc t) = (0, r_62.2.1, r_62.2.2) := (thn_k q0).trans (by show sVwM b nn nr nt cc h = _; unfold sVwM; exact ite_n (by omega) (thn_t sr_20 rfl (thn_t hV9 rfl ((sBM_4 (by omega)).trans (er_62.symm.trans (pr_x pr_62))))))
                            exact g_vret F hr hlk hH hS hz ⟨rfl, rfl, hv, hT, pf, by first | (dsimp only; omega) | omega | rfl, by first | exact hrow | ((try dsimp only); intro hf; exact absurd hf (by omega)) | ((try dsimp only); intro hf ht hn; exact row_mk (by omega) (hhd (by omega)) (by omega) (hcol (by omega)) (by omega) (by omega) (fun h => absurd h (by omega)) (fun h => absurd h (by omega)) (fun h => absurd h (by omega)) (fun h => absurd h (by omega)) (fun h => absurd h (by omega)) (fun h => absurd h (by omega)) (fun h => absurd h (by omega))), by (try dsimp only); intro hf; omega, by first | ((try dsimp only); intro hf; have q9 := hkq (by omega); omega) | ((try dsimp only); intro hf; exact absurd hf (by omega)) | ((try dsimp only); intro hf; have q9 := (hhd (by omega)).2.1; omega), by (try dsimp only); rw [hfin]; exact hQ, by (try dsimp only); rw [hfin]; first | exact (fun _ => vlr_62_7) | (have q9 := (hhd (mQ_0 hQ rfl)).2.2.1; rw [show M = (nr : Int) by omega] at q9; (try dsimp only); exact pIc_y (by omega)), by (try dsimp only); rw [hfin]; exact pJm_y vlr_20, by (try dsimp only); rw [hfin]; (try dsimp only); exact pIm_y (by have q9 := hkq (mQ_0 hQ rfl); rw [show M = (nr : Int) by omega] at q9; omega), by (try dsimp only); rw [hfin]; exact zIf_y (hfr), by (try dsimp only); rw [hfin]; exact zIf_y (by unfold mLn; rw [if_neg (by omega), if_neg (by omega), if_neg (by omega), if_pos (by omega)]; exact mc), fun b hb => q_65 b hb⟩ dX7_viewTold_265
                          · have g9r_62 := mQ_f hQ pr_62
                            have g8r_62 := mQ_p hQ
                            replace hrow := hid hrow
                            replace hkq := hid hkq
                            refine z_goto (tgt := 265) F dX7_viewTold_217 (by decide) ?_
                            have hV9 : sVk b nn (h + 2) = (0, h + 4, pV b nn (h + 3)) := by unfold sVk; exact thn_t sr_32 rfl (ite_y (by omega) rfl)
                            have hfin : thn (f, h, 0) (fun t _ => sVwM b nn nr nt cc t) = r_62 := (thn_k q0).trans (by show sVwM b nn nr nt cc h = _; unfold sVwM; exact ite_n (by omega) (thn_t sr_20 rfl (thn_t hV9 rfl ((sBM_4 (by omega)).trans (er_62.symm)))))
                            exact g_vret F hr hlk hH hS hz ⟨rfl, rfl, hv, hT, pf, by first | (dsimp only; omega) | omega | rfl, by (try dsimp only); exact (fun hf => absurd hf (by omega)), by (try dsimp only); exact (fun hf => absurd hf (by omega)), by (try dsimp only); exact (fun hf => absurd hf (by omega)), by (try dsimp only); rw [hfin]; exact hQ, by (try dsimp only); rw [hfin]; exact pIc_n (by omega), by (try dsimp only); rw [hfin]; exact pJm_n (by omega), by (try dsimp only); rw [hfin]; exact pIm_n (by omega), by (try dsimp only); rw [hfin]; exact zIf_n (by omega), by (try dsimp only); rw [hfin]; exact zIf_n (by omega), fun b hb => q_65 b hb⟩ dX7_viewTold_265
                        · refine lv_iload_n F.1 F.2.1 dX7_viewTold_207 rfl (lv_at hl 0 rfl) ?_
                          refine z_iconst F dX7_viewTold_208 ?_
                          refine z_icmp_ne (tgt := 220) F dX7_viewTold_209 (by decide) zkd ⟨by decide, by decide⟩ (fun c_67 => ?_) (fun c_67 => ?_)
                          · refine lv_iload_n F.1 F.2.1 dX7_viewTold_220 rfl (lv_at hl 0 rfl) ?_
                            refine z_bipush F dX7_viewTold_221 (by decide) ?_
                            refine z_icmp_ne (tgt := 233) F dX7_viewTold_223 (by decide) zkd ⟨by decide, by decide⟩ (fun c_68 => ?_) (fun c_68 => ?_)
                            · refine lv_iload_n F.1 F.2.1 dX7_viewTold_233 rfl (lv_at hl 0 rfl) ?_
                              refine z_bipush F dX7_viewTold_234 (by decide) ?_
                              refine z_icmp_ne (tgt := 246) F dX7_viewTold_236 (by decide) zkd ⟨by decide, by decide⟩ (fun c_69 => ?_) (fun c_69 => ?_)
                              · refine lv_aload_n F.1 F.2.1 dX7_viewTold_246 rfl (lv_at hl 1 rfl) ?_
                                refine g_calli (g_runV (As := []) (rest := []) (ci := 7) F hl.1 hH hS hz (c_X7_relationg l g gh T b nn nr nt cc 0 (h + 4) I_40 R J_42 AI AJ_17 AR mo hv hm hT (by omega) h65 hbM hr7 (by omega) hn9 (by omega) hQ) (cwV 0 F.2.2.2.2.1 (good_up gT_X7_relation) rfl rfl rfl hdX7_relation ⟨Nat.le_of_ble_eq_true rfl, Nat.le_of_ble_eq_true rfl⟩) hm (by decide) rfl rfl rfl (Nat.le_of_ble_eq_true rfl) dX7_viewTold_247 ⟨Nat.zero_le _, Nat.zero_le _⟩) hS (fun v_76 I_70 R_71 J_72 AI_73 AJ_74 AR_75 H locs zv_76 hp_77 hH hS => ?_)
                                dsimp only at hp_77
                                obtain ⟨r_78, er_78⟩ : ∃ qQ : pR, qQ = thn (0, (h + 4), 0) (fun t _ => sRl b nn nr nt cc t) := ⟨_, rfl⟩
                                rw [← er_78] at hp_77
                                obtain ⟨rfl, rfl, rfl, rfl, hv, pfq, q_79, q_80, hQ, q_81, q_82⟩ := hp_77
                                have pf := qF_t pf pfq
                                have u_83_2 : (I_70 mo 2).toInt = (I mo 2).toInt := by rw [pf 2 (by decide) (by decide) (by decide) (by decide) (by decide)]
                                have u_83_5 : (I_70 mo 5).toInt = (I mo 5).toInt := by rw [pf 5 (by decide) (by decide) (by decide) (by decide) (by decide)]
                                have u_83_14 : (I_70 mo 14).toInt = (I mo 14).toInt := by rw [pf 14 (by decide) (by decide) (by decide) (by decide) (by decide)]
                                have u_83_16 : (I_70 mo 16).toInt = (I mo 16).toInt := by rw [pf 16 (by decide) (by decide) (by decide) (by decide) (by decide)]
                                have u_83_18 : (I_70 mo 18).toInt = (I mo 18).toInt := by rw [pf 18 (by decide) (by decide) (by decide) (by decide) (by decide)]
                                have er_78 : r_78 = sRl b nn nr nt cc (h + 4) := er_78
                                have sr_78 := er_78
                                rcases sRl_c er_78 with ⟨er_78, pr_78⟩ | ⟨er_78, pr_78⟩
                                · have hQ : mQ gh I_70 J_72 AI AJ_17 mo b nn nr nt cc 0 (h + 5) := by rw [er_78] at hQ; exact hQ
                                  have sr_78 : sRl b nn nr nt cc (h + 4) = (0, h + 5, cF b nn nr nt cc (h + 4)) := sr_78.symm.trans er_78
                                  have vlr_78 := q_81 (by rw [er_78])
                                  try rw [er_78] at vlr_78
                                  try dsimp only at vlr_78
                                  replace q_80 := (⟨q_80.1, q_80.2.1, q_80.2.2 (mQ_0 hQ rfl)⟩ : _ ∧ _ ∧ _)
                                  have vfr_78 := q_82 (by rw [er_78])
                                  try rw [er_78] at vfr_78
                                  try dsimp only at vfr_78
                                  obtain ⟨f0, ef0⟩ : ∃ q, q = (I_70 mo 24).toInt := ⟨_, rfl⟩
                                  have hr1 : Hid (f0 = 0 → v_76 < M) := fun h9 => by omega
                                  refine lv_istore_n (lv' := [(2, .int (iI v_76)), (1, .int (iI kd)), (0, .ref mo)]) F.1 F.2.1 dX7_viewTold_250 rfl hl (by decide) rfl (fun ls hl => ?_)
                                  refine lv_aload_n F.1 F.2.1 dX7_viewTold_251 rfl (lv_at hl 2 rfl) ?_
                                  refine z_bipush F dX7_viewTold_252 (by decide) ?_
                                  refine lv_aload_n F.1 F.2.1 dX7_viewTold_254 rfl (lv_at hl 2 rfl) ?_
                                  refine lv_iload_n F.1 F.2.1 dX7_viewTold_255 rfl (lv_at hl 0 rfl) ?_
                                  have b_85 := mJ hv hm
                                  unfold mNum1 at b_85
                                  refine g_calli (g_runV (As := [.int (iI v_76)]) (rest := [.int (iI 6), .ref mo]) (ci := 7) F hl.1 hH hS hz (c_X7_columns l g gh T I_70 R J_72 AI AJ_17 AR mo v_76 zv_76 hv hm hT (by omega)) (cwV 1 F.2.2.2.2.1 (good_up gT_X7_columns) rfl rfl rfl hdX7_columns ⟨Nat.le_of_ble_eq_true rfl, Nat.le_of_ble_eq_true rfl⟩) hm (by decide) rfl rfl rfl (Nat.le_of_ble_eq_true rfl) dX7_viewTold_256 ⟨Nat.zero_le _, Nat.zero_le _⟩) hS (fun v_92 I_86 R_87 J_88 AI_89 AJ_90 AR_91 H locs zv_92 hp_93 hH hS => ?_)
                                  dsimp only at hp_93
                                  obtain ⟨rfl, rfl, rfl, rfl, rfl, rfl, q_84⟩ := hp_93
                                  have cvv_92 : v_92 = cF b nn nr nt cc (h + 4) := q_84.trans ((mQ_c hQ rfl vlr_78.1 vlr_78.2.1).trans vlr_78.2.2)
                                  have hcol : Hid ((I_70 mo 24).toInt = 0 → 1 ≤ v_92 ∧ v_92 ≤ 4) := fun h => by have q9 := mCol hv hm (z := v_76) (by omega) (by omega); omega
                                  refine lv_iload_n F.1 F.2.1 dX7_viewTold_259 rfl (lv_at hl 0 rfl) ?_
                                  refine z_iconst F dX7_viewTold_260 ?_
                                  refine z_iconst F dX7_viewTold_261 ?_
                                  refine g_callv (g_runV (As := [.int (iI 6), .int (iI v_92), .int (iI v_76), .int (iI ((-1))), .int (iI 0)]) (rest := []) (ci := 7) F hl.1 hH hS hz (c_X7_headerg l g gh T M I_70 R J_72 AI AJ_17 AR mo 6 v_92 v_76 (-1) 0 ⟨by decide, by decide⟩ zv_92 zv_76 ⟨by decide, by decide⟩ ⟨by decide, by decide⟩ hv hm hT (by omega) (by omega)) (cwV 5 F.2.2.2.2.1 (good_up gT_X7_header) rfl rfl rfl hdX7_header ⟨Nat.le_of_ble_eq_true rfl, Nat.le_of_ble_eq_true rfl⟩) hm (by decide) rfl rfl rfl (Nat.le_of_ble_eq_true rfl) dX7_viewTold_262 ⟨Nat.zero_le _, Nat.zero_le _⟩) hS (fun I_94 R_95 J_96 AI_97 AJ_98 AR_99 H locs hp_100 hH hS => ?_)
                                  dsimp only at hp_100
                                  obtain ⟨rfl, rfl, rfl, rfl, rfl, hv, hT, hhd, q_101⟩ := hp_100
                                  replace hhd := hid hhd
                                  have hQ : mQ gh I_70 J_72 AI_97 AJ_17 mo b nn nr nt cc 0 (h + 5) := mQ_a hQ (fun hf9 z9 h09 h19 => (hhd hf9).1 z9 h09 (Or.inl (by omega)))
                                  have hfr := frM_h hfr (hhd (mQ_0 hQ rfl))
                                  have mc : mDis b nn nr nt (h + 4) _ M := ⟨(hhd (mQ_0 hQ rfl)).2.2.2.1.trans vfr_78, (hhd (mQ_0 hQ rfl)).2.2.2.2.1⟩
                                  have hV9 : sVk b nn (h + 2) = (0, h + 4, pV b nn (h + 3)) := by unfold sVk; exact thn_t sr_32 rfl (ite_y (by omega) rfl)
                                  have hfin : thn (f, h, 0) (fun t _ => sVwM b nn nr nt cc t) = (0, h + 5, cF b nn nr nt cc (h + 4)) := (thn_k q0).trans (by show sVwM b nn nr nt cc h = _; unfold sVwM; exact ite_n (by omega) (thn_t sr_20 rfl (thn_t hV9 rfl ((sBM_6 (by omega)).trans (sr_78)))))
                                  exact g_vret F hr hlk hH hS hz ⟨rfl, rfl, hv, hT, pf, by first | (dsimp only; omega) | omega | rfl, by first | exact hrow | ((try dsimp only); intro hf; exact absurd hf (by omega)) | ((try dsimp only); intro hf ht hn; exact row_mk (by omega) (hhd (by omega)) (by omega) (hcol (by omega)) (by omega) (by omega) (fun h => absurd h (by omega)) (fun h => absurd h (by omega)) (fun h => absurd h (by omega)) (fun h => absurd h (by omega)) (fun h => absurd h (by omega)) (fun h => absurd h (by omega)) (fun h => absurd h (by omega))), by (try dsimp only); intro hf; omega, by first | ((try dsimp only); intro hf; have q9 := hkq (by omega); omega) | ((try dsimp only); intro hf; exact absurd hf (by omega)) | ((try dsimp only); intro hf; have q9 := (hhd (by omega)).2.1; omega), by (try dsimp only); rw [hfin]; exact hQ, by (try dsimp only); rw [hfin]; first | exact (fun _ => trivial) | (have q9 := (hhd (mQ_0 hQ rfl)).2.2.1; rw [show M = (nr : Int) by omega] at q9; (try dsimp only); exact pIc_y (by omega)), by (try dsimp only); rw [hfin]; exact pJm_y vlr_20, by (try dsimp only); rw [hfin]; (try dsimp only); exact pIm_y (by have q9 := (hhd (mQ_0 hQ rfl)).2.1; rw [show M = (nr : Int) by omega] at q9; omega), by (try dsimp only); rw [hfin]; exact zIf_y (hfr), by (try dsimp only); rw [hfin]; exact zIf_y (by unfold mLn; rw [if_neg (by omega), if_neg (by omega), if_neg (by omega), if_neg (by omega), if_pos (by omega)]; exact mc), fun b hb => q_101 b hb⟩ dX7_viewTold_265
                                · have hQ : mQ gh I_70 J_72 AI AJ_17 mo b nn nr nt cc (pRf b nn nt nr (h + 4)) (h + 4) := by rw [er_78] at hQ; exact hQ
                                  have sr_78 := sr_78.symm.trans er_78
                                  have g9r_78 := mQ_f hQ (by omega)
                                  replace q_80 := (⟨q_80.1, q_80.2.1⟩ : _ ∧ _)
                                  obtain ⟨f0, ef0⟩ : ∃ q, q = (I_70 mo 24).toInt := ⟨_, rfl⟩
                                  have hr1 : Hid (f0 = 0 → v_76 < M) := fun h9 => by omega
                                  refine lv_istore_n (lv' := [(2, .int (iI v_76)), (1, .int (iI kd)), (0, .ref mo)]) F.1 F.2.1 dX7_viewTold_250 rfl hl (by decide) rfl (fun ls hl => ?_)
                                  refine lv_aload_n F.1 F.2.1 dX7_viewTold_251 rfl (lv_at hl 2 rfl) ?_
                                  refine z_bipush F dX7_viewTold_252 (by decide) ?_
                                  refine lv_aload_n F.1 F.2.1 dX7_viewTold_254 rfl (lv_at hl 2 rfl) ?_
                                  refine lv_iload_n F.1 F.2.1 dX7_viewTold_255 rfl (lv_at hl 0 rfl) ?_
                                  have b_103 := mJ hv hm
                                  unfold mNum1 at b_103
                                  refine g_calli (g_runV (As := [.int (iI v_76)]) (rest := [.int (iI 6), .ref mo]) (ci := 7) F hl.1 hH hS hz (c_X7_columns l g gh T I_70 R J_72 AI AJ_17 AR mo v_76 zv_76 hv hm hT (by omega)) (cwV 1 F.2.2.2.2.1 (good_up gT_X7_columns) rfl rfl rfl hdX7_columns ⟨Nat.le_of_ble_eq_true rfl, Nat.le_of_ble_eq_true rfl⟩) hm (by decide) rfl rfl rfl (Nat.le_of_ble_eq_true rfl) dX7_viewTold_256 ⟨Nat.zero_le _, Nat.zero_le _⟩) hS (fun v_110 I_104 R_105 J_106 AI_107 AJ_108 AR_109 H locs zv_110 hp_111 hH hS => ?_)
                                  dsimp only at hp_111
                                  obtain ⟨rfl, rfl, rfl, rfl, rfl, rfl, q_102⟩ := hp_111
                                  have hcol : Hid ((I_70 mo 24).toInt = 0 → 1 ≤ v_110 ∧ v_110 ≤ 4) := fun h => by have q9 := mCol hv hm (z := v_76) (by omega) (by omega); omega
                                  refine lv_iload_n F.1 F.2.1 dX7_viewTold_259 rfl (lv_at hl 0 rfl) ?_
                                  refine z_iconst F dX7_viewTold_260 ?_
                                  refine z_iconst F dX7_viewTold_261 ?_
                                  refine g_callv (g_runV (As := [.int (iI 6), .int (iI v_110), .int (iI v_76), .int (iI ((-1))), .int (iI 0)]) (rest := []) (ci := 7) F hl.1 hH hS hz (c_X7_headerg l g gh T M I_70 R J_72 AI AJ_17 AR mo 6 v_110 v_76 (-1) 0 ⟨by decide, by decide⟩ zv_110 zv_76 ⟨by decide, by decide⟩ ⟨by decide, by decide⟩ hv hm hT (by omega) (by omega)) (cwV 5 F.2.2.2.2.1 (good_up gT_X7_header) rfl rfl rfl hdX7_header ⟨Nat.le_of_ble_eq_true rfl, Nat.le_of_ble_eq_true rfl⟩) hm (by decide) rfl rfl rfl (Nat.le_of_ble_eq_true rfl) dX7_viewTold_262 ⟨Nat.zero_le _, Nat.zero_le _⟩) hS (fun I_112 R_113 J_114 AI_115 AJ_116 AR_117 H locs hp_118 hH hS => ?_)
                                  dsimp only at hp_118
                                  obtain ⟨rfl, rfl, rfl, rfl, rfl, hv, hT, hhd, q_119⟩ := hp_118
                                  replace hhd := hid hhd
                                  have hQ : mQ gh I_70 J_72 AI_115 AJ_17 mo b nn nr nt cc (pRf b nn nt nr (h + 4)) (h + 4) := mQ_bad hQ (by omega) rfl
                                  have hV9 : sVk b nn (h + 2) = (0, h + 4, pV b nn (h + 3)) := by unfold sVk; exact thn_t sr_32 rfl (ite_y (by omega) rfl)
                                  have hfin : thn (f, h, 0) (fun t _ => sVwM b nn nr nt cc t) = (pRf b nn nt nr (h + 4), h + 4, 0) := (thn_k q0).trans (by show sVwM b nn nr nt cc h = _; unfold sVwM; exact ite_n (by omega) (thn_t sr_20 rfl (thn_t hV9 rfl ((sBM_6 (by omega)).trans (sr_78)))))
                                  exact g_vret F hr hlk hH hS hz ⟨rfl, rfl, hv, hT, pf, by first | (dsimp only; omega) | omega | rfl, by (try dsimp only); exact (fun hf => absurd hf (by omega)), by (try dsimp only); exact (fun hf => absurd hf (by omega)), by (try dsimp only); exact (fun hf => absurd hf (by omega)), by (try dsimp only); rw [hfin]; exact hQ, by (try dsimp only); rw [hfin]; exact pIc_n (by omega), by (try dsimp only); rw [hfin]; exact pJm_n (by omega), by (try dsimp only); rw [hfin]; exact pIm_n (by omega), by (try dsimp only); rw [hfin]; exact zIf_n (by omega), by (try dsimp only); rw [hfin]; exact zIf_n (by omega), fun b hb => q_119 b hb⟩ dX7_viewTold_265
                              · refine lv_aload_n F.1 F.2.1 dX7_viewTold_239 rfl (lv_at hl 1 rfl) ?_
                                refine g_callv (g_runV (As := []) (rest := []) (ci := 7) F hl.1 hH hS hz (c_X7_ringToldg l g gh T M b nn nr nt cc 0 (h + 4) I_40 R J_42 AI AJ_17 AR mo hv hm hT (by omega) (by omega) (by omega) h65 hbM hr7 (by omega) hn9 (by omega) hQ) (cwV 0 F.2.2.2.2.1 (good_up gT_X7_ringTold) rfl rfl rfl hdX7_ringTold ⟨Nat.le_of_ble_eq_true rfl, Nat.le_of_ble_eq_true rfl⟩) hm (by decide) rfl rfl rfl (Nat.le_of_ble_eq_true rfl) dX7_viewTold_240 ⟨Nat.zero_le _, Nat.zero_le _⟩) hS (fun I_120 R_121 J_122 AI_123 AJ_124 AR_125 H locs hp_126 hH hS => ?_)
                                dsimp only at hp_126
                                obtain ⟨r_127, er_127⟩ : ∃ qQ : pR, qQ = thn (0, (h + 4), 0) (fun t _ => sRngM b nn nr nt cc t) := ⟨_, rfl⟩
                                rw [← er_127] at hp_126
                                obtain ⟨rfl, rfl, rfl, hv, hT, pfq, q_128, hrow, hkq, hQ, q_129, hfrq, mcq, q_130⟩ := hp_126
                                have pf := qF_t pf pfq
                                have u_131_2 : (I_120 mo 2).toInt = (I mo 2).toInt := by rw [pf 2 (by decide) (by decide) (by decide) (by decide) (by decide)]
                                have u_131_5 : (I_120 mo 5).toInt = (I mo 5).toInt := by rw [pf 5 (by decide) (by decide) (by decide) (by decide) (by decide)]
                                have u_131_14 : (I_120 mo 14).toInt = (I mo 14).toInt := by rw [pf 14 (by decide) (by decide) (by decide) (by decide) (by decide)]
                                have u_131_16 : (I_120 mo 16).toInt = (I mo 16).toInt := by rw [pf 16 (by decide) (by decide) (by decide) (by decide) (by decide)]
                                have u_131_18 : (I_120 mo 18).toInt = (I mo 18).toInt := by rw [pf 18 (by decide) (by decide) (by decide) (by decide) (by decide)]
                                have er_127 : r_127 = sRngM b nn nr nt cc (h + 4) := er_127
                                by_cases pr_127 : r_127.1 = 0
                                · have hQ := mQ_ok hQ pr_127
                                  have vlr_127_7 := q_129 pr_127
                                  replace hrow := hid hrow
                                  replace hkq := hid hkq
                                  have hfr := frM_t hfr (hfrq pr_127)
                                  have mc := mcq pr_127
                                  refine z_goto (tgt := 265) F dX7_viewTold_243 (by decide) ?_
                                  have hV9 : sVk b nn (h + 2) = (0, h + 4, pV b nn (h + 3)) := by unfold sVk; exact thn_t sr_32 rfl (ite_y (by omega) rfl)
                                  have hfin : thn (f, h, 0) (fun t _ => sVwM b nn nr nt cc t) = (0, r_127.2.1, r_127.2.2) := (thn_k q0).trans (by show sVwM b nn nr nt cc h = _; unfold sVwM; exact ite_n (by omega) (thn_t sr_20 rfl (thn_t hV9 rfl ((sBM_8 (by omega)).trans (er_127.symm.trans (pr_x pr_127))))))
                                  exact g_vret F hr hlk hH hS hz ⟨rfl, rfl, hv, hT, pf, by first | (dsimp only; omega) | omega | rfl, by first | exact hrow | ((try dsimp only); intro hf; exact absurd hf (by omega)) | ((try dsimp only); intro hf ht hn; exact row_mk (by omega) (hhd (by omega)) (by omega) (hcol (by omega)) (by omega) (by omega) (fun h => absurd h (by omega)) (fun h => absurd h (by omega)) (fun h => absurd h (by omega)) (fun h => absurd h (by omega)) (fun h => absurd h (by omega)) (fun h => absurd h (by omega)) (fun h => absurd h (by omega))), by (try dsimp only); intro hf; omega, by first | ((try dsimp only); intro hf; have q9 := hkq (by omega); omega) | ((try dsimp only); intro hf; exact absurd hf (by omega)) | ((try dsimp only); intro hf; have q9 := (hhd (by omega)).2.1; omega), by (try dsimp only); rw [hfin]; exact hQ, by (try dsimp only); rw [hfin]; first | exact (fun _ => vlr_127_7) | (have q9 := (hhd (mQ_0 hQ rfl)).2.2.1; rw [show M = (nr : Int) by omega] at q9; (try dsimp only); exact pIc_y (by omega)), by (try dsimp only); rw [hfin]; exact pJm_y vlr_20, by (try dsimp only); rw [hfin]; (try dsimp only); exact pIm_y (by have q9 := hkq (mQ_0 hQ rfl); rw [show M = (nr : Int) by omega] at q9; omega), by (try dsimp only); rw [hfin]; exact zIf_y (hfr), by (try dsimp only); rw [hfin]; exact zIf_y (by unfold mLn; rw [if_neg (by omega), if_neg (by omega), if_neg (by omega), if_neg (by omega), if_neg (by omega), if_neg (by omega), if_pos (by omega)]; exact mc), fun b hb => q_130 b hb⟩ dX7_viewTold_265
                                · have g9r_127 := mQ_f hQ pr_127
                                  have g8r_127 := mQ_p hQ
                                  replace hrow := hid hrow
                                  replace hkq := hid hkq
                                  refine z_goto (tgt := 265) F dX7_viewTold_243 (by decide) ?_
                                  have hV9 : sVk b nn (h + 2) = (0, h + 4, pV b nn (h + 3)) := by unfold sVk; exact thn_t sr_32 rfl (ite_y (by omega) rfl)
                                  have hfin : thn (f, h, 0) (fun t _ => sVwM b nn nr nt cc t) = r_127 := (thn_k q0).trans (by show sVwM b nn nr nt cc h = _; unfold sVwM; exact ite_n (by omega) (thn_t sr_20 rfl (thn_t hV9 rfl ((sBM_8 (by omega)).trans (er_127.symm)))))
                                  exact g_vret F hr hlk hH hS hz ⟨rfl, rfl, hv, hT, pf, by first | (dsimp only; omega) | omega | rfl, by (try dsimp only); exact (fun hf => absurd hf (by omega)), by (try dsimp only); exact (fun hf => absurd hf (by omega)), by (try dsimp only); exact (fun hf => absurd hf (by omega)), by (try dsimp only); rw [hfin]; exact hQ, by (try dsimp only); rw [hfin]; exact pIc_n (by omega), by (try dsimp only); rw [hfin]; exact pJm_n (by omega), by (try dsimp only); rw [hfin]; exact pIm_n (by omega), by (try dsimp only); rw [hfin]; exact zIf_n (by omega), by (try dsimp only); rw [hfin]; exact zIf_n (by omega), fun b hb => q_130 b hb⟩ dX7_viewTold_265
                            · refine lv_aload_n F.1 F.2.1 dX7_viewTold_226 rfl (lv_at hl 1 rfl) ?_
                              refine g_callv (g_runV (As := []) (rest := []) (ci := 7) F hl.1 hH hS hz (c_X7_groupToldg l g gh T M b nn nr nt cc 0 (h + 4) I_40 R J_42 AI AJ_17 AR mo hv hm hT (by omega) (by omega) (by omega) h65 hbM hr7 (by omega) hn9 (by omega) hQ) (cwV 0 F.2.2.2.2.1 (good_up gT_X7_groupTold) rfl rfl rfl hdX7_groupTold ⟨Nat.le_of_ble_eq_true rfl, Nat.le_of_ble_eq_true rfl⟩) hm (by decide) rfl rfl rfl (Nat.le_of_ble_eq_true rfl) dX7_viewTold_227 ⟨Nat.zero_le _, Nat.zero_le _⟩) hS (fun I_132 R_133 J_134 AI_135 AJ_136 AR_137 H locs hp_138 hH hS => ?_)
                              dsimp only at hp_138
                              obtain ⟨r_139, er_139⟩ : ∃ qQ : pR, qQ = thn (0, (h + 4), 0) (fun t _ => sGrp b nn nr nt cc t) := ⟨_, rfl⟩
                              rw [← er_139] at hp_138
                              obtain ⟨rfl, rfl, rfl, hv, hT, pfq, q_140, hrow, hkq, hQ, q_141, hfrq, mcq, q_142⟩ := hp_138
                              have pf := qF_t pf pfq
                              have u_143_2 : (I_132 mo 2).toInt = (I mo 2).toInt := by rw [pf 2 (by decide) (by decide) (by decide) (by decide) (by decide)]
                              have u_143_5 : (I_132 mo 5).toInt = (I mo 5).toInt := by rw [pf 5 (by decide) (by decide) (by decide) (by decide) (by decide)]
                              have u_143_14 : (I_132 mo 14).toInt = (I mo 14).toInt := by rw [pf 14 (by decide) (by decide) (by decide) (by decide) (by decide)]
                              have u_143_16 : (I_132 mo 16).toInt = (I mo 16).toInt := by rw [pf 16 (by decide) (by decide) (by decide) (by decide) (by decide)]
                              have u_143_18 : (I_132 mo 18).toInt = (I mo 18).toInt := by rw [pf 18 (by decide) (by decide) (by decide) (by decide) (by decide)]
                              have er_139 : r_139 = sGrp b nn nr nt cc (h + 4) := er_139
                              by_cases pr_139 : r_139.1 = 0
                              · have hQ := mQ_ok hQ pr_139
                                have vlr_139_7 := q_141 pr_139
                                replace hrow := hid hrow
                                replace hkq := hid hkq
                                have hfr := frM_t hfr (hfrq pr_139)
                                have mc := mcq pr_139
                                refine z_goto (tgt := 265) F dX7_viewTold_230 (by decide) ?_
                                have hV9 : sVk b nn (h + 2) = (0, h + 4, pV b nn (h + 3)) := by unfold sVk; exact thn_t sr_32 rfl (ite_y (by omega) rfl)
                                have hfin : thn (f, h, 0) (fun t _ => sVwM b nn nr nt cc t) = (0, r_139.2.1, r_139.2.2) := (thn_k q0).trans (by show sVwM b nn nr nt cc h = _; unfold sVwM; exact ite_n (by omega) (thn_t sr_20 rfl (thn_t hV9 rfl ((sBM_7 (by omega)).trans (er_139.symm.trans (pr_x pr_139))))))
                                exact g_vret F hr hlk hH hS hz ⟨rfl, rfl, hv, hT, pf, by first | (dsimp only; omega) | omega | rfl, by first | exact hrow | ((try dsimp only); intro hf; exact absurd hf (by omega)) | ((try dsimp only); intro hf ht hn; exact row_mk (by omega) (hhd (by omega)) (by omega) (hcol (by omega)) (by omega) (by omega) (fun h => absurd h (by omega)) (fun h => absurd h (by omega)) (fun h => absurd h (by omega)) (fun h => absurd h (by omega)) (fun h => absurd h (by omega)) (fun h => absurd h (by omega)) (fun h => absurd h (by omega))), by (try dsimp only); intro hf; omega, by first | ((try dsimp only); intro hf; have q9 := hkq (by omega); omega) | ((try dsimp only); intro hf; exact absurd hf (by omega)) | ((try dsimp only); intro hf; have q9 := (hhd (by omega)).2.1; omega), by (try dsimp only); rw [hfin]; exact hQ, by (try dsimp only); rw [hfin]; first | exact (fun _ => vlr_139_7) | (have q9 := (hhd (mQ_0 hQ rfl)).2.2.1; rw [show M = (nr : Int) by omega] at q9; (try dsimp only); exact pIc_y (by omega)), by (try dsimp only); rw [hfin]; exact pJm_y vlr_20, by (try dsimp only); rw [hfin]; (try dsimp only); exact pIm_y (by have q9 := hkq (mQ_0 hQ rfl); rw [show M = (nr : Int) by omega] at q9; omega), by (try dsimp only); rw [hfin]; exact zIf_y (hfr), by (try dsimp only); rw [hfin]; exact zIf_y (by unfold mLn; rw [if_neg (by omega), if_neg (by omega), if_neg (by omega), if_neg (by omega), if_neg (by omega), if_pos (by omega)]; exact mc), fun b hb => q_142 b hb⟩ dX7_viewTold_265
                              · have g9r_139 := mQ_f hQ pr_139
                                have g8r_139 := mQ_p hQ
                                replace hrow := hid hrow
                                replace hkq := hid hkq
                                refine z_goto (tgt := 265) F dX7_viewTold_230 (by decide) ?_
                                have hV9 : sVk b nn (h + 2) = (0, h + 4, pV b nn (h + 3)) := by unfold sVk; exact thn_t sr_32 rfl (ite_y (by omega) rfl)
                                have hfin : thn (f, h, 0) (fun t _ => sVwM b nn nr nt cc t) = r_139 := (thn_k q0).trans (by show sVwM b nn nr nt cc h = _; unfold sVwM; exact ite_n (by omega) (thn_t sr_20 rfl (thn_t hV9 rfl ((sBM_7 (by omega)).trans (er_139.symm)))))
                                exact g_vret F hr hlk hH hS hz ⟨rfl, rfl, hv, hT, pf, by first | (dsimp only; omega) | omega | rfl, by (try dsimp only); exact (fun hf => absurd hf (by omega)), by (try dsimp only); exact (fun hf => absurd hf (by omega)), by (try dsimp only); exact (fun hf => absurd hf (by omega)), by (try dsimp only); rw [hfin]; exact hQ, by (try dsimp only); rw [hfin]; exact pIc_n (by omega), by (try dsimp only); rw [hfin]; exact pJm_n (by omega), by (try dsimp only); rw [hfin]; exact pIm_n (by omega), by (try dsimp only); rw [hfin]; exact zIf_n (by omega), by (try dsimp only); rw [hfin]; exact zIf_n (by omega), fun b hb => q_142 b hb⟩ dX7_viewTold_265
                          · refine lv_aload_n F.1 F.2.1 dX7_viewTold_212 rfl (lv_at hl 1 rfl) ?_
                            refine lv_iload_n F.1 F.2.1 dX7_viewTold_213 rfl (lv_at hl 0 rfl) ?_
                            refine g_callv (g_runV (As := [.int (iI kd)]) (rest := []) (ci := 7) F hl.1 hH hS hz (c_X7_bothToldg l g gh T M b nn nr nt cc 0 (h + 4) I_40 R J_42 AI AJ_17 AR mo kd zkd hv hm hT (by omega) (by omega) (by omega) (by omega) h65 hbM hr7 (by omega) hn9 (by omega) hQ) (cwV 1 F.2.2.2.2.1 (good_up gT_X7_bothTold) rfl rfl rfl hdX7_bothTold ⟨Nat.le_of_ble_eq_true rfl, Nat.le_of_ble_eq_true rfl⟩) hm (by decide) rfl rfl rfl (Nat.le_of_ble_eq_true rfl) dX7_viewTold_214 ⟨Nat.zero_le _, Nat.zero_le _⟩) hS (fun I_144 R_145 J_146 AI_147 AJ_148 AR_149 H locs hp_150 hH hS => ?_)
                            dsimp only at hp_150
                            obtain ⟨r_151, er_151⟩ : ∃ qQ : pR, qQ = thn (0, (h + 4), 0) (fun t _ => sTwo b nn nr nt cc t) := ⟨_, rfl⟩
                            rw [← er_151] at hp_150
                            obtain ⟨rfl, rfl, rfl, hv, hT, pfq, q_152, hrow, hkq, hQ, q_153, hfrq, mcq, q_154⟩ := hp_150
                            have pf := qF_t pf pfq
                            have u_155_2 : (I_144 mo 2).toInt = (I mo 2).toInt := by rw [pf 2 (by decide) (by decide) (by decide) (by decide) (by decide)]
                            have u_155_5 : (I_144 mo 5).toInt = (I mo 5).toInt := by rw [pf 5 (by decide) (by decide) (by decide) (by decide) (by decide)]
                            have u_155_14 : (I_144 mo 14).toInt = (I mo 14).toInt := by rw [pf 14 (by decide) (by decide) (by decide) (by decide) (by decide)]
                            have u_155_16 : (I_144 mo 16).toInt = (I mo 16).toInt := by rw [pf 16 (by decide) (by decide) (by decide) (by decide) (by decide)]
                            have u_155_18 : (I_144 mo 18).toInt = (I mo 18).toInt := by rw [pf 18 (by decide) (by decide) (by decide) (by decide) (by decide)]
                            have er_151 : r_151 = sTwo b nn nr nt cc (h + 4) := er_151
                            by_cases pr_151 : r_151.1 = 0
                            · have hQ := mQ_ok hQ pr_151
                              have vlr_151_7 := q_153 pr_151
                              replace hrow := hid hrow
                              replace hkq := hid hkq
                              have hfr := frM_t hfr (hfrq pr_151)
                              have mc := mcq pr_151
                              refine z_goto (tgt := 265) F dX7_viewTold_217 (by decide) ?_
                              have hV9 : sVk b nn (h + 2) = (0, h + 4, pV b nn (h + 3)) := by unfold sVk; exact thn_t sr_32 rfl (ite_y (by omega) rfl)
                              have hfin : thn (f, h, 0) (fun t _ => sVwM b nn nr nt cc t) = (0, r_151.2.1, r_151.2.2) := (thn_k q0).trans (by show sVwM b nn nr nt cc h = _; unfold sVwM; exact ite_n (by omega) (thn_t sr_20 rfl (thn_t hV9 rfl ((sBM_5 (by omega)).trans (er_151.symm.trans (pr_x pr_151))))))
                              exact g_vret F hr hlk hH hS hz ⟨rfl, rfl, hv, hT, pf, by first | (dsimp only; omega) | omega | rfl, by first | exact hrow | ((try dsimp only); intro hf; exact absurd hf (by omega)) | ((try dsimp only); intro hf ht hn; exact row_mk (by omega) (hhd (by omega)) (by omega) (hcol (by omega)) (by omega) (by omega) (fun h => absurd h (by omega)) (fun h => absurd h (by omega)) (fun h => absurd h (by omega)) (fun h => absurd h (by omega)) (fun h => absurd h (by omega)) (fun h => absurd h (by omega)) (fun h => absurd h (by omega))), by (try dsimp only); intro hf; omega, by first | ((try dsimp only); intro hf; have q9 := hkq (by omega); omega) | ((try dsimp only); intro hf; exact absurd hf (by omega)) | ((try dsimp only); intro hf; have q9 := (hhd (by omega)).2.1; omega), by (try dsimp only); rw [hfin]; exact hQ, by (try dsimp only); rw [hfin]; first | exact (fun _ => vlr_151_7) | (have q9 := (hhd (mQ_0 hQ rfl)).2.2.1; rw [show M = (nr : Int) by omega] at q9; (try dsimp only); exact pIc_y (by omega)), by (try dsimp only); rw [hfin]; exact pJm_y vlr_20, by (try dsimp only); rw [hfin]; (try dsimp only); exact pIm_y (by have q9 := hkq (mQ_0 hQ rfl); rw [show M = (nr : Int) by omega] at q9; omega), by (try dsimp only); rw [hfin]; exact zIf_y (hfr), by (try dsimp only); rw [hfin]; exact zIf_y (by unfold mLn; rw [if_neg (by omega), if_neg (by omega), if_neg (by omega), if_pos (by omega)]; exact mc), fun b hb => q_154 b hb⟩ dX7_viewTold_265
                            · have g9r_151 := mQ_f hQ pr_151
                              have g8r_151 := mQ_p hQ
                              replace hrow := hid hrow
                              replace hkq := hid hkq
                              refine z_goto (tgt := 265) F dX7_viewTold_217 (by decide) ?_
                              have hV9 : sVk b nn (h + 2) = (0, h + 4, pV b nn (h + 3)) := by unfold sVk; exact thn_t sr_32 rfl (ite_y (by omega) rfl)
                              have hfin : thn (f, h, 0) (fun t _ => sVwM b nn nr nt cc t) = r_151 := (thn_k q0).trans (by show sVwM b nn nr nt cc h = _; unfold sVwM; exact ite_n (by omega) (thn_t sr_20 rfl (thn_t hV9 rfl ((sBM_5 (by omega)).trans (er_151.symm)))))
                              exact g_vret F hr hlk hH hS hz ⟨rfl, rfl, hv, hT, pf, by first | (dsimp only; omega) | omega | rfl, by (try dsimp only); exact (fun hf => absurd hf (by omega)), by (try dsimp only); exact (fun hf => absurd hf (by omega)), by (try dsimp only); exact (fun hf => absurd hf (by omega)), by (try dsimp only); rw [hfin]; exact hQ, by (try dsimp only); rw [hfin]; exact pIc_n (by omega), by (try dsimp only); rw [hfin]; exact pJm_n (by omega), by (try dsimp only); rw [hfin]; exact pIm_n (by omega), by (try dsimp only); rw [hfin]; exact zIf_n (by omega), by (try dsimp only); rw [hfin]; exact zIf_n (by omega), fun b hb => q_154 b hb⟩ dX7_viewTold_265
                      · refine lv_aload_n F.1 F.2.1 dX7_viewTold_195 rfl (lv_at hl 1 rfl) ?_
                        refine g_callv (g_runV (As := []) (rest := []) (ci := 7) F hl.1 hH hS hz (c_X7_joinToldg l g gh T M b nn nr nt cc 0 (h + 4) I_40 R J_42 AI AJ_17 AR mo hv hm hT (by omega) (by omega) (by omega) h65 hbM hr7 (by omega) hn9 (by omega) hQ) (cwV 0 F.2.2.2.2.1 (good_up gT_X7_joinTold) rfl rfl rfl hdX7_joinTold ⟨Nat.le_of_ble_eq_true rfl, Nat.le_of_ble_eq_true rfl⟩) hm (by decide) rfl rfl rfl (Nat.le_of_ble_eq_true rfl) dX7_viewTold_196 ⟨Nat.zero_le _, Nat.zero_le _⟩) hS (fun I_156 R_157 J_158 AI_159 AJ_160 AR_161 H locs hp_162 hH hS => ?_)
                        dsimp only at hp_162
                        obtain ⟨r_163, er_163⟩ : ∃ qQ : pR, qQ = thn (0, (h + 4), 0) (fun t _ => sJoiM b nn nr nt cc t) := ⟨_, rfl⟩
                        rw [← er_163] at hp_162
                        obtain ⟨rfl, rfl, rfl, hv, hT, pfq, q_164, hrow, hkq, hQ, q_165, hfrq, mcq, q_166⟩ := hp_162
                        have pf := qF_t pf pfq
                        have u_167_2 : (I_156 mo 2).toInt = (I mo 2).toInt := by rw [pf 2 (by decide) (by decide) (by decide) (by decide) (by decide)]
                        have u_167_5 : (I_156 mo 5).toInt = (I mo 5).toInt := by rw [pf 5 (by decide) (by decide) (by decide) (by decide) (by decide)]
                        have u_167_14 : (I_156 mo 14).toInt = (I mo 14).toInt := by rw [pf 14 (by decide) (by decide) (by decide) (by decide) (by decide)]
                        have u_167_16 : (I_156 mo 16).toInt = (I mo 16).toInt := by rw [pf 16 (by decide) (by decide) (by decide) (by decide) (by decide)]
                        have u_167_18 : (I_156 mo 18).toInt = (I mo 18).toInt := by rw [pf 18 (by decide) (by decide) (by decide) (by decide) (by decide)]
                        have er_163 : r_163 = sJoiM b nn nr nt cc (h + 4) := er_163
                        by_cases pr_163 : r_163.1 = 0
                        · have hQ := mQ_ok hQ pr_163
                          have vlr_163_7 := q_165 pr_163
                          replace hrow := hid hrow
                          replace hkq := hid hkq
                          have hfr := frM_t hfr (hfrq pr_163)
                          have mc := mcq pr_163
                          refine z_goto (tgt := 265) F dX7_viewTold_199 (by decide) ?_
                          have hV9 : sVk b nn (h + 2) = (0, h + 4, pV b nn (h + 3)) := by unfold sVk; exact thn_t sr_32 rfl (ite_y (by omega) rfl)
                          have hfin : thn (f, h, 0) (fun t _ => sVwM b nn nr nt cc t) = (0, r_163.2.1, r_163.2.2) := (thn_k q0).trans (by show sVwM b nn nr nt cc h = _; unfold sVwM; exact ite_n (by omega) (thn_t sr_20 rfl (thn_t hV9 rfl ((sBM_3 (by omega)).trans (er_163.symm.trans (pr_x pr_163))))))
                          exact g_vret F hr hlk hH hS hz ⟨rfl, rfl, hv, hT, pf, by first | (dsimp only; omega) | omega | rfl, by first | exact hrow | ((try dsimp only); intro hf; exact absurd hf (by omega)) | ((try dsimp only); intro hf ht hn; exact row_mk (by omega) (hhd (by omega)) (by omega) (hcol (by omega)) (by omega) (by omega) (fun h => absurd h (by omega)) (fun h => absurd h (by omega)) (fun h => absurd h (by omega)) (fun h => absurd h (by omega)) (fun h => absurd h (by omega)) (fun h => absurd h (by omega)) (fun h => absurd h (by omega))), by (try dsimp only); intro hf; omega, by first | ((try dsimp only); intro hf; have q9 := hkq (by omega); omega) | ((try dsimp only); intro hf; exact absurd hf (by omega)) | ((try dsimp only); intro hf; have q9 := (hhd (by omega)).2.1; omega), by (try dsimp only); rw [hfin]; exact hQ, by (try dsimp only); rw [hfin]; first | exact (fun _ => vlr_163_7) | (have q9 := (hhd (mQ_0 hQ rfl)).2.2.1; rw [show M = (nr : Int) by omega] at q9; (try dsimp only); exact pIc_y (by omega)), by (try dsimp only); rw [hfin]; exact pJm_y vlr_20, by (try dsimp only); rw [hfin]; (try dsimp only); exact pIm_y (by have q9 := hkq (mQ_0 hQ rfl); rw [show M = (nr : Int) by omega] at q9; omega), by (try dsimp only); rw [hfin]; exact zIf_y (hfr), by (try dsimp only); rw [hfin]; exact zIf_y (by unfold mLn; rw [if_neg (by omega), if_neg (by omega), if_pos (by omega)]; exact mc), fun b hb => q_166 b hb⟩ dX7_viewTold_265
                        · have g9r_163 := mQ_f hQ pr_163
                          have g8r_163 := mQ_p hQ
                          replace hrow := hid hrow
                          replace hkq := hid hkq
                          refine z_goto (tgt := 265) F dX7_viewTold_199 (by decide) ?_
                          have hV9 : sVk b nn (h + 2) = (0, h + 4, pV b nn (h + 3)) := by unfold sVk; exact thn_t sr_32 rfl (ite_y (by omega) rfl)
                          have hfin : thn (f, h, 0) (fun t _ => sVwM b nn nr nt cc t) = r_163 := (thn_k q0).trans (by show sVwM b nn nr nt cc h = _; unfold sVwM; exact ite_n (by omega) (thn_t sr_20 rfl (thn_t hV9 rfl ((sBM_3 (by omega)).trans (er_163.symm)))))
                          exact g_vret F hr hlk hH hS hz ⟨rfl, rfl, hv, hT, pf, by first | (dsimp only; omega) | omega | rfl, by (try dsimp only); exact (fun hf => absurd hf (by omega)), by (try dsimp only); exact (fun hf => absurd hf (by omega)), by (try dsimp only); exact (fun hf => absurd hf (by omega)), by (try dsimp only); rw [hfin]; exact hQ, by (try dsimp only); rw [hfin]; exact pIc_n (by omega), by (try dsimp only); rw [hfin]; exact pJm_n (by omega), by (try dsimp only); rw [hfin]; exact pIm_n (by omega), by (try dsimp only); rw [hfin]; exact zIf_n (by omega), by (try dsimp only); rw [hfin]; exact zIf_n (by omega), fun b hb => q_166 b hb⟩ dX7_viewTold_265
                    · refine lv_aload_n F.1 F.2.1 dX7_viewTold_183 rfl (lv_at hl 1 rfl) ?_
                      refine g_callv (g_runV (As := []) (rest := []) (ci := 7) F hl.1 hH hS hz (c_X7_projectToldg l g gh T M b nn nr nt cc 0 (h + 4) I_40 R J_42 AI AJ_17 AR mo hv hm hT (by omega) (by omega) (by omega) h65 hbM hr7 (by omega) hn9 (by omega) hQ) (cwV 0 F.2.2.2.2.1 (good_up gT_X7_projectTold) rfl rfl rfl hdX7_projectTold ⟨Nat.le_of_ble_eq_true rfl, Nat.le_of_ble_eq_true rfl⟩) hm (by decide) rfl rfl rfl (Nat.le_of_ble_eq_true rfl) dX7_viewTold_184 ⟨Nat.zero_le _, Nat.zero_le _⟩) hS (fun I_168 R_169 J_170 AI_171 AJ_172 AR_173 H locs hp_174 hH hS => ?_)
                      dsimp only at hp_174
                      obtain ⟨r_175, er_175⟩ : ∃ qQ : pR, qQ = thn (0, (h + 4), 0) (fun t _ => sPrj b nn nr nt cc t) := ⟨_, rfl⟩
                      rw [← er_175] at hp_174
                      obtain ⟨rfl, rfl, rfl, hv, hT, pfq, q_176, hrow, hkq, hQ, q_177, hfrq, mcq, q_178⟩ := hp_174
                      have pf := qF_t pf pfq
                      have u_179_2 : (I_168 mo 2).toInt = (I mo 2).toInt := by rw [pf 2 (by decide) (by decide) (by decide) (by decide) (by decide)]
                      have u_179_5 : (I_168 mo 5).toInt = (I mo 5).toInt := by rw [pf 5 (by decide) (by decide) (by decide) (by decide) (by decide)]
                      have u_179_14 : (I_168 mo 14).toInt = (I mo 14).toInt := by rw [pf 14 (by decide) (by decide) (by decide) (by decide) (by decide)]
                      have u_179_16 : (I_168 mo 16).toInt = (I mo 16).toInt := by rw [pf 16 (by decide) (by decide) (by decide) (by decide) (by decide)]
                      have u_179_18 : (I_168 mo 18).toInt = (I mo 18).toInt := by rw [pf 18 (by decide) (by decide) (by decide) (by decide) (by decide)]
                      have er_175 : r_175 = sPrj b nn nr nt cc (h + 4) := er_175
                      by_cases pr_175 : r_175.1 = 0
                      · have hQ := mQ_ok hQ pr_175
                        have vlr_175_7 := q_177 pr_175
                        replace hrow := hid hrow
                        replace hkq := hid hkq
                        have hfr := frM_t hfr (hfrq pr_175)
                        have mc := mcq pr_175
                        refine z_goto (tgt := 265) F dX7_viewTold_187 (by decide) ?_
                        have hV9 : sVk b nn (h + 2) = (0, h + 4, pV b nn (h + 3)) := by unfold sVk; exact thn_t sr_32 rfl (ite_y (by omega) rfl)
                        have hfin : thn (f, h, 0) (fun t _ => sVwM b nn nr nt cc t) = (0, r_175.2.1, r_175.2.2) := (thn_k q0).trans (by show sVwM b nn nr nt cc h = _; unfold sVwM; exact ite_n (by omega) (thn_t sr_20 rfl (thn_t hV9 rfl ((sBM_2 (by omega)).trans (er_175.symm.trans (pr_x pr_175))))))
                        exact g_vret F hr hlk hH hS hz ⟨rfl, rfl, hv, hT, pf, by first | (dsimp only; omega) | omega | rfl, by first | exact hrow | ((try dsimp only); intro hf; exact absurd hf (by omega)) | ((try dsimp only); intro hf ht hn; exact row_mk (by omega) (hhd (by omega)) (by omega) (hcol (by omega)) (by omega) (by omega) (fun h => absurd h (by omega)) (fun h => absurd h (by omega)) (fun h => absurd h (by omega)) (fun h => absurd h (by omega)) (fun h => absurd h (by omega)) (fun h => absurd h (by omega)) (fun h => absurd h (by omega))), by (try dsimp only); intro hf; omega, by first | ((try dsimp only); intro hf; have q9 := hkq (by omega); omega) | ((try dsimp only); intro hf; exact absurd hf (by omega)) | ((try dsimp only); intro hf; have q9 := (hhd (by omega)).2.1; omega), by (try dsimp only); rw [hfin]; exact hQ, by (try dsimp only); rw [hfin]; first | exact (fun _ => vlr_175_7) | (have q9 := (hhd (mQ_0 hQ rfl)).2.2.1; rw [show M = (nr : Int) by omega] at q9; (try dsimp only); exact pIc_y (by omega)), by (try dsimp only); rw [hfin]; exact pJm_y vlr_20, by (try dsimp only); rw [hfin]; (try dsimp only); exact pIm_y (by have q9 := hkq (mQ_0 hQ rfl); rw [show M = (nr : Int) by omega] at q9; omega), by (try dsimp only); rw [hfin]; exact zIf_y (hfr), by (try dsimp only); rw [hfin]; exact zIf_y (by unfold mLn; rw [if_neg (by omega), if_pos (by omega)]; exact mc), fun b hb => q_178 b hb⟩ dX7_viewTold_265
                      · have g9r_175 := mQ_f hQ pr_175
                        have g8r_175 := mQ_p hQ
                        replace hrow := hid hrow
                        replace hkq := hid hkq
                        refine z_goto (tgt := 265) F dX7_viewTold_187 (by decide) ?_
                        have hV9 : sVk b nn (h + 2) = (0, h + 4, pV b nn (h + 3)) := by unfold sVk; exact thn_t sr_32 rfl (ite_y (by omega) rfl)
                        have hfin : thn (f, h, 0) (fun t _ => sVwM b nn nr nt cc t) = r_175 := (thn_k q0).trans (by show sVwM b nn nr nt cc h = _; unfold sVwM; exact ite_n (by omega) (thn_t sr_20 rfl (thn_t hV9 rfl ((sBM_2 (by omega)).trans (er_175.symm)))))
                        exact g_vret F hr hlk hH hS hz ⟨rfl, rfl, hv, hT, pf, by first | (dsimp only; omega) | omega | rfl, by (try dsimp only); exact (fun hf => absurd hf (by omega)), by (try dsimp only); exact (fun hf => absurd hf (by omega)), by (try dsimp only); exact (fun hf => absurd hf (by omega)), by (try dsimp only); rw [hfin]; exact hQ, by (try dsimp only); rw [hfin]; exact pIc_n (by omega), by (try dsimp only); rw [hfin]; exact pJm_n (by omega), by (try dsimp only); rw [hfin]; exact pIm_n (by omega), by (try dsimp only); rw [hfin]; exact zIf_n (by omega), by (try dsimp only); rw [hfin]; exact zIf_n (by omega), fun b hb => q_178 b hb⟩ dX7_viewTold_265
                  · refine lv_aload_n F.1 F.2.1 dX7_viewTold_171 rfl (lv_at hl 1 rfl) ?_
                    refine g_callv (g_runV (As := []) (rest := []) (ci := 7) F hl.1 hH hS hz (c_X7_selectToldg l g gh T M b nn nr nt cc 0 (h + 4) I_40 R J_42 AI AJ_17 AR mo hv hm hT (by omega) (by omega) (by omega) h65 hbM hr7 (by omega) hn9 (by omega) hQ) (cwV 0 F.2.2.2.2.1 (good_up gT_X7_selectTold) rfl rfl rfl hdX7_selectTold ⟨Nat.le_of_ble_eq_true rfl, Nat.le_of_ble_eq_true rfl⟩) hm (by decide) rfl rfl rfl (Nat.le_of_ble_eq_true rfl) dX7_viewTold_172 ⟨Nat.zero_le _, Nat.zero_le _⟩) hS (fun I_180 R_181 J_182 AI_183 AJ_184 AR_185 H locs hp_186 hH hS => ?_)
                    dsimp only at hp_186
                    obtain ⟨r_187, er_187⟩ : ∃ qQ : pR, qQ = thn (0, (h + 4), 0) (fun t _ => sSel b nn nr nt cc t) := ⟨_, rfl⟩
                    rw [← er_187] at hp_186
                    obtain ⟨rfl, rfl, rfl, hv, hT, pfq, q_188, hrow, hkq, hQ, q_189, hfrq, mcq, q_190⟩ := hp_186
                    have pf := qF_t pf pfq
                    have u_191_2 : (I_180 mo 2).toInt = (I mo 2).toInt := by rw [pf 2 (by decide) (by decide) (by decide) (by decide) (by decide)]
                    have u_191_5 : (I_180 mo 5).toInt = (I mo 5).toInt := by rw [pf 5 (by decide) (by decide) (by decide) (by decide) (by decide)]
                    have u_191_14 : (I_180 mo 14).toInt = (I mo 14).toInt := by rw [pf 14 (by decide) (by decide) (by decide) (by decide) (by decide)]
                    have u_191_16 : (I_180 mo 16).toInt = (I mo 16).toInt := by rw [pf 16 (by decide) (by decide) (by decide) (by decide) (by decide)]
                    have u_191_18 : (I_180 mo 18).toInt = (I mo 18).toInt := by rw [pf 18 (by decide) (by decide) (by decide) (by decide) (by decide)]
                    have er_187 : r_187 = sSel b nn nr nt cc (h + 4) := er_187
                    by_cases pr_187 : r_187.1 = 0
                    · have hQ := mQ_ok hQ pr_187
                      have vlr_187_7 := q_189 pr_187
                      replace hrow := hid hrow
                      replace hkq := hid hkq
                      have hfr := frM_t hfr (hfrq pr_187)
                      have mc := mcq pr_187
                      refine z_goto (tgt := 265) F dX7_viewTold_175 (by decide) ?_
                      have hV9 : sVk b nn (h + 2) = (0, h + 4, pV b nn (h + 3)) := by unfold sVk; exact thn_t sr_32 rfl (ite_y (by omega) rfl)
                      have hfin : thn (f, h, 0) (fun t _ => sVwM b nn nr nt cc t) = (0, r_187.2.1, r_187.2.2) := (thn_k q0).trans (by show sVwM b nn nr nt cc h = _; unfold sVwM; exact ite_n (by omega) (thn_t sr_20 rfl (thn_t hV9 rfl ((sBM_1 (by omega)).trans (er_187.symm.trans (pr_x pr_187))))))
                      exact g_vret F hr hlk hH hS hz ⟨rfl, rfl, hv, hT, pf, by first | (dsimp only; omega) | omega | rfl, by first | exact hrow | ((try dsimp only); intro hf; exact absurd hf (by omega)) | ((try dsimp only); intro hf ht hn; exact row_mk (by omega) (hhd (by omega)) (by omega) (hcol (by omega)) (by omega) (by omega) (fun h => absurd h (by omega)) (fun h => absurd h (by omega)) (fun h => absurd h (by omega)) (fun h => absurd h (by omega)) (fun h => absurd h (by omega)) (fun h => absurd h (by omega)) (fun h => absurd h (by omega))), by (try dsimp only); intro hf; omega, by first | ((try dsimp only); intro hf; have q9 := hkq (by omega); omega) | ((try dsimp only); intro hf; exact absurd hf (by omega)) | ((try dsimp only); intro hf; have q9 := (hhd (by omega)).2.1; omega), by (try dsimp only); rw [hfin]; exact hQ, by (try dsimp only); rw [hfin]; first | exact (fun _ => vlr_187_7) | (have q9 := (hhd (mQ_0 hQ rfl)).2.2.1; rw [show M = (nr : Int) by omega] at q9; (try dsimp only); exact pIc_y (by omega)), by (try dsimp only); rw [hfin]; exact pJm_y vlr_20, by (try dsimp only); rw [hfin]; (try dsimp only); exact pIm_y (by have q9 := hkq (mQ_0 hQ rfl); rw [show M = (nr : Int) by omega] at q9; omega), by (try dsimp only); rw [hfin]; exact zIf_y (hfr), by (try dsimp only); rw [hfin]; exact zIf_y (by unfold mLn; rw [if_pos (by omega)]; exact mc), fun b hb => q_190 b hb⟩ dX7_viewTold_265
                    · have g9r_187 := mQ_f hQ pr_187
                      have g8r_187 := mQ_p hQ
                      replace hrow := hid hrow
                      replace hkq := hid hkq
                      refine z_goto (tgt := 265) F dX7_viewTold_175 (by decide) ?_
                      have hV9 : sVk b nn (h + 2) = (0, h + 4, pV b nn (h + 3)) := by unfold sVk; exact thn_t sr_32 rfl (ite_y (by omega) rfl)
                      have hfin : thn (f, h, 0) (fun t _ => sVwM b nn nr nt cc t) = r_187 := (thn_k q0).trans (by show sVwM b nn nr nt cc h = _; unfold sVwM; exact ite_n (by omega) (thn_t sr_20 rfl (thn_t hV9 rfl ((sBM_1 (by omega)).trans (er_187.symm)))))
                      exact g_vret F hr hlk hH hS hz ⟨rfl, rfl, hv, hT, pf, by first | (dsimp only; omega) | omega | rfl, by (try dsimp only); exact (fun hf => absurd hf (by omega)), by (try dsimp only); exact (fun hf => absurd hf (by omega)), by (try dsimp only); exact (fun hf => absurd hf (by omega)), by (try dsimp only); rw [hfin]; exact hQ, by (try dsimp only); rw [hfin]; exact pIc_n (by omega), by (try dsimp only); rw [hfin]; exact pJm_n (by omega), by (try dsimp only); rw [hfin]; exact pIm_n (by omega), by (try dsimp only); rw [hfin]; exact zIf_n (by omega), by (try dsimp only); rw [hfin]; exact zIf_n (by omega), fun b hb => q_190 b hb⟩ dX7_viewTold_265
                · exact absurd (mQ_0 hQ rfl) (by omega)
              · have nkd := pKd_n hkd2 (by omega)
                refine lv_aload_n F.1 F.2.1 dX7_viewTold_149 rfl (lv_at hl 1 rfl) ?_
                refine z_iconst F dX7_viewTold_150 ?_
                refine g_callv (g_runV (As := [.int (iI 1)]) (rest := []) (ci := 7) F hl.1 hH hS hz (c_X7_wrongf l g gh T b nn nr nt cc 0 (h + 3) I_25 R J_27 AI AJ_17 AR mo 1 ⟨by decide, by decide⟩ hv hm hT (by omega) h65 hbM hr7 (by omega) hn9 (by omega) hQ) (cwV 1 F.2.2.2.2.1 (good_up gT_X7_wrong) rfl rfl rfl hdX7_wrong ⟨Nat.le_of_ble_eq_true rfl, Nat.le_of_ble_eq_true rfl⟩) hm (by decide) rfl rfl rfl (Nat.le_of_ble_eq_true rfl) dX7_viewTold_151 ⟨Nat.zero_le _, Nat.zero_le _⟩) hS (fun I_192 R_193 J_194 AI_195 AJ_196 AR_197 H locs hp_198 hH hS => ?_)
                dsimp only at hp_198
                obtain ⟨r_199, er_199⟩ : ∃ qQ : pR, qQ = thn (0, (h + 3), 0) (fun t _ => (1, t, 0)) := ⟨_, rfl⟩
                rw [← er_199] at hp_198
                obtain ⟨rfl, rfl, rfl, rfl, rfl, hv, pfq, q_200, hQ⟩ := hp_198
                have pf := qF_t pf pfq
                have u_201_2 : (I_192 mo 2).toInt = (I mo 2).toInt := by rw [pf 2 (by decide) (by decide) (by decide) (by decide) (by decide)]
                have u_201_5 : (I_192 mo 5).toInt = (I mo 5).toInt := by rw [pf 5 (by decide) (by decide) (by decide) (by decide) (by decide)]
                have u_201_14 : (I_192 mo 14).toInt = (I mo 14).toInt := by rw [pf 14 (by decide) (by decide) (by decide) (by decide) (by decide)]
                have u_201_16 : (I_192 mo 16).toInt = (I mo 16).toInt := by rw [pf 16 (by decide) (by decide) (by decide) (by decide) (by decide)]
                have u_201_18 : (I_192 mo 18).toInt = (I mo 18).toInt := by rw [pf 18 (by decide) (by decide) (by decide) (by decide) (by decide)]
                have er_199 : r_199 = (1, (h + 3), 0) := er_199
                have hQ : mQ gh I_192 J_27 AI AJ_17 mo b nn nr nt cc 1 (h + 3) := by rw [er_199] at hQ; exact hQ
                have q9_r_199 : (1 : Int) ≠ 0 := by omega
                have g9_r_199 := mQ_f hQ q9_r_199
                refine lv_aload_n F.1 F.2.1 dX7_viewTold_154 rfl (lv_at hl 1 rfl) ?_
                have b_202 := mJ hv hm
                unfold mNum1 at b_202
                refine g_callv (g_runV (As := []) (rest := []) (ci := 7) F hl.1 hH hS hz (c_X7_nextf l g gh T b nn (tNd b nn (tPs b nn (h + 3))) I_192 R J_27 AI AJ_17 AR mo hv hm hT (by omega) (mTp hv h65 hbM) hr7 (by omega) (by omega) (mQ_e0 hQ) tNd_le.1) (cwV 0 F.2.2.2.2.1 (good_up gT_X7_next) rfl rfl rfl hdX7_next ⟨Nat.le_of_ble_eq_true rfl, Nat.le_of_ble_eq_true rfl⟩) hm (by decide) rfl rfl rfl (Nat.le_of_ble_eq_true rfl) dX7_viewTold_155 ⟨Nat.zero_le _, Nat.zero_le _⟩) hS (fun I_203 R_204 J_205 AI_206 AJ_207 AR_208 H locs hp_209 hH hS => ?_)
                dsimp only at hp_209
                obtain ⟨rfl, rfl, rfl, rfl, hv, pfq, q_210, nx4, nxa, nxb⟩ := hp_209
                have pf := qF_t pf pfq
                have u_211_2 : (I_203 mo 2).toInt = (I mo 2).toInt := by rw [pf 2 (by decide) (by decide) (by decide) (by decide) (by decide)]
                have u_211_5 : (I_203 mo 5).toInt = (I mo 5).toInt := by rw [pf 5 (by decide) (by decide) (by decide) (by decide) (by decide)]
                have u_211_14 : (I_203 mo 14).toInt = (I mo 14).toInt := by rw [pf 14 (by decide) (by decide) (by decide) (by decide) (by decide)]
                have u_211_16 : (I_203 mo 16).toInt = (I mo 16).toInt := by rw [pf 16 (by decide) (by decide) (by decide) (by decide) (by decide)]
                have u_211_18 : (I_203 mo 18).toInt = (I mo 18).toInt := by rw [pf 18 (by decide) (by decide) (by decide) (by decide) (by decide)]
                have hQ : mQ gh I_203 J_205 AI AJ_17 mo b nn nr nt cc 1 (h + 3) := by have q9 := mQ_nx hQ nx4 nxa; rw [thn_b (by omega)] at q9; exact q9
                clear nxa nxb
                refine lv_aload_n F.1 F.2.1 dX7_viewTold_158 rfl (lv_at hl 1 rfl) ?_
                refine g_getI (ci := 7) (k := 24) F hH rfl (by decide) iX7 hm (by decide) rfl k81 dX7_viewTold_159 ?_
                have b_212 := mJ hv hm
                unfold mNum1 at b_212
                refine z_if_le (tgt := 166) F dX7_viewTold_162 (by decide) (zr_t _) (fun c_213 => ?_) (fun c_213 => ?_)
                · exact absurd (mQ_z hQ (by omega)) (by omega)
                · have hV9 : sVk b nn (h + 2) = (1, h + 3, 0) := by unfold sVk; exact thn_t sr_32 rfl (ite_n nkd rfl)
                  have hfin : thn (f, h, 0) (fun t _ => sVwM b nn nr nt cc t) = (1, h + 3, 0) := (thn_k q0).trans (by show sVwM b nn nr nt cc h = _; unfold sVwM; exact ite_n (by omega) (thn_t sr_20 rfl (thn_x hV9.symm (by omega))))
                  exact g_vret F hr hlk hH hS hz ⟨rfl, rfl, hv, hT, pf, by first | (dsimp only; omega) | omega | rfl, by (try dsimp only); exact (fun hf => absurd hf (by omega)), by (try dsimp only); exact (fun hf => absurd hf (by omega)), by (try dsimp only); exact (fun hf => absurd hf (by omega)), by (try dsimp only); rw [hfin]; exact hQ, by (try dsimp only); rw [hfin]; exact pIc_n (by omega), by (try dsimp only); rw [hfin]; exact pJm_n (by omega), by (try dsimp only); rw [hfin]; exact pIm_n (by omega), by (try dsimp only); rw [hfin]; exact zIf_n (by omega), by (try dsimp only); rw [hfin]; exact zIf_n (by omega), fun _ _ => rfl⟩ dX7_viewTold_165
            refine lv_aload_n F.1 F.2.1 dX7_viewTold_36 rfl (lv_at hl 0 rfl) ?_
            refine va_ldcS F.1 F.2.1 F.2.2.2.1 (F.2.2.2.2.2.2.1 9 _ rfl).1 dX7_viewTold_37 ?_
            refine g_calli (g_runV (As := [.ref (gSK g 9)]) (rest := []) (ci := 7) F hl.1 hH hS hz (c_X7_isWordf l g gh T 9 _ 1 b nn nr nt cc 0 (h + 3) I_25 R J_27 AI AJ_17 AR mo hv hm hT (rfl : sTab[9]? = some _) (by decide) (by decide +kernel) h65 hbM hr7 (by omega) hn9 (by omega) hQ) (cwV 1 F.2.2.2.2.1 (good_up gT_X7_isWord) rfl rfl rfl hdX7_isWord ⟨Nat.le_of_ble_eq_true rfl, Nat.le_of_ble_eq_true rfl⟩) hm (by decide) rfl rfl rfl (Nat.le_of_ble_eq_true rfl) dX7_viewTold_39 ⟨Nat.zero_le _, Nat.zero_le _⟩) hS (fun v_220 I_214 R_215 J_216 AI_217 AJ_218 AR_219 H locs zv_220 hp_221 hH hS => ?_)
            dsimp only at hp_221
            obtain ⟨rfl, rfl, rfl, rfl, rfl, rfl, q_222, q_223⟩ := hp_221
            refine z_if_eq (tgt := 49) F dX7_viewTold_42 (by decide) zv_220 (fun c_224 => ?_) (fun c_224 => ?_)
            · have t_225 := hid (tIz_n q_223 (by omega))
              refine lv_aload_n F.1 F.2.1 dX7_viewTold_49 rfl (lv_at hl 0 rfl) ?_
              refine va_ldcS F.1 F.2.1 F.2.2.2.1 (F.2.2.2.2.2.2.1 12 _ rfl).1 dX7_viewTold_50 ?_
              refine g_calli (g_runV (As := [.ref (gSK g 12)]) (rest := []) (ci := 7) F hl.1 hH hS hz (c_X7_isWordf l g gh T 12 _ 2 b nn nr nt cc 0 (h + 3) I_25 R J_27 AI AJ_17 AR mo hv hm hT (rfl : sTab[12]? = some _) (by decide) (by decide +kernel) h65 hbM hr7 (by omega) hn9 (by omega) hQ) (cwV 1 F.2.2.2.2.1 (good_up gT_X7_isWord) rfl rfl rfl hdX7_isWord ⟨Nat.le_of_ble_eq_true rfl, Nat.le_of_ble_eq_true rfl⟩) hm (by decide) rfl rfl rfl (Nat.le_of_ble_eq_true rfl) dX7_viewTold_52 ⟨Nat.zero_le _, Nat.zero_le _⟩) hS (fun v_232 I_226 R_227 J_228 AI_229 AJ_230 AR_231 H locs zv_232 hp_233 hH hS => ?_)
              dsimp only at hp_233
              obtain ⟨rfl, rfl, rfl, rfl, rfl, rfl, q_234, q_235⟩ := hp_233
              refine z_if_eq (tgt := 62) F dX7_viewTold_55 (by decide) zv_232 (fun c_236 => ?_) (fun c_236 => ?_)
              · have t_237 := hid (tIz_n q_235 (by omega))
                refine lv_aload_n F.1 F.2.1 dX7_viewTold_62 rfl (lv_at hl 0 rfl) ?_
                refine va_ldcS F.1 F.2.1 F.2.2.2.1 (F.2.2.2.2.2.2.1 13 _ rfl).1 dX7_viewTold_63 ?_
                refine g_calli (g_runV (As := [.ref (gSK g 13)]) (rest := []) (ci := 7) F hl.1 hH hS hz (c_X7_isWordf l g gh T 13 _ 3 b nn nr nt cc 0 (h + 3) I_25 R J_27 AI AJ_17 AR mo hv hm hT (rfl : sTab[13]? = some _) (by decide) (by decide +kernel) h65 hbM hr7 (by omega) hn9 (by omega) hQ) (cwV 1 F.2.2.2.2.1 (good_up gT_X7_isWord) rfl rfl rfl hdX7_isWord ⟨Nat.le_of_ble_eq_true rfl, Nat.le_of_ble_eq_true rfl⟩) hm (by decide) rfl rfl rfl (Nat.le_of_ble_eq_true rfl) dX7_viewTold_65 ⟨Nat.zero_le _, Nat.zero_le _⟩) hS (fun v_244 I_238 R_239 J_240 AI_241 AJ_242 AR_243 H locs zv_244 hp_245 hH hS => ?_)
                dsimp only at hp_245
                obtain ⟨rfl, rfl, rfl, rfl, rfl, rfl, q_246, q_247⟩ := hp_245
                refine z_if_eq (tgt := 75) F dX7_viewTold_68 (by decide) zv_244 (fun c_248 => ?_) (fun c_248 => ?_)
                · have t_249 := hid (tIz_n q_247 (by omega))
                  refine lv_aload_n F.1 F.2.1 dX7_viewTold_75 rfl (lv_at hl 0 rfl) ?_
                  refine va_ldcS F.1 F.2.1 F.2.2.2.1 (F.2.2.2.2.2.2.1 15 _ rfl).1 dX7_viewTold_76 ?_
                  refine g_calli (g_runV (As := [.ref (gSK g 15)]) (rest := []) (ci := 7) F hl.1 hH hS hz (c_X7_isWordf l g gh T 15 _ 4 b nn nr nt cc 0 (h + 3) I_25 R J_27 AI AJ_17 AR mo hv hm hT (rfl : sTab[15]? = some _) (by decide) (by decide +kernel) h65 hbM hr7 (by omega) hn9 (by omega) hQ) (cwV 1 F.2.2.2.2.1 (good_up gT_X7_isWord) rfl rfl rfl hdX7_isWord ⟨Nat.le_of_ble_eq_true rfl, Nat.le_of_ble_eq_true rfl⟩) hm (by decide) rfl rfl rfl (Nat.le_of_ble_eq_true rfl) dX7_viewTold_78 ⟨Nat.zero_le _, Nat.zero_le _⟩) hS (fun v_256 I_250 R_251 J_252 AI_253 AJ_254 AR_255 H locs zv_256 hp_257 hH hS => ?_)
                  dsimp only at hp_257
                  obtain ⟨rfl, rfl, rfl, rfl, rfl, rfl, q_258, q_259⟩ := hp_257
                  refine z_if_eq (tgt := 88) F dX7_viewTold_81 (by decide) zv_256 (fun c_260 => ?_) (fun c_260 => ?_)
                  · have t_261 := hid (tIz_n q_259 (by omega))
                    refine lv_aload_n F.1 F.2.1 dX7_viewTold_88 rfl (lv_at hl 0 rfl) ?_
                    refine va_ldcS F.1 F.2.1 F.2.2.2.1 (F.2.2.2.2.2.2.1 16 _ rfl).1 dX7_viewTold_89 ?_
                    refine g_calli (g_runV (As := [.ref (gSK g 16)]) (rest := []) (ci := 7) F hl.1 hH hS hz (c_X7_isWordf l g gh T 16 _ 5 b nn nr nt cc 0 (h + 3) I_25 R J_27 AI AJ_17 AR mo hv hm hT (rfl : sTab[16]? = some _) (by decide) (by decide +kernel) h65 hbM hr7 (by omega) hn9 (by omega) hQ) (cwV 1 F.2.2.2.2.1 (good_up gT_X7_isWord) rfl rfl rfl hdX7_isWord ⟨Nat.le_of_ble_eq_true rfl, Nat.le_of_ble_eq_true rfl⟩) hm (by decide) rfl rfl rfl (Nat.le_of_ble_eq_true rfl) dX7_viewTold_91 ⟨Nat.zero_le _, Nat.zero_le _⟩) hS (fun v_268 I_262 R_263 J_264 AI_265 AJ_266 AR_267 H locs zv_268 hp_269 hH hS => ?_)
                    dsimp only at hp_269
                    obtain ⟨rfl, rfl, rfl, rfl, rfl, rfl, q_270, q_271⟩ := hp_269
                    refine z_if_eq (tgt := 101) F dX7_viewTold_94 (by decide) zv_268 (fun c_272 => ?_) (fun c_272 => ?_)
                    · have t_273 := hid (tIz_n q_271 (by omega))
                      refine lv_aload_n F.1 F.2.1 dX7_viewTold_101 rfl (lv_at hl 0 rfl) ?_
                      refine va_ldcS F.1 F.2.1 F.2.2.2.1 (F.2.2.2.2.2.2.1 17 _ rfl).1 dX7_viewTold_102 ?_
                      refine g_calli (g_runV (As := [.ref (gSK g 17)]) (rest := []) (ci := 7) F hl.1 hH hS hz (c_X7_isWordf l g gh T 17 _ 6 b nn nr nt cc 0 (h + 3) I_25 R J_27 AI AJ_17 AR mo hv hm hT (rfl : sTab[17]? = some _) (by decide) (by decide +kernel) h65 hbM hr7 (by omega) hn9 (by omega) hQ) (cwV 1 F.2.2.2.2.1 (good_up gT_X7_isWord) rfl rfl rfl hdX7_isWord ⟨Nat.le_of_ble_eq_true rfl, Nat.le_of_ble_eq_true rfl⟩) hm (by decide) rfl rfl rfl (Nat.le_of_ble_eq_true rfl) dX7_viewTold_104 ⟨Nat.zero_le _, Nat.zero_le _⟩) hS (fun v_280 I_274 R_275 J_276 AI_277 AJ_278 AR_279 H locs zv_280 hp_281 hH hS => ?_)
                      dsimp only at hp_281
                      obtain ⟨rfl, rfl, rfl, rfl, rfl, rfl, q_282, q_283⟩ := hp_281
                      refine z_if_eq (tgt := 115) F dX7_viewTold_107 (by decide) zv_280 (fun c_284 => ?_) (fun c_284 => ?_)
                      · have t_285 := hid (tIz_n q_283 (by omega))
                        refine lv_aload_n F.1 F.2.1 dX7_viewTold_115 rfl (lv_at hl 0 rfl) ?_
                        refine va_ldcS F.1 F.2.1 F.2.2.2.1 (F.2.2.2.2.2.2.1 18 _ rfl).1 dX7_viewTold_116 ?_
                        refine g_calli (g_runV (As := [.ref (gSK g 18)]) (rest := []) (ci := 7) F hl.1 hH hS hz (c_X7_isWordf l g gh T 18 _ 7 b nn nr nt cc 0 (h + 3) I_25 R J_27 AI AJ_17 AR mo hv hm hT (rfl : sTab[18]? = some _) (by decide) (by decide +kernel) h65 hbM hr7 (by omega) hn9 (by omega) hQ) (cwV 1 F.2.2.2.2.1 (good_up gT_X7_isWord) rfl rfl rfl hdX7_isWord ⟨Nat.le_of_ble_eq_true rfl, Nat.le_of_ble_eq_true rfl⟩) hm (by decide) rfl rfl rfl (Nat.le_of_ble_eq_true rfl) dX7_viewTold_118 ⟨Nat.zero_le _, Nat.zero_le _⟩) hS (fun v_292 I_286 R_287 J_288 AI_289 AJ_290 AR_291 H locs zv_292 hp_293 hH hS => ?_)
                        dsimp only at hp_293
                        obtain ⟨rfl, rfl, rfl, rfl, rfl, rfl, q_294, q_295⟩ := hp_293
                        refine z_if_eq (tgt := 129) F dX7_viewTold_121 (by decide) zv_292 (fun c_296 => ?_) (fun c_296 => ?_)
                        · have t_297 := hid (tIz_n q_295 (by omega))
                          refine lv_aload_n F.1 F.2.1 dX7_viewTold_129 rfl (lv_at hl 0 rfl) ?_
                          refine va_ldcS F.1 F.2.1 F.2.2.2.1 (F.2.2.2.2.2.2.1 24 _ rfl).1 dX7_viewTold_130 ?_
                          refine g_calli (g_runV (As := [.ref (gSK g 24)]) (rest := []) (ci := 7) F hl.1 hH hS hz (c_X7_isWordf l g gh T 24 _ 8 b nn nr nt cc 0 (h + 3) I_25 R J_27 AI AJ_17 AR mo hv hm hT (rfl : sTab[24]? = some _) (by decide) (by decide +kernel) h65 hbM hr7 (by omega) hn9 (by omega) hQ) (cwV 1 F.2.2.2.2.1 (good_up gT_X7_isWord) rfl rfl rfl hdX7_isWord ⟨Nat.le_of_ble_eq_true rfl, Nat.le_of_ble_eq_true rfl⟩) hm (by decide) rfl rfl rfl (Nat.le_of_ble_eq_true rfl) dX7_viewTold_132 ⟨Nat.zero_le _, Nat.zero_le _⟩) hS (fun v_304 I_298 R_299 J_300 AI_301 AJ_302 AR_303 H locs zv_304 hp_305 hH hS => ?_)
                          dsimp only at hp_305
                          obtain ⟨rfl, rfl, rfl, rfl, rfl, rfl, q_306, q_307⟩ := hp_305
                          refine z_if_eq (tgt := 143) F dX7_viewTold_135 (by decide) zv_304 (fun c_308 => ?_) (fun c_308 => ?_)
                          · have t_309 := hid (tIz_n q_307 (by omega))
                            refine z_iconst F dX7_viewTold_143 ?_
                            exact cut_144_37 (-1) H locs ls ⟨by decide, by decide⟩ (by omega) (Or.inl ⟨rfl, pKd_m t_225 t_237 t_249 t_261 t_273 t_285 t_297 t_309⟩) hH hS (lv_sub hl [0] rfl)
                          · have t_310 := tIz_y q_307 (by omega)
                            refine z_bipush F dX7_viewTold_138 (by decide) ?_
                            refine z_goto (tgt := 144) F dX7_viewTold_140 (by decide) ?_
                            exact cut_144_37 8 H locs ls ⟨by decide, by decide⟩ (by omega) (Or.inr ⟨by decide, by decide, by omega, by omega⟩) hH hS (lv_sub hl [0] rfl)
                        · have t_311 := tIz_y q_295 (by omega)
                          refine z_bipush F dX7_viewTold_124 (by decide) ?_
                          refine z_goto (tgt := 144) F dX7_viewTold_126 (by decide) ?_
                          exact cut_144_37 7 H locs ls ⟨by decide, by decide⟩ (by omega) (Or.inr ⟨by decide, by decide, by omega, by omega⟩) hH hS (lv_sub hl [0] rfl)
                      · have t_312 := tIz_y q_283 (by omega)
                        refine z_bipush F dX7_viewTold_110 (by decide) ?_
                        refine z_goto (tgt := 144) F dX7_viewTold_112 (by decide) ?_
                        exact cut_144_37 6 H locs ls ⟨by decide, by decide⟩ (by omega) (Or.inr ⟨by decide, by decide, by omega, by omega⟩) hH hS (lv_sub hl [0] rfl)
                    · have t_313 := tIz_y q_271 (by omega)
                      refine z_iconst F dX7_viewTold_97 ?_
                      refine z_goto (tgt := 144) F dX7_viewTold_98 (by decide) ?_
                      exact cut_144_37 5 H locs ls ⟨by decide, by decide⟩ (by omega) (Or.inr ⟨by decide, by decide, by omega, by omega⟩) hH hS (lv_sub hl [0] rfl)
                  · have t_314 := tIz_y q_259 (by omega)
                    refine z_iconst F dX7_viewTold_84 ?_
                    refine z_goto (tgt := 144) F dX7_viewTold_85 (by decide) ?_
                    exact cut_144_37 4 H locs ls ⟨by decide, by decide⟩ (by omega) (Or.inr ⟨by decide, by decide, by omega, by omega⟩) hH hS (lv_sub hl [0] rfl)
                · have t_315 := tIz_y q_247 (by omega)
                  refine z_iconst F dX7_viewTold_71 ?_
                  refine z_goto (tgt := 144) F dX7_viewTold_72 (by decide) ?_
                  exact cut_144_37 3 H locs ls ⟨by decide, by decide⟩ (by omega) (Or.inr ⟨by decide, by decide, by omega, by omega⟩) hH hS (lv_sub hl [0] rfl)
              · have t_316 := tIz_y q_235 (by omega)
                refine z_iconst F dX7_viewTold_58 ?_
                refine z_goto (tgt := 144) F dX7_viewTold_59 (by decide) ?_
                exact cut_144_37 2 H locs ls ⟨by decide, by decide⟩ (by omega) (Or.inr ⟨by decide, by decide, by omega, by omega⟩) hH hS (lv_sub hl [0] rfl)
            · have t_317 := tIz_y q_223 (by omega)
              refine z_iconst F dX7_viewTold_45 ?_
              refine z_goto (tgt := 144) F dX7_viewTold_46 (by decide) ?_
              exact cut_144_37 1 H locs ls ⟨by decide, by decide⟩ (by omega) (Or.inr ⟨by decide, by decide, by omega, by omega⟩) hH hS (lv_sub hl [0] rfl)
          · exact absurd (mQ_0 hQ rfl) (by omega)
        · have hQ : mQ gh I_25 J_27 AI AJ_17 mo b nn nr nt cc 1 (h + 2) := by rw [er_32] at hQ; exact hQ
          have sr_32 := sr_32.symm.trans er_32
          have g9r_32 := mQ_f hQ (by omega)
          replace q_34 := hid q_34
          obtain ⟨fb, efb⟩ : ∃ q, q = (I_25 mo 24).toInt := ⟨_, rfl⟩
          refine lv_aload_n F.1 F.2.1 dX7_viewTold_28 rfl (lv_at hl 0 rfl) ?_
          refine g_getI (ci := 7) (k := 24) F hH rfl (by decide) iX7 hm (by decide) rfl k81 dX7_viewTold_29 ?_
          have b_318 := mJ hv hm
          unfold mNum1 at b_318
          refine z_if_le (tgt := 36) F dX7_viewTold_32 (by decide) (zr_t _) (fun c_319 => ?_) (fun c_319 => ?_)
          · exact absurd (mQ_z hQ (by omega)) (by omega)
          · have hV9 : sVk b nn (h + 2) = (1, h + 2, 0) := by unfold sVk; exact thn_x sr_32.symm (by omega)
            have hfin : thn (f, h, 0) (fun t _ => sVwM b nn nr nt cc t) = (1, h + 2, 0) := (thn_k q0).trans (by show sVwM b nn nr nt cc h = _; unfold sVwM; exact ite_n (by omega) (thn_t sr_20 rfl (thn_x hV9.symm (by omega))))
            exact g_vret F hr hlk hH hS hz ⟨rfl, rfl, hv, hT, pf, by first | (dsimp only; omega) | omega | rfl, by (try dsimp only); exact (fun hf => absurd hf (by omega)), by (try dsimp only); exact (fun hf => absurd hf (by omega)), by (try dsimp only); exact (fun hf => absurd hf (by omega)), by (try dsimp only); rw [hfin]; exact hQ, by (try dsimp only); rw [hfin]; exact pIc_n (by omega), by (try dsimp only); rw [hfin]; exact pJm_n (by omega), by (try dsimp only); rw [hfin]; exact pIm_n (by omega), by (try dsimp only); rw [hfin]; exact zIf_n (by omega), by (try dsimp only); rw [hfin]; exact zIf_n (by omega), fun _ _ => rfl⟩ dX7_viewTold_35
      · have hQ : mQ gh I_13 J_15 AI AJ_17 mo b nn nr nt cc kdr_20 (h + 1) := by rw [er_20] at hQ; exact hQ
        have sr_20 := sr_20.symm.trans er_20
        have g9r_20 := mQ_f hQ (by omega)
        refine lv_aload_n F.1 F.2.1 dX7_viewTold_22 rfl (lv_at hl 0 rfl) ?_
        refine z_bipush F dX7_viewTold_23 (by decide) ?_
        have b_320 := mJ hv hm
        unfold mNum1 at b_320
        refine g_callv (g_runV (As := [.int (iI 61)]) (rest := []) (ci := 7) F hl.1 hH hS hz (c_X7_mustSignf l g gh T b nn nr nt cc kdr_20 (h + 1) I_13 R J_15 AI AJ_17 AR mo 61 ⟨by decide, by decide⟩ hv hm hT (by omega) h65 hbM hr7 (by omega) hn9 (by omega) (by omega) hQ) (cwV 1 F.2.2.2.2.1 (good_up gT_X7_mustSign) rfl rfl rfl hdX7_mustSign ⟨Nat.le_of_ble_eq_true rfl, Nat.le_of_ble_eq_true rfl⟩) hm (by decide) rfl rfl rfl (Nat.le_of_ble_eq_true rfl) dX7_viewTold_25 ⟨Nat.zero_le _, Nat.zero_le _⟩) hS (fun I_321 R_322 J_323 AI_324 AJ_325 AR_326 H locs hp_327 hH hS => ?_)
        dsimp only at hp_327
        obtain ⟨r_328, er_328⟩ : ∃ qQ : pR, qQ = thn (kdr_20, (h + 1), 0) (fun t _ => sTk b nn 61 t) := ⟨_, rfl⟩
        rw [← er_328] at hp_327
        obtain ⟨rfl, rfl, rfl, rfl, hv, pfq, q_329, q_330, hQ⟩ := hp_327
        have pf := qF_t pf pfq
        have u_331_2 : (I_321 mo 2).toInt = (I mo 2).toInt := by rw [pf 2 (by decide) (by decide) (by decide) (by decide) (by decide)]
        have u_331_5 : (I_321 mo 5).toInt = (I mo 5).toInt := by rw [pf 5 (by decide) (by decide) (by decide) (by decide) (by decide)]
        have u_331_14 : (I_321 mo 14).toInt = (I mo 14).toInt := by rw [pf 14 (by decide) (by decide) (by decide) (by decide) (by decide)]
        have u_331_16 : (I_321 mo 16).toInt = (I mo 16).toInt := by rw [pf 16 (by decide) (by decide) (by decide) (by decide) (by decide)]
        have u_331_18 : (I_321 mo 18).toInt = (I mo 18).toInt := by rw [pf 18 (by decide) (by decide) (by decide) (by decide) (by decide)]
        rw [thn_b (by omega)] at er_328
        have hQ : mQ gh I_321 J_323 AI AJ_17 mo b nn nr nt cc kdr_20 (h + 1) := by rw [er_328] at hQ; exact hQ
        replace q_330 := hid q_330
        obtain ⟨fb, efb⟩ : ∃ q, q = (I_321 mo 24).toInt := ⟨_, rfl⟩
        refine lv_aload_n F.1 F.2.1 dX7_viewTold_28 rfl (lv_at hl 0 rfl) ?_
        refine g_getI (ci := 7) (k := 24) F hH rfl (by decide) iX7 hm (by decide) rfl k81 dX7_viewTold_29 ?_
        have b_332 := mJ hv hm
        unfold mNum1 at b_332
        refine z_if_le (tgt := 36) F dX7_viewTold_32 (by decide) (zr_t _) (fun c_333 => ?_) (fun c_333 => ?_)
        · exact absurd (mQ_z hQ (by omega)) (by omega)
        · have hfin : thn (f, h, 0) (fun t _ => sVwM b nn nr nt cc t) = (kdr_20, h + 1, 0) := (thn_k q0).trans (by show sVwM b nn nr nt cc h = _; unfold sVwM; exact ite_n (by omega) (thn_x sr_20.symm (by omega)))
          exact g_vret F hr hlk hH hS hz ⟨rfl, rfl, hv, hT, pf, by first | (dsimp only; omega) | omega | rfl, by (try dsimp only); exact (fun hf => absurd hf (by omega)), by (try dsimp only); exact (fun hf => absurd hf (by omega)), by (try dsimp only); exact (fun hf => absurd hf (by omega)), by (try dsimp only); rw [hfin]; exact hQ, by (try dsimp only); rw [hfin]; exact pIc_n (by omega), by (try dsimp only); rw [hfin]; exact pJm_n (by omega), by (try dsimp only); rw [hfin]; exact pIm_n (by omega), by (try dsimp only); rw [hfin]; exact zIf_n (by omega), by (try dsimp only); rw [hfin]; exact zIf_n (by omega), fun _ _ => rfl⟩ dX7_viewTold_35
    · refine lv_aload_n F.1 F.2.1 dX7_viewTold_9 rfl (lv_at hl 0 rfl) ?_
      refine z_iconst F dX7_viewTold_10 ?_
      refine g_callv (g_runV (As := [.int (iI 4)]) (rest := []) (ci := 7) F hl.1 hH hS hz (c_X7_wrongf l g gh T b nn nr nt cc 0 h I R J AI AJ AR mo 4 ⟨by decide, by decide⟩ hv hm hT (by omega) h65 hbM hr7 (by omega) hn9 (by omega) hQ) (cwV 1 F.2.2.2.2.1 (good_up gT_X7_wrong) rfl rfl rfl hdX7_wrong ⟨Nat.le_of_ble_eq_true rfl, Nat.le_of_ble_eq_true rfl⟩) hm (by decide) rfl rfl rfl (Nat.le_of_ble_eq_true rfl) dX7_viewTold_11 ⟨Nat.zero_le _, Nat.zero_le _⟩) hS (fun I_334 R_335 J_336 AI_337 AJ_338 AR_339 H locs hp_340 hH hS => ?_)
      dsimp only at hp_340
      obtain ⟨r_341, er_341⟩ : ∃ qQ : pR, qQ = thn (0, h, 0) (fun t _ => (4, t, 0)) := ⟨_, rfl⟩
      rw [← er_341] at hp_340
      obtain ⟨rfl, rfl, rfl, rfl, rfl, hv, pfq, q_342, hQ⟩ := hp_340
      have pf := qF_t pf pfq
      have u_343_2 : (I_334 mo 2).toInt = (I mo 2).toInt := by rw [pf 2 (by decide) (by decide) (by decide) (by decide) (by decide)]
      have u_343_5 : (I_334 mo 5).toInt = (I mo 5).toInt := by rw [pf 5 (by decide) (by decide) (by decide) (by decide) (by decide)]
      have u_343_14 : (I_334 mo 14).toInt = (I mo 14).toInt := by rw [pf 14 (by decide) (by decide) (by decide) (by decide) (by decide)]
      have u_343_16 : (I_334 mo 16).toInt = (I mo 16).toInt := by rw [pf 16 (by decide) (by decide) (by decide) (by decide) (by decide)]
      have u_343_18 : (I_334 mo 18).toInt = (I mo 18).toInt := by rw [pf 18 (by decide) (by decide) (by decide) (by decide) (by decide)]
      have er_341 : r_341 = (4, h, 0) := er_341
      have hQ : mQ gh I_334 J AI AJ mo b nn nr nt cc 4 h := by rw [er_341] at hQ; exact hQ
      have q9_r_341 : (4 : Int) ≠ 0 := by omega
      have g9_r_341 := mQ_f hQ q9_r_341
      refine lv_aload_n F.1 F.2.1 dX7_viewTold_14 rfl (lv_at hl 0 rfl) ?_
      have b_344 := mJ hv hm
      unfold mNum1 at b_344
      refine g_callv (g_runV (As := []) (rest := []) (ci := 7) F hl.1 hH hS hz (c_X7_nextf l g gh T b nn (tNd b nn (tPs b nn h)) I_334 R J AI AJ AR mo hv hm hT (by omega) (mTp hv h65 hbM) hr7 (by omega) (by omega) (mQ_e0 hQ) tNd_le.1) (cwV 0 F.2.2.2.2.1 (good_up gT_X7_next) rfl rfl rfl hdX7_next ⟨Nat.le_of_ble_eq_true rfl, Nat.le_of_ble_eq_true rfl⟩) hm (by decide) rfl rfl rfl (Nat.le_of_ble_eq_true rfl) dX7_viewTold_15 ⟨Nat.zero_le _, Nat.zero_le _⟩) hS (fun I_345 R_346 J_347 AI_348 AJ_349 AR_350 H locs hp_351 hH hS => ?_)
      dsimp only at hp_351
      obtain ⟨rfl, rfl, rfl, rfl, hv, pfq, q_352, nx4, nxa, nxb⟩ := hp_351
      have pf := qF_t pf pfq
      have u_353_2 : (I_345 mo 2).toInt = (I mo 2).toInt := by rw [pf 2 (by decide) (by decide) (by decide) (by decide) (by decide)]
      have u_353_5 : (I_345 mo 5).toInt = (I mo 5).toInt := by rw [pf 5 (by decide) (by decide) (by decide) (by decide) (by decide)]
      have u_353_14 : (I_345 mo 14).toInt = (I mo 14).toInt := by rw [pf 14 (by decide) (by decide) (by decide) (by decide) (by decide)]
      have u_353_16 : (I_345 mo 16).toInt = (I mo 16).toInt := by rw [pf 16 (by decide) (by decide) (by decide) (by decide) (by decide)]
      have u_353_18 : (I_345 mo 18).toInt = (I mo 18).toInt := by rw [pf 18 (by decide) (by decide) (by decide) (by decide) (by decide)]
      have hQ : mQ gh I_345 J_347 AI AJ mo b nn nr nt cc 4 h := by have q9 := mQ_nx hQ nx4 nxa; rw [thn_b (by omega)] at q9; exact q9
      clear nxa nxb
      refine lv_aload_n F.1 F.2.1 dX7_viewTold_18 rfl (lv_at hl 0 rfl) ?_
      have b_354 := mJ hv hm
      unfold mNum1 at b_354
      refine g_callv (g_runV (As := []) (rest := []) (ci := 7) F hl.1 hH hS hz (c_X7_newNamef l g gh T b nn nr nt cc 4 h I_345 R J_347 AI AJ AR mo hv hm hT (by omega) (by omega) h65 hbM hr7 (by omega) hn9 (by omega) hQ) (cwV 0 F.2.2.2.2.1 (good_up gT_X7_newName) rfl rfl rfl hdX7_newName ⟨Nat.le_of_ble_eq_true rfl, Nat.le_of_ble_eq_true rfl⟩) hm (by decide) rfl rfl rfl (Nat.le_of_ble_eq_true rfl) dX7_viewTold_19 ⟨Nat.zero_le _, Nat.zero_le _⟩) hS (fun I_355 R_356 J_357 AI_358 AJ_359 AR_360 H locs hp_361 hH hS => ?_)
      dsimp only at hp_361
      obtain ⟨r_362, er_362⟩ : ∃ qQ : pR, qQ = thn (4, h, 0) (fun t _ => sNam b nn nr nt t) := ⟨_, rfl⟩
      rw [← er_362] at hp_361
      obtain ⟨rfl, rfl, rfl, hv, pfq, q_363, hQ, q_364⟩ := hp_361
      have pf := qF_t pf pfq
      have u_365_2 : (I_355 mo 2).toInt = (I mo 2).toInt := by rw [pf 2 (by decide) (by decide) (by decide) (by decide) (by decide)]
      have u_365_5 : (I_355 mo 5).toInt = (I mo 5).toInt := by rw [pf 5 (by decide) (by decide) (by decide) (by decide) (by decide)]
      have u_365_14 : (I_355 mo 14).toInt = (I mo 14).toInt := by rw [pf 14 (by decide) (by decide) (by decide) (by decide) (by decide)]
      have u_365_16 : (I_355 mo 16).toInt = (I mo 16).toInt := by rw [pf 16 (by decide) (by decide) (by decide) (by decide) (by decide)]
      have u_365_18 : (I_355 mo 18).toInt = (I mo 18).toInt := by rw [pf 18 (by decide) (by decide) (by decide) (by decide) (by decide)]
      rw [thn_b (by omega)] at er_362
      have hQ : mQ gh I_355 J_357 AI AJ_359 mo b nn nr nt cc 4 h := by rw [er_362] at hQ; exact hQ
      refine lv_aload_n F.1 F.2.1 dX7_viewTold_22 rfl (lv_at hl 0 rfl) ?_
      refine z_bipush F dX7_viewTold_23 (by decide) ?_
      have b_366 := mJ hv hm
      unfold mNum1 at b_366
      refine g_callv (g_runV (As := [.int (iI 61)]) (rest := []) (ci := 7) F hl.1 hH hS hz (c_X7_mustSignf l g gh T b nn nr nt cc 4 h I_355 R J_357 AI AJ_359 AR mo 61 ⟨by decide, by decide⟩ hv hm hT (by omega) h65 hbM hr7 (by omega) hn9 (by omega) (by omega) hQ) (cwV 1 F.2.2.2.2.1 (good_up gT_X7_mustSign) rfl rfl rfl hdX7_mustSign ⟨Nat.le_of_ble_eq_true rfl, Nat.le_of_ble_eq_true rfl⟩) hm (by decide) rfl rfl rfl (Nat.le_of_ble_eq_true rfl) dX7_viewTold_25 ⟨Nat.zero_le _, Nat.zero_le _⟩) hS (fun I_367 R_368 J_369 AI_370 AJ_371 AR_372 H locs hp_373 hH hS => ?_)
      dsimp only at hp_373
      obtain ⟨r_374, er_374⟩ : ∃ qQ : pR, qQ = thn (4, h, 0) (fun t _ => sTk b nn 61 t) := ⟨_, rfl⟩
      rw [← er_374] at hp_373
      obtain ⟨rfl, rfl, rfl, rfl, hv, pfq, q_375, q_376, hQ⟩ := hp_373
      have pf := qF_t pf pfq
      have u_377_2 : (I_367 mo 2).toInt = (I mo 2).toInt := by rw [pf 2 (by decide) (by decide) (by decide) (by decide) (by decide)]
      have u_377_5 : (I_367 mo 5).toInt = (I mo 5).toInt := by rw [pf 5 (by decide) (by decide) (by decide) (by decide) (by decide)]
      have u_377_14 : (I_367 mo 14).toInt = (I mo 14).toInt := by rw [pf 14 (by decide) (by decide) (by decide) (by decide) (by decide)]
      have u_377_16 : (I_367 mo 16).toInt = (I mo 16).toInt := by rw [pf 16 (by decide) (by decide) (by decide) (by decide) (by decide)]
      have u_377_18 : (I_367 mo 18).toInt = (I mo 18).toInt := by rw [pf 18 (by decide) (by decide) (by decide) (by decide) (by decide)]
      rw [thn_b (by omega)] at er_374
      have hQ : mQ gh I_367 J_369 AI AJ_359 mo b nn nr nt cc 4 h := by rw [er_374] at hQ; exact hQ
      replace q_376 := hid q_376
      obtain ⟨fb, efb⟩ : ∃ q, q = (I_367 mo 24).toInt := ⟨_, rfl⟩
      refine lv_aload_n F.1 F.2.1 dX7_viewTold_28 rfl (lv_at hl 0 rfl) ?_
      refine g_getI (ci := 7) (k := 24) F hH rfl (by decide) iX7 hm (by decide) rfl k81 dX7_viewTold_29 ?_
      have b_378 := mJ hv hm
      unfold mNum1 at b_378
      refine z_if_le (tgt := 36) F dX7_viewTold_32 (by decide) (zr_t _) (fun c_379 => ?_) (fun c_379 => ?_)
      · exact absurd (mQ_z hQ (by omega)) (by omega)
      · have hfin : thn (f, h, 0) (fun t _ => sVwM b nn nr nt cc t) = (4, h, 0) := (thn_k q0).trans (by show sVwM b nn nr nt cc h = _; unfold sVwM; exact ite_y (by omega) rfl)
        exact g_vret F hr hlk hH hS hz ⟨rfl, rfl, hv, hT, pf, by first | (dsimp only; omega) | omega | rfl, by (try dsimp only); exact (fun hf => absurd hf (by omega)), by (try dsimp only); exact (fun hf => absurd hf (by omega)), by (try dsimp only); exact (fun hf => absurd hf (by omega)), by (try dsimp only); rw [hfin]; exact hQ, by (try dsimp only); rw [hfin]; exact pIc_n (by omega), by (try dsimp only); rw [hfin]; exact pJm_n (by omega), by (try dsimp only); rw [hfin]; exact pIm_n (by omega), by (try dsimp only); rw [hfin]; exact zIf_n (by omega), by (try dsimp only); rw [hfin]; exact zIf_n (by omega), fun _ _ => rfl⟩ dX7_viewTold_35
  · have hf1 := mQ_f hQ q0
    refine lv_aload_n F.1 F.2.1 dX7_viewTold_0 rfl (lv_at hl 0 rfl) ?_
    refine g_getI (ci := 7) (k := 5) F hH rfl (by decide) iX7 hm (by decide) rfl k184 dX7_viewTold_1 ?_
    have b_380 := mJ hv hm
    unfold mNum1 at b_380
    refine z_bipush F dX7_viewTold_4 (by decide) ?_
    refine z_icmp_ne (tgt := 14) F dX7_viewTold_6 (by decide) (zr_t _) ⟨by decide, by decide⟩ (fun c_381 => ?_) (fun c_381 => ?_)
    · refine lv_aload_n F.1 F.2.1 dX7_viewTold_14 rfl (lv_at hl 0 rfl) ?_
      refine g_callv (g_runV (As := []) (rest := []) (ci := 7) F hl.1 hH hS hz (c_X7_nextf l g gh T b nn (tNd b nn (tPs b nn h)) I R J AI AJ AR mo hv hm hT (by omega) (mTp hv h65 hbM) hr7 (by omega) (by omega) (mQ_e0 hQ) tNd_le.1) (cwV 0 F.2.2.2.2.1 (good_up gT_X7_next) rfl rfl rfl hdX7_next ⟨Nat.le_of_ble_eq_true rfl, Nat.le_of_ble_eq_true rfl⟩) hm (by decide) rfl rfl rfl (Nat.le_of_ble_eq_true rfl) dX7_viewTold_15 ⟨Nat.zero_le _, Nat.zero_le _⟩) hS (fun I_382 R_383 J_384 AI_385 AJ_386 AR_387 H locs hp_388 hH hS => ?_)
      dsimp only at hp_388
      obtain ⟨rfl, rfl, rfl, rfl, hv, pfq, q_389, nx4, nxa, nxb⟩ := hp_388
      have pf := qF_t pf pfq
      have u_390_2 : (I_382 mo 2).toInt = (I mo 2).toInt := by rw [pf 2 (by decide) (by decide) (by decide) (by decide) (by decide)]
      have u_390_5 : (I_382 mo 5).toInt = (I mo 5).toInt := by rw [pf 5 (by decide) (by decide) (by decide) (by decide) (by decide)]
      have u_390_14 : (I_382 mo 14).toInt = (I mo 14).toInt := by rw [pf 14 (by decide) (by decide) (by decide) (by decide) (by decide)]
      have u_390_16 : (I_382 mo 16).toInt = (I mo 16).toInt := by rw [pf 16 (by decide) (by decide) (by decide) (by decide) (by decide)]
      have u_390_18 : (I_382 mo 18).toInt = (I mo 18).toInt := by rw [pf 18 (by decide) (by decide) (by decide) (by decide) (by decide)]
      have hQ : mQ gh I_382 J_384 AI AJ mo b nn nr nt cc f h := by have q9 := mQ_nx hQ nx4 nxa; rw [thn_b (by omega)] at q9; exact q9
      clear nxa nxb
      refine lv_aload_n F.1 F.2.1 dX7_viewTold_18 rfl (lv_at hl 0 rfl) ?_
      have b_391 := mJ hv hm
      unfold mNum1 at b_391
      refine g_callv (g_runV (As := []) (rest := []) (ci := 7) F hl.1 hH hS hz (c_X7_newNamef l g gh T b nn nr nt cc f h I_382 R J_384 AI AJ AR mo hv hm hT (by omega) (by omega) h65 hbM hr7 (by omega) hn9 (by omega) hQ) (cwV 0 F.2.2.2.2.1 (good_up gT_X7_newName) rfl rfl rfl hdX7_newName ⟨Nat.le_of_ble_eq_true rfl, Nat.le_of_ble_eq_true rfl⟩) hm (by decide) rfl rfl rfl (Nat.le_of_ble_eq_true rfl) dX7_viewTold_19 ⟨Nat.zero_le _, Nat.zero_le _⟩) hS (fun I_392 R_393 J_394 AI_395 AJ_396 AR_397 H locs hp_398 hH hS => ?_)
      dsimp only at hp_398
      obtain ⟨r_399, er_399⟩ : ∃ qQ : pR, qQ = thn (f, h, 0) (fun t _ => sNam b nn nr nt t) := ⟨_, rfl⟩
      rw [← er_399] at hp_398
      obtain ⟨rfl, rfl, rfl, hv, pfq, q_400, hQ, q_401⟩ := hp_398
      have pf := qF_t pf pfq
      have u_402_2 : (I_392 mo 2).toInt = (I mo 2).toInt := by rw [pf 2 (by decide) (by decide) (by decide) (by decide) (by decide)]
      have u_402_5 : (I_392 mo 5).toInt = (I mo 5).toInt := by rw [pf 5 (by decide) (by decide) (by decide) (by decide) (by decide)]
      have u_402_14 : (I_392 mo 14).toInt = (I mo 14).toInt := by rw [pf 14 (by decide) (by decide) (by decide) (by decide) (by decide)]
      have u_402_16 : (I_392 mo 16).toInt = (I mo 16).toInt := by rw [pf 16 (by decide) (by decide) (by decide) (by decide) (by decide)]
      have u_402_18 : (I_392 mo 18).toInt = (I mo 18).toInt := by rw [pf 18 (by decide) (by decide) (by decide) (by decide) (by decide)]
      rw [thn_b (by omega)] at er_399
      have hQ : mQ gh I_392 J_394 AI AJ_396 mo b nn nr nt cc f h := by rw [er_399] at hQ; exact hQ
      refine lv_aload_n F.1 F.2.1 dX7_viewTold_22 rfl (lv_at hl 0 rfl) ?_
      refine z_bipush F dX7_viewTold_23 (by decide) ?_
      have b_403 := mJ hv hm
      unfold mNum1 at b_403
      refine g_callv (g_runV (As := [.int (iI 61)]) (rest := []) (ci := 7) F hl.1 hH hS hz (c_X7_mustSignf l g gh T b nn nr nt cc f h I_392 R J_394 AI AJ_396 AR mo 61 ⟨by decide, by decide⟩ hv hm hT (by omega) h65 hbM hr7 (by omega) hn9 (by omega) (by omega) hQ) (cwV 1 F.2.2.2.2.1 (good_up gT_X7_mustSign) rfl rfl rfl hdX7_mustSign ⟨Nat.le_of_ble_eq_true rfl, Nat.le_of_ble_eq_true rfl⟩) hm (by decide) rfl rfl rfl (Nat.le_of_ble_eq_true rfl) dX7_viewTold_25 ⟨Nat.zero_le _, Nat.zero_le _⟩) hS (fun I_404 R_405 J_406 AI_407 AJ_408 AR_409 H locs hp_410 hH hS => ?_)
      dsimp only at hp_410
      obtain ⟨r_411, er_411⟩ : ∃ qQ : pR, qQ = thn (f, h, 0) (fun t _ => sTk b nn 61 t) := ⟨_, rfl⟩
      rw [← er_411] at hp_410
      obtain ⟨rfl, rfl, rfl, rfl, hv, pfq, q_412, q_413, hQ⟩ := hp_410
      have pf := qF_t pf pfq
      have u_414_2 : (I_404 mo 2).toInt = (I mo 2).toInt := by rw [pf 2 (by decide) (by decide) (by decide) (by decide) (by decide)]
      have u_414_5 : (I_404 mo 5).toInt = (I mo 5).toInt := by rw [pf 5 (by decide) (by decide) (by decide) (by decide) (by decide)]
      have u_414_14 : (I_404 mo 14).toInt = (I mo 14).toInt := by rw [pf 14 (by decide) (by decide) (by decide) (by decide) (by decide)]
      have u_414_16 : (I_404 mo 16).toInt = (I mo 16).toInt := by rw [pf 16 (by decide) (by decide) (by decide) (by decide) (by decide)]
      have u_414_18 : (I_404 mo 18).toInt = (I mo 18).toInt := by rw [pf 18 (by decide) (by decide) (by decide) (by decide) (by decide)]
      rw [thn_b (by omega)] at er_411
      have hQ : mQ gh I_404 J_406 AI AJ_396 mo b nn nr nt cc f h := by rw [er_411] at hQ; exact hQ
      replace q_413 := hid q_413
      obtain ⟨fb, efb⟩ : ∃ q, q = (I_404 mo 24).toInt := ⟨_, rfl⟩
      refine lv_aload_n F.1 F.2.1 dX7_viewTold_28 rfl (lv_at hl 0 rfl) ?_
      refine g_getI (ci := 7) (k := 24) F hH rfl (by decide) iX7 hm (by decide) rfl k81 dX7_viewTold_29 ?_
      have b_415 := mJ hv hm
      unfold mNum1 at b_415
      refine z_if_le (tgt := 36) F dX7_viewTold_32 (by decide) (zr_t _) (fun c_416 => ?_) (fun c_416 => ?_)
      · exact absurd (mQ_z hQ (by omega)) (by omega)
      · have hfin : thn (f, h, 0) (fun t _ => sVwM b nn nr nt cc t) = (f, h, 0) := thn_b q0
        exact g_vret F hr hlk hH hS hz ⟨rfl, rfl, hv, hT, pf, by first | (dsimp only; omega) | omega | rfl, by (try dsimp only); exact (fun hf => absurd hf (by omega)), by (try dsimp only); exact (fun hf => absurd hf (by omega)), by (try dsimp only); exact (fun hf => absurd hf (by omega)), by (try dsimp only); rw [hfin]; exact hQ, by (try dsimp only); rw [hfin]; exact pIc_n (by omega), by (try dsimp only); rw [hfin]; exact pJm_n (by omega), by (try dsimp only); rw [hfin]; exact pIm_n (by omega), by (try dsimp only); rw [hfin]; exact zIf_n (by omega), by (try dsimp only); rw [hfin]; exact zIf_n (by omega), fun _ _ => rfl⟩ dX7_viewTold_35
    · refine lv_aload_n F.1 F.2.1 dX7_viewTold_9 rfl (lv_at hl 0 rfl) ?_
      refine z_iconst F dX7_viewTold_10 ?_
      refine g_callv (g_runV (As := [.int (iI 4)]) (rest := []) (ci := 7) F hl.1 hH hS hz (c_X7_wrongf l g gh T b nn nr nt cc f h I R J AI AJ AR mo 4 ⟨by decide, by decide⟩ hv hm hT (by omega) h65 hbM hr7 (by omega) hn9 (by omega) hQ) (cwV 1 F.2.2.2.2.1 (good_up gT_X7_wrong) rfl rfl rfl hdX7_wrong ⟨Nat.le_of_ble_eq_true rfl, Nat.le_of_ble_eq_true rfl⟩) hm (by decide) rfl rfl rfl (Nat.le_of_ble_eq_true rfl) dX7_viewTold_11 ⟨Nat.zero_le _, Nat.zero_le _⟩) hS (fun I_417 R_418 J_419 AI_420 AJ_421 AR_422 H locs hp_423 hH hS => ?_)
      dsimp only at hp_423
      obtain ⟨r_424, er_424⟩ : ∃ qQ : pR, qQ = thn (f, h, 0) (fun t _ => (4, t, 0)) := ⟨_, rfl⟩
      rw [← er_424] at hp_423
      obtain ⟨rfl, rfl, rfl, rfl, rfl, hv, pfq, q_425, hQ⟩ := hp_423
      have pf := qF_t pf pfq
      have u_426_2 : (I_417 mo 2).toInt = (I mo 2).toInt := by rw [pf 2 (by decide) (by decide) (by decide) (by decide) (by decide)]
      have u_426_5 : (I_417 mo 5).toInt = (I mo 5).toInt := by rw [pf 5 (by decide) (by decide) (by decide) (by decide) (by decide)]
      have u_426_14 : (I_417 mo 14).toInt = (I mo 14).toInt := by rw [pf 14 (by decide) (by decide) (by decide) (by decide) (by decide)]
      have u_426_16 : (I_417 mo 16).toInt = (I mo 16).toInt := by rw [pf 16 (by decide) (by decide) (by decide) (by decide) (by decide)]
      have u_426_18 : (I_417 mo 18).toInt = (I mo 18).toInt := by rw [pf 18 (by decide) (by decide) (by decide) (by decide) (by decide)]
      rw [thn_b (by omega)] at er_424
      have hQ : mQ gh I_417 J AI AJ mo b nn nr nt cc f h := by rw [er_424] at hQ; exact hQ
      refine lv_aload_n F.1 F.2.1 dX7_viewTold_14 rfl (lv_at hl 0 rfl) ?_
      have b_427 := mJ hv hm
      unfold mNum1 at b_427
      refine g_callv (g_runV (As := []) (rest := []) (ci := 7) F hl.1 hH hS hz (c_X7_nextf l g gh T b nn (tNd b nn (tPs b nn h)) I_417 R J AI AJ AR mo hv hm hT (by omega) (mTp hv h65 hbM) hr7 (by omega) (by omega) (mQ_e0 hQ) tNd_le.1) (cwV 0 F.2.2.2.2.1 (good_up gT_X7_next) rfl rfl rfl hdX7_next ⟨Nat.le_of_ble_eq_true rfl, Nat.le_of_ble_eq_true rfl⟩) hm (by decide) rfl rfl rfl (Nat.le_of_ble_eq_true rfl) dX7_viewTold_15 ⟨Nat.zero_le _, Nat.zero_le _⟩) hS (fun I_428 R_429 J_430 AI_431 AJ_432 AR_433 H locs hp_434 hH hS => ?_)
      dsimp only at hp_434
      obtain ⟨rfl, rfl, rfl, rfl, hv, pfq, q_435, nx4, nxa, nxb⟩ := hp_434
      have pf := qF_t pf pfq
      have u_436_2 : (I_428 mo 2).toInt = (I mo 2).toInt := by rw [pf 2 (by decide) (by decide) (by decide) (by decide) (by decide)]
      have u_436_5 : (I_428 mo 5).toInt = (I mo 5).toInt := by rw [pf 5 (by decide) (by decide) (by decide) (by decide) (by decide)]
      have u_436_14 : (I_428 mo 14).toInt = (I mo 14).toInt := by rw [pf 14 (by decide) (by decide) (by decide) (by decide) (by decide)]
      have u_436_16 : (I_428 mo 16).toInt = (I mo 16).toInt := by rw [pf 16 (by decide) (by decide) (by decide) (by decide) (by decide)]
      have u_436_18 : (I_428 mo 18).toInt = (I mo 18).toInt := by rw [pf 18 (by decide) (by decide) (by decide) (by decide) (by decide)]
      have hQ : mQ gh I_428 J_430 AI AJ mo b nn nr nt cc f h := by have q9 := mQ_nx hQ nx4 nxa; rw [thn_b (by omega)] at q9; exact q9
      clear nxa nxb
      refine lv_aload_n F.1 F.2.1 dX7_viewTold_18 rfl (lv_at hl 0 rfl) ?_
      have b_437 := mJ hv hm
      unfold mNum1 at b_437
      refine g_callv (g_runV (As := []) (rest := []) (ci := 7) F hl.1 hH hS hz (c_X7_newNamef l g gh T b nn nr nt cc f h I_428 R J_430 AI AJ AR mo hv hm hT (by omega) (by omega) h65 hbM hr7 (by omega) hn9 (by omega) hQ) (cwV 0 F.2.2.2.2.1 (good_up gT_X7_newName) rfl rfl rfl hdX7_newName ⟨Nat.le_of_ble_eq_true rfl, Nat.le_of_ble_eq_true rfl⟩) hm (by decide) rfl rfl rfl (Nat.le_of_ble_eq_true rfl) dX7_viewTold_19 ⟨Nat.zero_le _, Nat.zero_le _⟩) hS (fun I_438 R_439 J_440 AI_441 AJ_442 AR_443 H locs hp_444 hH hS => ?_)
      dsimp only at hp_444
      obtain ⟨r_445, er_445⟩ : ∃ qQ : pR, qQ = thn (f, h, 0) (fun t _ => sNam b nn nr nt t) := ⟨_, rfl⟩
      rw [← er_445] at hp_444
      obtain ⟨rfl, rfl, rfl, hv, pfq, q_446, hQ, q_447⟩ := hp_444
      have pf := qF_t pf pfq
      have u_448_2 : (I_438 mo 2).toInt = (I mo 2).toInt := by rw [pf 2 (by decide) (by decide) (by decide) (by decide) (by decide)]
      have u_448_5 : (I_438 mo 5).toInt = (I mo 5).toInt := by rw [pf 5 (by decide) (by decide) (by decide) (by decide) (by decide)]
      have u_448_14 : (I_438 mo 14).toInt = (I mo 14).toInt := by rw [pf 14 (by decide) (by decide) (by decide) (by decide) (by decide)]
      have u_448_16 : (I_438 mo 16).toInt = (I mo 16).toInt := by rw [pf 16 (by decide) (by decide) (by decide) (by decide) (by decide)]
      have u_448_18 : (I_438 mo 18).toInt = (I mo 18).toInt := by rw [pf 18 (by decide) (by decide) (by decide) (by decide) (by decide)]
      rw [thn_b (by omega)] at er_445
      have hQ : mQ gh I_438 J_440 AI AJ_442 mo b nn nr nt cc f h := by rw [er_445] at hQ; exact hQ
      refine lv_aload_n F.1 F.2.1 dX7_viewTold_22 rfl (lv_at hl 0 rfl) ?_
      refine z_bipush F dX7_viewTold_23 (by decide) ?_
      have b_449 := mJ hv hm
      unfold mNum1 at b_449
      refine g_callv (g_runV (As := [.int (iI 61)]) (rest := []) (ci := 7) F hl.1 hH hS hz (c_X7_mustSignf l g gh T b nn nr nt cc f h I_438 R J_440 AI AJ_442 AR mo 61 ⟨by decide, by decide⟩ hv hm hT (by omega) h65 hbM hr7 (by omega) hn9 (by omega) (by omega) hQ) (cwV 1 F.2.2.2.2.1 (good_up gT_X7_mustSign) rfl rfl rfl hdX7_mustSign ⟨Nat.le_of_ble_eq_true rfl, Nat.le_of_ble_eq_true rfl⟩) hm (by decide) rfl rfl rfl (Nat.le_of_ble_eq_true rfl) dX7_viewTold_25 ⟨Nat.zero_le _, Nat.zero_le _⟩) hS (fun I_450 R_451 J_452 AI_453 AJ_454 AR_455 H locs hp_456 hH hS => ?_)
      dsimp only at hp_456
      obtain ⟨r_457, er_457⟩ : ∃ qQ : pR, qQ = thn (f, h, 0) (fun t _ => sTk b nn 61 t) := ⟨_, rfl⟩
      rw [← er_457] at hp_456
      obtain ⟨rfl, rfl, rfl, rfl, hv, pfq, q_458, q_459, hQ⟩ := hp_456
      have pf := qF_t pf pfq
      have u_460_2 : (I_450 mo 2).toInt = (I mo 2).toInt := by rw [pf 2 (by decide) (by decide) (by decide) (by decide) (by decide)]
      have u_460_5 : (I_450 mo 5).toInt = (I mo 5).toInt := by rw [pf 5 (by decide) (by decide) (by decide) (by decide) (by decide)]
      have u_460_14 : (I_450 mo 14).toInt = (I mo 14).toInt := by rw [pf 14 (by decide) (by decide) (by decide) (by decide) (by decide)]
      have u_460_16 : (I_450 mo 16).toInt = (I mo 16).toInt := by rw [pf 16 (by decide) (by decide) (by decide) (by decide) (by decide)]
      have u_460_18 : (I_450 mo 18).toInt = (I mo 18).toInt := by rw [pf 18 (by decide) (by decide) (by decide) (by decide) (by decide)]
      rw [thn_b (by omega)] at er_457
      have hQ : mQ gh I_450 J_452 AI AJ_442 mo b nn nr nt cc f h := by rw [er_457] at hQ; exact hQ
      replace q_459 := hid q_459
      obtain ⟨fb, efb⟩ : ∃ q, q = (I_450 mo 24).toInt := ⟨_, rfl⟩
      refine lv_aload_n F.1 F.2.1 dX7_viewTold_28 rfl (lv_at hl 0 rfl) ?_
      refine g_getI (ci := 7) (k := 24) F hH rfl (by decide) iX7 hm (by decide) rfl k81 dX7_viewTold_29 ?_
      have b_461 := mJ hv hm
      unfold mNum1 at b_461
      refine z_if_le (tgt := 36) F dX7_viewTold_32 (by decide) (zr_t _) (fun c_462 => ?_) (fun c_462 => ?_)
      · exact absurd (mQ_z hQ (by omega)) (by omega)
      · have hfin : thn (f, h, 0) (fun t _ => sVwM b nn nr nt cc t) = (f, h, 0) := thn_b q0
        exact g_vret F hr hlk hH hS hz ⟨rfl, rfl, hv, hT, pf, by first | (dsimp only; omega) | omega | rfl, by (try dsimp only); exact (fun hf => absurd hf (by omega)), by (try dsimp only); exact (fun hf => absurd hf (by omega)), by (try dsimp only); exact (fun hf => absurd hf (by omega)), by (try dsimp only); rw [hfin]; exact hQ, by (try dsimp only); rw [hfin]; exact pIc_n (by omega), by (try dsimp only); rw [hfin]; exact pJm_n (by omega), by (try dsimp only); rw [hfin]; exact pIm_n (by omega), by (try dsimp only); rw [hfin]; exact zIf_n (by omega), by (try dsimp only); rw [hfin]; exact zIf_n (by omega), fun _ _ => rfl⟩ dX7_viewTold_35
