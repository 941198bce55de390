def rmX7_viewToldf : Room := { frames := 9, cells := 0, slots := 0, locals := 197 }
set_option maxHeartbeats 4000000 in
set_option maxRecDepth 100000 in
/-- a view told -/
theorem c_X7_viewToldf (l : Launch) (g : gG) (gh : gGh) (T : Nat → Int32) (M : Int) (b : tTx) (nn nr : Nat) (nt : Nat → Nat) (cc : Nat → Int) (f : Int) (h : Nat) (I : gI) (R : gR) (J : gJ) (AI : gI) (AJ : gJ) (AR : gR) (mo : Nat) (hv : mInv g gh R I AI) (hm : gO g mo 7) (hT : AI (gh 50 0) = T) (hE : (I mo 20).toInt ≤ 936) (hMM : (I mo 5).toInt = M) (h65 : gh 9 (gh 65 0) ≠ 5) (hbM : ∀ k : Nat, k < nn → ((gM g).2 (gh 65 0) k).toInt = b k % 256) (hr7 : ∀ k : Nat, -128 ≤ b k ∧ b k ≤ 127) (hsz : (I mo 18).toInt = (nn : Int)) (hn9 : nn ≤ 900) (hm5 : (I mo 5).toInt = (nr : Int)) (hQ : mQ gh I J AI AJ mo b nn nr nt cc f h) : gMet l g yX7_viewTold tsX7_viewTold rmX7_viewToldf [.ref mo] (I, R, J, AI, AJ, AR) (gQv g (fun w : gS => R = w.2.1 ∧ AR = w.2.2.2.2.2 ∧ (mInv g gh R (w.1) (w.2.2.2.1)) ∧ ((w.2.2.2.1) (gh 50 0) = T) ∧ (qF mo I (w.1)) ∧ (((w.1) mo 20).toInt ≤ 936 ∧ (I mo 24).toInt ≤ ((w.1) mo 24).toInt) ∧ (((w.1) mo 24).toInt = 0 → ((w.1) mo 21).toInt = 4 → ((w.1) mo 23).toInt = 59 → rowOK ((w.2.2.2.1) (gh 53 0)) M) ∧ (((w.1) mo 24).toInt = 0 → M ≤ 15) ∧ (((w.1) mo 24).toInt = 0 → 1 ≤ tI ((w.2.2.2.1) (gh 53 0)) (40 * M)) ∧ (mQ gh (w.1) (w.2.2.1) (w.2.2.2.1) (w.2.2.2.2.1) mo b nn nr nt cc (thn (f, h, 0) (fun t _ => sVwM b nn nr nt cc t)).1 (thn (f, h, 0) (fun t _ => sVwM b nn nr nt cc t)).2.1) ∧ (pIc (thn (f, h, 0) (fun t _ => sVwM b nn nr nt cc t)).1 (pK b nn (thn (f, h, 0) (fun t _ => sVwM b nn nr nt cc t)).2.1) (tI ((w.2.2.2.1) (gh 53 0)) (40 * (nr : Int) + 1)) (thn (f, h, 0) (fun t _ => sVwM b nn nr nt cc t)).2.2) ∧ (pJm (thn (f, h, 0) (fun t _ => sVwM b nn nr nt cc t)).1 ((w.2.2.2.2.1) (gh 54 0) nr) (pMw b nn (h + 1))) ∧ (pIm (thn (f, h, 0) (fun t _ => sVwM b nn nr nt cc t)).1 (tI ((w.2.2.2.1) (gh 53 0)) (40 * (nr : Int))) (pV b nn (h + 3))))) := by
  refine gStart (cc := cX7_viewTold) (maxL := 3) (ret := none) (by decide) rfl (Nat.le_of_ble_eq_true rfl) ?_
  intro p e s m below meth c ls F hr hlk hH hz hS hl
  have hl : lv_has ls 3 [(0, .ref mo)] := hl
  have hS : va_S (gA g) s.heap s.heap [] := hS
  obtain ⟨H, hHe⟩ : ∃ H : Heap, H = s.heap := ⟨_, rfl⟩
  obtain ⟨locs, hlo⟩ : ∃ k : List Loc, k = [] := ⟨_, rfl⟩
  have hH : gH g I R J AI AJ AR H := by rw [hHe]; exact hH
  have hS : va_S (gA g) s.heap H locs := by rw [hHe, hlo]; exact hS
  suffices hw : W p l e rmX7_viewToldf s m ([.ref mo] : List Value).toArray below meth c H locs 0 0 (MQ below (gQv g (fun w : gS => R = w.2.1 ∧ AR = w.2.2.2.2.2 ∧ (mInv g gh R (w.1) (w.2.2.2.1)) ∧ ((w.2.2.2.1) (gh 50 0) = T) ∧ (qF mo I (w.1)) ∧ (((w.1) mo 20).toInt ≤ 936 ∧ (I mo 24).toInt ≤ ((w.1) mo 24).toInt) ∧ (((w.1) mo 24).toInt = 0 → ((w.1) mo 21).toInt = 4 → ((w.1) mo 23).toInt = 59 → rowOK ((w.2.2.2.1) (gh 53 0)) M) ∧ (((w.1) mo 24).toInt = 0 → M ≤ 15) ∧ (((w.1) mo 24).toInt = 0 → 1 ≤ tI ((w.2.2.2.1) (gh 53 0)) (40 * M)) ∧ (mQ gh (w.1) (w.2.2.1) (w.2.2.2.1) (w.2.2.2.2.1) mo b nn nr nt cc (thn (f, h, 0) (fun t _ => sVwM b nn nr nt cc t)).1 (thn (f, h, 0) (fun t _ => sVwM b nn nr nt cc t)).2.1) ∧ (pIc (thn (f, h, 0) (fun t _ => sVwM b nn nr nt cc t)).1 (pK b nn (thn (f, h, 0) (fun t _ => sVwM b nn nr nt cc t)).2.1) (tI ((w.2.2.2.1) (gh 53 0)) (40 * (nr : Int) + 1)) (thn (f, h, 0) (fun t _ => sVwM b nn nr nt cc t)).2.2) ∧ (pJm (thn (f, h, 0) (fun t _ => sVwM b nn nr nt cc t)).1 ((w.2.2.2.2.1) (gh 54 0) nr) (pMw b nn (h + 1))) ∧ (pIm (thn (f, h, 0) (fun t _ => sVwM b nn nr nt cc t)).1 (tI ((w.2.2.2.1) (gh 53 0)) (40 * (nr : Int))) (pV b nn (h + 3))))) ([.ref mo] : List Value).toArray s 0 0 (gA g)) (F0 m 0 ls []) by
    rw [hHe, hlo] at hw; exact hw
  clear hHe hlo
  have pf : qF mo I I := qF_r
  have hb0 := mJ hv hm
  unfold mNum1 at hb0
  have iX7 : ∀ w ∈ u_ws RX7 TX7 32, w ∈ tsX7_viewTold := fun w h => List.mem_cons_of_mem _ (inTB7 w h)
  have k184 : Cond.fieldLink RX7 184 (TX7 5).1 (TX7 5).2.1 (TX7 5).2.2.1 ∈ tsX7_viewTold := List.mem_cons_of_mem _ fl_184
  have k81 : Cond.fieldLink RX7 81 (TX7 24).1 (TX7 24).2.1 (TX7 24).2.2.1 ∈ tsX7_viewTold := List.mem_cons_of_mem _ fl_81
  have hf0 := mQ_p hQ
  by_cases q0 : f = 0
  · have hQ := mQ_ok hQ q0
    have hz0 := mQ_0 hQ rfl
    refine lv_aload_n F.1 F.2.1 dX7_viewTold_0 rfl (lv_at hl 0 rfl) ?_
    refine g_getI (ci := 7) (k := 5) F hH rfl (by decide) iX7 hm (by decide) rfl k184 dX7_viewTold_1 ?_
    have b_1 := mJ hv hm
    unfold mNum1 at b_1
    refine z_bipush F dX7_viewTold_4 (by decide) ?_
    refine z_icmp_ne (tgt := 14) F dX7_viewTold_6 (by decide) (zr_t _) ⟨by decide, by decide⟩ (fun c_2 => ?_) (fun c_2 => ?_)
    · refine lv_aload_n F.1 F.2.1 dX7_viewTold_14 rfl (lv_at hl 0 rfl) ?_
      refine g_callv (g_runV (As := []) (rest := []) (ci := 7) F hl.1 hH hS hz (c_X7_nextf l g gh T b nn (tNd b nn (tPs b nn h)) I R J AI AJ AR mo hv hm hT (by omega) (mTp hv h65 hbM) hr7 (by omega) (by omega) (mQ_e0 hQ) tNd_le.1) (cwV 0 F.2.2.2.2.1 (good_up gT_X7_next) rfl rfl rfl hdX7_next ⟨Nat.le_of_ble_eq_true rfl, Nat.le_of_ble_eq_true rfl⟩) hm (by decide) rfl rfl rfl (Nat.le_of_ble_eq_true rfl) dX7_viewTold_15 ⟨Nat.zero_le _, Nat.zero_le _⟩) hS (fun I_3 R_4 J_5 AI_6 AJ_7 AR_8 H locs hp_9 hH hS => ?_)
      dsimp only at hp_9
      obtain ⟨rfl, rfl, rfl, rfl, hv, pfq, q_10, nx4, nxa, nxb⟩ := hp_9
      have pf := qF_t pf pfq
      have u_11_2 : (I_3 mo 2).toInt = (I mo 2).toInt := by rw [pf 2 (by decide) (by decide) (by decide) (by decide) (by decide)]
      have u_11_5 : (I_3 mo 5).toInt = (I mo 5).toInt := by rw [pf 5 (by decide) (by decide) (by decide) (by decide) (by decide)]
      have u_11_14 : (I_3 mo 14).toInt = (I mo 14).toInt := by rw [pf 14 (by decide) (by decide) (by decide) (by decide) (by decide)]
      have u_11_16 : (I_3 mo 16).toInt = (I mo 16).toInt := by rw [pf 16 (by decide) (by decide) (by decide) (by decide) (by decide)]
      have u_11_18 : (I_3 mo 18).toInt = (I mo 18).toInt := by rw [pf 18 (by decide) (by decide) (by decide) (by decide) (by decide)]
      have hQ : mQ gh I_3 J_5 AI AJ mo b nn nr nt cc 0 (h + 1) := mQ_nx hQ nx4 nxa
      clear nxa nxb
      refine lv_aload_n F.1 F.2.1 dX7_viewTold_18 rfl (lv_at hl 0 rfl) ?_
      have b_12 := mJ hv hm
      unfold mNum1 at b_12
      refine g_callv (g_runV (As := []) (rest := []) (ci := 7) F hl.1 hH hS hz (c_X7_newNamef l g gh T b nn nr nt cc 0 (h + 1) I_3 R J_5 AI AJ AR mo hv hm hT (by omega) (by omega) h65 hbM hr7 (by omega) hn9 (by omega) hQ) (cwV 0 F.2.2.2.2.1 (good_up gT_X7_newName) rfl rfl rfl hdX7_newName ⟨Nat.le_of_ble_eq_true rfl, Nat.le_of_ble_eq_true rfl⟩) hm (by decide) rfl rfl rfl (Nat.le_of_ble_eq_true rfl) dX7_viewTold_19 ⟨Nat.zero_le _, Nat.zero_le _⟩) hS (fun I_13 R_14 J_15 AI_16 AJ_17 AR_18 H locs hp_19 hH hS => ?_)
      dsimp only at hp_19
      obtain ⟨r_20, er_20⟩ : ∃ qQ : pR, qQ = thn (0, (h + 1), 0) (fun t _ => sNam b nn nr nt t) := ⟨_, rfl⟩
      rw [← er_20] at hp_19
      obtain ⟨rfl, rfl, rfl, hv, pfq, q_21, hQ, q_22⟩ := hp_19
      have pf := qF_t pf pfq
      have u_23_2 : (I_13 mo 2).toInt = (I mo 2).toInt := by rw [pf 2 (by decide) (by decide) (by decide) (by decide) (by decide)]
      have u_23_5 : (I_13 mo 5).toInt = (I mo 5).toInt := by rw [pf 5 (by decide) (by decide) (by decide) (by decide) (by decide)]
      have u_23_14 : (I_13 mo 14).toInt = (I mo 14).toInt := by rw [pf 14 (by decide) (by decide) (by decide) (by decide) (by decide)]
      have u_23_16 : (I_13 mo 16).toInt = (I mo 16).toInt := by rw [pf 16 (by decide) (by decide) (by decide) (by decide) (by decide)]
      have u_23_18 : (I_13 mo 18).toInt = (I mo 18).toInt := by rw [pf 18 (by decide) (by decide) (by decide) (by decide) (by decide)]
      have er_20 : r_20 = sNam b nn nr nt (h + 1) := er_20
      have sr_20 := er_20
      rcases sNam_c er_20 with ⟨er_20, pr_20⟩ | ⟨kdr_20, er_20, pr_20⟩
      · have hQ : mQ gh I_13 J_15 AI AJ_17 mo b nn nr nt cc 0 (h + 2) := by rw [er_20] at hQ; exact hQ
        have sr_20 : sNam b nn nr nt (h + 1) = (0, h + 2, 0) := sr_20.symm.trans er_20
        have vlr_20 := q_22 (by rw [er_20])
        try rw [er_20] at vlr_20
        try dsimp only at vlr_20
        refine lv_aload_n F.1 F.2.1 dX7_viewTold_22 rfl (lv_at hl 0 rfl) ?_
        refine z_bipush F dX7_viewTold_23 (by decide) ?_
        have b_24 := mJ hv hm
        unfold mNum1 at b_24
        refine g_callv (g_runV (As := [.int (iI 61)]) (rest := []) (ci := 7) F hl.1 hH hS hz (c_X7_mustSignf l g gh T b nn nr nt cc 0 (h + 2) I_13 R J_15 AI AJ_17 AR mo 61 ⟨by decide, by decide⟩ hv hm hT (by omega) h65 hbM hr7 (by omega) hn9 (by omega) (by omega) hQ) (cwV 1 F.2.2.2.2.1 (good_up gT_X7_mustSign) rfl rfl rfl hdX7_mustSign ⟨Nat.le_of_ble_eq_true rfl, Nat.le_of_ble_eq_true rfl⟩) hm (by decide) rfl rfl rfl (Nat.le_of_ble_eq_true rfl) dX7_viewTold_25 ⟨Nat.zero_le _, Nat.zero_le _⟩) hS (fun I_25 R_26 J_27 AI_28 AJ_29 AR_30 H locs hp_31 hH hS => ?_)
        dsimp only at hp_31
        obtain ⟨r_32, er_32⟩ : ∃ qQ : pR, qQ = thn (0, (h + 2), 0) (fun t _ => sTk b nn 61 t) := ⟨_, rfl⟩
        rw [← er_32] at hp_31
        obtain ⟨rfl, rfl, rfl, rfl, hv, pfq, q_33, q_34, hQ⟩ := hp_31
        have pf := qF_t pf pfq
        have u_35_2 : (I_25 mo 2).toInt = (I mo 2).toInt := by rw [pf 2 (by decide) (by decide) (by decide) (by decide) (by decide)]
        have u_35_5 : (I_25 mo 5).toInt = (I mo 5).toInt := by rw [pf 5 (by decide) (by decide) (by decide) (by decide) (by decide)]
        have u_35_14 : (I_25 mo 14).toInt = (I mo 14).toInt := by rw [pf 14 (by decide) (by decide) (by decide) (by decide) (by decide)]
        have u_35_16 : (I_25 mo 16).toInt = (I mo 16).toInt := by rw [pf 16 (by decide) (by decide) (by decide) (by decide) (by decide)]
        have u_35_18 : (I_25 mo 18).toInt = (I mo 18).toInt := by rw [pf 18 (by decide) (by decide) (by decide) (by decide) (by decide)]
        have er_32 : r_32 = sTk b nn 61 (h + 2) := er_32
        have sr_32 := er_32
        rcases sTk_c er_32 with ⟨er_32, pr_32⟩ | ⟨er_32, pr_32⟩
        · have hQ : mQ gh I_25 J_27 AI AJ_17 mo b nn nr nt cc 0 (h + 3) := by rw [er_32] at hQ; exact hQ
          have sr_32 : sTk b nn 61 (h + 2) = (0, h + 3, 0) := sr_32.symm.trans er_32
          replace q_34 := hid q_34
          obtain ⟨fb, efb⟩ : ∃ q, q = (I_25 mo 24).toInt := ⟨_, rfl⟩
          refine lv_aload_n F.1 F.2.1 dX7_viewTold_28 rfl (lv_at hl 0 rfl) ?_
          refine g_getI (ci := 7) (k := 24) F hH rfl (by decide) iX7 hm (by decide) rfl k81 dX7_viewTold_29 ?_
          have b_36 := mJ hv hm
          unfold mNum1 at b_36
          refine z_if_le (tgt := 36) F dX7_viewTold_32 (by decide) (zr_t _) (fun c_37 => ?_) (fun c_37 => ?_)
          · have cut_144_37 : ∀ (kd : Int) (H : Heap) (locs : List Loc) (ls : Array Slot), zr kd → (-1 ≤ kd ∧ kd ≤ 8 ∧ kd ≠ 0) → (pKd kd (pK b nn (h + 3)) (pV b nn (h + 3))) → gH g I_25 R J_27 AI AJ_17 AR H → va_S (gA g) s.heap H locs → lv_has ls 3 [(0, .ref mo)] → W p l e rmX7_viewToldf s m ([.ref mo] : List Value).toArray below meth c H locs 0 0 (MQ below (gQv g (fun w : gS => R = w.2.1 ∧ AR = w.2.2.2.2.2 ∧ (mInv g gh R (w.1) (w.2.2.2.1)) ∧ ((w.2.2.2.1) (gh 50 0) = T) ∧ (qF mo I (w.1)) ∧ (((w.1) mo 20).toInt ≤ 936 ∧ (I mo 24).toInt ≤ ((w.1) mo 24).toInt) ∧ (((w.1) mo 24).toInt = 0 → ((w.1) mo 21).toInt = 4 → ((w.1) mo 23).toInt = 59 → rowOK ((w.2.2.2.1) (gh 53 0)) M) ∧ (((w.1) mo 24).toInt = 0 → M ≤ 15) ∧ (((w.1) mo 24).toInt = 0 → 1 ≤ tI ((w.2.2.2.1) (gh 53 0)) (40 * M)) ∧ (mQ gh (w.1) (w.2.2.1) (w.2.2.2.1) (w.2.2.2.2.1) mo b nn nr nt cc (thn (f, h, 0) (fun t _ => sVwM b nn nr nt cc t)).1 (thn (f, h, 0) (fun t _ => sVwM b nn nr nt cc t)).2.1) ∧ (pIc (thn (f, h, 0) (fun t _ => sVwM b nn nr nt cc t)).1 (pK b nn (thn (f, h, 0) (fun t _ => sVwM b nn nr nt cc t)).2.1) (tI ((w.2.2.2.1) (gh 53 0)) (40 * (nr : Int) + 1)) (thn (f, h, 0) (fun t _ => sVwM b nn nr nt cc t)).2.2) ∧ (pJm (thn (f, h, 0) (fun t _ => sVwM b nn nr nt cc t)).1 ((w.2.2.2.2.1) (gh 54 0) nr) (pMw b nn (h + 1))) ∧ (pIm (thn (f, h, 0) (fun t _ => sVwM b nn nr nt cc t)).1 (tI ((w.2.2.2.1) (gh 53 0)) (40 * (nr : Int))) (pV b nn (h + 3))))) ([.ref mo] : List Value).toArray s 0 0 (gA g)) (F0 m 144 ls [.int (iI kd)]) := by
              intro kd H locs ls zkd hkd hkd2 hH hS hl
              refine lv_istore_n (lv' := [(1, .int (iI kd)), (0, .ref mo)]) F.1 F.2.1 dX7_viewTold_144 rfl hl (by decide) rfl (fun ls hl => ?_)
              refine lv_iload_n F.1 F.2.1 dX7_viewTold_145 rfl (lv_at hl 0 rfl) ?_
              refine z_if_ge (tgt := 154) F dX7_viewTold_146 (by decide) zkd (fun c_39 => ?_) (fun c_39 => ?_)
              · have ykd := pKd_y hkd2 (by omega)
                refine lv_aload_n F.1 F.2.1 dX7_viewTold_154 rfl (lv_at hl 1 rfl) ?_
                refine g_callv (g_runV (As := []) (rest := []) (ci := 7) F hl.1 hH hS hz (c_X7_nextf l g gh T b nn (tNd b nn (tPs b nn (h + 3))) I_25 R J_27 AI AJ_17 AR mo hv hm hT (by omega) (mTp hv h65 hbM) hr7 (by omega) (by omega) (mQ_e0 hQ) tNd_le.1) (cwV 0 F.2.2.2.2.1 (good_up gT_X7_next) rfl rfl rfl hdX7_next ⟨Nat.le_of_ble_eq_true rfl, Nat.le_of_ble_eq_true rfl⟩) hm (by decide) rfl rfl rfl (Nat.le_of_ble_eq_true rfl) dX7_viewTold_155 ⟨Nat.zero_le _, Nat.zero_le _⟩) hS (fun I_40 R_41 J_42 AI_43 AJ_44 AR_45 H locs hp_46 hH hS => ?_)
                dsimp only at hp_46
                obtain ⟨rfl, rfl, rfl, rfl, hv, pfq, q_47, nx4, nxa, nxb⟩ := hp_46
                have pf := qF_t pf pfq
                have u_48_2 : (I_40 mo 2).toInt = (I mo 2).toInt := by rw [pf 2 (by decide) (by decide) (by decide) (by decide) (by decide)]
                have u_48_5 : (I_40 mo 5).toInt = (I mo 5).toInt := by rw [pf 5 (by decide) (by decide) (by decide) (by decide) (by decide)]
                have u_48_14 : (I_40 mo 14).toInt = (I mo 14).toInt := by rw [pf 14 (by decide) (by decide) (by decide) (by decide) (by decide)]
                have u_48_16 : (I_40 mo 16).toInt = (I mo 16).toInt := by rw [pf 16 (by decide) (by decide) (by decide) (by decide) (by decide)]
                have u_48_18 : (I_40 mo 18).toInt = (I mo 18).toInt := by rw [pf 18 (by decide) (by decide) (by decide) (by decide) (by decide)]
                have hQ : mQ gh I_40 J_42 AI AJ_17 mo b nn nr nt cc 0 (h + 4) := mQ_nx hQ nx4 nxa
                clear nxa nxb
                refine lv_aload_n F.1 F.2.1 dX7_viewTold_158 rfl (lv_at hl 1 rfl) ?_
                refine g_getI (ci := 7) (k := 24) F hH rfl (by decide) iX7 hm (by decide) rfl k81 dX7_viewTold_159 ?_
                have b_49 := mJ hv hm
                unfold mNum1 at b_49
                refine z_if_le (tgt := 166) F dX7_viewTold_162 (by decide) (zr_t _) (fun c_50 => ?_) (fun c_50 => ?_)
                · refine lv_iload_n F.1 F.2.1 dX7_viewTold_166 rfl (lv_at hl 0 rfl) ?_
                  refine z_iconst F dX7_viewTold_167 ?_
                  refine z_icmp_ne (tgt := 178) F dX7_viewTold_168 (by decide) zkd ⟨by decide, by decide⟩ (fun c_51 => ?_) (fun c_51 => ?_)
                  · refine lv_iload_n F.1 F.2.1 dX7_viewTold_178 rfl (lv_at hl 0 rfl) ?_
                    refine z_iconst F dX7_viewTold_179 ?_
                    refine z_icmp_ne (tgt := 190) F dX7_viewTold_180 (by decide) zkd ⟨by decide, by decide⟩ (fun c_52 => ?_) (fun c_52 => ?_)
                    · refine lv_iload_n F.1 F.2.1 dX7_viewTold_190 rfl (lv_at hl 0 rfl) ?_
                      refine z_iconst F dX7_viewTold_191 ?_
                      refine z_icmp_ne (tgt := 202) F dX7_viewTold_192 (by decide) zkd ⟨by decide, by decide⟩ (fun c_53 => ?_) (fun c_53 => ?_)
                      · refine lv_iload_n F.1 F.2.1 dX7_viewTold_202 rfl (lv_at hl 0 rfl) ?_
                        refine z_iconst F dX7_viewTold_203 ?_
                        refine z_icmp_eq (tgt := 212) F dX7_viewTold_204 (by decide) zkd ⟨by decide, by decide⟩ (fun c_54 => ?_) (fun c_54 => ?_)
                        · refine lv_aload_n F.1 F.2.1 dX7_viewTold_212 rfl (lv_at hl 1 rfl) ?_
                          refine lv_iload_n F.1 F.2.1 dX7_viewTold_213 rfl (lv_at hl 0 rfl) ?_
                          refine g_callv (g_runV (As := [.int (iI kd)]) (rest := []) (ci := 7) F hl.1 hH hS hz (c_X7_bothToldf l g gh T M b nn nr nt cc 0 (h + 4) I_40 R J_42 AI AJ_17 AR mo kd zkd hv hm hT (by omega) (by omega) (by omega) (by omega) h65 hbM hr7 (by omega) hn9 (by omega) hQ) (cwV 1 F.2.2.2.2.1 (good_up gT_X7_bothTold) rfl rfl rfl hdX7_bothTold ⟨Nat.le_of_ble_eq_true rfl, Nat.le_of_ble_eq_true rfl⟩) hm (by decide) rfl rfl rfl (Nat.le_of_ble_eq_true rfl) dX7_viewTold_214 ⟨Nat.zero_le _, Nat.zero_le _⟩) hS (fun I_55 R_56 J_57 AI_58 AJ_59 AR_60 H locs hp_61 hH hS => ?_)
                          dsimp only at hp_61
                          obtain ⟨r_62, er_62⟩ : ∃ qQ : pR, qQ = thn (0, (h + 4), 0) (fun t _ => sTwo b nn nr nt cc t) := ⟨_, rfl⟩
                          rw [← er_62] at hp_61
                          obtain ⟨rfl, rfl, rfl, hv, hT, pfq, q_63, hrow, hkq, hQ, q_64⟩ := hp_61
                          have pf := qF_t pf pfq
                          have u_65_2 : (I_55 mo 2).toInt = (I mo 2).toInt := by rw [pf 2 (by decide) (by decide) (by decide) (by decide) (by decide)]
                          have u_65_5 : (I_55 mo 5).toInt = (I mo 5).toInt := by rw [pf 5 (by decide) (by decide) (by decide) (by decide) (by decide)]
                          have u_65_14 : (I_55 mo 14).toInt = (I mo 14).toInt := by rw [pf 14 (by decide) (by decide) (by decide) (by decide) (by decide)]
                          have u_65_16 : (I_55 mo 16).toInt = (I mo 16).toInt := by rw [pf 16 (by decide) (by decide) (by decide) (by decide) (by decide)]
                          have u_65_18 : (I_55 mo 18).toInt = (I mo 18).toInt := by rw [pf 18 (by decide) (by decide) (by decide) (by decide) (by decide)]
                          have er_62 : r_62 = sTwo b nn nr nt cc (h + 4) := er_62
                          by_cases pr_62 : r_62.1 = 0
                          · have hQ := mQ_ok hQ pr_62
                            have vlr_62_7 := q_64 pr_62
                            replace hrow := hid hrow
                            replace hkq := hid hkq
                            refine z_goto (tgt := 265) F dX7_viewTold_217 (by decide) ?_
                            have hV9 : sVk b nn (h + 2) = (0, h + 4, pV b nn (h + 3)) := by unfold sVk; exact thn_t sr_32 rfl (ite_y (by omega) rfl)
                            have hfin : thn (f, h, 0) (fun t _ => sVwM b nn nr nt cc t) = (0, r_62.2.1, r_62.2.2) := (thn_k q0).trans (by show sVwM b nn nr nt cc h = _; unfold sVwM; exact ite_n (by omega) (thn_t sr_20 rfl (thn_t hV9 rfl ((sBM_4 (by omega)).trans (er_62.symm.trans (pr_x pr_62))))))
                            exact g_vret F hr hlk hH hS hz ⟨rfl, rfl, hv, hT, pf, by first | (dsimp only; omega) | omega | rfl, by first | exact hrow | ((try dsimp only); intro hf; exact absurd hf (by omega)) | ((try dsimp only); intro hf ht hn; exact row_mk (by omega) (hhd (by omega)) (by omega) (hcol (by omega)) (by omega) (by omega) (fun h => absurd h (by omega)) (fun h => absurd h (by omega)) (fun h => absurd h (by omega)) (fun h => absurd h (by omega)) (fun h => absurd h (by omega)) (fun h => absurd h (by omega)) (fun h => absurd h (by omega))), by (try dsimp only); intro hf; omega, by first | ((try dsimp only); intro hf; have q9 := hkq (by omega); omega) | ((try dsimp only); intro hf; exact absurd hf (by omega)) | ((try dsimp only); intro hf; have q9 := (hhd (by omega)).2.1; omega), by (try dsimp only); rw [hfin]; exact hQ, by (try dsimp only); rw [hfin]; first | exact (fun _ => vlr_62_7) | (have q9 := (hhd (mQ_0 hQ rfl)).2.2.1; rw [show M = (nr : Int) by omega] at q9; (try dsimp only); exact pIc_y (by omega)), by (try dsimp only); rw [hfin]; exact pJm_y vlr_20, by (try dsimp only); rw [hfin]; (try dsimp only); exact pIm_y (by have q9 := hkq (mQ_0 hQ rfl); rw [show M = (nr : Int) by omega] at q9; omega)⟩ dX7_viewTold_265
                          · have g9r_62 := mQ_f hQ pr_62
                            have g8r_62 := mQ_p hQ
                            replace hrow := hid hrow
                            replace hkq := hid hkq
                            refine z_goto (tgt := 265) F dX7_viewTold_217 (by decide) ?_
                            have hV9 : sVk b nn (h + 2) = (0, h + 4, pV b nn (h + 3)) := by unfold sVk; exact thn_t sr_32 rfl (ite_y (by omega) rfl)
                            have hfin : thn (f, h, 0) (fun t _ => sVwM b nn nr nt cc t) = r_62 := (thn_k q0).trans (by show sVwM b nn nr nt cc h = _; unfold sVwM; exact ite_n (by omega) (thn_t sr_20 rfl (thn_t hV9 rfl ((sBM_4 (by omega)).trans (er_62.symm)))))
                            exact g_vret F hr hlk hH hS hz ⟨rfl, rfl, hv, hT, pf, by first | (dsimp only; omega) | omega | rfl, by (try dsimp only); exact (fun hf => absurd hf (by omega)), by (try dsimp only); exact (fun hf => absurd hf (by omega)), by (try dsimp only); exact (fun hf => absurd hf (by omega)), by (try dsimp only); rw [hfin]; exact hQ, by (try dsimp only); rw [hfin]; exact pIc_n (by omega), by (try dsimp only); rw [hfin]; exact pJm_n (by omega), by (try dsimp only); rw [hfin]; exact pIm_n (by omega)⟩ dX7_viewTold_265
                        · refine lv_iload_n F.1 F.2.1 dX7_viewTold_207 rfl (lv_at hl 0 rfl) ?_
                          refine z_iconst F dX7_viewTold_208 ?_
                          refine z_icmp_ne (tgt := 220) F dX7_viewTold_209 (by decide) zkd ⟨by decide, by decide⟩ (fun c_66 => ?_) (fun c_66 => ?_)
                          · refine lv_iload_n F.1 F.2.1 dX7_viewTold_220 rfl (lv_at hl 0 rfl) ?_
                            refine z_bipush F dX7_viewTold_221 (by decide) ?_
                            refine z_icmp_ne (tgt := 233) F dX7_viewTold_223 (by decide) zkd ⟨by decide, by decide⟩ (fun c_67 => ?_) (fun c_67 => ?_)
                            · refine lv_iload_n F.1 F.2.1 dX7_viewTold_233 rfl (lv_at hl 0 rfl) ?_
                              refine z_bipush F dX7_viewTold_234 (by decide) ?_
                              refine z_icmp_ne (tgt := 246) F dX7_viewTold_236 (by decide) zkd ⟨by decide, by decide⟩ (fun c_68 => ?_) (fun c_68 => ?_)
                              · refine lv_aload_n F.1 F.2.1 dX7_viewTold_246 rfl (lv_at hl 1 rfl) ?_
                                refine g_calli (g_runV (As := []) (rest := []) (ci := 7) F hl.1 hH hS hz (c_X7_relationf l g gh T b nn nr nt cc 0 (h + 4) I_40 R J_42 AI AJ_17 AR mo hv hm hT (by omega) h65 hbM hr7 (by omega) hn9 (by omega) hQ) (cwV 0 F.2.2.2.2.1 (good_up gT_X7_relation) rfl rfl rfl hdX7_relation ⟨Nat.le_of_ble_eq_true rfl, Nat.le_of_ble_eq_true rfl⟩) hm (by decide) rfl rfl rfl (Nat.le_of_ble_eq_true rfl) dX7_viewTold_247 ⟨Nat.zero_le _, Nat.zero_le _⟩) hS (fun v_75 I_69 R_70 J_71 AI_72 AJ_73 AR_74 H locs zv_75 hp_76 hH hS => ?_)
                                dsimp only at hp_76
                                obtain ⟨r_77, er_77⟩ : ∃ qQ : pR, qQ = thn (0, (h + 4), 0) (fun t _ => sRl b nn nr nt cc t) := ⟨_, rfl⟩
                                rw [← er_77] at hp_76
                                obtain ⟨rfl, rfl, rfl, rfl, hv, pfq, q_78, q_79, hQ, q_80⟩ := hp_76
                                have pf := qF_t pf pfq
                                have u_81_2 : (I_69 mo 2).toInt = (I mo 2).toInt := by rw [pf 2 (by decide) (by decide) (by decide) (by decide) (by decide)]
                                have u_81_5 : (I_69 mo 5).toInt = (I mo 5).toInt := by rw [pf 5 (by decide) (by decide) (by decide) (by decide) (by decide)]
                                have u_81_14 : (I_69 mo 14).toInt = (I mo 14).toInt := by rw [pf 14 (by decide) (by decide) (by decide) (by decide) (by decide)]
                                have u_81_16 : (I_69 mo 16).toInt = (I mo 16).toInt := by rw [pf 16 (by decide) (by decide) (by decide) (by decide) (by decide)]
                                have u_81_18 : (I_69 mo 18).toInt = (I mo 18).toInt := by rw [pf 18 (by decide) (by decide) (by decide) (by decide) (by decide)]
                                have er_77 : r_77 = sRl b nn nr nt cc (h + 4) := er_77
                                have sr_77 := er_77
                                rcases sRl_c er_77 with ⟨er_77, pr_77⟩ | ⟨er_77, pr_77⟩
                                · have hQ : mQ gh I_69 J_71 AI AJ_17 mo b nn nr nt cc 0 (h + 5) := by rw [er_77] at hQ; exact hQ
                                  have sr_77 : sRl b nn nr nt cc (h + 4) = (0, h + 5, cF b nn nr nt cc (h + 4)) := sr_77.symm.trans er_77
                                  have vlr_77 := q_80 (by rw [er_77])
                                  try rw [er_77] at vlr_77
                                  try dsimp only at vlr_77
                                  replace q_79 := (⟨q_79.1, q_79.2.1, q_79.2.2 (mQ_0 hQ rfl)⟩ : _ ∧ _ ∧ _)
                                  obtain ⟨f0, ef0⟩ : ∃ q, q = (I_69 mo 24).toInt := ⟨_, rfl⟩
                                  have hr1 : Hid (f0 = 0 → v_75 < M) := fun h9 => by omega
                                  refine lv_istore_n (lv' := [(2, .int (iI v_75)), (1, .int (iI kd)), (0, .ref mo)]) F.1 F.2.1 dX7_viewTold_250 rfl hl (by decide) rfl (fun ls hl => ?_)
                                  refine lv_aload_n F.1 F.2.1 dX7_viewTold_251 rfl (lv_at hl 2 rfl) ?_
                                  refine z_bipush F dX7_viewTold_252 (by decide) ?_
                                  refine lv_aload_n F.1 F.2.1 dX7_viewTold_254 rfl (lv_at hl 2 rfl) ?_
                                  refine lv_iload_n F.1 F.2.1 dX7_viewTold_255 rfl (lv_at hl 0 rfl) ?_
                                  have b_83 := mJ hv hm
                                  unfold mNum1 at b_83
                                  refine g_calli (g_runV (As := [.int (iI v_75)]) (rest := [.int (iI 6), .ref mo]) (ci := 7) F hl.1 hH hS hz (c_X7_columns l g gh T I_69 R J_71 AI AJ_17 AR mo v_75 zv_75 hv hm hT (by omega)) (cwV 1 F.2.2.2.2.1 (good_up gT_X7_columns) rfl rfl rfl hdX7_columns ⟨Nat.le_of_ble_eq_true rfl, Nat.le_of_ble_eq_true rfl⟩) hm (by decide) rfl rfl rfl (Nat.le_of_ble_eq_true rfl) dX7_viewTold_256 ⟨Nat.zero_le _, Nat.zero_le _⟩) hS (fun v_90 I_84 R_85 J_86 AI_87 AJ_88 AR_89 H locs zv_90 hp_91 hH hS => ?_)
                                  dsimp only at hp_91
                                  obtain ⟨rfl, rfl, rfl, rfl, rfl, rfl, q_82⟩ := hp_91
                                  have cvv_90 : v_90 = cF b nn nr nt cc (h + 4) := q_82.trans ((mQ_c hQ rfl vlr_77.1 vlr_77.2.1).trans vlr_77.2.2)
                                  have hcol : Hid ((I_69 mo 24).toInt = 0 → 1 ≤ v_90 ∧ v_90 ≤ 4) := fun h => by have q9 := mCol hv hm (z := v_75) (by omega) (by omega); omega
                                  refine lv_iload_n F.1 F.2.1 dX7_viewTold_259 rfl (lv_at hl 0 rfl) ?_
                                  refine z_iconst F dX7_viewTold_260 ?_
                                  refine z_iconst F dX7_viewTold_261 ?_
                                  refine g_callv (g_runV (As := [.int (iI 6), .int (iI v_90), .int (iI v_75), .int (iI ((-1))), .int (iI 0)]) (rest := []) (ci := 7) F hl.1 hH hS hz (c_X7_header l g gh T M I_69 R J_71 AI AJ_17 AR mo 6 v_90 v_75 (-1) 0 ⟨by decide, by decide⟩ zv_90 zv_75 ⟨by decide, by decide⟩ ⟨by decide, by decide⟩ hv hm hT (by omega) (by omega)) (cwV 5 F.2.2.2.2.1 (good_up gT_X7_header) rfl rfl rfl hdX7_header ⟨Nat.le_of_ble_eq_true rfl, Nat.le_of_ble_eq_true rfl⟩) hm (by decide) rfl rfl rfl (Nat.le_of_ble_eq_true rfl) dX7_viewTold_262 ⟨Nat.zero_le _, Nat.zero_le _⟩) hS (fun I_92 R_93 J_94 AI_95 AJ_96 AR_97 H locs hp_98 hH hS => ?_)
                                  dsimp only at hp_98
                                  obtain ⟨rfl, rfl, rfl, rfl, rfl, hv, hT, hhd⟩ := hp_98
                                  replace hhd := hid hhd
                                  have hQ : mQ gh I_69 J_71 AI_95 AJ_17 mo b nn nr nt cc 0 (h + 5) := mQ_a hQ (fun hf9 z9 h09 h19 => (hhd hf9).1 z9 h09 (Or.inl (by omega)))
                                  have hV9 : sVk b nn (h + 2) = (0, h + 4, pV b nn (h + 3)) := by unfold sVk; exact thn_t sr_32 rfl (ite_y (by omega) rfl)
                                  have hfin : thn (f, h, 0) (fun t _ => sVwM b nn nr nt cc t) = (0, h + 5, cF b nn nr nt cc (h + 4)) := (thn_k q0).trans (by show sVwM b nn nr nt cc h = _; unfold sVwM; exact ite_n (by omega) (thn_t sr_20 rfl (thn_t hV9 rfl ((sBM_6 (by omega)).trans (sr_77)))))
                                  exact g_vret F hr hlk hH hS hz ⟨rfl, rfl, hv, hT, pf, by first | (dsimp only; omega) | omega | rfl, by first | exact hrow | ((try dsimp only); intro hf; exact absurd hf (by omega)) | ((try dsimp only); intro hf ht hn; exact row_mk (by omega) (hhd (by omega)) (by omega) (hcol (by omega)) (by omega) (by omega) (fun h => absurd h (by omega)) (fun h => absurd h (by omega)) (fun h => absurd h (by omega)) (fun h => absurd h (by omega)) (fun h => absurd h (by omega)) (fun h => absurd h (by omega)) (fun h => absurd h (by omega))), by (try dsimp only); intro hf; omega, by first | ((try dsimp only); intro hf; have q9 := hkq (by omega); omega) | ((try dsimp only); intro hf; exact absurd hf (by omega)) | ((try dsimp only); intro hf; have q9 := (hhd (by omega)).2.1; omega), by (try dsimp only); rw [hfin]; exact hQ, by (try dsimp only); rw [hfin]; first | exact (fun _ => trivial) | (have q9 := (hhd (mQ_0 hQ rfl)).2.2.1; rw [show M = (nr : Int) by omega] at q9; (try dsimp only); exact pIc_y (by omega)), by (try dsimp only); rw [hfin]; exact pJm_y vlr_20, by (try dsimp only); rw [hfin]; (try dsimp only); exact pIm_y (by have q9 := (hhd (mQ_0 hQ rfl)).2.1; rw [show M = (nr : Int) by omega] at q9; omega)⟩ dX7_viewTold_265
                                · have hQ : mQ gh I_69 J_71 AI AJ_17 mo b nn nr nt cc (pRf b nn nt nr (h + 4)) (h + 4) := by rw [er_77] at hQ; exact hQ
                                  have sr_77 := sr_77.symm.trans er_77
                                  have g9r_77 := mQ_f hQ (by omega)
                                  replace q_79 := (⟨q_79.1, q_79.2.1⟩ : _ ∧ _)
                                  obtain ⟨f0, ef0⟩ : ∃ q, q = (I_69 mo 24).toInt := ⟨_, rfl⟩
                                  have hr1 : Hid (f0 = 0 → v_75 < M) := fun h9 => by omega
                                  refine lv_istore_n (lv' := [(2, .int (iI v_75)), (1, .int (iI kd)), (0, .ref mo)]) F.1 F.2.1 dX7_viewTold_250 rfl hl (by decide) rfl (fun ls hl => ?_)
                                  refine lv_aload_n F.1 F.2.1 dX7_viewTold_251 rfl (lv_at hl 2 rfl) ?_
                                  refine z_bipush F dX7_viewTold_252 (by decide) ?_
                                  refine lv_aload_n F.1 F.2.1 dX7_viewTold_254 rfl (lv_at hl 2 rfl) ?_
                                  refine lv_iload_n F.1 F.2.1 dX7_viewTold_255 rfl (lv_at hl 0 rfl) ?_
                                  have b_100 := mJ hv hm
                                  unfold mNum1 at b_100
                                  refine g_calli (g_runV (As := [.int (iI v_75)]) (rest := [.int (iI 6), .ref mo]) (ci := 7) F hl.1 hH hS hz (c_X7_columns l g gh T I_69 R J_71 AI AJ_17 AR mo v_75 zv_75 hv hm hT (by omega)) (cwV 1 F.2.2.2.2.1 (good_up gT_X7_columns) rfl rfl rfl hdX7_columns ⟨Nat.le_of_ble_eq_true rfl, Nat.le_of_ble_eq_true rfl⟩) hm (by decide) rfl rfl rfl (Nat.le_of_ble_eq_true rfl) dX7_viewTold_256 ⟨Nat.zero_le _, Nat.zero_le _⟩) hS (fun v_107 I_101 R_102 J_103 AI_104 AJ_105 AR_106 H locs zv_107 hp_108 hH hS => ?_)
                                  dsimp only at hp_108
                                  obtain ⟨rfl, rfl, rfl, rfl, rfl, rfl, q_99⟩ := hp_108
                                  have hcol : Hid ((I_69 mo 24).toInt = 0 → 1 ≤ v_107 ∧ v_107 ≤ 4) := fun h => by have q9 := mCol hv hm (z := v_75) (by omega) (by omega); omega
                                  refine lv_iload_n F.1 F.2.1 dX7_viewTold_259 rfl (lv_at hl 0 rfl) ?_
                                  refine z_iconst F dX7_viewTold_260 ?_
                                  refine z_iconst F dX7_viewTold_261 ?_
                                  refine g_callv (g_runV (As := [.int (iI 6), .int (iI v_107), .int (iI v_75), .int (iI ((-1))), .int (iI 0)]) (rest := []) (ci := 7) F hl.1 hH hS hz (c_X7_header l g gh T M I_69 R J_71 AI AJ_17 AR mo 6 v_107 v_75 (-1) 0 ⟨by decide, by decide⟩ zv_107 zv_75 ⟨by decide, by decide⟩ ⟨by decide, by decide⟩ hv hm hT (by omega) (by omega)) (cwV 5 F.2.2.2.2.1 (good_up gT_X7_header) rfl rfl rfl hdX7_header ⟨Nat.le_of_ble_eq_true rfl, Nat.le_of_ble_eq_true rfl⟩) hm (by decide) rfl rfl rfl (Nat.le_of_ble_eq_true rfl) dX7_viewTold_262 ⟨Nat.zero_le _, Nat.zero_le _⟩) hS (fun I_109 R_110 J_111 AI_112 AJ_113 AR_114 H locs hp_115 hH hS => ?_)
                                  dsimp only at hp_115
                                  obtain ⟨rfl, rfl, rfl, rfl, rfl, hv, hT, hhd⟩ := hp_115
                                  replace hhd := hid hhd
                                  have hQ : mQ gh I_69 J_71 AI_112 AJ_17 mo b nn nr nt cc (pRf b nn nt nr (h + 4)) (h + 4) := mQ_bad hQ (by omega) rfl
                                  have hV9 : sVk b nn (h + 2) = (0, h + 4, pV b nn (h + 3)) := by unfold sVk; exact thn_t sr_32 rfl (ite_y (by omega) rfl)
                                  have hfin : thn (f, h, 0) (fun t _ => sVwM b nn nr nt cc t) = (pRf b nn nt nr (h + 4), h + 4, 0) := (thn_k q0).trans (by show sVwM b nn nr nt cc h = _; unfold sVwM; exact ite_n (by omega) (thn_t sr_20 rfl (thn_t hV9 rfl ((sBM_6 (by omega)).trans (sr_77)))))
                                  exact g_vret F hr hlk hH hS hz ⟨rfl, rfl, hv, hT, pf, by first | (dsimp only; omega) | omega | rfl, by (try dsimp only); exact (fun hf => absurd hf (by omega)), by (try dsimp only); exact (fun hf => absurd hf (by omega)), by (try dsimp only); exact (fun hf => absurd hf (by omega)), by (try dsimp only); rw [hfin]; exact hQ, by (try dsimp only); rw [hfin]; exact pIc_n (by omega), by (try dsimp only); rw [hfin]; exact pJm_n (by omega), by (try dsimp only); rw [hfin]; exact pIm_n (by omega)⟩ dX7_viewTold_265
                              · refine lv_aload_n F.1 F.2.1 dX7_viewTold_239 rfl (lv_at hl 1 rfl) ?_
                                refine g_callv (g_runV (As := []) (rest := []) (ci := 7) F hl.1 hH hS hz (c_X7_ringToldf l g gh T M b nn nr nt cc 0 (h + 4) I_40 R J_42 AI AJ_17 AR mo hv hm hT (by omega) (by omega) (by omega) h65 hbM hr7 (by omega) hn9 (by omega) hQ) (cwV 0 F.2.2.2.2.1 (good_up gT_X7_ringTold) rfl rfl rfl hdX7_ringTold ⟨Nat.le_of_ble_eq_true rfl, Nat.le_of_ble_eq_true rfl⟩) hm (by decide) rfl rfl rfl (Nat.le_of_ble_eq_true rfl) dX7_viewTold_240 ⟨Nat.zero_le _, Nat.zero_le _⟩) hS (fun I_116 R_117 J_118 AI_119 AJ_120 AR_121 H locs hp_122 hH hS => ?_)
                                dsimp only at hp_122
                                obtain ⟨r_123, er_123⟩ : ∃ qQ : pR, qQ = thn (0, (h + 4), 0) (fun t _ => sRngM b nn nr nt cc t) := ⟨_, rfl⟩
                                rw [← er_123] at hp_122
                                obtain ⟨rfl, rfl, rfl, hv, hT, pfq, q_124, hrow, hkq, hQ, q_125⟩ := hp_122
                                have pf := qF_t pf pfq
                                have u_126_2 : (I_116 mo 2).toInt = (I mo 2).toInt := by rw [pf 2 (by decide) (by decide) (by decide) (by decide) (by decide)]
                                have u_126_5 : (I_116 mo 5).toInt = (I mo 5).toInt := by rw [pf 5 (by decide) (by decide) (by decide) (by decide) (by decide)]
                                have u_126_14 : (I_116 mo 14).toInt = (I mo 14).toInt := by rw [pf 14 (by decide) (by decide) (by decide) (by decide) (by decide)]
                                have u_126_16 : (I_116 mo 16).toInt = (I mo 16).toInt := by rw [pf 16 (by decide) (by decide) (by decide) (by decide) (by decide)]
                                have u_126_18 : (I_116 mo 18).toInt = (I mo 18).toInt := by rw [pf 18 (by decide) (by decide) (by decide) (by decide) (by decide)]
                                have er_123 : r_123 = sRngM b nn nr nt cc (h + 4) := er_123
                                by_cases pr_123 : r_123.1 = 0
                                · have hQ := mQ_ok hQ pr_123
                                  have vlr_123_7 := q_125 pr_123
                                  replace hrow := hid hrow
                                  replace hkq := hid hkq
                                  refine z_goto (tgt := 265) F dX7_viewTold_243 (by decide) ?_
                                  have hV9 : sVk b nn (h + 2) = (0, h + 4, pV b nn (h + 3)) := by unfold sVk; exact thn_t sr_32 rfl (ite_y (by omega) rfl)
                                  have hfin : thn (f, h, 0) (fun t _ => sVwM b nn nr nt cc t) = (0, r_123.2.1, r_123.2.2) := (thn_k q0).trans (by show sVwM b nn nr nt cc h = _; unfold sVwM; exact ite_n (by omega) (thn_t sr_20 rfl (thn_t hV9 rfl ((sBM_8 (by omega)).trans (er_123.symm.trans (pr_x pr_123))))))
                                  exact g_vret F hr hlk hH hS hz ⟨rfl, rfl, hv, hT, pf, by first | (dsimp only; omega) | omega | rfl, by first | exact hrow | ((try dsimp only); intro hf; exact absurd hf (by omega)) | ((try dsimp only); intro hf ht hn; exact row_mk (by omega) (hhd (by omega)) (by omega) (hcol (by omega)) (by omega) (by omega) (fun h => absurd h (by omega)) (fun h => absurd h (by omega)) (fun h => absurd h (by omega)) (fun h => absurd h (by omega)) (fun h => absurd h (by omega)) (fun h => absurd h (by omega)) (fun h => absurd h (by omega))), by (try dsimp only); intro hf; omega, by first | ((try dsimp only); intro hf; have q9 := hkq (by omega); omega) | ((try dsimp only); intro hf; exact absurd hf (by omega)) | ((try dsimp only); intro hf; have q9 := (hhd (by omega)).2.1; omega), by (try dsimp only); rw [hfin]; exact hQ, by (try dsimp only); rw [hfin]; first | exact (fun _ => vlr_123_7) | (have q9 := (hhd (mQ_0 hQ rfl)).2.2.1; rw [show M = (nr : Int) by omega] at q9; (try dsimp only); exact pIc_y (by omega)), by (try dsimp only); rw [hfin]; exact pJm_y vlr_20, by (try dsimp only); rw [hfin]; (try dsimp only); exact pIm_y (by have q9 := hkq (mQ_0 hQ rfl); rw [show M = (nr : Int) by omega] at q9; omega)⟩ dX7_viewTold_265
                                · have g9r_123 := mQ_f hQ pr_123
                                  have g8r_123 := mQ_p hQ
                                  replace hrow := hid hrow
                                  replace hkq := hid hkq
                                  refine z_goto (tgt := 265) F dX7_viewTold_243 (by decide) ?_
                                  have hV9 : sVk b nn (h + 2) = (0, h + 4, pV b nn (h + 3)) := by unfold sVk; exact thn_t sr_32 rfl (ite_y (by omega) rfl)
                                  have hfin : thn (f, h, 0) (fun t _ => sVwM b nn nr nt cc t) = r_123 := (thn_k q0).trans (by show sVwM b nn nr nt cc h = _; unfold sVwM; exact ite_n (by omega) (thn_t sr_20 rfl (thn_t hV9 rfl ((sBM_8 (by omega)).trans (er_123.symm)))))
                                  exact g_vret F hr hlk hH hS hz ⟨rfl, rfl, hv, hT, pf, by first | (dsimp only; omega) | omega | rfl, by (try dsimp only); exact (fun hf => absurd hf (by omega)), by (try dsimp only); exact (fun hf => absurd hf (by omega)), by (try dsimp only); exact (fun hf => absurd hf (by omega)), by (try dsimp only); rw [hfin]; exact hQ, by (try dsimp only); rw [hfin]; exact pIc_n (by omega), by (try dsimp only); rw [hfin]; exact pJm_n (by omega), by (try dsimp only); rw [hfin]; exact pIm_n (by omega)⟩ dX7_viewTold_265
                            · refine lv_aload_n F.1 F.2.1 dX7_viewTold_226 rfl (lv_at hl 1 rfl) ?_
                              refine g_callv (g_runV (As := []) (rest := []) (ci := 7) F hl.1 hH hS hz (c_X7_groupToldf l g gh T M b nn nr nt cc 0 (h + 4) I_40 R J_42 AI AJ_17 AR mo hv hm hT (by omega) (by omega) (by omega) h65 hbM hr7 (by omega) hn9 (by omega) hQ) (cwV 0 F.2.2.2.2.1 (good_up gT_X7_groupTold) rfl rfl rfl hdX7_groupTold ⟨Nat.le_of_ble_eq_true rfl, Nat.le_of_ble_eq_true rfl⟩) hm (by decide) rfl rfl rfl (Nat.le_of_ble_eq_true rfl) dX7_viewTold_227 ⟨Nat.zero_le _, Nat.zero_le _⟩) hS (fun I_127 R_128 J_129 AI_130 AJ_131 AR_132 H locs hp_133 hH hS => ?_)
                              dsimp only at hp_133
                              obtain ⟨r_134, er_134⟩ : ∃ qQ : pR, qQ = thn (0, (h + 4), 0) (fun t _ => sGrp b nn nr nt cc t) := ⟨_, rfl⟩
                              rw [← er_134] at hp_133
                              obtain ⟨rfl, rfl, rfl, hv, hT, pfq, q_135, hrow, hkq, hQ, q_136⟩ := hp_133
                              have pf := qF_t pf pfq
                              have u_137_2 : (I_127 mo 2).toInt = (I mo 2).toInt := by rw [pf 2 (by decide) (by decide) (by decide) (by decide) (by decide)]
                              have u_137_5 : (I_127 mo 5).toInt = (I mo 5).toInt := by rw [pf 5 (by decide) (by decide) (by decide) (by decide) (by decide)]
                              have u_137_14 : (I_127 mo 14).toInt = (I mo 14).toInt := by rw [pf 14 (by decide) (by decide) (by decide) (by decide) (by decide)]
                              have u_137_16 : (I_127 mo 16).toInt = (I mo 16).toInt := by rw [pf 16 (by decide) (by decide) (by decide) (by decide) (by decide)]
                              have u_137_18 : (I_127 mo 18).toInt = (I mo 18).toInt := by rw [pf 18 (by decide) (by decide) (by decide) (by decide) (by decide)]
                              have er_134 : r_134 = sGrp b nn nr nt cc (h + 4) := er_134
                              by_cases pr_134 : r_134.1 = 0
                              · have hQ := mQ_ok hQ pr_134
                                have vlr_134_7 := q_136 pr_134
                                replace hrow := hid hrow
                                replace hkq := hid hkq
                                refine z_goto (tgt := 265) F dX7_viewTold_230 (by decide) ?_
                                have hV9 : sVk b nn (h + 2) = (0, h + 4, pV b nn (h + 3)) := by unfold sVk; exact thn_t sr_32 rfl (ite_y (by omega) rfl)
                                have hfin : thn (f, h, 0) (fun t _ => sVwM b nn nr nt cc t) = (0, r_134.2.1, r_134.2.2) := (thn_k q0).trans (by show sVwM b nn nr nt cc h = _; unfold sVwM; exact ite_n (by omega) (thn_t sr_20 rfl (thn_t hV9 rfl ((sBM_7 (by omega)).trans (er_134.symm.trans (pr_x pr_134))))))
                                exact g_vret F hr hlk hH hS hz ⟨rfl, rfl, hv, hT, pf, by first | (dsimp only; omega) | omega | rfl, by first | exact hrow | ((try dsimp only); intro hf; exact absurd hf (by omega)) | ((try dsimp only); intro hf ht hn; exact row_mk (by omega) (hhd (by omega)) (by omega) (hcol (by omega)) (by omega) (by omega) (fun h => absurd h (by omega)) (fun h => absurd h (by omega)) (fun h => absurd h (by omega)) (fun h => absurd h (by omega)) (fun h => absurd h (by omega)) (fun h => absurd h (by omega)) (fun h => absurd h (by omega))), by (try dsimp only); intro hf; omega, by first | ((try dsimp only); intro hf; have q9 := hkq (by omega); omega) | ((try dsimp only); intro hf; exact absurd hf (by omega)) | ((try dsimp only); intro hf; have q9 := (hhd (by omega)).2.1; omega), by (try dsimp only); rw [hfin]; exact hQ, by (try dsimp only); rw [hfin]; first | exact (fun _ => vlr_134_7) | (have q9 := (hhd (mQ_0 hQ rfl)).2.2.1; rw [show M = (nr : Int) by omega] at q9; (try dsimp only); exact pIc_y (by omega)), by (try dsimp only); rw [hfin]; exact pJm_y vlr_20, by (try dsimp only); rw [hfin]; (try dsimp only); exact pIm_y (by have q9 := hkq (mQ_0 hQ rfl); rw [show M = (nr : Int) by omega] at q9; omega)⟩ dX7_viewTold_265
                              · have g9r_134 := mQ_f hQ pr_134
                                have g8r_134 := mQ_p hQ
                                replace hrow := hid hrow
                                replace hkq := hid hkq
                                refine z_goto (tgt := 265) F dX7_viewTold_230 (by decide) ?_
                                have hV9 : sVk b nn (h + 2) = (0, h + 4, pV b nn (h + 3)) := by unfold sVk; exact thn_t sr_32 rfl (ite_y (by omega) rfl)
                                have hfin : thn (f, h, 0) (fun t _ => sVwM b nn nr nt cc t) = r_134 := (thn_k q0).trans (by show sVwM b nn nr nt cc h = _; unfold sVwM; exact ite_n (by omega) (thn_t sr_20 rfl (thn_t hV9 rfl ((sBM_7 (by omega)).trans (er_134.symm)))))
                                exact g_vret F hr hlk hH hS hz ⟨rfl, rfl, hv, hT, pf, by first | (dsimp only; omega) | omega | rfl, by (try dsimp only); exact (fun hf => absurd hf (by omega)), by (try dsimp only); exact (fun hf => absurd hf (by omega)), by (try dsimp only); exact (fun hf => absurd hf (by omega)), by (try dsimp only); rw [hfin]; exact hQ, by (try dsimp only); rw [hfin]; exact pIc_n (by omega), by (try dsimp only); rw [hfin]; exact pJm_n (by omega), by (try dsimp only); rw [hfin]; exact pIm_n (by omega)⟩ dX7_viewTold_265
                          · refine lv_aload_n F.1 F.2.1 dX7_viewTold_212 rfl (lv_at hl 1 rfl) ?_
                            refine lv_iload_n F.1 F.2.1 dX7_viewTold_213 rfl (lv_at hl 0 rfl) ?_
                            refine g_callv (g_runV (As := [.int (iI kd)]) (rest := []) (ci := 7) F hl.1 hH hS hz (c_X7_bothToldf l g gh T M b nn nr nt cc 0 (h + 4) I_40 R J_42 AI AJ_17 AR mo kd zkd hv hm hT (by omega) (by omega) (by omega) (by omega) h65 hbM hr7 (by omega) hn9 (by omega) hQ) (cwV 1 F.2.2.2.2.1 (good_up gT_X7_bothTold) rfl rfl rfl hdX7_bothTold ⟨Nat.le_of_ble_eq_true rfl, Nat.le_of_ble_eq_true rfl⟩) hm (by decide) rfl rfl rfl (Nat.le_of_ble_eq_true rfl) dX7_viewTold_214 ⟨Nat.zero_le _, Nat.zero_le _⟩) hS (fun I_138 R_139 J_140 AI_141 AJ_142 AR_143 H locs hp_144 hH hS => ?_)
                            dsimp only at hp_144
                            obtain ⟨r_145, er_145⟩ : ∃ qQ : pR, qQ = thn (0, (h + 4), 0) (fun t _ => sTwo b nn nr nt cc t) := ⟨_, rfl⟩
                            rw [← er_145] at hp_144
                            obtain ⟨rfl, rfl, rfl, hv, hT, pfq, q_146, hrow, hkq, hQ, q_147⟩ := hp_144
                            have pf := qF_t pf pfq
                            have u_148_2 : (I_138 mo 2).toInt = (I mo 2).toInt := by rw [pf 2 (by decide) (by decide) (by decide) (by decide) (by decide)]
                            have u_148_5 : (I_138 mo 5).toInt = (I mo 5).toInt := by rw [pf 5 (by decide) (by decide) (by decide) (by decide) (by decide)]
                            have u_148_14 : (I_138 mo 14).toInt = (I mo 14).toInt := by rw [pf 14 (by decide) (by decide) (by decide) (by decide) (by decide)]
                            have u_148_16 : (I_138 mo 16).toInt = (I mo 16).toInt := by rw [pf 16 (by decide) (by decide) (by decide) (by decide) (by decide)]
                            have u_148_18 : (I_138 mo 18).toInt = (I mo 18).toInt := by rw [pf 18 (by decide) (by decide) (by decide) (by decide) (by decide)]
                            have er_145 : r_145 = sTwo b nn nr nt cc (h + 4) := er_145
                            by_cases pr_145 : r_145.1 = 0
                            · have hQ := mQ_ok hQ pr_145
                              have vlr_145_7 := q_147 pr_145
                              replace hrow := hid hrow
                              replace hkq := hid hkq
                              refine z_goto (tgt := 265) F dX7_viewTold_217 (by decide) ?_
                              have hV9 : sVk b nn (h + 2) = (0, h + 4, pV b nn (h + 3)) := by unfold sVk; exact thn_t sr_32 rfl (ite_y (by omega) rfl)
                              have hfin : thn (f, h, 0) (fun t _ => sVwM b nn nr nt cc t) = (0, r_145.2.1, r_145.2.2) := (thn_k q0).trans (by show sVwM b nn nr nt cc h = _; unfold sVwM; exact ite_n (by omega) (thn_t sr_20 rfl (thn_t hV9 rfl ((sBM_5 (by omega)).trans (er_145.symm.trans (pr_x pr_145))))))
                              exact g_vret F hr hlk hH hS hz ⟨rfl, rfl, hv, hT, pf, by first | (dsimp only; omega) | omega | rfl, by first | exact hrow | ((try dsimp only); intro hf; exact absurd hf (by omega)) | ((try dsimp only); intro hf ht hn; exact row_mk (by omega) (hhd (by omega)) (by omega) (hcol (by omega)) (by omega) (by omega) (fun h => absurd h (by omega)) (fun h => absurd h (by omega)) (fun h => absurd h (by omega)) (fun h => absurd h (by omega)) (fun h => absurd h (by omega)) (fun h => absurd h (by omega)) (fun h => absurd h (by omega))), by (try dsimp only); intro hf; omega, by first | ((try dsimp only); intro hf; have q9 := hkq (by omega); omega) | ((try dsimp only); intro hf; exact absurd hf (by omega)) | ((try dsimp only); intro hf; have q9 := (hhd (by omega)).2.1; omega), by (try dsimp only); rw [hfin]; exact hQ, by (try dsimp only); rw [hfin]; first | exact (fun _ => vlr_145_7) | (have q9 := (hhd (mQ_0 hQ rfl)).2.2.1; rw [show M = (nr : Int) by omega] at q9; (try dsimp only); exact pIc_y (by omega)), by (try dsimp only); rw [hfin]; exact pJm_y vlr_20, by (try dsimp only); rw [hfin]; (try dsimp only); exact pIm_y (by have q9 := hkq (mQ_0 hQ rfl); rw [show M = (nr : Int) by omega] at q9; omega)⟩ dX7_viewTold_265
                            · have g9r_145 := mQ_f hQ pr_145
                              have g8r_145 := mQ_p hQ
                              replace hrow := hid hrow
                              replace hkq := hid hkq
                              refine z_goto (tgt := 265) F dX7_viewTold_217 (by decide) ?_
                              have hV9 : sVk b nn (h + 2) = (0, h + 4, pV b nn (h + 3)) := by unfold sVk; exact thn_t sr_32 rfl (ite_y (by omega) rfl)
                              have hfin : thn (f, h, 0) (fun t _ => sVwM b nn nr nt cc t) = r_145 := (thn_k q0).trans (by show sVwM b nn nr nt cc h = _; unfold sVwM; exact ite_n (by omega) (thn_t sr_20 rfl (thn_t hV9 rfl ((sBM_5 (by omega)).trans (er_145.symm)))))
                              exact g_vret F hr hlk hH hS hz ⟨rfl, rfl, hv, hT, pf, by first | (dsimp only; omega) | omega | rfl, by (try dsimp only); exact (fun hf => absurd hf (by omega)), by (try dsimp only); exact (fun hf => absurd hf (by omega)), by (try dsimp only); exact (fun hf => absurd hf (by omega)), by (try dsimp only); rw [hfin]; exact hQ, by (try dsimp only); rw [hfin]; exact pIc_n (by omega), by (try dsimp only); rw [hfin]; exact pJm_n (by omega), by (try dsimp only); rw [hfin]; exact pIm_n (by omega)⟩ dX7_viewTold_265
                      · refine lv_aload_n F.1 F.2.1 dX7_viewTold_195 rfl (lv_at hl 1 rfl) ?_
                        refine g_callv (g_runV (As := []) (rest := []) (ci := 7) F hl.1 hH hS hz (c_X7_joinToldf l g gh T M b nn nr nt cc 0 (h + 4) I_40 R J_42 AI AJ_17 AR mo hv hm hT (by omega) (by omega) (by omega) h65 hbM hr7 (by omega) hn9 (by omega) hQ) (cwV 0 F.2.2.2.2.1 (good_up gT_X7_joinTold) rfl rfl rfl hdX7_joinTold ⟨Nat.le_of_ble_eq_true rfl, Nat.le_of_ble_eq_true rfl⟩) hm (by decide) rfl rfl rfl (Nat.le_of_ble_eq_true rfl) dX7_viewTold_196 ⟨Nat.zero_le _, Nat.zero_le _⟩) hS (fun I_149 R_150 J_151 AI_152 AJ_153 AR_154 H locs hp_155 hH hS => ?_)
                        dsimp only at hp_155
                        obtain ⟨r_156, er_156⟩ : ∃ qQ : pR, qQ = thn (0, (h + 4), 0) (fun t _ => sJoiM b nn nr nt cc t) := ⟨_, rfl⟩
                        rw [← er_156] at hp_155
                        obtain ⟨rfl, rfl, rfl, hv, hT, pfq, q_157, hrow, hkq, hQ, q_158⟩ := hp_155
                        have pf := qF_t pf pfq
                        have u_159_2 : (I_149 mo 2).toInt = (I mo 2).toInt := by rw [pf 2 (by decide) (by decide) (by decide) (by decide) (by decide)]
                        have u_159_5 : (I_149 mo 5).toInt = (I mo 5).toInt := by rw [pf 5 (by decide) (by decide) (by decide) (by decide) (by decide)]
                        have u_159_14 : (I_149 mo 14).toInt = (I mo 14).toInt := by rw [pf 14 (by decide) (by decide) (by decide) (by decide) (by decide)]
                        have u_159_16 : (I_149 mo 16).toInt = (I mo 16).toInt := by rw [pf 16 (by decide) (by decide) (by decide) (by decide) (by decide)]
                        have u_159_18 : (I_149 mo 18).toInt = (I mo 18).toInt := by rw [pf 18 (by decide) (by decide) (by decide) (by decide) (by decide)]
                        have er_156 : r_156 = sJoiM b nn nr nt cc (h + 4) := er_156
                        by_cases pr_156 : r_156.1 = 0
                        · have hQ := mQ_ok hQ pr_156
                          have vlr_156_7 := q_158 pr_156
                          replace hrow := hid hrow
                          replace hkq := hid hkq
                          refine z_goto (tgt := 265) F dX7_viewTold_199 (by decide) ?_
                          have hV9 : sVk b nn (h + 2) = (0, h + 4, pV b nn (h + 3)) := by unfold sVk; exact thn_t sr_32 rfl (ite_y (by omega) rfl)
                          have hfin : thn (f, h, 0) (fun t _ => sVwM b nn nr nt cc t) = (0, r_156.2.1, r_156.2.2) := (thn_k q0).trans (by show sVwM b nn nr nt cc h = _; unfold sVwM; exact ite_n (by omega) (thn_t sr_20 rfl (thn_t hV9 rfl ((sBM_3 (by omega)).trans (er_156.symm.trans (pr_x pr_156))))))
                          exact g_vret F hr hlk hH hS hz ⟨rfl, rfl, hv, hT, pf, by first | (dsimp only; omega) | omega | rfl, by first | exact hrow | ((try dsimp only); intro hf; exact absurd hf (by omega)) | ((try dsimp only); intro hf ht hn; exact row_mk (by omega) (hhd (by omega)) (by omega) (hcol (by omega)) (by omega) (by omega) (fun h => absurd h (by omega)) (fun h => absurd h (by omega)) (fun h => absurd h (by omega)) (fun h => absurd h (by omega)) (fun h => absurd h (by omega)) (fun h => absurd h (by omega)) (fun h => absurd h (by omega))), by (try dsimp only); intro hf; omega, by first | ((try dsimp only); intro hf; have q9 := hkq (by omega); omega) | ((try dsimp only); intro hf; exact absurd hf (by omega)) | ((try dsimp only); intro hf; have q9 := (hhd (by omega)).2.1; omega), by (try dsimp only); rw [hfin]; exact hQ, by (try dsimp only); rw [hfin]; first | exact (fun _ => vlr_156_7) | (have q9 := (hhd (mQ_0 hQ rfl)).2.2.1; rw [show M = (nr : Int) by omega] at q9; (try dsimp only); exact pIc_y (by omega)), by (try dsimp only); rw [hfin]; exact pJm_y vlr_20, by (try dsimp only); rw [hfin]; (try dsimp only); exact pIm_y (by have q9 := hkq (mQ_0 hQ rfl); rw [show M = (nr : Int) by omega] at q9; omega)⟩ dX7_viewTold_265
                        · have g9r_156 := mQ_f hQ pr_156
                          have g8r_156 := mQ_p hQ
                          replace hrow := hid hrow
                          replace hkq := hid hkq
                          refine z_goto (tgt := 265) F dX7_viewTold_199 (by decide) ?_
                          have hV9 : sVk b nn (h + 2) = (0, h + 4, pV b nn (h + 3)) := by unfold sVk; exact thn_t sr_32 rfl (ite_y (by omega) rfl)
                          have hfin : thn (f, h, 0) (fun t _ => sVwM b nn nr nt cc t) = r_156 := (thn_k q0).trans (by show sVwM b nn nr nt cc h = _; unfold sVwM; exact ite_n (by omega) (thn_t sr_20 rfl (thn_t hV9 rfl ((sBM_3 (by omega)).trans (er_156.symm)))))
                          exact g_vret F hr hlk hH hS hz ⟨rfl, rfl, hv, hT, pf, by first | (dsimp only; omega) | omega | rfl, by (try dsimp only); exact (fun hf => absurd hf (by omega)), by (try dsimp only); exact (fun hf => absurd hf (by omega)), by (try dsimp only); exact (fun hf => absurd hf (by omega)), by (try dsimp only); rw [hfin]; exact hQ, by (try dsimp only); rw [hfin]; exact pIc_n (by omega), by (try dsimp only); rw [hfin]; exact pJm_n (by omega), by (try dsimp only); rw [hfin]; exact pIm_n (by omega)⟩ dX7_viewTold_265
                    · refine lv_aload_n F.1 F.2.1 dX7_viewTold_183 rfl (lv_at hl 1 rfl) ?_
                      refine g_callv (g_runV (As := []) (rest := []) (ci := 7) F hl.1 hH hS hz (c_X7_projectToldf l g gh T M b nn nr nt cc 0 (h + 4) I_40 R J_42 AI AJ_17 AR mo hv hm hT (by omega) (by omega) (by omega) h65 hbM hr7 (by omega) hn9 (by omega) hQ) (cwV 0 F.2.2.2.2.1 (good_up gT_X7_projectTold) rfl rfl rfl hdX7_projectTold ⟨Nat.le_of_ble_eq_true rfl, Nat.le_of_ble_eq_true rfl⟩) hm (by decide) rfl rfl rfl (Nat.le_of_ble_eq_true rfl) dX7_viewTold_184 ⟨Nat.zero_le _, Nat.zero_le _⟩) hS (fun I_160 R_161 J_162 AI_163 AJ_164 AR_165 H locs hp_166 hH hS => ?_)
                      dsimp only at hp_166
                      obtain ⟨r_167, er_167⟩ : ∃ qQ : pR, qQ = thn (0, (h + 4), 0) (fun t _ => sPrj b nn nr nt cc t) := ⟨_, rfl⟩
                      rw [← er_167] at hp_166
                      obtain ⟨rfl, rfl, rfl, hv, hT, pfq, q_168, hrow, hkq, hQ, q_169⟩ := hp_166
                      have pf := qF_t pf pfq
                      have u_170_2 : (I_160 mo 2).toInt = (I mo 2).toInt := by rw [pf 2 (by decide) (by decide) (by decide) (by decide) (by decide)]
                      have u_170_5 : (I_160 mo 5).toInt = (I mo 5).toInt := by rw [pf 5 (by decide) (by decide) (by decide) (by decide) (by decide)]
                      have u_170_14 : (I_160 mo 14).toInt = (I mo 14).toInt := by rw [pf 14 (by decide) (by decide) (by decide) (by decide) (by decide)]
                      have u_170_16 : (I_160 mo 16).toInt = (I mo 16).toInt := by rw [pf 16 (by decide) (by decide) (by decide) (by decide) (by decide)]
                      have u_170_18 : (I_160 mo 18).toInt = (I mo 18).toInt := by rw [pf 18 (by decide) (by decide) (by decide) (by decide) (by decide)]
                      have er_167 : r_167 = sPrj b nn nr nt cc (h + 4) := er_167
                      by_cases pr_167 : r_167.1 = 0
                      · have hQ := mQ_ok hQ pr_167
                        have vlr_167_7 := q_169 pr_167
                        replace hrow := hid hrow
                        replace hkq := hid hkq
                        refine z_goto (tgt := 265) F dX7_viewTold_187 (by decide) ?_
                        have hV9 : sVk b nn (h + 2) = (0, h + 4, pV b nn (h + 3)) := by unfold sVk; exact thn_t sr_32 rfl (ite_y (by omega) rfl)
                        have hfin : thn (f, h, 0) (fun t _ => sVwM b nn nr nt cc t) = (0, r_167.2.1, r_167.2.2) := (thn_k q0).trans (by show sVwM b nn nr nt cc h = _; unfold sVwM; exact ite_n (by omega) (thn_t sr_20 rfl (thn_t hV9 rfl ((sBM_2 (by omega)).trans (er_167.symm.trans (pr_x pr_167))))))
                        exact g_vret F hr hlk hH hS hz ⟨rfl, rfl, hv, hT, pf, by first | (dsimp only; omega) | omega | rfl, by first | exact hrow | ((try dsimp only); intro hf; exact absurd hf (by omega)) | ((try dsimp only); intro hf ht hn; exact row_mk (by omega) (hhd (by omega)) (by omega) (hcol (by omega)) (by omega) (by omega) (fun h => absurd h (by omega)) (fun h => absurd h (by omega)) (fun h => absurd h (by omega)) (fun h => absurd h (by omega)) (fun h => absurd h (by omega)) (fun h => absurd h (by omega)) (fun h => absurd h (by omega))), by (try dsimp only); intro hf; omega, by first | ((try dsimp only); intro hf; have q9 := hkq (by omega); omega) | ((try dsimp only); intro hf; exact absurd hf (by omega)) | ((try dsimp only); intro hf; have q9 := (hhd (by omega)).2.1; omega), by (try dsimp only); rw [hfin]; exact hQ, by (try dsimp only); rw [hfin]; first | exact (fun _ => vlr_167_7) | (have q9 := (hhd (mQ_0 hQ rfl)).2.2.1; rw [show M = (nr : Int) by omega] at q9; (try dsimp only); exact pIc_y (by omega)), by (try dsimp only); rw [hfin]; exact pJm_y vlr_20, by (try dsimp only); rw [hfin]; (try dsimp only); exact pIm_y (by have q9 := hkq (mQ_0 hQ rfl); rw [show M = (nr : Int) by omega] at q9; omega)⟩ dX7_viewTold_265
                      · have g9r_167 := mQ_f hQ pr_167
                        have g8r_167 := mQ_p hQ
                        replace hrow := hid hrow
                        replace hkq := hid hkq
                        refine z_goto (tgt := 265) F dX7_viewTold_187 (by decide) ?_
                        have hV9 : sVk b nn (h + 2) = (0, h + 4, pV b nn (h + 3)) := by unfold sVk; exact thn_t sr_32 rfl (ite_y (by omega) rfl)
                        have hfin : thn (f, h, 0) (fun t _ => sVwM b nn nr nt cc t) = r_167 := (thn_k q0).trans (by show sVwM b nn nr nt cc h = _; unfold sVwM; exact ite_n (by omega) (thn_t sr_20 rfl (thn_t hV9 rfl ((sBM_2 (by omega)).trans (er_167.symm)))))
                        exact g_vret F hr hlk hH hS hz ⟨rfl, rfl, hv, hT, pf, by first | (dsimp only; omega) | omega | rfl, by (try dsimp only); exact (fun hf => absurd hf (by omega)), by (try dsimp only); exact (fun hf => absurd hf (by omega)), by (try dsimp only); exact (fun hf => absurd hf (by omega)), by (try dsimp only); rw [hfin]; exact hQ, by (try dsimp only); rw [hfin]; exact pIc_n (by omega), by (try dsimp only); rw [hfin]; exact pJm_n (by omega), by (try dsimp only); rw [hfin]; exact pIm_n (by omega)⟩ dX7_viewTold_265
                  · refine lv_aload_n F.1 F.2.1 dX7_viewTold_171 rfl (lv_at hl 1 rfl) ?_
                    refine g_callv (g_runV (As := []) (rest := []) (ci := 7) F hl.1 hH hS hz (c_X7_selectToldf l g gh T M b nn nr nt cc 0 (h + 4) I_40 R J_42 AI AJ_17 AR mo hv hm hT (by omega) (by omega) (by omega) h65 hbM hr7 (by omega) hn9 (by omega) hQ) (cwV 0 F.2.2.2.2.1 (good_up gT_X7_selectTold) rfl rfl rfl hdX7_selectTold ⟨Nat.le_of_ble_eq_true rfl, Nat.le_of_ble_eq_true rfl⟩) hm (by decide) rfl rfl rfl (Nat.le_of_ble_eq_true rfl) dX7_viewTold_172 ⟨Nat.zero_le _, Nat.zero_le _⟩) hS (fun I_171 R_172 J_173 AI_174 AJ_175 AR_176 H locs hp_177 hH hS => ?_)
                    dsimp only at hp_177
                    obtain ⟨r_178, er_178⟩ : ∃ qQ : pR, qQ = thn (0, (h + 4), 0) (fun t _ => sSel b nn nr nt cc t) := ⟨_, rfl⟩
                    rw [← er_178] at hp_177
                    obtain ⟨rfl, rfl, rfl, hv, hT, pfq, q_179, hrow, hkq, hQ, q_180⟩ := hp_177
                    have pf := qF_t pf pfq
                    have u_181_2 : (I_171 mo 2).toInt = (I mo 2).toInt := by rw [pf 2 (by decide) (by decide) (by decide) (by decide) (by decide)]
                    have u_181_5 : (I_171 mo 5).toInt = (I mo 5).toInt := by rw [pf 5 (by decide) (by decide) (by decide) (by decide) (by decide)]
                    have u_181_14 : (I_171 mo 14).toInt = (I mo 14).toInt := by rw [pf 14 (by decide) (by decide) (by decide) (by decide) (by decide)]
                    have u_181_16 : (I_171 mo 16).toInt = (I mo 16).toInt := by rw [pf 16 (by decide) (by decide) (by decide) (by decide) (by decide)]
                    have u_181_18 : (I_171 mo 18).toInt = (I mo 18).toInt := by rw [pf 18 (by decide) (by decide) (by decide) (by decide) (by decide)]
                    have er_178 : r_178 = sSel b nn nr nt cc (h + 4) := er_178
                    by_cases pr_178 : r_178.1 = 0
                    · have hQ := mQ_ok hQ pr_178
                      have vlr_178_7 := q_180 pr_178
                      replace hrow := hid hrow
                      replace hkq := hid hkq
                      refine z_goto (tgt := 265) F dX7_viewTold_175 (by decide) ?_
                      have hV9 : sVk b nn (h + 2) = (0, h + 4, pV b nn (h + 3)) := by unfold sVk; exact thn_t sr_32 rfl (ite_y (by omega) rfl)
                      have hfin : thn (f, h, 0) (fun t _ => sVwM b nn nr nt cc t) = (0, r_178.2.1, r_178.2.2) := (thn_k q0).trans (by show sVwM b nn nr nt cc h = _; unfold sVwM; exact ite_n (by omega) (thn_t sr_20 rfl (thn_t hV9 rfl ((sBM_1 (by omega)).trans (er_178.symm.trans (pr_x pr_178))))))
                      exact g_vret F hr hlk hH hS hz ⟨rfl, rfl, hv, hT, pf, by first | (dsimp only; omega) | omega | rfl, by first | exact hrow | ((try dsimp only); intro hf; exact absurd hf (by omega)) | ((try dsimp only); intro hf ht hn; exact row_mk (by omega) (hhd (by omega)) (by omega) (hcol (by omega)) (by omega) (by omega) (fun h => absurd h (by omega)) (fun h => absurd h (by omega)) (fun h => absurd h (by omega)) (fun h => absurd h (by omega)) (fun h => absurd h (by omega)) (fun h => absurd h (by omega)) (fun h => absurd h (by omega))), by (try dsimp only); intro hf; omega, by first | ((try dsimp only); intro hf; have q9 := hkq (by omega); omega) | ((try dsimp only); intro hf; exact absurd hf (by omega)) | ((try dsimp only); intro hf; have q9 := (hhd (by omega)).2.1; omega), by (try dsimp only); rw [hfin]; exact hQ, by (try dsimp only); rw [hfin]; first | exact (fun _ => vlr_178_7) | (have q9 := (hhd (mQ_0 hQ rfl)).2.2.1; rw [show M = (nr : Int) by omega] at q9; (try dsimp only); exact pIc_y (by omega)), by (try dsimp only); rw [hfin]; exact pJm_y vlr_20, by (try dsimp only); rw [hfin]; (try dsimp only); exact pIm_y (by have q9 := hkq (mQ_0 hQ rfl); rw [show M = (nr : Int) by omega] at q9; omega)⟩ dX7_viewTold_265
                    · have g9r_178 := mQ_f hQ pr_178
                      have g8r_178 := mQ_p hQ
                      replace hrow := hid hrow
                      replace hkq := hid hkq
                      refine z_goto (tgt := 265) F dX7_viewTold_175 (by decide) ?_
                      have hV9 : sVk b nn (h + 2) = (0, h + 4, pV b nn (h + 3)) := by unfold sVk; exact thn_t sr_32 rfl (ite_y (by omega) rfl)
                      have hfin : thn (f, h, 0) (fun t _ => sVwM b nn nr nt cc t) = r_178 := (thn_k q0).trans (by show sVwM b nn nr nt cc h = _; unfold sVwM; exact ite_n (by omega) (thn_t sr_20 rfl (thn_t hV9 rfl ((sBM_1 (by omega)).trans (er_178.symm)))))
                      exact g_vret F hr hlk hH hS hz ⟨rfl, rfl, hv, hT, pf, by first | (dsimp only; omega) | omega | rfl, by (try dsimp only); exact (fun hf => absurd hf (by omega)), by (try dsimp only); exact (fun hf => absurd hf (by omega)), by (try dsimp only); exact (fun hf => absurd hf (by omega)), by (try dsimp only); rw [hfin]; exact hQ, by (try dsimp only); rw [hfin]; exact pIc_n (by omega), by (try dsimp only); rw [hfin]; exact pJm_n (by omega), by (try dsimp only); rw [hfin]; exact pIm_n (by omega)⟩ dX7_viewTold_265
                · exact absurd (mQ_0 hQ rfl) (by omega)
              · have nkd := pKd_n hkd2 (by omega)
                refine lv_aload_n F.1 F.2.1 dX7_viewTold_149 rfl (lv_at hl 1 rfl) ?_
                refine z_iconst F dX7_viewTold_150 ?_
                refine g_callv (g_runV (As := [.int (iI 1)]) (rest := []) (ci := 7) F hl.1 hH hS hz (c_X7_wrongf l g gh T b nn nr nt cc 0 (h + 3) I_25 R J_27 AI AJ_17 AR mo 1 ⟨by decide, by decide⟩ hv hm hT (by omega) h65 hbM hr7 (by omega) hn9 (by omega) hQ) (cwV 1 F.2.2.2.2.1 (good_up gT_X7_wrong) rfl rfl rfl hdX7_wrong ⟨Nat.le_of_ble_eq_true rfl, Nat.le_of_ble_eq_true rfl⟩) hm (by decide) rfl rfl rfl (Nat.le_of_ble_eq_true rfl) dX7_viewTold_151 ⟨Nat.zero_le _, Nat.zero_le _⟩) hS (fun I_182 R_183 J_184 AI_185 AJ_186 AR_187 H locs hp_188 hH hS => ?_)
                dsimp only at hp_188
                obtain ⟨r_189, er_189⟩ : ∃ qQ : pR, qQ = thn (0, (h + 3), 0) (fun t _ => (1, t, 0)) := ⟨_, rfl⟩
                rw [← er_189] at hp_188
                obtain ⟨rfl, rfl, rfl, rfl, rfl, hv, pfq, q_190, hQ⟩ := hp_188
                have pf := qF_t pf pfq
                have u_191_2 : (I_182 mo 2).toInt = (I mo 2).toInt := by rw [pf 2 (by decide) (by decide) (by decide) (by decide) (by decide)]
                have u_191_5 : (I_182 mo 5).toInt = (I mo 5).toInt := by rw [pf 5 (by decide) (by decide) (by decide) (by decide) (by decide)]
                have u_191_14 : (I_182 mo 14).toInt = (I mo 14).toInt := by rw [pf 14 (by decide) (by decide) (by decide) (by decide) (by decide)]
                have u_191_16 : (I_182 mo 16).toInt = (I mo 16).toInt := by rw [pf 16 (by decide) (by decide) (by decide) (by decide) (by decide)]
                have u_191_18 : (I_182 mo 18).toInt = (I mo 18).toInt := by rw [pf 18 (by decide) (by decide) (by decide) (by decide) (by decide)]
                have er_189 : r_189 = (1, (h + 3), 0) := er_189
                have hQ : mQ gh I_182 J_27 AI AJ_17 mo b nn nr nt cc 1 (h + 3) := by rw [er_189] at hQ; exact hQ
                have q9_r_189 : (1 : Int) ≠ 0 := by omega
                have g9_r_189 := mQ_f hQ q9_r_189
                refine lv_aload_n F.1 F.2.1 dX7_viewTold_154 rfl (lv_at hl 1 rfl) ?_
                have b_192 := mJ hv hm
                unfold mNum1 at b_192
                refine g_callv (g_runV (As := []) (rest := []) (ci := 7) F hl.1 hH hS hz (c_X7_nextf l g gh T b nn (tNd b nn (tPs b nn (h + 3))) I_182 R J_27 AI AJ_17 AR mo hv hm hT (by omega) (mTp hv h65 hbM) hr7 (by omega) (by omega) (mQ_e0 hQ) tNd_le.1) (cwV 0 F.2.2.2.2.1 (good_up gT_X7_next) rfl rfl rfl hdX7_next ⟨Nat.le_of_ble_eq_true rfl, Nat.le_of_ble_eq_true rfl⟩) hm (by decide) rfl rfl rfl (Nat.le_of_ble_eq_true rfl) dX7_viewTold_155 ⟨Nat.zero_le _, Nat.zero_le _⟩) hS (fun I_193 R_194 J_195 AI_196 AJ_197 AR_198 H locs hp_199 hH hS => ?_)
                dsimp only at hp_199
                obtain ⟨rfl, rfl, rfl, rfl, hv, pfq, q_200, nx4, nxa, nxb⟩ := hp_199
                have pf := qF_t pf pfq
                have u_201_2 : (I_193 mo 2).toInt = (I mo 2).toInt := by rw [pf 2 (by decide) (by decide) (by decide) (by decide) (by decide)]
                have u_201_5 : (I_193 mo 5).toInt = (I mo 5).toInt := by rw [pf 5 (by decide) (by decide) (by decide) (by decide) (by decide)]
                have u_201_14 : (I_193 mo 14).toInt = (I mo 14).toInt := by rw [pf 14 (by decide) (by decide) (by decide) (by decide) (by decide)]
                have u_201_16 : (I_193 mo 16).toInt = (I mo 16).toInt := by rw [pf 16 (by decide) (by decide) (by decide) (by decide) (by decide)]
                have u_201_18 : (I_193 mo 18).toInt = (I mo 18).toInt := by rw [pf 18 (by decide) (by decide) (by decide) (by decide) (by decide)]
                have hQ : mQ gh I_193 J_195 AI AJ_17 mo b nn nr nt cc 1 (h + 3) := by have q9 := mQ_nx hQ nx4 nxa; rw [thn_b (by omega)] at q9; exact q9
                clear nxa nxb
                refine lv_aload_n F.1 F.2.1 dX7_viewTold_158 rfl (lv_at hl 1 rfl) ?_
                refine g_getI (ci := 7) (k := 24) F hH rfl (by decide) iX7 hm (by decide) rfl k81 dX7_viewTold_159 ?_
                have b_202 := mJ hv hm
                unfold mNum1 at b_202
                refine z_if_le (tgt := 166) F dX7_viewTold_162 (by decide) (zr_t _) (fun c_203 => ?_) (fun c_203 => ?_)
                · exact absurd (mQ_z hQ (by omega)) (by omega)
                · have hV9 : sVk b nn (h + 2) = (1, h + 3, 0) := by unfold sVk; exact thn_t sr_32 rfl (ite_n nkd rfl)
                  have hfin : thn (f, h, 0) (fun t _ => sVwM b nn nr nt cc t) = (1, h + 3, 0) := (thn_k q0).trans (by show sVwM b nn nr nt cc h = _; unfold sVwM; exact ite_n (by omega) (thn_t sr_20 rfl (thn_x hV9.symm (by omega))))
                  exact g_vret F hr hlk hH hS hz ⟨rfl, rfl, hv, hT, pf, by first | (dsimp only; omega) | omega | rfl, by (try dsimp only); exact (fun hf => absurd hf (by omega)), by (try dsimp only); exact (fun hf => absurd hf (by omega)), by (try dsimp only); exact (fun hf => absurd hf (by omega)), by (try dsimp only); rw [hfin]; exact hQ, by (try dsimp only); rw [hfin]; exact pIc_n (by omega), by (try dsimp only); rw [hfin]; exact pJm_n (by omega), by (try dsimp only); rw [hfin]; exact pIm_n (by omega)⟩ dX7_viewTold_165
            refine lv_aload_n F.1 F.2.1 dX7_viewTold_36 rfl (lv_at hl 0 rfl) ?_
            refine va_ldcS F.1 F.2.1 F.2.2.2.1 (F.2.2.2.2.2.2.1 9 _ rfl).1 dX7_viewTold_37 ?_
            refine g_calli (g_runV (As := [.ref (gSK g 9)]) (rest := []) (ci := 7) F hl.1 hH hS hz (c_X7_isWordf l g gh T 9 _ 1 b nn nr nt cc 0 (h + 3) I_25 R J_27 AI AJ_17 AR mo hv hm hT (rfl : sTab[9]? = some _) (by decide) (by decide +kernel) h65 hbM hr7 (by omega) hn9 (by omega) hQ) (cwV 1 F.2.2.2.2.1 (good_up gT_X7_isWord) rfl rfl rfl hdX7_isWord ⟨Nat.le_of_ble_eq_true rfl, Nat.le_of_ble_eq_true rfl⟩) hm (by decide) rfl rfl rfl (Nat.le_of_ble_eq_true rfl) dX7_viewTold_39 ⟨Nat.zero_le _, Nat.zero_le _⟩) hS (fun v_210 I_204 R_205 J_206 AI_207 AJ_208 AR_209 H locs zv_210 hp_211 hH hS => ?_)
            dsimp only at hp_211
            obtain ⟨rfl, rfl, rfl, rfl, rfl, rfl, q_212, q_213⟩ := hp_211
            refine z_if_eq (tgt := 49) F dX7_viewTold_42 (by decide) zv_210 (fun c_214 => ?_) (fun c_214 => ?_)
            · have t_215 := hid (tIz_n q_213 (by omega))
              refine lv_aload_n F.1 F.2.1 dX7_viewTold_49 rfl (lv_at hl 0 rfl) ?_
              refine va_ldcS F.1 F.2.1 F.2.2.2.1 (F.2.2.2.2.2.2.1 12 _ rfl).1 dX7_viewTold_50 ?_
              refine g_calli (g_runV (As := [.ref (gSK g 12)]) (rest := []) (ci := 7) F hl.1 hH hS hz (c_X7_isWordf l g gh T 12 _ 2 b nn nr nt cc 0 (h + 3) I_25 R J_27 AI AJ_17 AR mo hv hm hT (rfl : sTab[12]? = some _) (by decide) (by decide +kernel) h65 hbM hr7 (by omega) hn9 (by omega) hQ) (cwV 1 F.2.2.2.2.1 (good_up gT_X7_isWord) rfl rfl rfl hdX7_isWord ⟨Nat.le_of_ble_eq_true rfl, Nat.le_of_ble_eq_true rfl⟩) hm (by decide) rfl rfl rfl (Nat.le_of_ble_eq_true rfl) dX7_viewTold_52 ⟨Nat.zero_le _, Nat.zero_le _⟩) hS (fun v_222 I_216 R_217 J_218 AI_219 AJ_220 AR_221 H locs zv_222 hp_223 hH hS => ?_)
              dsimp only at hp_223
              obtain ⟨rfl, rfl, rfl, rfl, rfl, rfl, q_224, q_225⟩ := hp_223
              refine z_if_eq (tgt := 62) F dX7_viewTold_55 (by decide) zv_222 (fun c_226 => ?_) (fun c_226 => ?_)
              · have t_227 := hid (tIz_n q_225 (by omega))
                refine lv_aload_n F.1 F.2.1 dX7_viewTold_62 rfl (lv_at hl 0 rfl) ?_
                refine va_ldcS F.1 F.2.1 F.2.2.2.1 (F.2.2.2.2.2.2.1 13 _ rfl).1 dX7_viewTold_63 ?_
                refine g_calli (g_runV (As := [.ref (gSK g 13)]) (rest := []) (ci := 7) F hl.1 hH hS hz (c_X7_isWordf l g gh T 13 _ 3 b nn nr nt cc 0 (h + 3) I_25 R J_27 AI AJ_17 AR mo hv hm hT (rfl : sTab[13]? = some _) (by decide) (by decide +kernel) h65 hbM hr7 (by omega) hn9 (by omega) hQ) (cwV 1 F.2.2.2.2.1 (good_up gT_X7_isWord) rfl rfl rfl hdX7_isWord ⟨Nat.le_of_ble_eq_true rfl, Nat.le_of_ble_eq_true rfl⟩) hm (by decide) rfl rfl rfl (Nat.le_of_ble_eq_true rfl) dX7_viewTold_65 ⟨Nat.zero_le _, Nat.zero_le _⟩) hS (fun v_234 I_228 R_229 J_230 AI_231 AJ_232 AR_233 H locs zv_234 hp_235 hH hS => ?_)
                dsimp only at hp_235
                obtain ⟨rfl, rfl, rfl, rfl, rfl, rfl, q_236, q_237⟩ := hp_235
                refine z_if_eq (tgt := 75) F dX7_viewTold_68 (by decide) zv_234 (fun c_238 => ?_) (fun c_238 => ?_)
                · have t_239 := hid (tIz_n q_237 (by omega))
                  refine lv_aload_n F.1 F.2.1 dX7_viewTold_75 rfl (lv_at hl 0 rfl) ?_
                  refine va_ldcS F.1 F.2.1 F.2.2.2.1 (F.2.2.2.2.2.2.1 15 _ rfl).1 dX7_viewTold_76 ?_
                  refine g_calli (g_runV (As := [.ref (gSK g 15)]) (rest := []) (ci := 7) F hl.1 hH hS hz (c_X7_isWordf l g gh T 15 _ 4 b nn nr nt cc 0 (h + 3) I_25 R J_27 AI AJ_17 AR mo hv hm hT (rfl : sTab[15]? = some _) (by decide) (by decide +kernel) h65 hbM hr7 (by omega) hn9 (by omega) hQ) (cwV 1 F.2.2.2.2.1 (good_up gT_X7_isWord) rfl rfl rfl hdX7_isWord ⟨Nat.le_of_ble_eq_true rfl, Nat.le_of_ble_eq_true rfl⟩) hm (by decide) rfl rfl rfl (Nat.le_of_ble_eq_true rfl) dX7_viewTold_78 ⟨Nat.zero_le _, Nat.zero_le _⟩) hS (fun v_246 I_240 R_241 J_242 AI_243 AJ_244 AR_245 H locs zv_246 hp_247 hH hS => ?_)
                  dsimp only at hp_247
                  obtain ⟨rfl, rfl, rfl, rfl, rfl, rfl, q_248, q_249⟩ := hp_247
                  refine z_if_eq (tgt := 88) F dX7_viewTold_81 (by decide) zv_246 (fun c_250 => ?_) (fun c_250 => ?_)
                  · have t_251 := hid (tIz_n q_249 (by omega))
                    refine lv_aload_n F.1 F.2.1 dX7_viewTold_88 rfl (lv_at hl 0 rfl) ?_
                    refine va_ldcS F.1 F.2.1 F.2.2.2.1 (F.2.2.2.2.2.2.1 16 _ rfl).1 dX7_viewTold_89 ?_
                    refine g_calli (g_runV (As := [.ref (gSK g 16)]) (rest := []) (ci := 7) F hl.1 hH hS hz (c_X7_isWordf l g gh T 16 _ 5 b nn nr nt cc 0 (h + 3) I_25 R J_27 AI AJ_17 AR mo hv hm hT (rfl : sTab[16]? = some _) (by decide) (by decide +kernel) h65 hbM hr7 (by omega) hn9 (by omega) hQ) (cwV 1 F.2.2.2.2.1 (good_up gT_X7_isWord) rfl rfl rfl hdX7_isWord ⟨Nat.le_of_ble_eq_true rfl, Nat.le_of_ble_eq_true rfl⟩) hm (by decide) rfl rfl rfl (Nat.le_of_ble_eq_true rfl) dX7_viewTold_91 ⟨Nat.zero_le _, Nat.zero_le _⟩) hS (fun v_258 I_252 R_253 J_254 AI_255 AJ_256 AR_257 H locs zv_258 hp_259 hH hS => ?_)
                    dsimp only at hp_259
                    obtain ⟨rfl, rfl, rfl, rfl, rfl, rfl, q_260, q_261⟩ := hp_259
                    refine z_if_eq (tgt := 101) F dX7_viewTold_94 (by decide) zv_258 (fun c_262 => ?_) (fun c_262 => ?_)
                    · have t_263 := hid (tIz_n q_261 (by omega))
                      refine lv_aload_n F.1 F.2.1 dX7_viewTold_101 rfl (lv_at hl 0 rfl) ?_
                      refine va_ldcS F.1 F.2.1 F.2.2.2.1 (F.2.2.2.2.2.2.1 17 _ rfl).1 dX7_viewTold_102 ?_
                      refine g_calli (g_runV (As := [.ref (gSK g 17)]) (rest := []) (ci := 7) F hl.1 hH hS hz (c_X7_isWordf l g gh T 17 _ 6 b nn nr nt cc 0 (h + 3) I_25 R J_27 AI AJ_17 AR mo hv hm hT (rfl : sTab[17]? = some _) (by decide) (by decide +kernel) h65 hbM hr7 (by omega) hn9 (by omega) hQ) (cwV 1 F.2.2.2.2.1 (good_up gT_X7_isWord) rfl rfl rfl hdX7_isWord ⟨Nat.le_of_ble_eq_true rfl, Nat.le_of_ble_eq_true rfl⟩) hm (by decide) rfl rfl rfl (Nat.le_of_ble_eq_true rfl) dX7_viewTold_104 ⟨Nat.zero_le _, Nat.zero_le _⟩) hS (fun v_270 I_264 R_265 J_266 AI_267 AJ_268 AR_269 H locs zv_270 hp_271 hH hS => ?_)
                      dsimp only at hp_271
                      obtain ⟨rfl, rfl, rfl, rfl, rfl, rfl, q_272, q_273⟩ := hp_271
                      refine z_if_eq (tgt := 115) F dX7_viewTold_107 (by decide) zv_270 (fun c_274 => ?_) (fun c_274 => ?_)
                      · have t_275 := hid (tIz_n q_273 (by omega))
                        refine lv_aload_n F.1 F.2.1 dX7_viewTold_115 rfl (lv_at hl 0 rfl) ?_
                        refine va_ldcS F.1 F.2.1 F.2.2.2.1 (F.2.2.2.2.2.2.1 18 _ rfl).1 dX7_viewTold_116 ?_
                        refine g_calli (g_runV (As := [.ref (gSK g 18)]) (rest := []) (ci := 7) F hl.1 hH hS hz (c_X7_isWordf l g gh T 18 _ 7 b nn nr nt cc 0 (h + 3) I_25 R J_27 AI AJ_17 AR mo hv hm hT (rfl : sTab[18]? = some _) (by decide) (by decide +kernel) h65 hbM hr7 (by omega) hn9 (by omega) hQ) (cwV 1 F.2.2.2.2.1 (good_up gT_X7_isWord) rfl rfl rfl hdX7_isWord ⟨Nat.le_of_ble_eq_true rfl, Nat.le_of_ble_eq_true rfl⟩) hm (by decide) rfl rfl rfl (Nat.le_of_ble_eq_true rfl) dX7_viewTold_118 ⟨Nat.zero_le _, Nat.zero_le _⟩) hS (fun v_282 I_276 R_277 J_278 AI_279 AJ_280 AR_281 H locs zv_282 hp_283 hH hS => ?_)
                        dsimp only at hp_283
                        obtain ⟨rfl, rfl, rfl, rfl, rfl, rfl, q_284, q_285⟩ := hp_283
                        refine z_if_eq (tgt := 129) F dX7_viewTold_121 (by decide) zv_282 (fun c_286 => ?_) (fun c_286 => ?_)
                        · have t_287 := hid (tIz_n q_285 (by omega))
                          refine lv_aload_n F.1 F.2.1 dX7_viewTold_129 rfl (lv_at hl 0 rfl) ?_
                          refine va_ldcS F.1 F.2.1 F.2.2.2.1 (F.2.2.2.2.2.2.1 24 _ rfl).1 dX7_viewTold_130 ?_
                          refine g_calli (g_runV (As := [.ref (gSK g 24)]) (rest := []) (ci := 7) F hl.1 hH hS hz (c_X7_isWordf l g gh T 24 _ 8 b nn nr nt cc 0 (h + 3) I_25 R J_27 AI AJ_17 AR mo hv hm hT (rfl : sTab[24]? = some _) (by decide) (by decide +kernel) h65 hbM hr7 (by omega) hn9 (by omega) hQ) (cwV 1 F.2.2.2.2.1 (good_up gT_X7_isWord) rfl rfl rfl hdX7_isWord ⟨Nat.le_of_ble_eq_true rfl, Nat.le_of_ble_eq_true rfl⟩) hm (by decide) rfl rfl rfl (Nat.le_of_ble_eq_true rfl) dX7_viewTold_132 ⟨Nat.zero_le _, Nat.zero_le _⟩) hS (fun v_294 I_288 R_289 J_290 AI_291 AJ_292 AR_293 H locs zv_294 hp_295 hH hS => ?_)
                          dsimp only at hp_295
                          obtain ⟨rfl, rfl, rfl, rfl, rfl, rfl, q_296, q_297⟩ := hp_295
                          refine z_if_eq (tgt := 143) F dX7_viewTold_135 (by decide) zv_294 (fun c_298 => ?_) (fun c_298 => ?_)
                          · have t_299 := hid (tIz_n q_297 (by omega))
                            refine z_iconst F dX7_viewTold_143 ?_
                            exact cut_144_37 (-1) H locs ls ⟨by decide, by decide⟩ (by omega) (Or.inl ⟨rfl, pKd_m t_215 t_227 t_239 t_251 t_263 t_275 t_287 t_299⟩) hH hS (lv_sub hl [0] rfl)
                          · have t_300 := tIz_y q_297 (by omega)
                            refine z_bipush F dX7_viewTold_138 (by decide) ?_
                            refine z_goto (tgt := 144) F dX7_viewTold_140 (by decide) ?_
                            exact cut_144_37 8 H locs ls ⟨by decide, by decide⟩ (by omega) (Or.inr ⟨by decide, by decide, by omega, by omega⟩) hH hS (lv_sub hl [0] rfl)
                        · have t_301 := tIz_y q_285 (by omega)
                          refine z_bipush F dX7_viewTold_124 (by decide) ?_
                          refine z_goto (tgt := 144) F dX7_viewTold_126 (by decide) ?_
                          exact cut_144_37 7 H locs ls ⟨by decide, by decide⟩ (by omega) (Or.inr ⟨by decide, by decide, by omega, by omega⟩) hH hS (lv_sub hl [0] rfl)
                      · have t_302 := tIz_y q_273 (by omega)
                        refine z_bipush F dX7_viewTold_110 (by decide) ?_
                        refine z_goto (tgt := 144) F dX7_viewTold_112 (by decide) ?_
                        exact cut_144_37 6 H locs ls ⟨by decide, by decide⟩ (by omega) (Or.inr ⟨by decide, by decide, by omega, by omega⟩) hH hS (lv_sub hl [0] rfl)
                    · have t_303 := tIz_y q_261 (by omega)
                      refine z_iconst F dX7_viewTold_97 ?_
                      refine z_goto (tgt := 144) F dX7_viewTold_98 (by decide) ?_
                      exact cut_144_37 5 H locs ls ⟨by decide, by decide⟩ (by omega) (Or.inr ⟨by decide, by decide, by omega, by omega⟩) hH hS (lv_sub hl [0] rfl)
                  · have t_304 := tIz_y q_249 (by omega)
                    refine z_iconst F dX7_viewTold_84 ?_
                    refine z_goto (tgt := 144) F dX7_viewTold_85 (by decide) ?_
                    exact cut_144_37 4 H locs ls ⟨by decide, by decide⟩ (by omega) (Or.inr ⟨by decide, by decide, by omega, by omega⟩) hH hS (lv_sub hl [0] rfl)
                · have t_305 := tIz_y q_237 (by omega)
                  refine z_iconst F dX7_viewTold_71 ?_
                  refine z_goto (tgt := 144) F dX7_viewTold_72 (by decide) ?_
                  exact cut_144_37 3 H locs ls ⟨by decide, by decide⟩ (by omega) (Or.inr ⟨by decide, by decide, by omega, by omega⟩) hH hS (lv_sub hl [0] rfl)
              · have t_306 := tIz_y q_225 (by omega)
                refine z_iconst F dX7_viewTold_58 ?_
                refine z_goto (tgt := 144) F dX7_viewTold_59 (by decide) ?_
                exact cut_144_37 2 H locs ls ⟨by decide, by decide⟩ (by omega) (Or.inr ⟨by decide, by decide, by omega, by omega⟩) hH hS (lv_sub hl [0] rfl)
            · have t_307 := tIz_y q_213 (by omega)
              refine z_iconst F dX7_viewTold_45 ?_
              refine z_goto (tgt := 144) F dX7_viewTold_46 (by decide) ?_
              exact cut_144_37 1 H locs ls ⟨by decide, by decide⟩ (by omega) (Or.inr ⟨by decide, by decide, by omega, by omega⟩) hH hS (lv_sub hl [0] rfl)
          · exact absurd (mQ_0 hQ rfl) (by omega)
        · have hQ : mQ gh I_25 J_27 AI AJ_17 mo b nn nr nt cc 1 (h + 2) := by rw [er_32] at hQ; exact hQ
          have sr_32 := sr_32.symm.trans er_32
          have g9r_32 := mQ_f hQ (by omega)
          replace q_34 := hid q_34
          obtain ⟨fb, efb⟩ : ∃ q, q = (I_25 mo 24).toInt := ⟨_, rfl⟩
          refine lv_aload_n F.1 F.2.1 dX7_viewTold_28 rfl (lv_at hl 0 rfl) ?_
          refine g_getI (ci := 7) (k := 24) F hH rfl (by decide) iX7 hm (by decide) rfl k81 dX7_viewTold_29 ?_
          have b_308 := mJ hv hm
          unfold mNum1 at b_308
          refine z_if_le (tgt := 36) F dX7_viewTold_32 (by decide) (zr_t _) (fun c_309 => ?_) (fun c_309 => ?_)
          · exact absurd (mQ_z hQ (by omega)) (by omega)
          · have hV9 : sVk b nn (h + 2) = (1, h + 2, 0) := by unfold sVk; exact thn_x sr_32.symm (by omega)
            have hfin : thn (f, h, 0) (fun t _ => sVwM b nn nr nt cc t) = (1, h + 2, 0) := (thn_k q0).trans (by show sVwM b nn nr nt cc h = _; unfold sVwM; exact ite_n (by omega) (thn_t sr_20 rfl (thn_x hV9.symm (by omega))))
            exact g_vret F hr hlk hH hS hz ⟨rfl, rfl, hv, hT, pf, by first | (dsimp only; omega) | omega | rfl, by (try dsimp only); exact (fun hf => absurd hf (by omega)), by (try dsimp only); exact (fun hf => absurd hf (by omega)), by (try dsimp only); exact (fun hf => absurd hf (by omega)), by (try dsimp only); rw [hfin]; exact hQ, by (try dsimp only); rw [hfin]; exact pIc_n (by omega), by (try dsimp only); rw [hfin]; exact pJm_n (by omega), by (try dsimp only); rw [hfin]; exact pIm_n (by omega)⟩ dX7_viewTold_35
      · have hQ : mQ gh I_13 J_15 AI AJ_17 mo b nn nr nt cc kdr_20 (h + 1) := by rw [er_20] at hQ; exact hQ
        have sr_20 := sr_20.symm.trans er_20
        have g9r_20 := mQ_f hQ (by omega)
        refine lv_aload_n F.1 F.2.1 dX7_viewTold_22 rfl (lv_at hl 0 rfl) ?_
        refine z_bipush F dX7_viewTold_23 (by decide) ?_
        have b_310 := mJ hv hm
        unfold mNum1 at b_310
        refine g_callv (g_runV (As := [.int (iI 61)]) (rest := []) (ci := 7) F hl.1 hH hS hz (c_X7_mustSignf l g gh T b nn nr nt cc kdr_20 (h + 1) I_13 R J_15 AI AJ_17 AR mo 61 ⟨by decide, by decide⟩ hv hm hT (by omega) h65 hbM hr7 (by omega) hn9 (by omega) (by omega) hQ) (cwV 1 F.2.2.2.2.1 (good_up gT_X7_mustSign) rfl rfl rfl hdX7_mustSign ⟨Nat.le_of_ble_eq_true rfl, Nat.le_of_ble_eq_true rfl⟩) hm (by decide) rfl rfl rfl (Nat.le_of_ble_eq_true rfl) dX7_viewTold_25 ⟨Nat.zero_le _, Nat.zero_le _⟩) hS (fun I_311 R_312 J_313 AI_314 AJ_315 AR_316 H locs hp_317 hH hS => ?_)
        dsimp only at hp_317
        obtain ⟨r_318, er_318⟩ : ∃ qQ : pR, qQ = thn (kdr_20, (h + 1), 0) (fun t _ => sTk b nn 61 t) := ⟨_, rfl⟩
        rw [← er_318] at hp_317
        obtain ⟨rfl, rfl, rfl, rfl, hv, pfq, q_319, q_320, hQ⟩ := hp_317
        have pf := qF_t pf pfq
        have u_321_2 : (I_311 mo 2).toInt = (I mo 2).toInt := by rw [pf 2 (by decide) (by decide) (by decide) (by decide) (by decide)]
        have u_321_5 : (I_311 mo 5).toInt = (I mo 5).toInt := by rw [pf 5 (by decide) (by decide) (by decide) (by decide) (by decide)]
        have u_321_14 : (I_311 mo 14).toInt = (I mo 14).toInt := by rw [pf 14 (by decide) (by decide) (by decide) (by decide) (by decide)]
        have u_321_16 : (I_311 mo 16).toInt = (I mo 16).toInt := by rw [pf 16 (by decide) (by decide) (by decide) (by decide) (by decide)]
        have u_321_18 : (I_311 mo 18).toInt = (I mo 18).toInt := by rw [pf 18 (by decide) (by decide) (by decide) (by decide) (by decide)]
        rw [thn_b (by omega)] at er_318
        have hQ : mQ gh I_311 J_313 AI AJ_17 mo b nn nr nt cc kdr_20 (h + 1) := by rw [er_318] at hQ; exact hQ
        replace q_320 := hid q_320
        obtain ⟨fb, efb⟩ : ∃ q, q = (I_311 mo 24).toInt := ⟨_, rfl⟩
        refine lv_aload_n F.1 F.2.1 dX7_viewTold_28 rfl (lv_at hl 0 rfl) ?_
        refine g_getI (ci := 7) (k := 24) F hH rfl (by decide) iX7 hm (by decide) rfl k81 dX7_viewTold_29 ?_
        have b_322 := mJ hv hm
        unfold mNum1 at b_322
        refine z_if_le (tgt := 36) F dX7_viewTold_32 (by decide) (zr_t _) (fun c_323 => ?_) (fun c_323 => ?_)
        · exact absurd (mQ_z hQ (by omega)) (by omega)
        · have hfin : thn (f, h, 0) (fun t _ => sVwM b nn nr nt cc t) = (kdr_20, h + 1, 0) := (thn_k q0).trans (by show sVwM b nn nr nt cc h = _; unfold sVwM; exact ite_n (by omega) (thn_x sr_20.symm (by omega)))
          exact g_vret F hr hlk hH hS hz ⟨rfl, rfl, hv, hT, pf, by first | (dsimp only; omega) | omega | rfl, by (try dsimp only); exact (fun hf => absurd hf (by omega)), by (try dsimp only); exact (fun hf => absurd hf (by omega)), by (try dsimp only); exact (fun hf => absurd hf (by omega)), by (try dsimp only); rw [hfin]; exact hQ, by (try dsimp only); rw [hfin]; exact pIc_n (by omega), by (try dsimp only); rw [hfin]; exact pJm_n (by omega), by (try dsimp only); rw [hfin]; exact pIm_n (by omega)⟩ dX7_viewTold_35
    · refine lv_aload_n F.1 F.2.1 dX7_viewTold_9 rfl (lv_at hl 0 rfl) ?_
      refine z_iconst F dX7_viewTold_10 ?_
      refine g_callv (g_runV (As := [.int (iI 4)]) (rest := []) (ci := 7) F hl.1 hH hS hz (c_X7_wrongf l g gh T b nn nr nt cc 0 h I R J AI AJ AR mo 4 ⟨by decide, by decide⟩ hv hm hT (by omega) h65 hbM hr7 (by omega) hn9 (by omega) hQ) (cwV 1 F.2.2.2.2.1 (good_up gT_X7_wrong) rfl rfl rfl hdX7_wrong ⟨Nat.le_of_ble_eq_true rfl, Nat.le_of_ble_eq_true rfl⟩) hm (by decide) rfl rfl rfl (Nat.le_of_ble_eq_true rfl) dX7_viewTold_11 ⟨Nat.zero_le _, Nat.zero_le _⟩) hS (fun I_324 R_325 J_326 AI_327 AJ_328 AR_329 H locs hp_330 hH hS => ?_)
      dsimp only at hp_330
      obtain ⟨r_331, er_331⟩ : ∃ qQ : pR, qQ = thn (0, h, 0) (fun t _ => (4, t, 0)) := ⟨_, rfl⟩
      rw [← er_331] at hp_330
      obtain ⟨rfl, rfl, rfl, rfl, rfl, hv, pfq, q_332, hQ⟩ := hp_330
      have pf := qF_t pf pfq
      have u_333_2 : (I_324 mo 2).toInt = (I mo 2).toInt := by rw [pf 2 (by decide) (by decide) (by decide) (by decide) (by decide)]
      have u_333_5 : (I_324 mo 5).toInt = (I mo 5).toInt := by rw [pf 5 (by decide) (by decide) (by decide) (by decide) (by decide)]
      have u_333_14 : (I_324 mo 14).toInt = (I mo 14).toInt := by rw [pf 14 (by decide) (by decide) (by decide) (by decide) (by decide)]
      have u_333_16 : (I_324 mo 16).toInt = (I mo 16).toInt := by rw [pf 16 (by decide) (by decide) (by decide) (by decide) (by decide)]
      have u_333_18 : (I_324 mo 18).toInt = (I mo 18).toInt := by rw [pf 18 (by decide) (by decide) (by decide) (by decide) (by decide)]
      have er_331 : r_331 = (4, h, 0) := er_331
      have hQ : mQ gh I_324 J AI AJ mo b nn nr nt cc 4 h := by rw [er_331] at hQ; exact hQ
      have q9_r_331 : (4 : Int) ≠ 0 := by omega
      have g9_r_331 := mQ_f hQ q9_r_331
      refine lv_aload_n F.1 F.2.1 dX7_viewTold_14 rfl (lv_at hl 0 rfl) ?_
      have b_334 := mJ hv hm
      unfold mNum1 at b_334
      refine g_callv (g_runV (As := []) (rest := []) (ci := 7) F hl.1 hH hS hz (c_X7_nextf l g gh T b nn (tNd b nn (tPs b nn h)) I_324 R J AI AJ AR mo hv hm hT (by omega) (mTp hv h65 hbM) hr7 (by omega) (by omega) (mQ_e0 hQ) tNd_le.1) (cwV 0 F.2.2.2.2.1 (good_up gT_X7_next) rfl rfl rfl hdX7_next ⟨Nat.le_of_ble_eq_true rfl, Nat.le_of_ble_eq_true rfl⟩) hm (by decide) rfl rfl rfl (Nat.le_of_ble_eq_true rfl) dX7_viewTold_15 ⟨Nat.zero_le _, Nat.zero_le _⟩) hS (fun I_335 R_336 J_337 AI_338 AJ_339 AR_340 H locs hp_341 hH hS => ?_)
      dsimp only at hp_341
      obtain ⟨rfl, rfl, rfl, rfl, hv, pfq, q_342, nx4, nxa, nxb⟩ := hp_341
      have pf := qF_t pf pfq
      have u_343_2 : (I_335 mo 2).toInt = (I mo 2).toInt := by rw [pf 2 (by decide) (by decide) (by decide) (by decide) (by decide)]
      have u_343_5 : (I_335 mo 5).toInt = (I mo 5).toInt := by rw [pf 5 (by decide) (by decide) (by decide) (by decide) (by decide)]
      have u_343_14 : (I_335 mo 14).toInt = (I mo 14).toInt := by rw [pf 14 (by decide) (by decide) (by decide) (by decide) (by decide)]
      have u_343_16 : (I_335 mo 16).toInt = (I mo 16).toInt := by rw [pf 16 (by decide) (by decide) (by decide) (by decide) (by decide)]
      have u_343_18 : (I_335 mo 18).toInt = (I mo 18).toInt := by rw [pf 18 (by decide) (by decide) (by decide) (by decide) (by decide)]
      have hQ : mQ gh I_335 J_337 AI AJ mo b nn nr nt cc 4 h := by have q9 := mQ_nx hQ nx4 nxa; rw [thn_b (by omega)] at q9; exact q9
      clear nxa nxb
      refine lv_aload_n F.1 F.2.1 dX7_viewTold_18 rfl (lv_at hl 0 rfl) ?_
      have b_344 := mJ hv hm
      unfold mNum1 at b_344
      refine g_callv (g_runV (As := []) (rest := []) (ci := 7) F hl.1 hH hS hz (c_X7_newNamef l g gh T b nn nr nt cc 4 h I_335 R J_337 AI AJ AR mo hv hm hT (by omega) (by omega) h65 hbM hr7 (by omega) hn9 (by omega) hQ) (cwV 0 F.2.2.2.2.1 (good_up gT_X7_newName) rfl rfl rfl hdX7_newName ⟨Nat.le_of_ble_eq_true rfl, Nat.le_of_ble_eq_true rfl⟩) hm (by decide) rfl rfl rfl (Nat.le_of_ble_eq_true rfl) dX7_viewTold_19 ⟨Nat.zero_le _, Nat.zero_le _⟩) hS (fun I_345 R_346 J_347 AI_348 AJ_349 AR_350 H locs hp_351 hH hS => ?_)
      dsimp only at hp_351
      obtain ⟨r_352, er_352⟩ : ∃ qQ : pR, qQ = thn (4, h, 0) (fun t _ => sNam b nn nr nt t) := ⟨_, rfl⟩
      rw [← er_352] at hp_351
      obtain ⟨rfl, rfl, rfl, hv, pfq, q_353, hQ, q_354⟩ := hp_351
      have pf := qF_t pf pfq
      have u_355_2 : (I_345 mo 2).toInt = (I mo 2).toInt := by rw [pf 2 (by decide) (by decide) (by decide) (by decide) (by decide)]
      have u_355_5 : (I_345 mo 5).toInt = (I mo 5).toInt := by rw [pf 5 (by decide) (by decide) (by decide) (by decide) (by decide)]
      have u_355_14 : (I_345 mo 14).toInt = (I mo 14).toInt := by rw [pf 14 (by decide) (by decide) (by decide) (by decide) (by decide)]
      have u_355_16 : (I_345 mo 16).toInt = (I mo 16).toInt := by rw [pf 16 (by decide) (by decide) (by decide) (by decide) (by decide)]
      have u_355_18 : (I_345 mo 18).toInt = (I mo 18).toInt := by rw [pf 18 (by decide) (by decide) (by decide) (by decide) (by decide)]
      rw [thn_b (by omega)] at er_352
      have hQ : mQ gh I_345 J_347 AI AJ_349 mo b nn nr nt cc 4 h := by rw [er_352] at hQ; exact hQ
      refine lv_aload_n F.1 F.2.1 dX7_viewTold_22 rfl (lv_at hl 0 rfl) ?_
      refine z_bipush F dX7_viewTold_23 (by decide) ?_
      have b_356 := mJ hv hm
      unfold mNum1 at b_356
      refine g_callv (g_runV (As := [.int (iI 61)]) (rest := []) (ci := 7) F hl.1 hH hS hz (c_X7_mustSignf l g gh T b nn nr nt cc 4 h I_345 R J_347 AI AJ_349 AR mo 61 ⟨by decide, by decide⟩ hv hm hT (by omega) h65 hbM hr7 (by omega) hn9 (by omega) (by omega) hQ) (cwV 1 F.2.2.2.2.1 (good_up gT_X7_mustSign) rfl rfl rfl hdX7_mustSign ⟨Nat.le_of_ble_eq_true rfl, Nat.le_of_ble_eq_true rfl⟩) hm (by decide) rfl rfl rfl (Nat.le_of_ble_eq_true rfl) dX7_viewTold_25 ⟨Nat.zero_le _, Nat.zero_le _⟩) hS (fun I_357 R_358 J_359 AI_360 AJ_361 AR_362 H locs hp_363 hH hS => ?_)
      dsimp only at hp_363
      obtain ⟨r_364, er_364⟩ : ∃ qQ : pR, qQ = thn (4, h, 0) (fun t _ => sTk b nn 61 t) := ⟨_, rfl⟩
      rw [← er_364] at hp_363
      obtain ⟨rfl, rfl, rfl, rfl, hv, pfq, q_365, q_366, hQ⟩ := hp_363
      have pf := qF_t pf pfq
      have u_367_2 : (I_357 mo 2).toInt = (I mo 2).toInt := by rw [pf 2 (by decide) (by decide) (by decide) (by decide) (by decide)]
      have u_367_5 : (I_357 mo 5).toInt = (I mo 5).toInt := by rw [pf 5 (by decide) (by decide) (by decide) (by decide) (by decide)]
      have u_367_14 : (I_357 mo 14).toInt = (I mo 14).toInt := by rw [pf 14 (by decide) (by decide) (by decide) (by decide) (by decide)]
      have u_367_16 : (I_357 mo 16).toInt = (I mo 16).toInt := by rw [pf 16 (by decide) (by decide) (by decide) (by decide) (by decide)]
      have u_367_18 : (I_357 mo 18).toInt = (I mo 18).toInt := by rw [pf 18 (by decide) (by decide) (by decide) (by decide) (by decide)]
      rw [thn_b (by omega)] at er_364
      have hQ : mQ gh I_357 J_359 AI AJ_349 mo b nn nr nt cc 4 h := by rw [er_364] at hQ; exact hQ
      replace q_366 := hid q_366
      obtain ⟨fb, efb⟩ : ∃ q, q = (I_357 mo 24).toInt := ⟨_, rfl⟩
      refine lv_aload_n F.1 F.2.1 dX7_viewTold_28 rfl (lv_at hl 0 rfl) ?_
      refine g_getI (ci := 7) (k := 24) F hH rfl (by decide) iX7 hm (by decide) rfl k81 dX7_viewTold_29 ?_
      have b_368 := mJ hv hm
      unfold mNum1 at b_368
      refine z_if_le (tgt := 36) F dX7_viewTold_32 (by decide) (zr_t _) (fun c_369 => ?_) (fun c_369 => ?_)
      · exact absurd (mQ_z hQ (by omega)) (by omega)
      · have hfin : thn (f, h, 0) (fun t _ => sVwM b nn nr nt cc t) = (4, h, 0) := (thn_k q0).trans (by show sVwM b nn nr nt cc h = _; unfold sVwM; exact ite_y (by omega) rfl)
        exact g_vret F hr hlk hH hS hz ⟨rfl, rfl, hv, hT, pf, by first | (dsimp only; omega) | omega | rfl, by (try dsimp only); exact (fun hf => absurd hf (by omega)), by (try dsimp only); exact (fun hf => absurd hf (by omega)), by (try dsimp only); exact (fun hf => absurd hf (by omega)), by (try dsimp only); rw [hfin]; exact hQ, by (try dsimp only); rw [hfin]; exact pIc_n (by omega), by (try dsimp only); rw [hfin]; exact pJm_n (by omega), by (try dsimp only); rw [hfin]; exact pIm_n (by omega)⟩ dX7_viewTold_35
  · have hf1 := mQ_f hQ q0
    refine lv_aload_n F.1 F.2.1 dX7_viewTold_0 rfl (lv_at hl 0 rfl) ?_
    refine g_getI (ci := 7) (k := 5) F hH rfl (by decide) iX7 hm (by decide) rfl k184 dX7_viewTold_1 ?_
    have b_370 := mJ hv hm
    unfold mNum1 at b_370
    refine z_bipush F dX7_viewTold_4 (by decide) ?_
    refine z_icmp_ne (tgt := 14) F dX7_viewTold_6 (by decide) (zr_t _) ⟨by decide, by decide⟩ (fun c_371 => ?_) (fun c_371 => ?_)
    · refine lv_aload_n F.1 F.2.1 dX7_viewTold_14 rfl (lv_at hl 0 rfl) ?_
      refine g_callv (g_runV (As := []) (rest := []) (ci := 7) F hl.1 hH hS hz (c_X7_nextf l g gh T b nn (tNd b nn (tPs b nn h)) I R J AI AJ AR mo hv hm hT (by omega) (mTp hv h65 hbM) hr7 (by omega) (by omega) (mQ_e0 hQ) tNd_le.1) (cwV 0 F.2.2.2.2.1 (good_up gT_X7_next) rfl rfl rfl hdX7_next ⟨Nat.le_of_ble_eq_true rfl, Nat.le_of_ble_eq_true rfl⟩) hm (by decide) rfl rfl rfl (Nat.le_of_ble_eq_true rfl) dX7_viewTold_15 ⟨Nat.zero_le _, Nat.zero_le _⟩) hS (fun I_372 R_373 J_374 AI_375 AJ_376 AR_377 H locs hp_378 hH hS => ?_)
      dsimp only at hp_378
      obtain ⟨rfl, rfl, rfl, rfl, hv, pfq, q_379, nx4, nxa, nxb⟩ := hp_378
      have pf := qF_t pf pfq
      have u_380_2 : (I_372 mo 2).toInt = (I mo 2).toInt := by rw [pf 2 (by decide) (by decide) (by decide) (by decide) (by decide)]
      have u_380_5 : (I_372 mo 5).toInt = (I mo 5).toInt := by rw [pf 5 (by decide) (by decide) (by decide) (by decide) (by decide)]
      have u_380_14 : (I_372 mo 14).toInt = (I mo 14).toInt := by rw [pf 14 (by decide) (by decide) (by decide) (by decide) (by decide)]
      have u_380_16 : (I_372 mo 16).toInt = (I mo 16).toInt := by rw [pf 16 (by decide) (by decide) (by decide) (by decide) (by decide)]
      have u_380_18 : (I_372 mo 18).toInt = (I mo 18).toInt := by rw [pf 18 (by decide) (by decide) (by decide) (by decide) (by decide)]
      have hQ : mQ gh I_372 J_374 AI AJ mo b nn nr nt cc f h := by have q9 := mQ_nx hQ nx4 nxa; rw [thn_b (by omega)] at q9; exact q9
      clear nxa nxb
      refine lv_aload_n F.1 F.2.1 dX7_viewTold_18 rfl (lv_at hl 0 rfl) ?_
      have b_381 := mJ hv hm
      unfold mNum1 at b_381
      refine g_callv (g_runV (As := []) (rest := []) (ci := 7) F hl.1 hH hS hz (c_X7_newNamef l g gh T b nn nr nt cc f h I_372 R J_374 AI AJ AR mo hv hm hT (by omega) (by omega) h65 hbM hr7 (by omega) hn9 (by omega) hQ) (cwV 0 F.2.2.2.2.1 (good_up gT_X7_newName) rfl rfl rfl hdX7_newName ⟨Nat.le_of_ble_eq_true rfl, Nat.le_of_ble_eq_true rfl⟩) hm (by decide) rfl rfl rfl (Nat.le_of_ble_eq_true rfl) dX7_viewTold_19 ⟨Nat.zero_le _, Nat.zero_le _⟩) hS (fun I_382 R_383 J_384 AI_385 AJ_386 AR_387 H locs hp_388 hH hS => ?_)
      dsimp only at hp_388
      obtain ⟨r_389, er_389⟩ : ∃ qQ : pR, qQ = thn (f, h, 0) (fun t _ => sNam b nn nr nt t) := ⟨_, rfl⟩
      rw [← er_389] at hp_388
      obtain ⟨rfl, rfl, rfl, hv, pfq, q_390, hQ, q_391⟩ := hp_388
      have pf := qF_t pf pfq
      have u_392_2 : (I_382 mo 2).toInt = (I mo 2).toInt := by rw [pf 2 (by decide) (by decide) (by decide) (by decide) (by decide)]
      have u_392_5 : (I_382 mo 5).toInt = (I mo 5).toInt := by rw [pf 5 (by decide) (by decide) (by decide) (by decide) (by decide)]
      have u_392_14 : (I_382 mo 14).toInt = (I mo 14).toInt := by rw [pf 14 (by decide) (by decide) (by decide) (by decide) (by decide)]
      have u_392_16 : (I_382 mo 16).toInt = (I mo 16).toInt := by rw [pf 16 (by decide) (by decide) (by decide) (by decide) (by decide)]
      have u_392_18 : (I_382 mo 18).toInt = (I mo 18).toInt := by rw [pf 18 (by decide) (by decide) (by decide) (by decide) (by decide)]
      rw [thn_b (by omega)] at er_389
      have hQ : mQ gh I_382 J_384 AI AJ_386 mo b nn nr nt cc f h := by rw [er_389] at hQ; exact hQ
      refine lv_aload_n F.1 F.2.1 dX7_viewTold_22 rfl (lv_at hl 0 rfl) ?_
      refine z_bipush F dX7_viewTold_23 (by decide) ?_
      have b_393 := mJ hv hm
      unfold mNum1 at b_393
      refine g_callv (g_runV (As := [.int (iI 61)]) (rest := []) (ci := 7) F hl.1 hH hS hz (c_X7_mustSignf l g gh T b nn nr nt cc f h I_382 R J_384 AI AJ_386 AR mo 61 ⟨by decide, by decide⟩ hv hm hT (by omega) h65 hbM hr7 (by omega) hn9 (by omega) (by omega) hQ) (cwV 1 F.2.2.2.2.1 (good_up gT_X7_mustSign) rfl rfl rfl hdX7_mustSign ⟨Nat.le_of_ble_eq_true rfl, Nat.le_of_ble_eq_true rfl⟩) hm (by decide) rfl rfl rfl (Nat.le_of_ble_eq_true rfl) dX7_viewTold_25 ⟨Nat.zero_le _, Nat.zero_le _⟩) hS (fun I_394 R_395 J_396 AI_397 AJ_398 AR_399 H locs hp_400 hH hS => ?_)
      dsimp only at hp_400
      obtain ⟨r_401, er_401⟩ : ∃ qQ : pR, qQ = thn (f, h, 0) (fun t _ => sTk b nn 61 t) := ⟨_, rfl⟩
      rw [← er_401] at hp_400
      obtain ⟨rfl, rfl, rfl, rfl, hv, pfq, q_402, q_403, hQ⟩ := hp_400
      have pf := qF_t pf pfq
      have u_404_2 : (I_394 mo 2).toInt = (I mo 2).toInt := by rw [pf 2 (by decide) (by decide) (by decide) (by decide) (by decide)]
      have u_404_5 : (I_394 mo 5).toInt = (I mo 5).toInt := by rw [pf 5 (by decide) (by decide) (by decide) (by decide) (by decide)]
      have u_404_14 : (I_394 mo 14).toInt = (I mo 14).toInt := by rw [pf 14 (by decide) (by decide) (by decide) (by decide) (by decide)]
      have u_404_16 : (I_394 mo 16).toInt = (I mo 16).toInt := by rw [pf 16 (by decide) (by decide) (by decide) (by decide) (by decide)]
      have u_404_18 : (I_394 mo 18).toInt = (I mo 18).toInt := by rw [pf 18 (by decide) (by decide) (by decide) (by decide) (by decide)]
      rw [thn_b (by omega)] at er_401
      have hQ : mQ gh I_394 J_396 AI AJ_386 mo b nn nr nt cc f h := by rw [er_401] at hQ; exact hQ
      replace q_403 := hid q_403
      obtain ⟨fb, efb⟩ : ∃ q, q = (I_394 mo 24).toInt := ⟨_, rfl⟩
      refine lv_aload_n F.1 F.2.1 dX7_viewTold_28 rfl (lv_at hl 0 rfl) ?_
      refine g_getI (ci := 7) (k := 24) F hH rfl (by decide) iX7 hm (by decide) rfl k81 dX7_viewTold_29 ?_
      have b_405 := mJ hv hm
      unfold mNum1 at b_405
      refine z_if_le (tgt := 36) F dX7_viewTold_32 (by decide) (zr_t _) (fun c_406 => ?_) (fun c_406 => ?_)
      · exact absurd (mQ_z hQ (by omega)) (by omega)
      · have hfin : thn (f, h, 0) (fun t _ => sVwM b nn nr nt cc t) = (f, h, 0) := thn_b q0
        exact g_vret F hr hlk hH hS hz ⟨rfl, rfl, hv, hT, pf, by first | (dsimp only; omega) | omega | rfl, by (try dsimp only); exact (fun hf => absurd hf (by omega)), by (try dsimp only); exact (fun hf => absurd hf (by omega)), by (try dsimp only); exact (fun hf => absurd hf (by omega)), by (try dsimp only); rw [hfin]; exact hQ, by (try dsimp only); rw [hfin]; exact pIc_n (by omega), by (try dsimp only); rw [hfin]; exact pJm_n (by omega), by (try dsimp only); rw [hfin]; exact pIm_n (by omega)⟩ dX7_viewTold_35
    · refine lv_aload_n F.1 F.2.1 dX7_viewTold_9 rfl (lv_at hl 0 rfl) ?_
      refine z_iconst F dX7_viewTold_10 ?_
      refine g_callv (g_runV (As := [.int (iI 4)]) (rest := []) (ci := 7) F hl.1 hH hS hz (c_X7_wrongf l g gh T b nn nr nt cc f h I R J AI AJ AR mo 4 ⟨by decide, by decide⟩ hv hm hT (by omega) h65 hbM hr7 (by omega) hn9 (by omega) hQ) (cwV 1 F.2.2.2.2.1 (good_up gT_X7_wrong) rfl rfl rfl hdX7_wrong ⟨Nat.le_of_ble_eq_true rfl, Nat.le_of_ble_eq_true rfl⟩) hm (by decide) rfl rfl rfl (Nat.le_of_ble_eq_true rfl) dX7_viewTold_11 ⟨Nat.zero_le _, Nat.zero_le _⟩) hS (fun I_407 R_408 J_409 AI_410 AJ_411 AR_412 H locs hp_413 hH hS => ?_)
      dsimp only at hp_413
      obtain ⟨r_414, er_414⟩ : ∃ qQ : pR, qQ = thn (f, h, 0) (fun t _ => (4, t, 0)) := ⟨_, rfl⟩
      rw [← er_414] at hp_413
      obtain ⟨rfl, rfl, rfl, rfl, rfl, hv, pfq, q_415, hQ⟩ := hp_413
      have pf := qF_t pf pfq
      have u_416_2 : (I_407 mo 2).toInt = (I mo 2).toInt := by rw [pf 2 (by decide) (by decide) (by decide) (by decide) (by decide)]
      have u_416_5 : (I_407 mo 5).toInt = (I mo 5).toInt := by rw [pf 5 (by decide) (by decide) (by decide) (by decide) (by decide)]
      have u_416_14 : (I_407 mo 14).toInt = (I mo 14).toInt := by rw [pf 14 (by decide) (by decide) (by decide) (by decide) (by decide)]
      have u_416_16 : (I_407 mo 16).toInt = (I mo 16).toInt := by rw [pf 16 (by decide) (by decide) (by decide) (by decide) (by decide)]
      have u_416_18 : (I_407 mo 18).toInt = (I mo 18).toInt := by rw [pf 18 (by decide) (by decide) (by decide) (by decide) (by decide)]
      rw [thn_b (by omega)] at er_414
      have hQ : mQ gh I_407 J AI AJ mo b nn nr nt cc f h := by rw [er_414] at hQ; exact hQ
      refine lv_aload_n F.1 F.2.1 dX7_viewTold_14 rfl (lv_at hl 0 rfl) ?_
      have b_417 := mJ hv hm
      unfold mNum1 at b_417
      refine g_callv (g_runV (As := []) (rest := []) (ci := 7) F hl.1 hH hS hz (c_X7_nextf l g gh T b nn (tNd b nn (tPs b nn h)) I_407 R J AI AJ AR mo hv hm hT (by omega) (mTp hv h65 hbM) hr7 (by omega) (by omega) (mQ_e0 hQ) tNd_le.1) (cwV 0 F.2.2.2.2.1 (good_up gT_X7_next) rfl rfl rfl hdX7_next ⟨Nat.le_of_ble_eq_true rfl, Nat.le_of_ble_eq_true rfl⟩) hm (by decide) rfl rfl rfl (Nat.le_of_ble_eq_true rfl) dX7_viewTold_15 ⟨Nat.zero_le _, Nat.zero_le _⟩) hS (fun I_418 R_419 J_420 AI_421 AJ_422 AR_423 H locs hp_424 hH hS => ?_)
      dsimp only at hp_424
      obtain ⟨rfl, rfl, rfl, rfl, hv, pfq, q_425, nx4, nxa, nxb⟩ := hp_424
      have pf := qF_t pf pfq
      have u_426_2 : (I_418 mo 2).toInt = (I mo 2).toInt := by rw [pf 2 (by decide) (by decide) (by decide) (by decide) (by decide)]
      have u_426_5 : (I_418 mo 5).toInt = (I mo 5).toInt := by rw [pf 5 (by decide) (by decide) (by decide) (by decide) (by decide)]
      have u_426_14 : (I_418 mo 14).toInt = (I mo 14).toInt := by rw [pf 14 (by decide) (by decide) (by decide) (by decide) (by decide)]
      have u_426_16 : (I_418 mo 16).toInt = (I mo 16).toInt := by rw [pf 16 (by decide) (by decide) (by decide) (by decide) (by decide)]
      have u_426_18 : (I_418 mo 18).toInt = (I mo 18).toInt := by rw [pf 18 (by decide) (by decide) (by decide) (by decide) (by decide)]
      have hQ : mQ gh I_418 J_420 AI AJ mo b nn nr nt cc f h := by have q9 := mQ_nx hQ nx4 nxa; rw [thn_b (by omega)] at q9; exact q9
      clear nxa nxb
      refine lv_aload_n F.1 F.2.1 dX7_viewTold_18 rfl (lv_at hl 0 rfl) ?_
      have b_427 := mJ hv hm
      unfold mNum1 at b_427
      refine g_callv (g_runV (As := []) (rest := []) (ci := 7) F hl.1 hH hS hz (c_X7_newNamef l g gh T b nn nr nt cc f h I_418 R J_420 AI AJ AR mo hv hm hT (by omega) (by omega) h65 hbM hr7 (by omega) hn9 (by omega) hQ) (cwV 0 F.2.2.2.2.1 (good_up gT_X7_newName) rfl rfl rfl hdX7_newName ⟨Nat.le_of_ble_eq_true rfl, Nat.le_of_ble_eq_true rfl⟩) hm (by decide) rfl rfl rfl (Nat.le_of_ble_eq_true rfl) dX7_viewTold_19 ⟨Nat.zero_le _, Nat.zero_le _⟩) hS (fun I_428 R_429 J_430 AI_431 AJ_432 AR_433 H locs hp_434 hH hS => ?_)
      dsimp only at hp_434
      obtain ⟨r_435, er_435⟩ : ∃ qQ : pR, qQ = thn (f, h, 0) (fun t _ => sNam b nn nr nt t) := ⟨_, rfl⟩
      rw [← er_435] at hp_434
      obtain ⟨rfl, rfl, rfl, hv, pfq, q_436, hQ, q_437⟩ := hp_434
      have pf := qF_t pf pfq
      have u_438_2 : (I_428 mo 2).toInt = (I mo 2).toInt := by rw [pf 2 (by decide) (by decide) (by decide) (by decide) (by decide)]
      have u_438_5 : (I_428 mo 5).toInt = (I mo 5).toInt := by rw [pf 5 (by decide) (by decide) (by decide) (by decide) (by decide)]
      have u_438_14 : (I_428 mo 14).toInt = (I mo 14).toInt := by rw [pf 14 (by decide) (by decide) (by decide) (by decide) (by decide)]
      have u_438_16 : (I_428 mo 16).toInt = (I mo 16).toInt := by rw [pf 16 (by decide) (by decide) (by decide) (by decide) (by decide)]
      have u_438_18 : (I_428 mo 18).toInt = (I mo 18).toInt := by rw [pf 18 (by decide) (by decide) (by decide) (by decide) (by decide)]
      rw [thn_b (by omega)] at er_435
      have hQ : mQ gh I_428 J_430 AI AJ_432 mo b nn nr nt cc f h := by rw [er_435] at hQ; exact hQ
      refine lv_aload_n F.1 F.2.1 dX7_viewTold_22 rfl (lv_at hl 0 rfl) ?_
      refine z_bipush F dX7_viewTold_23 (by decide) ?_
      have b_439 := mJ hv hm
      unfold mNum1 at b_439
      refine g_callv (g_runV (As := [.int (iI 61)]) (rest := []) (ci := 7) F hl.1 hH hS hz (c_X7_mustSignf l g gh T b nn nr nt cc f h I_428 R J_430 AI AJ_432 AR mo 61 ⟨by decide, by decide⟩ hv hm hT (by omega) h65 hbM hr7 (by omega) hn9 (by omega) (by omega) hQ) (cwV 1 F.2.2.2.2.1 (good_up gT_X7_mustSign) rfl rfl rfl hdX7_mustSign ⟨Nat.le_of_ble_eq_true rfl, Nat.le_of_ble_eq_true rfl⟩) hm (by decide) rfl rfl rfl (Nat.le_of_ble_eq_true rfl) dX7_viewTold_25 ⟨Nat.zero_le _, Nat.zero_le _⟩) hS (fun I_440 R_441 J_442 AI_443 AJ_444 AR_445 H locs hp_446 hH hS => ?_)
      dsimp only at hp_446
      obtain ⟨r_447, er_447⟩ : ∃ qQ : pR, qQ = thn (f, h, 0) (fun t _ => sTk b nn 61 t) := ⟨_, rfl⟩
      rw [← er_447] at hp_446
      obtain ⟨rfl, rfl, rfl, rfl, hv, pfq, q_448, q_449, hQ⟩ := hp_446
      have pf := qF_t pf pfq
      have u_450_2 : (I_440 mo 2).toInt = (I mo 2).toInt := by rw [pf 2 (by decide) (by decide) (by decide) (by decide) (by decide)]
      have u_450_5 : (I_440 mo 5).toInt = (I mo 5).toInt := by rw [pf 5 (by decide) (by decide) (by decide) (by decide) (by decide)]
      have u_450_14 : (I_440 mo 14).toInt = (I mo 14).toInt := by rw [pf 14 (by decide) (by decide) (by decide) (by decide) (by decide)]
      have u_450_16 : (I_440 mo 16).toInt = (I mo 16).toInt := by rw [pf 16 (by decide) (by decide) (by decide) (by decide) (by decide)]
      have u_450_18 : (I_440 mo 18).toInt = (I mo 18).toInt := by rw [pf 18 (by decide) (by decide) (by decide) (by decide) (by decide)]
      rw [thn_b (by omega)] at er_447
      have hQ : mQ gh I_440 J_442 AI AJ_432 mo b nn nr nt cc f h := by rw [er_447] at hQ; exact hQ
      replace q_449 := hid q_449
      obtain ⟨fb, efb⟩ : ∃ q, q = (I_440 mo 24).toInt := ⟨_, rfl⟩
      refine lv_aload_n F.1 F.2.1 dX7_viewTold_28 rfl (lv_at hl 0 rfl) ?_
      refine g_getI (ci := 7) (k := 24) F hH rfl (by decide) iX7 hm (by decide) rfl k81 dX7_viewTold_29 ?_
      have b_451 := mJ hv hm
      unfold mNum1 at b_451
      refine z_if_le (tgt := 36) F dX7_viewTold_32 (by decide) (zr_t _) (fun c_452 => ?_) (fun c_452 => ?_)
      · exact absurd (mQ_z hQ (by omega)) (by omega)
      · have hfin : thn (f, h, 0) (fun t _ => sVwM b nn nr nt cc t) = (f, h, 0) := thn_b q0
        exact g_vret F hr hlk hH hS hz ⟨rfl, rfl, hv, hT, pf, by first | (dsimp only; omega) | omega | rfl, by (try dsimp only); exact (fun hf => absurd hf (by omega)), by (try dsimp only); exact (fun hf => absurd hf (by omega)), by (try dsimp only); exact (fun hf => absurd hf (by omega)), by (try dsimp only); rw [hfin]; exact hQ, by (try dsimp only); rw [hfin]; exact pIc_n (by omega), by (try dsimp only); rw [hfin]; exact pJm_n (by omega), by (try dsimp only); rw [hfin]; exact pIm_n (by omega)⟩ dX7_viewTold_35
