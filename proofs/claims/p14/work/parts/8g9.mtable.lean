def rmX7_tableToldg : Room := { frames := 8, cells := 0, slots := 0, locals := 169 }
set_option maxHeartbeats 4000000 in
set_option maxRecDepth 100000 in
/-- a table told -/
theorem c_X7_tableToldg (l : Launch) (g : gG) (gh : gGh) (T : Nat → Int32) (M : Int) (b : tTx) (nn nr : Nat) (nt : Nat → Nat) (cc : Nat → Int) (f : Int) (h : Nat) (I : gI) (R : gR) (J : gJ) (AI : gI) (AJ : gJ) (AR : gR) (mo : Nat) (bh : Int) (zbh : zr bh) (hv : mInv g gh R I AI) (hm : gO g mo 7) (hT : AI (gh 50 0) = T) (hE : (I mo 20).toInt ≤ 936) (hMM : (I mo 5).toInt = M) (hbh : bh = 0 ∨ bh = 1) (htb : bh = 0 → ∀ r : Int, 0 ≤ r → r < M → tI (AI (gh 53 0)) (40 * r) = 0) (h65 : gh 9 (gh 65 0) ≠ 5) (hbM : ∀ k : Nat, k < nn → ((gM g).2 (gh 65 0) k).toInt = b k % 256) (hr7 : ∀ k : Nat, -128 ≤ b k ∧ b k ≤ 127) (hsz : (I mo 18).toInt = (nn : Int)) (hn9 : nn ≤ 900) (hm5 : (I mo 5).toInt = (nr : Int)) (hQ : mQ gh I J AI AJ mo b nn nr nt cc f h) : gMet l g yX7_tableTold tsX7_tableTold rmX7_tableToldg [.ref mo, .int (iI bh)] (I, R, J, AI, AJ, AR) (gQv g (fun w : gS => R = w.2.1 ∧ AR = w.2.2.2.2.2 ∧ (mInv g gh R (w.1) (w.2.2.2.1)) ∧ ((w.2.2.2.1) (gh 50 0) = T) ∧ (qF mo I (w.1)) ∧ (((w.1) mo 20).toInt ≤ 936 ∧ (I mo 24).toInt ≤ ((w.1) mo 24).toInt) ∧ (((w.1) mo 24).toInt = 0 → ((w.1) mo 21).toInt = 4 → ((w.1) mo 23).toInt = 59 → rowOK ((w.2.2.2.1) (gh 53 0)) M) ∧ (((w.1) mo 24).toInt = 0 → M ≤ 15 ∧ bh = 0 ∧ ∀ r : Int, 0 ≤ r → r < M + 1 → tI ((w.2.2.2.1) (gh 53 0)) (40 * r) = 0) ∧ (mQ gh (w.1) (w.2.2.1) (w.2.2.2.1) (w.2.2.2.2.1) mo b nn nr nt cc (thn (f, h, 0) (fun t _ => sTbM b nn nr nt bh t)).1 (thn (f, h, 0) (fun t _ => sTbM b nn nr nt bh t)).2.1) ∧ (pIc (thn (f, h, 0) (fun t _ => sTbM b nn nr nt bh t)).1 (pK b nn (thn (f, h, 0) (fun t _ => sTbM b nn nr nt bh t)).2.1) (tI ((w.2.2.2.1) (gh 53 0)) (40 * (nr : Int) + 1)) (thn (f, h, 0) (fun t _ => sTbM b nn nr nt bh t)).2.2) ∧ (pJm (thn (f, h, 0) (fun t _ => sTbM b nn nr nt bh t)).1 ((w.2.2.2.2.1) (gh 54 0) nr) (pMw b nn (h + 1))) ∧ (zIf (thn (f, h, 0) (fun t _ => sTbM b nn nr nt bh t)).1 (frM M (AI (gh 53 0)) ((w.2.2.2.1) (gh 53 0)))) ∧ (zIf (thn (f, h, 0) (fun t _ => sTbM b nn nr nt bh t)).1 (rFS ((w.2.2.2.1) (gh 53 0)) M (-1) (-1))) ∧ (∀ b, b ≠ gh 53 0 → (w.2.2.2.1) b = AI b))) := by
  refine gStart (cc := cX7_tableTold) (maxL := 3) (ret := none) (by decide) rfl (Nat.le_of_ble_eq_true rfl) ?_
  intro p e s m below meth c ls F hr hlk hH hz hS hl
  have hl : lv_has ls 3 [(0, .ref mo), (1, .int (iI bh))] := hl
  have hS : va_S (gA g) s.heap s.heap [] := hS
  obtain ⟨H, hHe⟩ : ∃ H : Heap, H = s.heap := ⟨_, rfl⟩
  obtain ⟨locs, hlo⟩ : ∃ k : List Loc, k = [] := ⟨_, rfl⟩
  have hH : gH g I R J AI AJ AR H := by rw [hHe]; exact hH
  have hS : va_S (gA g) s.heap H locs := by rw [hHe, hlo]; exact hS
  suffices hw : W p l e rmX7_tableToldg s m ([.ref mo, .int (iI bh)] : List Value).toArray below meth c H locs 0 0 (MQ below (gQv g (fun w : gS => R = w.2.1 ∧ AR = w.2.2.2.2.2 ∧ (mInv g gh R (w.1) (w.2.2.2.1)) ∧ ((w.2.2.2.1) (gh 50 0) = T) ∧ (qF mo I (w.1)) ∧ (((w.1) mo 20).toInt ≤ 936 ∧ (I mo 24).toInt ≤ ((w.1) mo 24).toInt) ∧ (((w.1) mo 24).toInt = 0 → ((w.1) mo 21).toInt = 4 → ((w.1) mo 23).toInt = 59 → rowOK ((w.2.2.2.1) (gh 53 0)) M) ∧ (((w.1) mo 24).toInt = 0 → M ≤ 15 ∧ bh = 0 ∧ ∀ r : Int, 0 ≤ r → r < M + 1 → tI ((w.2.2.2.1) (gh 53 0)) (40 * r) = 0) ∧ (mQ gh (w.1) (w.2.2.1) (w.2.2.2.1) (w.2.2.2.2.1) mo b nn nr nt cc (thn (f, h, 0) (fun t _ => sTbM b nn nr nt bh t)).1 (thn (f, h, 0) (fun t _ => sTbM b nn nr nt bh t)).2.1) ∧ (pIc (thn (f, h, 0) (fun t _ => sTbM b nn nr nt bh t)).1 (pK b nn (thn (f, h, 0) (fun t _ => sTbM b nn nr nt bh t)).2.1) (tI ((w.2.2.2.1) (gh 53 0)) (40 * (nr : Int) + 1)) (thn (f, h, 0) (fun t _ => sTbM b nn nr nt bh t)).2.2) ∧ (pJm (thn (f, h, 0) (fun t _ => sTbM b nn nr nt bh t)).1 ((w.2.2.2.2.1) (gh 54 0) nr) (pMw b nn (h + 1))) ∧ (zIf (thn (f, h, 0) (fun t _ => sTbM b nn nr nt bh t)).1 (frM M (AI (gh 53 0)) ((w.2.2.2.1) (gh 53 0)))) ∧ (zIf (thn (f, h, 0) (fun t _ => sTbM b nn nr nt bh t)).1 (rFS ((w.2.2.2.1) (gh 53 0)) M (-1) (-1))) ∧ (∀ b, b ≠ gh 53 0 → (w.2.2.2.1) b = AI b))) ([.ref mo, .int (iI bh)] : List Value).toArray s 0 0 (gA g)) (F0 m 0 ls []) by
    rw [hHe, hlo] at hw; exact hw
  clear hHe hlo
  have pf : qF mo I I := qF_r
  have hb0 := mJ hv hm
  unfold mNum1 at hb0
  have hfr : frM M (AI (gh 53 0)) (AI (gh 53 0)) := frM_r
  have iX7 : ∀ w ∈ u_ws RX7 TX7 32, w ∈ tsX7_tableTold := fun w h => List.mem_cons_of_mem _ (inTB7 w h)
  have k184 : Cond.fieldLink RX7 184 (TX7 5).1 (TX7 5).2.1 (TX7 5).2.2.1 ∈ tsX7_tableTold := List.mem_cons_of_mem _ fl_184
  have k81 : Cond.fieldLink RX7 81 (TX7 24).1 (TX7 24).2.1 (TX7 24).2.2.1 ∈ tsX7_tableTold := List.mem_cons_of_mem _ fl_81
  have k94 : Cond.fieldLink RX7 94 (TX7 21).1 (TX7 21).2.1 (TX7 21).2.2.1 ∈ tsX7_tableTold := List.mem_cons_of_mem _ fl_94
  have k97 : Cond.fieldLink RX7 97 (TX7 23).1 (TX7 23).2.1 (TX7 23).2.2.1 ∈ tsX7_tableTold := List.mem_cons_of_mem _ fl_97
  have hf0 := mQ_p hQ
  by_cases q0 : f = 0
  · have hQ := mQ_ok hQ q0
    have hz0 := mQ_0 hQ rfl
    refine lv_aload_n F.1 F.2.1 dX7_tableTold_0 rfl (lv_at hl 0 rfl) ?_
    refine g_getI (ci := 7) (k := 5) F hH rfl (by decide) iX7 hm (by decide) rfl k184 dX7_tableTold_1 ?_
    have b_1 := mJ hv hm
    unfold mNum1 at b_1
    refine z_bipush F dX7_tableTold_4 (by decide) ?_
    refine z_icmp_ne (tgt := 14) F dX7_tableTold_6 (by decide) (zr_t _) ⟨by decide, by decide⟩ (fun c_2 => ?_) (fun c_2 => ?_)
    · refine lv_iload_n F.1 F.2.1 dX7_tableTold_14 rfl (lv_at hl 1 rfl) ?_
      refine z_if_eq (tgt := 24) F dX7_tableTold_15 (by decide) zbh (fun c_3 => ?_) (fun c_3 => ?_)
      · refine lv_aload_n F.1 F.2.1 dX7_tableTold_24 rfl (lv_at hl 0 rfl) ?_
        refine g_callv (g_runV (As := []) (rest := []) (ci := 7) F hl.1 hH hS hz (c_X7_nextf l g gh T b nn (tNd b nn (tPs b nn h)) I R J AI AJ AR mo hv hm hT (by omega) (mTp hv h65 hbM) hr7 (by omega) (by omega) (mQ_e0 hQ) tNd_le.1) (cwV 0 F.2.2.2.2.1 (good_up gT_X7_next) rfl rfl rfl hdX7_next ⟨Nat.le_of_ble_eq_true rfl, Nat.le_of_ble_eq_true rfl⟩) hm (by decide) rfl rfl rfl (Nat.le_of_ble_eq_true rfl) dX7_tableTold_25 ⟨Nat.zero_le _, Nat.zero_le _⟩) hS (fun I_4 R_5 J_6 AI_7 AJ_8 AR_9 H locs hp_10 hH hS => ?_)
        dsimp only at hp_10
        obtain ⟨rfl, rfl, rfl, rfl, hv, pfq, q_11, nx4, nxa, nxb⟩ := hp_10
        have pf := qF_t pf pfq
        have u_12_2 : (I_4 mo 2).toInt = (I mo 2).toInt := by rw [pf 2 (by decide) (by decide) (by decide) (by decide) (by decide)]
        have u_12_5 : (I_4 mo 5).toInt = (I mo 5).toInt := by rw [pf 5 (by decide) (by decide) (by decide) (by decide) (by decide)]
        have u_12_14 : (I_4 mo 14).toInt = (I mo 14).toInt := by rw [pf 14 (by decide) (by decide) (by decide) (by decide) (by decide)]
        have u_12_16 : (I_4 mo 16).toInt = (I mo 16).toInt := by rw [pf 16 (by decide) (by decide) (by decide) (by decide) (by decide)]
        have u_12_18 : (I_4 mo 18).toInt = (I mo 18).toInt := by rw [pf 18 (by decide) (by decide) (by decide) (by decide) (by decide)]
        have hQ : mQ gh I_4 J_6 AI AJ mo b nn nr nt cc 0 (h + 1) := mQ_nx hQ nx4 nxa
        clear nxa nxb
        refine lv_aload_n F.1 F.2.1 dX7_tableTold_28 rfl (lv_at hl 0 rfl) ?_
        have b_13 := mJ hv hm
        unfold mNum1 at b_13
        refine g_callv (g_runV (As := []) (rest := []) (ci := 7) F hl.1 hH hS hz (c_X7_newNamef l g gh T b nn nr nt cc 0 (h + 1) I_4 R J_6 AI AJ AR mo hv hm hT (by omega) (by omega) h65 hbM hr7 (by omega) hn9 (by omega) hQ) (cwV 0 F.2.2.2.2.1 (good_up gT_X7_newName) rfl rfl rfl hdX7_newName ⟨Nat.le_of_ble_eq_true rfl, Nat.le_of_ble_eq_true rfl⟩) hm (by decide) rfl rfl rfl (Nat.le_of_ble_eq_true rfl) dX7_tableTold_29 ⟨Nat.zero_le _, Nat.zero_le _⟩) hS (fun I_14 R_15 J_16 AI_17 AJ_18 AR_19 H locs hp_20 hH hS => ?_)
        dsimp only at hp_20
        obtain ⟨r_21, er_21⟩ : ∃ qQ : pR, qQ = thn (0, (h + 1), 0) (fun t _ => sNam b nn nr nt t) := ⟨_, rfl⟩
        rw [← er_21] at hp_20
        obtain ⟨rfl, rfl, rfl, hv, pfq, q_22, hQ, q_23⟩ := hp_20
        have pf := qF_t pf pfq
        have u_24_2 : (I_14 mo 2).toInt = (I mo 2).toInt := by rw [pf 2 (by decide) (by decide) (by decide) (by decide) (by decide)]
        have u_24_5 : (I_14 mo 5).toInt = (I mo 5).toInt := by rw [pf 5 (by decide) (by decide) (by decide) (by decide) (by decide)]
        have u_24_14 : (I_14 mo 14).toInt = (I mo 14).toInt := by rw [pf 14 (by decide) (by decide) (by decide) (by decide) (by decide)]
        have u_24_16 : (I_14 mo 16).toInt = (I mo 16).toInt := by rw [pf 16 (by decide) (by decide) (by decide) (by decide) (by decide)]
        have u_24_18 : (I_14 mo 18).toInt = (I mo 18).toInt := by rw [pf 18 (by decide) (by decide) (by decide) (by decide) (by decide)]
        have er_21 : r_21 = sNam b nn nr nt (h + 1) := er_21
        have sr_21 := er_21
        rcases sNam_c er_21 with ⟨er_21, pr_21⟩ | ⟨kdr_21, er_21, pr_21⟩
        · have hQ : mQ gh I_14 J_16 AI AJ_18 mo b nn nr nt cc 0 (h + 2) := by rw [er_21] at hQ; exact hQ
          have sr_21 : sNam b nn nr nt (h + 1) = (0, h + 2, 0) := sr_21.symm.trans er_21
          have vlr_21 := q_23 (by rw [er_21])
          try rw [er_21] at vlr_21
          try dsimp only at vlr_21
          refine lv_aload_n F.1 F.2.1 dX7_tableTold_32 rfl (lv_at hl 0 rfl) ?_
          refine g_getI (ci := 7) (k := 24) F hH rfl (by decide) iX7 hm (by decide) rfl k81 dX7_tableTold_33 ?_
          have b_25 := mJ hv hm
          unfold mNum1 at b_25
          refine z_if_ne (tgt := 64) F dX7_tableTold_36 (by decide) (zr_t _) (fun c_26 => ?_) (fun c_26 => ?_)
          · exact absurd (mQ_0 hQ rfl) (by omega)
          · refine lv_aload_n F.1 F.2.1 dX7_tableTold_39 rfl (lv_at hl 0 rfl) ?_
            refine g_getI (ci := 7) (k := 21) F hH rfl (by decide) iX7 hm (by decide) rfl k94 dX7_tableTold_40 ?_
            refine z_iconst F dX7_tableTold_43 ?_
            refine z_icmp_ne (tgt := 64) F dX7_tableTold_44 (by decide) (zr_t _) ⟨by decide, by decide⟩ (fun c_27 => ?_) (fun c_27 => ?_)
            · have t_28 : pK b nn (h + 2) ≠ 4 := mQ_kn hQ rfl (c := 3) rfl (by omega)
              refine lv_aload_n F.1 F.2.1 dX7_tableTold_64 rfl (lv_at hl 0 rfl) ?_
              refine g_calli (g_runV (As := []) (rest := []) (ci := 7) F hl.1 hH hS hz (c_X7_numberToldf l g gh T b nn nr nt cc 0 (h + 2) I_14 R J_16 AI AJ_18 AR mo hv hm hT (by omega) h65 hbM hr7 (by omega) hn9 (by omega) hQ) (cwV 0 F.2.2.2.2.1 (good_up gT_X7_numberTold) rfl rfl rfl hdX7_numberTold ⟨Nat.le_of_ble_eq_true rfl, Nat.le_of_ble_eq_true rfl⟩) hm (by decide) rfl rfl rfl (Nat.le_of_ble_eq_true rfl) dX7_tableTold_65 ⟨Nat.zero_le _, Nat.zero_le _⟩) hS (fun v_35 I_29 R_30 J_31 AI_32 AJ_33 AR_34 H locs zv_35 hp_36 hH hS => ?_)
              dsimp only at hp_36
              obtain ⟨r_37, er_37⟩ : ∃ qQ : pR, qQ = thn (0, (h + 2), 0) (fun t _ => sNum b nn t) := ⟨_, rfl⟩
              rw [← er_37] at hp_36
              obtain ⟨rfl, rfl, rfl, rfl, hv, pfq, q_38, q_39, hQ, q_40⟩ := hp_36
              have pf := qF_t pf pfq
              have u_41_2 : (I_29 mo 2).toInt = (I mo 2).toInt := by rw [pf 2 (by decide) (by decide) (by decide) (by decide) (by decide)]
              have u_41_5 : (I_29 mo 5).toInt = (I mo 5).toInt := by rw [pf 5 (by decide) (by decide) (by decide) (by decide) (by decide)]
              have u_41_14 : (I_29 mo 14).toInt = (I mo 14).toInt := by rw [pf 14 (by decide) (by decide) (by decide) (by decide) (by decide)]
              have u_41_16 : (I_29 mo 16).toInt = (I mo 16).toInt := by rw [pf 16 (by decide) (by decide) (by decide) (by decide) (by decide)]
              have u_41_18 : (I_29 mo 18).toInt = (I mo 18).toInt := by rw [pf 18 (by decide) (by decide) (by decide) (by decide) (by decide)]
              have er_37 : r_37 = sNum b nn (h + 2) := er_37
              have sr_37 := er_37
              rcases sNum_c er_37 with ⟨er_37, pr_37⟩ | ⟨er_37, pr_37⟩
              · have hQ : mQ gh I_29 J_31 AI AJ_18 mo b nn nr nt cc 0 (h + 3) := by rw [er_37] at hQ; exact hQ
                have sr_37 : sNum b nn (h + 2) = (0, h + 3, pV b nn (h + 2)) := sr_37.symm.trans er_37
                have vlr_37 := q_40 (by rw [er_37])
                try rw [er_37] at vlr_37
                try dsimp only at vlr_37
                have kq_39 := q_39 (mQ_0 hQ rfl)
                replace q_39 := hid q_39
                refine lv_istore_n (lv' := [(2, .int (iI v_35)), (0, .ref mo), (1, .int (iI bh))]) F.1 F.2.1 dX7_tableTold_68 rfl hl (by decide) rfl (fun ls hl => ?_)
                refine lv_aload_n F.1 F.2.1 dX7_tableTold_69 rfl (lv_at hl 1 rfl) ?_
                refine z_iconst F dX7_tableTold_70 ?_
                refine lv_iload_n F.1 F.2.1 dX7_tableTold_71 rfl (lv_at hl 0 rfl) ?_
                refine z_iconst F dX7_tableTold_72 ?_
                refine z_iconst F dX7_tableTold_73 ?_
                refine z_iconst F dX7_tableTold_74 ?_
                have b_42 := mJ hv hm
                unfold mNum1 at b_42
                refine g_callv (g_runV (As := [.int (iI 0), .int (iI v_35), .int (iI ((-1))), .int (iI ((-1))), .int (iI 0)]) (rest := []) (ci := 7) F hl.1 hH hS hz (c_X7_headerg l g gh T M I_29 R J_31 AI AJ_18 AR mo 0 v_35 (-1) (-1) 0 ⟨by decide, by decide⟩ zv_35 ⟨by decide, by decide⟩ ⟨by decide, by decide⟩ ⟨by decide, by decide⟩ hv hm hT (by omega) (by omega)) (cwV 5 F.2.2.2.2.1 (good_up gT_X7_header) rfl rfl rfl hdX7_header ⟨Nat.le_of_ble_eq_true rfl, Nat.le_of_ble_eq_true rfl⟩) hm (by decide) rfl rfl rfl (Nat.le_of_ble_eq_true rfl) dX7_tableTold_75 ⟨Nat.zero_le _, Nat.zero_le _⟩) hS (fun I_43 R_44 J_45 AI_46 AJ_47 AR_48 H locs hp_49 hH hS => ?_)
                dsimp only at hp_49
                obtain ⟨rfl, rfl, rfl, rfl, rfl, hv, hT, hhd, q_50⟩ := hp_49
                replace hhd := hid hhd
                have hQ : mQ gh I_29 J_31 AI_46 AJ_18 mo b nn nr nt cc 0 (h + 3) := mQ_a hQ (fun hf9 z9 h09 h19 => (hhd hf9).1 z9 h09 (Or.inl (by omega)))
                have hfr := frM_h hfr (hhd (mQ_0 hQ rfl))
                have hfin : thn (f, h, 0) (fun t _ => sTbM b nn nr nt bh t) = (0, h + 3, pV b nn (h + 2)) := by
                  refine (thn_k q0).trans ?_
                  show sTbM b nn nr nt bh h = _
                  unfold sTbM
                  repeat (first | with_reducible rfl | refine ite_y (by omega) ?_ | refine ite_n (by omega) ?_ | refine thn_t sr_21 (by first | rfl | omega) ?_ | exact (thn_x sr_21.symm (by omega)).trans (pr_e (by omega) (by omega) (by omega)) | refine thn_t sr_37 (by first | rfl | omega) ?_ | exact (thn_x sr_37.symm (by omega)).trans (pr_e (by omega) (by omega) (by omega)) | unfold sTc | exact pr_e (by omega) (by omega) (by omega) | refine ite_y (pCf_ok (by omega) (by omega)) ?_ | refine ite_n (fun e9 => absurd (pCf_0 e9) (by omega)) ?_ | exact pr_e (pCf_no (by omega)) (by omega) (by omega) | exact pr_e (pCf_big (by omega) (by omega)) (by omega) (by omega))
                exact g_vret F hr hlk hH hS hz ⟨rfl, rfl, hv, hT, pf, by first | (dsimp only; omega) | omega | rfl, by (try dsimp only); intro hf ht hn; exact row_mk (by omega) (hhd (by omega)) (by omega) (by omega) (fun h => absurd rfl h) (by omega) (fun _ h => htb (by omega) (M - 1) (by omega) (by omega)) (fun h => absurd h (by decide)) (fun h => absurd h (by decide)) (fun h => absurd h (by decide)) (fun h => absurd h (by decide)) (fun h => absurd h (by decide)) (fun h => absurd h (by decide)), by (try dsimp only); intro hf; exact ⟨by omega, by omega, kind0_step (by omega) (htb (by omega)) (hhd (by omega))⟩, by (try dsimp only); rw [hfin]; exact hQ, by (try dsimp only); rw [hfin]; have q9 := (hhd (mQ_0 hQ rfl)).2.2.1; rw [show M = (nr : Int) by omega] at q9; (try dsimp only); exact pIc_y (by omega), by (try dsimp only); rw [hfin]; exact pJm_y vlr_21, by (try dsimp only); rw [hfin]; exact zIf_y (hfr), by (try dsimp only); rw [hfin]; exact zIf_y (⟨(hhd (mQ_0 hQ rfl)).2.2.2.1, (hhd (mQ_0 hQ rfl)).2.2.2.2.1⟩), fun b hb => q_50 b hb⟩ dX7_tableTold_78
              · have hQ : mQ gh I_29 J_31 AI AJ_18 mo b nn nr nt cc 1 (h + 2) := by rw [er_37] at hQ; exact hQ
                have sr_37 := sr_37.symm.trans er_37
                have g9r_37 := mQ_f hQ (by omega)
                replace q_39 := hid q_39
                refine lv_istore_n (lv' := [(2, .int (iI v_35)), (0, .ref mo), (1, .int (iI bh))]) F.1 F.2.1 dX7_tableTold_68 rfl hl (by decide) rfl (fun ls hl => ?_)
                refine lv_aload_n F.1 F.2.1 dX7_tableTold_69 rfl (lv_at hl 1 rfl) ?_
                refine z_iconst F dX7_tableTold_70 ?_
                refine lv_iload_n F.1 F.2.1 dX7_tableTold_71 rfl (lv_at hl 0 rfl) ?_
                refine z_iconst F dX7_tableTold_72 ?_
                refine z_iconst F dX7_tableTold_73 ?_
                refine z_iconst F dX7_tableTold_74 ?_
                have b_51 := mJ hv hm
                unfold mNum1 at b_51
                refine g_callv (g_runV (As := [.int (iI 0), .int (iI v_35), .int (iI ((-1))), .int (iI ((-1))), .int (iI 0)]) (rest := []) (ci := 7) F hl.1 hH hS hz (c_X7_headerg l g gh T M I_29 R J_31 AI AJ_18 AR mo 0 v_35 (-1) (-1) 0 ⟨by decide, by decide⟩ zv_35 ⟨by decide, by decide⟩ ⟨by decide, by decide⟩ ⟨by decide, by decide⟩ hv hm hT (by omega) (by omega)) (cwV 5 F.2.2.2.2.1 (good_up gT_X7_header) rfl rfl rfl hdX7_header ⟨Nat.le_of_ble_eq_true rfl, Nat.le_of_ble_eq_true rfl⟩) hm (by decide) rfl rfl rfl (Nat.le_of_ble_eq_true rfl) dX7_tableTold_75 ⟨Nat.zero_le _, Nat.zero_le _⟩) hS (fun I_52 R_53 J_54 AI_55 AJ_56 AR_57 H locs hp_58 hH hS => ?_)
                dsimp only at hp_58
                obtain ⟨rfl, rfl, rfl, rfl, rfl, hv, hT, hhd, q_59⟩ := hp_58
                replace hhd := hid hhd
                have hQ : mQ gh I_29 J_31 AI_55 AJ_18 mo b nn nr nt cc 1 (h + 2) := mQ_bad hQ (by omega) rfl
                have hfin : thn (f, h, 0) (fun t _ => sTbM b nn nr nt bh t) = (1, h + 2, 0) := by
                  refine (thn_k q0).trans ?_
                  show sTbM b nn nr nt bh h = _
                  unfold sTbM
                  repeat (first | with_reducible rfl | refine ite_y (by omega) ?_ | refine ite_n (by omega) ?_ | refine thn_t sr_21 (by first | rfl | omega) ?_ | exact (thn_x sr_21.symm (by omega)).trans (pr_e (by omega) (by omega) (by omega)) | refine thn_t sr_37 (by first | rfl | omega) ?_ | exact (thn_x sr_37.symm (by omega)).trans (pr_e (by omega) (by omega) (by omega)) | unfold sTc | exact pr_e (by omega) (by omega) (by omega) | refine ite_y (pCf_ok (by omega) (by omega)) ?_ | refine ite_n (fun e9 => absurd (pCf_0 e9) (by omega)) ?_ | exact pr_e (pCf_no (by omega)) (by omega) (by omega) | exact pr_e (pCf_big (by omega) (by omega)) (by omega) (by omega))
                exact g_vret F hr hlk hH hS hz ⟨rfl, rfl, hv, hT, pf, by first | (dsimp only; omega) | omega | rfl, by (try dsimp only); exact (fun hf => absurd hf (by omega)), by (try dsimp only); exact (fun hf => absurd hf (by omega)), by (try dsimp only); rw [hfin]; exact hQ, by (try dsimp only); rw [hfin]; exact pIc_n (by omega), by (try dsimp only); rw [hfin]; exact pJm_n (by omega), by (try dsimp only); rw [hfin]; exact zIf_n (by omega), by (try dsimp only); rw [hfin]; exact zIf_n (by omega), fun b hb => q_59 b hb⟩ dX7_tableTold_78
            · have t_60 := tkM_3 ((mQ_k hQ rfl).symm.trans (by omega))
              have t_60v := mQ_v hQ rfl (by omega)
              refine lv_aload_n F.1 F.2.1 dX7_tableTold_47 rfl (lv_at hl 0 rfl) ?_
              refine g_getI (ci := 7) (k := 23) F hH rfl (by decide) iX7 hm (by decide) rfl k97 dX7_tableTold_48 ?_
              refine z_iconst F dX7_tableTold_51 ?_
              refine z_iconst F dX7_tableTold_52 ?_
              refine g_calli (g_runS (As := [.int (iI ((I_14 mo 23).toInt)), .int (iI 1), .int (iI 4)]) (rest := []) F hl.1 hH hS hz (c_X7_within l g  I_14 R J_16 AI AJ_18 AR ((I_14 mo 23).toInt) 1 4 (zr_t _) ⟨by decide, by decide⟩ ⟨by decide, by decide⟩) (va_cwS 3 F.2.2.2.2.1 (good_up gT_X7_within) rfl rfl rfl hdX7_within.2 ⟨Nat.le_of_ble_eq_true rfl, Nat.le_of_ble_eq_true rfl⟩) rfl rfl (Nat.le_of_ble_eq_true rfl) dX7_tableTold_53 ⟨Nat.zero_le _, Nat.zero_le _⟩) hS (fun v_67 I_61 R_62 J_63 AI_64 AJ_65 AR_66 H locs zv_67 hp_68 hH hS => ?_)
              dsimp only at hp_68
              obtain ⟨rfl, rfl, rfl, rfl, rfl, rfl, q53⟩ := hp_68
              obtain ⟨qw1, qw2, qw3⟩ := q53
              refine z_if_ne (tgt := 64) F dX7_tableTold_56 (by decide) zv_67 (fun c_69 => ?_) (fun c_69 => ?_)
              · refine lv_aload_n F.1 F.2.1 dX7_tableTold_64 rfl (lv_at hl 0 rfl) ?_
                refine g_calli (g_runV (As := []) (rest := []) (ci := 7) F hl.1 hH hS hz (c_X7_numberToldf l g gh T b nn nr nt cc 0 (h + 2) I_14 R J_16 AI AJ_18 AR mo hv hm hT (by omega) h65 hbM hr7 (by omega) hn9 (by omega) hQ) (cwV 0 F.2.2.2.2.1 (good_up gT_X7_numberTold) rfl rfl rfl hdX7_numberTold ⟨Nat.le_of_ble_eq_true rfl, Nat.le_of_ble_eq_true rfl⟩) hm (by decide) rfl rfl rfl (Nat.le_of_ble_eq_true rfl) dX7_tableTold_65 ⟨Nat.zero_le _, Nat.zero_le _⟩) hS (fun v_76 I_70 R_71 J_72 AI_73 AJ_74 AR_75 H locs zv_76 hp_77 hH hS => ?_)
                dsimp only at hp_77
                obtain ⟨r_78, er_78⟩ : ∃ qQ : pR, qQ = thn (0, (h + 2), 0) (fun t _ => sNum b nn t) := ⟨_, rfl⟩
                rw [← er_78] at hp_77
                obtain ⟨rfl, rfl, rfl, rfl, hv, pfq, q_79, q_80, hQ, q_81⟩ := hp_77
                have pf := qF_t pf pfq
                have u_82_2 : (I_70 mo 2).toInt = (I mo 2).toInt := by rw [pf 2 (by decide) (by decide) (by decide) (by decide) (by decide)]
                have u_82_5 : (I_70 mo 5).toInt = (I mo 5).toInt := by rw [pf 5 (by decide) (by decide) (by decide) (by decide) (by decide)]
                have u_82_14 : (I_70 mo 14).toInt = (I mo 14).toInt := by rw [pf 14 (by decide) (by decide) (by decide) (by decide) (by decide)]
                have u_82_16 : (I_70 mo 16).toInt = (I mo 16).toInt := by rw [pf 16 (by decide) (by decide) (by decide) (by decide) (by decide)]
                have u_82_18 : (I_70 mo 18).toInt = (I mo 18).toInt := by rw [pf 18 (by decide) (by decide) (by decide) (by decide) (by decide)]
                have er_78 : r_78 = sNum b nn (h + 2) := er_78
                have sr_78 := er_78
                rcases sNum_c er_78 with ⟨er_78, pr_78⟩ | ⟨er_78, pr_78⟩
                · have hQ : mQ gh I_70 J_72 AI AJ_18 mo b nn nr nt cc 0 (h + 3) := by rw [er_78] at hQ; exact hQ
                  have sr_78 : sNum b nn (h + 2) = (0, h + 3, pV b nn (h + 2)) := sr_78.symm.trans er_78
                  have vlr_78 := q_81 (by rw [er_78])
                  try rw [er_78] at vlr_78
                  try dsimp only at vlr_78
                  have kq_80 := q_80 (mQ_0 hQ rfl)
                  replace q_80 := hid q_80
                  refine lv_istore_n (lv' := [(2, .int (iI v_76)), (0, .ref mo), (1, .int (iI bh))]) F.1 F.2.1 dX7_tableTold_68 rfl hl (by decide) rfl (fun ls hl => ?_)
                  refine lv_aload_n F.1 F.2.1 dX7_tableTold_69 rfl (lv_at hl 1 rfl) ?_
                  refine z_iconst F dX7_tableTold_70 ?_
                  refine lv_iload_n F.1 F.2.1 dX7_tableTold_71 rfl (lv_at hl 0 rfl) ?_
                  refine z_iconst F dX7_tableTold_72 ?_
                  refine z_iconst F dX7_tableTold_73 ?_
                  refine z_iconst F dX7_tableTold_74 ?_
                  have b_83 := mJ hv hm
                  unfold mNum1 at b_83
                  refine g_callv (g_runV (As := [.int (iI 0), .int (iI v_76), .int (iI ((-1))), .int (iI ((-1))), .int (iI 0)]) (rest := []) (ci := 7) F hl.1 hH hS hz (c_X7_headerg l g gh T M I_70 R J_72 AI AJ_18 AR mo 0 v_76 (-1) (-1) 0 ⟨by decide, by decide⟩ zv_76 ⟨by decide, by decide⟩ ⟨by decide, by decide⟩ ⟨by decide, by decide⟩ hv hm hT (by omega) (by omega)) (cwV 5 F.2.2.2.2.1 (good_up gT_X7_header) rfl rfl rfl hdX7_header ⟨Nat.le_of_ble_eq_true rfl, Nat.le_of_ble_eq_true rfl⟩) hm (by decide) rfl rfl rfl (Nat.le_of_ble_eq_true rfl) dX7_tableTold_75 ⟨Nat.zero_le _, Nat.zero_le _⟩) hS (fun I_84 R_85 J_86 AI_87 AJ_88 AR_89 H locs hp_90 hH hS => ?_)
                  dsimp only at hp_90
                  obtain ⟨rfl, rfl, rfl, rfl, rfl, hv, hT, hhd, q_91⟩ := hp_90
                  replace hhd := hid hhd
                  have hQ : mQ gh I_70 J_72 AI_87 AJ_18 mo b nn nr nt cc 0 (h + 3) := mQ_a hQ (fun hf9 z9 h09 h19 => (hhd hf9).1 z9 h09 (Or.inl (by omega)))
                  have hfr := frM_h hfr (hhd (mQ_0 hQ rfl))
                  have hfin : thn (f, h, 0) (fun t _ => sTbM b nn nr nt bh t) = (0, h + 3, pV b nn (h + 2)) := by
                    refine (thn_k q0).trans ?_
                    show sTbM b nn nr nt bh h = _
                    unfold sTbM
                    repeat (first | with_reducible rfl | refine ite_y (by omega) ?_ | refine ite_n (by omega) ?_ | refine thn_t sr_21 (by first | rfl | omega) ?_ | exact (thn_x sr_21.symm (by omega)).trans (pr_e (by omega) (by omega) (by omega)) | refine thn_t sr_78 (by first | rfl | omega) ?_ | exact (thn_x sr_78.symm (by omega)).trans (pr_e (by omega) (by omega) (by omega)) | unfold sTc | exact pr_e (by omega) (by omega) (by omega) | refine ite_y (pCf_ok (by omega) (by omega)) ?_ | refine ite_n (fun e9 => absurd (pCf_0 e9) (by omega)) ?_ | exact pr_e (pCf_no (by omega)) (by omega) (by omega) | exact pr_e (pCf_big (by omega) (by omega)) (by omega) (by omega))
                  exact g_vret F hr hlk hH hS hz ⟨rfl, rfl, hv, hT, pf, by first | (dsimp only; omega) | omega | rfl, by (try dsimp only); intro hf ht hn; exact row_mk (by omega) (hhd (by omega)) (by omega) (by omega) (fun h => absurd rfl h) (by omega) (fun _ h => htb (by omega) (M - 1) (by omega) (by omega)) (fun h => absurd h (by decide)) (fun h => absurd h (by decide)) (fun h => absurd h (by decide)) (fun h => absurd h (by decide)) (fun h => absurd h (by decide)) (fun h => absurd h (by decide)), by (try dsimp only); intro hf; exact ⟨by omega, by omega, kind0_step (by omega) (htb (by omega)) (hhd (by omega))⟩, by (try dsimp only); rw [hfin]; exact hQ, by (try dsimp only); rw [hfin]; have q9 := (hhd (mQ_0 hQ rfl)).2.2.1; rw [show M = (nr : Int) by omega] at q9; (try dsimp only); exact pIc_y (by omega), by (try dsimp only); rw [hfin]; exact pJm_y vlr_21, by (try dsimp only); rw [hfin]; exact zIf_y (hfr), by (try dsimp only); rw [hfin]; exact zIf_y (⟨(hhd (mQ_0 hQ rfl)).2.2.2.1, (hhd (mQ_0 hQ rfl)).2.2.2.2.1⟩), fun b hb => q_91 b hb⟩ dX7_tableTold_78
                · have hQ : mQ gh I_70 J_72 AI AJ_18 mo b nn nr nt cc 1 (h + 2) := by rw [er_78] at hQ; exact hQ
                  have sr_78 := sr_78.symm.trans er_78
                  have g9r_78 := mQ_f hQ (by omega)
                  replace q_80 := hid q_80
                  refine lv_istore_n (lv' := [(2, .int (iI v_76)), (0, .ref mo), (1, .int (iI bh))]) F.1 F.2.1 dX7_tableTold_68 rfl hl (by decide) rfl (fun ls hl => ?_)
                  refine lv_aload_n F.1 F.2.1 dX7_tableTold_69 rfl (lv_at hl 1 rfl) ?_
                  refine z_iconst F dX7_tableTold_70 ?_
                  refine lv_iload_n F.1 F.2.1 dX7_tableTold_71 rfl (lv_at hl 0 rfl) ?_
                  refine z_iconst F dX7_tableTold_72 ?_
                  refine z_iconst F dX7_tableTold_73 ?_
                  refine z_iconst F dX7_tableTold_74 ?_
                  have b_92 := mJ hv hm
                  unfold mNum1 at b_92
                  refine g_callv (g_runV (As := [.int (iI 0), .int (iI v_76), .int (iI ((-1))), .int (iI ((-1))), .int (iI 0)]) (rest := []) (ci := 7) F hl.1 hH hS hz (c_X7_headerg l g gh T M I_70 R J_72 AI AJ_18 AR mo 0 v_76 (-1) (-1) 0 ⟨by decide, by decide⟩ zv_76 ⟨by decide, by decide⟩ ⟨by decide, by decide⟩ ⟨by decide, by decide⟩ hv hm hT (by omega) (by omega)) (cwV 5 F.2.2.2.2.1 (good_up gT_X7_header) rfl rfl rfl hdX7_header ⟨Nat.le_of_ble_eq_true rfl, Nat.le_of_ble_eq_true rfl⟩) hm (by decide) rfl rfl rfl (Nat.le_of_ble_eq_true rfl) dX7_tableTold_75 ⟨Nat.zero_le _, Nat.zero_le _⟩) hS (fun I_93 R_94 J_95 AI_96 AJ_97 AR_98 H locs hp_99 hH hS => ?_)
                  dsimp only at hp_99
                  obtain ⟨rfl, rfl, rfl, rfl, rfl, hv, hT, hhd, q_100⟩ := hp_99
                  replace hhd := hid hhd
                  have hQ : mQ gh I_70 J_72 AI_96 AJ_18 mo b nn nr nt cc 1 (h + 2) := mQ_bad hQ (by omega) rfl
                  have hfin : thn (f, h, 0) (fun t _ => sTbM b nn nr nt bh t) = (1, h + 2, 0) := by
                    refine (thn_k q0).trans ?_
                    show sTbM b nn nr nt bh h = _
                    unfold sTbM
                    repeat (first | with_reducible rfl | refine ite_y (by omega) ?_ | refine ite_n (by omega) ?_ | refine thn_t sr_21 (by first | rfl | omega) ?_ | exact (thn_x sr_21.symm (by omega)).trans (pr_e (by omega) (by omega) (by omega)) | refine thn_t sr_78 (by first | rfl | omega) ?_ | exact (thn_x sr_78.symm (by omega)).trans (pr_e (by omega) (by omega) (by omega)) | unfold sTc | exact pr_e (by omega) (by omega) (by omega) | refine ite_y (pCf_ok (by omega) (by omega)) ?_ | refine ite_n (fun e9 => absurd (pCf_0 e9) (by omega)) ?_ | exact pr_e (pCf_no (by omega)) (by omega) (by omega) | exact pr_e (pCf_big (by omega) (by omega)) (by omega) (by omega))
                  exact g_vret F hr hlk hH hS hz ⟨rfl, rfl, hv, hT, pf, by first | (dsimp only; omega) | omega | rfl, by (try dsimp only); exact (fun hf => absurd hf (by omega)), by (try dsimp only); exact (fun hf => absurd hf (by omega)), by (try dsimp only); rw [hfin]; exact hQ, by (try dsimp only); rw [hfin]; exact pIc_n (by omega), by (try dsimp only); rw [hfin]; exact pJm_n (by omega), by (try dsimp only); rw [hfin]; exact zIf_n (by omega), by (try dsimp only); rw [hfin]; exact zIf_n (by omega), fun b hb => q_100 b hb⟩ dX7_tableTold_78
              · refine lv_aload_n F.1 F.2.1 dX7_tableTold_59 rfl (lv_at hl 0 rfl) ?_
                refine z_iconst F dX7_tableTold_60 ?_
                refine g_callv (g_runV (As := [.int (iI 2)]) (rest := []) (ci := 7) F hl.1 hH hS hz (c_X7_wrongf l g gh T b nn nr nt cc 0 (h + 2) I_14 R J_16 AI AJ_18 AR mo 2 ⟨by decide, by decide⟩ hv hm hT (by omega) h65 hbM hr7 (by omega) hn9 (by omega) hQ) (cwV 1 F.2.2.2.2.1 (good_up gT_X7_wrong) rfl rfl rfl hdX7_wrong ⟨Nat.le_of_ble_eq_true rfl, Nat.le_of_ble_eq_true rfl⟩) hm (by decide) rfl rfl rfl (Nat.le_of_ble_eq_true rfl) dX7_tableTold_61 ⟨Nat.zero_le _, Nat.zero_le _⟩) hS (fun I_101 R_102 J_103 AI_104 AJ_105 AR_106 H locs hp_107 hH hS => ?_)
                dsimp only at hp_107
                obtain ⟨r_108, er_108⟩ : ∃ qQ : pR, qQ = thn (0, (h + 2), 0) (fun t _ => (2, t, 0)) := ⟨_, rfl⟩
                rw [← er_108] at hp_107
                obtain ⟨rfl, rfl, rfl, rfl, rfl, hv, pfq, q_109, hQ⟩ := hp_107
                have pf := qF_t pf pfq
                have u_110_2 : (I_101 mo 2).toInt = (I mo 2).toInt := by rw [pf 2 (by decide) (by decide) (by decide) (by decide) (by decide)]
                have u_110_5 : (I_101 mo 5).toInt = (I mo 5).toInt := by rw [pf 5 (by decide) (by decide) (by decide) (by decide) (by decide)]
                have u_110_14 : (I_101 mo 14).toInt = (I mo 14).toInt := by rw [pf 14 (by decide) (by decide) (by decide) (by decide) (by decide)]
                have u_110_16 : (I_101 mo 16).toInt = (I mo 16).toInt := by rw [pf 16 (by decide) (by decide) (by decide) (by decide) (by decide)]
                have u_110_18 : (I_101 mo 18).toInt = (I mo 18).toInt := by rw [pf 18 (by decide) (by decide) (by decide) (by decide) (by decide)]
                have er_108 : r_108 = (2, (h + 2), 0) := er_108
                have hQ : mQ gh I_101 J_16 AI AJ_18 mo b nn nr nt cc 2 (h + 2) := by rw [er_108] at hQ; exact hQ
                have q9_r_108 : (2 : Int) ≠ 0 := by omega
                have g9_r_108 := mQ_f hQ q9_r_108
                refine lv_aload_n F.1 F.2.1 dX7_tableTold_64 rfl (lv_at hl 0 rfl) ?_
                have b_111 := mJ hv hm
                unfold mNum1 at b_111
                refine g_calli (g_runV (As := []) (rest := []) (ci := 7) F hl.1 hH hS hz (c_X7_numberToldf l g gh T b nn nr nt cc 2 (h + 2) I_101 R J_16 AI AJ_18 AR mo hv hm hT (by omega) h65 hbM hr7 (by omega) hn9 (by omega) hQ) (cwV 0 F.2.2.2.2.1 (good_up gT_X7_numberTold) rfl rfl rfl hdX7_numberTold ⟨Nat.le_of_ble_eq_true rfl, Nat.le_of_ble_eq_true rfl⟩) hm (by decide) rfl rfl rfl (Nat.le_of_ble_eq_true rfl) dX7_tableTold_65 ⟨Nat.zero_le _, Nat.zero_le _⟩) hS (fun v_118 I_112 R_113 J_114 AI_115 AJ_116 AR_117 H locs zv_118 hp_119 hH hS => ?_)
                dsimp only at hp_119
                obtain ⟨r_120, er_120⟩ : ∃ qQ : pR, qQ = thn (2, (h + 2), 0) (fun t _ => sNum b nn t) := ⟨_, rfl⟩
                rw [← er_120] at hp_119
                obtain ⟨rfl, rfl, rfl, rfl, hv, pfq, q_121, q_122, hQ, q_123⟩ := hp_119
                have pf := qF_t pf pfq
                have u_124_2 : (I_112 mo 2).toInt = (I mo 2).toInt := by rw [pf 2 (by decide) (by decide) (by decide) (by decide) (by decide)]
                have u_124_5 : (I_112 mo 5).toInt = (I mo 5).toInt := by rw [pf 5 (by decide) (by decide) (by decide) (by decide) (by decide)]
                have u_124_14 : (I_112 mo 14).toInt = (I mo 14).toInt := by rw [pf 14 (by decide) (by decide) (by decide) (by decide) (by decide)]
                have u_124_16 : (I_112 mo 16).toInt = (I mo 16).toInt := by rw [pf 16 (by decide) (by decide) (by decide) (by decide) (by decide)]
                have u_124_18 : (I_112 mo 18).toInt = (I mo 18).toInt := by rw [pf 18 (by decide) (by decide) (by decide) (by decide) (by decide)]
                rw [thn_b (by omega)] at er_120
                have hQ : mQ gh I_112 J_114 AI AJ_18 mo b nn nr nt cc 2 (h + 2) := by rw [er_120] at hQ; exact hQ
                replace q_122 := hid q_122
                refine lv_istore_n (lv' := [(2, .int (iI v_118)), (0, .ref mo), (1, .int (iI bh))]) F.1 F.2.1 dX7_tableTold_68 rfl hl (by decide) rfl (fun ls hl => ?_)
                refine lv_aload_n F.1 F.2.1 dX7_tableTold_69 rfl (lv_at hl 1 rfl) ?_
                refine z_iconst F dX7_tableTold_70 ?_
                refine lv_iload_n F.1 F.2.1 dX7_tableTold_71 rfl (lv_at hl 0 rfl) ?_
                refine z_iconst F dX7_tableTold_72 ?_
                refine z_iconst F dX7_tableTold_73 ?_
                refine z_iconst F dX7_tableTold_74 ?_
                have b_125 := mJ hv hm
                unfold mNum1 at b_125
                refine g_callv (g_runV (As := [.int (iI 0), .int (iI v_118), .int (iI ((-1))), .int (iI ((-1))), .int (iI 0)]) (rest := []) (ci := 7) F hl.1 hH hS hz (c_X7_headerg l g gh T M I_112 R J_114 AI AJ_18 AR mo 0 v_118 (-1) (-1) 0 ⟨by decide, by decide⟩ zv_118 ⟨by decide, by decide⟩ ⟨by decide, by decide⟩ ⟨by decide, by decide⟩ hv hm hT (by omega) (by omega)) (cwV 5 F.2.2.2.2.1 (good_up gT_X7_header) rfl rfl rfl hdX7_header ⟨Nat.le_of_ble_eq_true rfl, Nat.le_of_ble_eq_true rfl⟩) hm (by decide) rfl rfl rfl (Nat.le_of_ble_eq_true rfl) dX7_tableTold_75 ⟨Nat.zero_le _, Nat.zero_le _⟩) hS (fun I_126 R_127 J_128 AI_129 AJ_130 AR_131 H locs hp_132 hH hS => ?_)
                dsimp only at hp_132
                obtain ⟨rfl, rfl, rfl, rfl, rfl, hv, hT, hhd, q_133⟩ := hp_132
                replace hhd := hid hhd
                have hQ : mQ gh I_112 J_114 AI_129 AJ_18 mo b nn nr nt cc 2 (h + 2) := mQ_bad hQ (by omega) rfl
                have hfin : thn (f, h, 0) (fun t _ => sTbM b nn nr nt bh t) = (2, h + 2, 0) := by
                  refine (thn_k q0).trans ?_
                  show sTbM b nn nr nt bh h = _
                  unfold sTbM
                  repeat (first | with_reducible rfl | refine ite_y (by omega) ?_ | refine ite_n (by omega) ?_ | refine thn_t sr_21 (by first | rfl | omega) ?_ | exact (thn_x sr_21.symm (by omega)).trans (pr_e (by omega) (by omega) (by omega)) | unfold sTc | exact pr_e (by omega) (by omega) (by omega) | refine ite_y (pCf_ok (by omega) (by omega)) ?_ | refine ite_n (fun e9 => absurd (pCf_0 e9) (by omega)) ?_ | exact pr_e (pCf_no (by omega)) (by omega) (by omega) | exact pr_e (pCf_big (by omega) (by omega)) (by omega) (by omega))
                exact g_vret F hr hlk hH hS hz ⟨rfl, rfl, hv, hT, pf, by first | (dsimp only; omega) | omega | rfl, by (try dsimp only); exact (fun hf => absurd hf (by omega)), by (try dsimp only); exact (fun hf => absurd hf (by omega)), by (try dsimp only); rw [hfin]; exact hQ, by (try dsimp only); rw [hfin]; exact pIc_n (by omega), by (try dsimp only); rw [hfin]; exact pJm_n (by omega), by (try dsimp only); rw [hfin]; exact zIf_n (by omega), by (try dsimp only); rw [hfin]; exact zIf_n (by omega), fun b hb => q_133 b hb⟩ dX7_tableTold_78
        · have hQ : mQ gh I_14 J_16 AI AJ_18 mo b nn nr nt cc kdr_21 (h + 1) := by rw [er_21] at hQ; exact hQ
          have sr_21 := sr_21.symm.trans er_21
          have g9r_21 := mQ_f hQ (by omega)
          refine lv_aload_n F.1 F.2.1 dX7_tableTold_32 rfl (lv_at hl 0 rfl) ?_
          refine g_getI (ci := 7) (k := 24) F hH rfl (by decide) iX7 hm (by decide) rfl k81 dX7_tableTold_33 ?_
          have b_134 := mJ hv hm
          unfold mNum1 at b_134
          refine z_if_ne (tgt := 64) F dX7_tableTold_36 (by decide) (zr_t _) (fun c_135 => ?_) (fun c_135 => ?_)
          · refine lv_aload_n F.1 F.2.1 dX7_tableTold_64 rfl (lv_at hl 0 rfl) ?_
            refine g_calli (g_runV (As := []) (rest := []) (ci := 7) F hl.1 hH hS hz (c_X7_numberToldf l g gh T b nn nr nt cc kdr_21 (h + 1) I_14 R J_16 AI AJ_18 AR mo hv hm hT (by omega) h65 hbM hr7 (by omega) hn9 (by omega) hQ) (cwV 0 F.2.2.2.2.1 (good_up gT_X7_numberTold) rfl rfl rfl hdX7_numberTold ⟨Nat.le_of_ble_eq_true rfl, Nat.le_of_ble_eq_true rfl⟩) hm (by decide) rfl rfl rfl (Nat.le_of_ble_eq_true rfl) dX7_tableTold_65 ⟨Nat.zero_le _, Nat.zero_le _⟩) hS (fun v_142 I_136 R_137 J_138 AI_139 AJ_140 AR_141 H locs zv_142 hp_143 hH hS => ?_)
            dsimp only at hp_143
            obtain ⟨r_144, er_144⟩ : ∃ qQ : pR, qQ = thn (kdr_21, (h + 1), 0) (fun t _ => sNum b nn t) := ⟨_, rfl⟩
            rw [← er_144] at hp_143
            obtain ⟨rfl, rfl, rfl, rfl, hv, pfq, q_145, q_146, hQ, q_147⟩ := hp_143
            have pf := qF_t pf pfq
            have u_148_2 : (I_136 mo 2).toInt = (I mo 2).toInt := by rw [pf 2 (by decide) (by decide) (by decide) (by decide) (by decide)]
            have u_148_5 : (I_136 mo 5).toInt = (I mo 5).toInt := by rw [pf 5 (by decide) (by decide) (by decide) (by decide) (by decide)]
            have u_148_14 : (I_136 mo 14).toInt = (I mo 14).toInt := by rw [pf 14 (by decide) (by decide) (by decide) (by decide) (by decide)]
            have u_148_16 : (I_136 mo 16).toInt = (I mo 16).toInt := by rw [pf 16 (by decide) (by decide) (by decide) (by decide) (by decide)]
            have u_148_18 : (I_136 mo 18).toInt = (I mo 18).toInt := by rw [pf 18 (by decide) (by decide) (by decide) (by decide) (by decide)]
            rw [thn_b (by omega)] at er_144
            have hQ : mQ gh I_136 J_138 AI AJ_18 mo b nn nr nt cc kdr_21 (h + 1) := by rw [er_144] at hQ; exact hQ
            replace q_146 := hid q_146
            refine lv_istore_n (lv' := [(2, .int (iI v_142)), (0, .ref mo), (1, .int (iI bh))]) F.1 F.2.1 dX7_tableTold_68 rfl hl (by decide) rfl (fun ls hl => ?_)
            refine lv_aload_n F.1 F.2.1 dX7_tableTold_69 rfl (lv_at hl 1 rfl) ?_
            refine z_iconst F dX7_tableTold_70 ?_
            refine lv_iload_n F.1 F.2.1 dX7_tableTold_71 rfl (lv_at hl 0 rfl) ?_
            refine z_iconst F dX7_tableTold_72 ?_
            refine z_iconst F dX7_tableTold_73 ?_
            refine z_iconst F dX7_tableTold_74 ?_
            have b_149 := mJ hv hm
            unfold mNum1 at b_149
            refine g_callv (g_runV (As := [.int (iI 0), .int (iI v_142), .int (iI ((-1))), .int (iI ((-1))), .int (iI 0)]) (rest := []) (ci := 7) F hl.1 hH hS hz (c_X7_headerg l g gh T M I_136 R J_138 AI AJ_18 AR mo 0 v_142 (-1) (-1) 0 ⟨by decide, by decide⟩ zv_142 ⟨by decide, by decide⟩ ⟨by decide, by decide⟩ ⟨by decide, by decide⟩ hv hm hT (by omega) (by omega)) (cwV 5 F.2.2.2.2.1 (good_up gT_X7_header) rfl rfl rfl hdX7_header ⟨Nat.le_of_ble_eq_true rfl, Nat.le_of_ble_eq_true rfl⟩) hm (by decide) rfl rfl rfl (Nat.le_of_ble_eq_true rfl) dX7_tableTold_75 ⟨Nat.zero_le _, Nat.zero_le _⟩) hS (fun I_150 R_151 J_152 AI_153 AJ_154 AR_155 H locs hp_156 hH hS => ?_)
            dsimp only at hp_156
            obtain ⟨rfl, rfl, rfl, rfl, rfl, hv, hT, hhd, q_157⟩ := hp_156
            replace hhd := hid hhd
            have hQ : mQ gh I_136 J_138 AI_153 AJ_18 mo b nn nr nt cc kdr_21 (h + 1) := mQ_bad hQ (by omega) rfl
            have hfin : thn (f, h, 0) (fun t _ => sTbM b nn nr nt bh t) = (kdr_21, h + 1, 0) := by
              refine (thn_k q0).trans ?_
              show sTbM b nn nr nt bh h = _
              unfold sTbM
              repeat (first | with_reducible rfl | refine ite_y (by omega) ?_ | refine ite_n (by omega) ?_ | refine thn_t sr_21 (by first | rfl | omega) ?_ | exact (thn_x sr_21.symm (by omega)).trans (pr_e (by omega) (by omega) (by omega)) | unfold sTc | exact pr_e (by omega) (by omega) (by omega) | refine ite_y (pCf_ok (by omega) (by omega)) ?_ | refine ite_n (fun e9 => absurd (pCf_0 e9) (by omega)) ?_ | exact pr_e (pCf_no (by omega)) (by omega) (by omega) | exact pr_e (pCf_big (by omega) (by omega)) (by omega) (by omega))
            exact g_vret F hr hlk hH hS hz ⟨rfl, rfl, hv, hT, pf, by first | (dsimp only; omega) | omega | rfl, by (try dsimp only); exact (fun hf => absurd hf (by omega)), by (try dsimp only); exact (fun hf => absurd hf (by omega)), by (try dsimp only); rw [hfin]; exact hQ, by (try dsimp only); rw [hfin]; exact pIc_n (by omega), by (try dsimp only); rw [hfin]; exact pJm_n (by omega), by (try dsimp only); rw [hfin]; exact zIf_n (by omega), by (try dsimp only); rw [hfin]; exact zIf_n (by omega), fun b hb => q_157 b hb⟩ dX7_tableTold_78
          · exact absurd (mQ_z hQ (by omega)) (by omega)
      · refine lv_aload_n F.1 F.2.1 dX7_tableTold_18 rfl (lv_at hl 0 rfl) ?_
        refine z_bipush F dX7_tableTold_19 (by decide) ?_
        refine g_callv (g_runV (As := [.int (iI 6)]) (rest := []) (ci := 7) F hl.1 hH hS hz (c_X7_wrongf l g gh T b nn nr nt cc 0 h I R J AI AJ AR mo 6 ⟨by decide, by decide⟩ hv hm hT (by omega) h65 hbM hr7 (by omega) hn9 (by omega) hQ) (cwV 1 F.2.2.2.2.1 (good_up gT_X7_wrong) rfl rfl rfl hdX7_wrong ⟨Nat.le_of_ble_eq_true rfl, Nat.le_of_ble_eq_true rfl⟩) hm (by decide) rfl rfl rfl (Nat.le_of_ble_eq_true rfl) dX7_tableTold_21 ⟨Nat.zero_le _, Nat.zero_le _⟩) hS (fun I_158 R_159 J_160 AI_161 AJ_162 AR_163 H locs hp_164 hH hS => ?_)
        dsimp only at hp_164
        obtain ⟨r_165, er_165⟩ : ∃ qQ : pR, qQ = thn (0, h, 0) (fun t _ => (6, t, 0)) := ⟨_, rfl⟩
        rw [← er_165] at hp_164
        obtain ⟨rfl, rfl, rfl, rfl, rfl, hv, pfq, q_166, hQ⟩ := hp_164
        have pf := qF_t pf pfq
        have u_167_2 : (I_158 mo 2).toInt = (I mo 2).toInt := by rw [pf 2 (by decide) (by decide) (by decide) (by decide) (by decide)]
        have u_167_5 : (I_158 mo 5).toInt = (I mo 5).toInt := by rw [pf 5 (by decide) (by decide) (by decide) (by decide) (by decide)]
        have u_167_14 : (I_158 mo 14).toInt = (I mo 14).toInt := by rw [pf 14 (by decide) (by decide) (by decide) (by decide) (by decide)]
        have u_167_16 : (I_158 mo 16).toInt = (I mo 16).toInt := by rw [pf 16 (by decide) (by decide) (by decide) (by decide) (by decide)]
        have u_167_18 : (I_158 mo 18).toInt = (I mo 18).toInt := by rw [pf 18 (by decide) (by decide) (by decide) (by decide) (by decide)]
        have er_165 : r_165 = (6, h, 0) := er_165
        have hQ : mQ gh I_158 J AI AJ mo b nn nr nt cc 6 h := by rw [er_165] at hQ; exact hQ
        have q9_r_165 : (6 : Int) ≠ 0 := by omega
        have g9_r_165 := mQ_f hQ q9_r_165
        refine lv_aload_n F.1 F.2.1 dX7_tableTold_24 rfl (lv_at hl 0 rfl) ?_
        have b_168 := mJ hv hm
        unfold mNum1 at b_168
        refine g_callv (g_runV (As := []) (rest := []) (ci := 7) F hl.1 hH hS hz (c_X7_nextf l g gh T b nn (tNd b nn (tPs b nn h)) I_158 R J AI AJ AR mo hv hm hT (by omega) (mTp hv h65 hbM) hr7 (by omega) (by omega) (mQ_e0 hQ) tNd_le.1) (cwV 0 F.2.2.2.2.1 (good_up gT_X7_next) rfl rfl rfl hdX7_next ⟨Nat.le_of_ble_eq_true rfl, Nat.le_of_ble_eq_true rfl⟩) hm (by decide) rfl rfl rfl (Nat.le_of_ble_eq_true rfl) dX7_tableTold_25 ⟨Nat.zero_le _, Nat.zero_le _⟩) hS (fun I_169 R_170 J_171 AI_172 AJ_173 AR_174 H locs hp_175 hH hS => ?_)
        dsimp only at hp_175
        obtain ⟨rfl, rfl, rfl, rfl, hv, pfq, q_176, nx4, nxa, nxb⟩ := hp_175
        have pf := qF_t pf pfq
        have u_177_2 : (I_169 mo 2).toInt = (I mo 2).toInt := by rw [pf 2 (by decide) (by decide) (by decide) (by decide) (by decide)]
        have u_177_5 : (I_169 mo 5).toInt = (I mo 5).toInt := by rw [pf 5 (by decide) (by decide) (by decide) (by decide) (by decide)]
        have u_177_14 : (I_169 mo 14).toInt = (I mo 14).toInt := by rw [pf 14 (by decide) (by decide) (by decide) (by decide) (by decide)]
        have u_177_16 : (I_169 mo 16).toInt = (I mo 16).toInt := by rw [pf 16 (by decide) (by decide) (by decide) (by decide) (by decide)]
        have u_177_18 : (I_169 mo 18).toInt = (I mo 18).toInt := by rw [pf 18 (by decide) (by decide) (by decide) (by decide) (by decide)]
        have hQ : mQ gh I_169 J_171 AI AJ mo b nn nr nt cc 6 h := by have q9 := mQ_nx hQ nx4 nxa; rw [thn_b (by omega)] at q9; exact q9
        clear nxa nxb
        refine lv_aload_n F.1 F.2.1 dX7_tableTold_28 rfl (lv_at hl 0 rfl) ?_
        have b_178 := mJ hv hm
        unfold mNum1 at b_178
        refine g_callv (g_runV (As := []) (rest := []) (ci := 7) F hl.1 hH hS hz (c_X7_newNamef l g gh T b nn nr nt cc 6 h I_169 R J_171 AI AJ AR mo hv hm hT (by omega) (by omega) h65 hbM hr7 (by omega) hn9 (by omega) hQ) (cwV 0 F.2.2.2.2.1 (good_up gT_X7_newName) rfl rfl rfl hdX7_newName ⟨Nat.le_of_ble_eq_true rfl, Nat.le_of_ble_eq_true rfl⟩) hm (by decide) rfl rfl rfl (Nat.le_of_ble_eq_true rfl) dX7_tableTold_29 ⟨Nat.zero_le _, Nat.zero_le _⟩) hS (fun I_179 R_180 J_181 AI_182 AJ_183 AR_184 H locs hp_185 hH hS => ?_)
        dsimp only at hp_185
        obtain ⟨r_186, er_186⟩ : ∃ qQ : pR, qQ = thn (6, h, 0) (fun t _ => sNam b nn nr nt t) := ⟨_, rfl⟩
        rw [← er_186] at hp_185
        obtain ⟨rfl, rfl, rfl, hv, pfq, q_187, hQ, q_188⟩ := hp_185
        have pf := qF_t pf pfq
        have u_189_2 : (I_179 mo 2).toInt = (I mo 2).toInt := by rw [pf 2 (by decide) (by decide) (by decide) (by decide) (by decide)]
        have u_189_5 : (I_179 mo 5).toInt = (I mo 5).toInt := by rw [pf 5 (by decide) (by decide) (by decide) (by decide) (by decide)]
        have u_189_14 : (I_179 mo 14).toInt = (I mo 14).toInt := by rw [pf 14 (by decide) (by decide) (by decide) (by decide) (by decide)]
        have u_189_16 : (I_179 mo 16).toInt = (I mo 16).toInt := by rw [pf 16 (by decide) (by decide) (by decide) (by decide) (by decide)]
        have u_189_18 : (I_179 mo 18).toInt = (I mo 18).toInt := by rw [pf 18 (by decide) (by decide) (by decide) (by decide) (by decide)]
        rw [thn_b (by omega)] at er_186
        have hQ : mQ gh I_179 J_181 AI AJ_183 mo b nn nr nt cc 6 h := by rw [er_186] at hQ; exact hQ
        refine lv_aload_n F.1 F.2.1 dX7_tableTold_32 rfl (lv_at hl 0 rfl) ?_
        refine g_getI (ci := 7) (k := 24) F hH rfl (by decide) iX7 hm (by decide) rfl k81 dX7_tableTold_33 ?_
        have b_190 := mJ hv hm
        unfold mNum1 at b_190
        refine z_if_ne (tgt := 64) F dX7_tableTold_36 (by decide) (zr_t _) (fun c_191 => ?_) (fun c_191 => ?_)
        · refine lv_aload_n F.1 F.2.1 dX7_tableTold_64 rfl (lv_at hl 0 rfl) ?_
          refine g_calli (g_runV (As := []) (rest := []) (ci := 7) F hl.1 hH hS hz (c_X7_numberToldf l g gh T b nn nr nt cc 6 h I_179 R J_181 AI AJ_183 AR mo hv hm hT (by omega) h65 hbM hr7 (by omega) hn9 (by omega) hQ) (cwV 0 F.2.2.2.2.1 (good_up gT_X7_numberTold) rfl rfl rfl hdX7_numberTold ⟨Nat.le_of_ble_eq_true rfl, Nat.le_of_ble_eq_true rfl⟩) hm (by decide) rfl rfl rfl (Nat.le_of_ble_eq_true rfl) dX7_tableTold_65 ⟨Nat.zero_le _, Nat.zero_le _⟩) hS (fun v_198 I_192 R_193 J_194 AI_195 AJ_196 AR_197 H locs zv_198 hp_199 hH hS => ?_)
          dsimp only at hp_199
          obtain ⟨r_200, er_200⟩ : ∃ qQ : pR, qQ = thn (6, h, 0) (fun t _ => sNum b nn t) := ⟨_, rfl⟩
          rw [← er_200] at hp_199
          obtain ⟨rfl, rfl, rfl, rfl, hv, pfq, q_201, q_202, hQ, q_203⟩ := hp_199
          have pf := qF_t pf pfq
          have u_204_2 : (I_192 mo 2).toInt = (I mo 2).toInt := by rw [pf 2 (by decide) (by decide) (by decide) (by decide) (by decide)]
          have u_204_5 : (I_192 mo 5).toInt = (I mo 5).toInt := by rw [pf 5 (by decide) (by decide) (by decide) (by decide) (by decide)]
          have u_204_14 : (I_192 mo 14).toInt = (I mo 14).toInt := by rw [pf 14 (by decide) (by decide) (by decide) (by decide) (by decide)]
          have u_204_16 : (I_192 mo 16).toInt = (I mo 16).toInt := by rw [pf 16 (by decide) (by decide) (by decide) (by decide) (by decide)]
          have u_204_18 : (I_192 mo 18).toInt = (I mo 18).toInt := by rw [pf 18 (by decide) (by decide) (by decide) (by decide) (by decide)]
          rw [thn_b (by omega)] at er_200
          have hQ : mQ gh I_192 J_194 AI AJ_183 mo b nn nr nt cc 6 h := by rw [er_200] at hQ; exact hQ
          replace q_202 := hid q_202
          refine lv_istore_n (lv' := [(2, .int (iI v_198)), (0, .ref mo), (1, .int (iI bh))]) F.1 F.2.1 dX7_tableTold_68 rfl hl (by decide) rfl (fun ls hl => ?_)
          refine lv_aload_n F.1 F.2.1 dX7_tableTold_69 rfl (lv_at hl 1 rfl) ?_
          refine z_iconst F dX7_tableTold_70 ?_
          refine lv_iload_n F.1 F.2.1 dX7_tableTold_71 rfl (lv_at hl 0 rfl) ?_
          refine z_iconst F dX7_tableTold_72 ?_
          refine z_iconst F dX7_tableTold_73 ?_
          refine z_iconst F dX7_tableTold_74 ?_
          have b_205 := mJ hv hm
          unfold mNum1 at b_205
          refine g_callv (g_runV (As := [.int (iI 0), .int (iI v_198), .int (iI ((-1))), .int (iI ((-1))), .int (iI 0)]) (rest := []) (ci := 7) F hl.1 hH hS hz (c_X7_headerg l g gh T M I_192 R J_194 AI AJ_183 AR mo 0 v_198 (-1) (-1) 0 ⟨by decide, by decide⟩ zv_198 ⟨by decide, by decide⟩ ⟨by decide, by decide⟩ ⟨by decide, by decide⟩ hv hm hT (by omega) (by omega)) (cwV 5 F.2.2.2.2.1 (good_up gT_X7_header) rfl rfl rfl hdX7_header ⟨Nat.le_of_ble_eq_true rfl, Nat.le_of_ble_eq_true rfl⟩) hm (by decide) rfl rfl rfl (Nat.le_of_ble_eq_true rfl) dX7_tableTold_75 ⟨Nat.zero_le _, Nat.zero_le _⟩) hS (fun I_206 R_207 J_208 AI_209 AJ_210 AR_211 H locs hp_212 hH hS => ?_)
          dsimp only at hp_212
          obtain ⟨rfl, rfl, rfl, rfl, rfl, hv, hT, hhd, q_213⟩ := hp_212
          replace hhd := hid hhd
          have hQ : mQ gh I_192 J_194 AI_209 AJ_183 mo b nn nr nt cc 6 h := mQ_bad hQ (by omega) rfl
          have hfin : thn (f, h, 0) (fun t _ => sTbM b nn nr nt bh t) = (6, h, 0) := by
            refine (thn_k q0).trans ?_
            show sTbM b nn nr nt bh h = _
            unfold sTbM
            repeat (first | with_reducible rfl | refine ite_y (by omega) ?_ | refine ite_n (by omega) ?_ | unfold sTc | exact pr_e (by omega) (by omega) (by omega) | refine ite_y (pCf_ok (by omega) (by omega)) ?_ | refine ite_n (fun e9 => absurd (pCf_0 e9) (by omega)) ?_ | exact pr_e (pCf_no (by omega)) (by omega) (by omega) | exact pr_e (pCf_big (by omega) (by omega)) (by omega) (by omega))
          exact g_vret F hr hlk hH hS hz ⟨rfl, rfl, hv, hT, pf, by first | (dsimp only; omega) | omega | rfl, by (try dsimp only); exact (fun hf => absurd hf (by omega)), by (try dsimp only); exact (fun hf => absurd hf (by omega)), by (try dsimp only); rw [hfin]; exact hQ, by (try dsimp only); rw [hfin]; exact pIc_n (by omega), by (try dsimp only); rw [hfin]; exact pJm_n (by omega), by (try dsimp only); rw [hfin]; exact zIf_n (by omega), by (try dsimp only); rw [hfin]; exact zIf_n (by omega), fun b hb => q_213 b hb⟩ dX7_tableTold_78
        · exact absurd (mQ_z hQ (by omega)) (by omega)
    · refine lv_aload_n F.1 F.2.1 dX7_tableTold_9 rfl (lv_at hl 0 rfl) ?_
      refine z_iconst F dX7_tableTold_10 ?_
      refine g_callv (g_runV (As := [.int (iI 4)]) (rest := []) (ci := 7) F hl.1 hH hS hz (c_X7_wrongf l g gh T b nn nr nt cc 0 h I R J AI AJ AR mo 4 ⟨by decide, by decide⟩ hv hm hT (by omega) h65 hbM hr7 (by omega) hn9 (by omega) hQ) (cwV 1 F.2.2.2.2.1 (good_up gT_X7_wrong) rfl rfl rfl hdX7_wrong ⟨Nat.le_of_ble_eq_true rfl, Nat.le_of_ble_eq_true rfl⟩) hm (by decide) rfl rfl rfl (Nat.le_of_ble_eq_true rfl) dX7_tableTold_11 ⟨Nat.zero_le _, Nat.zero_le _⟩) hS (fun I_214 R_215 J_216 AI_217 AJ_218 AR_219 H locs hp_220 hH hS => ?_)
      dsimp only at hp_220
      obtain ⟨r_221, er_221⟩ : ∃ qQ : pR, qQ = thn (0, h, 0) (fun t _ => (4, t, 0)) := ⟨_, rfl⟩
      rw [← er_221] at hp_220
      obtain ⟨rfl, rfl, rfl, rfl, rfl, hv, pfq, q_222, hQ⟩ := hp_220
      have pf := qF_t pf pfq
      have u_223_2 : (I_214 mo 2).toInt = (I mo 2).toInt := by rw [pf 2 (by decide) (by decide) (by decide) (by decide) (by decide)]
      have u_223_5 : (I_214 mo 5).toInt = (I mo 5).toInt := by rw [pf 5 (by decide) (by decide) (by decide) (by decide) (by decide)]
      have u_223_14 : (I_214 mo 14).toInt = (I mo 14).toInt := by rw [pf 14 (by decide) (by decide) (by decide) (by decide) (by decide)]
      have u_223_16 : (I_214 mo 16).toInt = (I mo 16).toInt := by rw [pf 16 (by decide) (by decide) (by decide) (by decide) (by decide)]
      have u_223_18 : (I_214 mo 18).toInt = (I mo 18).toInt := by rw [pf 18 (by decide) (by decide) (by decide) (by decide) (by decide)]
      have er_221 : r_221 = (4, h, 0) := er_221
      have hQ : mQ gh I_214 J AI AJ mo b nn nr nt cc 4 h := by rw [er_221] at hQ; exact hQ
      have q9_r_221 : (4 : Int) ≠ 0 := by omega
      have g9_r_221 := mQ_f hQ q9_r_221
      refine lv_iload_n F.1 F.2.1 dX7_tableTold_14 rfl (lv_at hl 1 rfl) ?_
      refine z_if_eq (tgt := 24) F dX7_tableTold_15 (by decide) zbh (fun c_224 => ?_) (fun c_224 => ?_)
      · refine lv_aload_n F.1 F.2.1 dX7_tableTold_24 rfl (lv_at hl 0 rfl) ?_
        have b_225 := mJ hv hm
        unfold mNum1 at b_225
        refine g_callv (g_runV (As := []) (rest := []) (ci := 7) F hl.1 hH hS hz (c_X7_nextf l g gh T b nn (tNd b nn (tPs b nn h)) I_214 R J AI AJ AR mo hv hm hT (by omega) (mTp hv h65 hbM) hr7 (by omega) (by omega) (mQ_e0 hQ) tNd_le.1) (cwV 0 F.2.2.2.2.1 (good_up gT_X7_next) rfl rfl rfl hdX7_next ⟨Nat.le_of_ble_eq_true rfl, Nat.le_of_ble_eq_true rfl⟩) hm (by decide) rfl rfl rfl (Nat.le_of_ble_eq_true rfl) dX7_tableTold_25 ⟨Nat.zero_le _, Nat.zero_le _⟩) hS (fun I_226 R_227 J_228 AI_229 AJ_230 AR_231 H locs hp_232 hH hS => ?_)
        dsimp only at hp_232
        obtain ⟨rfl, rfl, rfl, rfl, hv, pfq, q_233, nx4, nxa, nxb⟩ := hp_232
        have pf := qF_t pf pfq
        have u_234_2 : (I_226 mo 2).toInt = (I mo 2).toInt := by rw [pf 2 (by decide) (by decide) (by decide) (by decide) (by decide)]
        have u_234_5 : (I_226 mo 5).toInt = (I mo 5).toInt := by rw [pf 5 (by decide) (by decide) (by decide) (by decide) (by decide)]
        have u_234_14 : (I_226 mo 14).toInt = (I mo 14).toInt := by rw [pf 14 (by decide) (by decide) (by decide) (by decide) (by decide)]
        have u_234_16 : (I_226 mo 16).toInt = (I mo 16).toInt := by rw [pf 16 (by decide) (by decide) (by decide) (by decide) (by decide)]
        have u_234_18 : (I_226 mo 18).toInt = (I mo 18).toInt := by rw [pf 18 (by decide) (by decide) (by decide) (by decide) (by decide)]
        have hQ : mQ gh I_226 J_228 AI AJ mo b nn nr nt cc 4 h := by have q9 := mQ_nx hQ nx4 nxa; rw [thn_b (by omega)] at q9; exact q9
        clear nxa nxb
        refine lv_aload_n F.1 F.2.1 dX7_tableTold_28 rfl (lv_at hl 0 rfl) ?_
        have b_235 := mJ hv hm
        unfold mNum1 at b_235
        refine g_callv (g_runV (As := []) (rest := []) (ci := 7) F hl.1 hH hS hz (c_X7_newNamef l g gh T b nn nr nt cc 4 h I_226 R J_228 AI AJ AR mo hv hm hT (by omega) (by omega) h65 hbM hr7 (by omega) hn9 (by omega) hQ) (cwV 0 F.2.2.2.2.1 (good_up gT_X7_newName) rfl rfl rfl hdX7_newName ⟨Nat.le_of_ble_eq_true rfl, Nat.le_of_ble_eq_true rfl⟩) hm (by decide) rfl rfl rfl (Nat.le_of_ble_eq_true rfl) dX7_tableTold_29 ⟨Nat.zero_le _, Nat.zero_le _⟩) hS (fun I_236 R_237 J_238 AI_239 AJ_240 AR_241 H locs hp_242 hH hS => ?_)
        dsimp only at hp_242
        obtain ⟨r_243, er_243⟩ : ∃ qQ : pR, qQ = thn (4, h, 0) (fun t _ => sNam b nn nr nt t) := ⟨_, rfl⟩
        rw [← er_243] at hp_242
        obtain ⟨rfl, rfl, rfl, hv, pfq, q_244, hQ, q_245⟩ := hp_242
        have pf := qF_t pf pfq
        have u_246_2 : (I_236 mo 2).toInt = (I mo 2).toInt := by rw [pf 2 (by decide) (by decide) (by decide) (by decide) (by decide)]
        have u_246_5 : (I_236 mo 5).toInt = (I mo 5).toInt := by rw [pf 5 (by decide) (by decide) (by decide) (by decide) (by decide)]
        have u_246_14 : (I_236 mo 14).toInt = (I mo 14).toInt := by rw [pf 14 (by decide) (by decide) (by decide) (by decide) (by decide)]
        have u_246_16 : (I_236 mo 16).toInt = (I mo 16).toInt := by rw [pf 16 (by decide) (by decide) (by decide) (by decide) (by decide)]
        have u_246_18 : (I_236 mo 18).toInt = (I mo 18).toInt := by rw [pf 18 (by decide) (by decide) (by decide) (by decide) (by decide)]
        rw [thn_b (by omega)] at er_243
        have hQ : mQ gh I_236 J_238 AI AJ_240 mo b nn nr nt cc 4 h := by rw [er_243] at hQ; exact hQ
        refine lv_aload_n F.1 F.2.1 dX7_tableTold_32 rfl (lv_at hl 0 rfl) ?_
        refine g_getI (ci := 7) (k := 24) F hH rfl (by decide) iX7 hm (by decide) rfl k81 dX7_tableTold_33 ?_
        have b_247 := mJ hv hm
        unfold mNum1 at b_247
        refine z_if_ne (tgt := 64) F dX7_tableTold_36 (by decide) (zr_t _) (fun c_248 => ?_) (fun c_248 => ?_)
        · refine lv_aload_n F.1 F.2.1 dX7_tableTold_64 rfl (lv_at hl 0 rfl) ?_
          refine g_calli (g_runV (As := []) (rest := []) (ci := 7) F hl.1 hH hS hz (c_X7_numberToldf l g gh T b nn nr nt cc 4 h I_236 R J_238 AI AJ_240 AR mo hv hm hT (by omega) h65 hbM hr7 (by omega) hn9 (by omega) hQ) (cwV 0 F.2.2.2.2.1 (good_up gT_X7_numberTold) rfl rfl rfl hdX7_numberTold ⟨Nat.le_of_ble_eq_true rfl, Nat.le_of_ble_eq_true rfl⟩) hm (by decide) rfl rfl rfl (Nat.le_of_ble_eq_true rfl) dX7_tableTold_65 ⟨Nat.zero_le _, Nat.zero_le _⟩) hS (fun v_255 I_249 R_250 J_251 AI_252 AJ_253 AR_254 H locs zv_255 hp_256 hH hS => ?_)
          dsimp only at hp_256
          obtain ⟨r_257, er_257⟩ : ∃ qQ : pR, qQ = thn (4, h, 0) (fun t _ => sNum b nn t) := ⟨_, rfl⟩
          rw [← er_257] at hp_256
          obtain ⟨rfl, rfl, rfl, rfl, hv, pfq, q_258, q_259, hQ, q_260⟩ := hp_256
          have pf := qF_t pf pfq
          have u_261_2 : (I_249 mo 2).toInt = (I mo 2).toInt := by rw [pf 2 (by decide) (by decide) (by decide) (by decide) (by decide)]
          have u_261_5 : (I_249 mo 5).toInt = (I mo 5).toInt := by rw [pf 5 (by decide) (by decide) (by decide) (by decide) (by decide)]
          have u_261_14 : (I_249 mo 14).toInt = (I mo 14).toInt := by rw [pf 14 (by decide) (by decide) (by decide) (by decide) (by decide)]
          have u_261_16 : (I_249 mo 16).toInt = (I mo 16).toInt := by rw [pf 16 (by decide) (by decide) (by decide) (by decide) (by decide)]
          have u_261_18 : (I_249 mo 18).toInt = (I mo 18).toInt := by rw [pf 18 (by decide) (by decide) (by decide) (by decide) (by decide)]
          rw [thn_b (by omega)] at er_257
          have hQ : mQ gh I_249 J_251 AI AJ_240 mo b nn nr nt cc 4 h := by rw [er_257] at hQ; exact hQ
          replace q_259 := hid q_259
          refine lv_istore_n (lv' := [(2, .int (iI v_255)), (0, .ref mo), (1, .int (iI bh))]) F.1 F.2.1 dX7_tableTold_68 rfl hl (by decide) rfl (fun ls hl => ?_)
          refine lv_aload_n F.1 F.2.1 dX7_tableTold_69 rfl (lv_at hl 1 rfl) ?_
          refine z_iconst F dX7_tableTold_70 ?_
          refine lv_iload_n F.1 F.2.1 dX7_tableTold_71 rfl (lv_at hl 0 rfl) ?_
          refine z_iconst F dX7_tableTold_72 ?_
          refine z_iconst F dX7_tableTold_73 ?_
          refine z_iconst F dX7_tableTold_74 ?_
          have b_262 := mJ hv hm
          unfold mNum1 at b_262
          refine g_callv (g_runV (As := [.int (iI 0), .int (iI v_255), .int (iI ((-1))), .int (iI ((-1))), .int (iI 0)]) (rest := []) (ci := 7) F hl.1 hH hS hz (c_X7_headerg l g gh T M I_249 R J_251 AI AJ_240 AR mo 0 v_255 (-1) (-1) 0 ⟨by decide, by decide⟩ zv_255 ⟨by decide, by decide⟩ ⟨by decide, by decide⟩ ⟨by decide, by decide⟩ hv hm hT (by omega) (by omega)) (cwV 5 F.2.2.2.2.1 (good_up gT_X7_header) rfl rfl rfl hdX7_header ⟨Nat.le_of_ble_eq_true rfl, Nat.le_of_ble_eq_true rfl⟩) hm (by decide) rfl rfl rfl (Nat.le_of_ble_eq_true rfl) dX7_tableTold_75 ⟨Nat.zero_le _, Nat.zero_le _⟩) hS (fun I_263 R_264 J_265 AI_266 AJ_267 AR_268 H locs hp_269 hH hS => ?_)
          dsimp only at hp_269
          obtain ⟨rfl, rfl, rfl, rfl, rfl, hv, hT, hhd, q_270⟩ := hp_269
          replace hhd := hid hhd
          have hQ : mQ gh I_249 J_251 AI_266 AJ_240 mo b nn nr nt cc 4 h := mQ_bad hQ (by omega) rfl
          have hfin : thn (f, h, 0) (fun t _ => sTbM b nn nr nt bh t) = (4, h, 0) := by
            refine (thn_k q0).trans ?_
            show sTbM b nn nr nt bh h = _
            unfold sTbM
            repeat (first | with_reducible rfl | refine ite_y (by omega) ?_ | refine ite_n (by omega) ?_ | unfold sTc | exact pr_e (by omega) (by omega) (by omega) | refine ite_y (pCf_ok (by omega) (by omega)) ?_ | refine ite_n (fun e9 => absurd (pCf_0 e9) (by omega)) ?_ | exact pr_e (pCf_no (by omega)) (by omega) (by omega) | exact pr_e (pCf_big (by omega) (by omega)) (by omega) (by omega))
          exact g_vret F hr hlk hH hS hz ⟨rfl, rfl, hv, hT, pf, by first | (dsimp only; omega) | omega | rfl, by (try dsimp only); exact (fun hf => absurd hf (by omega)), by (try dsimp only); exact (fun hf => absurd hf (by omega)), by (try dsimp only); rw [hfin]; exact hQ, by (try dsimp only); rw [hfin]; exact pIc_n (by omega), by (try dsimp only); rw [hfin]; exact pJm_n (by omega), by (try dsimp only); rw [hfin]; exact zIf_n (by omega), by (try dsimp only); rw [hfin]; exact zIf_n (by omega), fun b hb => q_270 b hb⟩ dX7_tableTold_78
        · exact absurd (mQ_z hQ (by omega)) (by omega)
      · refine lv_aload_n F.1 F.2.1 dX7_tableTold_18 rfl (lv_at hl 0 rfl) ?_
        refine z_bipush F dX7_tableTold_19 (by decide) ?_
        have b_271 := mJ hv hm
        unfold mNum1 at b_271
        refine g_callv (g_runV (As := [.int (iI 6)]) (rest := []) (ci := 7) F hl.1 hH hS hz (c_X7_wrongf l g gh T b nn nr nt cc 4 h I_214 R J AI AJ AR mo 6 ⟨by decide, by decide⟩ hv hm hT (by omega) h65 hbM hr7 (by omega) hn9 (by omega) hQ) (cwV 1 F.2.2.2.2.1 (good_up gT_X7_wrong) rfl rfl rfl hdX7_wrong ⟨Nat.le_of_ble_eq_true rfl, Nat.le_of_ble_eq_true rfl⟩) hm (by decide) rfl rfl rfl (Nat.le_of_ble_eq_true rfl) dX7_tableTold_21 ⟨Nat.zero_le _, Nat.zero_le _⟩) hS (fun I_272 R_273 J_274 AI_275 AJ_276 AR_277 H locs hp_278 hH hS => ?_)
        dsimp only at hp_278
        obtain ⟨r_279, er_279⟩ : ∃ qQ : pR, qQ = thn (4, h, 0) (fun t _ => (6, t, 0)) := ⟨_, rfl⟩
        rw [← er_279] at hp_278
        obtain ⟨rfl, rfl, rfl, rfl, rfl, hv, pfq, q_280, hQ⟩ := hp_278
        have pf := qF_t pf pfq
        have u_281_2 : (I_272 mo 2).toInt = (I mo 2).toInt := by rw [pf 2 (by decide) (by decide) (by decide) (by decide) (by decide)]
        have u_281_5 : (I_272 mo 5).toInt = (I mo 5).toInt := by rw [pf 5 (by decide) (by decide) (by decide) (by decide) (by decide)]
        have u_281_14 : (I_272 mo 14).toInt = (I mo 14).toInt := by rw [pf 14 (by decide) (by decide) (by decide) (by decide) (by decide)]
        have u_281_16 : (I_272 mo 16).toInt = (I mo 16).toInt := by rw [pf 16 (by decide) (by decide) (by decide) (by decide) (by decide)]
        have u_281_18 : (I_272 mo 18).toInt = (I mo 18).toInt := by rw [pf 18 (by decide) (by decide) (by decide) (by decide) (by decide)]
        rw [thn_b (by omega)] at er_279
        have hQ : mQ gh I_272 J AI AJ mo b nn nr nt cc 4 h := by rw [er_279] at hQ; exact hQ
        refine lv_aload_n F.1 F.2.1 dX7_tableTold_24 rfl (lv_at hl 0 rfl) ?_
        have b_282 := mJ hv hm
        unfold mNum1 at b_282
        refine g_callv (g_runV (As := []) (rest := []) (ci := 7) F hl.1 hH hS hz (c_X7_nextf l g gh T b nn (tNd b nn (tPs b nn h)) I_272 R J AI AJ AR mo hv hm hT (by omega) (mTp hv h65 hbM) hr7 (by omega) (by omega) (mQ_e0 hQ) tNd_le.1) (cwV 0 F.2.2.2.2.1 (good_up gT_X7_next) rfl rfl rfl hdX7_next ⟨Nat.le_of_ble_eq_true rfl, Nat.le_of_ble_eq_true rfl⟩) hm (by decide) rfl rfl rfl (Nat.le_of_ble_eq_true rfl) dX7_tableTold_25 ⟨Nat.zero_le _, Nat.zero_le _⟩) hS (fun I_283 R_284 J_285 AI_286 AJ_287 AR_288 H locs hp_289 hH hS => ?_)
        dsimp only at hp_289
        obtain ⟨rfl, rfl, rfl, rfl, hv, pfq, q_290, nx4, nxa, nxb⟩ := hp_289
        have pf := qF_t pf pfq
        have u_291_2 : (I_283 mo 2).toInt = (I mo 2).toInt := by rw [pf 2 (by decide) (by decide) (by decide) (by decide) (by decide)]
        have u_291_5 : (I_283 mo 5).toInt = (I mo 5).toInt := by rw [pf 5 (by decide) (by decide) (by decide) (by decide) (by decide)]
        have u_291_14 : (I_283 mo 14).toInt = (I mo 14).toInt := by rw [pf 14 (by decide) (by decide) (by decide) (by decide) (by decide)]
        have u_291_16 : (I_283 mo 16).toInt = (I mo 16).toInt := by rw [pf 16 (by decide) (by decide) (by decide) (by decide) (by decide)]
        have u_291_18 : (I_283 mo 18).toInt = (I mo 18).toInt := by rw [pf 18 (by decide) (by decide) (by decide) (by decide) (by decide)]
        have hQ : mQ gh I_283 J_285 AI AJ mo b nn nr nt cc 4 h := by have q9 := mQ_nx hQ nx4 nxa; rw [thn_b (by omega)] at q9; exact q9
        clear nxa nxb
        refine lv_aload_n F.1 F.2.1 dX7_tableTold_28 rfl (lv_at hl 0 rfl) ?_
        have b_292 := mJ hv hm
        unfold mNum1 at b_292
        refine g_callv (g_runV (As := []) (rest := []) (ci := 7) F hl.1 hH hS hz (c_X7_newNamef l g gh T b nn nr nt cc 4 h I_283 R J_285 AI AJ AR mo hv hm hT (by omega) (by omega) h65 hbM hr7 (by omega) hn9 (by omega) hQ) (cwV 0 F.2.2.2.2.1 (good_up gT_X7_newName) rfl rfl rfl hdX7_newName ⟨Nat.le_of_ble_eq_true rfl, Nat.le_of_ble_eq_true rfl⟩) hm (by decide) rfl rfl rfl (Nat.le_of_ble_eq_true rfl) dX7_tableTold_29 ⟨Nat.zero_le _, Nat.zero_le _⟩) hS (fun I_293 R_294 J_295 AI_296 AJ_297 AR_298 H locs hp_299 hH hS => ?_)
        dsimp only at hp_299
        obtain ⟨r_300, er_300⟩ : ∃ qQ : pR, qQ = thn (4, h, 0) (fun t _ => sNam b nn nr nt t) := ⟨_, rfl⟩
        rw [← er_300] at hp_299
        obtain ⟨rfl, rfl, rfl, hv, pfq, q_301, hQ, q_302⟩ := hp_299
        have pf := qF_t pf pfq
        have u_303_2 : (I_293 mo 2).toInt = (I mo 2).toInt := by rw [pf 2 (by decide) (by decide) (by decide) (by decide) (by decide)]
        have u_303_5 : (I_293 mo 5).toInt = (I mo 5).toInt := by rw [pf 5 (by decide) (by decide) (by decide) (by decide) (by decide)]
        have u_303_14 : (I_293 mo 14).toInt = (I mo 14).toInt := by rw [pf 14 (by decide) (by decide) (by decide) (by decide) (by decide)]
        have u_303_16 : (I_293 mo 16).toInt = (I mo 16).toInt := by rw [pf 16 (by decide) (by decide) (by decide) (by decide) (by decide)]
        have u_303_18 : (I_293 mo 18).toInt = (I mo 18).toInt := by rw [pf 18 (by decide) (by decide) (by decide) (by decide) (by decide)]
        rw [thn_b (by omega)] at er_300
        have hQ : mQ gh I_293 J_295 AI AJ_297 mo b nn nr nt cc 4 h := by rw [er_300] at hQ; exact hQ
        refine lv_aload_n F.1 F.2.1 dX7_tableTold_32 rfl (lv_at hl 0 rfl) ?_
        refine g_getI (ci := 7) (k := 24) F hH rfl (by decide) iX7 hm (by decide) rfl k81 dX7_tableTold_33 ?_
        have b_304 := mJ hv hm
        unfold mNum1 at b_304
        refine z_if_ne (tgt := 64) F dX7_tableTold_36 (by decide) (zr_t _) (fun c_305 => ?_) (fun c_305 => ?_)
        · refine lv_aload_n F.1 F.2.1 dX7_tableTold_64 rfl (lv_at hl 0 rfl) ?_
          refine g_calli (g_runV (As := []) (rest := []) (ci := 7) F hl.1 hH hS hz (c_X7_numberToldf l g gh T b nn nr nt cc 4 h I_293 R J_295 AI AJ_297 AR mo hv hm hT (by omega) h65 hbM hr7 (by omega) hn9 (by omega) hQ) (cwV 0 F.2.2.2.2.1 (good_up gT_X7_numberTold) rfl rfl rfl hdX7_numberTold ⟨Nat.le_of_ble_eq_true rfl, Nat.le_of_ble_eq_true rfl⟩) hm (by decide) rfl rfl rfl (Nat.le_of_ble_eq_true rfl) dX7_tableTold_65 ⟨Nat.zero_le _, Nat.zero_le _⟩) hS (fun v_312 I_306 R_307 J_308 AI_309 AJ_310 AR_311 H locs zv_312 hp_313 hH hS => ?_)
          dsimp only at hp_313
          obtain ⟨r_314, er_314⟩ : ∃ qQ : pR, qQ = thn (4, h, 0) (fun t _ => sNum b nn t) := ⟨_, rfl⟩
          rw [← er_314] at hp_313
          obtain ⟨rfl, rfl, rfl, rfl, hv, pfq, q_315, q_316, hQ, q_317⟩ := hp_313
          have pf := qF_t pf pfq
          have u_318_2 : (I_306 mo 2).toInt = (I mo 2).toInt := by rw [pf 2 (by decide) (by decide) (by decide) (by decide) (by decide)]
          have u_318_5 : (I_306 mo 5).toInt = (I mo 5).toInt := by rw [pf 5 (by decide) (by decide) (by decide) (by decide) (by decide)]
          have u_318_14 : (I_306 mo 14).toInt = (I mo 14).toInt := by rw [pf 14 (by decide) (by decide) (by decide) (by decide) (by decide)]
          have u_318_16 : (I_306 mo 16).toInt = (I mo 16).toInt := by rw [pf 16 (by decide) (by decide) (by decide) (by decide) (by decide)]
          have u_318_18 : (I_306 mo 18).toInt = (I mo 18).toInt := by rw [pf 18 (by decide) (by decide) (by decide) (by decide) (by decide)]
          rw [thn_b (by omega)] at er_314
          have hQ : mQ gh I_306 J_308 AI AJ_297 mo b nn nr nt cc 4 h := by rw [er_314] at hQ; exact hQ
          replace q_316 := hid q_316
          refine lv_istore_n (lv' := [(2, .int (iI v_312)), (0, .ref mo), (1, .int (iI bh))]) F.1 F.2.1 dX7_tableTold_68 rfl hl (by decide) rfl (fun ls hl => ?_)
          refine lv_aload_n F.1 F.2.1 dX7_tableTold_69 rfl (lv_at hl 1 rfl) ?_
          refine z_iconst F dX7_tableTold_70 ?_
          refine lv_iload_n F.1 F.2.1 dX7_tableTold_71 rfl (lv_at hl 0 rfl) ?_
          refine z_iconst F dX7_tableTold_72 ?_
          refine z_iconst F dX7_tableTold_73 ?_
          refine z_iconst F dX7_tableTold_74 ?_
          have b_319 := mJ hv hm
          unfold mNum1 at b_319
          refine g_callv (g_runV (As := [.int (iI 0), .int (iI v_312), .int (iI ((-1))), .int (iI ((-1))), .int (iI 0)]) (rest := []) (ci := 7) F hl.1 hH hS hz (c_X7_headerg l g gh T M I_306 R J_308 AI AJ_297 AR mo 0 v_312 (-1) (-1) 0 ⟨by decide, by decide⟩ zv_312 ⟨by decide, by decide⟩ ⟨by decide, by decide⟩ ⟨by decide, by decide⟩ hv hm hT (by omega) (by omega)) (cwV 5 F.2.2.2.2.1 (good_up gT_X7_header) rfl rfl rfl hdX7_header ⟨Nat.le_of_ble_eq_true rfl, Nat.le_of_ble_eq_true rfl⟩) hm (by decide) rfl rfl rfl (Nat.le_of_ble_eq_true rfl) dX7_tableTold_75 ⟨Nat.zero_le _, Nat.zero_le _⟩) hS (fun I_320 R_321 J_322 AI_323 AJ_324 AR_325 H locs hp_326 hH hS => ?_)
          dsimp only at hp_326
          obtain ⟨rfl, rfl, rfl, rfl, rfl, hv, hT, hhd, q_327⟩ := hp_326
          replace hhd := hid hhd
          have hQ : mQ gh I_306 J_308 AI_323 AJ_297 mo b nn nr nt cc 4 h := mQ_bad hQ (by omega) rfl
          have hfin : thn (f, h, 0) (fun t _ => sTbM b nn nr nt bh t) = (4, h, 0) := by
            refine (thn_k q0).trans ?_
            show sTbM b nn nr nt bh h = _
            unfold sTbM
            repeat (first | with_reducible rfl | refine ite_y (by omega) ?_ | refine ite_n (by omega) ?_ | unfold sTc | exact pr_e (by omega) (by omega) (by omega) | refine ite_y (pCf_ok (by omega) (by omega)) ?_ | refine ite_n (fun e9 => absurd (pCf_0 e9) (by omega)) ?_ | exact pr_e (pCf_no (by omega)) (by omega) (by omega) | exact pr_e (pCf_big (by omega) (by omega)) (by omega) (by omega))
          exact g_vret F hr hlk hH hS hz ⟨rfl, rfl, hv, hT, pf, by first | (dsimp only; omega) | omega | rfl, by (try dsimp only); exact (fun hf => absurd hf (by omega)), by (try dsimp only); exact (fun hf => absurd hf (by omega)), by (try dsimp only); rw [hfin]; exact hQ, by (try dsimp only); rw [hfin]; exact pIc_n (by omega), by (try dsimp only); rw [hfin]; exact pJm_n (by omega), by (try dsimp only); rw [hfin]; exact zIf_n (by omega), by (try dsimp only); rw [hfin]; exact zIf_n (by omega), fun b hb => q_327 b hb⟩ dX7_tableTold_78
        · exact absurd (mQ_z hQ (by omega)) (by omega)
  · have hf1 := mQ_f hQ q0
    refine lv_aload_n F.1 F.2.1 dX7_tableTold_0 rfl (lv_at hl 0 rfl) ?_
    refine g_getI (ci := 7) (k := 5) F hH rfl (by decide) iX7 hm (by decide) rfl k184 dX7_tableTold_1 ?_
    have b_328 := mJ hv hm
    unfold mNum1 at b_328
    refine z_bipush F dX7_tableTold_4 (by decide) ?_
    refine z_icmp_ne (tgt := 14) F dX7_tableTold_6 (by decide) (zr_t _) ⟨by decide, by decide⟩ (fun c_329 => ?_) (fun c_329 => ?_)
    · refine lv_iload_n F.1 F.2.1 dX7_tableTold_14 rfl (lv_at hl 1 rfl) ?_
      refine z_if_eq (tgt := 24) F dX7_tableTold_15 (by decide) zbh (fun c_330 => ?_) (fun c_330 => ?_)
      · refine lv_aload_n F.1 F.2.1 dX7_tableTold_24 rfl (lv_at hl 0 rfl) ?_
        refine g_callv (g_runV (As := []) (rest := []) (ci := 7) F hl.1 hH hS hz (c_X7_nextf l g gh T b nn (tNd b nn (tPs b nn h)) I R J AI AJ AR mo hv hm hT (by omega) (mTp hv h65 hbM) hr7 (by omega) (by omega) (mQ_e0 hQ) tNd_le.1) (cwV 0 F.2.2.2.2.1 (good_up gT_X7_next) rfl rfl rfl hdX7_next ⟨Nat.le_of_ble_eq_true rfl, Nat.le_of_ble_eq_true rfl⟩) hm (by decide) rfl rfl rfl (Nat.le_of_ble_eq_true rfl) dX7_tableTold_25 ⟨Nat.zero_le _, Nat.zero_le _⟩) hS (fun I_331 R_332 J_333 AI_334 AJ_335 AR_336 H locs hp_337 hH hS => ?_)
        dsimp only at hp_337
        obtain ⟨rfl, rfl, rfl, rfl, hv, pfq, q_338, nx4, nxa, nxb⟩ := hp_337
        have pf := qF_t pf pfq
        have u_339_2 : (I_331 mo 2).toInt = (I mo 2).toInt := by rw [pf 2 (by decide) (by decide) (by decide) (by decide) (by decide)]
        have u_339_5 : (I_331 mo 5).toInt = (I mo 5).toInt := by rw [pf 5 (by decide) (by decide) (by decide) (by decide) (by decide)]
        have u_339_14 : (I_331 mo 14).toInt = (I mo 14).toInt := by rw [pf 14 (by decide) (by decide) (by decide) (by decide) (by decide)]
        have u_339_16 : (I_331 mo 16).toInt = (I mo 16).toInt := by rw [pf 16 (by decide) (by decide) (by decide) (by decide) (by decide)]
        have u_339_18 : (I_331 mo 18).toInt = (I mo 18).toInt := by rw [pf 18 (by decide) (by decide) (by decide) (by decide) (by decide)]
        have hQ : mQ gh I_331 J_333 AI AJ mo b nn nr nt cc f h := by have q9 := mQ_nx hQ nx4 nxa; rw [thn_b (by omega)] at q9; exact q9
        clear nxa nxb
        refine lv_aload_n F.1 F.2.1 dX7_tableTold_28 rfl (lv_at hl 0 rfl) ?_
        have b_340 := mJ hv hm
        unfold mNum1 at b_340
        refine g_callv (g_runV (As := []) (rest := []) (ci := 7) F hl.1 hH hS hz (c_X7_newNamef l g gh T b nn nr nt cc f h I_331 R J_333 AI AJ AR mo hv hm hT (by omega) (by omega) h65 hbM hr7 (by omega) hn9 (by omega) hQ) (cwV 0 F.2.2.2.2.1 (good_up gT_X7_newName) rfl rfl rfl hdX7_newName ⟨Nat.le_of_ble_eq_true rfl, Nat.le_of_ble_eq_true rfl⟩) hm (by decide) rfl rfl rfl (Nat.le_of_ble_eq_true rfl) dX7_tableTold_29 ⟨Nat.zero_le _, Nat.zero_le _⟩) hS (fun I_341 R_342 J_343 AI_344 AJ_345 AR_346 H locs hp_347 hH hS => ?_)
        dsimp only at hp_347
        obtain ⟨r_348, er_348⟩ : ∃ qQ : pR, qQ = thn (f, h, 0) (fun t _ => sNam b nn nr nt t) := ⟨_, rfl⟩
        rw [← er_348] at hp_347
        obtain ⟨rfl, rfl, rfl, hv, pfq, q_349, hQ, q_350⟩ := hp_347
        have pf := qF_t pf pfq
        have u_351_2 : (I_341 mo 2).toInt = (I mo 2).toInt := by rw [pf 2 (by decide) (by decide) (by decide) (by decide) (by decide)]
        have u_351_5 : (I_341 mo 5).toInt = (I mo 5).toInt := by rw [pf 5 (by decide) (by decide) (by decide) (by decide) (by decide)]
        have u_351_14 : (I_341 mo 14).toInt = (I mo 14).toInt := by rw [pf 14 (by decide) (by decide) (by decide) (by decide) (by decide)]
        have u_351_16 : (I_341 mo 16).toInt = (I mo 16).toInt := by rw [pf 16 (by decide) (by decide) (by decide) (by decide) (by decide)]
        have u_351_18 : (I_341 mo 18).toInt = (I mo 18).toInt := by rw [pf 18 (by decide) (by decide) (by decide) (by decide) (by decide)]
        rw [thn_b (by omega)] at er_348
        have hQ : mQ gh I_341 J_343 AI AJ_345 mo b nn nr nt cc f h := by rw [er_348] at hQ; exact hQ
        refine lv_aload_n F.1 F.2.1 dX7_tableTold_32 rfl (lv_at hl 0 rfl) ?_
        refine g_getI (ci := 7) (k := 24) F hH rfl (by decide) iX7 hm (by decide) rfl k81 dX7_tableTold_33 ?_
        have b_352 := mJ hv hm
        unfold mNum1 at b_352
        refine z_if_ne (tgt := 64) F dX7_tableTold_36 (by decide) (zr_t _) (fun c_353 => ?_) (fun c_353 => ?_)
        · refine lv_aload_n F.1 F.2.1 dX7_tableTold_64 rfl (lv_at hl 0 rfl) ?_
          refine g_calli (g_runV (As := []) (rest := []) (ci := 7) F hl.1 hH hS hz (c_X7_numberToldf l g gh T b nn nr nt cc f h I_341 R J_343 AI AJ_345 AR mo hv hm hT (by omega) h65 hbM hr7 (by omega) hn9 (by omega) hQ) (cwV 0 F.2.2.2.2.1 (good_up gT_X7_numberTold) rfl rfl rfl hdX7_numberTold ⟨Nat.le_of_ble_eq_true rfl, Nat.le_of_ble_eq_true rfl⟩) hm (by decide) rfl rfl rfl (Nat.le_of_ble_eq_true rfl) dX7_tableTold_65 ⟨Nat.zero_le _, Nat.zero_le _⟩) hS (fun v_360 I_354 R_355 J_356 AI_357 AJ_358 AR_359 H locs zv_360 hp_361 hH hS => ?_)
          dsimp only at hp_361
          obtain ⟨r_362, er_362⟩ : ∃ qQ : pR, qQ = thn (f, h, 0) (fun t _ => sNum b nn t) := ⟨_, rfl⟩
          rw [← er_362] at hp_361
          obtain ⟨rfl, rfl, rfl, rfl, hv, pfq, q_363, q_364, hQ, q_365⟩ := hp_361
          have pf := qF_t pf pfq
          have u_366_2 : (I_354 mo 2).toInt = (I mo 2).toInt := by rw [pf 2 (by decide) (by decide) (by decide) (by decide) (by decide)]
          have u_366_5 : (I_354 mo 5).toInt = (I mo 5).toInt := by rw [pf 5 (by decide) (by decide) (by decide) (by decide) (by decide)]
          have u_366_14 : (I_354 mo 14).toInt = (I mo 14).toInt := by rw [pf 14 (by decide) (by decide) (by decide) (by decide) (by decide)]
          have u_366_16 : (I_354 mo 16).toInt = (I mo 16).toInt := by rw [pf 16 (by decide) (by decide) (by decide) (by decide) (by decide)]
          have u_366_18 : (I_354 mo 18).toInt = (I mo 18).toInt := by rw [pf 18 (by decide) (by decide) (by decide) (by decide) (by decide)]
          rw [thn_b (by omega)] at er_362
          have hQ : mQ gh I_354 J_356 AI AJ_345 mo b nn nr nt cc f h := by rw [er_362] at hQ; exact hQ
          replace q_364 := hid q_364
          refine lv_istore_n (lv' := [(2, .int (iI v_360)), (0, .ref mo), (1, .int (iI bh))]) F.1 F.2.1 dX7_tableTold_68 rfl hl (by decide) rfl (fun ls hl => ?_)
          refine lv_aload_n F.1 F.2.1 dX7_tableTold_69 rfl (lv_at hl 1 rfl) ?_
          refine z_iconst F dX7_tableTold_70 ?_
          refine lv_iload_n F.1 F.2.1 dX7_tableTold_71 rfl (lv_at hl 0 rfl) ?_
          refine z_iconst F dX7_tableTold_72 ?_
          refine z_iconst F dX7_tableTold_73 ?_
          refine z_iconst F dX7_tableTold_74 ?_
          have b_367 := mJ hv hm
          unfold mNum1 at b_367
          refine g_callv (g_runV (As := [.int (iI 0), .int (iI v_360), .int (iI ((-1))), .int (iI ((-1))), .int (iI 0)]) (rest := []) (ci := 7) F hl.1 hH hS hz (c_X7_headerg l g gh T M I_354 R J_356 AI AJ_345 AR mo 0 v_360 (-1) (-1) 0 ⟨by decide, by decide⟩ zv_360 ⟨by decide, by decide⟩ ⟨by decide, by decide⟩ ⟨by decide, by decide⟩ hv hm hT (by omega) (by omega)) (cwV 5 F.2.2.2.2.1 (good_up gT_X7_header) rfl rfl rfl hdX7_header ⟨Nat.le_of_ble_eq_true rfl, Nat.le_of_ble_eq_true rfl⟩) hm (by decide) rfl rfl rfl (Nat.le_of_ble_eq_true rfl) dX7_tableTold_75 ⟨Nat.zero_le _, Nat.zero_le _⟩) hS (fun I_368 R_369 J_370 AI_371 AJ_372 AR_373 H locs hp_374 hH hS => ?_)
          dsimp only at hp_374
          obtain ⟨rfl, rfl, rfl, rfl, rfl, hv, hT, hhd, q_375⟩ := hp_374
          replace hhd := hid hhd
          have hQ : mQ gh I_354 J_356 AI_371 AJ_345 mo b nn nr nt cc f h := mQ_bad hQ (by omega) rfl
          have hfin : thn (f, h, 0) (fun t _ => sTbM b nn nr nt bh t) = (f, h, 0) := thn_b q0
          exact g_vret F hr hlk hH hS hz ⟨rfl, rfl, hv, hT, pf, by first | (dsimp only; omega) | omega | rfl, by (try dsimp only); exact (fun hf => absurd hf (by omega)), by (try dsimp only); exact (fun hf => absurd hf (by omega)), by (try dsimp only); rw [hfin]; exact hQ, by (try dsimp only); rw [hfin]; exact pIc_n (by omega), by (try dsimp only); rw [hfin]; exact pJm_n (by omega), by (try dsimp only); rw [hfin]; exact zIf_n (by omega), by (try dsimp only); rw [hfin]; exact zIf_n (by omega), fun b hb => q_375 b hb⟩ dX7_tableTold_78
        · exact absurd (mQ_z hQ (by omega)) (by omega)
      · refine lv_aload_n F.1 F.2.1 dX7_tableTold_18 rfl (lv_at hl 0 rfl) ?_
        refine z_bipush F dX7_tableTold_19 (by decide) ?_
        refine g_callv (g_runV (As := [.int (iI 6)]) (rest := []) (ci := 7) F hl.1 hH hS hz (c_X7_wrongf l g gh T b nn nr nt cc f h I R J AI AJ AR mo 6 ⟨by decide, by decide⟩ hv hm hT (by omega) h65 hbM hr7 (by omega) hn9 (by omega) hQ) (cwV 1 F.2.2.2.2.1 (good_up gT_X7_wrong) rfl rfl rfl hdX7_wrong ⟨Nat.le_of_ble_eq_true rfl, Nat.le_of_ble_eq_true rfl⟩) hm (by decide) rfl rfl rfl (Nat.le_of_ble_eq_true rfl) dX7_tableTold_21 ⟨Nat.zero_le _, Nat.zero_le _⟩) hS (fun I_376 R_377 J_378 AI_379 AJ_380 AR_381 H locs hp_382 hH hS => ?_)
        dsimp only at hp_382
        obtain ⟨r_383, er_383⟩ : ∃ qQ : pR, qQ = thn (f, h, 0) (fun t _ => (6, t, 0)) := ⟨_, rfl⟩
        rw [← er_383] at hp_382
        obtain ⟨rfl, rfl, rfl, rfl, rfl, hv, pfq, q_384, hQ⟩ := hp_382
        have pf := qF_t pf pfq
        have u_385_2 : (I_376 mo 2).toInt = (I mo 2).toInt := by rw [pf 2 (by decide) (by decide) (by decide) (by decide) (by decide)]
        have u_385_5 : (I_376 mo 5).toInt = (I mo 5).toInt := by rw [pf 5 (by decide) (by decide) (by decide) (by decide) (by decide)]
        have u_385_14 : (I_376 mo 14).toInt = (I mo 14).toInt := by rw [pf 14 (by decide) (by decide) (by decide) (by decide) (by decide)]
        have u_385_16 : (I_376 mo 16).toInt = (I mo 16).toInt := by rw [pf 16 (by decide) (by decide) (by decide) (by decide) (by decide)]
        have u_385_18 : (I_376 mo 18).toInt = (I mo 18).toInt := by rw [pf 18 (by decide) (by decide) (by decide) (by decide) (by decide)]
        rw [thn_b (by omega)] at er_383
        have hQ : mQ gh I_376 J AI AJ mo b nn nr nt cc f h := by rw [er_383] at hQ; exact hQ
        refine lv_aload_n F.1 F.2.1 dX7_tableTold_24 rfl (lv_at hl 0 rfl) ?_
        have b_386 := mJ hv hm
        unfold mNum1 at b_386
        refine g_callv (g_runV (As := []) (rest := []) (ci := 7) F hl.1 hH hS hz (c_X7_nextf l g gh T b nn (tNd b nn (tPs b nn h)) I_376 R J AI AJ AR mo hv hm hT (by omega) (mTp hv h65 hbM) hr7 (by omega) (by omega) (mQ_e0 hQ) tNd_le.1) (cwV 0 F.2.2.2.2.1 (good_up gT_X7_next) rfl rfl rfl hdX7_next ⟨Nat.le_of_ble_eq_true rfl, Nat.le_of_ble_eq_true rfl⟩) hm (by decide) rfl rfl rfl (Nat.le_of_ble_eq_true rfl) dX7_tableTold_25 ⟨Nat.zero_le _, Nat.zero_le _⟩) hS (fun I_387 R_388 J_389 AI_390 AJ_391 AR_392 H locs hp_393 hH hS => ?_)
        dsimp only at hp_393
        obtain ⟨rfl, rfl, rfl, rfl, hv, pfq, q_394, nx4, nxa, nxb⟩ := hp_393
        have pf := qF_t pf pfq
        have u_395_2 : (I_387 mo 2).toInt = (I mo 2).toInt := by rw [pf 2 (by decide) (by decide) (by decide) (by decide) (by decide)]
        have u_395_5 : (I_387 mo 5).toInt = (I mo 5).toInt := by rw [pf 5 (by decide) (by decide) (by decide) (by decide) (by decide)]
        have u_395_14 : (I_387 mo 14).toInt = (I mo 14).toInt := by rw [pf 14 (by decide) (by decide) (by decide) (by decide) (by decide)]
        have u_395_16 : (I_387 mo 16).toInt = (I mo 16).toInt := by rw [pf 16 (by decide) (by decide) (by decide) (by decide) (by decide)]
        have u_395_18 : (I_387 mo 18).toInt = (I mo 18).toInt := by rw [pf 18 (by decide) (by decide) (by decide) (by decide) (by decide)]
        have hQ : mQ gh I_387 J_389 AI AJ mo b nn nr nt cc f h := by have q9 := mQ_nx hQ nx4 nxa; rw [thn_b (by omega)] at q9; exact q9
        clear nxa nxb
        refine lv_aload_n F.1 F.2.1 dX7_tableTold_28 rfl (lv_at hl 0 rfl) ?_
        have b_396 := mJ hv hm
        unfold mNum1 at b_396
        refine g_callv (g_runV (As := []) (rest := []) (ci := 7) F hl.1 hH hS hz (c_X7_newNamef l g gh T b nn nr nt cc f h I_387 R J_389 AI AJ AR mo hv hm hT (by omega) (by omega) h65 hbM hr7 (by omega) hn9 (by omega) hQ) (cwV 0 F.2.2.2.2.1 (good_up gT_X7_newName) rfl rfl rfl hdX7_newName ⟨Nat.le_of_ble_eq_true rfl, Nat.le_of_ble_eq_true rfl⟩) hm (by decide) rfl rfl rfl (Nat.le_of_ble_eq_true rfl) dX7_tableTold_29 ⟨Nat.zero_le _, Nat.zero_le _⟩) hS (fun I_397 R_398 J_399 AI_400 AJ_401 AR_402 H locs hp_403 hH hS => ?_)
        dsimp only at hp_403
        obtain ⟨r_404, er_404⟩ : ∃ qQ : pR, qQ = thn (f, h, 0) (fun t _ => sNam b nn nr nt t) := ⟨_, rfl⟩
        rw [← er_404] at hp_403
        obtain ⟨rfl, rfl, rfl, hv, pfq, q_405, hQ, q_406⟩ := hp_403
        have pf := qF_t pf pfq
        have u_407_2 : (I_397 mo 2).toInt = (I mo 2).toInt := by rw [pf 2 (by decide) (by decide) (by decide) (by decide) (by decide)]
        have u_407_5 : (I_397 mo 5).toInt = (I mo 5).toInt := by rw [pf 5 (by decide) (by decide) (by decide) (by decide) (by decide)]
        have u_407_14 : (I_397 mo 14).toInt = (I mo 14).toInt := by rw [pf 14 (by decide) (by decide) (by decide) (by decide) (by decide)]
        have u_407_16 : (I_397 mo 16).toInt = (I mo 16).toInt := by rw [pf 16 (by decide) (by decide) (by decide) (by decide) (by decide)]
        have u_407_18 : (I_397 mo 18).toInt = (I mo 18).toInt := by rw [pf 18 (by decide) (by decide) (by decide) (by decide) (by decide)]
        rw [thn_b (by omega)] at er_404
        have hQ : mQ gh I_397 J_399 AI AJ_401 mo b nn nr nt cc f h := by rw [er_404] at hQ; exact hQ
        refine lv_aload_n F.1 F.2.1 dX7_tableTold_32 rfl (lv_at hl 0 rfl) ?_
        refine g_getI (ci := 7) (k := 24) F hH rfl (by decide) iX7 hm (by decide) rfl k81 dX7_tableTold_33 ?_
        have b_408 := mJ hv hm
        unfold mNum1 at b_408
        refine z_if_ne (tgt := 64) F dX7_tableTold_36 (by decide) (zr_t _) (fun c_409 => ?_) (fun c_409 => ?_)
        · refine lv_aload_n F.1 F.2.1 dX7_tableTold_64 rfl (lv_at hl 0 rfl) ?_
          refine g_calli (g_runV (As := []) (rest := []) (ci := 7) F hl.1 hH hS hz (c_X7_numberToldf l g gh T b nn nr nt cc f h I_397 R J_399 AI AJ_401 AR mo hv hm hT (by omega) h65 hbM hr7 (by omega) hn9 (by omega) hQ) (cwV 0 F.2.2.2.2.1 (good_up gT_X7_numberTold) rfl rfl rfl hdX7_numberTold ⟨Nat.le_of_ble_eq_true rfl, Nat.le_of_ble_eq_true rfl⟩) hm (by decide) rfl rfl rfl (Nat.le_of_ble_eq_true rfl) dX7_tableTold_65 ⟨Nat.zero_le _, Nat.zero_le _⟩) hS (fun v_416 I_410 R_411 J_412 AI_413 AJ_414 AR_415 H locs zv_416 hp_417 hH hS => ?_)
          dsimp only at hp_417
          obtain ⟨r_418, er_418⟩ : ∃ qQ : pR, qQ = thn (f, h, 0) (fun t _ => sNum b nn t) := ⟨_, rfl⟩
          rw [← er_418] at hp_417
          obtain ⟨rfl, rfl, rfl, rfl, hv, pfq, q_419, q_420, hQ, q_421⟩ := hp_417
          have pf := qF_t pf pfq
          have u_422_2 : (I_410 mo 2).toInt = (I mo 2).toInt := by rw [pf 2 (by decide) (by decide) (by decide) (by decide) (by decide)]
          have u_422_5 : (I_410 mo 5).toInt = (I mo 5).toInt := by rw [pf 5 (by decide) (by decide) (by decide) (by decide) (by decide)]
          have u_422_14 : (I_410 mo 14).toInt = (I mo 14).toInt := by rw [pf 14 (by decide) (by decide) (by decide) (by decide) (by decide)]
          have u_422_16 : (I_410 mo 16).toInt = (I mo 16).toInt := by rw [pf 16 (by decide) (by decide) (by decide) (by decide) (by decide)]
          have u_422_18 : (I_410 mo 18).toInt = (I mo 18).toInt := by rw [pf 18 (by decide) (by decide) (by decide) (by decide) (by decide)]
          rw [thn_b (by omega)] at er_418
          have hQ : mQ gh I_410 J_412 AI AJ_401 mo b nn nr nt cc f h := by rw [er_418] at hQ; exact hQ
          replace q_420 := hid q_420
          refine lv_istore_n (lv' := [(2, .int (iI v_416)), (0, .ref mo), (1, .int (iI bh))]) F.1 F.2.1 dX7_tableTold_68 rfl hl (by decide) rfl (fun ls hl => ?_)
          refine lv_aload_n F.1 F.2.1 dX7_tableTold_69 rfl (lv_at hl 1 rfl) ?_
          refine z_iconst F dX7_tableTold_70 ?_
          refine lv_iload_n F.1 F.2.1 dX7_tableTold_71 rfl (lv_at hl 0 rfl) ?_
          refine z_iconst F dX7_tableTold_72 ?_
          refine z_iconst F dX7_tableTold_73 ?_
          refine z_iconst F dX7_tableTold_74 ?_
          have b_423 := mJ hv hm
          unfold mNum1 at b_423
          refine g_callv (g_runV (As := [.int (iI 0), .int (iI v_416), .int (iI ((-1))), .int (iI ((-1))), .int (iI 0)]) (rest := []) (ci := 7) F hl.1 hH hS hz (c_X7_headerg l g gh T M I_410 R J_412 AI AJ_401 AR mo 0 v_416 (-1) (-1) 0 ⟨by decide, by decide⟩ zv_416 ⟨by decide, by decide⟩ ⟨by decide, by decide⟩ ⟨by decide, by decide⟩ hv hm hT (by omega) (by omega)) (cwV 5 F.2.2.2.2.1 (good_up gT_X7_header) rfl rfl rfl hdX7_header ⟨Nat.le_of_ble_eq_true rfl, Nat.le_of_ble_eq_true rfl⟩) hm (by decide) rfl rfl rfl (Nat.le_of_ble_eq_true rfl) dX7_tableTold_75 ⟨Nat.zero_le _, Nat.zero_le _⟩) hS (fun I_424 R_425 J_426 AI_427 AJ_428 AR_429 H locs hp_430 hH hS => ?_)
          dsimp only at hp_430
          obtain ⟨rfl, rfl, rfl, rfl, rfl, hv, hT, hhd, q_431⟩ := hp_430
          replace hhd := hid hhd
          have hQ : mQ gh I_410 J_412 AI_427 AJ_401 mo b nn nr nt cc f h := mQ_bad hQ (by omega) rfl
          have hfin : thn (f, h, 0) (fun t _ => sTbM b nn nr nt bh t) = (f, h, 0) := thn_b q0
          exact g_vret F hr hlk hH hS hz ⟨rfl, rfl, hv, hT, pf, by first | (dsimp only; omega) | omega | rfl, by (try dsimp only); exact (fun hf => absurd hf (by omega)), by (try dsimp only); exact (fun hf => absurd hf (by omega)), by (try dsimp only); rw [hfin]; exact hQ, by (try dsimp only); rw [hfin]; exact pIc_n (by omega), by (try dsimp only); rw [hfin]; exact pJm_n (by omega), by (try dsimp only); rw [hfin]; exact zIf_n (by omega), by (try dsimp only); rw [hfin]; exact zIf_n (by omega), fun b hb => q_431 b hb⟩ dX7_tableTold_78
        · exact absurd (mQ_z hQ (by omega)) (by omega)
    · refine lv_aload_n F.1 F.2.1 dX7_tableTold_9 rfl (lv_at hl 0 rfl) ?_
      refine z_iconst F dX7_tableTold_10 ?_
      refine g_callv (g_runV (As := [.int (iI 4)]) (rest := []) (ci := 7) F hl.1 hH hS hz (c_X7_wrongf l g gh T b nn nr nt cc f h I R J AI AJ AR mo 4 ⟨by decide, by decide⟩ hv hm hT (by omega) h65 hbM hr7 (by omega) hn9 (by omega) hQ) (cwV 1 F.2.2.2.2.1 (good_up gT_X7_wrong) rfl rfl rfl hdX7_wrong ⟨Nat.le_of_ble_eq_true rfl, Nat.le_of_ble_eq_true rfl⟩) hm (by decide) rfl rfl rfl (Nat.le_of_ble_eq_true rfl) dX7_tableTold_11 ⟨Nat.zero_le _, Nat.zero_le _⟩) hS (fun I_432 R_433 J_434 AI_435 AJ_436 AR_437 H locs hp_438 hH hS => ?_)
      dsimp only at hp_438
      obtain ⟨r_439, er_439⟩ : ∃ qQ : pR, qQ = thn (f, h, 0) (fun t _ => (4, t, 0)) := ⟨_, rfl⟩
      rw [← er_439] at hp_438
      obtain ⟨rfl, rfl, rfl, rfl, rfl, hv, pfq, q_440, hQ⟩ := hp_438
      have pf := qF_t pf pfq
      have u_441_2 : (I_432 mo 2).toInt = (I mo 2).toInt := by rw [pf 2 (by decide) (by decide) (by decide) (by decide) (by decide)]
      have u_441_5 : (I_432 mo 5).toInt = (I mo 5).toInt := by rw [pf 5 (by decide) (by decide) (by decide) (by decide) (by decide)]
      have u_441_14 : (I_432 mo 14).toInt = (I mo 14).toInt := by rw [pf 14 (by decide) (by decide) (by decide) (by decide) (by decide)]
      have u_441_16 : (I_432 mo 16).toInt = (I mo 16).toInt := by rw [pf 16 (by decide) (by decide) (by decide) (by decide) (by decide)]
      have u_441_18 : (I_432 mo 18).toInt = (I mo 18).toInt := by rw [pf 18 (by decide) (by decide) (by decide) (by decide) (by decide)]
      rw [thn_b (by omega)] at er_439
      have hQ : mQ gh I_432 J AI AJ mo b nn nr nt cc f h := by rw [er_439] at hQ; exact hQ
      refine lv_iload_n F.1 F.2.1 dX7_tableTold_14 rfl (lv_at hl 1 rfl) ?_
      refine z_if_eq (tgt := 24) F dX7_tableTold_15 (by decide) zbh (fun c_442 => ?_) (fun c_442 => ?_)
      · refine lv_aload_n F.1 F.2.1 dX7_tableTold_24 rfl (lv_at hl 0 rfl) ?_
        have b_443 := mJ hv hm
        unfold mNum1 at b_443
        refine g_callv (g_runV (As := []) (rest := []) (ci := 7) F hl.1 hH hS hz (c_X7_nextf l g gh T b nn (tNd b nn (tPs b nn h)) I_432 R J AI AJ AR mo hv hm hT (by omega) (mTp hv h65 hbM) hr7 (by omega) (by omega) (mQ_e0 hQ) tNd_le.1) (cwV 0 F.2.2.2.2.1 (good_up gT_X7_next) rfl rfl rfl hdX7_next ⟨Nat.le_of_ble_eq_true rfl, Nat.le_of_ble_eq_true rfl⟩) hm (by decide) rfl rfl rfl (Nat.le_of_ble_eq_true rfl) dX7_tableTold_25 ⟨Nat.zero_le _, Nat.zero_le _⟩) hS (fun I_444 R_445 J_446 AI_447 AJ_448 AR_449 H locs hp_450 hH hS => ?_)
        dsimp only at hp_450
        obtain ⟨rfl, rfl, rfl, rfl, hv, pfq, q_451, nx4, nxa, nxb⟩ := hp_450
        have pf := qF_t pf pfq
        have u_452_2 : (I_444 mo 2).toInt = (I mo 2).toInt := by rw [pf 2 (by decide) (by decide) (by decide) (by decide) (by decide)]
        have u_452_5 : (I_444 mo 5).toInt = (I mo 5).toInt := by rw [pf 5 (by decide) (by decide) (by decide) (by decide) (by decide)]
        have u_452_14 : (I_444 mo 14).toInt = (I mo 14).toInt := by rw [pf 14 (by decide) (by decide) (by decide) (by decide) (by decide)]
        have u_452_16 : (I_444 mo 16).toInt = (I mo 16).toInt := by rw [pf 16 (by decide) (by decide) (by decide) (by decide) (by decide)]
        have u_452_18 : (I_444 mo 18).toInt = (I mo 18).toInt := by rw [pf 18 (by decide) (by decide) (by decide) (by decide) (by decide)]
        have hQ : mQ gh I_444 J_446 AI AJ mo b nn nr nt cc f h := by have q9 := mQ_nx hQ nx4 nxa; rw [thn_b (by omega)] at q9; exact q9
        clear nxa nxb
        refine lv_aload_n F.1 F.2.1 dX7_tableTold_28 rfl (lv_at hl 0 rfl) ?_
        have b_453 := mJ hv hm
        unfold mNum1 at b_453
        refine g_callv (g_runV (As := []) (rest := []) (ci := 7) F hl.1 hH hS hz (c_X7_newNamef l g gh T b nn nr nt cc f h I_444 R J_446 AI AJ AR mo hv hm hT (by omega) (by omega) h65 hbM hr7 (by omega) hn9 (by omega) hQ) (cwV 0 F.2.2.2.2.1 (good_up gT_X7_newName) rfl rfl rfl hdX7_newName ⟨Nat.le_of_ble_eq_true rfl, Nat.le_of_ble_eq_true rfl⟩) hm (by decide) rfl rfl rfl (Nat.le_of_ble_eq_true rfl) dX7_tableTold_29 ⟨Nat.zero_le _, Nat.zero_le _⟩) hS (fun I_454 R_455 J_456 AI_457 AJ_458 AR_459 H locs hp_460 hH hS => ?_)
        dsimp only at hp_460
        obtain ⟨r_461, er_461⟩ : ∃ qQ : pR, qQ = thn (f, h, 0) (fun t _ => sNam b nn nr nt t) := ⟨_, rfl⟩
        rw [← er_461] at hp_460
        obtain ⟨rfl, rfl, rfl, hv, pfq, q_462, hQ, q_463⟩ := hp_460
        have pf := qF_t pf pfq
        have u_464_2 : (I_454 mo 2).toInt = (I mo 2).toInt := by rw [pf 2 (by decide) (by decide) (by decide) (by decide) (by decide)]
        have u_464_5 : (I_454 mo 5).toInt = (I mo 5).toInt := by rw [pf 5 (by decide) (by decide) (by decide) (by decide) (by decide)]
        have u_464_14 : (I_454 mo 14).toInt = (I mo 14).toInt := by rw [pf 14 (by decide) (by decide) (by decide) (by decide) (by decide)]
        have u_464_16 : (I_454 mo 16).toInt = (I mo 16).toInt := by rw [pf 16 (by decide) (by decide) (by decide) (by decide) (by decide)]
        have u_464_18 : (I_454 mo 18).toInt = (I mo 18).toInt := by rw [pf 18 (by decide) (by decide) (by decide) (by decide) (by decide)]
        rw [thn_b (by omega)] at er_461
        have hQ : mQ gh I_454 J_456 AI AJ_458 mo b nn nr nt cc f h := by rw [er_461] at hQ; exact hQ
        refine lv_aload_n F.1 F.2.1 dX7_tableTold_32 rfl (lv_at hl 0 rfl) ?_
        refine g_getI (ci := 7) (k := 24) F hH rfl (by decide) iX7 hm (by decide) rfl k81 dX7_tableTold_33 ?_
        have b_465 := mJ hv hm
        unfold mNum1 at b_465
        refine z_if_ne (tgt := 64) F dX7_tableTold_36 (by decide) (zr_t _) (fun c_466 => ?_) (fun c_466 => ?_)
        · refine lv_aload_n F.1 F.2.1 dX7_tableTold_64 rfl (lv_at hl 0 rfl) ?_
          refine g_calli (g_runV (As := []) (rest := []) (ci := 7) F hl.1 hH hS hz (c_X7_numberToldf l g gh T b nn nr nt cc f h I_454 R J_456 AI AJ_458 AR mo hv hm hT (by omega) h65 hbM hr7 (by omega) hn9 (by omega) hQ) (cwV 0 F.2.2.2.2.1 (good_up gT_X7_numberTold) rfl rfl rfl hdX7_numberTold ⟨Nat.le_of_ble_eq_true rfl, Nat.le_of_ble_eq_true rfl⟩) hm (by decide) rfl rfl rfl (Nat.le_of_ble_eq_true rfl) dX7_tableTold_65 ⟨Nat.zero_le _, Nat.zero_le _⟩) hS (fun v_473 I_467 R_468 J_469 AI_470 AJ_471 AR_472 H locs zv_473 hp_474 hH hS => ?_)
          dsimp only at hp_474
          obtain ⟨r_475, er_475⟩ : ∃ qQ : pR, qQ = thn (f, h, 0) (fun t _ => sNum b nn t) := ⟨_, rfl⟩
          rw [← er_475] at hp_474
          obtain ⟨rfl, rfl, rfl, rfl, hv, pfq, q_476, q_477, hQ, q_478⟩ := hp_474
          have pf := qF_t pf pfq
          have u_479_2 : (I_467 mo 2).toInt = (I mo 2).toInt := by rw [pf 2 (by decide) (by decide) (by decide) (by decide) (by decide)]
          have u_479_5 : (I_467 mo 5).toInt = (I mo 5).toInt := by rw [pf 5 (by decide) (by decide) (by decide) (by decide) (by decide)]
          have u_479_14 : (I_467 mo 14).toInt = (I mo 14).toInt := by rw [pf 14 (by decide) (by decide) (by decide) (by decide) (by decide)]
          have u_479_16 : (I_467 mo 16).toInt = (I mo 16).toInt := by rw [pf 16 (by decide) (by decide) (by decide) (by decide) (by decide)]
          have u_479_18 : (I_467 mo 18).toInt = (I mo 18).toInt := by rw [pf 18 (by decide) (by decide) (by decide) (by decide) (by decide)]
          rw [thn_b (by omega)] at er_475
          have hQ : mQ gh I_467 J_469 AI AJ_458 mo b nn nr nt cc f h := by rw [er_475] at hQ; exact hQ
          replace q_477 := hid q_477
          refine lv_istore_n (lv' := [(2, .int (iI v_473)), (0, .ref mo), (1, .int (iI bh))]) F.1 F.2.1 dX7_tableTold_68 rfl hl (by decide) rfl (fun ls hl => ?_)
          refine lv_aload_n F.1 F.2.1 dX7_tableTold_69 rfl (lv_at hl 1 rfl) ?_
          refine z_iconst F dX7_tableTold_70 ?_
          refine lv_iload_n F.1 F.2.1 dX7_tableTold_71 rfl (lv_at hl 0 rfl) ?_
          refine z_iconst F dX7_tableTold_72 ?_
          refine z_iconst F dX7_tableTold_73 ?_
          refine z_iconst F dX7_tableTold_74 ?_
          have b_480 := mJ hv hm
          unfold mNum1 at b_480
          refine g_callv (g_runV (As := [.int (iI 0), .int (iI v_473), .int (iI ((-1))), .int (iI ((-1))), .int (iI 0)]) (rest := []) (ci := 7) F hl.1 hH hS hz (c_X7_headerg l g gh T M I_467 R J_469 AI AJ_458 AR mo 0 v_473 (-1) (-1) 0 ⟨by decide, by decide⟩ zv_473 ⟨by decide, by decide⟩ ⟨by decide, by decide⟩ ⟨by decide, by decide⟩ hv hm hT (by omega) (by omega)) (cwV 5 F.2.2.2.2.1 (good_up gT_X7_header) rfl rfl rfl hdX7_header ⟨Nat.le_of_ble_eq_true rfl, Nat.le_of_ble_eq_true rfl⟩) hm (by decide) rfl rfl rfl (Nat.le_of_ble_eq_true rfl) dX7_tableTold_75 ⟨Nat.zero_le _, Nat.zero_le _⟩) hS (fun I_481 R_482 J_483 AI_484 AJ_485 AR_486 H locs hp_487 hH hS => ?_)
          dsimp only at hp_487
          obtain ⟨rfl, rfl, rfl, rfl, rfl, hv, hT, hhd, q_488⟩ := hp_487
          replace hhd := hid hhd
          have hQ : mQ gh I_467 J_469 AI_484 AJ_458 mo b nn nr nt cc f h := mQ_bad hQ (by omega) rfl
          have hfin : thn (f, h, 0) (fun t _ => sTbM b nn nr nt bh t) = (f, h, 0) := thn_b q0
          exact g_vret F hr hlk hH hS hz ⟨rfl, rfl, hv, hT, pf, by first | (dsimp only; omega) | omega | rfl, by (try dsimp only); exact (fun hf => absurd hf (by omega)), by (try dsimp only); exact (fun hf => absurd hf (by omega)), by (try dsimp only); rw [hfin]; exact hQ, by (try dsimp only); rw [hfin]; exact pIc_n (by omega), by (try dsimp only); rw [hfin]; exact pJm_n (by omega), by (try dsimp only); rw [hfin]; exact zIf_n (by omega), by (try dsimp only); rw [hfin]; exact zIf_n (by omega), fun b hb => q_488 b hb⟩ dX7_tableTold_78
        · exact absurd (mQ_z hQ (by omega)) (by omega)
      · refine lv_aload_n F.1 F.2.1 dX7_tableTold_18 rfl (lv_at hl 0 rfl) ?_
        refine z_bipush F dX7_tableTold_19 (by decide) ?_
        have b_489 := mJ hv hm
        unfold mNum1 at b_489
        refine g_callv (g_runV (As := [.int (iI 6)]) (rest := []) (ci := 7) F hl.1 hH hS hz (c_X7_wrongf l g gh T b nn nr nt cc f h I_432 R J AI AJ AR mo 6 ⟨by decide, by decide⟩ hv hm hT (by omega) h65 hbM hr7 (by omega) hn9 (by omega) hQ) (cwV 1 F.2.2.2.2.1 (good_up gT_X7_wrong) rfl rfl rfl hdX7_wrong ⟨Nat.le_of_ble_eq_true rfl, Nat.le_of_ble_eq_true rfl⟩) hm (by decide) rfl rfl rfl (Nat.le_of_ble_eq_true rfl) dX7_tableTold_21 ⟨Nat.zero_le _, Nat.zero_le _⟩) hS (fun I_490 R_491 J_492 AI_493 AJ_494 AR_495 H locs hp_496 hH hS => ?_)
        dsimp only at hp_496
        obtain ⟨r_497, er_497⟩ : ∃ qQ : pR, qQ = thn (f, h, 0) (fun t _ => (6, t, 0)) := ⟨_, rfl⟩
        rw [← er_497] at hp_496
        obtain ⟨rfl, rfl, rfl, rfl, rfl, hv, pfq, q_498, hQ⟩ := hp_496
        have pf := qF_t pf pfq
        have u_499_2 : (I_490 mo 2).toInt = (I mo 2).toInt := by rw [pf 2 (by decide) (by decide) (by decide) (by decide) (by decide)]
        have u_499_5 : (I_490 mo 5).toInt = (I mo 5).toInt := by rw [pf 5 (by decide) (by decide) (by decide) (by decide) (by decide)]
        have u_499_14 : (I_490 mo 14).toInt = (I mo 14).toInt := by rw [pf 14 (by decide) (by decide) (by decide) (by decide) (by decide)]
        have u_499_16 : (I_490 mo 16).toInt = (I mo 16).toInt := by rw [pf 16 (by decide) (by decide) (by decide) (by decide) (by decide)]
        have u_499_18 : (I_490 mo 18).toInt = (I mo 18).toInt := by rw [pf 18 (by decide) (by decide) (by decide) (by decide) (by decide)]
        rw [thn_b (by omega)] at er_497
        have hQ : mQ gh I_490 J AI AJ mo b nn nr nt cc f h := by rw [er_497] at hQ; exact hQ
        refine lv_aload_n F.1 F.2.1 dX7_tableTold_24 rfl (lv_at hl 0 rfl) ?_
        have b_500 := mJ hv hm
        unfold mNum1 at b_500
        refine g_callv (g_runV (As := []) (rest := []) (ci := 7) F hl.1 hH hS hz (c_X7_nextf l g gh T b nn (tNd b nn (tPs b nn h)) I_490 R J AI AJ AR mo hv hm hT (by omega) (mTp hv h65 hbM) hr7 (by omega) (by omega) (mQ_e0 hQ) tNd_le.1) (cwV 0 F.2.2.2.2.1 (good_up gT_X7_next) rfl rfl rfl hdX7_next ⟨Nat.le_of_ble_eq_true rfl, Nat.le_of_ble_eq_true rfl⟩) hm (by decide) rfl rfl rfl (Nat.le_of_ble_eq_true rfl) dX7_tableTold_25 ⟨Nat.zero_le _, Nat.zero_le _⟩) hS (fun I_501 R_502 J_503 AI_504 AJ_505 AR_506 H locs hp_507 hH hS => ?_)
        dsimp only at hp_507
        obtain ⟨rfl, rfl, rfl, rfl, hv, pfq, q_508, nx4, nxa, nxb⟩ := hp_507
        have pf := qF_t pf pfq
        have u_509_2 : (I_501 mo 2).toInt = (I mo 2).toInt := by rw [pf 2 (by decide) (by decide) (by decide) (by decide) (by decide)]
        have u_509_5 : (I_501 mo 5).toInt = (I mo 5).toInt := by rw [pf 5 (by decide) (by decide) (by decide) (by decide) (by decide)]
        have u_509_14 : (I_501 mo 14).toInt = (I mo 14).toInt := by rw [pf 14 (by decide) (by decide) (by decide) (by decide) (by decide)]
        have u_509_16 : (I_501 mo 16).toInt = (I mo 16).toInt := by rw [pf 16 (by decide) (by decide) (by decide) (by decide) (by decide)]
        have u_509_18 : (I_501 mo 18).toInt = (I mo 18).toInt := by rw [pf 18 (by decide) (by decide) (by decide) (by decide) (by decide)]
        have hQ : mQ gh I_501 J_503 AI AJ mo b nn nr nt cc f h := by have q9 := mQ_nx hQ nx4 nxa; rw [thn_b (by omega)] at q9; exact q9
        clear nxa nxb
        refine lv_aload_n F.1 F.2.1 dX7_tableTold_28 rfl (lv_at hl 0 rfl) ?_
        have b_510 := mJ hv hm
        unfold mNum1 at b_510
        refine g_callv (g_runV (As := []) (rest := []) (ci := 7) F hl.1 hH hS hz (c_X7_newNamef l g gh T b nn nr nt cc f h I_501 R J_503 AI AJ AR mo hv hm hT (by omega) (by omega) h65 hbM hr7 (by omega) hn9 (by omega) hQ) (cwV 0 F.2.2.2.2.1 (good_up gT_X7_newName) rfl rfl rfl hdX7_newName ⟨Nat.le_of_ble_eq_true rfl, Nat.le_of_ble_eq_true rfl⟩) hm (by decide) rfl rfl rfl (Nat.le_of_ble_eq_true rfl) dX7_tableTold_29 ⟨Nat.zero_le _, Nat.zero_le _⟩) hS (fun I_511 R_512 J_513 AI_514 AJ_515 AR_516 H locs hp_517 hH hS => ?_)
        dsimp only at hp_517
        obtain ⟨r_518, er_518⟩ : ∃ qQ : pR, qQ = thn (f, h, 0) (fun t _ => sNam b nn nr nt t) := ⟨_, rfl⟩
        rw [← er_518] at hp_517
        obtain ⟨rfl, rfl, rfl, hv, pfq, q_519, hQ, q_520⟩ := hp_517
        have pf := qF_t pf pfq
        have u_521_2 : (I_511 mo 2).toInt = (I mo 2).toInt := by rw [pf 2 (by decide) (by decide) (by decide) (by decide) (by decide)]
        have u_521_5 : (I_511 mo 5).toInt = (I mo 5).toInt := by rw [pf 5 (by decide) (by decide) (by decide) (by decide) (by decide)]
        have u_521_14 : (I_511 mo 14).toInt = (I mo 14).toInt := by rw [pf 14 (by decide) (by decide) (by decide) (by decide) (by decide)]
        have u_521_16 : (I_511 mo 16).toInt = (I mo 16).toInt := by rw [pf 16 (by decide) (by decide) (by decide) (by decide) (by decide)]
        have u_521_18 : (I_511 mo 18).toInt = (I mo 18).toInt := by rw [pf 18 (by decide) (by decide) (by decide) (by decide) (by decide)]
        rw [thn_b (by omega)] at er_518
        have hQ : mQ gh I_511 J_513 AI AJ_515 mo b nn nr nt cc f h := by rw [er_518] at hQ; exact hQ
        refine lv_aload_n F.1 F.2.1 dX7_tableTold_32 rfl (lv_at hl 0 rfl) ?_
        refine g_getI (ci := 7) (k := 24) F hH rfl (by decide) iX7 hm (by decide) rfl k81 dX7_tableTold_33 ?_
        have b_522 := mJ hv hm
        unfold mNum1 at b_522
        refine z_if_ne (tgt := 64) F dX7_tableTold_36 (by decide) (zr_t _) (fun c_523 => ?_) (fun c_523 => ?_)
        · refine lv_aload_n F.1 F.2.1 dX7_tableTold_64 rfl (lv_at hl 0 rfl) ?_
          refine g_calli (g_runV (As := []) (rest := []) (ci := 7) F hl.1 hH hS hz (c_X7_numberToldf l g gh T b nn nr nt cc f h I_511 R J_513 AI AJ_515 AR mo hv hm hT (by omega) h65 hbM hr7 (by omega) hn9 (by omega) hQ) (cwV 0 F.2.2.2.2.1 (good_up gT_X7_numberTold) rfl rfl rfl hdX7_numberTold ⟨Nat.le_of_ble_eq_true rfl, Nat.le_of_ble_eq_true rfl⟩) hm (by decide) rfl rfl rfl (Nat.le_of_ble_eq_true rfl) dX7_tableTold_65 ⟨Nat.zero_le _, Nat.zero_le _⟩) hS (fun v_530 I_524 R_525 J_526 AI_527 AJ_528 AR_529 H locs zv_530 hp_531 hH hS => ?_)
          dsimp only at hp_531
          obtain ⟨r_532, er_532⟩ : ∃ qQ : pR, qQ = thn (f, h, 0) (fun t _ => sNum b nn t) := ⟨_, rfl⟩
          rw [← er_532] at hp_531
          obtain ⟨rfl, rfl, rfl, rfl, hv, pfq, q_533, q_534, hQ, q_535⟩ := hp_531
          have pf := qF_t pf pfq
          have u_536_2 : (I_524 mo 2).toInt = (I mo 2).toInt := by rw [pf 2 (by decide) (by decide) (by decide) (by decide) (by decide)]
          have u_536_5 : (I_524 mo 5).toInt = (I mo 5).toInt := by rw [pf 5 (by decide) (by decide) (by decide) (by decide) (by decide)]
          have u_536_14 : (I_524 mo 14).toInt = (I mo 14).toInt := by rw [pf 14 (by decide) (by decide) (by decide) (by decide) (by decide)]
          have u_536_16 : (I_524 mo 16).toInt = (I mo 16).toInt := by rw [pf 16 (by decide) (by decide) (by decide) (by decide) (by decide)]
          have u_536_18 : (I_524 mo 18).toInt = (I mo 18).toInt := by rw [pf 18 (by decide) (by decide) (by decide) (by decide) (by decide)]
          rw [thn_b (by omega)] at er_532
          have hQ : mQ gh I_524 J_526 AI AJ_515 mo b nn nr nt cc f h := by rw [er_532] at hQ; exact hQ
          replace q_534 := hid q_534
          refine lv_istore_n (lv' := [(2, .int (iI v_530)), (0, .ref mo), (1, .int (iI bh))]) F.1 F.2.1 dX7_tableTold_68 rfl hl (by decide) rfl (fun ls hl => ?_)
          refine lv_aload_n F.1 F.2.1 dX7_tableTold_69 rfl (lv_at hl 1 rfl) ?_
          refine z_iconst F dX7_tableTold_70 ?_
          refine lv_iload_n F.1 F.2.1 dX7_tableTold_71 rfl (lv_at hl 0 rfl) ?_
          refine z_iconst F dX7_tableTold_72 ?_
          refine z_iconst F dX7_tableTold_73 ?_
          refine z_iconst F dX7_tableTold_74 ?_
          have b_537 := mJ hv hm
          unfold mNum1 at b_537
          refine g_callv (g_runV (As := [.int (iI 0), .int (iI v_530), .int (iI ((-1))), .int (iI ((-1))), .int (iI 0)]) (rest := []) (ci := 7) F hl.1 hH hS hz (c_X7_headerg l g gh T M I_524 R J_526 AI AJ_515 AR mo 0 v_530 (-1) (-1) 0 ⟨by decide, by decide⟩ zv_530 ⟨by decide, by decide⟩ ⟨by decide, by decide⟩ ⟨by decide, by decide⟩ hv hm hT (by omega) (by omega)) (cwV 5 F.2.2.2.2.1 (good_up gT_X7_header) rfl rfl rfl hdX7_header ⟨Nat.le_of_ble_eq_true rfl, Nat.le_of_ble_eq_true rfl⟩) hm (by decide) rfl rfl rfl (Nat.le_of_ble_eq_true rfl) dX7_tableTold_75 ⟨Nat.zero_le _, Nat.zero_le _⟩) hS (fun I_538 R_539 J_540 AI_541 AJ_542 AR_543 H locs hp_544 hH hS => ?_)
          dsimp only at hp_544
          obtain ⟨rfl, rfl, rfl, rfl, rfl, hv, hT, hhd, q_545⟩ := hp_544
          replace hhd := hid hhd
          have hQ : mQ gh I_524 J_526 AI_541 AJ_515 mo b nn nr nt cc f h := mQ_bad hQ (by omega) rfl
          have hfin : thn (f, h, 0) (fun t _ => sTbM b nn nr nt bh t) = (f, h, 0) := thn_b q0
          exact g_vret F hr hlk hH hS hz ⟨rfl, rfl, hv, hT, pf, by first | (dsimp only; omega) | omega | rfl, by (try dsimp only); exact (fun hf => absurd hf (by omega)), by (try dsimp only); exact (fun hf => absurd hf (by omega)), by (try dsimp only); rw [hfin]; exact hQ, by (try dsimp only); rw [hfin]; exact pIc_n (by omega), by (try dsimp only); rw [hfin]; exact pJm_n (by omega), by (try dsimp only); rw [hfin]; exact zIf_n (by omega), by (try dsimp only); rw [hfin]; exact zIf_n (by omega), fun b hb => q_545 b hb⟩ dX7_tableTold_78
        · exact absurd (mQ_z hQ (by omega)) (by omega)
