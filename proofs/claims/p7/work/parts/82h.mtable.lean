def rmX7_tableToldf : Room := { frames := 8, cells := 0, slots := 0, locals := 169 }
set_option maxHeartbeats 4000000 in
set_option maxRecDepth 100000 in
/-- a table told -/
theorem c_X7_tableToldf (l : Launch) (g : gG) (gh : gGh) (T : Nat → Int32) (M : Int) (b : tTx) (nn nr : Nat) (nt : Nat → Nat) (cc : Nat → Int) (f : Int) (h : Nat) (I : gI) (R : gR) (J : gJ) (AI : gI) (AJ : gJ) (AR : gR) (mo : Nat) (bh : Int) (zbh : zr bh) (hv : mInv g gh R I AI) (hm : gO g mo 7) (hT : AI (gh 50 0) = T) (hE : (I mo 20).toInt ≤ 936) (hMM : (I mo 5).toInt = M) (hbh : bh = 0 ∨ bh = 1) (htb : bh = 0 → ∀ r : Int, 0 ≤ r → r < M → tI (AI (gh 53 0)) (40 * r) = 0) (h65 : gh 9 (gh 65 0) ≠ 5) (hbM : ∀ k : Nat, k < nn → ((gM g).2 (gh 65 0) k).toInt = b k % 256) (hr7 : ∀ k : Nat, -128 ≤ b k ∧ b k ≤ 127) (hsz : (I mo 18).toInt = (nn : Int)) (hn9 : nn ≤ 900) (hm5 : (I mo 5).toInt = (nr : Int)) (hQ : mQ gh I J AI AJ mo b nn nr nt cc f h) : gMet l g yX7_tableTold tsX7_tableTold rmX7_tableToldf [.ref mo, .int (iI bh)] (I, R, J, AI, AJ, AR) (gQv g (fun w : gS => R = w.2.1 ∧ AR = w.2.2.2.2.2 ∧ (mInv g gh R (w.1) (w.2.2.2.1)) ∧ ((w.2.2.2.1) (gh 50 0) = T) ∧ (qF mo I (w.1)) ∧ (((w.1) mo 20).toInt ≤ 936 ∧ (I mo 24).toInt ≤ ((w.1) mo 24).toInt) ∧ (((w.1) mo 24).toInt = 0 → ((w.1) mo 21).toInt = 4 → ((w.1) mo 23).toInt = 59 → rowOK ((w.2.2.2.1) (gh 53 0)) M) ∧ (((w.1) mo 24).toInt = 0 → M ≤ 15 ∧ bh = 0 ∧ ∀ r : Int, 0 ≤ r → r < M + 1 → tI ((w.2.2.2.1) (gh 53 0)) (40 * r) = 0) ∧ (mQ gh (w.1) (w.2.2.1) (w.2.2.2.1) (w.2.2.2.2.1) mo b nn nr nt cc (thn (f, h, 0) (fun t _ => sTbM b nn nr nt bh t)).1 (thn (f, h, 0) (fun t _ => sTbM b nn nr nt bh t)).2.1) ∧ (pIc (thn (f, h, 0) (fun t _ => sTbM b nn nr nt bh t)).1 (pK b nn (thn (f, h, 0) (fun t _ => sTbM b nn nr nt bh t)).2.1) (tI ((w.2.2.2.1) (gh 53 0)) (40 * (nr : Int) + 1)) (thn (f, h, 0) (fun t _ => sTbM b nn nr nt bh t)).2.2) ∧ (pJm (thn (f, h, 0) (fun t _ => sTbM b nn nr nt bh t)).1 ((w.2.2.2.2.1) (gh 54 0) nr) (pMw b nn (h + 1))))) := by
  refine gStart (cc := cX7_tableTold) (maxL := 3) (ret := none) (by decide) rfl (Nat.le_of_ble_eq_true rfl) ?_
  intro p e s m below meth c ls F hr hlk hH hz hS hl
  have hl : lv_has ls 3 [(0, .ref mo), (1, .int (iI bh))] := hl
  have hS : va_S (gA g) s.heap s.heap [] := hS
  obtain ⟨H, hHe⟩ : ∃ H : Heap, H = s.heap := ⟨_, rfl⟩
  obtain ⟨locs, hlo⟩ : ∃ k : List Loc, k = [] := ⟨_, rfl⟩
  have hH : gH g I R J AI AJ AR H := by rw [hHe]; exact hH
  have hS : va_S (gA g) s.heap H locs := by rw [hHe, hlo]; exact hS
  suffices hw : W p l e rmX7_tableToldf s m ([.ref mo, .int (iI bh)] : List Value).toArray below meth c H locs 0 0 (MQ below (gQv g (fun w : gS => R = w.2.1 ∧ AR = w.2.2.2.2.2 ∧ (mInv g gh R (w.1) (w.2.2.2.1)) ∧ ((w.2.2.2.1) (gh 50 0) = T) ∧ (qF mo I (w.1)) ∧ (((w.1) mo 20).toInt ≤ 936 ∧ (I mo 24).toInt ≤ ((w.1) mo 24).toInt) ∧ (((w.1) mo 24).toInt = 0 → ((w.1) mo 21).toInt = 4 → ((w.1) mo 23).toInt = 59 → rowOK ((w.2.2.2.1) (gh 53 0)) M) ∧ (((w.1) mo 24).toInt = 0 → M ≤ 15 ∧ bh = 0 ∧ ∀ r : Int, 0 ≤ r → r < M + 1 → tI ((w.2.2.2.1) (gh 53 0)) (40 * r) = 0) ∧ (mQ gh (w.1) (w.2.2.1) (w.2.2.2.1) (w.2.2.2.2.1) mo b nn nr nt cc (thn (f, h, 0) (fun t _ => sTbM b nn nr nt bh t)).1 (thn (f, h, 0) (fun t _ => sTbM b nn nr nt bh t)).2.1) ∧ (pIc (thn (f, h, 0) (fun t _ => sTbM b nn nr nt bh t)).1 (pK b nn (thn (f, h, 0) (fun t _ => sTbM b nn nr nt bh t)).2.1) (tI ((w.2.2.2.1) (gh 53 0)) (40 * (nr : Int) + 1)) (thn (f, h, 0) (fun t _ => sTbM b nn nr nt bh t)).2.2) ∧ (pJm (thn (f, h, 0) (fun t _ => sTbM b nn nr nt bh t)).1 ((w.2.2.2.2.1) (gh 54 0) nr) (pMw b nn (h + 1))))) ([.ref mo, .int (iI bh)] : List Value).toArray s 0 0 (gA g)) (F0 m 0 ls []) by
    rw [hHe, hlo] at hw; exact hw
  clear hHe hlo
  have pf : qF mo I I := qF_r
  have hb0 := mJ hv hm
  unfold mNum1 at hb0
  have iX7 : ∀ w ∈ u_ws RX7 TX7 32, w ∈ tsX7_tableTold := fun w h => List.mem_cons_of_mem _ (inTB7 w h)
  have k184 : Cond.fieldLink RX7 184 (TX7 5).1 (TX7 5).2.1 (TX7 5).2.2.1 ∈ tsX7_tableTold := List.mem_cons_of_mem _ fl_184
  have k81 : Cond.fieldLink RX7 81 (TX7 24).1 (TX7 24).2.1 (TX7 24).2.2.1 ∈ tsX7_tableTold := List.mem_cons_of_mem _ fl_81
  have k94 : Cond.fieldLink RX7 94 (TX7 21).1 (TX7 21).2.1 (TX7 21).2.2.1 ∈ tsX7_tableTold := List.mem_cons_of_mem _ fl_94
  have k97 : Cond.fieldLink RX7 97 (TX7 23).1 (TX7 23).2.1 (TX7 23).2.2.1 ∈ tsX7_tableTold := List.mem_cons_of_mem _ fl_97
  have hf0 := mQ_p hQ
  by_cases q0 : f = 0
  · have hQ := mQ_ok hQ q0
    have hz0 := mQ_0 hQ rfl
    refine lv_aload_n F.1 F.2.1 dX7_tableTold_0 rfl (lv_at hl 0 rfl) ?_
    refine g_getI (ci := 7) (k := 5) F hH rfl (by decide) iX7 hm (by decide) rfl k184 dX7_tableTold_1 ?_
    have b_1 := mJ hv hm
    unfold mNum1 at b_1
    refine z_bipush F dX7_tableTold_4 (by decide) ?_
    refine z_icmp_ne (tgt := 14) F dX7_tableTold_6 (by decide) (zr_t _) ⟨by decide, by decide⟩ (fun c_2 => ?_) (fun c_2 => ?_)
    · refine lv_iload_n F.1 F.2.1 dX7_tableTold_14 rfl (lv_at hl 1 rfl) ?_
      refine z_if_eq (tgt := 24) F dX7_tableTold_15 (by decide) zbh (fun c_3 => ?_) (fun c_3 => ?_)
      · refine lv_aload_n F.1 F.2.1 dX7_tableTold_24 rfl (lv_at hl 0 rfl) ?_
        refine g_callv (g_runV (As := []) (rest := []) (ci := 7) F hl.1 hH hS hz (c_X7_nextf l g gh T b nn (tNd b nn (tPs b nn h)) I R J AI AJ AR mo hv hm hT (by omega) (mTp hv h65 hbM) hr7 (by omega) (by omega) (mQ_e0 hQ) tNd_le.1) (cwV 0 F.2.2.2.2.1 (good_up gT_X7_next) rfl rfl rfl hdX7_next ⟨Nat.le_of_ble_eq_true rfl, Nat.le_of_ble_eq_true rfl⟩) hm (by decide) rfl rfl rfl (Nat.le_of_ble_eq_true rfl) dX7_tableTold_25 ⟨Nat.zero_le _, Nat.zero_le _⟩) hS (fun I_4 R_5 J_6 AI_7 AJ_8 AR_9 H locs hp_10 hH hS => ?_)
        dsimp only at hp_10
        obtain ⟨rfl, rfl, rfl, rfl, hv, pfq, q_11, nx4, nxa, nxb⟩ := hp_10
        have pf := qF_t pf pfq
        have u_12_2 : (I_4 mo 2).toInt = (I mo 2).toInt := by rw [pf 2 (by decide) (by decide) (by decide) (by decide) (by decide)]
        have u_12_5 : (I_4 mo 5).toInt = (I mo 5).toInt := by rw [pf 5 (by decide) (by decide) (by decide) (by decide) (by decide)]
        have u_12_14 : (I_4 mo 14).toInt = (I mo 14).toInt := by rw [pf 14 (by decide) (by decide) (by decide) (by decide) (by decide)]
        have u_12_16 : (I_4 mo 16).toInt = (I mo 16).toInt := by rw [pf 16 (by decide) (by decide) (by decide) (by decide) (by decide)]
        have u_12_18 : (I_4 mo 18).toInt = (I mo 18).toInt := by rw [pf 18 (by decide) (by decide) (by decide) (by decide) (by decide)]
        have hQ : mQ gh I_4 J_6 AI AJ mo b nn nr nt cc 0 (h + 1) := mQ_nx hQ nx4 nxa
        clear nxa nxb
        refine lv_aload_n F.1 F.2.1 dX7_tableTold_28 rfl (lv_at hl 0 rfl) ?_
        have b_13 := mJ hv hm
        unfold mNum1 at b_13
        refine g_callv (g_runV (As := []) (rest := []) (ci := 7) F hl.1 hH hS hz (c_X7_newNamef l g gh T b nn nr nt cc 0 (h + 1) I_4 R J_6 AI AJ AR mo hv hm hT (by omega) (by omega) h65 hbM hr7 (by omega) hn9 (by omega) hQ) (cwV 0 F.2.2.2.2.1 (good_up gT_X7_newName) rfl rfl rfl hdX7_newName ⟨Nat.le_of_ble_eq_true rfl, Nat.le_of_ble_eq_true rfl⟩) hm (by decide) rfl rfl rfl (Nat.le_of_ble_eq_true rfl) dX7_tableTold_29 ⟨Nat.zero_le _, Nat.zero_le _⟩) hS (fun I_14 R_15 J_16 AI_17 AJ_18 AR_19 H locs hp_20 hH hS => ?_)
        dsimp only at hp_20
        obtain ⟨r_21, er_21⟩ : ∃ qQ : pR, qQ = thn (0, (h + 1), 0) (fun t _ => sNam b nn nr nt t) := ⟨_, rfl⟩
        rw [← er_21] at hp_20
        obtain ⟨rfl, rfl, rfl, hv, pfq, q_22, hQ, q_23⟩ := hp_20
        have pf := qF_t pf pfq
        have u_24_2 : (I_14 mo 2).toInt = (I mo 2).toInt := by rw [pf 2 (by decide) (by decide) (by decide) (by decide) (by decide)]
        have u_24_5 : (I_14 mo 5).toInt = (I mo 5).toInt := by rw [pf 5 (by decide) (by decide) (by decide) (by decide) (by decide)]
        have u_24_14 : (I_14 mo 14).toInt = (I mo 14).toInt := by rw [pf 14 (by decide) (by decide) (by decide) (by decide) (by decide)]
        have u_24_16 : (I_14 mo 16).toInt = (I mo 16).toInt := by rw [pf 16 (by decide) (by decide) (by decide) (by decide) (by decide)]
        have u_24_18 : (I_14 mo 18).toInt = (I mo 18).toInt := by rw [pf 18 (by decide) (by decide) (by decide) (by decide) (by decide)]
        have er_21 : r_21 = sNam b nn nr nt (h + 1) := er_21
        have sr_21 := er_21
        rcases sNam_c er_21 with ⟨er_21, pr_21⟩ | ⟨kdr_21, er_21, pr_21⟩
        · have hQ : mQ gh I_14 J_16 AI AJ_18 mo b nn nr nt cc 0 (h + 2) := by rw [er_21] at hQ; exact hQ
          have sr_21 : sNam b nn nr nt (h + 1) = (0, h + 2, 0) := sr_21.symm.trans er_21
          have vlr_21 := q_23 (by rw [er_21])
          try rw [er_21] at vlr_21
          try dsimp only at vlr_21
          refine lv_aload_n F.1 F.2.1 dX7_tableTold_32 rfl (lv_at hl 0 rfl) ?_
          refine g_getI (ci := 7) (k := 24) F hH rfl (by decide) iX7 hm (by decide) rfl k81 dX7_tableTold_33 ?_
          have b_25 := mJ hv hm
          unfold mNum1 at b_25
          refine z_if_ne (tgt := 64) F dX7_tableTold_36 (by decide) (zr_t _) (fun c_26 => ?_) (fun c_26 => ?_)
          · exact absurd (mQ_0 hQ rfl) (by omega)
          · refine lv_aload_n F.1 F.2.1 dX7_tableTold_39 rfl (lv_at hl 0 rfl) ?_
            refine g_getI (ci := 7) (k := 21) F hH rfl (by decide) iX7 hm (by decide) rfl k94 dX7_tableTold_40 ?_
            refine z_iconst F dX7_tableTold_43 ?_
            refine z_icmp_ne (tgt := 64) F dX7_tableTold_44 (by decide) (zr_t _) ⟨by decide, by decide⟩ (fun c_27 => ?_) (fun c_27 => ?_)
            · have t_28 : pK b nn (h + 2) ≠ 4 := mQ_kn hQ rfl (c := 3) rfl (by omega)
              refine lv_aload_n F.1 F.2.1 dX7_tableTold_64 rfl (lv_at hl 0 rfl) ?_
              refine g_calli (g_runV (As := []) (rest := []) (ci := 7) F hl.1 hH hS hz (c_X7_numberToldf l g gh T b nn nr nt cc 0 (h + 2) I_14 R J_16 AI AJ_18 AR mo hv hm hT (by omega) h65 hbM hr7 (by omega) hn9 (by omega) hQ) (cwV 0 F.2.2.2.2.1 (good_up gT_X7_numberTold) rfl rfl rfl hdX7_numberTold ⟨Nat.le_of_ble_eq_true rfl, Nat.le_of_ble_eq_true rfl⟩) hm (by decide) rfl rfl rfl (Nat.le_of_ble_eq_true rfl) dX7_tableTold_65 ⟨Nat.zero_le _, Nat.zero_le _⟩) hS (fun v_35 I_29 R_30 J_31 AI_32 AJ_33 AR_34 H locs zv_35 hp_36 hH hS => ?_)
              dsimp only at hp_36
              obtain ⟨r_37, er_37⟩ : ∃ qQ : pR, qQ = thn (0, (h + 2), 0) (fun t _ => sNum b nn t) := ⟨_, rfl⟩
              rw [← er_37] at hp_36
              obtain ⟨rfl, rfl, rfl, rfl, hv, pfq, q_38, q_39, hQ, q_40⟩ := hp_36
              have pf := qF_t pf pfq
              have u_41_2 : (I_29 mo 2).toInt = (I mo 2).toInt := by rw [pf 2 (by decide) (by decide) (by decide) (by decide) (by decide)]
              have u_41_5 : (I_29 mo 5).toInt = (I mo 5).toInt := by rw [pf 5 (by decide) (by decide) (by decide) (by decide) (by decide)]
              have u_41_14 : (I_29 mo 14).toInt = (I mo 14).toInt := by rw [pf 14 (by decide) (by decide) (by decide) (by decide) (by decide)]
              have u_41_16 : (I_29 mo 16).toInt = (I mo 16).toInt := by rw [pf 16 (by decide) (by decide) (by decide) (by decide) (by decide)]
              have u_41_18 : (I_29 mo 18).toInt = (I mo 18).toInt := by rw [pf 18 (by decide) (by decide) (by decide) (by decide) (by decide)]
              have er_37 : r_37 = sNum b nn (h + 2) := er_37
              have sr_37 := er_37
              rcases sNum_c er_37 with ⟨er_37, pr_37⟩ | ⟨er_37, pr_37⟩
              · have hQ : mQ gh I_29 J_31 AI AJ_18 mo b nn nr nt cc 0 (h + 3) := by rw [er_37] at hQ; exact hQ
                have sr_37 : sNum b nn (h + 2) = (0, h + 3, pV b nn (h + 2)) := sr_37.symm.trans er_37
                have vlr_37 := q_40 (by rw [er_37])
                try rw [er_37] at vlr_37
                try dsimp only at vlr_37
                have kq_39 := q_39 (mQ_0 hQ rfl)
                replace q_39 := hid q_39
                refine lv_istore_n (lv' := [(2, .int (iI v_35)), (0, .ref mo), (1, .int (iI bh))]) F.1 F.2.1 dX7_tableTold_68 rfl hl (by decide) rfl (fun ls hl => ?_)
                refine lv_aload_n F.1 F.2.1 dX7_tableTold_69 rfl (lv_at hl 1 rfl) ?_
                refine z_iconst F dX7_tableTold_70 ?_
                refine lv_iload_n F.1 F.2.1 dX7_tableTold_71 rfl (lv_at hl 0 rfl) ?_
                refine z_iconst F dX7_tableTold_72 ?_
                refine z_iconst F dX7_tableTold_73 ?_
                refine z_iconst F dX7_tableTold_74 ?_
                have b_42 := mJ hv hm
                unfold mNum1 at b_42
                refine g_callv (g_runV (As := [.int (iI 0), .int (iI v_35), .int (iI ((-1))), .int (iI ((-1))), .int (iI 0)]) (rest := []) (ci := 7) F hl.1 hH hS hz (c_X7_header l g gh T M I_29 R J_31 AI AJ_18 AR mo 0 v_35 (-1) (-1) 0 ⟨by decide, by decide⟩ zv_35 ⟨by decide, by decide⟩ ⟨by decide, by decide⟩ ⟨by decide, by decide⟩ hv hm hT (by omega) (by omega)) (cwV 5 F.2.2.2.2.1 (good_up gT_X7_header) rfl rfl rfl hdX7_header ⟨Nat.le_of_ble_eq_true rfl, Nat.le_of_ble_eq_true rfl⟩) hm (by decide) rfl rfl rfl (Nat.le_of_ble_eq_true rfl) dX7_tableTold_75 ⟨Nat.zero_le _, Nat.zero_le _⟩) hS (fun I_43 R_44 J_45 AI_46 AJ_47 AR_48 H locs hp_49 hH hS => ?_)
                dsimp only at hp_49
                obtain ⟨rfl, rfl, rfl, rfl, rfl, hv, hT, hhd⟩ := hp_49
                replace hhd := hid hhd
                have hQ : mQ gh I_29 J_31 AI_46 AJ_18 mo b nn nr nt cc 0 (h + 3) := mQ_a hQ (fun hf9 z9 h09 h19 => (hhd hf9).1 z9 h09 (Or.inl (by omega)))
                have hfin : thn (f, h, 0) (fun t _ => sTbM b nn nr nt bh t) = (0, h + 3, pV b nn (h + 2)) := by
                  refine (thn_k q0).trans ?_
                  show sTbM b nn nr nt bh h = _
                  unfold sTbM
                  repeat (first | with_reducible rfl | refine ite_y (by omega) ?_ | refine ite_n (by omega) ?_ | refine thn_t sr_21 (by first | rfl | omega) ?_ | exact (thn_x sr_21.symm (by omega)).trans (pr_e (by omega) (by omega) (by omega)) | refine thn_t sr_37 (by first | rfl | omega) ?_ | exact (thn_x sr_37.symm (by omega)).trans (pr_e (by omega) (by omega) (by omega)) | unfold sTc | exact pr_e (by omega) (by omega) (by omega) | refine ite_y (pCf_ok (by omega) (by omega)) ?_ | refine ite_n (fun e9 => absurd (pCf_0 e9) (by omega)) ?_ | exact pr_e (pCf_no (by omega)) (by omega) (by omega) | exact pr_e (pCf_big (by omega) (by omega)) (by omega) (by omega))
                exact g_vret F hr hlk hH hS hz ⟨rfl, rfl, hv, hT, pf, by first | (dsimp only; omega) | omega | rfl, by (try dsimp only); intro hf ht hn; exact row_mk (by omega) (hhd (by omega)) (by omega) (by omega) (fun h => absurd rfl h) (by omega) (fun _ h => htb (by omega) (M - 1) (by omega) (by omega)) (fun h => absurd h (by decide)) (fun h => absurd h (by decide)) (fun h => absurd h (by decide)) (fun h => absurd h (by decide)) (fun h => absurd h (by decide)) (fun h => absurd h (by decide)), by (try dsimp only); intro hf; exact ⟨by omega, by omega, kind0_step (by omega) (htb (by omega)) (hhd (by omega))⟩, by (try dsimp only); rw [hfin]; exact hQ, by (try dsimp only); rw [hfin]; have q9 := (hhd (mQ_0 hQ rfl)).2.2.1; rw [show M = (nr : Int) by omega] at q9; (try dsimp only); exact pIc_y (by omega), by (try dsimp only); rw [hfin]; exact pJm_y vlr_21⟩ dX7_tableTold_78
              · have hQ : mQ gh I_29 J_31 AI AJ_18 mo b nn nr nt cc 1 (h + 2) := by rw [er_37] at hQ; exact hQ
                have sr_37 := sr_37.symm.trans er_37
                have g9r_37 := mQ_f hQ (by omega)
                replace q_39 := hid q_39
                refine lv_istore_n (lv' := [(2, .int (iI v_35)), (0, .ref mo), (1, .int (iI bh))]) F.1 F.2.1 dX7_tableTold_68 rfl hl (by decide) rfl (fun ls hl => ?_)
                refine lv_aload_n F.1 F.2.1 dX7_tableTold_69 rfl (lv_at hl 1 rfl) ?_
                refine z_iconst F dX7_tableTold_70 ?_
                refine lv_iload_n F.1 F.2.1 dX7_tableTold_71 rfl (lv_at hl 0 rfl) ?_
                refine z_iconst F dX7_tableTold_72 ?_
                refine z_iconst F dX7_tableTold_73 ?_
                refine z_iconst F dX7_tableTold_74 ?_
                have b_50 := mJ hv hm
                unfold mNum1 at b_50
                refine g_callv (g_runV (As := [.int (iI 0), .int (iI v_35), .int (iI ((-1))), .int (iI ((-1))), .int (iI 0)]) (rest := []) (ci := 7) F hl.1 hH hS hz (c_X7_header l g gh T M I_29 R J_31 AI AJ_18 AR mo 0 v_35 (-1) (-1) 0 ⟨by decide, by decide⟩ zv_35 ⟨by decide, by decide⟩ ⟨by decide, by decide⟩ ⟨by decide, by decide⟩ hv hm hT (by omega) (by omega)) (cwV 5 F.2.2.2.2.1 (good_up gT_X7_header) rfl rfl rfl hdX7_header ⟨Nat.le_of_ble_eq_true rfl, Nat.le_of_ble_eq_true rfl⟩) hm (by decide) rfl rfl rfl (Nat.le_of_ble_eq_true rfl) dX7_tableTold_75 ⟨Nat.zero_le _, Nat.zero_le _⟩) hS (fun I_51 R_52 J_53 AI_54 AJ_55 AR_56 H locs hp_57 hH hS => ?_)
                dsimp only at hp_57
                obtain ⟨rfl, rfl, rfl, rfl, rfl, hv, hT, hhd⟩ := hp_57
                replace hhd := hid hhd
                have hQ : mQ gh I_29 J_31 AI_54 AJ_18 mo b nn nr nt cc 1 (h + 2) := mQ_bad hQ (by omega) rfl
                have hfin : thn (f, h, 0) (fun t _ => sTbM b nn nr nt bh t) = (1, h + 2, 0) := by
                  refine (thn_k q0).trans ?_
                  show sTbM b nn nr nt bh h = _
                  unfold sTbM
                  repeat (first | with_reducible rfl | refine ite_y (by omega) ?_ | refine ite_n (by omega) ?_ | refine thn_t sr_21 (by first | rfl | omega) ?_ | exact (thn_x sr_21.symm (by omega)).trans (pr_e (by omega) (by omega) (by omega)) | refine thn_t sr_37 (by first | rfl | omega) ?_ | exact (thn_x sr_37.symm (by omega)).trans (pr_e (by omega) (by omega) (by omega)) | unfold sTc | exact pr_e (by omega) (by omega) (by omega) | refine ite_y (pCf_ok (by omega) (by omega)) ?_ | refine ite_n (fun e9 => absurd (pCf_0 e9) (by omega)) ?_ | exact pr_e (pCf_no (by omega)) (by omega) (by omega) | exact pr_e (pCf_big (by omega) (by omega)) (by omega) (by omega))
                exact g_vret F hr hlk hH hS hz ⟨rfl, rfl, hv, hT, pf, by first | (dsimp only; omega) | omega | rfl, by (try dsimp only); exact (fun hf => absurd hf (by omega)), by (try dsimp only); exact (fun hf => absurd hf (by omega)), by (try dsimp only); rw [hfin]; exact hQ, by (try dsimp only); rw [hfin]; exact pIc_n (by omega), by (try dsimp only); rw [hfin]; exact pJm_n (by omega)⟩ dX7_tableTold_78
            · have t_58 := tkM_3 ((mQ_k hQ rfl).symm.trans (by omega))
              have t_58v := mQ_v hQ rfl (by omega)
              refine lv_aload_n F.1 F.2.1 dX7_tableTold_47 rfl (lv_at hl 0 rfl) ?_
              refine g_getI (ci := 7) (k := 23) F hH rfl (by decide) iX7 hm (by decide) rfl k97 dX7_tableTold_48 ?_
              refine z_iconst F dX7_tableTold_51 ?_
              refine z_iconst F dX7_tableTold_52 ?_
              refine g_calli (g_runS (As := [.int (iI ((I_14 mo 23).toInt)), .int (iI 1), .int (iI 4)]) (rest := []) F hl.1 hH hS hz (c_X7_within l g  I_14 R J_16 AI AJ_18 AR ((I_14 mo 23).toInt) 1 4 (zr_t _) ⟨by decide, by decide⟩ ⟨by decide, by decide⟩) (va_cwS 3 F.2.2.2.2.1 (good_up gT_X7_within) rfl rfl rfl hdX7_within.2 ⟨Nat.le_of_ble_eq_true rfl, Nat.le_of_ble_eq_true rfl⟩) rfl rfl (Nat.le_of_ble_eq_true rfl) dX7_tableTold_53 ⟨Nat.zero_le _, Nat.zero_le _⟩) hS (fun v_65 I_59 R_60 J_61 AI_62 AJ_63 AR_64 H locs zv_65 hp_66 hH hS => ?_)
              dsimp only at hp_66
              obtain ⟨rfl, rfl, rfl, rfl, rfl, rfl, q53⟩ := hp_66
              obtain ⟨qw1, qw2, qw3⟩ := q53
              refine z_if_ne (tgt := 64) F dX7_tableTold_56 (by decide) zv_65 (fun c_67 => ?_) (fun c_67 => ?_)
              · refine lv_aload_n F.1 F.2.1 dX7_tableTold_64 rfl (lv_at hl 0 rfl) ?_
                refine g_calli (g_runV (As := []) (rest := []) (ci := 7) F hl.1 hH hS hz (c_X7_numberToldf l g gh T b nn nr nt cc 0 (h + 2) I_14 R J_16 AI AJ_18 AR mo hv hm hT (by omega) h65 hbM hr7 (by omega) hn9 (by omega) hQ) (cwV 0 F.2.2.2.2.1 (good_up gT_X7_numberTold) rfl rfl rfl hdX7_numberTold ⟨Nat.le_of_ble_eq_true rfl, Nat.le_of_ble_eq_true rfl⟩) hm (by decide) rfl rfl rfl (Nat.le_of_ble_eq_true rfl) dX7_tableTold_65 ⟨Nat.zero_le _, Nat.zero_le _⟩) hS (fun v_74 I_68 R_69 J_70 AI_71 AJ_72 AR_73 H locs zv_74 hp_75 hH hS => ?_)
                dsimp only at hp_75
                obtain ⟨r_76, er_76⟩ : ∃ qQ : pR, qQ = thn (0, (h + 2), 0) (fun t _ => sNum b nn t) := ⟨_, rfl⟩
                rw [← er_76] at hp_75
                obtain ⟨rfl, rfl, rfl, rfl, hv, pfq, q_77, q_78, hQ, q_79⟩ := hp_75
                have pf := qF_t pf pfq
                have u_80_2 : (I_68 mo 2).toInt = (I mo 2).toInt := by rw [pf 2 (by decide) (by decide) (by decide) (by decide) (by decide)]
                have u_80_5 : (I_68 mo 5).toInt = (I mo 5).toInt := by rw [pf 5 (by decide) (by decide) (by decide) (by decide) (by decide)]
                have u_80_14 : (I_68 mo 14).toInt = (I mo 14).toInt := by rw [pf 14 (by decide) (by decide) (by decide) (by decide) (by decide)]
                have u_80_16 : (I_68 mo 16).toInt = (I mo 16).toInt := by rw [pf 16 (by decide) (by decide) (by decide) (by decide) (by decide)]
                have u_80_18 : (I_68 mo 18).toInt = (I mo 18).toInt := by rw [pf 18 (by decide) (by decide) (by decide) (by decide) (by decide)]
                have er_76 : r_76 = sNum b nn (h + 2) := er_76
                have sr_76 := er_76
                rcases sNum_c er_76 with ⟨er_76, pr_76⟩ | ⟨er_76, pr_76⟩
                · have hQ : mQ gh I_68 J_70 AI AJ_18 mo b nn nr nt cc 0 (h + 3) := by rw [er_76] at hQ; exact hQ
                  have sr_76 : sNum b nn (h + 2) = (0, h + 3, pV b nn (h + 2)) := sr_76.symm.trans er_76
                  have vlr_76 := q_79 (by rw [er_76])
                  try rw [er_76] at vlr_76
                  try dsimp only at vlr_76
                  have kq_78 := q_78 (mQ_0 hQ rfl)
                  replace q_78 := hid q_78
                  refine lv_istore_n (lv' := [(2, .int (iI v_74)), (0, .ref mo), (1, .int (iI bh))]) F.1 F.2.1 dX7_tableTold_68 rfl hl (by decide) rfl (fun ls hl => ?_)
                  refine lv_aload_n F.1 F.2.1 dX7_tableTold_69 rfl (lv_at hl 1 rfl) ?_
                  refine z_iconst F dX7_tableTold_70 ?_
                  refine lv_iload_n F.1 F.2.1 dX7_tableTold_71 rfl (lv_at hl 0 rfl) ?_
                  refine z_iconst F dX7_tableTold_72 ?_
                  refine z_iconst F dX7_tableTold_73 ?_
                  refine z_iconst F dX7_tableTold_74 ?_
                  have b_81 := mJ hv hm
                  unfold mNum1 at b_81
                  refine g_callv (g_runV (As := [.int (iI 0), .int (iI v_74), .int (iI ((-1))), .int (iI ((-1))), .int (iI 0)]) (rest := []) (ci := 7) F hl.1 hH hS hz (c_X7_header l g gh T M I_68 R J_70 AI AJ_18 AR mo 0 v_74 (-1) (-1) 0 ⟨by decide, by decide⟩ zv_74 ⟨by decide, by decide⟩ ⟨by decide, by decide⟩ ⟨by decide, by decide⟩ hv hm hT (by omega) (by omega)) (cwV 5 F.2.2.2.2.1 (good_up gT_X7_header) rfl rfl rfl hdX7_header ⟨Nat.le_of_ble_eq_true rfl, Nat.le_of_ble_eq_true rfl⟩) hm (by decide) rfl rfl rfl (Nat.le_of_ble_eq_true rfl) dX7_tableTold_75 ⟨Nat.zero_le _, Nat.zero_le _⟩) hS (fun I_82 R_83 J_84 AI_85 AJ_86 AR_87 H locs hp_88 hH hS => ?_)
                  dsimp only at hp_88
                  obtain ⟨rfl, rfl, rfl, rfl, rfl, hv, hT, hhd⟩ := hp_88
                  replace hhd := hid hhd
                  have hQ : mQ gh I_68 J_70 AI_85 AJ_18 mo b nn nr nt cc 0 (h + 3) := mQ_a hQ (fun hf9 z9 h09 h19 => (hhd hf9).1 z9 h09 (Or.inl (by omega)))
                  have hfin : thn (f, h, 0) (fun t _ => sTbM b nn nr nt bh t) = (0, h + 3, pV b nn (h + 2)) := by
                    refine (thn_k q0).trans ?_
                    show sTbM b nn nr nt bh h = _
                    unfold sTbM
                    repeat (first | with_reducible rfl | refine ite_y (by omega) ?_ | refine ite_n (by omega) ?_ | refine thn_t sr_21 (by first | rfl | omega) ?_ | exact (thn_x sr_21.symm (by omega)).trans (pr_e (by omega) (by omega) (by omega)) | refine thn_t sr_76 (by first | rfl | omega) ?_ | exact (thn_x sr_76.symm (by omega)).trans (pr_e (by omega) (by omega) (by omega)) | unfold sTc | exact pr_e (by omega) (by omega) (by omega) | refine ite_y (pCf_ok (by omega) (by omega)) ?_ | refine ite_n (fun e9 => absurd (pCf_0 e9) (by omega)) ?_ | exact pr_e (pCf_no (by omega)) (by omega) (by omega) | exact pr_e (pCf_big (by omega) (by omega)) (by omega) (by omega))
                  exact g_vret F hr hlk hH hS hz ⟨rfl, rfl, hv, hT, pf, by first | (dsimp only; omega) | omega | rfl, by (try dsimp only); intro hf ht hn; exact row_mk (by omega) (hhd (by omega)) (by omega) (by omega) (fun h => absurd rfl h) (by omega) (fun _ h => htb (by omega) (M - 1) (by omega) (by omega)) (fun h => absurd h (by decide)) (fun h => absurd h (by decide)) (fun h => absurd h (by decide)) (fun h => absurd h (by decide)) (fun h => absurd h (by decide)) (fun h => absurd h (by decide)), by (try dsimp only); intro hf; exact ⟨by omega, by omega, kind0_step (by omega) (htb (by omega)) (hhd (by omega))⟩, by (try dsimp only); rw [hfin]; exact hQ, by (try dsimp only); rw [hfin]; have q9 := (hhd (mQ_0 hQ rfl)).2.2.1; rw [show M = (nr : Int) by omega] at q9; (try dsimp only); exact pIc_y (by omega), by (try dsimp only); rw [hfin]; exact pJm_y vlr_21⟩ dX7_tableTold_78
                · have hQ : mQ gh I_68 J_70 AI AJ_18 mo b nn nr nt cc 1 (h + 2) := by rw [er_76] at hQ; exact hQ
                  have sr_76 := sr_76.symm.trans er_76
                  have g9r_76 := mQ_f hQ (by omega)
                  replace q_78 := hid q_78
                  refine lv_istore_n (lv' := [(2, .int (iI v_74)), (0, .ref mo), (1, .int (iI bh))]) F.1 F.2.1 dX7_tableTold_68 rfl hl (by decide) rfl (fun ls hl => ?_)
                  refine lv_aload_n F.1 F.2.1 dX7_tableTold_69 rfl (lv_at hl 1 rfl) ?_
                  refine z_iconst F dX7_tableTold_70 ?_
                  refine lv_iload_n F.1 F.2.1 dX7_tableTold_71 rfl (lv_at hl 0 rfl) ?_
                  refine z_iconst F dX7_tableTold_72 ?_
                  refine z_iconst F dX7_tableTold_73 ?_
                  refine z_iconst F dX7_tableTold_74 ?_
                  have b_89 := mJ hv hm
                  unfold mNum1 at b_89
                  refine g_callv (g_runV (As := [.int (iI 0), .int (iI v_74), .int (iI ((-1))), .int (iI ((-1))), .int (iI 0)]) (rest := []) (ci := 7) F hl.1 hH hS hz (c_X7_header l g gh T M I_68 R J_70 AI AJ_18 AR mo 0 v_74 (-1) (-1) 0 ⟨by decide, by decide⟩ zv_74 ⟨by decide, by decide⟩ ⟨by decide, by decide⟩ ⟨by decide, by decide⟩ hv hm hT (by omega) (by omega)) (cwV 5 F.2.2.2.2.1 (good_up gT_X7_header) rfl rfl rfl hdX7_header ⟨Nat.le_of_ble_eq_true rfl, Nat.le_of_ble_eq_true rfl⟩) hm (by decide) rfl rfl rfl (Nat.le_of_ble_eq_true rfl) dX7_tableTold_75 ⟨Nat.zero_le _, Nat.zero_le _⟩) hS (fun I_90 R_91 J_92 AI_93 AJ_94 AR_95 H locs hp_96 hH hS => ?_)
                  dsimp only at hp_96
                  obtain ⟨rfl, rfl, rfl, rfl, rfl, hv, hT, hhd⟩ := hp_96
                  replace hhd := hid hhd
                  have hQ : mQ gh I_68 J_70 AI_93 AJ_18 mo b nn nr nt cc 1 (h + 2) := mQ_bad hQ (by omega) rfl
                  have hfin : thn (f, h, 0) (fun t _ => sTbM b nn nr nt bh t) = (1, h + 2, 0) := by
                    refine (thn_k q0).trans ?_
                    show sTbM b nn nr nt bh h = _
                    unfold sTbM
                    repeat (first | with_reducible rfl | refine ite_y (by omega) ?_ | refine ite_n (by omega) ?_ | refine thn_t sr_21 (by first | rfl | omega) ?_ | exact (thn_x sr_21.symm (by omega)).trans (pr_e (by omega) (by omega) (by omega)) | refine thn_t sr_76 (by first | rfl | omega) ?_ | exact (thn_x sr_76.symm (by omega)).trans (pr_e (by omega) (by omega) (by omega)) | unfold sTc | exact pr_e (by omega) (by omega) (by omega) | refine ite_y (pCf_ok (by omega) (by omega)) ?_ | refine ite_n (fun e9 => absurd (pCf_0 e9) (by omega)) ?_ | exact pr_e (pCf_no (by omega)) (by omega) (by omega) | exact pr_e (pCf_big (by omega) (by omega)) (by omega) (by omega))
                  exact g_vret F hr hlk hH hS hz ⟨rfl, rfl, hv, hT, pf, by first | (dsimp only; omega) | omega | rfl, by (try dsimp only); exact (fun hf => absurd hf (by omega)), by (try dsimp only); exact (fun hf => absurd hf (by omega)), by (try dsimp only); rw [hfin]; exact hQ, by (try dsimp only); rw [hfin]; exact pIc_n (by omega), by (try dsimp only); rw [hfin]; exact pJm_n (by omega)⟩ dX7_tableTold_78
              · refine lv_aload_n F.1 F.2.1 dX7_tableTold_59 rfl (lv_at hl 0 rfl) ?_
                refine z_iconst F dX7_tableTold_60 ?_
                refine g_callv (g_runV (As := [.int (iI 2)]) (rest := []) (ci := 7) F hl.1 hH hS hz (c_X7_wrongf l g gh T b nn nr nt cc 0 (h + 2) I_14 R J_16 AI AJ_18 AR mo 2 ⟨by decide, by decide⟩ hv hm hT (by omega) h65 hbM hr7 (by omega) hn9 (by omega) hQ) (cwV 1 F.2.2.2.2.1 (good_up gT_X7_wrong) rfl rfl rfl hdX7_wrong ⟨Nat.le_of_ble_eq_true rfl, Nat.le_of_ble_eq_true rfl⟩) hm (by decide) rfl rfl rfl (Nat.le_of_ble_eq_true rfl) dX7_tableTold_61 ⟨Nat.zero_le _, Nat.zero_le _⟩) hS (fun I_97 R_98 J_99 AI_100 AJ_101 AR_102 H locs hp_103 hH hS => ?_)
                dsimp only at hp_103
                obtain ⟨r_104, er_104⟩ : ∃ qQ : pR, qQ = thn (0, (h + 2), 0) (fun t _ => (2, t, 0)) := ⟨_, rfl⟩
                rw [← er_104] at hp_103
                obtain ⟨rfl, rfl, rfl, rfl, rfl, hv, pfq, q_105, hQ⟩ := hp_103
                have pf := qF_t pf pfq
                have u_106_2 : (I_97 mo 2).toInt = (I mo 2).toInt := by rw [pf 2 (by decide) (by decide) (by decide) (by decide) (by decide)]
                have u_106_5 : (I_97 mo 5).toInt = (I mo 5).toInt := by rw [pf 5 (by decide) (by decide) (by decide) (by decide) (by decide)]
                have u_106_14 : (I_97 mo 14).toInt = (I mo 14).toInt := by rw [pf 14 (by decide) (by decide) (by decide) (by decide) (by decide)]
                have u_106_16 : (I_97 mo 16).toInt = (I mo 16).toInt := by rw [pf 16 (by decide) (by decide) (by decide) (by decide) (by decide)]
                have u_106_18 : (I_97 mo 18).toInt = (I mo 18).toInt := by rw [pf 18 (by decide) (by decide) (by decide) (by decide) (by decide)]
                have er_104 : r_104 = (2, (h + 2), 0) := er_104
                have hQ : mQ gh I_97 J_16 AI AJ_18 mo b nn nr nt cc 2 (h + 2) := by rw [er_104] at hQ; exact hQ
                have q9_r_104 : (2 : Int) ≠ 0 := by omega
                have g9_r_104 := mQ_f hQ q9_r_104
                refine lv_aload_n F.1 F.2.1 dX7_tableTold_64 rfl (lv_at hl 0 rfl) ?_
                have b_107 := mJ hv hm
                unfold mNum1 at b_107
                refine g_calli (g_runV (As := []) (rest := []) (ci := 7) F hl.1 hH hS hz (c_X7_numberToldf l g gh T b nn nr nt cc 2 (h + 2) I_97 R J_16 AI AJ_18 AR mo hv hm hT (by omega) h65 hbM hr7 (by omega) hn9 (by omega) hQ) (cwV 0 F.2.2.2.2.1 (good_up gT_X7_numberTold) rfl rfl rfl hdX7_numberTold ⟨Nat.le_of_ble_eq_true rfl, Nat.le_of_ble_eq_true rfl⟩) hm (by decide) rfl rfl rfl (Nat.le_of_ble_eq_true rfl) dX7_tableTold_65 ⟨Nat.zero_le _, Nat.zero_le _⟩) hS (fun v_114 I_108 R_109 J_110 AI_111 AJ_112 AR_113 H locs zv_114 hp_115 hH hS => ?_)
                dsimp only at hp_115
                obtain ⟨r_116, er_116⟩ : ∃ qQ : pR, qQ = thn (2, (h + 2), 0) (fun t _ => sNum b nn t) := ⟨_, rfl⟩
                rw [← er_116] at hp_115
                obtain ⟨rfl, rfl, rfl, rfl, hv, pfq, q_117, q_118, hQ, q_119⟩ := hp_115
                have pf := qF_t pf pfq
                have u_120_2 : (I_108 mo 2).toInt = (I mo 2).toInt := by rw [pf 2 (by decide) (by decide) (by decide) (by decide) (by decide)]
                have u_120_5 : (I_108 mo 5).toInt = (I mo 5).toInt := by rw [pf 5 (by decide) (by decide) (by decide) (by decide) (by decide)]
                have u_120_14 : (I_108 mo 14).toInt = (I mo 14).toInt := by rw [pf 14 (by decide) (by decide) (by decide) (by decide) (by decide)]
                have u_120_16 : (I_108 mo 16).toInt = (I mo 16).toInt := by rw [pf 16 (by decide) (by decide) (by decide) (by decide) (by decide)]
                have u_120_18 : (I_108 mo 18).toInt = (I mo 18).toInt := by rw [pf 18 (by decide) (by decide) (by decide) (by decide) (by decide)]
                rw [thn_b (by omega)] at er_116
                have hQ : mQ gh I_108 J_110 AI AJ_18 mo b nn nr nt cc 2 (h + 2) := by rw [er_116] at hQ; exact hQ
                replace q_118 := hid q_118
                refine lv_istore_n (lv' := [(2, .int (iI v_114)), (0, .ref mo), (1, .int (iI bh))]) F.1 F.2.1 dX7_tableTold_68 rfl hl (by decide) rfl (fun ls hl => ?_)
                refine lv_aload_n F.1 F.2.1 dX7_tableTold_69 rfl (lv_at hl 1 rfl) ?_
                refine z_iconst F dX7_tableTold_70 ?_
                refine lv_iload_n F.1 F.2.1 dX7_tableTold_71 rfl (lv_at hl 0 rfl) ?_
                refine z_iconst F dX7_tableTold_72 ?_
                refine z_iconst F dX7_tableTold_73 ?_
                refine z_iconst F dX7_tableTold_74 ?_
                have b_121 := mJ hv hm
                unfold mNum1 at b_121
                refine g_callv (g_runV (As := [.int (iI 0), .int (iI v_114), .int (iI ((-1))), .int (iI ((-1))), .int (iI 0)]) (rest := []) (ci := 7) F hl.1 hH hS hz (c_X7_header l g gh T M I_108 R J_110 AI AJ_18 AR mo 0 v_114 (-1) (-1) 0 ⟨by decide, by decide⟩ zv_114 ⟨by decide, by decide⟩ ⟨by decide, by decide⟩ ⟨by decide, by decide⟩ hv hm hT (by omega) (by omega)) (cwV 5 F.2.2.2.2.1 (good_up gT_X7_header) rfl rfl rfl hdX7_header ⟨Nat.le_of_ble_eq_true rfl, Nat.le_of_ble_eq_true rfl⟩) hm (by decide) rfl rfl rfl (Nat.le_of_ble_eq_true rfl) dX7_tableTold_75 ⟨Nat.zero_le _, Nat.zero_le _⟩) hS (fun I_122 R_123 J_124 AI_125 AJ_126 AR_127 H locs hp_128 hH hS => ?_)
                dsimp only at hp_128
                obtain ⟨rfl, rfl, rfl, rfl, rfl, hv, hT, hhd⟩ := hp_128
                replace hhd := hid hhd
                have hQ : mQ gh I_108 J_110 AI_125 AJ_18 mo b nn nr nt cc 2 (h + 2) := mQ_bad hQ (by omega) rfl
                have hfin : thn (f, h, 0) (fun t _ => sTbM b nn nr nt bh t) = (2, h + 2, 0) := by
                  refine (thn_k q0).trans ?_
                  show sTbM b nn nr nt bh h = _
                  unfold sTbM
                  repeat (first | with_reducible rfl | refine ite_y (by omega) ?_ | refine ite_n (by omega) ?_ | refine thn_t sr_21 (by first | rfl | omega) ?_ | exact (thn_x sr_21.symm (by omega)).trans (pr_e (by omega) (by omega) (by omega)) | unfold sTc | exact pr_e (by omega) (by omega) (by omega) | refine ite_y (pCf_ok (by omega) (by omega)) ?_ | refine ite_n (fun e9 => absurd (pCf_0 e9) (by omega)) ?_ | exact pr_e (pCf_no (by omega)) (by omega) (by omega) | exact pr_e (pCf_big (by omega) (by omega)) (by omega) (by omega))
                exact g_vret F hr hlk hH hS hz ⟨rfl, rfl, hv, hT, pf, by first | (dsimp only; omega) | omega | rfl, by (try dsimp only); exact (fun hf => absurd hf (by omega)), by (try dsimp only); exact (fun hf => absurd hf (by omega)), by (try dsimp only); rw [hfin]; exact hQ, by (try dsimp only); rw [hfin]; exact pIc_n (by omega), by (try dsimp only); rw [hfin]; exact pJm_n (by omega)⟩ dX7_tableTold_78
        · have hQ : mQ gh I_14 J_16 AI AJ_18 mo b nn nr nt cc kdr_21 (h + 1) := by rw [er_21] at hQ; exact hQ
          have sr_21 := sr_21.symm.trans er_21
          have g9r_21 := mQ_f hQ (by omega)
          refine lv_aload_n F.1 F.2.1 dX7_tableTold_32 rfl (lv_at hl 0 rfl) ?_
          refine g_getI (ci := 7) (k := 24) F hH rfl (by decide) iX7 hm (by decide) rfl k81 dX7_tableTold_33 ?_
          have b_129 := mJ hv hm
          unfold mNum1 at b_129
          refine z_if_ne (tgt := 64) F dX7_tableTold_36 (by decide) (zr_t _) (fun c_130 => ?_) (fun c_130 => ?_)
          · refine lv_aload_n F.1 F.2.1 dX7_tableTold_64 rfl (lv_at hl 0 rfl) ?_
            refine g_calli (g_runV (As := []) (rest := []) (ci := 7) F hl.1 hH hS hz (c_X7_numberToldf l g gh T b nn nr nt cc kdr_21 (h + 1) I_14 R J_16 AI AJ_18 AR mo hv hm hT (by omega) h65 hbM hr7 (by omega) hn9 (by omega) hQ) (cwV 0 F.2.2.2.2.1 (good_up gT_X7_numberTold) rfl rfl rfl hdX7_numberTold ⟨Nat.le_of_ble_eq_true rfl, Nat.le_of_ble_eq_true rfl⟩) hm (by decide) rfl rfl rfl (Nat.le_of_ble_eq_true rfl) dX7_tableTold_65 ⟨Nat.zero_le _, Nat.zero_le _⟩) hS (fun v_137 I_131 R_132 J_133 AI_134 AJ_135 AR_136 H locs zv_137 hp_138 hH hS => ?_)
            dsimp only at hp_138
            obtain ⟨r_139, er_139⟩ : ∃ qQ : pR, qQ = thn (kdr_21, (h + 1), 0) (fun t _ => sNum b nn t) := ⟨_, rfl⟩
            rw [← er_139] at hp_138
            obtain ⟨rfl, rfl, rfl, rfl, hv, pfq, q_140, q_141, hQ, q_142⟩ := hp_138
            have pf := qF_t pf pfq
            have u_143_2 : (I_131 mo 2).toInt = (I mo 2).toInt := by rw [pf 2 (by decide) (by decide) (by decide) (by decide) (by decide)]
            have u_143_5 : (I_131 mo 5).toInt = (I mo 5).toInt := by rw [pf 5 (by decide) (by decide) (by decide) (by decide) (by decide)]
            have u_143_14 : (I_131 mo 14).toInt = (I mo 14).toInt := by rw [pf 14 (by decide) (by decide) (by decide) (by decide) (by decide)]
            have u_143_16 : (I_131 mo 16).toInt = (I mo 16).toInt := by rw [pf 16 (by decide) (by decide) (by decide) (by decide) (by decide)]
            have u_143_18 : (I_131 mo 18).toInt = (I mo 18).toInt := by rw [pf 18 (by decide) (by decide) (by decide) (by decide) (by decide)]
            rw [thn_b (by omega)] at er_139
            have hQ : mQ gh I_131 J_133 AI AJ_18 mo b nn nr nt cc kdr_21 (h + 1) := by rw [er_139] at hQ; exact hQ
            replace q_141 := hid q_141
            refine lv_istore_n (lv' := [(2, .int (iI v_137)), (0, .ref mo), (1, .int (iI bh))]) F.1 F.2.1 dX7_tableTold_68 rfl hl (by decide) rfl (fun ls hl => ?_)
            refine lv_aload_n F.1 F.2.1 dX7_tableTold_69 rfl (lv_at hl 1 rfl) ?_
            refine z_iconst F dX7_tableTold_70 ?_
            refine lv_iload_n F.1 F.2.1 dX7_tableTold_71 rfl (lv_at hl 0 rfl) ?_
            refine z_iconst F dX7_tableTold_72 ?_
            refine z_iconst F dX7_tableTold_73 ?_
            refine z_iconst F dX7_tableTold_74 ?_
            have b_144 := mJ hv hm
            unfold mNum1 at b_144
            refine g_callv (g_runV (As := [.int (iI 0), .int (iI v_137), .int (iI ((-1))), .int (iI ((-1))), .int (iI 0)]) (rest := []) (ci := 7) F hl.1 hH hS hz (c_X7_header l g gh T M I_131 R J_133 AI AJ_18 AR mo 0 v_137 (-1) (-1) 0 ⟨by decide, by decide⟩ zv_137 ⟨by decide, by decide⟩ ⟨by decide, by decide⟩ ⟨by decide, by decide⟩ hv hm hT (by omega) (by omega)) (cwV 5 F.2.2.2.2.1 (good_up gT_X7_header) rfl rfl rfl hdX7_header ⟨Nat.le_of_ble_eq_true rfl, Nat.le_of_ble_eq_true rfl⟩) hm (by decide) rfl rfl rfl (Nat.le_of_ble_eq_true rfl) dX7_tableTold_75 ⟨Nat.zero_le _, Nat.zero_le _⟩) hS (fun I_145 R_146 J_147 AI_148 AJ_149 AR_150 H locs hp_151 hH hS => ?_)
            dsimp only at hp_151
            obtain ⟨rfl, rfl, rfl, rfl, rfl, hv, hT, hhd⟩ := hp_151
            replace hhd := hid hhd
            have hQ : mQ gh I_131 J_133 AI_148 AJ_18 mo b nn nr nt cc kdr_21 (h + 1) := mQ_bad hQ (by omega) rfl
            have hfin : thn (f, h, 0) (fun t _ => sTbM b nn nr nt bh t) = (kdr_21, h + 1, 0) := by
              refine (thn_k q0).trans ?_
              show sTbM b nn nr nt bh h = _
              unfold sTbM
              repeat (first | with_reducible rfl | refine ite_y (by omega) ?_ | refine ite_n (by omega) ?_ | refine thn_t sr_21 (by first | rfl | omega) ?_ | exact (thn_x sr_21.symm (by omega)).trans (pr_e (by omega) (by omega) (by omega)) | unfold sTc | exact pr_e (by omega) (by omega) (by omega) | refine ite_y (pCf_ok (by omega) (by omega)) ?_ | refine ite_n (fun e9 => absurd (pCf_0 e9) (by omega)) ?_ | exact pr_e (pCf_no (by omega)) (by omega) (by omega) | exact pr_e (pCf_big (by omega) (by omega)) (by omega) (by omega))
            exact g_vret F hr hlk hH hS hz ⟨rfl, rfl, hv, hT, pf, by first | (dsimp only; omega) | omega | rfl, by (try dsimp only); exact (fun hf => absurd hf (by omega)), by (try dsimp only); exact (fun hf => absurd hf (by omega)), by (try dsimp only); rw [hfin]; exact hQ, by (try dsimp only); rw [hfin]; exact pIc_n (by omega), by (try dsimp only); rw [hfin]; exact pJm_n (by omega)⟩ dX7_tableTold_78
          · exact absurd (mQ_z hQ (by omega)) (by omega)
      · refine lv_aload_n F.1 F.2.1 dX7_tableTold_18 rfl (lv_at hl 0 rfl) ?_
        refine z_bipush F dX7_tableTold_19 (by decide) ?_
        refine g_callv (g_runV (As := [.int (iI 6)]) (rest := []) (ci := 7) F hl.1 hH hS hz (c_X7_wrongf l g gh T b nn nr nt cc 0 h I R J AI AJ AR mo 6 ⟨by decide, by decide⟩ hv hm hT (by omega) h65 hbM hr7 (by omega) hn9 (by omega) hQ) (cwV 1 F.2.2.2.2.1 (good_up gT_X7_wrong) rfl rfl rfl hdX7_wrong ⟨Nat.le_of_ble_eq_true rfl, Nat.le_of_ble_eq_true rfl⟩) hm (by decide) rfl rfl rfl (Nat.le_of_ble_eq_true rfl) dX7_tableTold_21 ⟨Nat.zero_le _, Nat.zero_le _⟩) hS (fun I_152 R_153 J_154 AI_155 AJ_156 AR_157 H locs hp_158 hH hS => ?_)
        dsimp only at hp_158
        obtain ⟨r_159, er_159⟩ : ∃ qQ : pR, qQ = thn (0, h, 0) (fun t _ => (6, t, 0)) := ⟨_, rfl⟩
        rw [← er_159] at hp_158
        obtain ⟨rfl, rfl, rfl, rfl, rfl, hv, pfq, q_160, hQ⟩ := hp_158
        have pf := qF_t pf pfq
        have u_161_2 : (I_152 mo 2).toInt = (I mo 2).toInt := by rw [pf 2 (by decide) (by decide) (by decide) (by decide) (by decide)]
        have u_161_5 : (I_152 mo 5).toInt = (I mo 5).toInt := by rw [pf 5 (by decide) (by decide) (by decide) (by decide) (by decide)]
        have u_161_14 : (I_152 mo 14).toInt = (I mo 14).toInt := by rw [pf 14 (by decide) (by decide) (by decide) (by decide) (by decide)]
        have u_161_16 : (I_152 mo 16).toInt = (I mo 16).toInt := by rw [pf 16 (by decide) (by decide) (by decide) (by decide) (by decide)]
        have u_161_18 : (I_152 mo 18).toInt = (I mo 18).toInt := by rw [pf 18 (by decide) (by decide) (by decide) (by decide) (by decide)]
        have er_159 : r_159 = (6, h, 0) := er_159
        have hQ : mQ gh I_152 J AI AJ mo b nn nr nt cc 6 h := by rw [er_159] at hQ; exact hQ
        have q9_r_159 : (6 : Int) ≠ 0 := by omega
        have g9_r_159 := mQ_f hQ q9_r_159
        refine lv_aload_n F.1 F.2.1 dX7_tableTold_24 rfl (lv_at hl 0 rfl) ?_
        have b_162 := mJ hv hm
        unfold mNum1 at b_162
        refine g_callv (g_runV (As := []) (rest := []) (ci := 7) F hl.1 hH hS hz (c_X7_nextf l g gh T b nn (tNd b nn (tPs b nn h)) I_152 R J AI AJ AR mo hv hm hT (by omega) (mTp hv h65 hbM) hr7 (by omega) (by omega) (mQ_e0 hQ) tNd_le.1) (cwV 0 F.2.2.2.2.1 (good_up gT_X7_next) rfl rfl rfl hdX7_next ⟨Nat.le_of_ble_eq_true rfl, Nat.le_of_ble_eq_true rfl⟩) hm (by decide) rfl rfl rfl (Nat.le_of_ble_eq_true rfl) dX7_tableTold_25 ⟨Nat.zero_le _, Nat.zero_le _⟩) hS (fun I_163 R_164 J_165 AI_166 AJ_167 AR_168 H locs hp_169 hH hS => ?_)
        dsimp only at hp_169
        obtain ⟨rfl, rfl, rfl, rfl, hv, pfq, q_170, nx4, nxa, nxb⟩ := hp_169
        have pf := qF_t pf pfq
        have u_171_2 : (I_163 mo 2).toInt = (I mo 2).toInt := by rw [pf 2 (by decide) (by decide) (by decide) (by decide) (by decide)]
        have u_171_5 : (I_163 mo 5).toInt = (I mo 5).toInt := by rw [pf 5 (by decide) (by decide) (by decide) (by decide) (by decide)]
        have u_171_14 : (I_163 mo 14).toInt = (I mo 14).toInt := by rw [pf 14 (by decide) (by decide) (by decide) (by decide) (by decide)]
        have u_171_16 : (I_163 mo 16).toInt = (I mo 16).toInt := by rw [pf 16 (by decide) (by decide) (by decide) (by decide) (by decide)]
        have u_171_18 : (I_163 mo 18).toInt = (I mo 18).toInt := by rw [pf 18 (by decide) (by decide) (by decide) (by decide) (by decide)]
        have hQ : mQ gh I_163 J_165 AI AJ mo b nn nr nt cc 6 h := by have q9 := mQ_nx hQ nx4 nxa; rw [thn_b (by omega)] at q9; exact q9
        clear nxa nxb
        refine lv_aload_n F.1 F.2.1 dX7_tableTold_28 rfl (lv_at hl 0 rfl) ?_
        have b_172 := mJ hv hm
        unfold mNum1 at b_172
        refine g_callv (g_runV (As := []) (rest := []) (ci := 7) F hl.1 hH hS hz (c_X7_newNamef l g gh T b nn nr nt cc 6 h I_163 R J_165 AI AJ AR mo hv hm hT (by omega) (by omega) h65 hbM hr7 (by omega) hn9 (by omega) hQ) (cwV 0 F.2.2.2.2.1 (good_up gT_X7_newName) rfl rfl rfl hdX7_newName ⟨Nat.le_of_ble_eq_true rfl, Nat.le_of_ble_eq_true rfl⟩) hm (by decide) rfl rfl rfl (Nat.le_of_ble_eq_true rfl) dX7_tableTold_29 ⟨Nat.zero_le _, Nat.zero_le _⟩) hS (fun I_173 R_174 J_175 AI_176 AJ_177 AR_178 H locs hp_179 hH hS => ?_)
        dsimp only at hp_179
        obtain ⟨r_180, er_180⟩ : ∃ qQ : pR, qQ = thn (6, h, 0) (fun t _ => sNam b nn nr nt t) := ⟨_, rfl⟩
        rw [← er_180] at hp_179
        obtain ⟨rfl, rfl, rfl, hv, pfq, q_181, hQ, q_182⟩ := hp_179
        have pf := qF_t pf pfq
        have u_183_2 : (I_173 mo 2).toInt = (I mo 2).toInt := by rw [pf 2 (by decide) (by decide) (by decide) (by decide) (by decide)]
        have u_183_5 : (I_173 mo 5).toInt = (I mo 5).toInt := by rw [pf 5 (by decide) (by decide) (by decide) (by decide) (by decide)]
        have u_183_14 : (I_173 mo 14).toInt = (I mo 14).toInt := by rw [pf 14 (by decide) (by decide) (by decide) (by decide) (by decide)]
        have u_183_16 : (I_173 mo 16).toInt = (I mo 16).toInt := by rw [pf 16 (by decide) (by decide) (by decide) (by decide) (by decide)]
        have u_183_18 : (I_173 mo 18).toInt = (I mo 18).toInt := by rw [pf 18 (by decide) (by decide) (by decide) (by decide) (by decide)]
        rw [thn_b (by omega)] at er_180
        have hQ : mQ gh I_173 J_175 AI AJ_177 mo b nn nr nt cc 6 h := by rw [er_180] at hQ; exact hQ
        refine lv_aload_n F.1 F.2.1 dX7_tableTold_32 rfl (lv_at hl 0 rfl) ?_
        refine g_getI (ci := 7) (k := 24) F hH rfl (by decide) iX7 hm (by decide) rfl k81 dX7_tableTold_33 ?_
        have b_184 := mJ hv hm
        unfold mNum1 at b_184
        refine z_if_ne (tgt := 64) F dX7_tableTold_36 (by decide) (zr_t _) (fun c_185 => ?_) (fun c_185 => ?_)
        · refine lv_aload_n F.1 F.2.1 dX7_tableTold_64 rfl (lv_at hl 0 rfl) ?_
          refine g_calli (g_runV (As := []) (rest := []) (ci := 7) F hl.1 hH hS hz (c_X7_numberToldf l g gh T b nn nr nt cc 6 h I_173 R J_175 AI AJ_177 AR mo hv hm hT (by omega) h65 hbM hr7 (by omega) hn9 (by omega) hQ) (cwV 0 F.2.2.2.2.1 (good_up gT_X7_numberTold) rfl rfl rfl hdX7_numberTold ⟨Nat.le_of_ble_eq_true rfl, Nat.le_of_ble_eq_true rfl⟩) hm (by decide) rfl rfl rfl (Nat.le_of_ble_eq_true rfl) dX7_tableTold_65 ⟨Nat.zero_le _, Nat.zero_le _⟩) hS (fun v_192 I_186 R_187 J_188 AI_189 AJ_190 AR_191 H locs zv_192 hp_193 hH hS => ?_)
          dsimp only at hp_193
          obtain ⟨r_194, er_194⟩ : ∃ qQ : pR, qQ = thn (6, h, 0) (fun t _ => sNum b nn t) := ⟨_, rfl⟩
          rw [← er_194] at hp_193
          obtain ⟨rfl, rfl, rfl, rfl, hv, pfq, q_195, q_196, hQ, q_197⟩ := hp_193
          have pf := qF_t pf pfq
          have u_198_2 : (I_186 mo 2).toInt = (I mo 2).toInt := by rw [pf 2 (by decide) (by decide) (by decide) (by decide) (by decide)]
          have u_198_5 : (I_186 mo 5).toInt = (I mo 5).toInt := by rw [pf 5 (by decide) (by decide) (by decide) (by decide) (by decide)]
          have u_198_14 : (I_186 mo 14).toInt = (I mo 14).toInt := by rw [pf 14 (by decide) (by decide) (by decide) (by decide) (by decide)]
          have u_198_16 : (I_186 mo 16).toInt = (I mo 16).toInt := by rw [pf 16 (by decide) (by decide) (by decide) (by decide) (by decide)]
          have u_198_18 : (I_186 mo 18).toInt = (I mo 18).toInt := by rw [pf 18 (by decide) (by decide) (by decide) (by decide) (by decide)]
          rw [thn_b (by omega)] at er_194
          have hQ : mQ gh I_186 J_188 AI AJ_177 mo b nn nr nt cc 6 h := by rw [er_194] at hQ; exact hQ
          replace q_196 := hid q_196
          refine lv_istore_n (lv' := [(2, .int (iI v_192)), (0, .ref mo), (1, .int (iI bh))]) F.1 F.2.1 dX7_tableTold_68 rfl hl (by decide) rfl (fun ls hl => ?_)
          refine lv_aload_n F.1 F.2.1 dX7_tableTold_69 rfl (lv_at hl 1 rfl) ?_
          refine z_iconst F dX7_tableTold_70 ?_
          refine lv_iload_n F.1 F.2.1 dX7_tableTold_71 rfl (lv_at hl 0 rfl) ?_
          refine z_iconst F dX7_tableTold_72 ?_
          refine z_iconst F dX7_tableTold_73 ?_
          refine z_iconst F dX7_tableTold_74 ?_
          have b_199 := mJ hv hm
          unfold mNum1 at b_199
          refine g_callv (g_runV (As := [.int (iI 0), .int (iI v_192), .int (iI ((-1))), .int (iI ((-1))), .int (iI 0)]) (rest := []) (ci := 7) F hl.1 hH hS hz (c_X7_header l g gh T M I_186 R J_188 AI AJ_177 AR mo 0 v_192 (-1) (-1) 0 ⟨by decide, by decide⟩ zv_192 ⟨by decide, by decide⟩ ⟨by decide, by decide⟩ ⟨by decide, by decide⟩ hv hm hT (by omega) (by omega)) (cwV 5 F.2.2.2.2.1 (good_up gT_X7_header) rfl rfl rfl hdX7_header ⟨Nat.le_of_ble_eq_true rfl, Nat.le_of_ble_eq_true rfl⟩) hm (by decide) rfl rfl rfl (Nat.le_of_ble_eq_true rfl) dX7_tableTold_75 ⟨Nat.zero_le _, Nat.zero_le _⟩) hS (fun I_200 R_201 J_202 AI_203 AJ_204 AR_205 H locs hp_206 hH hS => ?_)
          dsimp only at hp_206
          obtain ⟨rfl, rfl, rfl, rfl, rfl, hv, hT, hhd⟩ := hp_206
          replace hhd := hid hhd
          have hQ : mQ gh I_186 J_188 AI_203 AJ_177 mo b nn nr nt cc 6 h := mQ_bad hQ (by omega) rfl
          have hfin : thn (f, h, 0) (fun t _ => sTbM b nn nr nt bh t) = (6, h, 0) := by
            refine (thn_k q0).trans ?_
            show sTbM b nn nr nt bh h = _
            unfold sTbM
            repeat (first | with_reducible rfl | refine ite_y (by omega) ?_ | refine ite_n (by omega) ?_ | unfold sTc | exact pr_e (by omega) (by omega) (by omega) | refine ite_y (pCf_ok (by omega) (by omega)) ?_ | refine ite_n (fun e9 => absurd (pCf_0 e9) (by omega)) ?_ | exact pr_e (pCf_no (by omega)) (by omega) (by omega) | exact pr_e (pCf_big (by omega) (by omega)) (by omega) (by omega))
          exact g_vret F hr hlk hH hS hz ⟨rfl, rfl, hv, hT, pf, by first | (dsimp only; omega) | omega | rfl, by (try dsimp only); exact (fun hf => absurd hf (by omega)), by (try dsimp only); exact (fun hf => absurd hf (by omega)), by (try dsimp only); rw [hfin]; exact hQ, by (try dsimp only); rw [hfin]; exact pIc_n (by omega), by (try dsimp only); rw [hfin]; exact pJm_n (by omega)⟩ dX7_tableTold_78
        · exact absurd (mQ_z hQ (by omega)) (by omega)
    · refine lv_aload_n F.1 F.2.1 dX7_tableTold_9 rfl (lv_at hl 0 rfl) ?_
      refine z_iconst F dX7_tableTold_10 ?_
      refine g_callv (g_runV (As := [.int (iI 4)]) (rest := []) (ci := 7) F hl.1 hH hS hz (c_X7_wrongf l g gh T b nn nr nt cc 0 h I R J AI AJ AR mo 4 ⟨by decide, by decide⟩ hv hm hT (by omega) h65 hbM hr7 (by omega) hn9 (by omega) hQ) (cwV 1 F.2.2.2.2.1 (good_up gT_X7_wrong) rfl rfl rfl hdX7_wrong ⟨Nat.le_of_ble_eq_true rfl, Nat.le_of_ble_eq_true rfl⟩) hm (by decide) rfl rfl rfl (Nat.le_of_ble_eq_true rfl) dX7_tableTold_11 ⟨Nat.zero_le _, Nat.zero_le _⟩) hS (fun I_207 R_208 J_209 AI_210 AJ_211 AR_212 H locs hp_213 hH hS => ?_)
      dsimp only at hp_213
      obtain ⟨r_214, er_214⟩ : ∃ qQ : pR, qQ = thn (0, h, 0) (fun t _ => (4, t, 0)) := ⟨_, rfl⟩
      rw [← er_214] at hp_213
      obtain ⟨rfl, rfl, rfl, rfl, rfl, hv, pfq, q_215, hQ⟩ := hp_213
      have pf := qF_t pf pfq
      have u_216_2 : (I_207 mo 2).toInt = (I mo 2).toInt := by rw [pf 2 (by decide) (by decide) (by decide) (by decide) (by decide)]
      have u_216_5 : (I_207 mo 5).toInt = (I mo 5).toInt := by rw [pf 5 (by decide) (by decide) (by decide) (by decide) (by decide)]
      have u_216_14 : (I_207 mo 14).toInt = (I mo 14).toInt := by rw [pf 14 (by decide) (by decide) (by decide) (by decide) (by decide)]
      have u_216_16 : (I_207 mo 16).toInt = (I mo 16).toInt := by rw [pf 16 (by decide) (by decide) (by decide) (by decide) (by decide)]
      have u_216_18 : (I_207 mo 18).toInt = (I mo 18).toInt := by rw [pf 18 (by decide) (by decide) (by decide) (by decide) (by decide)]
      have er_214 : r_214 = (4, h, 0) := er_214
      have hQ : mQ gh I_207 J AI AJ mo b nn nr nt cc 4 h := by rw [er_214] at hQ; exact hQ
      have q9_r_214 : (4 : Int) ≠ 0 := by omega
      have g9_r_214 := mQ_f hQ q9_r_214
      refine lv_iload_n F.1 F.2.1 dX7_tableTold_14 rfl (lv_at hl 1 rfl) ?_
      refine z_if_eq (tgt := 24) F dX7_tableTold_15 (by decide) zbh (fun c_217 => ?_) (fun c_217 => ?_)
      · refine lv_aload_n F.1 F.2.1 dX7_tableTold_24 rfl (lv_at hl 0 rfl) ?_
        have b_218 := mJ hv hm
        unfold mNum1 at b_218
        refine g_callv (g_runV (As := []) (rest := []) (ci := 7) F hl.1 hH hS hz (c_X7_nextf l g gh T b nn (tNd b nn (tPs b nn h)) I_207 R J AI AJ AR mo hv hm hT (by omega) (mTp hv h65 hbM) hr7 (by omega) (by omega) (mQ_e0 hQ) tNd_le.1) (cwV 0 F.2.2.2.2.1 (good_up gT_X7_next) rfl rfl rfl hdX7_next ⟨Nat.le_of_ble_eq_true rfl, Nat.le_of_ble_eq_true rfl⟩) hm (by decide) rfl rfl rfl (Nat.le_of_ble_eq_true rfl) dX7_tableTold_25 ⟨Nat.zero_le _, Nat.zero_le _⟩) hS (fun I_219 R_220 J_221 AI_222 AJ_223 AR_224 H locs hp_225 hH hS => ?_)
        dsimp only at hp_225
        obtain ⟨rfl, rfl, rfl, rfl, hv, pfq, q_226, nx4, nxa, nxb⟩ := hp_225
        have pf := qF_t pf pfq
        have u_227_2 : (I_219 mo 2).toInt = (I mo 2).toInt := by rw [pf 2 (by decide) (by decide) (by decide) (by decide) (by decide)]
        have u_227_5 : (I_219 mo 5).toInt = (I mo 5).toInt := by rw [pf 5 (by decide) (by decide) (by decide) (by decide) (by decide)]
        have u_227_14 : (I_219 mo 14).toInt = (I mo 14).toInt := by rw [pf 14 (by decide) (by decide) (by decide) (by decide) (by decide)]
        have u_227_16 : (I_219 mo 16).toInt = (I mo 16).toInt := by rw [pf 16 (by decide) (by decide) (by decide) (by decide) (by decide)]
        have u_227_18 : (I_219 mo 18).toInt = (I mo 18).toInt := by rw [pf 18 (by decide) (by decide) (by decide) (by decide) (by decide)]
        have hQ : mQ gh I_219 J_221 AI AJ mo b nn nr nt cc 4 h := by have q9 := mQ_nx hQ nx4 nxa; rw [thn_b (by omega)] at q9; exact q9
        clear nxa nxb
        refine lv_aload_n F.1 F.2.1 dX7_tableTold_28 rfl (lv_at hl 0 rfl) ?_
        have b_228 := mJ hv hm
        unfold mNum1 at b_228
        refine g_callv (g_runV (As := []) (rest := []) (ci := 7) F hl.1 hH hS hz (c_X7_newNamef l g gh T b nn nr nt cc 4 h I_219 R J_221 AI AJ AR mo hv hm hT (by omega) (by omega) h65 hbM hr7 (by omega) hn9 (by omega) hQ) (cwV 0 F.2.2.2.2.1 (good_up gT_X7_newName) rfl rfl rfl hdX7_newName ⟨Nat.le_of_ble_eq_true rfl, Nat.le_of_ble_eq_true rfl⟩) hm (by decide) rfl rfl rfl (Nat.le_of_ble_eq_true rfl) dX7_tableTold_29 ⟨Nat.zero_le _, Nat.zero_le _⟩) hS (fun I_229 R_230 J_231 AI_232 AJ_233 AR_234 H locs hp_235 hH hS => ?_)
        dsimp only at hp_235
        obtain ⟨r_236, er_236⟩ : ∃ qQ : pR, qQ = thn (4, h, 0) (fun t _ => sNam b nn nr nt t) := ⟨_, rfl⟩
        rw [← er_236] at hp_235
        obtain ⟨rfl, rfl, rfl, hv, pfq, q_237, hQ, q_238⟩ := hp_235
        have pf := qF_t pf pfq
        have u_239_2 : (I_229 mo 2).toInt = (I mo 2).toInt := by rw [pf 2 (by decide) (by decide) (by decide) (by decide) (by decide)]
        have u_239_5 : (I_229 mo 5).toInt = (I mo 5).toInt := by rw [pf 5 (by decide) (by decide) (by decide) (by decide) (by decide)]
        have u_239_14 : (I_229 mo 14).toInt = (I mo 14).toInt := by rw [pf 14 (by decide) (by decide) (by decide) (by decide) (by decide)]
        have u_239_16 : (I_229 mo 16).toInt = (I mo 16).toInt := by rw [pf 16 (by decide) (by decide) (by decide) (by decide) (by decide)]
        have u_239_18 : (I_229 mo 18).toInt = (I mo 18).toInt := by rw [pf 18 (by decide) (by decide) (by decide) (by decide) (by decide)]
        rw [thn_b (by omega)] at er_236
        have hQ : mQ gh I_229 J_231 AI AJ_233 mo b nn nr nt cc 4 h := by rw [er_236] at hQ; exact hQ
        refine lv_aload_n F.1 F.2.1 dX7_tableTold_32 rfl (lv_at hl 0 rfl) ?_
        refine g_getI (ci := 7) (k := 24) F hH rfl (by decide) iX7 hm (by decide) rfl k81 dX7_tableTold_33 ?_
        have b_240 := mJ hv hm
        unfold mNum1 at b_240
        refine z_if_ne (tgt := 64) F dX7_tableTold_36 (by decide) (zr_t _) (fun c_241 => ?_) (fun c_241 => ?_)
        · refine lv_aload_n F.1 F.2.1 dX7_tableTold_64 rfl (lv_at hl 0 rfl) ?_
          refine g_calli (g_runV (As := []) (rest := []) (ci := 7) F hl.1 hH hS hz (c_X7_numberToldf l g gh T b nn nr nt cc 4 h I_229 R J_231 AI AJ_233 AR mo hv hm hT (by omega) h65 hbM hr7 (by omega) hn9 (by omega) hQ) (cwV 0 F.2.2.2.2.1 (good_up gT_X7_numberTold) rfl rfl rfl hdX7_numberTold ⟨Nat.le_of_ble_eq_true rfl, Nat.le_of_ble_eq_true rfl⟩) hm (by decide) rfl rfl rfl (Nat.le_of_ble_eq_true rfl) dX7_tableTold_65 ⟨Nat.zero_le _, Nat.zero_le _⟩) hS (fun v_248 I_242 R_243 J_244 AI_245 AJ_246 AR_247 H locs zv_248 hp_249 hH hS => ?_)
          dsimp only at hp_249
          obtain ⟨r_250, er_250⟩ : ∃ qQ : pR, qQ = thn (4, h, 0) (fun t _ => sNum b nn t) := ⟨_, rfl⟩
          rw [← er_250] at hp_249
          obtain ⟨rfl, rfl, rfl, rfl, hv, pfq, q_251, q_252, hQ, q_253⟩ := hp_249
          have pf := qF_t pf pfq
          have u_254_2 : (I_242 mo 2).toInt = (I mo 2).toInt := by rw [pf 2 (by decide) (by decide) (by decide) (by decide) (by decide)]
          have u_254_5 : (I_242 mo 5).toInt = (I mo 5).toInt := by rw [pf 5 (by decide) (by decide) (by decide) (by decide) (by decide)]
          have u_254_14 : (I_242 mo 14).toInt = (I mo 14).toInt := by rw [pf 14 (by decide) (by decide) (by decide) (by decide) (by decide)]
          have u_254_16 : (I_242 mo 16).toInt = (I mo 16).toInt := by rw [pf 16 (by decide) (by decide) (by decide) (by decide) (by decide)]
          have u_254_18 : (I_242 mo 18).toInt = (I mo 18).toInt := by rw [pf 18 (by decide) (by decide) (by decide) (by decide) (by decide)]
          rw [thn_b (by omega)] at er_250
          have hQ : mQ gh I_242 J_244 AI AJ_233 mo b nn nr nt cc 4 h := by rw [er_250] at hQ; exact hQ
          replace q_252 := hid q_252
          refine lv_istore_n (lv' := [(2, .int (iI v_248)), (0, .ref mo), (1, .int (iI bh))]) F.1 F.2.1 dX7_tableTold_68 rfl hl (by decide) rfl (fun ls hl => ?_)
          refine lv_aload_n F.1 F.2.1 dX7_tableTold_69 rfl (lv_at hl 1 rfl) ?_
          refine z_iconst F dX7_tableTold_70 ?_
          refine lv_iload_n F.1 F.2.1 dX7_tableTold_71 rfl (lv_at hl 0 rfl) ?_
          refine z_iconst F dX7_tableTold_72 ?_
          refine z_iconst F dX7_tableTold_73 ?_
          refine z_iconst F dX7_tableTold_74 ?_
          have b_255 := mJ hv hm
          unfold mNum1 at b_255
          refine g_callv (g_runV (As := [.int (iI 0), .int (iI v_248), .int (iI ((-1))), .int (iI ((-1))), .int (iI 0)]) (rest := []) (ci := 7) F hl.1 hH hS hz (c_X7_header l g gh T M I_242 R J_244 AI AJ_233 AR mo 0 v_248 (-1) (-1) 0 ⟨by decide, by decide⟩ zv_248 ⟨by decide, by decide⟩ ⟨by decide, by decide⟩ ⟨by decide, by decide⟩ hv hm hT (by omega) (by omega)) (cwV 5 F.2.2.2.2.1 (good_up gT_X7_header) rfl rfl rfl hdX7_header ⟨Nat.le_of_ble_eq_true rfl, Nat.le_of_ble_eq_true rfl⟩) hm (by decide) rfl rfl rfl (Nat.le_of_ble_eq_true rfl) dX7_tableTold_75 ⟨Nat.zero_le _, Nat.zero_le _⟩) hS (fun I_256 R_257 J_258 AI_259 AJ_260 AR_261 H locs hp_262 hH hS => ?_)
          dsimp only at hp_262
          obtain ⟨rfl, rfl, rfl, rfl, rfl, hv, hT, hhd⟩ := hp_262
          replace hhd := hid hhd
          have hQ : mQ gh I_242 J_244 AI_259 AJ_233 mo b nn nr nt cc 4 h := mQ_bad hQ (by omega) rfl
          have hfin : thn (f, h, 0) (fun t _ => sTbM b nn nr nt bh t) = (4, h, 0) := by
            refine (thn_k q0).trans ?_
            show sTbM b nn nr nt bh h = _
            unfold sTbM
            repeat (first | with_reducible rfl | refine ite_y (by omega) ?_ | refine ite_n (by omega) ?_ | unfold sTc | exact pr_e (by omega) (by omega) (by omega) | refine ite_y (pCf_ok (by omega) (by omega)) ?_ | refine ite_n (fun e9 => absurd (pCf_0 e9) (by omega)) ?_ | exact pr_e (pCf_no (by omega)) (by omega) (by omega) | exact pr_e (pCf_big (by omega) (by omega)) (by omega) (by omega))
          exact g_vret F hr hlk hH hS hz ⟨rfl, rfl, hv, hT, pf, by first | (dsimp only; omega) | omega | rfl, by (try dsimp only); exact (fun hf => absurd hf (by omega)), by (try dsimp only); exact (fun hf => absurd hf (by omega)), by (try dsimp only); rw [hfin]; exact hQ, by (try dsimp only); rw [hfin]; exact pIc_n (by omega), by (try dsimp only); rw [hfin]; exact pJm_n (by omega)⟩ dX7_tableTold_78
        · exact absurd (mQ_z hQ (by omega)) (by omega)
      · refine lv_aload_n F.1 F.2.1 dX7_tableTold_18 rfl (lv_at hl 0 rfl) ?_
        refine z_bipush F dX7_tableTold_19 (by decide) ?_
        have b_263 := mJ hv hm
        unfold mNum1 at b_263
        refine g_callv (g_runV (As := [.int (iI 6)]) (rest := []) (ci := 7) F hl.1 hH hS hz (c_X7_wrongf l g gh T b nn nr nt cc 4 h I_207 R J AI AJ AR mo 6 ⟨by decide, by decide⟩ hv hm hT (by omega) h65 hbM hr7 (by omega) hn9 (by omega) hQ) (cwV 1 F.2.2.2.2.1 (good_up gT_X7_wrong) rfl rfl rfl hdX7_wrong ⟨Nat.le_of_ble_eq_true rfl, Nat.le_of_ble_eq_true rfl⟩) hm (by decide) rfl rfl rfl (Nat.le_of_ble_eq_true rfl) dX7_tableTold_21 ⟨Nat.zero_le _, Nat.zero_le _⟩) hS (fun I_264 R_265 J_266 AI_267 AJ_268 AR_269 H locs hp_270 hH hS => ?_)
        dsimp only at hp_270
        obtain ⟨r_271, er_271⟩ : ∃ qQ : pR, qQ = thn (4, h, 0) (fun t _ => (6, t, 0)) := ⟨_, rfl⟩
        rw [← er_271] at hp_270
        obtain ⟨rfl, rfl, rfl, rfl, rfl, hv, pfq, q_272, hQ⟩ := hp_270
        have pf := qF_t pf pfq
        have u_273_2 : (I_264 mo 2).toInt = (I mo 2).toInt := by rw [pf 2 (by decide) (by decide) (by decide) (by decide) (by decide)]
        have u_273_5 : (I_264 mo 5).toInt = (I mo 5).toInt := by rw [pf 5 (by decide) (by decide) (by decide) (by decide) (by decide)]
        have u_273_14 : (I_264 mo 14).toInt = (I mo 14).toInt := by rw [pf 14 (by decide) (by decide) (by decide) (by decide) (by decide)]
        have u_273_16 : (I_264 mo 16).toInt = (I mo 16).toInt := by rw [pf 16 (by decide) (by decide) (by decide) (by decide) (by decide)]
        have u_273_18 : (I_264 mo 18).toInt = (I mo 18).toInt := by rw [pf 18 (by decide) (by decide) (by decide) (by decide) (by decide)]
        rw [thn_b (by omega)] at er_271
        have hQ : mQ gh I_264 J AI AJ mo b nn nr nt cc 4 h := by rw [er_271] at hQ; exact hQ
        refine lv_aload_n F.1 F.2.1 dX7_tableTold_24 rfl (lv_at hl 0 rfl) ?_
        have b_274 := mJ hv hm
        unfold mNum1 at b_274
        refine g_callv (g_runV (As := []) (rest := []) (ci := 7) F hl.1 hH hS hz (c_X7_nextf l g gh T b nn (tNd b nn (tPs b nn h)) I_264 R J AI AJ AR mo hv hm hT (by omega) (mTp hv h65 hbM) hr7 (by omega) (by omega) (mQ_e0 hQ) tNd_le.1) (cwV 0 F.2.2.2.2.1 (good_up gT_X7_next) rfl rfl rfl hdX7_next ⟨Nat.le_of_ble_eq_true rfl, Nat.le_of_ble_eq_true rfl⟩) hm (by decide) rfl rfl rfl (Nat.le_of_ble_eq_true rfl) dX7_tableTold_25 ⟨Nat.zero_le _, Nat.zero_le _⟩) hS (fun I_275 R_276 J_277 AI_278 AJ_279 AR_280 H locs hp_281 hH hS => ?_)
        dsimp only at hp_281
        obtain ⟨rfl, rfl, rfl, rfl, hv, pfq, q_282, nx4, nxa, nxb⟩ := hp_281
        have pf := qF_t pf pfq
        have u_283_2 : (I_275 mo 2).toInt = (I mo 2).toInt := by rw [pf 2 (by decide) (by decide) (by decide) (by decide) (by decide)]
        have u_283_5 : (I_275 mo 5).toInt = (I mo 5).toInt := by rw [pf 5 (by decide) (by decide) (by decide) (by decide) (by decide)]
        have u_283_14 : (I_275 mo 14).toInt = (I mo 14).toInt := by rw [pf 14 (by decide) (by decide) (by decide) (by decide) (by decide)]
        have u_283_16 : (I_275 mo 16).toInt = (I mo 16).toInt := by rw [pf 16 (by decide) (by decide) (by decide) (by decide) (by decide)]
        have u_283_18 : (I_275 mo 18).toInt = (I mo 18).toInt := by rw [pf 18 (by decide) (by decide) (by decide) (by decide) (by decide)]
        have hQ : mQ gh I_275 J_277 AI AJ mo b nn nr nt cc 4 h := by have q9 := mQ_nx hQ nx4 nxa; rw [thn_b (by omega)] at q9; exact q9
        clear nxa nxb
        refine lv_aload_n F.1 F.2.1 dX7_tableTold_28 rfl (lv_at hl 0 rfl) ?_
        have b_284 := mJ hv hm
        unfold mNum1 at b_284
        refine g_callv (g_runV (As := []) (rest := []) (ci := 7) F hl.1 hH hS hz (c_X7_newNamef l g gh T b nn nr nt cc 4 h I_275 R J_277 AI AJ AR mo hv hm hT (by omega) (by omega) h65 hbM hr7 (by omega) hn9 (by omega) hQ) (cwV 0 F.2.2.2.2.1 (good_up gT_X7_newName) rfl rfl rfl hdX7_newName ⟨Nat.le_of_ble_eq_true rfl, Nat.le_of_ble_eq_true rfl⟩) hm (by decide) rfl rfl rfl (Nat.le_of_ble_eq_true rfl) dX7_tableTold_29 ⟨Nat.zero_le _, Nat.zero_le _⟩) hS (fun I_285 R_286 J_287 AI_288 AJ_289 AR_290 H locs hp_291 hH hS => ?_)
        dsimp only at hp_291
        obtain ⟨r_292, er_292⟩ : ∃ qQ : pR, qQ = thn (4, h, 0) (fun t _ => sNam b nn nr nt t) := ⟨_, rfl⟩
        rw [← er_292] at hp_291
        obtain ⟨rfl, rfl, rfl, hv, pfq, q_293, hQ, q_294⟩ := hp_291
        have pf := qF_t pf pfq
        have u_295_2 : (I_285 mo 2).toInt = (I mo 2).toInt := by rw [pf 2 (by decide) (by decide) (by decide) (by decide) (by decide)]
        have u_295_5 : (I_285 mo 5).toInt = (I mo 5).toInt := by rw [pf 5 (by decide) (by decide) (by decide) (by decide) (by decide)]
        have u_295_14 : (I_285 mo 14).toInt = (I mo 14).toInt := by rw [pf 14 (by decide) (by decide) (by decide) (by decide) (by decide)]
        have u_295_16 : (I_285 mo 16).toInt = (I mo 16).toInt := by rw [pf 16 (by decide) (by decide) (by decide) (by decide) (by decide)]
        have u_295_18 : (I_285 mo 18).toInt = (I mo 18).toInt := by rw [pf 18 (by decide) (by decide) (by decide) (by decide) (by decide)]
        rw [thn_b (by omega)] at er_292
        have hQ : mQ gh I_285 J_287 AI AJ_289 mo b nn nr nt cc 4 h := by rw [er_292] at hQ; exact hQ
        refine lv_aload_n F.1 F.2.1 dX7_tableTold_32 rfl (lv_at hl 0 rfl) ?_
        refine g_getI (ci := 7) (k := 24) F hH rfl (by decide) iX7 hm (by decide) rfl k81 dX7_tableTold_33 ?_
        have b_296 := mJ hv hm
        unfold mNum1 at b_296
        refine z_if_ne (tgt := 64) F dX7_tableTold_36 (by decide) (zr_t _) (fun c_297 => ?_) (fun c_297 => ?_)
        · refine lv_aload_n F.1 F.2.1 dX7_tableTold_64 rfl (lv_at hl 0 rfl) ?_
          refine g_calli (g_runV (As := []) (rest := []) (ci := 7) F hl.1 hH hS hz (c_X7_numberToldf l g gh T b nn nr nt cc 4 h I_285 R J_287 AI AJ_289 AR mo hv hm hT (by omega) h65 hbM hr7 (by omega) hn9 (by omega) hQ) (cwV 0 F.2.2.2.2.1 (good_up gT_X7_numberTold) rfl rfl rfl hdX7_numberTold ⟨Nat.le_of_ble_eq_true rfl, Nat.le_of_ble_eq_true rfl⟩) hm (by decide) rfl rfl rfl (Nat.le_of_ble_eq_true rfl) dX7_tableTold_65 ⟨Nat.zero_le _, Nat.zero_le _⟩) hS (fun v_304 I_298 R_299 J_300 AI_301 AJ_302 AR_303 H locs zv_304 hp_305 hH hS => ?_)
          dsimp only at hp_305
          obtain ⟨r_306, er_306⟩ : ∃ qQ : pR, qQ = thn (4, h, 0) (fun t _ => sNum b nn t) := ⟨_, rfl⟩
          rw [← er_306] at hp_305
          obtain ⟨rfl, rfl, rfl, rfl, hv, pfq, q_307, q_308, hQ, q_309⟩ := hp_305
          have pf := qF_t pf pfq
          have u_310_2 : (I_298 mo 2).toInt = (I mo 2).toInt := by rw [pf 2 (by decide) (by decide) (by decide) (by decide) (by decide)]
          have u_310_5 : (I_298 mo 5).toInt = (I mo 5).toInt := by rw [pf 5 (by decide) (by decide) (by decide) (by decide) (by decide)]
          have u_310_14 : (I_298 mo 14).toInt = (I mo 14).toInt := by rw [pf 14 (by decide) (by decide) (by decide) (by decide) (by decide)]
          have u_310_16 : (I_298 mo 16).toInt = (I mo 16).toInt := by rw [pf 16 (by decide) (by decide) (by decide) (by decide) (by decide)]
          have u_310_18 : (I_298 mo 18).toInt = (I mo 18).toInt := by rw [pf 18 (by decide) (by decide) (by decide) (by decide) (by decide)]
          rw [thn_b (by omega)] at er_306
          have hQ : mQ gh I_298 J_300 AI AJ_289 mo b nn nr nt cc 4 h := by rw [er_306] at hQ; exact hQ
          replace q_308 := hid q_308
          refine lv_istore_n (lv' := [(2, .int (iI v_304)), (0, .ref mo), (1, .int (iI bh))]) F.1 F.2.1 dX7_tableTold_68 rfl hl (by decide) rfl (fun ls hl => ?_)
          refine lv_aload_n F.1 F.2.1 dX7_tableTold_69 rfl (lv_at hl 1 rfl) ?_
          refine z_iconst F dX7_tableTold_70 ?_
          refine lv_iload_n F.1 F.2.1 dX7_tableTold_71 rfl (lv_at hl 0 rfl) ?_
          refine z_iconst F dX7_tableTold_72 ?_
          refine z_iconst F dX7_tableTold_73 ?_
          refine z_iconst F dX7_tableTold_74 ?_
          have b_311 := mJ hv hm
          unfold mNum1 at b_311
          refine g_callv (g_runV (As := [.int (iI 0), .int (iI v_304), .int (iI ((-1))), .int (iI ((-1))), .int (iI 0)]) (rest := []) (ci := 7) F hl.1 hH hS hz (c_X7_header l g gh T M I_298 R J_300 AI AJ_289 AR mo 0 v_304 (-1) (-1) 0 ⟨by decide, by decide⟩ zv_304 ⟨by decide, by decide⟩ ⟨by decide, by decide⟩ ⟨by decide, by decide⟩ hv hm hT (by omega) (by omega)) (cwV 5 F.2.2.2.2.1 (good_up gT_X7_header) rfl rfl rfl hdX7_header ⟨Nat.le_of_ble_eq_true rfl, Nat.le_of_ble_eq_true rfl⟩) hm (by decide) rfl rfl rfl (Nat.le_of_ble_eq_true rfl) dX7_tableTold_75 ⟨Nat.zero_le _, Nat.zero_le _⟩) hS (fun I_312 R_313 J_314 AI_315 AJ_316 AR_317 H locs hp_318 hH hS => ?_)
          dsimp only at hp_318
          obtain ⟨rfl, rfl, rfl, rfl, rfl, hv, hT, hhd⟩ := hp_318
          replace hhd := hid hhd
          have hQ : mQ gh I_298 J_300 AI_315 AJ_289 mo b nn nr nt cc 4 h := mQ_bad hQ (by omega) rfl
          have hfin : thn (f, h, 0) (fun t _ => sTbM b nn nr nt bh t) = (4, h, 0) := by
            refine (thn_k q0).trans ?_
            show sTbM b nn nr nt bh h = _
            unfold sTbM
            repeat (first | with_reducible rfl | refine ite_y (by omega) ?_ | refine ite_n (by omega) ?_ | unfold sTc | exact pr_e (by omega) (by omega) (by omega) | refine ite_y (pCf_ok (by omega) (by omega)) ?_ | refine ite_n (fun e9 => absurd (pCf_0 e9) (by omega)) ?_ | exact pr_e (pCf_no (by omega)) (by omega) (by omega) | exact pr_e (pCf_big (by omega) (by omega)) (by omega) (by omega))
          exact g_vret F hr hlk hH hS hz ⟨rfl, rfl, hv, hT, pf, by first | (dsimp only; omega) | omega | rfl, by (try dsimp only); exact (fun hf => absurd hf (by omega)), by (try dsimp only); exact (fun hf => absurd hf (by omega)), by (try dsimp only); rw [hfin]; exact hQ, by (try dsimp only); rw [hfin]; exact pIc_n (by omega), by (try dsimp only); rw [hfin]; exact pJm_n (by omega)⟩ dX7_tableTold_78
        · exact absurd (mQ_z hQ (by omega)) (by omega)
  · have hf1 := mQ_f hQ q0
    refine lv_aload_n F.1 F.2.1 dX7_tableTold_0 rfl (lv_at hl 0 rfl) ?_
    refine g_getI (ci := 7) (k := 5) F hH rfl (by decide) iX7 hm (by decide) rfl k184 dX7_tableTold_1 ?_
    have b_319 := mJ hv hm
    unfold mNum1 at b_319
    refine z_bipush F dX7_tableTold_4 (by decide) ?_
    refine z_icmp_ne (tgt := 14) F dX7_tableTold_6 (by decide) (zr_t _) ⟨by decide, by decide⟩ (fun c_320 => ?_) (fun c_320 => ?_)
    · refine lv_iload_n F.1 F.2.1 dX7_tableTold_14 rfl (lv_at hl 1 rfl) ?_
      refine z_if_eq (tgt := 24) F dX7_tableTold_15 (by decide) zbh (fun c_321 => ?_) (fun c_321 => ?_)
      · refine lv_aload_n F.1 F.2.1 dX7_tableTold_24 rfl (lv_at hl 0 rfl) ?_
        refine g_callv (g_runV (As := []) (rest := []) (ci := 7) F hl.1 hH hS hz (c_X7_nextf l g gh T b nn (tNd b nn (tPs b nn h)) I R J AI AJ AR mo hv hm hT (by omega) (mTp hv h65 hbM) hr7 (by omega) (by omega) (mQ_e0 hQ) tNd_le.1) (cwV 0 F.2.2.2.2.1 (good_up gT_X7_next) rfl rfl rfl hdX7_next ⟨Nat.le_of_ble_eq_true rfl, Nat.le_of_ble_eq_true rfl⟩) hm (by decide) rfl rfl rfl (Nat.le_of_ble_eq_true rfl) dX7_tableTold_25 ⟨Nat.zero_le _, Nat.zero_le _⟩) hS (fun I_322 R_323 J_324 AI_325 AJ_326 AR_327 H locs hp_328 hH hS => ?_)
        dsimp only at hp_328
        obtain ⟨rfl, rfl, rfl, rfl, hv, pfq, q_329, nx4, nxa, nxb⟩ := hp_328
        have pf := qF_t pf pfq
        have u_330_2 : (I_322 mo 2).toInt = (I mo 2).toInt := by rw [pf 2 (by decide) (by decide) (by decide) (by decide) (by decide)]
        have u_330_5 : (I_322 mo 5).toInt = (I mo 5).toInt := by rw [pf 5 (by decide) (by decide) (by decide) (by decide) (by decide)]
        have u_330_14 : (I_322 mo 14).toInt = (I mo 14).toInt := by rw [pf 14 (by decide) (by decide) (by decide) (by decide) (by decide)]
        have u_330_16 : (I_322 mo 16).toInt = (I mo 16).toInt := by rw [pf 16 (by decide) (by decide) (by decide) (by decide) (by decide)]
        have u_330_18 : (I_322 mo 18).toInt = (I mo 18).toInt := by rw [pf 18 (by decide) (by decide) (by decide) (by decide) (by decide)]
        have hQ : mQ gh I_322 J_324 AI AJ mo b nn nr nt cc f h := by have q9 := mQ_nx hQ nx4 nxa; rw [thn_b (by omega)] at q9; exact q9
        clear nxa nxb
        refine lv_aload_n F.1 F.2.1 dX7_tableTold_28 rfl (lv_at hl 0 rfl) ?_
        have b_331 := mJ hv hm
        unfold mNum1 at b_331
        refine g_callv (g_runV (As := []) (rest := []) (ci := 7) F hl.1 hH hS hz (c_X7_newNamef l g gh T b nn nr nt cc f h I_322 R J_324 AI AJ AR mo hv hm hT (by omega) (by omega) h65 hbM hr7 (by omega) hn9 (by omega) hQ) (cwV 0 F.2.2.2.2.1 (good_up gT_X7_newName) rfl rfl rfl hdX7_newName ⟨Nat.le_of_ble_eq_true rfl, Nat.le_of_ble_eq_true rfl⟩) hm (by decide) rfl rfl rfl (Nat.le_of_ble_eq_true rfl) dX7_tableTold_29 ⟨Nat.zero_le _, Nat.zero_le _⟩) hS (fun I_332 R_333 J_334 AI_335 AJ_336 AR_337 H locs hp_338 hH hS => ?_)
        dsimp only at hp_338
        obtain ⟨r_339, er_339⟩ : ∃ qQ : pR, qQ = thn (f, h, 0) (fun t _ => sNam b nn nr nt t) := ⟨_, rfl⟩
        rw [← er_339] at hp_338
        obtain ⟨rfl, rfl, rfl, hv, pfq, q_340, hQ, q_341⟩ := hp_338
        have pf := qF_t pf pfq
        have u_342_2 : (I_332 mo 2).toInt = (I mo 2).toInt := by rw [pf 2 (by decide) (by decide) (by decide) (by decide) (by decide)]
        have u_342_5 : (I_332 mo 5).toInt = (I mo 5).toInt := by rw [pf 5 (by decide) (by decide) (by decide) (by decide) (by decide)]
        have u_342_14 : (I_332 mo 14).toInt = (I mo 14).toInt := by rw [pf 14 (by decide) (by decide) (by decide) (by decide) (by decide)]
        have u_342_16 : (I_332 mo 16).toInt = (I mo 16).toInt := by rw [pf 16 (by decide) (by decide) (by decide) (by decide) (by decide)]
        have u_342_18 : (I_332 mo 18).toInt = (I mo 18).toInt := by rw [pf 18 (by decide) (by decide) (by decide) (by decide) (by decide)]
        rw [thn_b (by omega)] at er_339
        have hQ : mQ gh I_332 J_334 AI AJ_336 mo b nn nr nt cc f h := by rw [er_339] at hQ; exact hQ
        refine lv_aload_n F.1 F.2.1 dX7_tableTold_32 rfl (lv_at hl 0 rfl) ?_
        refine g_getI (ci := 7) (k := 24) F hH rfl (by decide) iX7 hm (by decide) rfl k81 dX7_tableTold_33 ?_
        have b_343 := mJ hv hm
        unfold mNum1 at b_343
        refine z_if_ne (tgt := 64) F dX7_tableTold_36 (by decide) (zr_t _) (fun c_344 => ?_) (fun c_344 => ?_)
        · refine lv_aload_n F.1 F.2.1 dX7_tableTold_64 rfl (lv_at hl 0 rfl) ?_
          refine g_calli (g_runV (As := []) (rest := []) (ci := 7) F hl.1 hH hS hz (c_X7_numberToldf l g gh T b nn nr nt cc f h I_332 R J_334 AI AJ_336 AR mo hv hm hT (by omega) h65 hbM hr7 (by omega) hn9 (by omega) hQ) (cwV 0 F.2.2.2.2.1 (good_up gT_X7_numberTold) rfl rfl rfl hdX7_numberTold ⟨Nat.le_of_ble_eq_true rfl, Nat.le_of_ble_eq_true rfl⟩) hm (by decide) rfl rfl rfl (Nat.le_of_ble_eq_true rfl) dX7_tableTold_65 ⟨Nat.zero_le _, Nat.zero_le _⟩) hS (fun v_351 I_345 R_346 J_347 AI_348 AJ_349 AR_350 H locs zv_351 hp_352 hH hS => ?_)
          dsimp only at hp_352
          obtain ⟨r_353, er_353⟩ : ∃ qQ : pR, qQ = thn (f, h, 0) (fun t _ => sNum b nn t) := ⟨_, rfl⟩
          rw [← er_353] at hp_352
          obtain ⟨rfl, rfl, rfl, rfl, hv, pfq, q_354, q_355, hQ, q_356⟩ := hp_352
          have pf := qF_t pf pfq
          have u_357_2 : (I_345 mo 2).toInt = (I mo 2).toInt := by rw [pf 2 (by decide) (by decide) (by decide) (by decide) (by decide)]
          have u_357_5 : (I_345 mo 5).toInt = (I mo 5).toInt := by rw [pf 5 (by decide) (by decide) (by decide) (by decide) (by decide)]
          have u_357_14 : (I_345 mo 14).toInt = (I mo 14).toInt := by rw [pf 14 (by decide) (by decide) (by decide) (by decide) (by decide)]
          have u_357_16 : (I_345 mo 16).toInt = (I mo 16).toInt := by rw [pf 16 (by decide) (by decide) (by decide) (by decide) (by decide)]
          have u_357_18 : (I_345 mo 18).toInt = (I mo 18).toInt := by rw [pf 18 (by decide) (by decide) (by decide) (by decide) (by decide)]
          rw [thn_b (by omega)] at er_353
          have hQ : mQ gh I_345 J_347 AI AJ_336 mo b nn nr nt cc f h := by rw [er_353] at hQ; exact hQ
          replace q_355 := hid q_355
          refine lv_istore_n (lv' := [(2, .int (iI v_351)), (0, .ref mo), (1, .int (iI bh))]) F.1 F.2.1 dX7_tableTold_68 rfl hl (by decide) rfl (fun ls hl => ?_)
          refine lv_aload_n F.1 F.2.1 dX7_tableTold_69 rfl (lv_at hl 1 rfl) ?_
          refine z_iconst F dX7_tableTold_70 ?_
          refine lv_iload_n F.1 F.2.1 dX7_tableTold_71 rfl (lv_at hl 0 rfl) ?_
          refine z_iconst F dX7_tableTold_72 ?_
          refine z_iconst F dX7_tableTold_73 ?_
          refine z_iconst F dX7_tableTold_74 ?_
          have b_358 := mJ hv hm
          unfold mNum1 at b_358
          refine g_callv (g_runV (As := [.int (iI 0), .int (iI v_351), .int (iI ((-1))), .int (iI ((-1))), .int (iI 0)]) (rest := []) (ci := 7) F hl.1 hH hS hz (c_X7_header l g gh T M I_345 R J_347 AI AJ_336 AR mo 0 v_351 (-1) (-1) 0 ⟨by decide, by decide⟩ zv_351 ⟨by decide, by decide⟩ ⟨by decide, by decide⟩ ⟨by decide, by decide⟩ hv hm hT (by omega) (by omega)) (cwV 5 F.2.2.2.2.1 (good_up gT_X7_header) rfl rfl rfl hdX7_header ⟨Nat.le_of_ble_eq_true rfl, Nat.le_of_ble_eq_true rfl⟩) hm (by decide) rfl rfl rfl (Nat.le_of_ble_eq_true rfl) dX7_tableTold_75 ⟨Nat.zero_le _, Nat.zero_le _⟩) hS (fun I_359 R_360 J_361 AI_362 AJ_363 AR_364 H locs hp_365 hH hS => ?_)
          dsimp only at hp_365
          obtain ⟨rfl, rfl, rfl, rfl, rfl, hv, hT, hhd⟩ := hp_365
          replace hhd := hid hhd
          have hQ : mQ gh I_345 J_347 AI_362 AJ_336 mo b nn nr nt cc f h := mQ_bad hQ (by omega) rfl
          have hfin : thn (f, h, 0) (fun t _ => sTbM b nn nr nt bh t) = (f, h, 0) := thn_b q0
          exact g_vret F hr hlk hH hS hz ⟨rfl, rfl, hv, hT, pf, by first | (dsimp only; omega) | omega | rfl, by (try dsimp only); exact (fun hf => absurd hf (by omega)), by (try dsimp only); exact (fun hf => absurd hf (by omega)), by (try dsimp only); rw [hfin]; exact hQ, by (try dsimp only); rw [hfin]; exact pIc_n (by omega), by (try dsimp only); rw [hfin]; exact pJm_n (by omega)⟩ dX7_tableTold_78
        · exact absurd (mQ_z hQ (by omega)) (by omega)
      · refine lv_aload_n F.1 F.2.1 dX7_tableTold_18 rfl (lv_at hl 0 rfl) ?_
        refine z_bipush F dX7_tableTold_19 (by decide) ?_
        refine g_callv (g_runV (As := [.int (iI 6)]) (rest := []) (ci := 7) F hl.1 hH hS hz (c_X7_wrongf l g gh T b nn nr nt cc f h I R J AI AJ AR mo 6 ⟨by decide, by decide⟩ hv hm hT (by omega) h65 hbM hr7 (by omega) hn9 (by omega) hQ) (cwV 1 F.2.2.2.2.1 (good_up gT_X7_wrong) rfl rfl rfl hdX7_wrong ⟨Nat.le_of_ble_eq_true rfl, Nat.le_of_ble_eq_true rfl⟩) hm (by decide) rfl rfl rfl (Nat.le_of_ble_eq_true rfl) dX7_tableTold_21 ⟨Nat.zero_le _, Nat.zero_le _⟩) hS (fun I_366 R_367 J_368 AI_369 AJ_370 AR_371 H locs hp_372 hH hS => ?_)
        dsimp only at hp_372
        obtain ⟨r_373, er_373⟩ : ∃ qQ : pR, qQ = thn (f, h, 0) (fun t _ => (6, t, 0)) := ⟨_, rfl⟩
        rw [← er_373] at hp_372
        obtain ⟨rfl, rfl, rfl, rfl, rfl, hv, pfq, q_374, hQ⟩ := hp_372
        have pf := qF_t pf pfq
        have u_375_2 : (I_366 mo 2).toInt = (I mo 2).toInt := by rw [pf 2 (by decide) (by decide) (by decide) (by decide) (by decide)]
        have u_375_5 : (I_366 mo 5).toInt = (I mo 5).toInt := by rw [pf 5 (by decide) (by decide) (by decide) (by decide) (by decide)]
        have u_375_14 : (I_366 mo 14).toInt = (I mo 14).toInt := by rw [pf 14 (by decide) (by decide) (by decide) (by decide) (by decide)]
        have u_375_16 : (I_366 mo 16).toInt = (I mo 16).toInt := by rw [pf 16 (by decide) (by decide) (by decide) (by decide) (by decide)]
        have u_375_18 : (I_366 mo 18).toInt = (I mo 18).toInt := by rw [pf 18 (by decide) (by decide) (by decide) (by decide) (by decide)]
        rw [thn_b (by omega)] at er_373
        have hQ : mQ gh I_366 J AI AJ mo b nn nr nt cc f h := by rw [er_373] at hQ; exact hQ
        refine lv_aload_n F.1 F.2.1 dX7_tableTold_24 rfl (lv_at hl 0 rfl) ?_
        have b_376 := mJ hv hm
        unfold mNum1 at b_376
        refine g_callv (g_runV (As := []) (rest := []) (ci := 7) F hl.1 hH hS hz (c_X7_nextf l g gh T b nn (tNd b nn (tPs b nn h)) I_366 R J AI AJ AR mo hv hm hT (by omega) (mTp hv h65 hbM) hr7 (by omega) (by omega) (mQ_e0 hQ) tNd_le.1) (cwV 0 F.2.2.2.2.1 (good_up gT_X7_next) rfl rfl rfl hdX7_next ⟨Nat.le_of_ble_eq_true rfl, Nat.le_of_ble_eq_true rfl⟩) hm (by decide) rfl rfl rfl (Nat.le_of_ble_eq_true rfl) dX7_tableTold_25 ⟨Nat.zero_le _, Nat.zero_le _⟩) hS (fun I_377 R_378 J_379 AI_380 AJ_381 AR_382 H locs hp_383 hH hS => ?_)
        dsimp only at hp_383
        obtain ⟨rfl, rfl, rfl, rfl, hv, pfq, q_384, nx4, nxa, nxb⟩ := hp_383
        have pf := qF_t pf pfq
        have u_385_2 : (I_377 mo 2).toInt = (I mo 2).toInt := by rw [pf 2 (by decide) (by decide) (by decide) (by decide) (by decide)]
        have u_385_5 : (I_377 mo 5).toInt = (I mo 5).toInt := by rw [pf 5 (by decide) (by decide) (by decide) (by decide) (by decide)]
        have u_385_14 : (I_377 mo 14).toInt = (I mo 14).toInt := by rw [pf 14 (by decide) (by decide) (by decide) (by decide) (by decide)]
        have u_385_16 : (I_377 mo 16).toInt = (I mo 16).toInt := by rw [pf 16 (by decide) (by decide) (by decide) (by decide) (by decide)]
        have u_385_18 : (I_377 mo 18).toInt = (I mo 18).toInt := by rw [pf 18 (by decide) (by decide) (by decide) (by decide) (by decide)]
        have hQ : mQ gh I_377 J_379 AI AJ mo b nn nr nt cc f h := by have q9 := mQ_nx hQ nx4 nxa; rw [thn_b (by omega)] at q9; exact q9
        clear nxa nxb
        refine lv_aload_n F.1 F.2.1 dX7_tableTold_28 rfl (lv_at hl 0 rfl) ?_
        have b_386 := mJ hv hm
        unfold mNum1 at b_386
        refine g_callv (g_runV (As := []) (rest := []) (ci := 7) F hl.1 hH hS hz (c_X7_newNamef l g gh T b nn nr nt cc f h I_377 R J_379 AI AJ AR mo hv hm hT (by omega) (by omega) h65 hbM hr7 (by omega) hn9 (by omega) hQ) (cwV 0 F.2.2.2.2.1 (good_up gT_X7_newName) rfl rfl rfl hdX7_newName ⟨Nat.le_of_ble_eq_true rfl, Nat.le_of_ble_eq_true rfl⟩) hm (by decide) rfl rfl rfl (Nat.le_of_ble_eq_true rfl) dX7_tableTold_29 ⟨Nat.zero_le _, Nat.zero_le _⟩) hS (fun I_387 R_388 J_389 AI_390 AJ_391 AR_392 H locs hp_393 hH hS => ?_)
        dsimp only at hp_393
        obtain ⟨r_394, er_394⟩ : ∃ qQ : pR, qQ = thn (f, h, 0) (fun t _ => sNam b nn nr nt t) := ⟨_, rfl⟩
        rw [← er_394] at hp_393
        obtain ⟨rfl, rfl, rfl, hv, pfq, q_395, hQ, q_396⟩ := hp_393
        have pf := qF_t pf pfq
        have u_397_2 : (I_387 mo 2).toInt = (I mo 2).toInt := by rw [pf 2 (by decide) (by decide) (by decide) (by decide) (by decide)]
        have u_397_5 : (I_387 mo 5).toInt = (I mo 5).toInt := by rw [pf 5 (by decide) (by decide) (by decide) (by decide) (by decide)]
        have u_397_14 : (I_387 mo 14).toInt = (I mo 14).toInt := by rw [pf 14 (by decide) (by decide) (by decide) (by decide) (by decide)]
        have u_397_16 : (I_387 mo 16).toInt = (I mo 16).toInt := by rw [pf 16 (by decide) (by decide) (by decide) (by decide) (by decide)]
        have u_397_18 : (I_387 mo 18).toInt = (I mo 18).toInt := by rw [pf 18 (by decide) (by decide) (by decide) (by decide) (by decide)]
        rw [thn_b (by omega)] at er_394
        have hQ : mQ gh I_387 J_389 AI AJ_391 mo b nn nr nt cc f h := by rw [er_394] at hQ; exact hQ
        refine lv_aload_n F.1 F.2.1 dX7_tableTold_32 rfl (lv_at hl 0 rfl) ?_
        refine g_getI (ci := 7) (k := 24) F hH rfl (by decide) iX7 hm (by decide) rfl k81 dX7_tableTold_33 ?_
        have b_398 := mJ hv hm
        unfold mNum1 at b_398
        refine z_if_ne (tgt := 64) F dX7_tableTold_36 (by decide) (zr_t _) (fun c_399 => ?_) (fun c_399 => ?_)
        · refine lv_aload_n F.1 F.2.1 dX7_tableTold_64 rfl (lv_at hl 0 rfl) ?_
          refine g_calli (g_runV (As := []) (rest := []) (ci := 7) F hl.1 hH hS hz (c_X7_numberToldf l g gh T b nn nr nt cc f h I_387 R J_389 AI AJ_391 AR mo hv hm hT (by omega) h65 hbM hr7 (by omega) hn9 (by omega) hQ) (cwV 0 F.2.2.2.2.1 (good_up gT_X7_numberTold) rfl rfl rfl hdX7_numberTold ⟨Nat.le_of_ble_eq_true rfl, Nat.le_of_ble_eq_true rfl⟩) hm (by decide) rfl rfl rfl (Nat.le_of_ble_eq_true rfl) dX7_tableTold_65 ⟨Nat.zero_le _, Nat.zero_le _⟩) hS (fun v_406 I_400 R_401 J_402 AI_403 AJ_404 AR_405 H locs zv_406 hp_407 hH hS => ?_)
          dsimp only at hp_407
          obtain ⟨r_408, er_408⟩ : ∃ qQ : pR, qQ = thn (f, h, 0) (fun t _ => sNum b nn t) := ⟨_, rfl⟩
          rw [← er_408] at hp_407
          obtain ⟨rfl, rfl, rfl, rfl, hv, pfq, q_409, q_410, hQ, q_411⟩ := hp_407
          have pf := qF_t pf pfq
          have u_412_2 : (I_400 mo 2).toInt = (I mo 2).toInt := by rw [pf 2 (by decide) (by decide) (by decide) (by decide) (by decide)]
          have u_412_5 : (I_400 mo 5).toInt = (I mo 5).toInt := by rw [pf 5 (by decide) (by decide) (by decide) (by decide) (by decide)]
          have u_412_14 : (I_400 mo 14).toInt = (I mo 14).toInt := by rw [pf 14 (by decide) (by decide) (by decide) (by decide) (by decide)]
          have u_412_16 : (I_400 mo 16).toInt = (I mo 16).toInt := by rw [pf 16 (by decide) (by decide) (by decide) (by decide) (by decide)]
          have u_412_18 : (I_400 mo 18).toInt = (I mo 18).toInt := by rw [pf 18 (by decide) (by decide) (by decide) (by decide) (by decide)]
          rw [thn_b (by omega)] at er_408
          have hQ : mQ gh I_400 J_402 AI AJ_391 mo b nn nr nt cc f h := by rw [er_408] at hQ; exact hQ
          replace q_410 := hid q_410
          refine lv_istore_n (lv' := [(2, .int (iI v_406)), (0, .ref mo), (1, .int (iI bh))]) F.1 F.2.1 dX7_tableTold_68 rfl hl (by decide) rfl (fun ls hl => ?_)
          refine lv_aload_n F.1 F.2.1 dX7_tableTold_69 rfl (lv_at hl 1 rfl) ?_
          refine z_iconst F dX7_tableTold_70 ?_
          refine lv_iload_n F.1 F.2.1 dX7_tableTold_71 rfl (lv_at hl 0 rfl) ?_
          refine z_iconst F dX7_tableTold_72 ?_
          refine z_iconst F dX7_tableTold_73 ?_
          refine z_iconst F dX7_tableTold_74 ?_
          have b_413 := mJ hv hm
          unfold mNum1 at b_413
          refine g_callv (g_runV (As := [.int (iI 0), .int (iI v_406), .int (iI ((-1))), .int (iI ((-1))), .int (iI 0)]) (rest := []) (ci := 7) F hl.1 hH hS hz (c_X7_header l g gh T M I_400 R J_402 AI AJ_391 AR mo 0 v_406 (-1) (-1) 0 ⟨by decide, by decide⟩ zv_406 ⟨by decide, by decide⟩ ⟨by decide, by decide⟩ ⟨by decide, by decide⟩ hv hm hT (by omega) (by omega)) (cwV 5 F.2.2.2.2.1 (good_up gT_X7_header) rfl rfl rfl hdX7_header ⟨Nat.le_of_ble_eq_true rfl, Nat.le_of_ble_eq_true rfl⟩) hm (by decide) rfl rfl rfl (Nat.le_of_ble_eq_true rfl) dX7_tableTold_75 ⟨Nat.zero_le _, Nat.zero_le _⟩) hS (fun I_414 R_415 J_416 AI_417 AJ_418 AR_419 H locs hp_420 hH hS => ?_)
          dsimp only at hp_420
          obtain ⟨rfl, rfl, rfl, rfl, rfl, hv, hT, hhd⟩ := hp_420
          replace hhd := hid hhd
          have hQ : mQ gh I_400 J_402 AI_417 AJ_391 mo b nn nr nt cc f h := mQ_bad hQ (by omega) rfl
          have hfin : thn (f, h, 0) (fun t _ => sTbM b nn nr nt bh t) = (f, h, 0) := thn_b q0
          exact g_vret F hr hlk hH hS hz ⟨rfl, rfl, hv, hT, pf, by first | (dsimp only; omega) | omega | rfl, by (try dsimp only); exact (fun hf => absurd hf (by omega)), by (try dsimp only); exact (fun hf => absurd hf (by omega)), by (try dsimp only); rw [hfin]; exact hQ, by (try dsimp only); rw [hfin]; exact pIc_n (by omega), by (try dsimp only); rw [hfin]; exact pJm_n (by omega)⟩ dX7_tableTold_78
        · exact absurd (mQ_z hQ (by omega)) (by omega)
    · refine lv_aload_n F.1 F.2.1 dX7_tableTold_9 rfl (lv_at hl 0 rfl) ?_
      refine z_iconst F dX7_tableTold_10 ?_
      refine g_callv (g_runV (As := [.int (iI 4)]) (rest := []) (ci := 7) F hl.1 hH hS hz (c_X7_wrongf l g gh T b nn nr nt cc f h I R J AI AJ AR mo 4 ⟨by decide, by decide⟩ hv hm hT (by omega) h65 hbM hr7 (by omega) hn9 (by omega) hQ) (cwV 1 F.2.2.2.2.1 (good_up gT_X7_wrong) rfl rfl rfl hdX7_wrong ⟨Nat.le_of_ble_eq_true rfl, Nat.le_of_ble_eq_true rfl⟩) hm (by decide) rfl rfl rfl (Nat.le_of_ble_eq_true rfl) dX7_tableTold_11 ⟨Nat.zero_le _, Nat.zero_le _⟩) hS (fun I_421 R_422 J_423 AI_424 AJ_425 AR_426 H locs hp_427 hH hS => ?_)
      dsimp only at hp_427
      obtain ⟨r_428, er_428⟩ : ∃ qQ : pR, qQ = thn (f, h, 0) (fun t _ => (4, t, 0)) := ⟨_, rfl⟩
      rw [← er_428] at hp_427
      obtain ⟨rfl, rfl, rfl, rfl, rfl, hv, pfq, q_429, hQ⟩ := hp_427
      have pf := qF_t pf pfq
      have u_430_2 : (I_421 mo 2).toInt = (I mo 2).toInt := by rw [pf 2 (by decide) (by decide) (by decide) (by decide) (by decide)]
      have u_430_5 : (I_421 mo 5).toInt = (I mo 5).toInt := by rw [pf 5 (by decide) (by decide) (by decide) (by decide) (by decide)]
      have u_430_14 : (I_421 mo 14).toInt = (I mo 14).toInt := by rw [pf 14 (by decide) (by decide) (by decide) (by decide) (by decide)]
      have u_430_16 : (I_421 mo 16).toInt = (I mo 16).toInt := by rw [pf 16 (by decide) (by decide) (by decide) (by decide) (by decide)]
      have u_430_18 : (I_421 mo 18).toInt = (I mo 18).toInt := by rw [pf 18 (by decide) (by decide) (by decide) (by decide) (by decide)]
      rw [thn_b (by omega)] at er_428
      have hQ : mQ gh I_421 J AI AJ mo b nn nr nt cc f h := by rw [er_428] at hQ; exact hQ
      refine lv_iload_n F.1 F.2.1 dX7_tableTold_14 rfl (lv_at hl 1 rfl) ?_
      refine z_if_eq (tgt := 24) F dX7_tableTold_15 (by decide) zbh (fun c_431 => ?_) (fun c_431 => ?_)
      · refine lv_aload_n F.1 F.2.1 dX7_tableTold_24 rfl (lv_at hl 0 rfl) ?_
        have b_432 := mJ hv hm
        unfold mNum1 at b_432
        refine g_callv (g_runV (As := []) (rest := []) (ci := 7) F hl.1 hH hS hz (c_X7_nextf l g gh T b nn (tNd b nn (tPs b nn h)) I_421 R J AI AJ AR mo hv hm hT (by omega) (mTp hv h65 hbM) hr7 (by omega) (by omega) (mQ_e0 hQ) tNd_le.1) (cwV 0 F.2.2.2.2.1 (good_up gT_X7_next) rfl rfl rfl hdX7_next ⟨Nat.le_of_ble_eq_true rfl, Nat.le_of_ble_eq_true rfl⟩) hm (by decide) rfl rfl rfl (Nat.le_of_ble_eq_true rfl) dX7_tableTold_25 ⟨Nat.zero_le _, Nat.zero_le _⟩) hS (fun I_433 R_434 J_435 AI_436 AJ_437 AR_438 H locs hp_439 hH hS => ?_)
        dsimp only at hp_439
        obtain ⟨rfl, rfl, rfl, rfl, hv, pfq, q_440, nx4, nxa, nxb⟩ := hp_439
        have pf := qF_t pf pfq
        have u_441_2 : (I_433 mo 2).toInt = (I mo 2).toInt := by rw [pf 2 (by decide) (by decide) (by decide) (by decide) (by decide)]
        have u_441_5 : (I_433 mo 5).toInt = (I mo 5).toInt := by rw [pf 5 (by decide) (by decide) (by decide) (by decide) (by decide)]
        have u_441_14 : (I_433 mo 14).toInt = (I mo 14).toInt := by rw [pf 14 (by decide) (by decide) (by decide) (by decide) (by decide)]
        have u_441_16 : (I_433 mo 16).toInt = (I mo 16).toInt := by rw [pf 16 (by decide) (by decide) (by decide) (by decide) (by decide)]
        have u_441_18 : (I_433 mo 18).toInt = (I mo 18).toInt := by rw [pf 18 (by decide) (by decide) (by decide) (by decide) (by decide)]
        have hQ : mQ gh I_433 J_435 AI AJ mo b nn nr nt cc f h := by have q9 := mQ_nx hQ nx4 nxa; rw [thn_b (by omega)] at q9; exact q9
        clear nxa nxb
        refine lv_aload_n F.1 F.2.1 dX7_tableTold_28 rfl (lv_at hl 0 rfl) ?_
        have b_442 := mJ hv hm
        unfold mNum1 at b_442
        refine g_callv (g_runV (As := []) (rest := []) (ci := 7) F hl.1 hH hS hz (c_X7_newNamef l g gh T b nn nr nt cc f h I_433 R J_435 AI AJ AR mo hv hm hT (by omega) (by omega) h65 hbM hr7 (by omega) hn9 (by omega) hQ) (cwV 0 F.2.2.2.2.1 (good_up gT_X7_newName) rfl rfl rfl hdX7_newName ⟨Nat.le_of_ble_eq_true rfl, Nat.le_of_ble_eq_true rfl⟩) hm (by decide) rfl rfl rfl (Nat.le_of_ble_eq_true rfl) dX7_tableTold_29 ⟨Nat.zero_le _, Nat.zero_le _⟩) hS (fun I_443 R_444 J_445 AI_446 AJ_447 AR_448 H locs hp_449 hH hS => ?_)
        dsimp only at hp_449
        obtain ⟨r_450, er_450⟩ : ∃ qQ : pR, qQ = thn (f, h, 0) (fun t _ => sNam b nn nr nt t) := ⟨_, rfl⟩
        rw [← er_450] at hp_449
        obtain ⟨rfl, rfl, rfl, hv, pfq, q_451, hQ, q_452⟩ := hp_449
        have pf := qF_t pf pfq
        have u_453_2 : (I_443 mo 2).toInt = (I mo 2).toInt := by rw [pf 2 (by decide) (by decide) (by decide) (by decide) (by decide)]
        have u_453_5 : (I_443 mo 5).toInt = (I mo 5).toInt := by rw [pf 5 (by decide) (by decide) (by decide) (by decide) (by decide)]
        have u_453_14 : (I_443 mo 14).toInt = (I mo 14).toInt := by rw [pf 14 (by decide) (by decide) (by decide) (by decide) (by decide)]
        have u_453_16 : (I_443 mo 16).toInt = (I mo 16).toInt := by rw [pf 16 (by decide) (by decide) (by decide) (by decide) (by decide)]
        have u_453_18 : (I_443 mo 18).toInt = (I mo 18).toInt := by rw [pf 18 (by decide) (by decide) (by decide) (by decide) (by decide)]
        rw [thn_b (by omega)] at er_450
        have hQ : mQ gh I_443 J_445 AI AJ_447 mo b nn nr nt cc f h := by rw [er_450] at hQ; exact hQ
        refine lv_aload_n F.1 F.2.1 dX7_tableTold_32 rfl (lv_at hl 0 rfl) ?_
        refine g_getI (ci := 7) (k := 24) F hH rfl (by decide) iX7 hm (by decide) rfl k81 dX7_tableTold_33 ?_
        have b_454 := mJ hv hm
        unfold mNum1 at b_454
        refine z_if_ne (tgt := 64) F dX7_tableTold_36 (by decide) (zr_t _) (fun c_455 => ?_) (fun c_455 => ?_)
        · refine lv_aload_n F.1 F.2.1 dX7_tableTold_64 rfl (lv_at hl 0 rfl) ?_
          refine g_calli (g_runV (As := []) (rest := []) (ci := 7) F hl.1 hH hS hz (c_X7_numberToldf l g gh T b nn nr nt cc f h I_443 R J_445 AI AJ_447 AR mo hv hm hT (by omega) h65 hbM hr7 (by omega) hn9 (by omega) hQ) (cwV 0 F.2.2.2.2.1 (good_up gT_X7_numberTold) rfl rfl rfl hdX7_numberTold ⟨Nat.le_of_ble_eq_true rfl, Nat.le_of_ble_eq_true rfl⟩) hm (by decide) rfl rfl rfl (Nat.le_of_ble_eq_true rfl) dX7_tableTold_65 ⟨Nat.zero_le _, Nat.zero_le _⟩) hS (fun v_462 I_456 R_457 J_458 AI_459 AJ_460 AR_461 H locs zv_462 hp_463 hH hS => ?_)
          dsimp only at hp_463
          obtain ⟨r_464, er_464⟩ : ∃ qQ : pR, qQ = thn (f, h, 0) (fun t _ => sNum b nn t) := ⟨_, rfl⟩
          rw [← er_464] at hp_463
          obtain ⟨rfl, rfl, rfl, rfl, hv, pfq, q_465, q_466, hQ, q_467⟩ := hp_463
          have pf := qF_t pf pfq
          have u_468_2 : (I_456 mo 2).toInt = (I mo 2).toInt := by rw [pf 2 (by decide) (by decide) (by decide) (by decide) (by decide)]
          have u_468_5 : (I_456 mo 5).toInt = (I mo 5).toInt := by rw [pf 5 (by decide) (by decide) (by decide) (by decide) (by decide)]
          have u_468_14 : (I_456 mo 14).toInt = (I mo 14).toInt := by rw [pf 14 (by decide) (by decide) (by decide) (by decide) (by decide)]
          have u_468_16 : (I_456 mo 16).toInt = (I mo 16).toInt := by rw [pf 16 (by decide) (by decide) (by decide) (by decide) (by decide)]
          have u_468_18 : (I_456 mo 18).toInt = (I mo 18).toInt := by rw [pf 18 (by decide) (by decide) (by decide) (by decide) (by decide)]
          rw [thn_b (by omega)] at er_464
          have hQ : mQ gh I_456 J_458 AI AJ_447 mo b nn nr nt cc f h := by rw [er_464] at hQ; exact hQ
          replace q_466 := hid q_466
          refine lv_istore_n (lv' := [(2, .int (iI v_462)), (0, .ref mo), (1, .int (iI bh))]) F.1 F.2.1 dX7_tableTold_68 rfl hl (by decide) rfl (fun ls hl => ?_)
          refine lv_aload_n F.1 F.2.1 dX7_tableTold_69 rfl (lv_at hl 1 rfl) ?_
          refine z_iconst F dX7_tableTold_70 ?_
          refine lv_iload_n F.1 F.2.1 dX7_tableTold_71 rfl (lv_at hl 0 rfl) ?_
          refine z_iconst F dX7_tableTold_72 ?_
          refine z_iconst F dX7_tableTold_73 ?_
          refine z_iconst F dX7_tableTold_74 ?_
          have b_469 := mJ hv hm
          unfold mNum1 at b_469
          refine g_callv (g_runV (As := [.int (iI 0), .int (iI v_462), .int (iI ((-1))), .int (iI ((-1))), .int (iI 0)]) (rest := []) (ci := 7) F hl.1 hH hS hz (c_X7_header l g gh T M I_456 R J_458 AI AJ_447 AR mo 0 v_462 (-1) (-1) 0 ⟨by decide, by decide⟩ zv_462 ⟨by decide, by decide⟩ ⟨by decide, by decide⟩ ⟨by decide, by decide⟩ hv hm hT (by omega) (by omega)) (cwV 5 F.2.2.2.2.1 (good_up gT_X7_header) rfl rfl rfl hdX7_header ⟨Nat.le_of_ble_eq_true rfl, Nat.le_of_ble_eq_true rfl⟩) hm (by decide) rfl rfl rfl (Nat.le_of_ble_eq_true rfl) dX7_tableTold_75 ⟨Nat.zero_le _, Nat.zero_le _⟩) hS (fun I_470 R_471 J_472 AI_473 AJ_474 AR_475 H locs hp_476 hH hS => ?_)
          dsimp only at hp_476
          obtain ⟨rfl, rfl, rfl, rfl, rfl, hv, hT, hhd⟩ := hp_476
          replace hhd := hid hhd
          have hQ : mQ gh I_456 J_458 AI_473 AJ_447 mo b nn nr nt cc f h := mQ_bad hQ (by omega) rfl
          have hfin : thn (f, h, 0) (fun t _ => sTbM b nn nr nt bh t) = (f, h, 0) := thn_b q0
          exact g_vret F hr hlk hH hS hz ⟨rfl, rfl, hv, hT, pf, by first | (dsimp only; omega) | omega | rfl, by (try dsimp only); exact (fun hf => absurd hf (by omega)), by (try dsimp only); exact (fun hf => absurd hf (by omega)), by (try dsimp only); rw [hfin]; exact hQ, by (try dsimp only); rw [hfin]; exact pIc_n (by omega), by (try dsimp only); rw [hfin]; exact pJm_n (by omega)⟩ dX7_tableTold_78
        · exact absurd (mQ_z hQ (by omega)) (by omega)
      · refine lv_aload_n F.1 F.2.1 dX7_tableTold_18 rfl (lv_at hl 0 rfl) ?_
        refine z_bipush F dX7_tableTold_19 (by decide) ?_
        have b_477 := mJ hv hm
        unfold mNum1 at b_477
        refine g_callv (g_runV (As := [.int (iI 6)]) (rest := []) (ci := 7) F hl.1 hH hS hz (c_X7_wrongf l g gh T b nn nr nt cc f h I_421 R J AI AJ AR mo 6 ⟨by decide, by decide⟩ hv hm hT (by omega) h65 hbM hr7 (by omega) hn9 (by omega) hQ) (cwV 1 F.2.2.2.2.1 (good_up gT_X7_wrong) rfl rfl rfl hdX7_wrong ⟨Nat.le_of_ble_eq_true rfl, Nat.le_of_ble_eq_true rfl⟩) hm (by decide) rfl rfl rfl (Nat.le_of_ble_eq_true rfl) dX7_tableTold_21 ⟨Nat.zero_le _, Nat.zero_le _⟩) hS (fun I_478 R_479 J_480 AI_481 AJ_482 AR_483 H locs hp_484 hH hS => ?_)
        dsimp only at hp_484
        obtain ⟨r_485, er_485⟩ : ∃ qQ : pR, qQ = thn (f, h, 0) (fun t _ => (6, t, 0)) := ⟨_, rfl⟩
        rw [← er_485] at hp_484
        obtain ⟨rfl, rfl, rfl, rfl, rfl, hv, pfq, q_486, hQ⟩ := hp_484
        have pf := qF_t pf pfq
        have u_487_2 : (I_478 mo 2).toInt = (I mo 2).toInt := by rw [pf 2 (by decide) (by decide) (by decide) (by decide) (by decide)]
        have u_487_5 : (I_478 mo 5).toInt = (I mo 5).toInt := by rw [pf 5 (by decide) (by decide) (by decide) (by decide) (by decide)]
        have u_487_14 : (I_478 mo 14).toInt = (I mo 14).toInt := by rw [pf 14 (by decide) (by decide) (by decide) (by decide) (by decide)]
        have u_487_16 : (I_478 mo 16).toInt = (I mo 16).toInt := by rw [pf 16 (by decide) (by decide) (by decide) (by decide) (by decide)]
        have u_487_18 : (I_478 mo 18).toInt = (I mo 18).toInt := by rw [pf 18 (by decide) (by decide) (by decide) (by decide) (by decide)]
        rw [thn_b (by omega)] at er_485
        have hQ : mQ gh I_478 J AI AJ mo b nn nr nt cc f h := by rw [er_485] at hQ; exact hQ
        refine lv_aload_n F.1 F.2.1 dX7_tableTold_24 rfl (lv_at hl 0 rfl) ?_
        have b_488 := mJ hv hm
        unfold mNum1 at b_488
        refine g_callv (g_runV (As := []) (rest := []) (ci := 7) F hl.1 hH hS hz (c_X7_nextf l g gh T b nn (tNd b nn (tPs b nn h)) I_478 R J AI AJ AR mo hv hm hT (by omega) (mTp hv h65 hbM) hr7 (by omega) (by omega) (mQ_e0 hQ) tNd_le.1) (cwV 0 F.2.2.2.2.1 (good_up gT_X7_next) rfl rfl rfl hdX7_next ⟨Nat.le_of_ble_eq_true rfl, Nat.le_of_ble_eq_true rfl⟩) hm (by decide) rfl rfl rfl (Nat.le_of_ble_eq_true rfl) dX7_tableTold_25 ⟨Nat.zero_le _, Nat.zero_le _⟩) hS (fun I_489 R_490 J_491 AI_492 AJ_493 AR_494 H locs hp_495 hH hS => ?_)
        dsimp only at hp_495
        obtain ⟨rfl, rfl, rfl, rfl, hv, pfq, q_496, nx4, nxa, nxb⟩ := hp_495
        have pf := qF_t pf pfq
        have u_497_2 : (I_489 mo 2).toInt = (I mo 2).toInt := by rw [pf 2 (by decide) (by decide) (by decide) (by decide) (by decide)]
        have u_497_5 : (I_489 mo 5).toInt = (I mo 5).toInt := by rw [pf 5 (by decide) (by decide) (by decide) (by decide) (by decide)]
        have u_497_14 : (I_489 mo 14).toInt = (I mo 14).toInt := by rw [pf 14 (by decide) (by decide) (by decide) (by decide) (by decide)]
        have u_497_16 : (I_489 mo 16).toInt = (I mo 16).toInt := by rw [pf 16 (by decide) (by decide) (by decide) (by decide) (by decide)]
        have u_497_18 : (I_489 mo 18).toInt = (I mo 18).toInt := by rw [pf 18 (by decide) (by decide) (by decide) (by decide) (by decide)]
        have hQ : mQ gh I_489 J_491 AI AJ mo b nn nr nt cc f h := by have q9 := mQ_nx hQ nx4 nxa; rw [thn_b (by omega)] at q9; exact q9
        clear nxa nxb
        refine lv_aload_n F.1 F.2.1 dX7_tableTold_28 rfl (lv_at hl 0 rfl) ?_
        have b_498 := mJ hv hm
        unfold mNum1 at b_498
        refine g_callv (g_runV (As := []) (rest := []) (ci := 7) F hl.1 hH hS hz (c_X7_newNamef l g gh T b nn nr nt cc f h I_489 R J_491 AI AJ AR mo hv hm hT (by omega) (by omega) h65 hbM hr7 (by omega) hn9 (by omega) hQ) (cwV 0 F.2.2.2.2.1 (good_up gT_X7_newName) rfl rfl rfl hdX7_newName ⟨Nat.le_of_ble_eq_true rfl, Nat.le_of_ble_eq_true rfl⟩) hm (by decide) rfl rfl rfl (Nat.le_of_ble_eq_true rfl) dX7_tableTold_29 ⟨Nat.zero_le _, Nat.zero_le _⟩) hS (fun I_499 R_500 J_501 AI_502 AJ_503 AR_504 H locs hp_505 hH hS => ?_)
        dsimp only at hp_505
        obtain ⟨r_506, er_506⟩ : ∃ qQ : pR, qQ = thn (f, h, 0) (fun t _ => sNam b nn nr nt t) := ⟨_, rfl⟩
        rw [← er_506] at hp_505
        obtain ⟨rfl, rfl, rfl, hv, pfq, q_507, hQ, q_508⟩ := hp_505
        have pf := qF_t pf pfq
        have u_509_2 : (I_499 mo 2).toInt = (I mo 2).toInt := by rw [pf 2 (by decide) (by decide) (by decide) (by decide) (by decide)]
        have u_509_5 : (I_499 mo 5).toInt = (I mo 5).toInt := by rw [pf 5 (by decide) (by decide) (by decide) (by decide) (by decide)]
        have u_509_14 : (I_499 mo 14).toInt = (I mo 14).toInt := by rw [pf 14 (by decide) (by decide) (by decide) (by decide) (by decide)]
        have u_509_16 : (I_499 mo 16).toInt = (I mo 16).toInt := by rw [pf 16 (by decide) (by decide) (by decide) (by decide) (by decide)]
        have u_509_18 : (I_499 mo 18).toInt = (I mo 18).toInt := by rw [pf 18 (by decide) (by decide) (by decide) (by decide) (by decide)]
        rw [thn_b (by omega)] at er_506
        have hQ : mQ gh I_499 J_501 AI AJ_503 mo b nn nr nt cc f h := by rw [er_506] at hQ; exact hQ
        refine lv_aload_n F.1 F.2.1 dX7_tableTold_32 rfl (lv_at hl 0 rfl) ?_
        refine g_getI (ci := 7) (k := 24) F hH rfl (by decide) iX7 hm (by decide) rfl k81 dX7_tableTold_33 ?_
        have b_510 := mJ hv hm
        unfold mNum1 at b_510
        refine z_if_ne (tgt := 64) F dX7_tableTold_36 (by decide) (zr_t _) (fun c_511 => ?_) (fun c_511 => ?_)
        · refine lv_aload_n F.1 F.2.1 dX7_tableTold_64 rfl (lv_at hl 0 rfl) ?_
          refine g_calli (g_runV (As := []) (rest := []) (ci := 7) F hl.1 hH hS hz (c_X7_numberToldf l g gh T b nn nr nt cc f h I_499 R J_501 AI AJ_503 AR mo hv hm hT (by omega) h65 hbM hr7 (by omega) hn9 (by omega) hQ) (cwV 0 F.2.2.2.2.1 (good_up gT_X7_numberTold) rfl rfl rfl hdX7_numberTold ⟨Nat.le_of_ble_eq_true rfl, Nat.le_of_ble_eq_true rfl⟩) hm (by decide) rfl rfl rfl (Nat.le_of_ble_eq_true rfl) dX7_tableTold_65 ⟨Nat.zero_le _, Nat.zero_le _⟩) hS (fun v_518 I_512 R_513 J_514 AI_515 AJ_516 AR_517 H locs zv_518 hp_519 hH hS => ?_)
          dsimp only at hp_519
          obtain ⟨r_520, er_520⟩ : ∃ qQ : pR, qQ = thn (f, h, 0) (fun t _ => sNum b nn t) := ⟨_, rfl⟩
          rw [← er_520] at hp_519
          obtain ⟨rfl, rfl, rfl, rfl, hv, pfq, q_521, q_522, hQ, q_523⟩ := hp_519
          have pf := qF_t pf pfq
          have u_524_2 : (I_512 mo 2).toInt = (I mo 2).toInt := by rw [pf 2 (by decide) (by decide) (by decide) (by decide) (by decide)]
          have u_524_5 : (I_512 mo 5).toInt = (I mo 5).toInt := by rw [pf 5 (by decide) (by decide) (by decide) (by decide) (by decide)]
          have u_524_14 : (I_512 mo 14).toInt = (I mo 14).toInt := by rw [pf 14 (by decide) (by decide) (by decide) (by decide) (by decide)]
          have u_524_16 : (I_512 mo 16).toInt = (I mo 16).toInt := by rw [pf 16 (by decide) (by decide) (by decide) (by decide) (by decide)]
          have u_524_18 : (I_512 mo 18).toInt = (I mo 18).toInt := by rw [pf 18 (by decide) (by decide) (by decide) (by decide) (by decide)]
          rw [thn_b (by omega)] at er_520
          have hQ : mQ gh I_512 J_514 AI AJ_503 mo b nn nr nt cc f h := by rw [er_520] at hQ; exact hQ
          replace q_522 := hid q_522
          refine lv_istore_n (lv' := [(2, .int (iI v_518)), (0, .ref mo), (1, .int (iI bh))]) F.1 F.2.1 dX7_tableTold_68 rfl hl (by decide) rfl (fun ls hl => ?_)
          refine lv_aload_n F.1 F.2.1 dX7_tableTold_69 rfl (lv_at hl 1 rfl) ?_
          refine z_iconst F dX7_tableTold_70 ?_
          refine lv_iload_n F.1 F.2.1 dX7_tableTold_71 rfl (lv_at hl 0 rfl) ?_
          refine z_iconst F dX7_tableTold_72 ?_
          refine z_iconst F dX7_tableTold_73 ?_
          refine z_iconst F dX7_tableTold_74 ?_
          have b_525 := mJ hv hm
          unfold mNum1 at b_525
          refine g_callv (g_runV (As := [.int (iI 0), .int (iI v_518), .int (iI ((-1))), .int (iI ((-1))), .int (iI 0)]) (rest := []) (ci := 7) F hl.1 hH hS hz (c_X7_header l g gh T M I_512 R J_514 AI AJ_503 AR mo 0 v_518 (-1) (-1) 0 ⟨by decide, by decide⟩ zv_518 ⟨by decide, by decide⟩ ⟨by decide, by decide⟩ ⟨by decide, by decide⟩ hv hm hT (by omega) (by omega)) (cwV 5 F.2.2.2.2.1 (good_up gT_X7_header) rfl rfl rfl hdX7_header ⟨Nat.le_of_ble_eq_true rfl, Nat.le_of_ble_eq_true rfl⟩) hm (by decide) rfl rfl rfl (Nat.le_of_ble_eq_true rfl) dX7_tableTold_75 ⟨Nat.zero_le _, Nat.zero_le _⟩) hS (fun I_526 R_527 J_528 AI_529 AJ_530 AR_531 H locs hp_532 hH hS => ?_)
          dsimp only at hp_532
          obtain ⟨rfl, rfl, rfl, rfl, rfl, hv, hT, hhd⟩ := hp_532
          replace hhd := hid hhd
          have hQ : mQ gh I_512 J_514 AI_529 AJ_503 mo b nn nr nt cc f h := mQ_bad hQ (by omega) rfl
          have hfin : thn (f, h, 0) (fun t _ => sTbM b nn nr nt bh t) = (f, h, 0) := thn_b q0
          exact g_vret F hr hlk hH hS hz ⟨rfl, rfl, hv, hT, pf, by first | (dsimp only; omega) | omega | rfl, by (try dsimp only); exact (fun hf => absurd hf (by omega)), by (try dsimp only); exact (fun hf => absurd hf (by omega)), by (try dsimp only); rw [hfin]; exact hQ, by (try dsimp only); rw [hfin]; exact pIc_n (by omega), by (try dsimp only); rw [hfin]; exact pJm_n (by omega)⟩ dX7_tableTold_78
        · exact absurd (mQ_z hQ (by omega)) (by omega)
