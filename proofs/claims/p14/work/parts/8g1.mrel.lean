def rmX7_relationg : Room := { frames := 7, cells := 0, slots := 0, locals := 149 }
set_option maxHeartbeats 4000000 in
set_option maxRecDepth 100000 in
/-- a relation -/
theorem c_X7_relationg (l : Launch) (g : gG) (gh : gGh) (T : Nat → Int32) (b : tTx) (nn nr : Nat) (nt : Nat → Nat) (cc : Nat → Int) (f : Int) (h : Nat) (I : gI) (R : gR) (J : gJ) (AI : gI) (AJ : gJ) (AR : gR) (mo : Nat) (hv : mInv g gh R I AI) (hm : gO g mo 7) (hT : AI (gh 50 0) = T) (hE : (I mo 20).toInt ≤ 936) (h65 : gh 9 (gh 65 0) ≠ 5) (hbM : ∀ k : Nat, k < nn → ((gM g).2 (gh 65 0) k).toInt = b k % 256) (hr7 : ∀ k : Nat, -128 ≤ b k ∧ b k ≤ 127) (hsz : (I mo 18).toInt = (nn : Int)) (hn9 : nn ≤ 900) (hm5 : (I mo 5).toInt = (nr : Int)) (hQ : mQ gh I J AI AJ mo b nn nr nt cc f h) : gMet l g yX7_relation tsX7_relation rmX7_relationg [.ref mo] (I, R, J, AI, AJ, AR) (gQi g (fun (z : Int) (w : gS) => R = w.2.1 ∧ AI = w.2.2.2.1 ∧ AJ = w.2.2.2.2.1 ∧ AR = w.2.2.2.2.2 ∧ (mInv g gh R (w.1) AI) ∧ (qF mo I (w.1)) ∧ (((w.1) mo 20).toInt ≤ 936 ∧ (I mo 24).toInt ≤ ((w.1) mo 24).toInt) ∧ (0 ≤ z ∧ z ≤ 15 ∧ (((w.1) mo 24).toInt = 0 → z < (I mo 5).toInt)) ∧ (mQ gh (w.1) (w.2.2.1) AI AJ mo b nn nr nt cc (thn (f, h, 0) (fun t _ => sRl b nn nr nt cc t)).1 (thn (f, h, 0) (fun t _ => sRl b nn nr nt cc t)).2.1) ∧ (pRv z nr cc (thn (f, h, 0) (fun t _ => sRl b nn nr nt cc t))) ∧ (pIm (thn (f, h, 0) (fun t _ => sRl b nn nr nt cc t)).1 z (pFd b nn nt nr h)))) := by
  refine gStart (cc := cX7_relation) (maxL := 2) (ret := (some (.int))) (by decide) rfl (Nat.le_of_ble_eq_true rfl) ?_
  intro p e s m below meth c ls F hr hlk hH hz hS hl
  have hl : lv_has ls 2 [(0, .ref mo)] := hl
  have hS : va_S (gA g) s.heap s.heap [] := hS
  obtain ⟨H, hHe⟩ : ∃ H : Heap, H = s.heap := ⟨_, rfl⟩
  obtain ⟨locs, hlo⟩ : ∃ k : List Loc, k = [] := ⟨_, rfl⟩
  have hH : gH g I R J AI AJ AR H := by rw [hHe]; exact hH
  have hS : va_S (gA g) s.heap H locs := by rw [hHe, hlo]; exact hS
  suffices hw : W p l e rmX7_relationg s m ([.ref mo] : List Value).toArray below meth c H locs 0 0 (MQ below (gQi g (fun (z : Int) (w : gS) => R = w.2.1 ∧ AI = w.2.2.2.1 ∧ AJ = w.2.2.2.2.1 ∧ AR = w.2.2.2.2.2 ∧ (mInv g gh R (w.1) AI) ∧ (qF mo I (w.1)) ∧ (((w.1) mo 20).toInt ≤ 936 ∧ (I mo 24).toInt ≤ ((w.1) mo 24).toInt) ∧ (0 ≤ z ∧ z ≤ 15 ∧ (((w.1) mo 24).toInt = 0 → z < (I mo 5).toInt)) ∧ (mQ gh (w.1) (w.2.2.1) AI AJ mo b nn nr nt cc (thn (f, h, 0) (fun t _ => sRl b nn nr nt cc t)).1 (thn (f, h, 0) (fun t _ => sRl b nn nr nt cc t)).2.1) ∧ (pRv z nr cc (thn (f, h, 0) (fun t _ => sRl b nn nr nt cc t))) ∧ (pIm (thn (f, h, 0) (fun t _ => sRl b nn nr nt cc t)).1 z (pFd b nn nt nr h)))) ([.ref mo] : List Value).toArray s 0 0 (gA g)) (F0 m 0 ls []) by
    rw [hHe, hlo] at hw; exact hw
  clear hHe hlo
  have pf : qF mo I I := qF_r
  have hb0 := mJ hv hm
  unfold mNum1 at hb0
  have iX7 : ∀ w ∈ u_ws RX7 TX7 32, w ∈ tsX7_relation := fun w h => List.mem_cons_of_mem _ (inTB7 w h)
  have k81 : Cond.fieldLink RX7 81 (TX7 24).1 (TX7 24).2.1 (TX7 24).2.2.1 ∈ tsX7_relation := List.mem_cons_of_mem _ fl_81
  have k94 : Cond.fieldLink RX7 94 (TX7 21).1 (TX7 21).2.1 (TX7 21).2.2.1 ∈ tsX7_relation := List.mem_cons_of_mem _ fl_94
  have k111 : Cond.fieldLink RX7 111 (TX7 22).1 (TX7 22).2.1 (TX7 22).2.2.1 ∈ tsX7_relation := List.mem_cons_of_mem _ fl_111
  have hf0 := mQ_p hQ
  by_cases q0 : f = 0
  · have hQ := mQ_ok hQ q0
    have hz0 := mQ_0 hQ rfl
    refine lv_aload_n F.1 F.2.1 dX7_relation_0 rfl (lv_at hl 0 rfl) ?_
    refine g_getI (ci := 7) (k := 24) F hH rfl (by decide) iX7 hm (by decide) rfl k81 dX7_relation_1 ?_
    have b_1 := mJ hv hm
    unfold mNum1 at b_1
    refine z_if_ne (tgt := 27) F dX7_relation_4 (by decide) (zr_t _) (fun c_2 => ?_) (fun c_2 => ?_)
    · exact absurd (mQ_0 hQ rfl) (by omega)
    · refine lv_aload_n F.1 F.2.1 dX7_relation_7 rfl (lv_at hl 0 rfl) ?_
      refine g_getI (ci := 7) (k := 21) F hH rfl (by decide) iX7 hm (by decide) rfl k94 dX7_relation_8 ?_
      refine z_iconst F dX7_relation_11 ?_
      refine z_icmp_ne (tgt := 22) F dX7_relation_12 (by decide) (zr_t _) ⟨by decide, by decide⟩ (fun c_3 => ?_) (fun c_3 => ?_)
      · have t_4 : pK b nn h ≠ 3 := mQ_kn hQ rfl (c := 2) rfl (by omega)
        refine lv_aload_n F.1 F.2.1 dX7_relation_22 rfl (lv_at hl 0 rfl) ?_
        refine z_iconst F dX7_relation_23 ?_
        refine g_callv (g_runV (As := [.int (iI 1)]) (rest := []) (ci := 7) F hl.1 hH hS hz (c_X7_wrongf l g gh T b nn nr nt cc 0 h I R J AI AJ AR mo 1 ⟨by decide, by decide⟩ hv hm hT (by omega) h65 hbM hr7 (by omega) hn9 (by omega) hQ) (cwV 1 F.2.2.2.2.1 (good_up gT_X7_wrong) rfl rfl rfl hdX7_wrong ⟨Nat.le_of_ble_eq_true rfl, Nat.le_of_ble_eq_true rfl⟩) hm (by decide) rfl rfl rfl (Nat.le_of_ble_eq_true rfl) dX7_relation_24 ⟨Nat.zero_le _, Nat.zero_le _⟩) hS (fun I_5 R_6 J_7 AI_8 AJ_9 AR_10 H locs hp_11 hH hS => ?_)
        dsimp only at hp_11
        obtain ⟨r_12, er_12⟩ : ∃ qQ : pR, qQ = thn (0, h, 0) (fun t _ => (1, t, 0)) := ⟨_, rfl⟩
        rw [← er_12] at hp_11
        obtain ⟨rfl, rfl, rfl, rfl, rfl, hv, pfq, q_13, hQ⟩ := hp_11
        have pf := qF_t pf pfq
        have u_14_2 : (I_5 mo 2).toInt = (I mo 2).toInt := by rw [pf 2 (by decide) (by decide) (by decide) (by decide) (by decide)]
        have u_14_5 : (I_5 mo 5).toInt = (I mo 5).toInt := by rw [pf 5 (by decide) (by decide) (by decide) (by decide) (by decide)]
        have u_14_14 : (I_5 mo 14).toInt = (I mo 14).toInt := by rw [pf 14 (by decide) (by decide) (by decide) (by decide) (by decide)]
        have u_14_16 : (I_5 mo 16).toInt = (I mo 16).toInt := by rw [pf 16 (by decide) (by decide) (by decide) (by decide) (by decide)]
        have u_14_18 : (I_5 mo 18).toInt = (I mo 18).toInt := by rw [pf 18 (by decide) (by decide) (by decide) (by decide) (by decide)]
        have er_12 : r_12 = (1, h, 0) := er_12
        have hQ : mQ gh I_5 J AI AJ mo b nn nr nt cc 1 h := by rw [er_12] at hQ; exact hQ
        have q9_r_12 : (1 : Int) ≠ 0 := by omega
        have g9_r_12 := mQ_f hQ q9_r_12
        refine lv_aload_n F.1 F.2.1 dX7_relation_27 rfl (lv_at hl 0 rfl) ?_
        refine g_getI (ci := 7) (k := 24) F hH rfl (by decide) iX7 hm (by decide) rfl k81 dX7_relation_28 ?_
        have b_15 := mJ hv hm
        unfold mNum1 at b_15
        refine z_if_le (tgt := 38) F dX7_relation_31 (by decide) (zr_t _) (fun c_16 => ?_) (fun c_16 => ?_)
        · exact absurd (mQ_z hQ (by omega)) (by omega)
        · refine z_iconst F dX7_relation_34 ?_
          refine z_goto (tgt := 46) F dX7_relation_35 (by decide) ?_
          refine lv_istore_n (lv' := [(1, .int (iI ((-1)))), (0, .ref mo)]) F.1 F.2.1 dX7_relation_46 rfl hl (by decide) rfl (fun ls hl => ?_)
          refine lv_iload_n F.1 F.2.1 dX7_relation_47 rfl (lv_at hl 0 rfl) ?_
          refine z_if_ge (tgt := 56) F dX7_relation_48 (by decide) ⟨by decide, by decide⟩ (fun c_17 => ?_) (fun c_17 => ?_)
          · exact absurd trivial (by omega)
          · refine lv_aload_n F.1 F.2.1 dX7_relation_51 rfl (lv_at hl 1 rfl) ?_
            refine z_iconst F dX7_relation_52 ?_
            refine g_callv (g_runV (As := [.int (iI 3)]) (rest := []) (ci := 7) F hl.1 hH hS hz (c_X7_wrongf l g gh T b nn nr nt cc 1 h I_5 R J AI AJ AR mo 3 ⟨by decide, by decide⟩ hv hm hT (by omega) h65 hbM hr7 (by omega) hn9 (by omega) hQ) (cwV 1 F.2.2.2.2.1 (good_up gT_X7_wrong) rfl rfl rfl hdX7_wrong ⟨Nat.le_of_ble_eq_true rfl, Nat.le_of_ble_eq_true rfl⟩) hm (by decide) rfl rfl rfl (Nat.le_of_ble_eq_true rfl) dX7_relation_53 ⟨Nat.zero_le _, Nat.zero_le _⟩) hS (fun I_18 R_19 J_20 AI_21 AJ_22 AR_23 H locs hp_24 hH hS => ?_)
            dsimp only at hp_24
            obtain ⟨r_25, er_25⟩ : ∃ qQ : pR, qQ = thn (1, h, 0) (fun t _ => (3, t, 0)) := ⟨_, rfl⟩
            rw [← er_25] at hp_24
            obtain ⟨rfl, rfl, rfl, rfl, rfl, hv, pfq, q_26, hQ⟩ := hp_24
            have pf := qF_t pf pfq
            have u_27_2 : (I_18 mo 2).toInt = (I mo 2).toInt := by rw [pf 2 (by decide) (by decide) (by decide) (by decide) (by decide)]
            have u_27_5 : (I_18 mo 5).toInt = (I mo 5).toInt := by rw [pf 5 (by decide) (by decide) (by decide) (by decide) (by decide)]
            have u_27_14 : (I_18 mo 14).toInt = (I mo 14).toInt := by rw [pf 14 (by decide) (by decide) (by decide) (by decide) (by decide)]
            have u_27_16 : (I_18 mo 16).toInt = (I mo 16).toInt := by rw [pf 16 (by decide) (by decide) (by decide) (by decide) (by decide)]
            have u_27_18 : (I_18 mo 18).toInt = (I mo 18).toInt := by rw [pf 18 (by decide) (by decide) (by decide) (by decide) (by decide)]
            rw [thn_b (by omega)] at er_25
            have hQ : mQ gh I_18 J AI AJ mo b nn nr nt cc 1 h := by rw [er_25] at hQ; exact hQ
            refine lv_aload_n F.1 F.2.1 dX7_relation_56 rfl (lv_at hl 1 rfl) ?_
            have b_28 := mJ hv hm
            unfold mNum1 at b_28
            refine g_callv (g_runV (As := []) (rest := []) (ci := 7) F hl.1 hH hS hz (c_X7_nextf l g gh T b nn (tNd b nn (tPs b nn h)) I_18 R J AI AJ AR mo hv hm hT (by omega) (mTp hv h65 hbM) hr7 (by omega) (by omega) (mQ_e0 hQ) tNd_le.1) (cwV 0 F.2.2.2.2.1 (good_up gT_X7_next) rfl rfl rfl hdX7_next ⟨Nat.le_of_ble_eq_true rfl, Nat.le_of_ble_eq_true rfl⟩) hm (by decide) rfl rfl rfl (Nat.le_of_ble_eq_true rfl) dX7_relation_57 ⟨Nat.zero_le _, Nat.zero_le _⟩) hS (fun I_29 R_30 J_31 AI_32 AJ_33 AR_34 H locs hp_35 hH hS => ?_)
            dsimp only at hp_35
            obtain ⟨rfl, rfl, rfl, rfl, hv, pfq, q_36, nx4, nxa, nxb⟩ := hp_35
            have pf := qF_t pf pfq
            have u_37_2 : (I_29 mo 2).toInt = (I mo 2).toInt := by rw [pf 2 (by decide) (by decide) (by decide) (by decide) (by decide)]
            have u_37_5 : (I_29 mo 5).toInt = (I mo 5).toInt := by rw [pf 5 (by decide) (by decide) (by decide) (by decide) (by decide)]
            have u_37_14 : (I_29 mo 14).toInt = (I mo 14).toInt := by rw [pf 14 (by decide) (by decide) (by decide) (by decide) (by decide)]
            have u_37_16 : (I_29 mo 16).toInt = (I mo 16).toInt := by rw [pf 16 (by decide) (by decide) (by decide) (by decide) (by decide)]
            have u_37_18 : (I_29 mo 18).toInt = (I mo 18).toInt := by rw [pf 18 (by decide) (by decide) (by decide) (by decide) (by decide)]
            have hQ : mQ gh I_29 J_31 AI AJ mo b nn nr nt cc 1 h := by have q9 := mQ_nx hQ nx4 nxa; rw [thn_b (by omega)] at q9; exact q9
            clear nxa nxb
            refine lv_iload_n F.1 F.2.1 dX7_relation_60 rfl (lv_at hl 0 rfl) ?_
            refine z_if_ge (tgt := 68) F dX7_relation_61 (by decide) ⟨by decide, by decide⟩ (fun c_38 => ?_) (fun c_38 => ?_)
            · exact absurd trivial (by omega)
            · refine z_iconst F dX7_relation_64 ?_
              refine z_goto (tgt := 69) F dX7_relation_65 (by decide) ?_
              have hfin : thn (f, h, 0) (fun t _ => sRl b nn nr nt cc t) = (1, h, 0) := by
                refine (thn_k q0).trans ?_
                show sRl b nn nr nt cc h = _
                unfold sRl
                repeat (first | with_reducible rfl | refine ite_y (by omega) ?_ | refine ite_n (by omega) ?_ | refine ite_y (pRf_0 (by omega) (by omega)) ?_ | refine ite_n (fun e9 => absurd (pRf_i e9) (by omega)) ?_ | exact pr_e (pRf_1 (by omega)) (by omega) (by omega) | exact pr_e (pRf_3 (by omega) (by omega)) (by omega) (by omega) | exact pr_e (by omega) (by omega) (by omega) | refine ite_y (pCf_ok (by omega) (by omega)) ?_ | refine ite_n (fun e9 => absurd (pCf_0 e9) (by omega)) ?_ | exact pr_e (pCf_no (by omega)) (by omega) (by omega) | exact pr_e (pCf_big (by omega) (by omega)) (by omega) (by omega))
              exact g_iret F hr hlk hH hS hz ⟨by decide, by decide⟩ ⟨rfl, rfl, rfl, rfl, hv, pf, by first | omega | rfl | (dsimp only; omega), by first | omega | rfl | (dsimp only; omega), by (try dsimp only); rw [hfin]; exact hQ, by (try dsimp only); rw [hfin]; first | exact pRv_n (by omega) | exact pRv_y (by omega) (by omega) (by unfold cF; rw [← hfd]), by (try dsimp only); rw [hfin]; exact pIm_n (by omega)⟩ dX7_relation_69
      · have t_39 := tkM_2 ((mQ_k hQ rfl).symm.trans (by omega))
        have t_39r := pV_r t_39
        refine lv_aload_n F.1 F.2.1 dX7_relation_15 rfl (lv_at hl 0 rfl) ?_
        refine g_calli (g_runV (As := []) (rest := []) (ci := 7) F hl.1 hH hS hz (c_X7_isReservedf l g gh T b nn nr nt cc 0 h I R J AI AJ AR mo hv hm hT h65 hbM hr7 (by omega) hn9 (by omega) hQ) (cwV 0 F.2.2.2.2.1 (good_up gT_X7_isReserved) rfl rfl rfl hdX7_isReserved ⟨Nat.le_of_ble_eq_true rfl, Nat.le_of_ble_eq_true rfl⟩) hm (by decide) rfl rfl rfl (Nat.le_of_ble_eq_true rfl) dX7_relation_16 ⟨Nat.zero_le _, Nat.zero_le _⟩) hS (fun v_46 I_40 R_41 J_42 AI_43 AJ_44 AR_45 H locs zv_46 hp_47 hH hS => ?_)
        dsimp only at hp_47
        obtain ⟨rfl, rfl, rfl, rfl, rfl, rfl, q_48, q_49⟩ := hp_47
        refine z_if_eq (tgt := 27) F dX7_relation_19 (by decide) zv_46 (fun c_50 => ?_) (fun c_50 => ?_)
        · have t_51 := tIz_0 q_49 (by omega)
          refine lv_aload_n F.1 F.2.1 dX7_relation_27 rfl (lv_at hl 0 rfl) ?_
          refine g_getI (ci := 7) (k := 24) F hH rfl (by decide) iX7 hm (by decide) rfl k81 dX7_relation_28 ?_
          refine z_if_le (tgt := 38) F dX7_relation_31 (by decide) (zr_t _) (fun c_52 => ?_) (fun c_52 => ?_)
          · refine lv_aload_n F.1 F.2.1 dX7_relation_38 rfl (lv_at hl 0 rfl) ?_
            refine lv_aload_n F.1 F.2.1 dX7_relation_39 rfl (lv_at hl 0 rfl) ?_
            refine g_getJ (ci := 7) (k := 22) F hH rfl (by decide) iX7 hm (by decide) rfl k111 dX7_relation_40 ?_
            refine lv_topl (fun j_53 ej_53 => ?_)
            have ew40 := ej_53
            refine g_calli (g_runV (As := [.long j_53]) (rest := []) (ci := 7) F hl.1 hH hS hz (c_X7_named l g gh T I R J AI AJ AR mo j_53 hv hm hT) (cwV 1 F.2.2.2.2.1 (good_up gT_X7_named) rfl rfl rfl hdX7_named ⟨Nat.le_of_ble_eq_true rfl, Nat.le_of_ble_eq_true rfl⟩) hm (by decide) rfl rfl rfl (Nat.le_of_ble_eq_true rfl) dX7_relation_43 ⟨Nat.zero_le _, Nat.zero_le _⟩) hS (fun v_60 I_54 R_55 J_56 AI_57 AJ_58 AR_59 H locs zv_60 hp_61 hH hS => ?_)
            dsimp only at hp_61
            obtain ⟨rfl, rfl, rfl, rfl, rfl, rfl, nma, nmb⟩ := hp_61
            have hfd : v_60 = pFd b nn nt nr h := mQ_fd hQ rfl (by omega) (by omega) ew40 nma nmb
            refine lv_istore_n (lv' := [(1, .int (iI v_60)), (0, .ref mo)]) F.1 F.2.1 dX7_relation_46 rfl hl (by decide) rfl (fun ls hl => ?_)
            refine lv_iload_n F.1 F.2.1 dX7_relation_47 rfl (lv_at hl 0 rfl) ?_
            refine z_if_ge (tgt := 56) F dX7_relation_48 (by decide) zv_60 (fun c_62 => ?_) (fun c_62 => ?_)
            · refine lv_aload_n F.1 F.2.1 dX7_relation_56 rfl (lv_at hl 1 rfl) ?_
              refine g_callv (g_runV (As := []) (rest := []) (ci := 7) F hl.1 hH hS hz (c_X7_nextf l g gh T b nn (tNd b nn (tPs b nn h)) I R J AI AJ AR mo hv hm hT (by omega) (mTp hv h65 hbM) hr7 (by omega) (by omega) (mQ_e0 hQ) tNd_le.1) (cwV 0 F.2.2.2.2.1 (good_up gT_X7_next) rfl rfl rfl hdX7_next ⟨Nat.le_of_ble_eq_true rfl, Nat.le_of_ble_eq_true rfl⟩) hm (by decide) rfl rfl rfl (Nat.le_of_ble_eq_true rfl) dX7_relation_57 ⟨Nat.zero_le _, Nat.zero_le _⟩) hS (fun I_63 R_64 J_65 AI_66 AJ_67 AR_68 H locs hp_69 hH hS => ?_)
              dsimp only at hp_69
              obtain ⟨rfl, rfl, rfl, rfl, hv, pfq, q_70, nx4, nxa, nxb⟩ := hp_69
              have pf := qF_t pf pfq
              have u_71_2 : (I_63 mo 2).toInt = (I mo 2).toInt := by rw [pf 2 (by decide) (by decide) (by decide) (by decide) (by decide)]
              have u_71_5 : (I_63 mo 5).toInt = (I mo 5).toInt := by rw [pf 5 (by decide) (by decide) (by decide) (by decide) (by decide)]
              have u_71_14 : (I_63 mo 14).toInt = (I mo 14).toInt := by rw [pf 14 (by decide) (by decide) (by decide) (by decide) (by decide)]
              have u_71_16 : (I_63 mo 16).toInt = (I mo 16).toInt := by rw [pf 16 (by decide) (by decide) (by decide) (by decide) (by decide)]
              have u_71_18 : (I_63 mo 18).toInt = (I mo 18).toInt := by rw [pf 18 (by decide) (by decide) (by decide) (by decide) (by decide)]
              have hQ : mQ gh I_63 J_65 AI AJ mo b nn nr nt cc 0 (h + 1) := mQ_nx hQ nx4 nxa
              clear nxa nxb
              refine lv_iload_n F.1 F.2.1 dX7_relation_60 rfl (lv_at hl 0 rfl) ?_
              refine z_if_ge (tgt := 68) F dX7_relation_61 (by decide) zv_60 (fun c_72 => ?_) (fun c_72 => ?_)
              · refine lv_iload_n F.1 F.2.1 dX7_relation_68 rfl (lv_at hl 0 rfl) ?_
                have hfin : thn (f, h, 0) (fun t _ => sRl b nn nr nt cc t) = (0, h + 1, cF b nn nr nt cc h) := by
                  refine (thn_k q0).trans ?_
                  show sRl b nn nr nt cc h = _
                  unfold sRl
                  repeat (first | with_reducible rfl | refine ite_y (by omega) ?_ | refine ite_n (by omega) ?_ | refine ite_y (pRf_0 (by omega) (by omega)) ?_ | refine ite_n (fun e9 => absurd (pRf_i e9) (by omega)) ?_ | exact pr_e (pRf_1 (by omega)) (by omega) (by omega) | exact pr_e (pRf_3 (by omega) (by omega)) (by omega) (by omega) | exact pr_e (by omega) (by omega) (by omega) | refine ite_y (pCf_ok (by omega) (by omega)) ?_ | refine ite_n (fun e9 => absurd (pCf_0 e9) (by omega)) ?_ | exact pr_e (pCf_no (by omega)) (by omega) (by omega) | exact pr_e (pCf_big (by omega) (by omega)) (by omega) (by omega))
                exact g_iret F hr hlk hH hS hz zv_60 ⟨rfl, rfl, rfl, rfl, hv, pf, by first | omega | rfl | (dsimp only; omega), by first | omega | rfl | (dsimp only; omega), by (try dsimp only); rw [hfin]; exact hQ, by (try dsimp only); rw [hfin]; first | exact pRv_n (by omega) | exact pRv_y (by omega) (by omega) (by unfold cF; rw [← hfd]), by (try dsimp only); rw [hfin]; exact pIm_y (by omega)⟩ dX7_relation_69
              · exact absurd trivial (by omega)
            · refine lv_aload_n F.1 F.2.1 dX7_relation_51 rfl (lv_at hl 1 rfl) ?_
              refine z_iconst F dX7_relation_52 ?_
              refine g_callv (g_runV (As := [.int (iI 3)]) (rest := []) (ci := 7) F hl.1 hH hS hz (c_X7_wrongf l g gh T b nn nr nt cc 0 h I R J AI AJ AR mo 3 ⟨by decide, by decide⟩ hv hm hT (by omega) h65 hbM hr7 (by omega) hn9 (by omega) hQ) (cwV 1 F.2.2.2.2.1 (good_up gT_X7_wrong) rfl rfl rfl hdX7_wrong ⟨Nat.le_of_ble_eq_true rfl, Nat.le_of_ble_eq_true rfl⟩) hm (by decide) rfl rfl rfl (Nat.le_of_ble_eq_true rfl) dX7_relation_53 ⟨Nat.zero_le _, Nat.zero_le _⟩) hS (fun I_73 R_74 J_75 AI_76 AJ_77 AR_78 H locs hp_79 hH hS => ?_)
              dsimp only at hp_79
              obtain ⟨r_80, er_80⟩ : ∃ qQ : pR, qQ = thn (0, h, 0) (fun t _ => (3, t, 0)) := ⟨_, rfl⟩
              rw [← er_80] at hp_79
              obtain ⟨rfl, rfl, rfl, rfl, rfl, hv, pfq, q_81, hQ⟩ := hp_79
              have pf := qF_t pf pfq
              have u_82_2 : (I_73 mo 2).toInt = (I mo 2).toInt := by rw [pf 2 (by decide) (by decide) (by decide) (by decide) (by decide)]
              have u_82_5 : (I_73 mo 5).toInt = (I mo 5).toInt := by rw [pf 5 (by decide) (by decide) (by decide) (by decide) (by decide)]
              have u_82_14 : (I_73 mo 14).toInt = (I mo 14).toInt := by rw [pf 14 (by decide) (by decide) (by decide) (by decide) (by decide)]
              have u_82_16 : (I_73 mo 16).toInt = (I mo 16).toInt := by rw [pf 16 (by decide) (by decide) (by decide) (by decide) (by decide)]
              have u_82_18 : (I_73 mo 18).toInt = (I mo 18).toInt := by rw [pf 18 (by decide) (by decide) (by decide) (by decide) (by decide)]
              have er_80 : r_80 = (3, h, 0) := er_80
              have hQ : mQ gh I_73 J AI AJ mo b nn nr nt cc 3 h := by rw [er_80] at hQ; exact hQ
              have q9_r_80 : (3 : Int) ≠ 0 := by omega
              have g9_r_80 := mQ_f hQ q9_r_80
              refine lv_aload_n F.1 F.2.1 dX7_relation_56 rfl (lv_at hl 1 rfl) ?_
              have b_83 := mJ hv hm
              unfold mNum1 at b_83
              refine g_callv (g_runV (As := []) (rest := []) (ci := 7) F hl.1 hH hS hz (c_X7_nextf l g gh T b nn (tNd b nn (tPs b nn h)) I_73 R J AI AJ AR mo hv hm hT (by omega) (mTp hv h65 hbM) hr7 (by omega) (by omega) (mQ_e0 hQ) tNd_le.1) (cwV 0 F.2.2.2.2.1 (good_up gT_X7_next) rfl rfl rfl hdX7_next ⟨Nat.le_of_ble_eq_true rfl, Nat.le_of_ble_eq_true rfl⟩) hm (by decide) rfl rfl rfl (Nat.le_of_ble_eq_true rfl) dX7_relation_57 ⟨Nat.zero_le _, Nat.zero_le _⟩) hS (fun I_84 R_85 J_86 AI_87 AJ_88 AR_89 H locs hp_90 hH hS => ?_)
              dsimp only at hp_90
              obtain ⟨rfl, rfl, rfl, rfl, hv, pfq, q_91, nx4, nxa, nxb⟩ := hp_90
              have pf := qF_t pf pfq
              have u_92_2 : (I_84 mo 2).toInt = (I mo 2).toInt := by rw [pf 2 (by decide) (by decide) (by decide) (by decide) (by decide)]
              have u_92_5 : (I_84 mo 5).toInt = (I mo 5).toInt := by rw [pf 5 (by decide) (by decide) (by decide) (by decide) (by decide)]
              have u_92_14 : (I_84 mo 14).toInt = (I mo 14).toInt := by rw [pf 14 (by decide) (by decide) (by decide) (by decide) (by decide)]
              have u_92_16 : (I_84 mo 16).toInt = (I mo 16).toInt := by rw [pf 16 (by decide) (by decide) (by decide) (by decide) (by decide)]
              have u_92_18 : (I_84 mo 18).toInt = (I mo 18).toInt := by rw [pf 18 (by decide) (by decide) (by decide) (by decide) (by decide)]
              have hQ : mQ gh I_84 J_86 AI AJ mo b nn nr nt cc 3 h := by have q9 := mQ_nx hQ nx4 nxa; rw [thn_b (by omega)] at q9; exact q9
              clear nxa nxb
              refine lv_iload_n F.1 F.2.1 dX7_relation_60 rfl (lv_at hl 0 rfl) ?_
              refine z_if_ge (tgt := 68) F dX7_relation_61 (by decide) zv_60 (fun c_93 => ?_) (fun c_93 => ?_)
              · exact absurd trivial (by omega)
              · refine z_iconst F dX7_relation_64 ?_
                refine z_goto (tgt := 69) F dX7_relation_65 (by decide) ?_
                have hfin : thn (f, h, 0) (fun t _ => sRl b nn nr nt cc t) = (3, h, 0) := by
                  refine (thn_k q0).trans ?_
                  show sRl b nn nr nt cc h = _
                  unfold sRl
                  repeat (first | with_reducible rfl | refine ite_y (by omega) ?_ | refine ite_n (by omega) ?_ | refine ite_y (pRf_0 (by omega) (by omega)) ?_ | refine ite_n (fun e9 => absurd (pRf_i e9) (by omega)) ?_ | exact pr_e (pRf_1 (by omega)) (by omega) (by omega) | exact pr_e (pRf_3 (by omega) (by omega)) (by omega) (by omega) | exact pr_e (by omega) (by omega) (by omega) | refine ite_y (pCf_ok (by omega) (by omega)) ?_ | refine ite_n (fun e9 => absurd (pCf_0 e9) (by omega)) ?_ | exact pr_e (pCf_no (by omega)) (by omega) (by omega) | exact pr_e (pCf_big (by omega) (by omega)) (by omega) (by omega))
                exact g_iret F hr hlk hH hS hz ⟨by decide, by decide⟩ ⟨rfl, rfl, rfl, rfl, hv, pf, by first | omega | rfl | (dsimp only; omega), by first | omega | rfl | (dsimp only; omega), by (try dsimp only); rw [hfin]; exact hQ, by (try dsimp only); rw [hfin]; first | exact pRv_n (by omega) | exact pRv_y (by omega) (by omega) (by unfold cF; rw [← hfd]), by (try dsimp only); rw [hfin]; exact pIm_n (by omega)⟩ dX7_relation_69
          · exact absurd trivial (by omega)
        · have t_94 := tIz_1 q_49 (by omega)
          refine lv_aload_n F.1 F.2.1 dX7_relation_22 rfl (lv_at hl 0 rfl) ?_
          refine z_iconst F dX7_relation_23 ?_
          refine g_callv (g_runV (As := [.int (iI 1)]) (rest := []) (ci := 7) F hl.1 hH hS hz (c_X7_wrongf l g gh T b nn nr nt cc 0 h I R J AI AJ AR mo 1 ⟨by decide, by decide⟩ hv hm hT (by omega) h65 hbM hr7 (by omega) hn9 (by omega) hQ) (cwV 1 F.2.2.2.2.1 (good_up gT_X7_wrong) rfl rfl rfl hdX7_wrong ⟨Nat.le_of_ble_eq_true rfl, Nat.le_of_ble_eq_true rfl⟩) hm (by decide) rfl rfl rfl (Nat.le_of_ble_eq_true rfl) dX7_relation_24 ⟨Nat.zero_le _, Nat.zero_le _⟩) hS (fun I_95 R_96 J_97 AI_98 AJ_99 AR_100 H locs hp_101 hH hS => ?_)
          dsimp only at hp_101
          obtain ⟨r_102, er_102⟩ : ∃ qQ : pR, qQ = thn (0, h, 0) (fun t _ => (1, t, 0)) := ⟨_, rfl⟩
          rw [← er_102] at hp_101
          obtain ⟨rfl, rfl, rfl, rfl, rfl, hv, pfq, q_103, hQ⟩ := hp_101
          have pf := qF_t pf pfq
          have u_104_2 : (I_95 mo 2).toInt = (I mo 2).toInt := by rw [pf 2 (by decide) (by decide) (by decide) (by decide) (by decide)]
          have u_104_5 : (I_95 mo 5).toInt = (I mo 5).toInt := by rw [pf 5 (by decide) (by decide) (by decide) (by decide) (by decide)]
          have u_104_14 : (I_95 mo 14).toInt = (I mo 14).toInt := by rw [pf 14 (by decide) (by decide) (by decide) (by decide) (by decide)]
          have u_104_16 : (I_95 mo 16).toInt = (I mo 16).toInt := by rw [pf 16 (by decide) (by decide) (by decide) (by decide) (by decide)]
          have u_104_18 : (I_95 mo 18).toInt = (I mo 18).toInt := by rw [pf 18 (by decide) (by decide) (by decide) (by decide) (by decide)]
          have er_102 : r_102 = (1, h, 0) := er_102
          have hQ : mQ gh I_95 J AI AJ mo b nn nr nt cc 1 h := by rw [er_102] at hQ; exact hQ
          have q9_r_102 : (1 : Int) ≠ 0 := by omega
          have g9_r_102 := mQ_f hQ q9_r_102
          refine lv_aload_n F.1 F.2.1 dX7_relation_27 rfl (lv_at hl 0 rfl) ?_
          refine g_getI (ci := 7) (k := 24) F hH rfl (by decide) iX7 hm (by decide) rfl k81 dX7_relation_28 ?_
          have b_105 := mJ hv hm
          unfold mNum1 at b_105
          refine z_if_le (tgt := 38) F dX7_relation_31 (by decide) (zr_t _) (fun c_106 => ?_) (fun c_106 => ?_)
          · exact absurd (mQ_z hQ (by omega)) (by omega)
          · refine z_iconst F dX7_relation_34 ?_
            refine z_goto (tgt := 46) F dX7_relation_35 (by decide) ?_
            refine lv_istore_n (lv' := [(1, .int (iI ((-1)))), (0, .ref mo)]) F.1 F.2.1 dX7_relation_46 rfl hl (by decide) rfl (fun ls hl => ?_)
            refine lv_iload_n F.1 F.2.1 dX7_relation_47 rfl (lv_at hl 0 rfl) ?_
            refine z_if_ge (tgt := 56) F dX7_relation_48 (by decide) ⟨by decide, by decide⟩ (fun c_107 => ?_) (fun c_107 => ?_)
            · exact absurd trivial (by omega)
            · refine lv_aload_n F.1 F.2.1 dX7_relation_51 rfl (lv_at hl 1 rfl) ?_
              refine z_iconst F dX7_relation_52 ?_
              refine g_callv (g_runV (As := [.int (iI 3)]) (rest := []) (ci := 7) F hl.1 hH hS hz (c_X7_wrongf l g gh T b nn nr nt cc 1 h I_95 R J AI AJ AR mo 3 ⟨by decide, by decide⟩ hv hm hT (by omega) h65 hbM hr7 (by omega) hn9 (by omega) hQ) (cwV 1 F.2.2.2.2.1 (good_up gT_X7_wrong) rfl rfl rfl hdX7_wrong ⟨Nat.le_of_ble_eq_true rfl, Nat.le_of_ble_eq_true rfl⟩) hm (by decide) rfl rfl rfl (Nat.le_of_ble_eq_true rfl) dX7_relation_53 ⟨Nat.zero_le _, Nat.zero_le _⟩) hS (fun I_108 R_109 J_110 AI_111 AJ_112 AR_113 H locs hp_114 hH hS => ?_)
              dsimp only at hp_114
              obtain ⟨r_115, er_115⟩ : ∃ qQ : pR, qQ = thn (1, h, 0) (fun t _ => (3, t, 0)) := ⟨_, rfl⟩
              rw [← er_115] at hp_114
              obtain ⟨rfl, rfl, rfl, rfl, rfl, hv, pfq, q_116, hQ⟩ := hp_114
              have pf := qF_t pf pfq
              have u_117_2 : (I_108 mo 2).toInt = (I mo 2).toInt := by rw [pf 2 (by decide) (by decide) (by decide) (by decide) (by decide)]
              have u_117_5 : (I_108 mo 5).toInt = (I mo 5).toInt := by rw [pf 5 (by decide) (by decide) (by decide) (by decide) (by decide)]
              have u_117_14 : (I_108 mo 14).toInt = (I mo 14).toInt := by rw [pf 14 (by decide) (by decide) (by decide) (by decide) (by decide)]
              have u_117_16 : (I_108 mo 16).toInt = (I mo 16).toInt := by rw [pf 16 (by decide) (by decide) (by decide) (by decide) (by decide)]
              have u_117_18 : (I_108 mo 18).toInt = (I mo 18).toInt := by rw [pf 18 (by decide) (by decide) (by decide) (by decide) (by decide)]
              rw [thn_b (by omega)] at er_115
              have hQ : mQ gh I_108 J AI AJ mo b nn nr nt cc 1 h := by rw [er_115] at hQ; exact hQ
              refine lv_aload_n F.1 F.2.1 dX7_relation_56 rfl (lv_at hl 1 rfl) ?_
              have b_118 := mJ hv hm
              unfold mNum1 at b_118
              refine g_callv (g_runV (As := []) (rest := []) (ci := 7) F hl.1 hH hS hz (c_X7_nextf l g gh T b nn (tNd b nn (tPs b nn h)) I_108 R J AI AJ AR mo hv hm hT (by omega) (mTp hv h65 hbM) hr7 (by omega) (by omega) (mQ_e0 hQ) tNd_le.1) (cwV 0 F.2.2.2.2.1 (good_up gT_X7_next) rfl rfl rfl hdX7_next ⟨Nat.le_of_ble_eq_true rfl, Nat.le_of_ble_eq_true rfl⟩) hm (by decide) rfl rfl rfl (Nat.le_of_ble_eq_true rfl) dX7_relation_57 ⟨Nat.zero_le _, Nat.zero_le _⟩) hS (fun I_119 R_120 J_121 AI_122 AJ_123 AR_124 H locs hp_125 hH hS => ?_)
              dsimp only at hp_125
              obtain ⟨rfl, rfl, rfl, rfl, hv, pfq, q_126, nx4, nxa, nxb⟩ := hp_125
              have pf := qF_t pf pfq
              have u_127_2 : (I_119 mo 2).toInt = (I mo 2).toInt := by rw [pf 2 (by decide) (by decide) (by decide) (by decide) (by decide)]
              have u_127_5 : (I_119 mo 5).toInt = (I mo 5).toInt := by rw [pf 5 (by decide) (by decide) (by decide) (by decide) (by decide)]
              have u_127_14 : (I_119 mo 14).toInt = (I mo 14).toInt := by rw [pf 14 (by decide) (by decide) (by decide) (by decide) (by decide)]
              have u_127_16 : (I_119 mo 16).toInt = (I mo 16).toInt := by rw [pf 16 (by decide) (by decide) (by decide) (by decide) (by decide)]
              have u_127_18 : (I_119 mo 18).toInt = (I mo 18).toInt := by rw [pf 18 (by decide) (by decide) (by decide) (by decide) (by decide)]
              have hQ : mQ gh I_119 J_121 AI AJ mo b nn nr nt cc 1 h := by have q9 := mQ_nx hQ nx4 nxa; rw [thn_b (by omega)] at q9; exact q9
              clear nxa nxb
              refine lv_iload_n F.1 F.2.1 dX7_relation_60 rfl (lv_at hl 0 rfl) ?_
              refine z_if_ge (tgt := 68) F dX7_relation_61 (by decide) ⟨by decide, by decide⟩ (fun c_128 => ?_) (fun c_128 => ?_)
              · exact absurd trivial (by omega)
              · refine z_iconst F dX7_relation_64 ?_
                refine z_goto (tgt := 69) F dX7_relation_65 (by decide) ?_
                have hfin : thn (f, h, 0) (fun t _ => sRl b nn nr nt cc t) = (1, h, 0) := by
                  refine (thn_k q0).trans ?_
                  show sRl b nn nr nt cc h = _
                  unfold sRl
                  repeat (first | with_reducible rfl | refine ite_y (by omega) ?_ | refine ite_n (by omega) ?_ | refine ite_y (pRf_0 (by omega) (by omega)) ?_ | refine ite_n (fun e9 => absurd (pRf_i e9) (by omega)) ?_ | exact pr_e (pRf_1 (by omega)) (by omega) (by omega) | exact pr_e (pRf_3 (by omega) (by omega)) (by omega) (by omega) | exact pr_e (by omega) (by omega) (by omega) | refine ite_y (pCf_ok (by omega) (by omega)) ?_ | refine ite_n (fun e9 => absurd (pCf_0 e9) (by omega)) ?_ | exact pr_e (pCf_no (by omega)) (by omega) (by omega) | exact pr_e (pCf_big (by omega) (by omega)) (by omega) (by omega))
                exact g_iret F hr hlk hH hS hz ⟨by decide, by decide⟩ ⟨rfl, rfl, rfl, rfl, hv, pf, by first | omega | rfl | (dsimp only; omega), by first | omega | rfl | (dsimp only; omega), by (try dsimp only); rw [hfin]; exact hQ, by (try dsimp only); rw [hfin]; first | exact pRv_n (by omega) | exact pRv_y (by omega) (by omega) (by unfold cF; rw [← hfd]), by (try dsimp only); rw [hfin]; exact pIm_n (by omega)⟩ dX7_relation_69
  · have hf1 := mQ_f hQ q0
    refine lv_aload_n F.1 F.2.1 dX7_relation_0 rfl (lv_at hl 0 rfl) ?_
    refine g_getI (ci := 7) (k := 24) F hH rfl (by decide) iX7 hm (by decide) rfl k81 dX7_relation_1 ?_
    have b_129 := mJ hv hm
    unfold mNum1 at b_129
    refine z_if_ne (tgt := 27) F dX7_relation_4 (by decide) (zr_t _) (fun c_130 => ?_) (fun c_130 => ?_)
    · refine lv_aload_n F.1 F.2.1 dX7_relation_27 rfl (lv_at hl 0 rfl) ?_
      refine g_getI (ci := 7) (k := 24) F hH rfl (by decide) iX7 hm (by decide) rfl k81 dX7_relation_28 ?_
      refine z_if_le (tgt := 38) F dX7_relation_31 (by decide) (zr_t _) (fun c_131 => ?_) (fun c_131 => ?_)
      · exact absurd (mQ_f hQ (by omega)) (by have := mQ_p hQ; omega)
      · refine z_iconst F dX7_relation_34 ?_
        refine z_goto (tgt := 46) F dX7_relation_35 (by decide) ?_
        refine lv_istore_n (lv' := [(1, .int (iI ((-1)))), (0, .ref mo)]) F.1 F.2.1 dX7_relation_46 rfl hl (by decide) rfl (fun ls hl => ?_)
        refine lv_iload_n F.1 F.2.1 dX7_relation_47 rfl (lv_at hl 0 rfl) ?_
        refine z_if_ge (tgt := 56) F dX7_relation_48 (by decide) ⟨by decide, by decide⟩ (fun c_132 => ?_) (fun c_132 => ?_)
        · exact absurd trivial (by omega)
        · refine lv_aload_n F.1 F.2.1 dX7_relation_51 rfl (lv_at hl 1 rfl) ?_
          refine z_iconst F dX7_relation_52 ?_
          refine g_callv (g_runV (As := [.int (iI 3)]) (rest := []) (ci := 7) F hl.1 hH hS hz (c_X7_wrongf l g gh T b nn nr nt cc f h I R J AI AJ AR mo 3 ⟨by decide, by decide⟩ hv hm hT (by omega) h65 hbM hr7 (by omega) hn9 (by omega) hQ) (cwV 1 F.2.2.2.2.1 (good_up gT_X7_wrong) rfl rfl rfl hdX7_wrong ⟨Nat.le_of_ble_eq_true rfl, Nat.le_of_ble_eq_true rfl⟩) hm (by decide) rfl rfl rfl (Nat.le_of_ble_eq_true rfl) dX7_relation_53 ⟨Nat.zero_le _, Nat.zero_le _⟩) hS (fun I_133 R_134 J_135 AI_136 AJ_137 AR_138 H locs hp_139 hH hS => ?_)
          dsimp only at hp_139
          obtain ⟨r_140, er_140⟩ : ∃ qQ : pR, qQ = thn (f, h, 0) (fun t _ => (3, t, 0)) := ⟨_, rfl⟩
          rw [← er_140] at hp_139
          obtain ⟨rfl, rfl, rfl, rfl, rfl, hv, pfq, q_141, hQ⟩ := hp_139
          have pf := qF_t pf pfq
          have u_142_2 : (I_133 mo 2).toInt = (I mo 2).toInt := by rw [pf 2 (by decide) (by decide) (by decide) (by decide) (by decide)]
          have u_142_5 : (I_133 mo 5).toInt = (I mo 5).toInt := by rw [pf 5 (by decide) (by decide) (by decide) (by decide) (by decide)]
          have u_142_14 : (I_133 mo 14).toInt = (I mo 14).toInt := by rw [pf 14 (by decide) (by decide) (by decide) (by decide) (by decide)]
          have u_142_16 : (I_133 mo 16).toInt = (I mo 16).toInt := by rw [pf 16 (by decide) (by decide) (by decide) (by decide) (by decide)]
          have u_142_18 : (I_133 mo 18).toInt = (I mo 18).toInt := by rw [pf 18 (by decide) (by decide) (by decide) (by decide) (by decide)]
          rw [thn_b (by omega)] at er_140
          have hQ : mQ gh I_133 J AI AJ mo b nn nr nt cc f h := by rw [er_140] at hQ; exact hQ
          refine lv_aload_n F.1 F.2.1 dX7_relation_56 rfl (lv_at hl 1 rfl) ?_
          have b_143 := mJ hv hm
          unfold mNum1 at b_143
          refine g_callv (g_runV (As := []) (rest := []) (ci := 7) F hl.1 hH hS hz (c_X7_nextf l g gh T b nn (tNd b nn (tPs b nn h)) I_133 R J AI AJ AR mo hv hm hT (by omega) (mTp hv h65 hbM) hr7 (by omega) (by omega) (mQ_e0 hQ) tNd_le.1) (cwV 0 F.2.2.2.2.1 (good_up gT_X7_next) rfl rfl rfl hdX7_next ⟨Nat.le_of_ble_eq_true rfl, Nat.le_of_ble_eq_true rfl⟩) hm (by decide) rfl rfl rfl (Nat.le_of_ble_eq_true rfl) dX7_relation_57 ⟨Nat.zero_le _, Nat.zero_le _⟩) hS (fun I_144 R_145 J_146 AI_147 AJ_148 AR_149 H locs hp_150 hH hS => ?_)
          dsimp only at hp_150
          obtain ⟨rfl, rfl, rfl, rfl, hv, pfq, q_151, nx4, nxa, nxb⟩ := hp_150
          have pf := qF_t pf pfq
          have u_152_2 : (I_144 mo 2).toInt = (I mo 2).toInt := by rw [pf 2 (by decide) (by decide) (by decide) (by decide) (by decide)]
          have u_152_5 : (I_144 mo 5).toInt = (I mo 5).toInt := by rw [pf 5 (by decide) (by decide) (by decide) (by decide) (by decide)]
          have u_152_14 : (I_144 mo 14).toInt = (I mo 14).toInt := by rw [pf 14 (by decide) (by decide) (by decide) (by decide) (by decide)]
          have u_152_16 : (I_144 mo 16).toInt = (I mo 16).toInt := by rw [pf 16 (by decide) (by decide) (by decide) (by decide) (by decide)]
          have u_152_18 : (I_144 mo 18).toInt = (I mo 18).toInt := by rw [pf 18 (by decide) (by decide) (by decide) (by decide) (by decide)]
          have hQ : mQ gh I_144 J_146 AI AJ mo b nn nr nt cc f h := by have q9 := mQ_nx hQ nx4 nxa; rw [thn_b (by omega)] at q9; exact q9
          clear nxa nxb
          refine lv_iload_n F.1 F.2.1 dX7_relation_60 rfl (lv_at hl 0 rfl) ?_
          refine z_if_ge (tgt := 68) F dX7_relation_61 (by decide) ⟨by decide, by decide⟩ (fun c_153 => ?_) (fun c_153 => ?_)
          · exact absurd trivial (by omega)
          · refine z_iconst F dX7_relation_64 ?_
            refine z_goto (tgt := 69) F dX7_relation_65 (by decide) ?_
            have hfin : thn (f, h, 0) (fun t _ => sRl b nn nr nt cc t) = (f, h, 0) := thn_b q0
            exact g_iret F hr hlk hH hS hz ⟨by decide, by decide⟩ ⟨rfl, rfl, rfl, rfl, hv, pf, by first | omega | rfl | (dsimp only; omega), by first | omega | rfl | (dsimp only; omega), by (try dsimp only); rw [hfin]; exact hQ, by (try dsimp only); rw [hfin]; first | exact pRv_n (by omega) | exact pRv_y (by omega) (by omega) (by unfold cF; rw [← hfd]), by (try dsimp only); rw [hfin]; exact pIm_n (by omega)⟩ dX7_relation_69
    · exact absurd (mQ_z hQ (by omega)) (by omega)
