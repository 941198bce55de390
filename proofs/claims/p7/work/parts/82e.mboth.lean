def rmX7_bothToldf : Room := { frames := 8, cells := 0, slots := 0, locals := 170 }
set_option maxHeartbeats 4000000 in
set_option maxRecDepth 100000 in
/-- two relations told -/
theorem c_X7_bothToldf (l : Launch) (g : gG) (gh : gGh) (T : Nat → Int32) (M : Int) (b : tTx) (nn nr : Nat) (nt : Nat → Nat) (cc : Nat → Int) (f : Int) (h : Nat) (I : gI) (R : gR) (J : gJ) (AI : gI) (AJ : gJ) (AR : gR) (mo : Nat) (kd : Int) (zkd : zr kd) (hv : mInv g gh R I AI) (hm : gO g mo 7) (hT : AI (gh 50 0) = T) (hE : (I mo 20).toInt ≤ 936) (hM : (I mo 24).toInt = 0 → (I mo 5).toInt ≤ 15) (hMM : (I mo 5).toInt = M) (hkd : kd = 4 ∨ kd = 5) (h65 : gh 9 (gh 65 0) ≠ 5) (hbM : ∀ k : Nat, k < nn → ((gM g).2 (gh 65 0) k).toInt = b k % 256) (hr7 : ∀ k : Nat, -128 ≤ b k ∧ b k ≤ 127) (hsz : (I mo 18).toInt = (nn : Int)) (hn9 : nn ≤ 900) (hm5 : (I mo 5).toInt = (nr : Int)) (hQ : mQ gh I J AI AJ mo b nn nr nt cc f h) : gMet l g yX7_bothTold tsX7_bothTold rmX7_bothToldf [.ref mo, .int (iI kd)] (I, R, J, AI, AJ, AR) (gQv g (fun w : gS => R = w.2.1 ∧ AJ = w.2.2.2.2.1 ∧ AR = w.2.2.2.2.2 ∧ (mInv g gh R (w.1) (w.2.2.2.1)) ∧ ((w.2.2.2.1) (gh 50 0) = T) ∧ (qF mo I (w.1)) ∧ (((w.1) mo 20).toInt ≤ 936 ∧ (I mo 24).toInt ≤ ((w.1) mo 24).toInt) ∧ (((w.1) mo 24).toInt = 0 → ((w.1) mo 21).toInt = 4 → ((w.1) mo 23).toInt = 59 → rowOK ((w.2.2.2.1) (gh 53 0)) M) ∧ (((w.1) mo 24).toInt = 0 → tI ((w.2.2.2.1) (gh 53 0)) (40 * M) = kd) ∧ (mQ gh (w.1) (w.2.2.1) (w.2.2.2.1) AJ mo b nn nr nt cc (thn (f, h, 0) (fun t _ => sTwo b nn nr nt cc t)).1 (thn (f, h, 0) (fun t _ => sTwo b nn nr nt cc t)).2.1) ∧ (pIc (thn (f, h, 0) (fun t _ => sTwo b nn nr nt cc t)).1 (pK b nn (thn (f, h, 0) (fun t _ => sTwo b nn nr nt cc t)).2.1) (tI ((w.2.2.2.1) (gh 53 0)) (40 * (nr : Int) + 1)) (thn (f, h, 0) (fun t _ => sTwo b nn nr nt cc t)).2.2))) := by
  refine gStart (cc := cX7_bothTold) (maxL := 4) (ret := none) (by decide) rfl (Nat.le_of_ble_eq_true rfl) ?_
  intro p e s m below meth c ls F hr hlk hH hz hS hl
  have hl : lv_has ls 4 [(0, .ref mo), (1, .int (iI kd))] := hl
  have hS : va_S (gA g) s.heap s.heap [] := hS
  obtain ⟨H, hHe⟩ : ∃ H : Heap, H = s.heap := ⟨_, rfl⟩
  obtain ⟨locs, hlo⟩ : ∃ k : List Loc, k = [] := ⟨_, rfl⟩
  have hH : gH g I R J AI AJ AR H := by rw [hHe]; exact hH
  have hS : va_S (gA g) s.heap H locs := by rw [hHe, hlo]; exact hS
  suffices hw : W p l e rmX7_bothToldf s m ([.ref mo, .int (iI kd)] : List Value).toArray below meth c H locs 0 0 (MQ below (gQv g (fun w : gS => R = w.2.1 ∧ AJ = w.2.2.2.2.1 ∧ AR = w.2.2.2.2.2 ∧ (mInv g gh R (w.1) (w.2.2.2.1)) ∧ ((w.2.2.2.1) (gh 50 0) = T) ∧ (qF mo I (w.1)) ∧ (((w.1) mo 20).toInt ≤ 936 ∧ (I mo 24).toInt ≤ ((w.1) mo 24).toInt) ∧ (((w.1) mo 24).toInt = 0 → ((w.1) mo 21).toInt = 4 → ((w.1) mo 23).toInt = 59 → rowOK ((w.2.2.2.1) (gh 53 0)) M) ∧ (((w.1) mo 24).toInt = 0 → tI ((w.2.2.2.1) (gh 53 0)) (40 * M) = kd) ∧ (mQ gh (w.1) (w.2.2.1) (w.2.2.2.1) AJ mo b nn nr nt cc (thn (f, h, 0) (fun t _ => sTwo b nn nr nt cc t)).1 (thn (f, h, 0) (fun t _ => sTwo b nn nr nt cc t)).2.1) ∧ (pIc (thn (f, h, 0) (fun t _ => sTwo b nn nr nt cc t)).1 (pK b nn (thn (f, h, 0) (fun t _ => sTwo b nn nr nt cc t)).2.1) (tI ((w.2.2.2.1) (gh 53 0)) (40 * (nr : Int) + 1)) (thn (f, h, 0) (fun t _ => sTwo b nn nr nt cc t)).2.2))) ([.ref mo, .int (iI kd)] : List Value).toArray s 0 0 (gA g)) (F0 m 0 ls []) by
    rw [hHe, hlo] at hw; exact hw
  clear hHe hlo
  have pf : qF mo I I := qF_r
  have hb0 := mJ hv hm
  unfold mNum1 at hb0
  have iX7 : ∀ w ∈ u_ws RX7 TX7 32, w ∈ tsX7_bothTold := fun w h => List.mem_cons_of_mem _ (inTB7 w h)
  have k81 : Cond.fieldLink RX7 81 (TX7 24).1 (TX7 24).2.1 (TX7 24).2.2.1 ∈ tsX7_bothTold := List.mem_cons_of_mem _ fl_81
  have k94 : Cond.fieldLink RX7 94 (TX7 21).1 (TX7 21).2.1 (TX7 21).2.2.1 ∈ tsX7_bothTold := List.mem_cons_of_mem _ fl_94
  have k111 : Cond.fieldLink RX7 111 (TX7 22).1 (TX7 22).2.1 (TX7 22).2.2.1 ∈ tsX7_bothTold := List.mem_cons_of_mem _ fl_111
  have hf0 := mQ_p hQ
  by_cases q0 : f = 0
  · have hQ := mQ_ok hQ q0
    have hz0 := mQ_0 hQ rfl
    refine lv_aload_n F.1 F.2.1 dX7_bothTold_0 rfl (lv_at hl 0 rfl) ?_
    have b_1 := mJ hv hm
    unfold mNum1 at b_1
    refine g_calli (g_runV (As := []) (rest := []) (ci := 7) F hl.1 hH hS hz (c_X7_relationf l g gh T b nn nr nt cc 0 h I R J AI AJ AR mo hv hm hT (by omega) h65 hbM hr7 (by omega) hn9 (by omega) hQ) (cwV 0 F.2.2.2.2.1 (good_up gT_X7_relation) rfl rfl rfl hdX7_relation ⟨Nat.le_of_ble_eq_true rfl, Nat.le_of_ble_eq_true rfl⟩) hm (by decide) rfl rfl rfl (Nat.le_of_ble_eq_true rfl) dX7_bothTold_1 ⟨Nat.zero_le _, Nat.zero_le _⟩) hS (fun v_8 I_2 R_3 J_4 AI_5 AJ_6 AR_7 H locs zv_8 hp_9 hH hS => ?_)
    dsimp only at hp_9
    obtain ⟨r_10, er_10⟩ : ∃ qQ : pR, qQ = thn (0, h, 0) (fun t _ => sRl b nn nr nt cc t) := ⟨_, rfl⟩
    rw [← er_10] at hp_9
    obtain ⟨rfl, rfl, rfl, rfl, hv, pfq, q_11, q_12, hQ, q_13⟩ := hp_9
    have pf := qF_t pf pfq
    have u_14_2 : (I_2 mo 2).toInt = (I mo 2).toInt := by rw [pf 2 (by decide) (by decide) (by decide) (by decide) (by decide)]
    have u_14_5 : (I_2 mo 5).toInt = (I mo 5).toInt := by rw [pf 5 (by decide) (by decide) (by decide) (by decide) (by decide)]
    have u_14_14 : (I_2 mo 14).toInt = (I mo 14).toInt := by rw [pf 14 (by decide) (by decide) (by decide) (by decide) (by decide)]
    have u_14_16 : (I_2 mo 16).toInt = (I mo 16).toInt := by rw [pf 16 (by decide) (by decide) (by decide) (by decide) (by decide)]
    have u_14_18 : (I_2 mo 18).toInt = (I mo 18).toInt := by rw [pf 18 (by decide) (by decide) (by decide) (by decide) (by decide)]
    have er_10 : r_10 = sRl b nn nr nt cc h := er_10
    have sr_10 := er_10
    rcases sRl_c er_10 with ⟨er_10, pr_10⟩ | ⟨er_10, pr_10⟩
    · have hQ : mQ gh I_2 J_4 AI AJ mo b nn nr nt cc 0 (h + 1) := by rw [er_10] at hQ; exact hQ
      have sr_10 : sRl b nn nr nt cc h = (0, h + 1, cF b nn nr nt cc h) := sr_10.symm.trans er_10
      have vlr_10 := q_13 (by rw [er_10])
      try rw [er_10] at vlr_10
      try dsimp only at vlr_10
      replace q_12 := (⟨q_12.1, q_12.2.1, q_12.2.2 (mQ_0 hQ rfl)⟩ : _ ∧ _ ∧ _)
      obtain ⟨fa0, efa0⟩ : ∃ q, q = (I_2 mo 24).toInt := ⟨_, rfl⟩
      have hra : Hid (fa0 = 0 → v_8 < M) := fun h9 => by omega
      refine lv_istore_n (lv' := [(2, .int (iI v_8)), (0, .ref mo), (1, .int (iI kd))]) F.1 F.2.1 dX7_bothTold_4 rfl hl (by decide) rfl (fun ls hl => ?_)
      refine lv_aload_n F.1 F.2.1 dX7_bothTold_5 rfl (lv_at hl 1 rfl) ?_
      refine g_getI (ci := 7) (k := 24) F hH rfl (by decide) iX7 hm (by decide) rfl k81 dX7_bothTold_6 ?_
      have b_15 := mJ hv hm
      unfold mNum1 at b_15
      refine z_if_ne (tgt := 63) F dX7_bothTold_9 (by decide) (zr_t _) (fun c_16 => ?_) (fun c_16 => ?_)
      · exact absurd (mQ_0 hQ rfl) (by omega)
      · refine lv_aload_n F.1 F.2.1 dX7_bothTold_12 rfl (lv_at hl 1 rfl) ?_
        refine g_getI (ci := 7) (k := 21) F hH rfl (by decide) iX7 hm (by decide) rfl k94 dX7_bothTold_13 ?_
        refine z_iconst F dX7_bothTold_16 ?_
        refine z_icmp_ne (tgt := 63) F dX7_bothTold_17 (by decide) (zr_t _) ⟨by decide, by decide⟩ (fun c_17 => ?_) (fun c_17 => ?_)
        · have t_18 : pK b nn (h + 1) ≠ 3 := mQ_kn hQ rfl (c := 2) rfl (by omega)
          refine lv_aload_n F.1 F.2.1 dX7_bothTold_63 rfl (lv_at hl 1 rfl) ?_
          refine g_calli (g_runV (As := []) (rest := []) (ci := 7) F hl.1 hH hS hz (c_X7_relationf l g gh T b nn nr nt cc 0 (h + 1) I_2 R J_4 AI AJ AR mo hv hm hT (by omega) h65 hbM hr7 (by omega) hn9 (by omega) hQ) (cwV 0 F.2.2.2.2.1 (good_up gT_X7_relation) rfl rfl rfl hdX7_relation ⟨Nat.le_of_ble_eq_true rfl, Nat.le_of_ble_eq_true rfl⟩) hm (by decide) rfl rfl rfl (Nat.le_of_ble_eq_true rfl) dX7_bothTold_64 ⟨Nat.zero_le _, Nat.zero_le _⟩) hS (fun v_25 I_19 R_20 J_21 AI_22 AJ_23 AR_24 H locs zv_25 hp_26 hH hS => ?_)
          dsimp only at hp_26
          obtain ⟨r_27, er_27⟩ : ∃ qQ : pR, qQ = thn (0, (h + 1), 0) (fun t _ => sRl b nn nr nt cc t) := ⟨_, rfl⟩
          rw [← er_27] at hp_26
          obtain ⟨rfl, rfl, rfl, rfl, hv, pfq, q_28, q_29, hQ, q_30⟩ := hp_26
          have pf := qF_t pf pfq
          have u_31_2 : (I_19 mo 2).toInt = (I mo 2).toInt := by rw [pf 2 (by decide) (by decide) (by decide) (by decide) (by decide)]
          have u_31_5 : (I_19 mo 5).toInt = (I mo 5).toInt := by rw [pf 5 (by decide) (by decide) (by decide) (by decide) (by decide)]
          have u_31_14 : (I_19 mo 14).toInt = (I mo 14).toInt := by rw [pf 14 (by decide) (by decide) (by decide) (by decide) (by decide)]
          have u_31_16 : (I_19 mo 16).toInt = (I mo 16).toInt := by rw [pf 16 (by decide) (by decide) (by decide) (by decide) (by decide)]
          have u_31_18 : (I_19 mo 18).toInt = (I mo 18).toInt := by rw [pf 18 (by decide) (by decide) (by decide) (by decide) (by decide)]
          have er_27 : r_27 = sRl b nn nr nt cc (h + 1) := er_27
          have sr_27 := er_27
          rcases sRl_c er_27 with ⟨er_27, pr_27⟩ | ⟨er_27, pr_27⟩
          · have hQ : mQ gh I_19 J_21 AI AJ mo b nn nr nt cc 0 (h + 2) := by rw [er_27] at hQ; exact hQ
            have sr_27 : sRl b nn nr nt cc (h + 1) = (0, h + 2, cF b nn nr nt cc (h + 1)) := sr_27.symm.trans er_27
            have vlr_27 := q_30 (by rw [er_27])
            try rw [er_27] at vlr_27
            try dsimp only at vlr_27
            replace q_29 := (⟨q_29.1, q_29.2.1, q_29.2.2 (mQ_0 hQ rfl)⟩ : _ ∧ _ ∧ _)
            obtain ⟨f0, ef0⟩ : ∃ q, q = (I_19 mo 24).toInt := ⟨_, rfl⟩
            have hr2 : Hid (f0 = 0 → v_25 < M ∧ fa0 = 0) := fun h9 => by omega
            refine lv_istore_n (lv' := [(3, .int (iI v_25)), (2, .int (iI v_8)), (0, .ref mo), (1, .int (iI kd))]) F.1 F.2.1 dX7_bothTold_67 rfl hl (by decide) rfl (fun ls hl => ?_)
            refine lv_aload_n F.1 F.2.1 dX7_bothTold_68 rfl (lv_at hl 2 rfl) ?_
            refine lv_iload_n F.1 F.2.1 dX7_bothTold_69 rfl (lv_at hl 3 rfl) ?_
            refine lv_aload_n F.1 F.2.1 dX7_bothTold_70 rfl (lv_at hl 2 rfl) ?_
            refine lv_iload_n F.1 F.2.1 dX7_bothTold_71 rfl (lv_at hl 1 rfl) ?_
            have b_33 := mJ hv hm
            unfold mNum1 at b_33
            refine g_calli (g_runV (As := [.int (iI v_8)]) (rest := [.int (iI kd), .ref mo]) (ci := 7) F hl.1 hH hS hz (c_X7_columns l g gh T I_19 R J_21 AI AJ AR mo v_8 zv_8 hv hm hT (by omega)) (cwV 1 F.2.2.2.2.1 (good_up gT_X7_columns) rfl rfl rfl hdX7_columns ⟨Nat.le_of_ble_eq_true rfl, Nat.le_of_ble_eq_true rfl⟩) hm (by decide) rfl rfl rfl (Nat.le_of_ble_eq_true rfl) dX7_bothTold_72 ⟨Nat.zero_le _, Nat.zero_le _⟩) hS (fun v_40 I_34 R_35 J_36 AI_37 AJ_38 AR_39 H locs zv_40 hp_41 hH hS => ?_)
            dsimp only at hp_41
            obtain ⟨rfl, rfl, rfl, rfl, rfl, rfl, q_32⟩ := hp_41
            have cvv_40 : v_40 = cF b nn nr nt cc h := q_32.trans ((mQ_c hQ rfl vlr_10.1 vlr_10.2.1).trans vlr_10.2.2)
            have hcol : Hid ((I_19 mo 24).toInt = 0 → 1 ≤ v_40 ∧ v_40 ≤ 4) := fun h => by have q9 := mCol hv hm (z := v_8) (by omega) (by omega); omega
            refine lv_iload_n F.1 F.2.1 dX7_bothTold_75 rfl (lv_at hl 1 rfl) ?_
            refine lv_iload_n F.1 F.2.1 dX7_bothTold_76 rfl (lv_at hl 0 rfl) ?_
            refine z_iconst F dX7_bothTold_77 ?_
            refine g_callv (g_runV (As := [.int (iI kd), .int (iI v_40), .int (iI v_8), .int (iI v_25), .int (iI 0)]) (rest := []) (ci := 7) F hl.1 hH hS hz (c_X7_header l g gh T M I_19 R J_21 AI AJ AR mo kd v_40 v_8 v_25 0 zkd zv_40 zv_8 zv_25 ⟨by decide, by decide⟩ hv hm hT (by omega) (by omega)) (cwV 5 F.2.2.2.2.1 (good_up gT_X7_header) rfl rfl rfl hdX7_header ⟨Nat.le_of_ble_eq_true rfl, Nat.le_of_ble_eq_true rfl⟩) hm (by decide) rfl rfl rfl (Nat.le_of_ble_eq_true rfl) dX7_bothTold_78 ⟨Nat.zero_le _, Nat.zero_le _⟩) hS (fun I_42 R_43 J_44 AI_45 AJ_46 AR_47 H locs hp_48 hH hS => ?_)
            dsimp only at hp_48
            obtain ⟨rfl, rfl, rfl, rfl, rfl, hv, hT, hhd⟩ := hp_48
            replace hhd := hid hhd
            have hQ : mQ gh I_19 J_21 AI_45 AJ mo b nn nr nt cc 0 (h + 2) := mQ_a hQ (fun hf9 z9 h09 h19 => (hhd hf9).1 z9 h09 (Or.inl (by omega)))
            have hfin : thn (f, h, 0) (fun t _ => sTwo b nn nr nt cc t) = (0, h + 2, cF b nn nr nt cc h) := by
              refine (thn_k q0).trans ?_
              show sTwo b nn nr nt cc h = _
              unfold sTwo
              repeat (first | with_reducible rfl | refine ite_y (by omega) ?_ | refine ite_n (by omega) ?_ | refine thn_t sr_10 (by first | rfl | omega) ?_ | exact (thn_x sr_10.symm (by omega)).trans (pr_e (by omega) (by omega) (by omega)) | refine thn_t sr_27 (by first | rfl | omega) ?_ | exact (thn_x sr_27.symm (by omega)).trans (pr_e (by omega) (by omega) (by omega)) | refine ite_y (pRf_0 (by omega) (by omega)) ?_ | refine ite_n (fun e9 => absurd (pRf_i e9) (by omega)) ?_ | exact pr_e (by omega) (by omega) (by omega) | refine ite_y (pCf_ok (by omega) (by omega)) ?_ | refine ite_n (fun e9 => absurd (pCf_0 e9) (by omega)) ?_ | exact pr_e (pCf_no (by omega)) (by omega) (by omega) | exact pr_e (pCf_big (by omega) (by omega)) (by omega) (by omega))
            exact g_vret F hr hlk hH hS hz ⟨rfl, rfl, rfl, hv, hT, pf, by first | (dsimp only; omega) | omega | rfl, by (try dsimp only); intro hf ht hn; exact row_mk (by omega) (hhd (by omega)) (by omega) (hcol (by omega)) (by omega) (by omega) (fun h => absurd h (by omega)) (fun h => absurd h (by omega)) (fun h => absurd h (by omega)) (fun h => absurd h (by omega)) (fun _ => by omega) (fun h => absurd h (by omega)) (fun h => absurd h (by omega)), by (try dsimp only); intro hf; exact (hhd (by omega)).2.1, by (try dsimp only); rw [hfin]; exact hQ, by (try dsimp only); rw [hfin]; have q9 := (hhd (mQ_0 hQ rfl)).2.2.1; rw [show M = (nr : Int) by omega] at q9; (try dsimp only); exact pIc_y (by omega)⟩ dX7_bothTold_81
          · have hQ : mQ gh I_19 J_21 AI AJ mo b nn nr nt cc (pRf b nn nt nr (h + 1)) (h + 1) := by rw [er_27] at hQ; exact hQ
            have sr_27 := sr_27.symm.trans er_27
            have g9r_27 := mQ_f hQ (by omega)
            replace q_29 := (⟨q_29.1, q_29.2.1⟩ : _ ∧ _)
            obtain ⟨f0, ef0⟩ : ∃ q, q = (I_19 mo 24).toInt := ⟨_, rfl⟩
            have hr2 : Hid (f0 = 0 → v_25 < M ∧ fa0 = 0) := fun h9 => by omega
            refine lv_istore_n (lv' := [(3, .int (iI v_25)), (2, .int (iI v_8)), (0, .ref mo), (1, .int (iI kd))]) F.1 F.2.1 dX7_bothTold_67 rfl hl (by decide) rfl (fun ls hl => ?_)
            refine lv_aload_n F.1 F.2.1 dX7_bothTold_68 rfl (lv_at hl 2 rfl) ?_
            refine lv_iload_n F.1 F.2.1 dX7_bothTold_69 rfl (lv_at hl 3 rfl) ?_
            refine lv_aload_n F.1 F.2.1 dX7_bothTold_70 rfl (lv_at hl 2 rfl) ?_
            refine lv_iload_n F.1 F.2.1 dX7_bothTold_71 rfl (lv_at hl 1 rfl) ?_
            have b_50 := mJ hv hm
            unfold mNum1 at b_50
            refine g_calli (g_runV (As := [.int (iI v_8)]) (rest := [.int (iI kd), .ref mo]) (ci := 7) F hl.1 hH hS hz (c_X7_columns l g gh T I_19 R J_21 AI AJ AR mo v_8 zv_8 hv hm hT (by omega)) (cwV 1 F.2.2.2.2.1 (good_up gT_X7_columns) rfl rfl rfl hdX7_columns ⟨Nat.le_of_ble_eq_true rfl, Nat.le_of_ble_eq_true rfl⟩) hm (by decide) rfl rfl rfl (Nat.le_of_ble_eq_true rfl) dX7_bothTold_72 ⟨Nat.zero_le _, Nat.zero_le _⟩) hS (fun v_57 I_51 R_52 J_53 AI_54 AJ_55 AR_56 H locs zv_57 hp_58 hH hS => ?_)
            dsimp only at hp_58
            obtain ⟨rfl, rfl, rfl, rfl, rfl, rfl, q_49⟩ := hp_58
            have hcol : Hid ((I_19 mo 24).toInt = 0 → 1 ≤ v_57 ∧ v_57 ≤ 4) := fun h => by have q9 := mCol hv hm (z := v_8) (by omega) (by omega); omega
            refine lv_iload_n F.1 F.2.1 dX7_bothTold_75 rfl (lv_at hl 1 rfl) ?_
            refine lv_iload_n F.1 F.2.1 dX7_bothTold_76 rfl (lv_at hl 0 rfl) ?_
            refine z_iconst F dX7_bothTold_77 ?_
            refine g_callv (g_runV (As := [.int (iI kd), .int (iI v_57), .int (iI v_8), .int (iI v_25), .int (iI 0)]) (rest := []) (ci := 7) F hl.1 hH hS hz (c_X7_header l g gh T M I_19 R J_21 AI AJ AR mo kd v_57 v_8 v_25 0 zkd zv_57 zv_8 zv_25 ⟨by decide, by decide⟩ hv hm hT (by omega) (by omega)) (cwV 5 F.2.2.2.2.1 (good_up gT_X7_header) rfl rfl rfl hdX7_header ⟨Nat.le_of_ble_eq_true rfl, Nat.le_of_ble_eq_true rfl⟩) hm (by decide) rfl rfl rfl (Nat.le_of_ble_eq_true rfl) dX7_bothTold_78 ⟨Nat.zero_le _, Nat.zero_le _⟩) hS (fun I_59 R_60 J_61 AI_62 AJ_63 AR_64 H locs hp_65 hH hS => ?_)
            dsimp only at hp_65
            obtain ⟨rfl, rfl, rfl, rfl, rfl, hv, hT, hhd⟩ := hp_65
            replace hhd := hid hhd
            have hQ : mQ gh I_19 J_21 AI_62 AJ mo b nn nr nt cc (pRf b nn nt nr (h + 1)) (h + 1) := mQ_bad hQ (by omega) rfl
            have hfin : thn (f, h, 0) (fun t _ => sTwo b nn nr nt cc t) = (pRf b nn nt nr (h + 1), h + 1, 0) := by
              refine (thn_k q0).trans ?_
              show sTwo b nn nr nt cc h = _
              unfold sTwo
              repeat (first | with_reducible rfl | refine ite_y (by omega) ?_ | refine ite_n (by omega) ?_ | refine thn_t sr_10 (by first | rfl | omega) ?_ | exact (thn_x sr_10.symm (by omega)).trans (pr_e (by omega) (by omega) (by omega)) | refine thn_t sr_27 (by first | rfl | omega) ?_ | exact (thn_x sr_27.symm (by omega)).trans (pr_e (by omega) (by omega) (by omega)) | refine ite_y (pRf_0 (by omega) (by omega)) ?_ | refine ite_n (fun e9 => absurd (pRf_i e9) (by omega)) ?_ | exact pr_e (by omega) (by omega) (by omega) | refine ite_y (pCf_ok (by omega) (by omega)) ?_ | refine ite_n (fun e9 => absurd (pCf_0 e9) (by omega)) ?_ | exact pr_e (pCf_no (by omega)) (by omega) (by omega) | exact pr_e (pCf_big (by omega) (by omega)) (by omega) (by omega))
            exact g_vret F hr hlk hH hS hz ⟨rfl, rfl, rfl, hv, hT, pf, by first | (dsimp only; omega) | omega | rfl, by (try dsimp only); exact (fun hf => absurd hf (by omega)), by (try dsimp only); exact (fun hf => absurd hf (by omega)), by (try dsimp only); rw [hfin]; exact hQ, by (try dsimp only); rw [hfin]; exact pIc_n (by omega)⟩ dX7_bothTold_81
        · have t_66 := tkM_2 ((mQ_k hQ rfl).symm.trans (by omega))
          have t_66r := pV_r t_66
          refine lv_aload_n F.1 F.2.1 dX7_bothTold_20 rfl (lv_at hl 1 rfl) ?_
          refine g_calli (g_runV (As := []) (rest := []) (ci := 7) F hl.1 hH hS hz (c_X7_isReservedf l g gh T b nn nr nt cc 0 (h + 1) I_2 R J_4 AI AJ AR mo hv hm hT h65 hbM hr7 (by omega) hn9 (by omega) hQ) (cwV 0 F.2.2.2.2.1 (good_up gT_X7_isReserved) rfl rfl rfl hdX7_isReserved ⟨Nat.le_of_ble_eq_true rfl, Nat.le_of_ble_eq_true rfl⟩) hm (by decide) rfl rfl rfl (Nat.le_of_ble_eq_true rfl) dX7_bothTold_21 ⟨Nat.zero_le _, Nat.zero_le _⟩) hS (fun v_73 I_67 R_68 J_69 AI_70 AJ_71 AR_72 H locs zv_73 hp_74 hH hS => ?_)
          dsimp only at hp_74
          obtain ⟨rfl, rfl, rfl, rfl, rfl, rfl, q_75, q_76⟩ := hp_74
          refine z_if_ne (tgt := 63) F dX7_bothTold_24 (by decide) zv_73 (fun c_77 => ?_) (fun c_77 => ?_)
          · have t_78 := tIz_y q_76 (by omega)
            refine lv_aload_n F.1 F.2.1 dX7_bothTold_63 rfl (lv_at hl 1 rfl) ?_
            refine g_calli (g_runV (As := []) (rest := []) (ci := 7) F hl.1 hH hS hz (c_X7_relationf l g gh T b nn nr nt cc 0 (h + 1) I_2 R J_4 AI AJ AR mo hv hm hT (by omega) h65 hbM hr7 (by omega) hn9 (by omega) hQ) (cwV 0 F.2.2.2.2.1 (good_up gT_X7_relation) rfl rfl rfl hdX7_relation ⟨Nat.le_of_ble_eq_true rfl, Nat.le_of_ble_eq_true rfl⟩) hm (by decide) rfl rfl rfl (Nat.le_of_ble_eq_true rfl) dX7_bothTold_64 ⟨Nat.zero_le _, Nat.zero_le _⟩) hS (fun v_85 I_79 R_80 J_81 AI_82 AJ_83 AR_84 H locs zv_85 hp_86 hH hS => ?_)
            dsimp only at hp_86
            obtain ⟨r_87, er_87⟩ : ∃ qQ : pR, qQ = thn (0, (h + 1), 0) (fun t _ => sRl b nn nr nt cc t) := ⟨_, rfl⟩
            rw [← er_87] at hp_86
            obtain ⟨rfl, rfl, rfl, rfl, hv, pfq, q_88, q_89, hQ, q_90⟩ := hp_86
            have pf := qF_t pf pfq
            have u_91_2 : (I_79 mo 2).toInt = (I mo 2).toInt := by rw [pf 2 (by decide) (by decide) (by decide) (by decide) (by decide)]
            have u_91_5 : (I_79 mo 5).toInt = (I mo 5).toInt := by rw [pf 5 (by decide) (by decide) (by decide) (by decide) (by decide)]
            have u_91_14 : (I_79 mo 14).toInt = (I mo 14).toInt := by rw [pf 14 (by decide) (by decide) (by decide) (by decide) (by decide)]
            have u_91_16 : (I_79 mo 16).toInt = (I mo 16).toInt := by rw [pf 16 (by decide) (by decide) (by decide) (by decide) (by decide)]
            have u_91_18 : (I_79 mo 18).toInt = (I mo 18).toInt := by rw [pf 18 (by decide) (by decide) (by decide) (by decide) (by decide)]
            have er_87 : r_87 = sRl b nn nr nt cc (h + 1) := er_87
            have sr_87 := er_87
            rcases sRl_c er_87 with ⟨er_87, pr_87⟩ | ⟨er_87, pr_87⟩
            · have hQ : mQ gh I_79 J_81 AI AJ mo b nn nr nt cc 0 (h + 2) := by rw [er_87] at hQ; exact hQ
              have sr_87 : sRl b nn nr nt cc (h + 1) = (0, h + 2, cF b nn nr nt cc (h + 1)) := sr_87.symm.trans er_87
              have vlr_87 := q_90 (by rw [er_87])
              try rw [er_87] at vlr_87
              try dsimp only at vlr_87
              replace q_89 := (⟨q_89.1, q_89.2.1, q_89.2.2 (mQ_0 hQ rfl)⟩ : _ ∧ _ ∧ _)
              obtain ⟨f0, ef0⟩ : ∃ q, q = (I_79 mo 24).toInt := ⟨_, rfl⟩
              have hr2 : Hid (f0 = 0 → v_85 < M ∧ fa0 = 0) := fun h9 => by omega
              refine lv_istore_n (lv' := [(3, .int (iI v_85)), (2, .int (iI v_8)), (0, .ref mo), (1, .int (iI kd))]) F.1 F.2.1 dX7_bothTold_67 rfl hl (by decide) rfl (fun ls hl => ?_)
              refine lv_aload_n F.1 F.2.1 dX7_bothTold_68 rfl (lv_at hl 2 rfl) ?_
              refine lv_iload_n F.1 F.2.1 dX7_bothTold_69 rfl (lv_at hl 3 rfl) ?_
              refine lv_aload_n F.1 F.2.1 dX7_bothTold_70 rfl (lv_at hl 2 rfl) ?_
              refine lv_iload_n F.1 F.2.1 dX7_bothTold_71 rfl (lv_at hl 1 rfl) ?_
              have b_93 := mJ hv hm
              unfold mNum1 at b_93
              refine g_calli (g_runV (As := [.int (iI v_8)]) (rest := [.int (iI kd), .ref mo]) (ci := 7) F hl.1 hH hS hz (c_X7_columns l g gh T I_79 R J_81 AI AJ AR mo v_8 zv_8 hv hm hT (by omega)) (cwV 1 F.2.2.2.2.1 (good_up gT_X7_columns) rfl rfl rfl hdX7_columns ⟨Nat.le_of_ble_eq_true rfl, Nat.le_of_ble_eq_true rfl⟩) hm (by decide) rfl rfl rfl (Nat.le_of_ble_eq_true rfl) dX7_bothTold_72 ⟨Nat.zero_le _, Nat.zero_le _⟩) hS (fun v_100 I_94 R_95 J_96 AI_97 AJ_98 AR_99 H locs zv_100 hp_101 hH hS => ?_)
              dsimp only at hp_101
              obtain ⟨rfl, rfl, rfl, rfl, rfl, rfl, q_92⟩ := hp_101
              have cvv_100 : v_100 = cF b nn nr nt cc h := q_92.trans ((mQ_c hQ rfl vlr_10.1 vlr_10.2.1).trans vlr_10.2.2)
              have hcol : Hid ((I_79 mo 24).toInt = 0 → 1 ≤ v_100 ∧ v_100 ≤ 4) := fun h => by have q9 := mCol hv hm (z := v_8) (by omega) (by omega); omega
              refine lv_iload_n F.1 F.2.1 dX7_bothTold_75 rfl (lv_at hl 1 rfl) ?_
              refine lv_iload_n F.1 F.2.1 dX7_bothTold_76 rfl (lv_at hl 0 rfl) ?_
              refine z_iconst F dX7_bothTold_77 ?_
              refine g_callv (g_runV (As := [.int (iI kd), .int (iI v_100), .int (iI v_8), .int (iI v_85), .int (iI 0)]) (rest := []) (ci := 7) F hl.1 hH hS hz (c_X7_header l g gh T M I_79 R J_81 AI AJ AR mo kd v_100 v_8 v_85 0 zkd zv_100 zv_8 zv_85 ⟨by decide, by decide⟩ hv hm hT (by omega) (by omega)) (cwV 5 F.2.2.2.2.1 (good_up gT_X7_header) rfl rfl rfl hdX7_header ⟨Nat.le_of_ble_eq_true rfl, Nat.le_of_ble_eq_true rfl⟩) hm (by decide) rfl rfl rfl (Nat.le_of_ble_eq_true rfl) dX7_bothTold_78 ⟨Nat.zero_le _, Nat.zero_le _⟩) hS (fun I_102 R_103 J_104 AI_105 AJ_106 AR_107 H locs hp_108 hH hS => ?_)
              dsimp only at hp_108
              obtain ⟨rfl, rfl, rfl, rfl, rfl, hv, hT, hhd⟩ := hp_108
              replace hhd := hid hhd
              have hQ : mQ gh I_79 J_81 AI_105 AJ mo b nn nr nt cc 0 (h + 2) := mQ_a hQ (fun hf9 z9 h09 h19 => (hhd hf9).1 z9 h09 (Or.inl (by omega)))
              have hfin : thn (f, h, 0) (fun t _ => sTwo b nn nr nt cc t) = (0, h + 2, cF b nn nr nt cc h) := by
                refine (thn_k q0).trans ?_
                show sTwo b nn nr nt cc h = _
                unfold sTwo
                repeat (first | with_reducible rfl | refine ite_y (by omega) ?_ | refine ite_n (by omega) ?_ | refine thn_t sr_10 (by first | rfl | omega) ?_ | exact (thn_x sr_10.symm (by omega)).trans (pr_e (by omega) (by omega) (by omega)) | refine thn_t sr_87 (by first | rfl | omega) ?_ | exact (thn_x sr_87.symm (by omega)).trans (pr_e (by omega) (by omega) (by omega)) | refine ite_y (pRf_0 (by omega) (by omega)) ?_ | refine ite_n (fun e9 => absurd (pRf_i e9) (by omega)) ?_ | exact pr_e (by omega) (by omega) (by omega) | refine ite_y (pCf_ok (by omega) (by omega)) ?_ | refine ite_n (fun e9 => absurd (pCf_0 e9) (by omega)) ?_ | exact pr_e (pCf_no (by omega)) (by omega) (by omega) | exact pr_e (pCf_big (by omega) (by omega)) (by omega) (by omega))
              exact g_vret F hr hlk hH hS hz ⟨rfl, rfl, rfl, hv, hT, pf, by first | (dsimp only; omega) | omega | rfl, by (try dsimp only); intro hf ht hn; exact row_mk (by omega) (hhd (by omega)) (by omega) (hcol (by omega)) (by omega) (by omega) (fun h => absurd h (by omega)) (fun h => absurd h (by omega)) (fun h => absurd h (by omega)) (fun h => absurd h (by omega)) (fun _ => by omega) (fun h => absurd h (by omega)) (fun h => absurd h (by omega)), by (try dsimp only); intro hf; exact (hhd (by omega)).2.1, by (try dsimp only); rw [hfin]; exact hQ, by (try dsimp only); rw [hfin]; have q9 := (hhd (mQ_0 hQ rfl)).2.2.1; rw [show M = (nr : Int) by omega] at q9; (try dsimp only); exact pIc_y (by omega)⟩ dX7_bothTold_81
            · have hQ : mQ gh I_79 J_81 AI AJ mo b nn nr nt cc (pRf b nn nt nr (h + 1)) (h + 1) := by rw [er_87] at hQ; exact hQ
              have sr_87 := sr_87.symm.trans er_87
              have g9r_87 := mQ_f hQ (by omega)
              replace q_89 := (⟨q_89.1, q_89.2.1⟩ : _ ∧ _)
              obtain ⟨f0, ef0⟩ : ∃ q, q = (I_79 mo 24).toInt := ⟨_, rfl⟩
              have hr2 : Hid (f0 = 0 → v_85 < M ∧ fa0 = 0) := fun h9 => by omega
              refine lv_istore_n (lv' := [(3, .int (iI v_85)), (2, .int (iI v_8)), (0, .ref mo), (1, .int (iI kd))]) F.1 F.2.1 dX7_bothTold_67 rfl hl (by decide) rfl (fun ls hl => ?_)
              refine lv_aload_n F.1 F.2.1 dX7_bothTold_68 rfl (lv_at hl 2 rfl) ?_
              refine lv_iload_n F.1 F.2.1 dX7_bothTold_69 rfl (lv_at hl 3 rfl) ?_
              refine lv_aload_n F.1 F.2.1 dX7_bothTold_70 rfl (lv_at hl 2 rfl) ?_
              refine lv_iload_n F.1 F.2.1 dX7_bothTold_71 rfl (lv_at hl 1 rfl) ?_
              have b_110 := mJ hv hm
              unfold mNum1 at b_110
              refine g_calli (g_runV (As := [.int (iI v_8)]) (rest := [.int (iI kd), .ref mo]) (ci := 7) F hl.1 hH hS hz (c_X7_columns l g gh T I_79 R J_81 AI AJ AR mo v_8 zv_8 hv hm hT (by omega)) (cwV 1 F.2.2.2.2.1 (good_up gT_X7_columns) rfl rfl rfl hdX7_columns ⟨Nat.le_of_ble_eq_true rfl, Nat.le_of_ble_eq_true rfl⟩) hm (by decide) rfl rfl rfl (Nat.le_of_ble_eq_true rfl) dX7_bothTold_72 ⟨Nat.zero_le _, Nat.zero_le _⟩) hS (fun v_117 I_111 R_112 J_113 AI_114 AJ_115 AR_116 H locs zv_117 hp_118 hH hS => ?_)
              dsimp only at hp_118
              obtain ⟨rfl, rfl, rfl, rfl, rfl, rfl, q_109⟩ := hp_118
              have hcol : Hid ((I_79 mo 24).toInt = 0 → 1 ≤ v_117 ∧ v_117 ≤ 4) := fun h => by have q9 := mCol hv hm (z := v_8) (by omega) (by omega); omega
              refine lv_iload_n F.1 F.2.1 dX7_bothTold_75 rfl (lv_at hl 1 rfl) ?_
              refine lv_iload_n F.1 F.2.1 dX7_bothTold_76 rfl (lv_at hl 0 rfl) ?_
              refine z_iconst F dX7_bothTold_77 ?_
              refine g_callv (g_runV (As := [.int (iI kd), .int (iI v_117), .int (iI v_8), .int (iI v_85), .int (iI 0)]) (rest := []) (ci := 7) F hl.1 hH hS hz (c_X7_header l g gh T M I_79 R J_81 AI AJ AR mo kd v_117 v_8 v_85 0 zkd zv_117 zv_8 zv_85 ⟨by decide, by decide⟩ hv hm hT (by omega) (by omega)) (cwV 5 F.2.2.2.2.1 (good_up gT_X7_header) rfl rfl rfl hdX7_header ⟨Nat.le_of_ble_eq_true rfl, Nat.le_of_ble_eq_true rfl⟩) hm (by decide) rfl rfl rfl (Nat.le_of_ble_eq_true rfl) dX7_bothTold_78 ⟨Nat.zero_le _, Nat.zero_le _⟩) hS (fun I_119 R_120 J_121 AI_122 AJ_123 AR_124 H locs hp_125 hH hS => ?_)
              dsimp only at hp_125
              obtain ⟨rfl, rfl, rfl, rfl, rfl, hv, hT, hhd⟩ := hp_125
              replace hhd := hid hhd
              have hQ : mQ gh I_79 J_81 AI_122 AJ mo b nn nr nt cc (pRf b nn nt nr (h + 1)) (h + 1) := mQ_bad hQ (by omega) rfl
              have hfin : thn (f, h, 0) (fun t _ => sTwo b nn nr nt cc t) = (pRf b nn nt nr (h + 1), h + 1, 0) := by
                refine (thn_k q0).trans ?_
                show sTwo b nn nr nt cc h = _
                unfold sTwo
                repeat (first | with_reducible rfl | refine ite_y (by omega) ?_ | refine ite_n (by omega) ?_ | refine thn_t sr_10 (by first | rfl | omega) ?_ | exact (thn_x sr_10.symm (by omega)).trans (pr_e (by omega) (by omega) (by omega)) | refine thn_t sr_87 (by first | rfl | omega) ?_ | exact (thn_x sr_87.symm (by omega)).trans (pr_e (by omega) (by omega) (by omega)) | refine ite_y (pRf_0 (by omega) (by omega)) ?_ | refine ite_n (fun e9 => absurd (pRf_i e9) (by omega)) ?_ | exact pr_e (by omega) (by omega) (by omega) | refine ite_y (pCf_ok (by omega) (by omega)) ?_ | refine ite_n (fun e9 => absurd (pCf_0 e9) (by omega)) ?_ | exact pr_e (pCf_no (by omega)) (by omega) (by omega) | exact pr_e (pCf_big (by omega) (by omega)) (by omega) (by omega))
              exact g_vret F hr hlk hH hS hz ⟨rfl, rfl, rfl, hv, hT, pf, by first | (dsimp only; omega) | omega | rfl, by (try dsimp only); exact (fun hf => absurd hf (by omega)), by (try dsimp only); exact (fun hf => absurd hf (by omega)), by (try dsimp only); rw [hfin]; exact hQ, by (try dsimp only); rw [hfin]; exact pIc_n (by omega)⟩ dX7_bothTold_81
          · have t_126 := tIz_n q_76 (by omega)
            refine lv_aload_n F.1 F.2.1 dX7_bothTold_27 rfl (lv_at hl 1 rfl) ?_
            refine lv_aload_n F.1 F.2.1 dX7_bothTold_28 rfl (lv_at hl 1 rfl) ?_
            refine g_getJ (ci := 7) (k := 22) F hH rfl (by decide) iX7 hm (by decide) rfl k111 dX7_bothTold_29 ?_
            refine lv_topl (fun j_127 ej_127 => ?_)
            have ew29 := ej_127
            refine g_calli (g_runV (As := [.long j_127]) (rest := []) (ci := 7) F hl.1 hH hS hz (c_X7_named l g gh T I_2 R J_4 AI AJ AR mo j_127 hv hm hT) (cwV 1 F.2.2.2.2.1 (good_up gT_X7_named) rfl rfl rfl hdX7_named ⟨Nat.le_of_ble_eq_true rfl, Nat.le_of_ble_eq_true rfl⟩) hm (by decide) rfl rfl rfl (Nat.le_of_ble_eq_true rfl) dX7_bothTold_32 ⟨Nat.zero_le _, Nat.zero_le _⟩) hS (fun v_134 I_128 R_129 J_130 AI_131 AJ_132 AR_133 H locs zv_134 hp_135 hH hS => ?_)
            dsimp only at hp_135
            obtain ⟨rfl, rfl, rfl, rfl, rfl, rfl, hn1a, hn1⟩ := hp_135
            replace hn1 := hid hn1
            have hfd : v_134 = pFd b nn nt nr (h + 1) := mQ_fd hQ rfl (by omega) (by omega) ew29 hn1a hn1
            refine z_if_lt (tgt := 63) F dX7_bothTold_35 (by decide) zv_134 (fun c_136 => ?_) (fun c_136 => ?_)
            · refine lv_aload_n F.1 F.2.1 dX7_bothTold_63 rfl (lv_at hl 1 rfl) ?_
              refine g_calli (g_runV (As := []) (rest := []) (ci := 7) F hl.1 hH hS hz (c_X7_relationf l g gh T b nn nr nt cc 0 (h + 1) I_2 R J_4 AI AJ AR mo hv hm hT (by omega) h65 hbM hr7 (by omega) hn9 (by omega) hQ) (cwV 0 F.2.2.2.2.1 (good_up gT_X7_relation) rfl rfl rfl hdX7_relation ⟨Nat.le_of_ble_eq_true rfl, Nat.le_of_ble_eq_true rfl⟩) hm (by decide) rfl rfl rfl (Nat.le_of_ble_eq_true rfl) dX7_bothTold_64 ⟨Nat.zero_le _, Nat.zero_le _⟩) hS (fun v_143 I_137 R_138 J_139 AI_140 AJ_141 AR_142 H locs zv_143 hp_144 hH hS => ?_)
              dsimp only at hp_144
              obtain ⟨r_145, er_145⟩ : ∃ qQ : pR, qQ = thn (0, (h + 1), 0) (fun t _ => sRl b nn nr nt cc t) := ⟨_, rfl⟩
              rw [← er_145] at hp_144
              obtain ⟨rfl, rfl, rfl, rfl, hv, pfq, q_146, q_147, hQ, q_148⟩ := hp_144
              have pf := qF_t pf pfq
              have u_149_2 : (I_137 mo 2).toInt = (I mo 2).toInt := by rw [pf 2 (by decide) (by decide) (by decide) (by decide) (by decide)]
              have u_149_5 : (I_137 mo 5).toInt = (I mo 5).toInt := by rw [pf 5 (by decide) (by decide) (by decide) (by decide) (by decide)]
              have u_149_14 : (I_137 mo 14).toInt = (I mo 14).toInt := by rw [pf 14 (by decide) (by decide) (by decide) (by decide) (by decide)]
              have u_149_16 : (I_137 mo 16).toInt = (I mo 16).toInt := by rw [pf 16 (by decide) (by decide) (by decide) (by decide) (by decide)]
              have u_149_18 : (I_137 mo 18).toInt = (I mo 18).toInt := by rw [pf 18 (by decide) (by decide) (by decide) (by decide) (by decide)]
              have er_145 : r_145 = sRl b nn nr nt cc (h + 1) := er_145
              have sr_145 := er_145
              rcases sRl_c er_145 with ⟨er_145, pr_145⟩ | ⟨er_145, pr_145⟩
              · have hQ : mQ gh I_137 J_139 AI AJ mo b nn nr nt cc 0 (h + 2) := by rw [er_145] at hQ; exact hQ
                have sr_145 : sRl b nn nr nt cc (h + 1) = (0, h + 2, cF b nn nr nt cc (h + 1)) := sr_145.symm.trans er_145
                have vlr_145 := q_148 (by rw [er_145])
                try rw [er_145] at vlr_145
                try dsimp only at vlr_145
                replace q_147 := (⟨q_147.1, q_147.2.1, q_147.2.2 (mQ_0 hQ rfl)⟩ : _ ∧ _ ∧ _)
                obtain ⟨f0, ef0⟩ : ∃ q, q = (I_137 mo 24).toInt := ⟨_, rfl⟩
                have hr2 : Hid (f0 = 0 → v_143 < M ∧ fa0 = 0) := fun h9 => by omega
                refine lv_istore_n (lv' := [(3, .int (iI v_143)), (2, .int (iI v_8)), (0, .ref mo), (1, .int (iI kd))]) F.1 F.2.1 dX7_bothTold_67 rfl hl (by decide) rfl (fun ls hl => ?_)
                refine lv_aload_n F.1 F.2.1 dX7_bothTold_68 rfl (lv_at hl 2 rfl) ?_
                refine lv_iload_n F.1 F.2.1 dX7_bothTold_69 rfl (lv_at hl 3 rfl) ?_
                refine lv_aload_n F.1 F.2.1 dX7_bothTold_70 rfl (lv_at hl 2 rfl) ?_
                refine lv_iload_n F.1 F.2.1 dX7_bothTold_71 rfl (lv_at hl 1 rfl) ?_
                have b_151 := mJ hv hm
                unfold mNum1 at b_151
                refine g_calli (g_runV (As := [.int (iI v_8)]) (rest := [.int (iI kd), .ref mo]) (ci := 7) F hl.1 hH hS hz (c_X7_columns l g gh T I_137 R J_139 AI AJ AR mo v_8 zv_8 hv hm hT (by omega)) (cwV 1 F.2.2.2.2.1 (good_up gT_X7_columns) rfl rfl rfl hdX7_columns ⟨Nat.le_of_ble_eq_true rfl, Nat.le_of_ble_eq_true rfl⟩) hm (by decide) rfl rfl rfl (Nat.le_of_ble_eq_true rfl) dX7_bothTold_72 ⟨Nat.zero_le _, Nat.zero_le _⟩) hS (fun v_158 I_152 R_153 J_154 AI_155 AJ_156 AR_157 H locs zv_158 hp_159 hH hS => ?_)
                dsimp only at hp_159
                obtain ⟨rfl, rfl, rfl, rfl, rfl, rfl, q_150⟩ := hp_159
                have cvv_158 : v_158 = cF b nn nr nt cc h := q_150.trans ((mQ_c hQ rfl vlr_10.1 vlr_10.2.1).trans vlr_10.2.2)
                have hcol : Hid ((I_137 mo 24).toInt = 0 → 1 ≤ v_158 ∧ v_158 ≤ 4) := fun h => by have q9 := mCol hv hm (z := v_8) (by omega) (by omega); omega
                refine lv_iload_n F.1 F.2.1 dX7_bothTold_75 rfl (lv_at hl 1 rfl) ?_
                refine lv_iload_n F.1 F.2.1 dX7_bothTold_76 rfl (lv_at hl 0 rfl) ?_
                refine z_iconst F dX7_bothTold_77 ?_
                refine g_callv (g_runV (As := [.int (iI kd), .int (iI v_158), .int (iI v_8), .int (iI v_143), .int (iI 0)]) (rest := []) (ci := 7) F hl.1 hH hS hz (c_X7_header l g gh T M I_137 R J_139 AI AJ AR mo kd v_158 v_8 v_143 0 zkd zv_158 zv_8 zv_143 ⟨by decide, by decide⟩ hv hm hT (by omega) (by omega)) (cwV 5 F.2.2.2.2.1 (good_up gT_X7_header) rfl rfl rfl hdX7_header ⟨Nat.le_of_ble_eq_true rfl, Nat.le_of_ble_eq_true rfl⟩) hm (by decide) rfl rfl rfl (Nat.le_of_ble_eq_true rfl) dX7_bothTold_78 ⟨Nat.zero_le _, Nat.zero_le _⟩) hS (fun I_160 R_161 J_162 AI_163 AJ_164 AR_165 H locs hp_166 hH hS => ?_)
                dsimp only at hp_166
                obtain ⟨rfl, rfl, rfl, rfl, rfl, hv, hT, hhd⟩ := hp_166
                replace hhd := hid hhd
                have hQ : mQ gh I_137 J_139 AI_163 AJ mo b nn nr nt cc 0 (h + 2) := mQ_a hQ (fun hf9 z9 h09 h19 => (hhd hf9).1 z9 h09 (Or.inl (by omega)))
                have hfin : thn (f, h, 0) (fun t _ => sTwo b nn nr nt cc t) = (0, h + 2, cF b nn nr nt cc h) := by
                  refine (thn_k q0).trans ?_
                  show sTwo b nn nr nt cc h = _
                  unfold sTwo
                  repeat (first | with_reducible rfl | refine ite_y (by omega) ?_ | refine ite_n (by omega) ?_ | refine thn_t sr_10 (by first | rfl | omega) ?_ | exact (thn_x sr_10.symm (by omega)).trans (pr_e (by omega) (by omega) (by omega)) | refine thn_t sr_145 (by first | rfl | omega) ?_ | exact (thn_x sr_145.symm (by omega)).trans (pr_e (by omega) (by omega) (by omega)) | refine ite_y (pRf_0 (by omega) (by omega)) ?_ | refine ite_n (fun e9 => absurd (pRf_i e9) (by omega)) ?_ | exact pr_e (by omega) (by omega) (by omega) | refine ite_y (pCf_ok (by omega) (by omega)) ?_ | refine ite_n (fun e9 => absurd (pCf_0 e9) (by omega)) ?_ | exact pr_e (pCf_no (by omega)) (by omega) (by omega) | exact pr_e (pCf_big (by omega) (by omega)) (by omega) (by omega))
                exact g_vret F hr hlk hH hS hz ⟨rfl, rfl, rfl, hv, hT, pf, by first | (dsimp only; omega) | omega | rfl, by (try dsimp only); intro hf ht hn; exact row_mk (by omega) (hhd (by omega)) (by omega) (hcol (by omega)) (by omega) (by omega) (fun h => absurd h (by omega)) (fun h => absurd h (by omega)) (fun h => absurd h (by omega)) (fun h => absurd h (by omega)) (fun _ => by omega) (fun h => absurd h (by omega)) (fun h => absurd h (by omega)), by (try dsimp only); intro hf; exact (hhd (by omega)).2.1, by (try dsimp only); rw [hfin]; exact hQ, by (try dsimp only); rw [hfin]; have q9 := (hhd (mQ_0 hQ rfl)).2.2.1; rw [show M = (nr : Int) by omega] at q9; (try dsimp only); exact pIc_y (by omega)⟩ dX7_bothTold_81
              · have hQ : mQ gh I_137 J_139 AI AJ mo b nn nr nt cc (pRf b nn nt nr (h + 1)) (h + 1) := by rw [er_145] at hQ; exact hQ
                have sr_145 := sr_145.symm.trans er_145
                have g9r_145 := mQ_f hQ (by omega)
                replace q_147 := (⟨q_147.1, q_147.2.1⟩ : _ ∧ _)
                obtain ⟨f0, ef0⟩ : ∃ q, q = (I_137 mo 24).toInt := ⟨_, rfl⟩
                have hr2 : Hid (f0 = 0 → v_143 < M ∧ fa0 = 0) := fun h9 => by omega
                refine lv_istore_n (lv' := [(3, .int (iI v_143)), (2, .int (iI v_8)), (0, .ref mo), (1, .int (iI kd))]) F.1 F.2.1 dX7_bothTold_67 rfl hl (by decide) rfl (fun ls hl => ?_)
                refine lv_aload_n F.1 F.2.1 dX7_bothTold_68 rfl (lv_at hl 2 rfl) ?_
                refine lv_iload_n F.1 F.2.1 dX7_bothTold_69 rfl (lv_at hl 3 rfl) ?_
                refine lv_aload_n F.1 F.2.1 dX7_bothTold_70 rfl (lv_at hl 2 rfl) ?_
                refine lv_iload_n F.1 F.2.1 dX7_bothTold_71 rfl (lv_at hl 1 rfl) ?_
                have b_168 := mJ hv hm
                unfold mNum1 at b_168
                refine g_calli (g_runV (As := [.int (iI v_8)]) (rest := [.int (iI kd), .ref mo]) (ci := 7) F hl.1 hH hS hz (c_X7_columns l g gh T I_137 R J_139 AI AJ AR mo v_8 zv_8 hv hm hT (by omega)) (cwV 1 F.2.2.2.2.1 (good_up gT_X7_columns) rfl rfl rfl hdX7_columns ⟨Nat.le_of_ble_eq_true rfl, Nat.le_of_ble_eq_true rfl⟩) hm (by decide) rfl rfl rfl (Nat.le_of_ble_eq_true rfl) dX7_bothTold_72 ⟨Nat.zero_le _, Nat.zero_le _⟩) hS (fun v_175 I_169 R_170 J_171 AI_172 AJ_173 AR_174 H locs zv_175 hp_176 hH hS => ?_)
                dsimp only at hp_176
                obtain ⟨rfl, rfl, rfl, rfl, rfl, rfl, q_167⟩ := hp_176
                have hcol : Hid ((I_137 mo 24).toInt = 0 → 1 ≤ v_175 ∧ v_175 ≤ 4) := fun h => by have q9 := mCol hv hm (z := v_8) (by omega) (by omega); omega
                refine lv_iload_n F.1 F.2.1 dX7_bothTold_75 rfl (lv_at hl 1 rfl) ?_
                refine lv_iload_n F.1 F.2.1 dX7_bothTold_76 rfl (lv_at hl 0 rfl) ?_
                refine z_iconst F dX7_bothTold_77 ?_
                refine g_callv (g_runV (As := [.int (iI kd), .int (iI v_175), .int (iI v_8), .int (iI v_143), .int (iI 0)]) (rest := []) (ci := 7) F hl.1 hH hS hz (c_X7_header l g gh T M I_137 R J_139 AI AJ AR mo kd v_175 v_8 v_143 0 zkd zv_175 zv_8 zv_143 ⟨by decide, by decide⟩ hv hm hT (by omega) (by omega)) (cwV 5 F.2.2.2.2.1 (good_up gT_X7_header) rfl rfl rfl hdX7_header ⟨Nat.le_of_ble_eq_true rfl, Nat.le_of_ble_eq_true rfl⟩) hm (by decide) rfl rfl rfl (Nat.le_of_ble_eq_true rfl) dX7_bothTold_78 ⟨Nat.zero_le _, Nat.zero_le _⟩) hS (fun I_177 R_178 J_179 AI_180 AJ_181 AR_182 H locs hp_183 hH hS => ?_)
                dsimp only at hp_183
                obtain ⟨rfl, rfl, rfl, rfl, rfl, hv, hT, hhd⟩ := hp_183
                replace hhd := hid hhd
                have hQ : mQ gh I_137 J_139 AI_180 AJ mo b nn nr nt cc (pRf b nn nt nr (h + 1)) (h + 1) := mQ_bad hQ (by omega) rfl
                have hfin : thn (f, h, 0) (fun t _ => sTwo b nn nr nt cc t) = (pRf b nn nt nr (h + 1), h + 1, 0) := by
                  refine (thn_k q0).trans ?_
                  show sTwo b nn nr nt cc h = _
                  unfold sTwo
                  repeat (first | with_reducible rfl | refine ite_y (by omega) ?_ | refine ite_n (by omega) ?_ | refine thn_t sr_10 (by first | rfl | omega) ?_ | exact (thn_x sr_10.symm (by omega)).trans (pr_e (by omega) (by omega) (by omega)) | refine thn_t sr_145 (by first | rfl | omega) ?_ | exact (thn_x sr_145.symm (by omega)).trans (pr_e (by omega) (by omega) (by omega)) | refine ite_y (pRf_0 (by omega) (by omega)) ?_ | refine ite_n (fun e9 => absurd (pRf_i e9) (by omega)) ?_ | exact pr_e (by omega) (by omega) (by omega) | refine ite_y (pCf_ok (by omega) (by omega)) ?_ | refine ite_n (fun e9 => absurd (pCf_0 e9) (by omega)) ?_ | exact pr_e (pCf_no (by omega)) (by omega) (by omega) | exact pr_e (pCf_big (by omega) (by omega)) (by omega) (by omega))
                exact g_vret F hr hlk hH hS hz ⟨rfl, rfl, rfl, hv, hT, pf, by first | (dsimp only; omega) | omega | rfl, by (try dsimp only); exact (fun hf => absurd hf (by omega)), by (try dsimp only); exact (fun hf => absurd hf (by omega)), by (try dsimp only); rw [hfin]; exact hQ, by (try dsimp only); rw [hfin]; exact pIc_n (by omega)⟩ dX7_bothTold_81
            · refine lv_aload_n F.1 F.2.1 dX7_bothTold_38 rfl (lv_at hl 1 rfl) ?_
              refine lv_aload_n F.1 F.2.1 dX7_bothTold_39 rfl (lv_at hl 1 rfl) ?_
              refine lv_aload_n F.1 F.2.1 dX7_bothTold_40 rfl (lv_at hl 1 rfl) ?_
              refine g_getJ (ci := 7) (k := 22) F hH rfl (by decide) iX7 hm (by decide) rfl k111 dX7_bothTold_41 ?_
              refine lv_topl (fun j_184 ej_184 => ?_)
              have ew41 := ej_184
              refine g_calli (g_runV (As := [.long j_184]) (rest := [.ref mo]) (ci := 7) F hl.1 hH hS hz (c_X7_named l g gh T I_2 R J_4 AI AJ AR mo j_184 hv hm hT) (cwV 1 F.2.2.2.2.1 (good_up gT_X7_named) rfl rfl rfl hdX7_named ⟨Nat.le_of_ble_eq_true rfl, Nat.le_of_ble_eq_true rfl⟩) hm (by decide) rfl rfl rfl (Nat.le_of_ble_eq_true rfl) dX7_bothTold_44 ⟨Nat.zero_le _, Nat.zero_le _⟩) hS (fun v_191 I_185 R_186 J_187 AI_188 AJ_189 AR_190 H locs zv_191 hp_192 hH hS => ?_)
              dsimp only at hp_192
              obtain ⟨rfl, rfl, rfl, rfl, rfl, rfl, hn2a, hn2⟩ := hp_192
              replace hn2 := hid hn2
              have hge2 : 0 ≤ v_191 := Int.not_lt.mp (fun h => hn2.2 h v_134 (by omega) (by omega) (by rw [ej_184, ← ej_127]; exact hn1.1 (by omega)))
              have hfd2 : v_191 = pFd b nn nt nr (h + 1) := mQ_fd hQ rfl (by omega) (by omega) ew41 hn2a hn2
              have vl2 : 0 ≤ v_191 ∧ v_191 < (nr : Int) ∧ cc (v_191).toNat = cF b nn nr nt cc (h + 1) := ⟨by omega, by omega, by unfold cF; rw [hfd2]⟩
              refine g_calli (g_runV (As := [.int (iI v_191)]) (rest := []) (ci := 7) F hl.1 hH hS hz (c_X7_columns l g gh T I_2 R J_4 AI AJ AR mo v_191 zv_191 hv hm hT (by omega)) (cwV 1 F.2.2.2.2.1 (good_up gT_X7_columns) rfl rfl rfl hdX7_columns ⟨Nat.le_of_ble_eq_true rfl, Nat.le_of_ble_eq_true rfl⟩) hm (by decide) rfl rfl rfl (Nat.le_of_ble_eq_true rfl) dX7_bothTold_47 ⟨Nat.zero_le _, Nat.zero_le _⟩) hS (fun v_200 I_194 R_195 J_196 AI_197 AJ_198 AR_199 H locs zv_200 hp_201 hH hS => ?_)
              dsimp only at hp_201
              obtain ⟨rfl, rfl, rfl, rfl, rfl, rfl, q_193⟩ := hp_201
              have cvv_200 : v_200 = cF b nn nr nt cc (h + 1) := q_193.trans ((mQ_c hQ rfl vl2.1 vl2.2.1).trans vl2.2.2)
              refine lv_aload_n F.1 F.2.1 dX7_bothTold_50 rfl (lv_at hl 1 rfl) ?_
              refine lv_iload_n F.1 F.2.1 dX7_bothTold_51 rfl (lv_at hl 0 rfl) ?_
              refine g_calli (g_runV (As := [.int (iI v_8)]) (rest := [.int (iI v_200)]) (ci := 7) F hl.1 hH hS hz (c_X7_columns l g gh T I_2 R J_4 AI AJ AR mo v_8 zv_8 hv hm hT (by omega)) (cwV 1 F.2.2.2.2.1 (good_up gT_X7_columns) rfl rfl rfl hdX7_columns ⟨Nat.le_of_ble_eq_true rfl, Nat.le_of_ble_eq_true rfl⟩) hm (by decide) rfl rfl rfl (Nat.le_of_ble_eq_true rfl) dX7_bothTold_52 ⟨Nat.zero_le _, Nat.zero_le _⟩) hS (fun v_209 I_203 R_204 J_205 AI_206 AJ_207 AR_208 H locs zv_209 hp_210 hH hS => ?_)
              dsimp only at hp_210
              obtain ⟨rfl, rfl, rfl, rfl, rfl, rfl, q_202⟩ := hp_210
              have cvv_209 : v_209 = cF b nn nr nt cc h := q_202.trans ((mQ_c hQ rfl vlr_10.1 vlr_10.2.1).trans vlr_10.2.2)
              refine z_icmp_eq (tgt := 63) F dX7_bothTold_55 (by decide) zv_200 zv_209 (fun c_211 => ?_) (fun c_211 => ?_)
              · refine lv_aload_n F.1 F.2.1 dX7_bothTold_63 rfl (lv_at hl 1 rfl) ?_
                refine g_calli (g_runV (As := []) (rest := []) (ci := 7) F hl.1 hH hS hz (c_X7_relationf l g gh T b nn nr nt cc 0 (h + 1) I_2 R J_4 AI AJ AR mo hv hm hT (by omega) h65 hbM hr7 (by omega) hn9 (by omega) hQ) (cwV 0 F.2.2.2.2.1 (good_up gT_X7_relation) rfl rfl rfl hdX7_relation ⟨Nat.le_of_ble_eq_true rfl, Nat.le_of_ble_eq_true rfl⟩) hm (by decide) rfl rfl rfl (Nat.le_of_ble_eq_true rfl) dX7_bothTold_64 ⟨Nat.zero_le _, Nat.zero_le _⟩) hS (fun v_218 I_212 R_213 J_214 AI_215 AJ_216 AR_217 H locs zv_218 hp_219 hH hS => ?_)
                dsimp only at hp_219
                obtain ⟨r_220, er_220⟩ : ∃ qQ : pR, qQ = thn (0, (h + 1), 0) (fun t _ => sRl b nn nr nt cc t) := ⟨_, rfl⟩
                rw [← er_220] at hp_219
                obtain ⟨rfl, rfl, rfl, rfl, hv, pfq, q_221, q_222, hQ, q_223⟩ := hp_219
                have pf := qF_t pf pfq
                have u_224_2 : (I_212 mo 2).toInt = (I mo 2).toInt := by rw [pf 2 (by decide) (by decide) (by decide) (by decide) (by decide)]
                have u_224_5 : (I_212 mo 5).toInt = (I mo 5).toInt := by rw [pf 5 (by decide) (by decide) (by decide) (by decide) (by decide)]
                have u_224_14 : (I_212 mo 14).toInt = (I mo 14).toInt := by rw [pf 14 (by decide) (by decide) (by decide) (by decide) (by decide)]
                have u_224_16 : (I_212 mo 16).toInt = (I mo 16).toInt := by rw [pf 16 (by decide) (by decide) (by decide) (by decide) (by decide)]
                have u_224_18 : (I_212 mo 18).toInt = (I mo 18).toInt := by rw [pf 18 (by decide) (by decide) (by decide) (by decide) (by decide)]
                have er_220 : r_220 = sRl b nn nr nt cc (h + 1) := er_220
                have sr_220 := er_220
                rcases sRl_c er_220 with ⟨er_220, pr_220⟩ | ⟨er_220, pr_220⟩
                · have hQ : mQ gh I_212 J_214 AI AJ mo b nn nr nt cc 0 (h + 2) := by rw [er_220] at hQ; exact hQ
                  have sr_220 : sRl b nn nr nt cc (h + 1) = (0, h + 2, cF b nn nr nt cc (h + 1)) := sr_220.symm.trans er_220
                  have vlr_220 := q_223 (by rw [er_220])
                  try rw [er_220] at vlr_220
                  try dsimp only at vlr_220
                  replace q_222 := (⟨q_222.1, q_222.2.1, q_222.2.2 (mQ_0 hQ rfl)⟩ : _ ∧ _ ∧ _)
                  obtain ⟨f0, ef0⟩ : ∃ q, q = (I_212 mo 24).toInt := ⟨_, rfl⟩
                  have hr2 : Hid (f0 = 0 → v_218 < M ∧ fa0 = 0) := fun h9 => by omega
                  refine lv_istore_n (lv' := [(3, .int (iI v_218)), (2, .int (iI v_8)), (0, .ref mo), (1, .int (iI kd))]) F.1 F.2.1 dX7_bothTold_67 rfl hl (by decide) rfl (fun ls hl => ?_)
                  refine lv_aload_n F.1 F.2.1 dX7_bothTold_68 rfl (lv_at hl 2 rfl) ?_
                  refine lv_iload_n F.1 F.2.1 dX7_bothTold_69 rfl (lv_at hl 3 rfl) ?_
                  refine lv_aload_n F.1 F.2.1 dX7_bothTold_70 rfl (lv_at hl 2 rfl) ?_
                  refine lv_iload_n F.1 F.2.1 dX7_bothTold_71 rfl (lv_at hl 1 rfl) ?_
                  have b_226 := mJ hv hm
                  unfold mNum1 at b_226
                  refine g_calli (g_runV (As := [.int (iI v_8)]) (rest := [.int (iI kd), .ref mo]) (ci := 7) F hl.1 hH hS hz (c_X7_columns l g gh T I_212 R J_214 AI AJ AR mo v_8 zv_8 hv hm hT (by omega)) (cwV 1 F.2.2.2.2.1 (good_up gT_X7_columns) rfl rfl rfl hdX7_columns ⟨Nat.le_of_ble_eq_true rfl, Nat.le_of_ble_eq_true rfl⟩) hm (by decide) rfl rfl rfl (Nat.le_of_ble_eq_true rfl) dX7_bothTold_72 ⟨Nat.zero_le _, Nat.zero_le _⟩) hS (fun v_233 I_227 R_228 J_229 AI_230 AJ_231 AR_232 H locs zv_233 hp_234 hH hS => ?_)
                  dsimp only at hp_234
                  obtain ⟨rfl, rfl, rfl, rfl, rfl, rfl, q_225⟩ := hp_234
                  have cvv_233 : v_233 = cF b nn nr nt cc h := q_225.trans ((mQ_c hQ rfl vlr_10.1 vlr_10.2.1).trans vlr_10.2.2)
                  have hcol : Hid ((I_212 mo 24).toInt = 0 → 1 ≤ v_233 ∧ v_233 ≤ 4) := fun h => by have q9 := mCol hv hm (z := v_8) (by omega) (by omega); omega
                  refine lv_iload_n F.1 F.2.1 dX7_bothTold_75 rfl (lv_at hl 1 rfl) ?_
                  refine lv_iload_n F.1 F.2.1 dX7_bothTold_76 rfl (lv_at hl 0 rfl) ?_
                  refine z_iconst F dX7_bothTold_77 ?_
                  refine g_callv (g_runV (As := [.int (iI kd), .int (iI v_233), .int (iI v_8), .int (iI v_218), .int (iI 0)]) (rest := []) (ci := 7) F hl.1 hH hS hz (c_X7_header l g gh T M I_212 R J_214 AI AJ AR mo kd v_233 v_8 v_218 0 zkd zv_233 zv_8 zv_218 ⟨by decide, by decide⟩ hv hm hT (by omega) (by omega)) (cwV 5 F.2.2.2.2.1 (good_up gT_X7_header) rfl rfl rfl hdX7_header ⟨Nat.le_of_ble_eq_true rfl, Nat.le_of_ble_eq_true rfl⟩) hm (by decide) rfl rfl rfl (Nat.le_of_ble_eq_true rfl) dX7_bothTold_78 ⟨Nat.zero_le _, Nat.zero_le _⟩) hS (fun I_235 R_236 J_237 AI_238 AJ_239 AR_240 H locs hp_241 hH hS => ?_)
                  dsimp only at hp_241
                  obtain ⟨rfl, rfl, rfl, rfl, rfl, hv, hT, hhd⟩ := hp_241
                  replace hhd := hid hhd
                  have hQ : mQ gh I_212 J_214 AI_238 AJ mo b nn nr nt cc 0 (h + 2) := mQ_a hQ (fun hf9 z9 h09 h19 => (hhd hf9).1 z9 h09 (Or.inl (by omega)))
                  have hfin : thn (f, h, 0) (fun t _ => sTwo b nn nr nt cc t) = (0, h + 2, cF b nn nr nt cc h) := by
                    refine (thn_k q0).trans ?_
                    show sTwo b nn nr nt cc h = _
                    unfold sTwo
                    repeat (first | with_reducible rfl | refine ite_y (by omega) ?_ | refine ite_n (by omega) ?_ | refine thn_t sr_10 (by first | rfl | omega) ?_ | exact (thn_x sr_10.symm (by omega)).trans (pr_e (by omega) (by omega) (by omega)) | refine thn_t sr_220 (by first | rfl | omega) ?_ | exact (thn_x sr_220.symm (by omega)).trans (pr_e (by omega) (by omega) (by omega)) | refine ite_y (pRf_0 (by omega) (by omega)) ?_ | refine ite_n (fun e9 => absurd (pRf_i e9) (by omega)) ?_ | exact pr_e (by omega) (by omega) (by omega) | refine ite_y (pCf_ok (by omega) (by omega)) ?_ | refine ite_n (fun e9 => absurd (pCf_0 e9) (by omega)) ?_ | exact pr_e (pCf_no (by omega)) (by omega) (by omega) | exact pr_e (pCf_big (by omega) (by omega)) (by omega) (by omega))
                  exact g_vret F hr hlk hH hS hz ⟨rfl, rfl, rfl, hv, hT, pf, by first | (dsimp only; omega) | omega | rfl, by (try dsimp only); intro hf ht hn; exact row_mk (by omega) (hhd (by omega)) (by omega) (hcol (by omega)) (by omega) (by omega) (fun h => absurd h (by omega)) (fun h => absurd h (by omega)) (fun h => absurd h (by omega)) (fun h => absurd h (by omega)) (fun _ => by omega) (fun h => absurd h (by omega)) (fun h => absurd h (by omega)), by (try dsimp only); intro hf; exact (hhd (by omega)).2.1, by (try dsimp only); rw [hfin]; exact hQ, by (try dsimp only); rw [hfin]; have q9 := (hhd (mQ_0 hQ rfl)).2.2.1; rw [show M = (nr : Int) by omega] at q9; (try dsimp only); exact pIc_y (by omega)⟩ dX7_bothTold_81
                · have hQ : mQ gh I_212 J_214 AI AJ mo b nn nr nt cc (pRf b nn nt nr (h + 1)) (h + 1) := by rw [er_220] at hQ; exact hQ
                  have sr_220 := sr_220.symm.trans er_220
                  have g9r_220 := mQ_f hQ (by omega)
                  replace q_222 := (⟨q_222.1, q_222.2.1⟩ : _ ∧ _)
                  obtain ⟨f0, ef0⟩ : ∃ q, q = (I_212 mo 24).toInt := ⟨_, rfl⟩
                  have hr2 : Hid (f0 = 0 → v_218 < M ∧ fa0 = 0) := fun h9 => by omega
                  refine lv_istore_n (lv' := [(3, .int (iI v_218)), (2, .int (iI v_8)), (0, .ref mo), (1, .int (iI kd))]) F.1 F.2.1 dX7_bothTold_67 rfl hl (by decide) rfl (fun ls hl => ?_)
                  refine lv_aload_n F.1 F.2.1 dX7_bothTold_68 rfl (lv_at hl 2 rfl) ?_
                  refine lv_iload_n F.1 F.2.1 dX7_bothTold_69 rfl (lv_at hl 3 rfl) ?_
                  refine lv_aload_n F.1 F.2.1 dX7_bothTold_70 rfl (lv_at hl 2 rfl) ?_
                  refine lv_iload_n F.1 F.2.1 dX7_bothTold_71 rfl (lv_at hl 1 rfl) ?_
                  have b_243 := mJ hv hm
                  unfold mNum1 at b_243
                  refine g_calli (g_runV (As := [.int (iI v_8)]) (rest := [.int (iI kd), .ref mo]) (ci := 7) F hl.1 hH hS hz (c_X7_columns l g gh T I_212 R J_214 AI AJ AR mo v_8 zv_8 hv hm hT (by omega)) (cwV 1 F.2.2.2.2.1 (good_up gT_X7_columns) rfl rfl rfl hdX7_columns ⟨Nat.le_of_ble_eq_true rfl, Nat.le_of_ble_eq_true rfl⟩) hm (by decide) rfl rfl rfl (Nat.le_of_ble_eq_true rfl) dX7_bothTold_72 ⟨Nat.zero_le _, Nat.zero_le _⟩) hS (fun v_250 I_244 R_245 J_246 AI_247 AJ_248 AR_249 H locs zv_250 hp_251 hH hS => ?_)
                  dsimp only at hp_251
                  obtain ⟨rfl, rfl, rfl, rfl, rfl, rfl, q_242⟩ := hp_251
                  have hcol : Hid ((I_212 mo 24).toInt = 0 → 1 ≤ v_250 ∧ v_250 ≤ 4) := fun h => by have q9 := mCol hv hm (z := v_8) (by omega) (by omega); omega
                  refine lv_iload_n F.1 F.2.1 dX7_bothTold_75 rfl (lv_at hl 1 rfl) ?_
                  refine lv_iload_n F.1 F.2.1 dX7_bothTold_76 rfl (lv_at hl 0 rfl) ?_
                  refine z_iconst F dX7_bothTold_77 ?_
                  refine g_callv (g_runV (As := [.int (iI kd), .int (iI v_250), .int (iI v_8), .int (iI v_218), .int (iI 0)]) (rest := []) (ci := 7) F hl.1 hH hS hz (c_X7_header l g gh T M I_212 R J_214 AI AJ AR mo kd v_250 v_8 v_218 0 zkd zv_250 zv_8 zv_218 ⟨by decide, by decide⟩ hv hm hT (by omega) (by omega)) (cwV 5 F.2.2.2.2.1 (good_up gT_X7_header) rfl rfl rfl hdX7_header ⟨Nat.le_of_ble_eq_true rfl, Nat.le_of_ble_eq_true rfl⟩) hm (by decide) rfl rfl rfl (Nat.le_of_ble_eq_true rfl) dX7_bothTold_78 ⟨Nat.zero_le _, Nat.zero_le _⟩) hS (fun I_252 R_253 J_254 AI_255 AJ_256 AR_257 H locs hp_258 hH hS => ?_)
                  dsimp only at hp_258
                  obtain ⟨rfl, rfl, rfl, rfl, rfl, hv, hT, hhd⟩ := hp_258
                  replace hhd := hid hhd
                  have hQ : mQ gh I_212 J_214 AI_255 AJ mo b nn nr nt cc (pRf b nn nt nr (h + 1)) (h + 1) := mQ_bad hQ (by omega) rfl
                  have hfin : thn (f, h, 0) (fun t _ => sTwo b nn nr nt cc t) = (pRf b nn nt nr (h + 1), h + 1, 0) := by
                    refine (thn_k q0).trans ?_
                    show sTwo b nn nr nt cc h = _
                    unfold sTwo
                    repeat (first | with_reducible rfl | refine ite_y (by omega) ?_ | refine ite_n (by omega) ?_ | refine thn_t sr_10 (by first | rfl | omega) ?_ | exact (thn_x sr_10.symm (by omega)).trans (pr_e (by omega) (by omega) (by omega)) | refine thn_t sr_220 (by first | rfl | omega) ?_ | exact (thn_x sr_220.symm (by omega)).trans (pr_e (by omega) (by omega) (by omega)) | refine ite_y (pRf_0 (by omega) (by omega)) ?_ | refine ite_n (fun e9 => absurd (pRf_i e9) (by omega)) ?_ | exact pr_e (by omega) (by omega) (by omega) | refine ite_y (pCf_ok (by omega) (by omega)) ?_ | refine ite_n (fun e9 => absurd (pCf_0 e9) (by omega)) ?_ | exact pr_e (pCf_no (by omega)) (by omega) (by omega) | exact pr_e (pCf_big (by omega) (by omega)) (by omega) (by omega))
                  exact g_vret F hr hlk hH hS hz ⟨rfl, rfl, rfl, hv, hT, pf, by first | (dsimp only; omega) | omega | rfl, by (try dsimp only); exact (fun hf => absurd hf (by omega)), by (try dsimp only); exact (fun hf => absurd hf (by omega)), by (try dsimp only); rw [hfin]; exact hQ, by (try dsimp only); rw [hfin]; exact pIc_n (by omega)⟩ dX7_bothTold_81
              · refine lv_aload_n F.1 F.2.1 dX7_bothTold_58 rfl (lv_at hl 1 rfl) ?_
                refine z_iconst F dX7_bothTold_59 ?_
                refine g_callv (g_runV (As := [.int (iI 5)]) (rest := []) (ci := 7) F hl.1 hH hS hz (c_X7_wrongf l g gh T b nn nr nt cc 0 (h + 1) I_2 R J_4 AI AJ AR mo 5 ⟨by decide, by decide⟩ hv hm hT (by omega) h65 hbM hr7 (by omega) hn9 (by omega) hQ) (cwV 1 F.2.2.2.2.1 (good_up gT_X7_wrong) rfl rfl rfl hdX7_wrong ⟨Nat.le_of_ble_eq_true rfl, Nat.le_of_ble_eq_true rfl⟩) hm (by decide) rfl rfl rfl (Nat.le_of_ble_eq_true rfl) dX7_bothTold_60 ⟨Nat.zero_le _, Nat.zero_le _⟩) hS (fun I_259 R_260 J_261 AI_262 AJ_263 AR_264 H locs hp_265 hH hS => ?_)
                dsimp only at hp_265
                obtain ⟨r_266, er_266⟩ : ∃ qQ : pR, qQ = thn (0, (h + 1), 0) (fun t _ => (5, t, 0)) := ⟨_, rfl⟩
                rw [← er_266] at hp_265
                obtain ⟨rfl, rfl, rfl, rfl, rfl, hv, pfq, q_267, hQ⟩ := hp_265
                have pf := qF_t pf pfq
                have u_268_2 : (I_259 mo 2).toInt = (I mo 2).toInt := by rw [pf 2 (by decide) (by decide) (by decide) (by decide) (by decide)]
                have u_268_5 : (I_259 mo 5).toInt = (I mo 5).toInt := by rw [pf 5 (by decide) (by decide) (by decide) (by decide) (by decide)]
                have u_268_14 : (I_259 mo 14).toInt = (I mo 14).toInt := by rw [pf 14 (by decide) (by decide) (by decide) (by decide) (by decide)]
                have u_268_16 : (I_259 mo 16).toInt = (I mo 16).toInt := by rw [pf 16 (by decide) (by decide) (by decide) (by decide) (by decide)]
                have u_268_18 : (I_259 mo 18).toInt = (I mo 18).toInt := by rw [pf 18 (by decide) (by decide) (by decide) (by decide) (by decide)]
                have er_266 : r_266 = (5, (h + 1), 0) := er_266
                have hQ : mQ gh I_259 J_4 AI AJ mo b nn nr nt cc 5 (h + 1) := by rw [er_266] at hQ; exact hQ
                have q9_r_266 : (5 : Int) ≠ 0 := by omega
                have g9_r_266 := mQ_f hQ q9_r_266
                refine lv_aload_n F.1 F.2.1 dX7_bothTold_63 rfl (lv_at hl 1 rfl) ?_
                have b_269 := mJ hv hm
                unfold mNum1 at b_269
                refine g_calli (g_runV (As := []) (rest := []) (ci := 7) F hl.1 hH hS hz (c_X7_relationf l g gh T b nn nr nt cc 5 (h + 1) I_259 R J_4 AI AJ AR mo hv hm hT (by omega) h65 hbM hr7 (by omega) hn9 (by omega) hQ) (cwV 0 F.2.2.2.2.1 (good_up gT_X7_relation) rfl rfl rfl hdX7_relation ⟨Nat.le_of_ble_eq_true rfl, Nat.le_of_ble_eq_true rfl⟩) hm (by decide) rfl rfl rfl (Nat.le_of_ble_eq_true rfl) dX7_bothTold_64 ⟨Nat.zero_le _, Nat.zero_le _⟩) hS (fun v_276 I_270 R_271 J_272 AI_273 AJ_274 AR_275 H locs zv_276 hp_277 hH hS => ?_)
                dsimp only at hp_277
                obtain ⟨r_278, er_278⟩ : ∃ qQ : pR, qQ = thn (5, (h + 1), 0) (fun t _ => sRl b nn nr nt cc t) := ⟨_, rfl⟩
                rw [← er_278] at hp_277
                obtain ⟨rfl, rfl, rfl, rfl, hv, pfq, q_279, q_280, hQ, q_281⟩ := hp_277
                have pf := qF_t pf pfq
                have u_282_2 : (I_270 mo 2).toInt = (I mo 2).toInt := by rw [pf 2 (by decide) (by decide) (by decide) (by decide) (by decide)]
                have u_282_5 : (I_270 mo 5).toInt = (I mo 5).toInt := by rw [pf 5 (by decide) (by decide) (by decide) (by decide) (by decide)]
                have u_282_14 : (I_270 mo 14).toInt = (I mo 14).toInt := by rw [pf 14 (by decide) (by decide) (by decide) (by decide) (by decide)]
                have u_282_16 : (I_270 mo 16).toInt = (I mo 16).toInt := by rw [pf 16 (by decide) (by decide) (by decide) (by decide) (by decide)]
                have u_282_18 : (I_270 mo 18).toInt = (I mo 18).toInt := by rw [pf 18 (by decide) (by decide) (by decide) (by decide) (by decide)]
                rw [thn_b (by omega)] at er_278
                have hQ : mQ gh I_270 J_272 AI AJ mo b nn nr nt cc 5 (h + 1) := by rw [er_278] at hQ; exact hQ
                replace q_280 := (⟨q_280.1, q_280.2.1⟩ : _ ∧ _)
                obtain ⟨f0, ef0⟩ : ∃ q, q = (I_270 mo 24).toInt := ⟨_, rfl⟩
                have hr2 : Hid (f0 = 0 → v_276 < M ∧ fa0 = 0) := fun h9 => by omega
                refine lv_istore_n (lv' := [(3, .int (iI v_276)), (2, .int (iI v_8)), (0, .ref mo), (1, .int (iI kd))]) F.1 F.2.1 dX7_bothTold_67 rfl hl (by decide) rfl (fun ls hl => ?_)
                refine lv_aload_n F.1 F.2.1 dX7_bothTold_68 rfl (lv_at hl 2 rfl) ?_
                refine lv_iload_n F.1 F.2.1 dX7_bothTold_69 rfl (lv_at hl 3 rfl) ?_
                refine lv_aload_n F.1 F.2.1 dX7_bothTold_70 rfl (lv_at hl 2 rfl) ?_
                refine lv_iload_n F.1 F.2.1 dX7_bothTold_71 rfl (lv_at hl 1 rfl) ?_
                have b_284 := mJ hv hm
                unfold mNum1 at b_284
                refine g_calli (g_runV (As := [.int (iI v_8)]) (rest := [.int (iI kd), .ref mo]) (ci := 7) F hl.1 hH hS hz (c_X7_columns l g gh T I_270 R J_272 AI AJ AR mo v_8 zv_8 hv hm hT (by omega)) (cwV 1 F.2.2.2.2.1 (good_up gT_X7_columns) rfl rfl rfl hdX7_columns ⟨Nat.le_of_ble_eq_true rfl, Nat.le_of_ble_eq_true rfl⟩) hm (by decide) rfl rfl rfl (Nat.le_of_ble_eq_true rfl) dX7_bothTold_72 ⟨Nat.zero_le _, Nat.zero_le _⟩) hS (fun v_291 I_285 R_286 J_287 AI_288 AJ_289 AR_290 H locs zv_291 hp_292 hH hS => ?_)
                dsimp only at hp_292
                obtain ⟨rfl, rfl, rfl, rfl, rfl, rfl, q_283⟩ := hp_292
                have hcol : Hid ((I_270 mo 24).toInt = 0 → 1 ≤ v_291 ∧ v_291 ≤ 4) := fun h => by have q9 := mCol hv hm (z := v_8) (by omega) (by omega); omega
                refine lv_iload_n F.1 F.2.1 dX7_bothTold_75 rfl (lv_at hl 1 rfl) ?_
                refine lv_iload_n F.1 F.2.1 dX7_bothTold_76 rfl (lv_at hl 0 rfl) ?_
                refine z_iconst F dX7_bothTold_77 ?_
                refine g_callv (g_runV (As := [.int (iI kd), .int (iI v_291), .int (iI v_8), .int (iI v_276), .int (iI 0)]) (rest := []) (ci := 7) F hl.1 hH hS hz (c_X7_header l g gh T M I_270 R J_272 AI AJ AR mo kd v_291 v_8 v_276 0 zkd zv_291 zv_8 zv_276 ⟨by decide, by decide⟩ hv hm hT (by omega) (by omega)) (cwV 5 F.2.2.2.2.1 (good_up gT_X7_header) rfl rfl rfl hdX7_header ⟨Nat.le_of_ble_eq_true rfl, Nat.le_of_ble_eq_true rfl⟩) hm (by decide) rfl rfl rfl (Nat.le_of_ble_eq_true rfl) dX7_bothTold_78 ⟨Nat.zero_le _, Nat.zero_le _⟩) hS (fun I_293 R_294 J_295 AI_296 AJ_297 AR_298 H locs hp_299 hH hS => ?_)
                dsimp only at hp_299
                obtain ⟨rfl, rfl, rfl, rfl, rfl, hv, hT, hhd⟩ := hp_299
                replace hhd := hid hhd
                have hQ : mQ gh I_270 J_272 AI_296 AJ mo b nn nr nt cc 5 (h + 1) := mQ_bad hQ (by omega) rfl
                have hfin : thn (f, h, 0) (fun t _ => sTwo b nn nr nt cc t) = (5, h + 1, 0) := by
                  refine (thn_k q0).trans ?_
                  show sTwo b nn nr nt cc h = _
                  unfold sTwo
                  repeat (first | with_reducible rfl | refine ite_y (by omega) ?_ | refine ite_n (by omega) ?_ | refine thn_t sr_10 (by first | rfl | omega) ?_ | exact (thn_x sr_10.symm (by omega)).trans (pr_e (by omega) (by omega) (by omega)) | refine ite_y (pRf_0 (by omega) (by omega)) ?_ | refine ite_n (fun e9 => absurd (pRf_i e9) (by omega)) ?_ | exact pr_e (by omega) (by omega) (by omega) | refine ite_y (pCf_ok (by omega) (by omega)) ?_ | refine ite_n (fun e9 => absurd (pCf_0 e9) (by omega)) ?_ | exact pr_e (pCf_no (by omega)) (by omega) (by omega) | exact pr_e (pCf_big (by omega) (by omega)) (by omega) (by omega))
                exact g_vret F hr hlk hH hS hz ⟨rfl, rfl, rfl, hv, hT, pf, by first | (dsimp only; omega) | omega | rfl, by (try dsimp only); exact (fun hf => absurd hf (by omega)), by (try dsimp only); exact (fun hf => absurd hf (by omega)), by (try dsimp only); rw [hfin]; exact hQ, by (try dsimp only); rw [hfin]; exact pIc_n (by omega)⟩ dX7_bothTold_81
    · have hQ : mQ gh I_2 J_4 AI AJ mo b nn nr nt cc (pRf b nn nt nr h) h := by rw [er_10] at hQ; exact hQ
      have sr_10 := sr_10.symm.trans er_10
      have g9r_10 := mQ_f hQ (by omega)
      replace q_12 := (⟨q_12.1, q_12.2.1⟩ : _ ∧ _)
      obtain ⟨fa0, efa0⟩ : ∃ q, q = (I_2 mo 24).toInt := ⟨_, rfl⟩
      have hra : Hid (fa0 = 0 → v_8 < M) := fun h9 => by omega
      refine lv_istore_n (lv' := [(2, .int (iI v_8)), (0, .ref mo), (1, .int (iI kd))]) F.1 F.2.1 dX7_bothTold_4 rfl hl (by decide) rfl (fun ls hl => ?_)
      refine lv_aload_n F.1 F.2.1 dX7_bothTold_5 rfl (lv_at hl 1 rfl) ?_
      refine g_getI (ci := 7) (k := 24) F hH rfl (by decide) iX7 hm (by decide) rfl k81 dX7_bothTold_6 ?_
      have b_300 := mJ hv hm
      unfold mNum1 at b_300
      refine z_if_ne (tgt := 63) F dX7_bothTold_9 (by decide) (zr_t _) (fun c_301 => ?_) (fun c_301 => ?_)
      · refine lv_aload_n F.1 F.2.1 dX7_bothTold_63 rfl (lv_at hl 1 rfl) ?_
        refine g_calli (g_runV (As := []) (rest := []) (ci := 7) F hl.1 hH hS hz (c_X7_relationf l g gh T b nn nr nt cc (pRf b nn nt nr h) h I_2 R J_4 AI AJ AR mo hv hm hT (by omega) h65 hbM hr7 (by omega) hn9 (by omega) hQ) (cwV 0 F.2.2.2.2.1 (good_up gT_X7_relation) rfl rfl rfl hdX7_relation ⟨Nat.le_of_ble_eq_true rfl, Nat.le_of_ble_eq_true rfl⟩) hm (by decide) rfl rfl rfl (Nat.le_of_ble_eq_true rfl) dX7_bothTold_64 ⟨Nat.zero_le _, Nat.zero_le _⟩) hS (fun v_308 I_302 R_303 J_304 AI_305 AJ_306 AR_307 H locs zv_308 hp_309 hH hS => ?_)
        dsimp only at hp_309
        obtain ⟨r_310, er_310⟩ : ∃ qQ : pR, qQ = thn ((pRf b nn nt nr h), h, 0) (fun t _ => sRl b nn nr nt cc t) := ⟨_, rfl⟩
        rw [← er_310] at hp_309
        obtain ⟨rfl, rfl, rfl, rfl, hv, pfq, q_311, q_312, hQ, q_313⟩ := hp_309
        have pf := qF_t pf pfq
        have u_314_2 : (I_302 mo 2).toInt = (I mo 2).toInt := by rw [pf 2 (by decide) (by decide) (by decide) (by decide) (by decide)]
        have u_314_5 : (I_302 mo 5).toInt = (I mo 5).toInt := by rw [pf 5 (by decide) (by decide) (by decide) (by decide) (by decide)]
        have u_314_14 : (I_302 mo 14).toInt = (I mo 14).toInt := by rw [pf 14 (by decide) (by decide) (by decide) (by decide) (by decide)]
        have u_314_16 : (I_302 mo 16).toInt = (I mo 16).toInt := by rw [pf 16 (by decide) (by decide) (by decide) (by decide) (by decide)]
        have u_314_18 : (I_302 mo 18).toInt = (I mo 18).toInt := by rw [pf 18 (by decide) (by decide) (by decide) (by decide) (by decide)]
        rw [thn_b (by omega)] at er_310
        have hQ : mQ gh I_302 J_304 AI AJ mo b nn nr nt cc (pRf b nn nt nr h) h := by rw [er_310] at hQ; exact hQ
        replace q_312 := (⟨q_312.1, q_312.2.1⟩ : _ ∧ _)
        obtain ⟨f0, ef0⟩ : ∃ q, q = (I_302 mo 24).toInt := ⟨_, rfl⟩
        have hr2 : Hid (f0 = 0 → v_308 < M ∧ fa0 = 0) := fun h9 => by omega
        refine lv_istore_n (lv' := [(3, .int (iI v_308)), (2, .int (iI v_8)), (0, .ref mo), (1, .int (iI kd))]) F.1 F.2.1 dX7_bothTold_67 rfl hl (by decide) rfl (fun ls hl => ?_)
        refine lv_aload_n F.1 F.2.1 dX7_bothTold_68 rfl (lv_at hl 2 rfl) ?_
        refine lv_iload_n F.1 F.2.1 dX7_bothTold_69 rfl (lv_at hl 3 rfl) ?_
        refine lv_aload_n F.1 F.2.1 dX7_bothTold_70 rfl (lv_at hl 2 rfl) ?_
        refine lv_iload_n F.1 F.2.1 dX7_bothTold_71 rfl (lv_at hl 1 rfl) ?_
        have b_316 := mJ hv hm
        unfold mNum1 at b_316
        refine g_calli (g_runV (As := [.int (iI v_8)]) (rest := [.int (iI kd), .ref mo]) (ci := 7) F hl.1 hH hS hz (c_X7_columns l g gh T I_302 R J_304 AI AJ AR mo v_8 zv_8 hv hm hT (by omega)) (cwV 1 F.2.2.2.2.1 (good_up gT_X7_columns) rfl rfl rfl hdX7_columns ⟨Nat.le_of_ble_eq_true rfl, Nat.le_of_ble_eq_true rfl⟩) hm (by decide) rfl rfl rfl (Nat.le_of_ble_eq_true rfl) dX7_bothTold_72 ⟨Nat.zero_le _, Nat.zero_le _⟩) hS (fun v_323 I_317 R_318 J_319 AI_320 AJ_321 AR_322 H locs zv_323 hp_324 hH hS => ?_)
        dsimp only at hp_324
        obtain ⟨rfl, rfl, rfl, rfl, rfl, rfl, q_315⟩ := hp_324
        have hcol : Hid ((I_302 mo 24).toInt = 0 → 1 ≤ v_323 ∧ v_323 ≤ 4) := fun h => by have q9 := mCol hv hm (z := v_8) (by omega) (by omega); omega
        refine lv_iload_n F.1 F.2.1 dX7_bothTold_75 rfl (lv_at hl 1 rfl) ?_
        refine lv_iload_n F.1 F.2.1 dX7_bothTold_76 rfl (lv_at hl 0 rfl) ?_
        refine z_iconst F dX7_bothTold_77 ?_
        refine g_callv (g_runV (As := [.int (iI kd), .int (iI v_323), .int (iI v_8), .int (iI v_308), .int (iI 0)]) (rest := []) (ci := 7) F hl.1 hH hS hz (c_X7_header l g gh T M I_302 R J_304 AI AJ AR mo kd v_323 v_8 v_308 0 zkd zv_323 zv_8 zv_308 ⟨by decide, by decide⟩ hv hm hT (by omega) (by omega)) (cwV 5 F.2.2.2.2.1 (good_up gT_X7_header) rfl rfl rfl hdX7_header ⟨Nat.le_of_ble_eq_true rfl, Nat.le_of_ble_eq_true rfl⟩) hm (by decide) rfl rfl rfl (Nat.le_of_ble_eq_true rfl) dX7_bothTold_78 ⟨Nat.zero_le _, Nat.zero_le _⟩) hS (fun I_325 R_326 J_327 AI_328 AJ_329 AR_330 H locs hp_331 hH hS => ?_)
        dsimp only at hp_331
        obtain ⟨rfl, rfl, rfl, rfl, rfl, hv, hT, hhd⟩ := hp_331
        replace hhd := hid hhd
        have hQ : mQ gh I_302 J_304 AI_328 AJ mo b nn nr nt cc (pRf b nn nt nr h) h := mQ_bad hQ (by omega) rfl
        have hfin : thn (f, h, 0) (fun t _ => sTwo b nn nr nt cc t) = (pRf b nn nt nr h, h, 0) := by
          refine (thn_k q0).trans ?_
          show sTwo b nn nr nt cc h = _
          unfold sTwo
          repeat (first | with_reducible rfl | refine ite_y (by omega) ?_ | refine ite_n (by omega) ?_ | refine thn_t sr_10 (by first | rfl | omega) ?_ | exact (thn_x sr_10.symm (by omega)).trans (pr_e (by omega) (by omega) (by omega)) | refine ite_y (pRf_0 (by omega) (by omega)) ?_ | refine ite_n (fun e9 => absurd (pRf_i e9) (by omega)) ?_ | exact pr_e (by omega) (by omega) (by omega) | refine ite_y (pCf_ok (by omega) (by omega)) ?_ | refine ite_n (fun e9 => absurd (pCf_0 e9) (by omega)) ?_ | exact pr_e (pCf_no (by omega)) (by omega) (by omega) | exact pr_e (pCf_big (by omega) (by omega)) (by omega) (by omega))
        exact g_vret F hr hlk hH hS hz ⟨rfl, rfl, rfl, hv, hT, pf, by first | (dsimp only; omega) | omega | rfl, by (try dsimp only); exact (fun hf => absurd hf (by omega)), by (try dsimp only); exact (fun hf => absurd hf (by omega)), by (try dsimp only); rw [hfin]; exact hQ, by (try dsimp only); rw [hfin]; exact pIc_n (by omega)⟩ dX7_bothTold_81
      · exact absurd (mQ_z hQ (by omega)) (by omega)
  · have hf1 := mQ_f hQ q0
    refine lv_aload_n F.1 F.2.1 dX7_bothTold_0 rfl (lv_at hl 0 rfl) ?_
    have b_332 := mJ hv hm
    unfold mNum1 at b_332
    refine g_calli (g_runV (As := []) (rest := []) (ci := 7) F hl.1 hH hS hz (c_X7_relationf l g gh T b nn nr nt cc f h I R J AI AJ AR mo hv hm hT (by omega) h65 hbM hr7 (by omega) hn9 (by omega) hQ) (cwV 0 F.2.2.2.2.1 (good_up gT_X7_relation) rfl rfl rfl hdX7_relation ⟨Nat.le_of_ble_eq_true rfl, Nat.le_of_ble_eq_true rfl⟩) hm (by decide) rfl rfl rfl (Nat.le_of_ble_eq_true rfl) dX7_bothTold_1 ⟨Nat.zero_le _, Nat.zero_le _⟩) hS (fun v_339 I_333 R_334 J_335 AI_336 AJ_337 AR_338 H locs zv_339 hp_340 hH hS => ?_)
    dsimp only at hp_340
    obtain ⟨r_341, er_341⟩ : ∃ qQ : pR, qQ = thn (f, h, 0) (fun t _ => sRl b nn nr nt cc t) := ⟨_, rfl⟩
    rw [← er_341] at hp_340
    obtain ⟨rfl, rfl, rfl, rfl, hv, pfq, q_342, q_343, hQ, q_344⟩ := hp_340
    have pf := qF_t pf pfq
    have u_345_2 : (I_333 mo 2).toInt = (I mo 2).toInt := by rw [pf 2 (by decide) (by decide) (by decide) (by decide) (by decide)]
    have u_345_5 : (I_333 mo 5).toInt = (I mo 5).toInt := by rw [pf 5 (by decide) (by decide) (by decide) (by decide) (by decide)]
    have u_345_14 : (I_333 mo 14).toInt = (I mo 14).toInt := by rw [pf 14 (by decide) (by decide) (by decide) (by decide) (by decide)]
    have u_345_16 : (I_333 mo 16).toInt = (I mo 16).toInt := by rw [pf 16 (by decide) (by decide) (by decide) (by decide) (by decide)]
    have u_345_18 : (I_333 mo 18).toInt = (I mo 18).toInt := by rw [pf 18 (by decide) (by decide) (by decide) (by decide) (by decide)]
    rw [thn_b (by omega)] at er_341
    have hQ : mQ gh I_333 J_335 AI AJ mo b nn nr nt cc f h := by rw [er_341] at hQ; exact hQ
    replace q_343 := (⟨q_343.1, q_343.2.1⟩ : _ ∧ _)
    obtain ⟨fa0, efa0⟩ : ∃ q, q = (I_333 mo 24).toInt := ⟨_, rfl⟩
    have hra : Hid (fa0 = 0 → v_339 < M) := fun h9 => by omega
    refine lv_istore_n (lv' := [(2, .int (iI v_339)), (0, .ref mo), (1, .int (iI kd))]) F.1 F.2.1 dX7_bothTold_4 rfl hl (by decide) rfl (fun ls hl => ?_)
    refine lv_aload_n F.1 F.2.1 dX7_bothTold_5 rfl (lv_at hl 1 rfl) ?_
    refine g_getI (ci := 7) (k := 24) F hH rfl (by decide) iX7 hm (by decide) rfl k81 dX7_bothTold_6 ?_
    have b_346 := mJ hv hm
    unfold mNum1 at b_346
    refine z_if_ne (tgt := 63) F dX7_bothTold_9 (by decide) (zr_t _) (fun c_347 => ?_) (fun c_347 => ?_)
    · refine lv_aload_n F.1 F.2.1 dX7_bothTold_63 rfl (lv_at hl 1 rfl) ?_
      refine g_calli (g_runV (As := []) (rest := []) (ci := 7) F hl.1 hH hS hz (c_X7_relationf l g gh T b nn nr nt cc f h I_333 R J_335 AI AJ AR mo hv hm hT (by omega) h65 hbM hr7 (by omega) hn9 (by omega) hQ) (cwV 0 F.2.2.2.2.1 (good_up gT_X7_relation) rfl rfl rfl hdX7_relation ⟨Nat.le_of_ble_eq_true rfl, Nat.le_of_ble_eq_true rfl⟩) hm (by decide) rfl rfl rfl (Nat.le_of_ble_eq_true rfl) dX7_bothTold_64 ⟨Nat.zero_le _, Nat.zero_le _⟩) hS (fun v_354 I_348 R_349 J_350 AI_351 AJ_352 AR_353 H locs zv_354 hp_355 hH hS => ?_)
      dsimp only at hp_355
      obtain ⟨r_356, er_356⟩ : ∃ qQ : pR, qQ = thn (f, h, 0) (fun t _ => sRl b nn nr nt cc t) := ⟨_, rfl⟩
      rw [← er_356] at hp_355
      obtain ⟨rfl, rfl, rfl, rfl, hv, pfq, q_357, q_358, hQ, q_359⟩ := hp_355
      have pf := qF_t pf pfq
      have u_360_2 : (I_348 mo 2).toInt = (I mo 2).toInt := by rw [pf 2 (by decide) (by decide) (by decide) (by decide) (by decide)]
      have u_360_5 : (I_348 mo 5).toInt = (I mo 5).toInt := by rw [pf 5 (by decide) (by decide) (by decide) (by decide) (by decide)]
      have u_360_14 : (I_348 mo 14).toInt = (I mo 14).toInt := by rw [pf 14 (by decide) (by decide) (by decide) (by decide) (by decide)]
      have u_360_16 : (I_348 mo 16).toInt = (I mo 16).toInt := by rw [pf 16 (by decide) (by decide) (by decide) (by decide) (by decide)]
      have u_360_18 : (I_348 mo 18).toInt = (I mo 18).toInt := by rw [pf 18 (by decide) (by decide) (by decide) (by decide) (by decide)]
      rw [thn_b (by omega)] at er_356
      have hQ : mQ gh I_348 J_350 AI AJ mo b nn nr nt cc f h := by rw [er_356] at hQ; exact hQ
      replace q_358 := (⟨q_358.1, q_358.2.1⟩ : _ ∧ _)
      obtain ⟨f0, ef0⟩ : ∃ q, q = (I_348 mo 24).toInt := ⟨_, rfl⟩
      have hr2 : Hid (f0 = 0 → v_354 < M ∧ fa0 = 0) := fun h9 => by omega
      refine lv_istore_n (lv' := [(3, .int (iI v_354)), (2, .int (iI v_339)), (0, .ref mo), (1, .int (iI kd))]) F.1 F.2.1 dX7_bothTold_67 rfl hl (by decide) rfl (fun ls hl => ?_)
      refine lv_aload_n F.1 F.2.1 dX7_bothTold_68 rfl (lv_at hl 2 rfl) ?_
      refine lv_iload_n F.1 F.2.1 dX7_bothTold_69 rfl (lv_at hl 3 rfl) ?_
      refine lv_aload_n F.1 F.2.1 dX7_bothTold_70 rfl (lv_at hl 2 rfl) ?_
      refine lv_iload_n F.1 F.2.1 dX7_bothTold_71 rfl (lv_at hl 1 rfl) ?_
      have b_362 := mJ hv hm
      unfold mNum1 at b_362
      refine g_calli (g_runV (As := [.int (iI v_339)]) (rest := [.int (iI kd), .ref mo]) (ci := 7) F hl.1 hH hS hz (c_X7_columns l g gh T I_348 R J_350 AI AJ AR mo v_339 zv_339 hv hm hT (by omega)) (cwV 1 F.2.2.2.2.1 (good_up gT_X7_columns) rfl rfl rfl hdX7_columns ⟨Nat.le_of_ble_eq_true rfl, Nat.le_of_ble_eq_true rfl⟩) hm (by decide) rfl rfl rfl (Nat.le_of_ble_eq_true rfl) dX7_bothTold_72 ⟨Nat.zero_le _, Nat.zero_le _⟩) hS (fun v_369 I_363 R_364 J_365 AI_366 AJ_367 AR_368 H locs zv_369 hp_370 hH hS => ?_)
      dsimp only at hp_370
      obtain ⟨rfl, rfl, rfl, rfl, rfl, rfl, q_361⟩ := hp_370
      have hcol : Hid ((I_348 mo 24).toInt = 0 → 1 ≤ v_369 ∧ v_369 ≤ 4) := fun h => by have q9 := mCol hv hm (z := v_339) (by omega) (by omega); omega
      refine lv_iload_n F.1 F.2.1 dX7_bothTold_75 rfl (lv_at hl 1 rfl) ?_
      refine lv_iload_n F.1 F.2.1 dX7_bothTold_76 rfl (lv_at hl 0 rfl) ?_
      refine z_iconst F dX7_bothTold_77 ?_
      refine g_callv (g_runV (As := [.int (iI kd), .int (iI v_369), .int (iI v_339), .int (iI v_354), .int (iI 0)]) (rest := []) (ci := 7) F hl.1 hH hS hz (c_X7_header l g gh T M I_348 R J_350 AI AJ AR mo kd v_369 v_339 v_354 0 zkd zv_369 zv_339 zv_354 ⟨by decide, by decide⟩ hv hm hT (by omega) (by omega)) (cwV 5 F.2.2.2.2.1 (good_up gT_X7_header) rfl rfl rfl hdX7_header ⟨Nat.le_of_ble_eq_true rfl, Nat.le_of_ble_eq_true rfl⟩) hm (by decide) rfl rfl rfl (Nat.le_of_ble_eq_true rfl) dX7_bothTold_78 ⟨Nat.zero_le _, Nat.zero_le _⟩) hS (fun I_371 R_372 J_373 AI_374 AJ_375 AR_376 H locs hp_377 hH hS => ?_)
      dsimp only at hp_377
      obtain ⟨rfl, rfl, rfl, rfl, rfl, hv, hT, hhd⟩ := hp_377
      replace hhd := hid hhd
      have hQ : mQ gh I_348 J_350 AI_374 AJ mo b nn nr nt cc f h := mQ_bad hQ (by omega) rfl
      have hfin : thn (f, h, 0) (fun t _ => sTwo b nn nr nt cc t) = (f, h, 0) := thn_b q0
      exact g_vret F hr hlk hH hS hz ⟨rfl, rfl, rfl, hv, hT, pf, by first | (dsimp only; omega) | omega | rfl, by (try dsimp only); exact (fun hf => absurd hf (by omega)), by (try dsimp only); exact (fun hf => absurd hf (by omega)), by (try dsimp only); rw [hfin]; exact hQ, by (try dsimp only); rw [hfin]; exact pIc_n (by omega)⟩ dX7_bothTold_81
    · exact absurd (mQ_z hQ (by omega)) (by omega)
