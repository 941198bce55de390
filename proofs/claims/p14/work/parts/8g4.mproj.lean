def rmX7_projectToldg : Room := { frames := 8, cells := 0, slots := 0, locals := 170 }
set_option maxHeartbeats 4000000 in
set_option maxRecDepth 100000 in
/-- a projection told -/
theorem c_X7_projectToldg (l : Launch) (g : gG) (gh : gGh) (T : Nat → Int32) (M : Int) (b : tTx) (nn nr : Nat) (nt : Nat → Nat) (cc : Nat → Int) (f : Int) (h : Nat) (I : gI) (R : gR) (J : gJ) (AI : gI) (AJ : gJ) (AR : gR) (mo : Nat) (hv : mInv g gh R I AI) (hm : gO g mo 7) (hT : AI (gh 50 0) = T) (hE : (I mo 20).toInt ≤ 936) (hM : (I mo 24).toInt = 0 → (I mo 5).toInt ≤ 15) (hMM : (I mo 5).toInt = M) (h65 : gh 9 (gh 65 0) ≠ 5) (hbM : ∀ k : Nat, k < nn → ((gM g).2 (gh 65 0) k).toInt = b k % 256) (hr7 : ∀ k : Nat, -128 ≤ b k ∧ b k ≤ 127) (hsz : (I mo 18).toInt = (nn : Int)) (hn9 : nn ≤ 900) (hm5 : (I mo 5).toInt = (nr : Int)) (hQ : mQ gh I J AI AJ mo b nn nr nt cc f h) : gMet l g yX7_projectTold tsX7_projectTold rmX7_projectToldg [.ref mo] (I, R, J, AI, AJ, AR) (gQv g (fun w : gS => R = w.2.1 ∧ AJ = w.2.2.2.2.1 ∧ AR = w.2.2.2.2.2 ∧ (mInv g gh R (w.1) (w.2.2.2.1)) ∧ ((w.2.2.2.1) (gh 50 0) = T) ∧ (qF mo I (w.1)) ∧ (((w.1) mo 20).toInt ≤ 936 ∧ (I mo 24).toInt ≤ ((w.1) mo 24).toInt) ∧ (((w.1) mo 24).toInt = 0 → ((w.1) mo 21).toInt = 4 → ((w.1) mo 23).toInt = 59 → rowOK ((w.2.2.2.1) (gh 53 0)) M) ∧ (((w.1) mo 24).toInt = 0 → tI ((w.2.2.2.1) (gh 53 0)) (40 * M) = 2) ∧ (mQ gh (w.1) (w.2.2.1) (w.2.2.2.1) AJ mo b nn nr nt cc (thn (f, h, 0) (fun t _ => sPrj b nn nr nt cc t)).1 (thn (f, h, 0) (fun t _ => sPrj b nn nr nt cc t)).2.1) ∧ (pIc (thn (f, h, 0) (fun t _ => sPrj b nn nr nt cc t)).1 (pK b nn (thn (f, h, 0) (fun t _ => sPrj b nn nr nt cc t)).2.1) (tI ((w.2.2.2.1) (gh 53 0)) (40 * (nr : Int) + 1)) (thn (f, h, 0) (fun t _ => sPrj b nn nr nt cc t)).2.2) ∧ (zIf (thn (f, h, 0) (fun t _ => sPrj b nn nr nt cc t)).1 (frM M (AI (gh 53 0)) ((w.2.2.2.1) (gh 53 0)))) ∧ (zIf (thn (f, h, 0) (fun t _ => sPrj b nn nr nt cc t)).1 (mPrj b nn nr nt h ((w.2.2.2.1) (gh 53 0)) M)) ∧ (∀ b, b ≠ gh 53 0 → (w.2.2.2.1) b = AI b))) := by
  refine gStart (cc := cX7_projectTold) (maxL := 3) (ret := none) (by decide) rfl (Nat.le_of_ble_eq_true rfl) ?_
  intro p e s m below meth c ls F hr hlk hH hz hS hl
  have hl : lv_has ls 3 [(0, .ref mo)] := hl
  have hS : va_S (gA g) s.heap s.heap [] := hS
  obtain ⟨H, hHe⟩ : ∃ H : Heap, H = s.heap := ⟨_, rfl⟩
  obtain ⟨locs, hlo⟩ : ∃ k : List Loc, k = [] := ⟨_, rfl⟩
  have hH : gH g I R J AI AJ AR H := by rw [hHe]; exact hH
  have hS : va_S (gA g) s.heap H locs := by rw [hHe, hlo]; exact hS
  suffices hw : W p l e rmX7_projectToldg s m ([.ref mo] : List Value).toArray below meth c H locs 0 0 (MQ below (gQv g (fun w : gS => R = w.2.1 ∧ AJ = w.2.2.2.2.1 ∧ AR = w.2.2.2.2.2 ∧ (mInv g gh R (w.1) (w.2.2.2.1)) ∧ ((w.2.2.2.1) (gh 50 0) = T) ∧ (qF mo I (w.1)) ∧ (((w.1) mo 20).toInt ≤ 936 ∧ (I mo 24).toInt ≤ ((w.1) mo 24).toInt) ∧ (((w.1) mo 24).toInt = 0 → ((w.1) mo 21).toInt = 4 → ((w.1) mo 23).toInt = 59 → rowOK ((w.2.2.2.1) (gh 53 0)) M) ∧ (((w.1) mo 24).toInt = 0 → tI ((w.2.2.2.1) (gh 53 0)) (40 * M) = 2) ∧ (mQ gh (w.1) (w.2.2.1) (w.2.2.2.1) AJ mo b nn nr nt cc (thn (f, h, 0) (fun t _ => sPrj b nn nr nt cc t)).1 (thn (f, h, 0) (fun t _ => sPrj b nn nr nt cc t)).2.1) ∧ (pIc (thn (f, h, 0) (fun t _ => sPrj b nn nr nt cc t)).1 (pK b nn (thn (f, h, 0) (fun t _ => sPrj b nn nr nt cc t)).2.1) (tI ((w.2.2.2.1) (gh 53 0)) (40 * (nr : Int) + 1)) (thn (f, h, 0) (fun t _ => sPrj b nn nr nt cc t)).2.2) ∧ (zIf (thn (f, h, 0) (fun t _ => sPrj b nn nr nt cc t)).1 (frM M (AI (gh 53 0)) ((w.2.2.2.1) (gh 53 0)))) ∧ (zIf (thn (f, h, 0) (fun t _ => sPrj b nn nr nt cc t)).1 (mPrj b nn nr nt h ((w.2.2.2.1) (gh 53 0)) M)) ∧ (∀ b, b ≠ gh 53 0 → (w.2.2.2.1) b = AI b))) ([.ref mo] : List Value).toArray s 0 0 (gA g)) (F0 m 0 ls []) by
    rw [hHe, hlo] at hw; exact hw
  clear hHe hlo
  have pf : qF mo I I := qF_r
  have hb0 := mJ hv hm
  unfold mNum1 at hb0
  have hfr : frM M (AI (gh 53 0)) (AI (gh 53 0)) := frM_r
  have hf0 := mQ_p hQ
  by_cases q0 : f = 0
  · have hQ := mQ_ok hQ q0
    have hz0 := mQ_0 hQ rfl
    refine lv_aload_n F.1 F.2.1 dX7_projectTold_0 rfl (lv_at hl 0 rfl) ?_
    have b_1 := mJ hv hm
    unfold mNum1 at b_1
    refine g_calli (g_runV (As := []) (rest := []) (ci := 7) F hl.1 hH hS hz (c_X7_relationg l g gh T b nn nr nt cc 0 h I R J AI AJ AR mo hv hm hT (by omega) h65 hbM hr7 (by omega) hn9 (by omega) hQ) (cwV 0 F.2.2.2.2.1 (good_up gT_X7_relation) rfl rfl rfl hdX7_relation ⟨Nat.le_of_ble_eq_true rfl, Nat.le_of_ble_eq_true rfl⟩) hm (by decide) rfl rfl rfl (Nat.le_of_ble_eq_true rfl) dX7_projectTold_1 ⟨Nat.zero_le _, Nat.zero_le _⟩) hS (fun v_8 I_2 R_3 J_4 AI_5 AJ_6 AR_7 H locs zv_8 hp_9 hH hS => ?_)
    dsimp only at hp_9
    obtain ⟨r_10, er_10⟩ : ∃ qQ : pR, qQ = thn (0, h, 0) (fun t _ => sRl b nn nr nt cc t) := ⟨_, rfl⟩
    rw [← er_10] at hp_9
    obtain ⟨rfl, rfl, rfl, rfl, hv, pfq, q_11, q_12, hQ, q_13, q_14⟩ := hp_9
    have pf := qF_t pf pfq
    have u_15_2 : (I_2 mo 2).toInt = (I mo 2).toInt := by rw [pf 2 (by decide) (by decide) (by decide) (by decide) (by decide)]
    have u_15_5 : (I_2 mo 5).toInt = (I mo 5).toInt := by rw [pf 5 (by decide) (by decide) (by decide) (by decide) (by decide)]
    have u_15_14 : (I_2 mo 14).toInt = (I mo 14).toInt := by rw [pf 14 (by decide) (by decide) (by decide) (by decide) (by decide)]
    have u_15_16 : (I_2 mo 16).toInt = (I mo 16).toInt := by rw [pf 16 (by decide) (by decide) (by decide) (by decide) (by decide)]
    have u_15_18 : (I_2 mo 18).toInt = (I mo 18).toInt := by rw [pf 18 (by decide) (by decide) (by decide) (by decide) (by decide)]
    have er_10 : r_10 = sRl b nn nr nt cc h := er_10
    have sr_10 := er_10
    rcases sRl_c er_10 with ⟨er_10, pr_10⟩ | ⟨er_10, pr_10⟩
    · have hQ : mQ gh I_2 J_4 AI AJ mo b nn nr nt cc 0 (h + 1) := by rw [er_10] at hQ; exact hQ
      have sr_10 : sRl b nn nr nt cc h = (0, h + 1, cF b nn nr nt cc h) := sr_10.symm.trans er_10
      have vlr_10 := q_13 (by rw [er_10])
      try rw [er_10] at vlr_10
      try dsimp only at vlr_10
      replace q_12 := (⟨q_12.1, q_12.2.1, q_12.2.2 (mQ_0 hQ rfl)⟩ : _ ∧ _ ∧ _)
      have vfr_10 := q_14 (by rw [er_10])
      try rw [er_10] at vfr_10
      try dsimp only at vfr_10
      obtain ⟨f0, ef0⟩ : ∃ q, q = (I_2 mo 24).toInt := ⟨_, rfl⟩
      have hr1 : Hid (f0 = 0 → v_8 < M) := fun h9 => by omega
      refine lv_istore_n (lv' := [(1, .int (iI v_8)), (0, .ref mo)]) F.1 F.2.1 dX7_projectTold_4 rfl hl (by decide) rfl (fun ls hl => ?_)
      refine lv_aload_n F.1 F.2.1 dX7_projectTold_5 rfl (lv_at hl 1 rfl) ?_
      refine lv_aload_n F.1 F.2.1 dX7_projectTold_6 rfl (lv_at hl 1 rfl) ?_
      refine lv_iload_n F.1 F.2.1 dX7_projectTold_7 rfl (lv_at hl 0 rfl) ?_
      have b_17 := mJ hv hm
      unfold mNum1 at b_17
      refine g_calli (g_runV (As := [.int (iI v_8)]) (rest := [.ref mo]) (ci := 7) F hl.1 hH hS hz (c_X7_columns l g gh T I_2 R J_4 AI AJ AR mo v_8 zv_8 hv hm hT (by omega)) (cwV 1 F.2.2.2.2.1 (good_up gT_X7_columns) rfl rfl rfl hdX7_columns ⟨Nat.le_of_ble_eq_true rfl, Nat.le_of_ble_eq_true rfl⟩) hm (by decide) rfl rfl rfl (Nat.le_of_ble_eq_true rfl) dX7_projectTold_8 ⟨Nat.zero_le _, Nat.zero_le _⟩) hS (fun v_24 I_18 R_19 J_20 AI_21 AJ_22 AR_23 H locs zv_24 hp_25 hH hS => ?_)
      dsimp only at hp_25
      obtain ⟨rfl, rfl, rfl, rfl, rfl, rfl, q_16⟩ := hp_25
      have cvv_24 : v_24 = cF b nn nr nt cc h := q_16.trans ((mQ_c hQ rfl vlr_10.1 vlr_10.2.1).trans vlr_10.2.2)
      refine z_iconst F dX7_projectTold_11 ?_
      refine g_calli (g_runV (As := [.int (iI v_24), .int (iI 0)]) (rest := []) (ci := 7) F hl.1 hH hS hz (c_X7_termsToldg l g gh T M b nn nr nt cc 0 (h + 1) I_2 R J_4 AI AJ AR mo v_24 0 zv_24 ⟨by decide, by decide⟩ hv hm hT (by omega) (by omega) (by omega) (by omega) h65 hbM hr7 (by omega) hn9 (by omega) hQ) (cwV 2 F.2.2.2.2.1 (good_up gT_X7_termsTold) rfl rfl rfl hdX7_termsTold ⟨Nat.le_of_ble_eq_true rfl, Nat.le_of_ble_eq_true rfl⟩) hm (by decide) rfl rfl rfl (Nat.le_of_ble_eq_true rfl) dX7_projectTold_12 ⟨Nat.zero_le _, Nat.zero_le _⟩) hS (fun v_32 I_26 R_27 J_28 AI_29 AJ_30 AR_31 H locs zv_32 hp_33 hH hS => ?_)
      dsimp only at hp_33
      rw [show v_24 = cF b nn nr nt cc h by omega] at hp_33
      obtain ⟨r_34, er_34⟩ : ∃ qQ : pR, qQ = thn (0, (h + 1), 0) (fun t _ => sTerms b nn (cF b nn nr nt cc h) 5 0 t) := ⟨_, rfl⟩
      rw [← er_34] at hp_33
      obtain ⟨rfl, rfl, rfl, hv, hT, pfq, q_35, q_36, htt, hQ, q_37, tmq, q_38⟩ := hp_33
      have pf := qF_t pf pfq
      have u_39_2 : (I_26 mo 2).toInt = (I mo 2).toInt := by rw [pf 2 (by decide) (by decide) (by decide) (by decide) (by decide)]
      have u_39_5 : (I_26 mo 5).toInt = (I mo 5).toInt := by rw [pf 5 (by decide) (by decide) (by decide) (by decide) (by decide)]
      have u_39_14 : (I_26 mo 14).toInt = (I mo 14).toInt := by rw [pf 14 (by decide) (by decide) (by decide) (by decide) (by decide)]
      have u_39_16 : (I_26 mo 16).toInt = (I mo 16).toInt := by rw [pf 16 (by decide) (by decide) (by decide) (by decide) (by decide)]
      have u_39_18 : (I_26 mo 18).toInt = (I mo 18).toInt := by rw [pf 18 (by decide) (by decide) (by decide) (by decide) (by decide)]
      have er_34 : r_34 = sTerms b nn (cF b nn nr nt cc h) 5 0 (h + 1) := er_34
      by_cases pr_34 : r_34.1 = 0
      · have hQ := mQ_ok hQ pr_34
        have vlr_34_7 := q_37 pr_34
        have vlr_34_8 := tmq pr_34
        replace htt := hid htt
        have tm9 := vlr_34_8
        have hqa := tm9.1
        have hnz := tm9.2
        clear tm9
        have hfr := frM_f (by decide) hfr (htt (mQ_0 hQ rfl)).2.2.2
        refine lv_istore_n (lv' := [(2, .int (iI v_32)), (1, .int (iI v_8)), (0, .ref mo)]) F.1 F.2.1 dX7_projectTold_15 rfl hl (by decide) rfl (fun ls hl => ?_)
        refine lv_aload_n F.1 F.2.1 dX7_projectTold_16 rfl (lv_at hl 2 rfl) ?_
        refine z_iconst F dX7_projectTold_17 ?_
        refine lv_iload_n F.1 F.2.1 dX7_projectTold_18 rfl (lv_at hl 0 rfl) ?_
        refine lv_iload_n F.1 F.2.1 dX7_projectTold_19 rfl (lv_at hl 1 rfl) ?_
        refine z_iconst F dX7_projectTold_20 ?_
        refine lv_iload_n F.1 F.2.1 dX7_projectTold_21 rfl (lv_at hl 0 rfl) ?_
        have b_40 := mJ hv hm
        unfold mNum1 at b_40
        refine g_callv (g_runV (As := [.int (iI 2), .int (iI v_32), .int (iI v_8), .int (iI ((-1))), .int (iI v_32)]) (rest := []) (ci := 7) F hl.1 hH hS hz (c_X7_headerg l g gh T M I_26 R J_28 AI_29 AJ AR mo 2 v_32 v_8 (-1) v_32 ⟨by decide, by decide⟩ zv_32 zv_8 ⟨by decide, by decide⟩ zv_32 hv hm hT (by omega) (by omega)) (cwV 5 F.2.2.2.2.1 (good_up gT_X7_header) rfl rfl rfl hdX7_header ⟨Nat.le_of_ble_eq_true rfl, Nat.le_of_ble_eq_true rfl⟩) hm (by decide) rfl rfl rfl (Nat.le_of_ble_eq_true rfl) dX7_projectTold_22 ⟨Nat.zero_le _, Nat.zero_le _⟩) hS (fun I_41 R_42 J_43 AI_44 AJ_45 AR_46 H locs hp_47 hH hS => ?_)
        dsimp only at hp_47
        obtain ⟨rfl, rfl, rfl, rfl, rfl, hv, hT, hhd, q_48⟩ := hp_47
        replace hhd := hid hhd
        have hQ : mQ gh I_26 J_28 AI_44 AJ mo b nn nr nt cc 0 r_34.2.1 := mQ_a hQ (fun hf9 z9 h09 h19 => (hhd hf9).1 z9 h09 (Or.inl (by omega)))
        have hfr := frM_h hfr (hhd (mQ_0 hQ rfl))
        have hqa := rAll_h rTerm_l (by omega) (Int.le_refl 0) (hhd (mQ_0 hQ rfl)) hqa
        have hfin : thn (f, h, 0) (fun t _ => sPrj b nn nr nt cc t) = (0, r_34.2.1, r_34.2.2) := by
          refine (thn_k q0).trans ?_
          show sPrj b nn nr nt cc h = _
          unfold sPrj
          repeat (first | with_reducible rfl | refine ite_y (by omega) ?_ | refine ite_n (by omega) ?_ | refine thn_t sr_10 (by first | rfl | omega) ?_ | exact (thn_x sr_10.symm (by omega)).trans (pr_e (by omega) (by omega) (by omega)) | exact er_34.symm.trans (pr_x pr_34) | refine thn_y (r := r_34) (by first | exact er_34 | exact er_34.symm) (by first | omega | rfl) ?_ | exact pr_e (by omega) (by omega) (by omega) | refine ite_y (pCf_ok (by omega) (by omega)) ?_ | refine ite_n (fun e9 => absurd (pCf_0 e9) (by omega)) ?_ | exact pr_e (pCf_no (by omega)) (by omega) (by omega) | exact pr_e (pCf_big (by omega) (by omega)) (by omega) (by omega))
        exact g_vret F hr hlk hH hS hz ⟨rfl, rfl, rfl, hv, hT, pf, by first | (dsimp only; omega) | omega | rfl, by (try dsimp only); intro hf ht hn; have q9 := htt (by omega); exact row_mk (by omega) (hhd (by omega)) (by omega) (by omega) (by omega) (by omega) (fun h => absurd h (by omega)) (fun h => absurd h (by omega)) (fun _ => ⟨by omega, q9.2.2.1⟩) (fun h => absurd h (by omega)) (fun h => absurd h (by omega)) (fun h => absurd h (by omega)) (fun h => absurd h (by omega)), by (try dsimp only); intro hf; exact (hhd (by omega)).2.1, by (try dsimp only); rw [hfin]; exact hQ, by (try dsimp only); rw [hfin]; have q9 := (hhd (mQ_0 hQ rfl)).2.2.1; rw [show M = (nr : Int) by omega] at q9; (try dsimp only); exact pIc_y (by omega), by (try dsimp only); rw [hfin]; exact zIf_y (hfr), by (try dsimp only); rw [hfin]; exact zIf_y (⟨⟨(hhd (mQ_0 hQ rfl)).2.2.2.1.trans vfr_10, (hhd (mQ_0 hQ rfl)).2.2.2.2.1⟩, (hhd (mQ_0 hQ rfl)).2.2.2.2.2.trans (by omega), hqa⟩), fun b hb => (q_48 b hb).trans (q_38 b hb)⟩ dX7_projectTold_25
      · have g9r_34 := mQ_f hQ pr_34
        have g8r_34 := mQ_p hQ
        replace htt := hid htt
        refine lv_istore_n (lv' := [(2, .int (iI v_32)), (1, .int (iI v_8)), (0, .ref mo)]) F.1 F.2.1 dX7_projectTold_15 rfl hl (by decide) rfl (fun ls hl => ?_)
        refine lv_aload_n F.1 F.2.1 dX7_projectTold_16 rfl (lv_at hl 2 rfl) ?_
        refine z_iconst F dX7_projectTold_17 ?_
        refine lv_iload_n F.1 F.2.1 dX7_projectTold_18 rfl (lv_at hl 0 rfl) ?_
        refine lv_iload_n F.1 F.2.1 dX7_projectTold_19 rfl (lv_at hl 1 rfl) ?_
        refine z_iconst F dX7_projectTold_20 ?_
        refine lv_iload_n F.1 F.2.1 dX7_projectTold_21 rfl (lv_at hl 0 rfl) ?_
        have b_49 := mJ hv hm
        unfold mNum1 at b_49
        refine g_callv (g_runV (As := [.int (iI 2), .int (iI v_32), .int (iI v_8), .int (iI ((-1))), .int (iI v_32)]) (rest := []) (ci := 7) F hl.1 hH hS hz (c_X7_headerg l g gh T M I_26 R J_28 AI_29 AJ AR mo 2 v_32 v_8 (-1) v_32 ⟨by decide, by decide⟩ zv_32 zv_8 ⟨by decide, by decide⟩ zv_32 hv hm hT (by omega) (by omega)) (cwV 5 F.2.2.2.2.1 (good_up gT_X7_header) rfl rfl rfl hdX7_header ⟨Nat.le_of_ble_eq_true rfl, Nat.le_of_ble_eq_true rfl⟩) hm (by decide) rfl rfl rfl (Nat.le_of_ble_eq_true rfl) dX7_projectTold_22 ⟨Nat.zero_le _, Nat.zero_le _⟩) hS (fun I_50 R_51 J_52 AI_53 AJ_54 AR_55 H locs hp_56 hH hS => ?_)
        dsimp only at hp_56
        obtain ⟨rfl, rfl, rfl, rfl, rfl, hv, hT, hhd, q_57⟩ := hp_56
        replace hhd := hid hhd
        have hQ : mQ gh I_26 J_28 AI_53 AJ mo b nn nr nt cc r_34.1 r_34.2.1 := mQ_bad hQ (by omega) rfl
        have hfin : thn (f, h, 0) (fun t _ => sPrj b nn nr nt cc t) = r_34 := by
          refine (thn_k q0).trans ?_
          show sPrj b nn nr nt cc h = _
          unfold sPrj
          repeat (first | with_reducible rfl | refine ite_y (by omega) ?_ | refine ite_n (by omega) ?_ | exact er_34.symm | exact thn_x er_34 (by omega) | refine thn_t sr_10 (by first | rfl | omega) ?_ | exact (thn_x sr_10.symm (by omega)).trans (pr_e (by omega) (by omega) (by omega)) | exact pr_e (by omega) (by omega) (by omega) | refine ite_y (pCf_ok (by omega) (by omega)) ?_ | refine ite_n (fun e9 => absurd (pCf_0 e9) (by omega)) ?_ | exact pr_e (pCf_no (by omega)) (by omega) (by omega) | exact pr_e (pCf_big (by omega) (by omega)) (by omega) (by omega))
        exact g_vret F hr hlk hH hS hz ⟨rfl, rfl, rfl, hv, hT, pf, by first | (dsimp only; omega) | omega | rfl, by (try dsimp only); exact (fun hf => absurd hf (by omega)), by (try dsimp only); exact (fun hf => absurd hf (by omega)), by (try dsimp only); rw [hfin]; exact hQ, by (try dsimp only); rw [hfin]; exact pIc_n (by omega), by (try dsimp only); rw [hfin]; exact zIf_n (by omega), by (try dsimp only); rw [hfin]; exact zIf_n (by omega), fun b hb => (q_57 b hb).trans (q_38 b hb)⟩ dX7_projectTold_25
    · have hQ : mQ gh I_2 J_4 AI AJ mo b nn nr nt cc (pRf b nn nt nr h) h := by rw [er_10] at hQ; exact hQ
      have sr_10 := sr_10.symm.trans er_10
      have g9r_10 := mQ_f hQ (by omega)
      replace q_12 := (⟨q_12.1, q_12.2.1⟩ : _ ∧ _)
      obtain ⟨f0, ef0⟩ : ∃ q, q = (I_2 mo 24).toInt := ⟨_, rfl⟩
      have hr1 : Hid (f0 = 0 → v_8 < M) := fun h9 => by omega
      refine lv_istore_n (lv' := [(1, .int (iI v_8)), (0, .ref mo)]) F.1 F.2.1 dX7_projectTold_4 rfl hl (by decide) rfl (fun ls hl => ?_)
      refine lv_aload_n F.1 F.2.1 dX7_projectTold_5 rfl (lv_at hl 1 rfl) ?_
      refine lv_aload_n F.1 F.2.1 dX7_projectTold_6 rfl (lv_at hl 1 rfl) ?_
      refine lv_iload_n F.1 F.2.1 dX7_projectTold_7 rfl (lv_at hl 0 rfl) ?_
      have b_59 := mJ hv hm
      unfold mNum1 at b_59
      refine g_calli (g_runV (As := [.int (iI v_8)]) (rest := [.ref mo]) (ci := 7) F hl.1 hH hS hz (c_X7_columns l g gh T I_2 R J_4 AI AJ AR mo v_8 zv_8 hv hm hT (by omega)) (cwV 1 F.2.2.2.2.1 (good_up gT_X7_columns) rfl rfl rfl hdX7_columns ⟨Nat.le_of_ble_eq_true rfl, Nat.le_of_ble_eq_true rfl⟩) hm (by decide) rfl rfl rfl (Nat.le_of_ble_eq_true rfl) dX7_projectTold_8 ⟨Nat.zero_le _, Nat.zero_le _⟩) hS (fun v_66 I_60 R_61 J_62 AI_63 AJ_64 AR_65 H locs zv_66 hp_67 hH hS => ?_)
      dsimp only at hp_67
      obtain ⟨rfl, rfl, rfl, rfl, rfl, rfl, q_58⟩ := hp_67
      refine z_iconst F dX7_projectTold_11 ?_
      refine g_calli (g_runV (As := [.int (iI v_66), .int (iI 0)]) (rest := []) (ci := 7) F hl.1 hH hS hz (c_X7_termsToldg l g gh T M b nn nr nt cc (pRf b nn nt nr h) h I_2 R J_4 AI AJ AR mo v_66 0 zv_66 ⟨by decide, by decide⟩ hv hm hT (by omega) (by omega) (by omega) (by omega) h65 hbM hr7 (by omega) hn9 (by omega) hQ) (cwV 2 F.2.2.2.2.1 (good_up gT_X7_termsTold) rfl rfl rfl hdX7_termsTold ⟨Nat.le_of_ble_eq_true rfl, Nat.le_of_ble_eq_true rfl⟩) hm (by decide) rfl rfl rfl (Nat.le_of_ble_eq_true rfl) dX7_projectTold_12 ⟨Nat.zero_le _, Nat.zero_le _⟩) hS (fun v_74 I_68 R_69 J_70 AI_71 AJ_72 AR_73 H locs zv_74 hp_75 hH hS => ?_)
      dsimp only at hp_75
      obtain ⟨r_76, er_76⟩ : ∃ qQ : pR, qQ = thn ((pRf b nn nt nr h), h, 0) (fun t _ => sTerms b nn v_66 5 0 t) := ⟨_, rfl⟩
      rw [← er_76] at hp_75
      obtain ⟨rfl, rfl, rfl, hv, hT, pfq, q_77, q_78, htt, hQ, q_79, tmq, q_80⟩ := hp_75
      have pf := qF_t pf pfq
      have u_81_2 : (I_68 mo 2).toInt = (I mo 2).toInt := by rw [pf 2 (by decide) (by decide) (by decide) (by decide) (by decide)]
      have u_81_5 : (I_68 mo 5).toInt = (I mo 5).toInt := by rw [pf 5 (by decide) (by decide) (by decide) (by decide) (by decide)]
      have u_81_14 : (I_68 mo 14).toInt = (I mo 14).toInt := by rw [pf 14 (by decide) (by decide) (by decide) (by decide) (by decide)]
      have u_81_16 : (I_68 mo 16).toInt = (I mo 16).toInt := by rw [pf 16 (by decide) (by decide) (by decide) (by decide) (by decide)]
      have u_81_18 : (I_68 mo 18).toInt = (I mo 18).toInt := by rw [pf 18 (by decide) (by decide) (by decide) (by decide) (by decide)]
      rw [thn_b (by omega)] at er_76
      have hQ : mQ gh I_68 J_70 AI_71 AJ mo b nn nr nt cc (pRf b nn nt nr h) h := by rw [er_76] at hQ; exact hQ
      replace htt := hid htt
      refine lv_istore_n (lv' := [(2, .int (iI v_74)), (1, .int (iI v_8)), (0, .ref mo)]) F.1 F.2.1 dX7_projectTold_15 rfl hl (by decide) rfl (fun ls hl => ?_)
      refine lv_aload_n F.1 F.2.1 dX7_projectTold_16 rfl (lv_at hl 2 rfl) ?_
      refine z_iconst F dX7_projectTold_17 ?_
      refine lv_iload_n F.1 F.2.1 dX7_projectTold_18 rfl (lv_at hl 0 rfl) ?_
      refine lv_iload_n F.1 F.2.1 dX7_projectTold_19 rfl (lv_at hl 1 rfl) ?_
      refine z_iconst F dX7_projectTold_20 ?_
      refine lv_iload_n F.1 F.2.1 dX7_projectTold_21 rfl (lv_at hl 0 rfl) ?_
      have b_82 := mJ hv hm
      unfold mNum1 at b_82
      refine g_callv (g_runV (As := [.int (iI 2), .int (iI v_74), .int (iI v_8), .int (iI ((-1))), .int (iI v_74)]) (rest := []) (ci := 7) F hl.1 hH hS hz (c_X7_headerg l g gh T M I_68 R J_70 AI_71 AJ AR mo 2 v_74 v_8 (-1) v_74 ⟨by decide, by decide⟩ zv_74 zv_8 ⟨by decide, by decide⟩ zv_74 hv hm hT (by omega) (by omega)) (cwV 5 F.2.2.2.2.1 (good_up gT_X7_header) rfl rfl rfl hdX7_header ⟨Nat.le_of_ble_eq_true rfl, Nat.le_of_ble_eq_true rfl⟩) hm (by decide) rfl rfl rfl (Nat.le_of_ble_eq_true rfl) dX7_projectTold_22 ⟨Nat.zero_le _, Nat.zero_le _⟩) hS (fun I_83 R_84 J_85 AI_86 AJ_87 AR_88 H locs hp_89 hH hS => ?_)
      dsimp only at hp_89
      obtain ⟨rfl, rfl, rfl, rfl, rfl, hv, hT, hhd, q_90⟩ := hp_89
      replace hhd := hid hhd
      have hQ : mQ gh I_68 J_70 AI_86 AJ mo b nn nr nt cc (pRf b nn nt nr h) h := mQ_bad hQ (by omega) rfl
      have hfin : thn (f, h, 0) (fun t _ => sPrj b nn nr nt cc t) = (pRf b nn nt nr h, h, 0) := by
        refine (thn_k q0).trans ?_
        show sPrj b nn nr nt cc h = _
        unfold sPrj
        repeat (first | with_reducible rfl | refine ite_y (by omega) ?_ | refine ite_n (by omega) ?_ | refine thn_t sr_10 (by first | rfl | omega) ?_ | exact (thn_x sr_10.symm (by omega)).trans (pr_e (by omega) (by omega) (by omega)) | exact pr_e (by omega) (by omega) (by omega) | refine ite_y (pCf_ok (by omega) (by omega)) ?_ | refine ite_n (fun e9 => absurd (pCf_0 e9) (by omega)) ?_ | exact pr_e (pCf_no (by omega)) (by omega) (by omega) | exact pr_e (pCf_big (by omega) (by omega)) (by omega) (by omega))
      exact g_vret F hr hlk hH hS hz ⟨rfl, rfl, rfl, hv, hT, pf, by first | (dsimp only; omega) | omega | rfl, by (try dsimp only); exact (fun hf => absurd hf (by omega)), by (try dsimp only); exact (fun hf => absurd hf (by omega)), by (try dsimp only); rw [hfin]; exact hQ, by (try dsimp only); rw [hfin]; exact pIc_n (by omega), by (try dsimp only); rw [hfin]; exact zIf_n (by omega), by (try dsimp only); rw [hfin]; exact zIf_n (by omega), fun b hb => (q_90 b hb).trans (q_80 b hb)⟩ dX7_projectTold_25
  · have hf1 := mQ_f hQ q0
    refine lv_aload_n F.1 F.2.1 dX7_projectTold_0 rfl (lv_at hl 0 rfl) ?_
    have b_91 := mJ hv hm
    unfold mNum1 at b_91
    refine g_calli (g_runV (As := []) (rest := []) (ci := 7) F hl.1 hH hS hz (c_X7_relationg l g gh T b nn nr nt cc f h I R J AI AJ AR mo hv hm hT (by omega) h65 hbM hr7 (by omega) hn9 (by omega) hQ) (cwV 0 F.2.2.2.2.1 (good_up gT_X7_relation) rfl rfl rfl hdX7_relation ⟨Nat.le_of_ble_eq_true rfl, Nat.le_of_ble_eq_true rfl⟩) hm (by decide) rfl rfl rfl (Nat.le_of_ble_eq_true rfl) dX7_projectTold_1 ⟨Nat.zero_le _, Nat.zero_le _⟩) hS (fun v_98 I_92 R_93 J_94 AI_95 AJ_96 AR_97 H locs zv_98 hp_99 hH hS => ?_)
    dsimp only at hp_99
    obtain ⟨r_100, er_100⟩ : ∃ qQ : pR, qQ = thn (f, h, 0) (fun t _ => sRl b nn nr nt cc t) := ⟨_, rfl⟩
    rw [← er_100] at hp_99
    obtain ⟨rfl, rfl, rfl, rfl, hv, pfq, q_101, q_102, hQ, q_103, q_104⟩ := hp_99
    have pf := qF_t pf pfq
    have u_105_2 : (I_92 mo 2).toInt = (I mo 2).toInt := by rw [pf 2 (by decide) (by decide) (by decide) (by decide) (by decide)]
    have u_105_5 : (I_92 mo 5).toInt = (I mo 5).toInt := by rw [pf 5 (by decide) (by decide) (by decide) (by decide) (by decide)]
    have u_105_14 : (I_92 mo 14).toInt = (I mo 14).toInt := by rw [pf 14 (by decide) (by decide) (by decide) (by decide) (by decide)]
    have u_105_16 : (I_92 mo 16).toInt = (I mo 16).toInt := by rw [pf 16 (by decide) (by decide) (by decide) (by decide) (by decide)]
    have u_105_18 : (I_92 mo 18).toInt = (I mo 18).toInt := by rw [pf 18 (by decide) (by decide) (by decide) (by decide) (by decide)]
    rw [thn_b (by omega)] at er_100
    have hQ : mQ gh I_92 J_94 AI AJ mo b nn nr nt cc f h := by rw [er_100] at hQ; exact hQ
    replace q_102 := (⟨q_102.1, q_102.2.1⟩ : _ ∧ _)
    obtain ⟨f0, ef0⟩ : ∃ q, q = (I_92 mo 24).toInt := ⟨_, rfl⟩
    have hr1 : Hid (f0 = 0 → v_98 < M) := fun h9 => by omega
    refine lv_istore_n (lv' := [(1, .int (iI v_98)), (0, .ref mo)]) F.1 F.2.1 dX7_projectTold_4 rfl hl (by decide) rfl (fun ls hl => ?_)
    refine lv_aload_n F.1 F.2.1 dX7_projectTold_5 rfl (lv_at hl 1 rfl) ?_
    refine lv_aload_n F.1 F.2.1 dX7_projectTold_6 rfl (lv_at hl 1 rfl) ?_
    refine lv_iload_n F.1 F.2.1 dX7_projectTold_7 rfl (lv_at hl 0 rfl) ?_
    have b_107 := mJ hv hm
    unfold mNum1 at b_107
    refine g_calli (g_runV (As := [.int (iI v_98)]) (rest := [.ref mo]) (ci := 7) F hl.1 hH hS hz (c_X7_columns l g gh T I_92 R J_94 AI AJ AR mo v_98 zv_98 hv hm hT (by omega)) (cwV 1 F.2.2.2.2.1 (good_up gT_X7_columns) rfl rfl rfl hdX7_columns ⟨Nat.le_of_ble_eq_true rfl, Nat.le_of_ble_eq_true rfl⟩) hm (by decide) rfl rfl rfl (Nat.le_of_ble_eq_true rfl) dX7_projectTold_8 ⟨Nat.zero_le _, Nat.zero_le _⟩) hS (fun v_114 I_108 R_109 J_110 AI_111 AJ_112 AR_113 H locs zv_114 hp_115 hH hS => ?_)
    dsimp only at hp_115
    obtain ⟨rfl, rfl, rfl, rfl, rfl, rfl, q_106⟩ := hp_115
    refine z_iconst F dX7_projectTold_11 ?_
    refine g_calli (g_runV (As := [.int (iI v_114), .int (iI 0)]) (rest := []) (ci := 7) F hl.1 hH hS hz (c_X7_termsToldg l g gh T M b nn nr nt cc f h I_92 R J_94 AI AJ AR mo v_114 0 zv_114 ⟨by decide, by decide⟩ hv hm hT (by omega) (by omega) (by omega) (by omega) h65 hbM hr7 (by omega) hn9 (by omega) hQ) (cwV 2 F.2.2.2.2.1 (good_up gT_X7_termsTold) rfl rfl rfl hdX7_termsTold ⟨Nat.le_of_ble_eq_true rfl, Nat.le_of_ble_eq_true rfl⟩) hm (by decide) rfl rfl rfl (Nat.le_of_ble_eq_true rfl) dX7_projectTold_12 ⟨Nat.zero_le _, Nat.zero_le _⟩) hS (fun v_122 I_116 R_117 J_118 AI_119 AJ_120 AR_121 H locs zv_122 hp_123 hH hS => ?_)
    dsimp only at hp_123
    obtain ⟨r_124, er_124⟩ : ∃ qQ : pR, qQ = thn (f, h, 0) (fun t _ => sTerms b nn v_114 5 0 t) := ⟨_, rfl⟩
    rw [← er_124] at hp_123
    obtain ⟨rfl, rfl, rfl, hv, hT, pfq, q_125, q_126, htt, hQ, q_127, tmq, q_128⟩ := hp_123
    have pf := qF_t pf pfq
    have u_129_2 : (I_116 mo 2).toInt = (I mo 2).toInt := by rw [pf 2 (by decide) (by decide) (by decide) (by decide) (by decide)]
    have u_129_5 : (I_116 mo 5).toInt = (I mo 5).toInt := by rw [pf 5 (by decide) (by decide) (by decide) (by decide) (by decide)]
    have u_129_14 : (I_116 mo 14).toInt = (I mo 14).toInt := by rw [pf 14 (by decide) (by decide) (by decide) (by decide) (by decide)]
    have u_129_16 : (I_116 mo 16).toInt = (I mo 16).toInt := by rw [pf 16 (by decide) (by decide) (by decide) (by decide) (by decide)]
    have u_129_18 : (I_116 mo 18).toInt = (I mo 18).toInt := by rw [pf 18 (by decide) (by decide) (by decide) (by decide) (by decide)]
    rw [thn_b (by omega)] at er_124
    have hQ : mQ gh I_116 J_118 AI_119 AJ mo b nn nr nt cc f h := by rw [er_124] at hQ; exact hQ
    replace htt := hid htt
    refine lv_istore_n (lv' := [(2, .int (iI v_122)), (1, .int (iI v_98)), (0, .ref mo)]) F.1 F.2.1 dX7_projectTold_15 rfl hl (by decide) rfl (fun ls hl => ?_)
    refine lv_aload_n F.1 F.2.1 dX7_projectTold_16 rfl (lv_at hl 2 rfl) ?_
    refine z_iconst F dX7_projectTold_17 ?_
    refine lv_iload_n F.1 F.2.1 dX7_projectTold_18 rfl (lv_at hl 0 rfl) ?_
    refine lv_iload_n F.1 F.2.1 dX7_projectTold_19 rfl (lv_at hl 1 rfl) ?_
    refine z_iconst F dX7_projectTold_20 ?_
    refine lv_iload_n F.1 F.2.1 dX7_projectTold_21 rfl (lv_at hl 0 rfl) ?_
    have b_130 := mJ hv hm
    unfold mNum1 at b_130
    refine g_callv (g_runV (As := [.int (iI 2), .int (iI v_122), .int (iI v_98), .int (iI ((-1))), .int (iI v_122)]) (rest := []) (ci := 7) F hl.1 hH hS hz (c_X7_headerg l g gh T M I_116 R J_118 AI_119 AJ AR mo 2 v_122 v_98 (-1) v_122 ⟨by decide, by decide⟩ zv_122 zv_98 ⟨by decide, by decide⟩ zv_122 hv hm hT (by omega) (by omega)) (cwV 5 F.2.2.2.2.1 (good_up gT_X7_header) rfl rfl rfl hdX7_header ⟨Nat.le_of_ble_eq_true rfl, Nat.le_of_ble_eq_true rfl⟩) hm (by decide) rfl rfl rfl (Nat.le_of_ble_eq_true rfl) dX7_projectTold_22 ⟨Nat.zero_le _, Nat.zero_le _⟩) hS (fun I_131 R_132 J_133 AI_134 AJ_135 AR_136 H locs hp_137 hH hS => ?_)
    dsimp only at hp_137
    obtain ⟨rfl, rfl, rfl, rfl, rfl, hv, hT, hhd, q_138⟩ := hp_137
    replace hhd := hid hhd
    have hQ : mQ gh I_116 J_118 AI_134 AJ mo b nn nr nt cc f h := mQ_bad hQ (by omega) rfl
    have hfin : thn (f, h, 0) (fun t _ => sPrj b nn nr nt cc t) = (f, h, 0) := thn_b q0
    exact g_vret F hr hlk hH hS hz ⟨rfl, rfl, rfl, hv, hT, pf, by first | (dsimp only; omega) | omega | rfl, by (try dsimp only); exact (fun hf => absurd hf (by omega)), by (try dsimp only); exact (fun hf => absurd hf (by omega)), by (try dsimp only); rw [hfin]; exact hQ, by (try dsimp only); rw [hfin]; exact pIc_n (by omega), by (try dsimp only); rw [hfin]; exact zIf_n (by omega), by (try dsimp only); rw [hfin]; exact zIf_n (by omega), fun b hb => (q_138 b hb).trans (q_128 b hb)⟩ dX7_projectTold_25
