def rmX7_bothToldg : Room := { frames := 8, cells := 0, slots := 0, locals := 170 }
set_option maxHeartbeats 4000000 in
set_option maxRecDepth 100000 in
/-- two relations told -/
theorem c_X7_bothToldg (l : Launch) (g : gG) (gh : gGh) (T : Nat → Int32) (M : Int) (b : tTx) (nn nr : Nat) (nt : Nat → Nat) (cc : Nat → Int) (f : Int) (h : Nat) (I : gI) (R : gR) (J : gJ) (AI : gI) (AJ : gJ) (AR : gR) (mo : Nat) (kd : Int) (zkd : zr kd) (hv : mInv g gh R I AI) (hm : gO g mo 7) (hT : AI (gh 50 0) = T) (hE : (I mo 20).toInt ≤ 936) (hM : (I mo 24).toInt = 0 → (I mo 5).toInt ≤ 15) (hMM : (I mo 5).toInt = M) (hkd : kd = 4 ∨ kd = 5) (h65 : gh 9 (gh 65 0) ≠ 5) (hbM : ∀ k : Nat, k < nn → ((gM g).2 (gh 65 0) k).toInt = b k % 256) (hr7 : ∀ k : Nat, -128 ≤ b k ∧ b k ≤ 127) (hsz : (I mo 18).toInt = (nn : Int)) (hn9 : nn ≤ 900) (hm5 : (I mo 5).toInt = (nr : Int)) (hQ : mQ gh I J AI AJ mo b nn nr nt cc f h) : gMet l g yX7_bothTold tsX7_bothTold rmX7_bothToldg [.ref mo, .int (iI kd)] (I, R, J, AI, AJ, AR) (gQv g (fun w : gS => R = w.2.1 ∧ AJ = w.2.2.2.2.1 ∧ AR = w.2.2.2.2.2 ∧ (mInv g gh R (w.1) (w.2.2.2.1)) ∧ ((w.2.2.2.1) (gh 50 0) = T) ∧ (qF mo I (w.1)) ∧ (((w.1) mo 20).toInt ≤ 936 ∧ (I mo 24).toInt ≤ ((w.1) mo 24).toInt) ∧ (((w.1) mo 24).toInt = 0 → ((w.1) mo 21).toInt = 4 → ((w.1) mo 23).toInt = 59 → rowOK ((w.2.2.2.1) (gh 53 0)) M) ∧ (((w.1) mo 24).toInt = 0 → tI ((w.2.2.2.1) (gh 53 0)) (40 * M) = kd) ∧ (mQ gh (w.1) (w.2.2.1) (w.2.2.2.1) AJ mo b nn nr nt cc (thn (f, h, 0) (fun t _ => sTwo b nn nr nt cc t)).1 (thn (f, h, 0) (fun t _ => sTwo b nn nr nt cc t)).2.1) ∧ (pIc (thn (f, h, 0) (fun t _ => sTwo b nn nr nt cc t)).1 (pK b nn (thn (f, h, 0) (fun t _ => sTwo b nn nr nt cc t)).2.1) (tI ((w.2.2.2.1) (gh 53 0)) (40 * (nr : Int) + 1)) (thn (f, h, 0) (fun t _ => sTwo b nn nr nt cc t)).2.2) ∧ (zIf (thn (f, h, 0) (fun t _ => sTwo b nn nr nt cc t)).1 (frM M (AI (gh 53 0)) ((w.2.2.2.1) (gh 53 0)))) ∧ (zIf (thn (f, h, 0) (fun t _ => sTwo b nn nr nt cc t)).1 (mTwo b nn nr nt h ((w.2.2.2.1) (gh 53 0)) M)) ∧ (∀ b, b ≠ gh 53 0 → (w.2.2.2.1) b = AI b))) := by
  refine gStart (cc := cX7_bothTold) (maxL := 4) (ret := none) (by decide) rfl (Nat.le_of_ble_eq_true rfl) ?_
  intro p e s m below meth c ls F hr hlk hH hz hS hl
  have hl : lv_has ls 4 [(0, .ref mo), (1, .int (iI kd))] := hl
  have hS : va_S (gA g) s.heap s.heap [] := hS
  obtain ⟨H, hHe⟩ : ∃ H : Heap, H = s.heap := ⟨_, rfl⟩
  obtain ⟨locs, hlo⟩ : ∃ k : List Loc, k = [] := ⟨_, rfl⟩
  have hH : gH g I R J AI AJ AR H := by rw [hHe]; exact hH
  have hS : va_S (gA g) s.heap H locs := by rw [hHe, hlo]; exact hS
  suffices hw : W p l e rmX7_bothToldg s m ([.ref mo, .int (iI kd)] : List Value).toArray below meth c H locs 0 0 (MQ below (gQv g (fun w : gS => R = w.2.1 ∧ AJ = w.2.2.2.2.1 ∧ AR = w.2.2.2.2.2 ∧ (mInv g gh R (w.1) (w.2.2.2.1)) ∧ ((w.2.2.2.1) (gh 50 0) = T) ∧ (qF mo I (w.1)) ∧ (((w.1) mo 20).toInt ≤ 936 ∧ (I mo 24).toInt ≤ ((w.1) mo 24).toInt) ∧ (((w.1) mo 24).toInt = 0 → ((w.1) mo 21).toInt = 4 → ((w.1) mo 23).toInt = 59 → rowOK ((w.2.2.2.1) (gh 53 0)) M) ∧ (((w.1) mo 24).toInt = 0 → tI ((w.2.2.2.1) (gh 53 0)) (40 * M) = kd) ∧ (mQ gh (w.1) (w.2.2.1) (w.2.2.2.1) AJ mo b nn nr nt cc (thn (f, h, 0) (fun t _ => sTwo b nn nr nt cc t)).1 (thn (f, h, 0) (fun t _ => sTwo b nn nr nt cc t)).2.1) ∧ (pIc (thn (f, h, 0) (fun t _ => sTwo b nn nr nt cc t)).1 (pK b nn (thn (f, h, 0) (fun t _ => sTwo b nn nr nt cc t)).2.1) (tI ((w.2.2.2.1) (gh 53 0)) (40 * (nr : Int) + 1)) (thn (f, h, 0) (fun t _ => sTwo b nn nr nt cc t)).2.2) ∧ (zIf (thn (f, h, 0) (fun t _ => sTwo b nn nr nt cc t)).1 (frM M (AI (gh 53 0)) ((w.2.2.2.1) (gh 53 0)))) ∧ (zIf (thn (f, h, 0) (fun t _ => sTwo b nn nr nt cc t)).1 (mTwo b nn nr nt h ((w.2.2.2.1) (gh 53 0)) M)) ∧ (∀ b, b ≠ gh 53 0 → (w.2.2.2.1) b = AI b))) ([.ref mo, .int (iI kd)] : List Value).toArray s 0 0 (gA g)) (F0 m 0 ls []) by
    rw [hHe, hlo] at hw; exact hw
  clear hHe hlo
  have pf : qF mo I I := qF_r
  have hb0 := mJ hv hm
  unfold mNum1 at hb0
  have hfr : frM M (AI (gh 53 0)) (AI (gh 53 0)) := frM_r
  have iX7 : ∀ w ∈ u_ws RX7 TX7 32, w ∈ tsX7_bothTold := fun w h => List.mem_cons_of_mem _ (inTB7 w h)
  have k81 : Cond.fieldLink RX7 81 (TX7 24).1 (TX7 24).2.1 (TX7 24).2.2.1 ∈ tsX7_bothTold := List.mem_cons_of_mem _ fl_81
  have k94 : Cond.fieldLink RX7 94 (TX7 21).1 (TX7 21).2.1 (TX7 21).2.2.1 ∈ tsX7_bothTold := List.mem_cons_of_mem _ fl_94
  have k111 : Cond.fieldLink RX7 111 (TX7 22).1 (TX7 22).2.1 (TX7 22).2.2.1 ∈ tsX7_bothTold := List.mem_cons_of_mem _ fl_111
  have hf0 := mQ_p hQ
  by_cases q0 : f = 0
  · have hQ := mQ_ok hQ q0
    have hz0 := mQ_0 hQ rfl
    refine lv_aload_n F.1 F.2.1 dX7_bothTold_0 rfl (lv_at hl 0 rfl) ?_
    have b_1 := mJ hv hm
    unfold mNum1 at b_1
    refine g_calli (g_runV (As := []) (rest := []) (ci := 7) F hl.1 hH hS hz (c_X7_relationg l g gh T b nn nr nt cc 0 h I R J AI AJ AR mo hv hm hT (by omega) h65 hbM hr7 (by omega) hn9 (by omega) hQ) (cwV 0 F.2.2.2.2.1 (good_up gT_X7_relation) rfl rfl rfl hdX7_relation ⟨Nat.le_of_ble_eq_true rfl, Nat.le_of_ble_eq_true rfl⟩) hm (by decide) rfl rfl rfl (Nat.le_of_ble_eq_true rfl) dX7_bothTold_1 ⟨Nat.zero_le _, Nat.zero_le _⟩) hS (fun v_8 I_2 R_3 J_4 AI_5 AJ_6 AR_7 H locs zv_8 hp_9 hH hS => ?_)
    dsimp only at hp_9
    obtain ⟨r_10, er_10⟩ : ∃ qQ : pR, qQ = thn (0, h, 0) (fun t _ => sRl b nn nr nt cc t) := ⟨_, rfl⟩
    rw [← er_10] at hp_9
    obtain ⟨rfl, rfl, rfl, rfl, hv, pfq, q_11, q_12, hQ, q_13, q_14⟩ := hp_9
    have pf := qF_t pf pfq
    have u_15_2 : (I_2 mo 2).toInt = (I mo 2).toInt := by rw [pf 2 (by decide) (by decide) (by decide) (by decide) (by decide)]
    have u_15_5 : (I_2 mo 5).toInt = (I mo 5).toInt := by rw [pf 5 (by decide) (by decide) (by decide) (by decide) (by decide)]
    have u_15_14 : (I_2 mo 14).toInt = (I mo 14).toInt := by rw [pf 14 (by decide) (by decide) (by decide) (by decide) (by decide)]
    have u_15_16 : (I_2 mo 16).toInt = (I mo 16).toInt := by rw [pf 16 (by decide) (by decide) (by decide) (by decide) (by decide)]
    have u_15_18 : (I_2 mo 18).toInt = (I mo 18).toInt := by rw [pf 18 (by decide) (by decide) (by decide) (by decide) (by decide)]
    have er_10 : r_10 = sRl b nn nr nt cc h := er_10
    have sr_10 := er_10
    rcases sRl_c er_10 with ⟨er_10, pr_10⟩ | ⟨er_10, pr_10⟩
    · have hQ : mQ gh I_2 J_4 AI AJ mo b nn nr nt cc 0 (h + 1) := by rw [er_10] at hQ; exact hQ
      have sr_10 : sRl b nn nr nt cc h = (0, h + 1, cF b nn nr nt cc h) := sr_10.symm.trans er_10
      have vlr_10 := q_13 (by rw [er_10])
      try rw [er_10] at vlr_10
      try dsimp only at vlr_10
      replace q_12 := (⟨q_12.1, q_12.2.1, q_12.2.2 (mQ_0 hQ rfl)⟩ : _ ∧ _ ∧ _)
      have vfr_10 := q_14 (by rw [er_10])
      try rw [er_10] at vfr_10
      try dsimp only at vfr_10
      obtain ⟨fa0, efa0⟩ : ∃ q, q = (I_2 mo 24).toInt := ⟨_, rfl⟩
      have hra : Hid (fa0 = 0 → v_8 < M) := fun h9 => by omega
      refine lv_istore_n (lv' := [(2, .int (iI v_8)), (0, .ref mo), (1, .int (iI kd))]) F.1 F.2.1 dX7_bothTold_4 rfl hl (by decide) rfl (fun ls hl => ?_)
      refine lv_aload_n F.1 F.2.1 dX7_bothTold_5 rfl (lv_at hl 1 rfl) ?_
      refine g_getI (ci := 7) (k := 24) F hH rfl (by decide) iX7 hm (by decide) rfl k81 dX7_bothTold_6 ?_
      have b_16 := mJ hv hm
      unfold mNum1 at b_16
      refine z_if_ne (tgt := 63) F dX7_bothTold_9 (by decide) (zr_t _) (fun c_17 => ?_) (fun c_17 => ?_)
      · exact absurd (mQ_0 hQ rfl) (by omega)
      · refine lv_aload_n F.1 F.2.1 dX7_bothTold_12 rfl (lv_at hl 1 rfl) ?_
        refine g_getI (ci := 7) (k := 21) F hH rfl (by decide) iX7 hm (by decide) rfl k94 dX7_bothTold_13 ?_
        refine z_iconst F dX7_bothTold_16 ?_
        refine z_icmp_ne (tgt := 63) F dX7_bothTold_17 (by decide) (zr_t _) ⟨by decide, by decide⟩ (fun c_18 => ?_) (fun c_18 => ?_)
        · have t_19 : pK b nn (h + 1) ≠ 3 := mQ_kn hQ rfl (c := 2) rfl (by omega)
          refine lv_aload_n F.1 F.2.1 dX7_bothTold_63 rfl (lv_at hl 1 rfl) ?_
          refine g_calli (g_runV (As := []) (rest := []) (ci := 7) F hl.1 hH hS hz (c_X7_relationg l g gh T b nn nr nt cc 0 (h + 1) I_2 R J_4 AI AJ AR mo hv hm hT (by omega) h65 hbM hr7 (by omega) hn9 (by omega) hQ) (cwV 0 F.2.2.2.2.1 (good_up gT_X7_relation) rfl rfl rfl hdX7_relation ⟨Nat.le_of_ble_eq_true rfl, Nat.le_of_ble_eq_true rfl⟩) hm (by decide) rfl rfl rfl (Nat.le_of_ble_eq_true rfl) dX7_bothTold_64 ⟨Nat.zero_le _, Nat.zero_le _⟩) hS (fun v_26 I_20 R_21 J_22 AI_23 AJ_24 AR_25 H locs zv_26 hp_27 hH hS => ?_)
          dsimp only at hp_27
          obtain ⟨r_28, er_28⟩ : ∃ qQ : pR, qQ = thn (0, (h + 1), 0) (fun t _ => sRl b nn nr nt cc t) := ⟨_, rfl⟩
          rw [← er_28] at hp_27
          obtain ⟨rfl, rfl, rfl, rfl, hv, pfq, q_29, q_30, hQ, q_31, q_32⟩ := hp_27
          have pf := qF_t pf pfq
          have u_33_2 : (I_20 mo 2).toInt = (I mo 2).toInt := by rw [pf 2 (by decide) (by decide) (by decide) (by decide) (by decide)]
          have u_33_5 : (I_20 mo 5).toInt = (I mo 5).toInt := by rw [pf 5 (by decide) (by decide) (by decide) (by decide) (by decide)]
          have u_33_14 : (I_20 mo 14).toInt = (I mo 14).toInt := by rw [pf 14 (by decide) (by decide) (by decide) (by decide) (by decide)]
          have u_33_16 : (I_20 mo 16).toInt = (I mo 16).toInt := by rw [pf 16 (by decide) (by decide) (by decide) (by decide) (by decide)]
          have u_33_18 : (I_20 mo 18).toInt = (I mo 18).toInt := by rw [pf 18 (by decide) (by decide) (by decide) (by decide) (by decide)]
          have er_28 : r_28 = sRl b nn nr nt cc (h + 1) := er_28
          have sr_28 := er_28
          rcases sRl_c er_28 with ⟨er_28, pr_28⟩ | ⟨er_28, pr_28⟩
          · have hQ : mQ gh I_20 J_22 AI AJ mo b nn nr nt cc 0 (h + 2) := by rw [er_28] at hQ; exact hQ
            have sr_28 : sRl b nn nr nt cc (h + 1) = (0, h + 2, cF b nn nr nt cc (h + 1)) := sr_28.symm.trans er_28
            have vlr_28 := q_31 (by rw [er_28])
            try rw [er_28] at vlr_28
            try dsimp only at vlr_28
            replace q_30 := (⟨q_30.1, q_30.2.1, q_30.2.2 (mQ_0 hQ rfl)⟩ : _ ∧ _ ∧ _)
            have vfr_28 := q_32 (by rw [er_28])
            try rw [er_28] at vfr_28
            try dsimp only at vfr_28
            obtain ⟨f0, ef0⟩ : ∃ q, q = (I_20 mo 24).toInt := ⟨_, rfl⟩
            have hr2 : Hid (f0 = 0 → v_26 < M ∧ fa0 = 0) := fun h9 => by omega
            refine lv_istore_n (lv' := [(3, .int (iI v_26)), (2, .int (iI v_8)), (0, .ref mo), (1, .int (iI kd))]) F.1 F.2.1 dX7_bothTold_67 rfl hl (by decide) rfl (fun ls hl => ?_)
            refine lv_aload_n F.1 F.2.1 dX7_bothTold_68 rfl (lv_at hl 2 rfl) ?_
            refine lv_iload_n F.1 F.2.1 dX7_bothTold_69 rfl (lv_at hl 3 rfl) ?_
            refine lv_aload_n F.1 F.2.1 dX7_bothTold_70 rfl (lv_at hl 2 rfl) ?_
            refine lv_iload_n F.1 F.2.1 dX7_bothTold_71 rfl (lv_at hl 1 rfl) ?_
            have b_35 := mJ hv hm
            unfold mNum1 at b_35
            refine g_calli (g_runV (As := [.int (iI v_8)]) (rest := [.int (iI kd), .ref mo]) (ci := 7) F hl.1 hH hS hz (c_X7_columns l g gh T I_20 R J_22 AI AJ AR mo v_8 zv_8 hv hm hT (by omega)) (cwV 1 F.2.2.2.2.1 (good_up gT_X7_columns) rfl rfl rfl hdX7_columns ⟨Nat.le_of_ble_eq_true rfl, Nat.le_of_ble_eq_true rfl⟩) hm (by decide) rfl rfl rfl (Nat.le_of_ble_eq_true rfl) dX7_bothTold_72 ⟨Nat.zero_le _, Nat.zero_le _⟩) hS (fun v_42 I_36 R_37 J_38 AI_39 AJ_40 AR_41 H locs zv_42 hp_43 hH hS => ?_)
            dsimp only at hp_43
            obtain ⟨rfl, rfl, rfl, rfl, rfl, rfl, q_34⟩ := hp_43
            have cvv_42 : v_42 = cF b nn nr nt cc h := q_34.trans ((mQ_c hQ rfl vlr_10.1 vlr_10.2.1).trans vlr_10.2.2)
            have hcol : Hid ((I_20 mo 24).toInt = 0 → 1 ≤ v_42 ∧ v_42 ≤ 4) := fun h => by have q9 := mCol hv hm (z := v_8) (by omega) (by omega); omega
            refine lv_iload_n F.1 F.2.1 dX7_bothTold_75 rfl (lv_at hl 1 rfl) ?_
            refine lv_iload_n F.1 F.2.1 dX7_bothTold_76 rfl (lv_at hl 0 rfl) ?_
            refine z_iconst F dX7_bothTold_77 ?_
            refine g_callv (g_runV (As := [.int (iI kd), .int (iI v_42), .int (iI v_8), .int (iI v_26), .int (iI 0)]) (rest := []) (ci := 7) F hl.1 hH hS hz (c_X7_headerg l g gh T M I_20 R J_22 AI AJ AR mo kd v_42 v_8 v_26 0 zkd zv_42 zv_8 zv_26 ⟨by decide, by decide⟩ hv hm hT (by omega) (by omega)) (cwV 5 F.2.2.2.2.1 (good_up gT_X7_header) rfl rfl rfl hdX7_header ⟨Nat.le_of_ble_eq_true rfl, Nat.le_of_ble_eq_true rfl⟩) hm (by decide) rfl rfl rfl (Nat.le_of_ble_eq_true rfl) dX7_bothTold_78 ⟨Nat.zero_le _, Nat.zero_le _⟩) hS (fun I_44 R_45 J_46 AI_47 AJ_48 AR_49 H locs hp_50 hH hS => ?_)
            dsimp only at hp_50
            obtain ⟨rfl, rfl, rfl, rfl, rfl, hv, hT, hhd, q_51⟩ := hp_50
            replace hhd := hid hhd
            have hQ : mQ gh I_20 J_22 AI_47 AJ mo b nn nr nt cc 0 (h + 2) := mQ_a hQ (fun hf9 z9 h09 h19 => (hhd hf9).1 z9 h09 (Or.inl (by omega)))
            have hfr := frM_h hfr (hhd (mQ_0 hQ rfl))
            have hfin : thn (f, h, 0) (fun t _ => sTwo b nn nr nt cc t) = (0, h + 2, cF b nn nr nt cc h) := by
              refine (thn_k q0).trans ?_
              show sTwo b nn nr nt cc h = _
              unfold sTwo
              repeat (first | with_reducible rfl | refine ite_y (by omega) ?_ | refine ite_n (by omega) ?_ | refine thn_t sr_10 (by first | rfl | omega) ?_ | exact (thn_x sr_10.symm (by omega)).trans (pr_e (by omega) (by omega) (by omega)) | refine thn_t sr_28 (by first | rfl | omega) ?_ | exact (thn_x sr_28.symm (by omega)).trans (pr_e (by omega) (by omega) (by omega)) | refine ite_y (pRf_0 (by omega) (by omega)) ?_ | refine ite_n (fun e9 => absurd (pRf_i e9) (by omega)) ?_ | exact pr_e (by omega) (by omega) (by omega) | refine ite_y (pCf_ok (by omega) (by omega)) ?_ | refine ite_n (fun e9 => absurd (pCf_0 e9) (by omega)) ?_ | exact pr_e (pCf_no (by omega)) (by omega) (by omega) | exact pr_e (pCf_big (by omega) (by omega)) (by omega) (by omega))
            exact g_vret F hr hlk hH hS hz ⟨rfl, rfl, rfl, hv, hT, pf, by first | (dsimp only; omega) | omega | rfl, by (try dsimp only); intro hf ht hn; exact row_mk (by omega) (hhd (by omega)) (by omega) (hcol (by omega)) (by omega) (by omega) (fun h => absurd h (by omega)) (fun h => absurd h (by omega)) (fun h => absurd h (by omega)) (fun h => absurd h (by omega)) (fun _ => by omega) (fun h => absurd h (by omega)) (fun h => absurd h (by omega)), by (try dsimp only); intro hf; exact (hhd (by omega)).2.1, by (try dsimp only); rw [hfin]; exact hQ, by (try dsimp only); rw [hfin]; have q9 := (hhd (mQ_0 hQ rfl)).2.2.1; rw [show M = (nr : Int) by omega] at q9; (try dsimp only); exact pIc_y (by omega), by (try dsimp only); rw [hfin]; exact zIf_y (hfr), by (try dsimp only); rw [hfin]; exact zIf_y (⟨(hhd (mQ_0 hQ rfl)).2.2.2.1.trans vfr_10, (hhd (mQ_0 hQ rfl)).2.2.2.2.1.trans vfr_28⟩), fun b hb => q_51 b hb⟩ dX7_bothTold_81
          · have hQ : mQ gh I_20 J_22 AI AJ mo b nn nr nt cc (pRf b nn nt nr (h + 1)) (h + 1) := by rw [er_28] at hQ; exact hQ
            have sr_28 := sr_28.symm.trans er_28
            have g9r_28 := mQ_f hQ (by omega)
            replace q_30 := (⟨q_30.1, q_30.2.1⟩ : _ ∧ _)
            obtain ⟨f0, ef0⟩ : ∃ q, q = (I_20 mo 24).toInt := ⟨_, rfl⟩
            have hr2 : Hid (f0 = 0 → v_26 < M ∧ fa0 = 0) := fun h9 => by omega
            refine lv_istore_n (lv' := [(3, .int (iI v_26)), (2, .int (iI v_8)), (0, .ref mo), (1, .int (iI kd))]) F.1 F.2.1 dX7_bothTold_67 rfl hl (by decide) rfl (fun ls hl => ?_)
            refine lv_aload_n F.1 F.2.1 dX7_bothTold_68 rfl (lv_at hl 2 rfl) ?_
            refine lv_iload_n F.1 F.2.1 dX7_bothTold_69 rfl (lv_at hl 3 rfl) ?_
            refine lv_aload_n F.1 F.2.1 dX7_bothTold_70 rfl (lv_at hl 2 rfl) ?_
            refine lv_iload_n F.1 F.2.1 dX7_bothTold_71 rfl (lv_at hl 1 rfl) ?_
            have b_53 := mJ hv hm
            unfold mNum1 at b_53
            refine g_calli (g_runV (As := [.int (iI v_8)]) (rest := [.int (iI kd), .ref mo]) (ci := 7) F hl.1 hH hS hz (c_X7_columns l g gh T I_20 R J_22 AI AJ AR mo v_8 zv_8 hv hm hT (by omega)) (cwV 1 F.2.2.2.2.1 (good_up gT_X7_columns) rfl rfl rfl hdX7_columns ⟨Nat.le_of_ble_eq_true rfl, Nat.le_of_ble_eq_true rfl⟩) hm (by decide) rfl rfl rfl (Nat.le_of_ble_eq_true rfl) dX7_bothTold_72 ⟨Nat.zero_le _, Nat.zero_le _⟩) hS (fun v_60 I_54 R_55 J_56 AI_57 AJ_58 AR_59 H locs zv_60 hp_61 hH hS => ?_)
            dsimp only at hp_61
            obtain ⟨rfl, rfl, rfl, rfl, rfl, rfl, q_52⟩ := hp_61
            have hcol : Hid ((I_20 mo 24).toInt = 0 → 1 ≤ v_60 ∧ v_60 ≤ 4) := fun h => by have q9 := mCol hv hm (z := v_8) (by omega) (by omega); omega
            refine lv_iload_n F.1 F.2.1 dX7_bothTold_75 rfl (lv_at hl 1 rfl) ?_
            refine lv_iload_n F.1 F.2.1 dX7_bothTold_76 rfl (lv_at hl 0 rfl) ?_
            refine z_iconst F dX7_bothTold_77 ?_
            refine g_callv (g_runV (As := [.int (iI kd), .int (iI v_60), .int (iI v_8), .int (iI v_26), .int (iI 0)]) (rest := []) (ci := 7) F hl.1 hH hS hz (c_X7_headerg l g gh T M I_20 R J_22 AI AJ AR mo kd v_60 v_8 v_26 0 zkd zv_60 zv_8 zv_26 ⟨by decide, by decide⟩ hv hm hT (by omega) (by omega)) (cwV 5 F.2.2.2.2.1 (good_up gT_X7_header) rfl rfl rfl hdX7_header ⟨Nat.le_of_ble_eq_true rfl, Nat.le_of_ble_eq_true rfl⟩) hm (by decide) rfl rfl rfl (Nat.le_of_ble_eq_true rfl) dX7_bothTold_78 ⟨Nat.zero_le _, Nat.zero_le _⟩) hS (fun I_62 R_63 J_64 AI_65 AJ_66 AR_67 H locs hp_68 hH hS => ?_)
            dsimp only at hp_68
            obtain ⟨rfl, rfl, rfl, rfl, rfl, hv, hT, hhd, q_69⟩ := hp_68
            replace hhd := hid hhd
            have hQ : mQ gh I_20 J_22 AI_65 AJ mo b nn nr nt cc (pRf b nn nt nr (h + 1)) (h + 1) := mQ_bad hQ (by omega) rfl
            have hfin : thn (f, h, 0) (fun t _ => sTwo b nn nr nt cc t) = (pRf b nn nt nr (h + 1), h + 1, 0) := by
              refine (thn_k q0).trans ?_
              show sTwo b nn nr nt cc h = _
              unfold sTwo
              repeat (first | with_reducible rfl | refine ite_y (by omega) ?_ | refine ite_n (by omega) ?_ | refine thn_t sr_10 (by first | rfl | omega) ?_ | exact (thn_x sr_10.symm (by omega)).trans (pr_e (by omega) (by omega) (by omega)) | refine thn_t sr_28 (by first | rfl | omega) ?_ | exact (thn_x sr_28.symm (by omega)).trans (pr_e (by omega) (by omega) (by omega)) | refine ite_y (pRf_0 (by omega) (by omega)) ?_ | refine ite_n (fun e9 => absurd (pRf_i e9) (by omega)) ?_ | exact pr_e (by omega) (by omega) (by omega) | refine ite_y (pCf_ok (by omega) (by omega)) ?_ | refine ite_n (fun e9 => absurd (pCf_0 e9) (by omega)) ?_ | exact pr_e (pCf_no (by omega)) (by omega) (by omega) | exact pr_e (pCf_big (by omega) (by omega)) (by omega) (by omega))
            exact g_vret F hr hlk hH hS hz ⟨rfl, rfl, rfl, hv, hT, pf, by first | (dsimp only; omega) | omega | rfl, by (try dsimp only); exact (fun hf => absurd hf (by omega)), by (try dsimp only); exact (fun hf => absurd hf (by omega)), by (try dsimp only); rw [hfin]; exact hQ, by (try dsimp only); rw [hfin]; exact pIc_n (by omega), by (try dsimp only); rw [hfin]; exact zIf_n (by omega), by (try dsimp only); rw [hfin]; exact zIf_n (by omega), fun b hb => q_69 b hb⟩ dX7_bothTold_81
        · have t_70 := tkM_2 ((mQ_k hQ rfl).symm.trans (by omega))
          have t_70r := pV_r t_70
          refine lv_aload_n F.1 F.2.1 dX7_bothTold_20 rfl (lv_at hl 1 rfl) ?_
          refine g_calli (g_runV (As := []) (rest := []) (ci := 7) F hl.1 hH hS hz (c_X7_isReservedf l g gh T b nn nr nt cc 0 (h + 1) I_2 R J_4 AI AJ AR mo hv hm hT h65 hbM hr7 (by omega) hn9 (by omega) hQ) (cwV 0 F.2.2.2.2.1 (good_up gT_X7_isReserved) rfl rfl rfl hdX7_isReserved ⟨Nat.le_of_ble_eq_true rfl, Nat.le_of_ble_eq_true rfl⟩) hm (by decide) rfl rfl rfl (Nat.le_of_ble_eq_true rfl) dX7_bothTold_21 ⟨Nat.zero_le _, Nat.zero_le _⟩) hS (fun v_77 I_71 R_72 J_73 AI_74 AJ_75 AR_76 H locs zv_77 hp_78 hH hS => ?_)
          dsimp only at hp_78
          obtain ⟨rfl, rfl, rfl, rfl, rfl, rfl, q_79, q_80⟩ := hp_78
          refine z_if_ne (tgt := 63) F dX7_bothTold_24 (by decide) zv_77 (fun c_81 => ?_) (fun c_81 => ?_)
          · have t_82 := tIz_y q_80 (by omega)
            refine lv_aload_n F.1 F.2.1 dX7_bothTold_63 rfl (lv_at hl 1 rfl) ?_
            refine g_calli (g_runV (As := []) (rest := []) (ci := 7) F hl.1 hH hS hz (c_X7_relationg l g gh T b nn nr nt cc 0 (h + 1) I_2 R J_4 AI AJ AR mo hv hm hT (by omega) h65 hbM hr7 (by omega) hn9 (by omega) hQ) (cwV 0 F.2.2.2.2.1 (good_up gT_X7_relation) rfl rfl rfl hdX7_relation ⟨Nat.le_of_ble_eq_true rfl, Nat.le_of_ble_eq_true rfl⟩) hm (by decide) rfl rfl rfl (Nat.le_of_ble_eq_true rfl) dX7_bothTold_64 ⟨Nat.zero_le _, Nat.zero_le _⟩) hS (fun v_89 I_83 R_84 J_85 AI_86 AJ_87 AR_88 H locs zv_89 hp_90 hH hS => ?_)
            dsimp only at hp_90
            obtain ⟨r_91, er_91⟩ : ∃ qQ : pR, qQ = thn (0, (h + 1), 0) (fun t _ => sRl b nn nr nt cc t) := ⟨_, rfl⟩
            rw [← er_91] at hp_90
            obtain ⟨rfl, rfl, rfl, rfl, hv, pfq, q_92, q_93, hQ, q_94, q_95⟩ := hp_90
            have pf := qF_t pf pfq
            have u_96_2 : (I_83 mo 2).toInt = (I mo 2).toInt := by rw [pf 2 (by decide) (by decide) (by decide) (by decide) (by decide)]
            have u_96_5 : (I_83 mo 5).toInt = (I mo 5).toInt := by rw [pf 5 (by decide) (by decide) (by decide) (by decide) (by decide)]
            have u_96_14 : (I_83 mo 14).toInt = (I mo 14).toInt := by rw [pf 14 (by decide) (by decide) (by decide) (by decide) (by decide)]
            have u_96_16 : (I_83 mo 16).toInt = (I mo 16).toInt := by rw [pf 16 (by decide) (by decide) (by decide) (by decide) (by decide)]
            have u_96_18 : (I_83 mo 18).toInt = (I mo 18).toInt := by rw [pf 18 (by decide) (by decide) (by decide) (by decide) (by decide)]
            have er_91 : r_91 = sRl b nn nr nt cc (h + 1) := er_91
            have sr_91 := er_91
            rcases sRl_c er_91 with ⟨er_91, pr_91⟩ | ⟨er_91, pr_91⟩
            · have hQ : mQ gh I_83 J_85 AI AJ mo b nn nr nt cc 0 (h + 2) := by rw [er_91] at hQ; exact hQ
              have sr_91 : sRl b nn nr nt cc (h + 1) = (0, h + 2, cF b nn nr nt cc (h + 1)) := sr_91.symm.trans er_91
              have vlr_91 := q_94 (by rw [er_91])
              try rw [er_91] at vlr_91
              try dsimp only at vlr_91
              replace q_93 := (⟨q_93.1, q_93.2.1, q_93.2.2 (mQ_0 hQ rfl)⟩ : _ ∧ _ ∧ _)
              have vfr_91 := q_95 (by rw [er_91])
              try rw [er_91] at vfr_91
              try dsimp only at vfr_91
              obtain ⟨f0, ef0⟩ : ∃ q, q = (I_83 mo 24).toInt := ⟨_, rfl⟩
              have hr2 : Hid (f0 = 0 → v_89 < M ∧ fa0 = 0) := fun h9 => by omega
              refine lv_istore_n (lv' := [(3, .int (iI v_89)), (2, .int (iI v_8)), (0, .ref mo), (1, .int (iI kd))]) F.1 F.2.1 dX7_bothTold_67 rfl hl (by decide) rfl (fun ls hl => ?_)
              refine lv_aload_n F.1 F.2.1 dX7_bothTold_68 rfl (lv_at hl 2 rfl) ?_
              refine lv_iload_n F.1 F.2.1 dX7_bothTold_69 rfl (lv_at hl 3 rfl) ?_
              refine lv_aload_n F.1 F.2.1 dX7_bothTold_70 rfl (lv_at hl 2 rfl) ?_
              refine lv_iload_n F.1 F.2.1 dX7_bothTold_71 rfl (lv_at hl 1 rfl) ?_
              have b_98 := mJ hv hm
              unfold mNum1 at b_98
              refine g_calli (g_runV (As := [.int (iI v_8)]) (rest := [.int (iI kd), .ref mo]) (ci := 7) F hl.1 hH hS hz (c_X7_columns l g gh T I_83 R J_85 AI AJ AR mo v_8 zv_8 hv hm hT (by omega)) (cwV 1 F.2.2.2.2.1 (good_up gT_X7_columns) rfl rfl rfl hdX7_columns ⟨Nat.le_of_ble_eq_true rfl, Nat.le_of_ble_eq_true rfl⟩) hm (by decide) rfl rfl rfl (Nat.le_of_ble_eq_true rfl) dX7_bothTold_72 ⟨Nat.zero_le _, Nat.zero_le _⟩) hS (fun v_105 I_99 R_100 J_101 AI_102 AJ_103 AR_104 H locs zv_105 hp_106 hH hS => ?_)
              dsimp only at hp_106
              obtain ⟨rfl, rfl, rfl, rfl, rfl, rfl, q_97⟩ := hp_106
              have cvv_105 : v_105 = cF b nn nr nt cc h := q_97.trans ((mQ_c hQ rfl vlr_10.1 vlr_10.2.1).trans vlr_10.2.2)
              have hcol : Hid ((I_83 mo 24).toInt = 0 → 1 ≤ v_105 ∧ v_105 ≤ 4) := fun h => by have q9 := mCol hv hm (z := v_8) (by omega) (by omega); omega
              refine lv_iload_n F.1 F.2.1 dX7_bothTold_75 rfl (lv_at hl 1 rfl) ?_
              refine lv_iload_n F.1 F.2.1 dX7_bothTold_76 rfl (lv_at hl 0 rfl) ?_
              refine z_iconst F dX7_bothTold_77 ?_
              refine g_callv (g_runV (As := [.int (iI kd), .int (iI v_105), .int (iI v_8), .int (iI v_89), .int (iI 0)]) (rest := []) (ci := 7) F hl.1 hH hS hz (c_X7_headerg l g gh T M I_83 R J_85 AI AJ AR mo kd v_105 v_8 v_89 0 zkd zv_105 zv_8 zv_89 ⟨by decide, by decide⟩ hv hm hT (by omega) (by omega)) (cwV 5 F.2.2.2.2.1 (good_up gT_X7_header) rfl rfl rfl hdX7_header ⟨Nat.le_of_ble_eq_true rfl, Nat.le_of_ble_eq_true rfl⟩) hm (by decide) rfl rfl rfl (Nat.le_of_ble_eq_true rfl) dX7_bothTold_78 ⟨Nat.zero_le _, Nat.zero_le _⟩) hS (fun I_107 R_108 J_109 AI_110 AJ_111 AR_112 H locs hp_113 hH hS => ?_)
              dsimp only at hp_113
              obtain ⟨rfl, rfl, rfl, rfl, rfl, hv, hT, hhd, q_114⟩ := hp_113
              replace hhd := hid hhd
              have hQ : mQ gh I_83 J_85 AI_110 AJ mo b nn nr nt cc 0 (h + 2) := mQ_a hQ (fun hf9 z9 h09 h19 => (hhd hf9).1 z9 h09 (Or.inl (by omega)))
              have hfr := frM_h hfr (hhd (mQ_0 hQ rfl))
              have hfin : thn (f, h, 0) (fun t _ => sTwo b nn nr nt cc t) = (0, h + 2, cF b nn nr nt cc h) := by
                refine (thn_k q0).trans ?_
                show sTwo b nn nr nt cc h = _
                unfold sTwo
                repeat (first | with_reducible rfl | refine ite_y (by omega) ?_ | refine ite_n (by omega) ?_ | refine thn_t sr_10 (by first | rfl | omega) ?_ | exact (thn_x sr_10.symm (by omega)).trans (pr_e (by omega) (by omega) (by omega)) | refine thn_t sr_91 (by first | rfl | omega) ?_ | exact (thn_x sr_91.symm (by omega)).trans (pr_e (by omega) (by omega) (by omega)) | refine ite_y (pRf_0 (by omega) (by omega)) ?_ | refine ite_n (fun e9 => absurd (pRf_i e9) (by omega)) ?_ | exact pr_e (by omega) (by omega) (by omega) | refine ite_y (pCf_ok (by omega) (by omega)) ?_ | refine ite_n (fun e9 => absurd (pCf_0 e9) (by omega)) ?_ | exact pr_e (pCf_no (by omega)) (by omega) (by omega) | exact pr_e (pCf_big (by omega) (by omega)) (by omega) (by omega))
              exact g_vret F hr hlk hH hS hz ⟨rfl, rfl, rfl, hv, hT, pf, by first | (dsimp only; omega) | omega | rfl, by (try dsimp only); intro hf ht hn; exact row_mk (by omega) (hhd (by omega)) (by omega) (hcol (by omega)) (by omega) (by omega) (fun h => absurd h (by omega)) (fun h => absurd h (by omega)) (fun h => absurd h (by omega)) (fun h => absurd h (by omega)) (fun _ => by omega) (fun h => absurd h (by omega)) (fun h => absurd h (by omega)), by (try dsimp only); intro hf; exact (hhd (by omega)).2.1, by (try dsimp only); rw [hfin]; exact hQ, by (try dsimp only); rw [hfin]; have q9 := (hhd (mQ_0 hQ rfl)).2.2.1; rw [show M = (nr : Int) by omega] at q9; (try dsimp only); exact pIc_y (by omega), by (try dsimp only); rw [hfin]; exact zIf_y (hfr), by (try dsimp only); rw [hfin]; exact zIf_y (⟨(hhd (mQ_0 hQ rfl)).2.2.2.1.trans vfr_10, (hhd (mQ_0 hQ rfl)).2.2.2.2.1.trans vfr_91⟩), fun b hb => q_114 b hb⟩ dX7_bothTold_81
            · have hQ : mQ gh I_83 J_85 AI AJ mo b nn nr nt cc (pRf b nn nt nr (h + 1)) (h + 1) := by rw [er_91] at hQ; exact hQ
              have sr_91 := sr_91.symm.trans er_91
              have g9r_91 := mQ_f hQ (by omega)
              replace q_93 := (⟨q_93.1, q_93.2.1⟩ : _ ∧ _)
              obtain ⟨f0, ef0⟩ : ∃ q, q = (I_83 mo 24).toInt := ⟨_, rfl⟩
              have hr2 : Hid (f0 = 0 → v_89 < M ∧ fa0 = 0) := fun h9 => by omega
              refine lv_istore_n (lv' := [(3, .int (iI v_89)), (2, .int (iI v_8)), (0, .ref mo), (1, .int (iI kd))]) F.1 F.2.1 dX7_bothTold_67 rfl hl (by decide) rfl (fun ls hl => ?_)
              refine lv_aload_n F.1 F.2.1 dX7_bothTold_68 rfl (lv_at hl 2 rfl) ?_
              refine lv_iload_n F.1 F.2.1 dX7_bothTold_69 rfl (lv_at hl 3 rfl) ?_
              refine lv_aload_n F.1 F.2.1 dX7_bothTold_70 rfl (lv_at hl 2 rfl) ?_
              refine lv_iload_n F.1 F.2.1 dX7_bothTold_71 rfl (lv_at hl 1 rfl) ?_
              have b_116 := mJ hv hm
              unfold mNum1 at b_116
              refine g_calli (g_runV (As := [.int (iI v_8)]) (rest := [.int (iI kd), .ref mo]) (ci := 7) F hl.1 hH hS hz (c_X7_columns l g gh T I_83 R J_85 AI AJ AR mo v_8 zv_8 hv hm hT (by omega)) (cwV 1 F.2.2.2.2.1 (good_up gT_X7_columns) rfl rfl rfl hdX7_columns ⟨Nat.le_of_ble_eq_true rfl, Nat.le_of_ble_eq_true rfl⟩) hm (by decide) rfl rfl rfl (Nat.le_of_ble_eq_true rfl) dX7_bothTold_72 ⟨Nat.zero_le _, Nat.zero_le _⟩) hS (fun v_123 I_117 R_118 J_119 AI_120 AJ_121 AR_122 H locs zv_123 hp_124 hH hS => ?_)
              dsimp only at hp_124
              obtain ⟨rfl, rfl, rfl, rfl, rfl, rfl, q_115⟩ := hp_124
              have hcol : Hid ((I_83 mo 24).toInt = 0 → 1 ≤ v_123 ∧ v_123 ≤ 4) := fun h => by have q9 := mCol hv hm (z := v_8) (by omega) (by omega); omega
              refine lv_iload_n F.1 F.2.1 dX7_bothTold_75 rfl (lv_at hl 1 rfl) ?_
              refine lv_iload_n F.1 F.2.1 dX7_bothTold_76 rfl (lv_at hl 0 rfl) ?_
              refine z_iconst F dX7_bothTold_77 ?_
              refine g_callv (g_runV (As := [.int (iI kd), .int (iI v_123), .int (iI v_8), .int (iI v_89), .int (iI 0)]) (rest := []) (ci := 7) F hl.1 hH hS hz (c_X7_headerg l g gh T M I_83 R J_85 AI AJ AR mo kd v_123 v_8 v_89 0 zkd zv_123 zv_8 zv_89 ⟨by decide, by decide⟩ hv hm hT (by omega) (by omega)) (cwV 5 F.2.2.2.2.1 (good_up gT_X7_header) rfl rfl rfl hdX7_header ⟨Nat.le_of_ble_eq_true rfl, Nat.le_of_ble_eq_true rfl⟩) hm (by decide) rfl rfl rfl (Nat.le_of_ble_eq_true rfl) dX7_bothTold_78 ⟨Nat.zero_le _, Nat.zero_le _⟩) hS (fun I_125 R_126 J_127 AI_128 AJ_129 AR_130 H locs hp_131 hH hS => ?_)
              dsimp only at hp_131
              obtain ⟨rfl, rfl, rfl, rfl, rfl, hv, hT, hhd, q_132⟩ := hp_131
              replace hhd := hid hhd
              have hQ : mQ gh I_83 J_85 AI_128 AJ mo b nn nr nt cc (pRf b nn nt nr (h + 1)) (h + 1) := mQ_bad hQ (by omega) rfl
              have hfin : thn (f, h, 0) (fun t _ => sTwo b nn nr nt cc t) = (pRf b nn nt nr (h + 1), h + 1, 0) := by
                refine (thn_k q0).trans ?_
                show sTwo b nn nr nt cc h = _
                unfold sTwo
                repeat (first | with_reducible rfl | refine ite_y (by omega) ?_ | refine ite_n (by omega) ?_ | refine thn_t sr_10 (by first | rfl | omega) ?_ | exact (thn_x sr_10.symm (by omega)).trans (pr_e (by omega) (by omega) (by omega)) | refine thn_t sr_91 (by first | rfl | omega) ?_ | exact (thn_x sr_91.symm (by omega)).trans (pr_e (by omega) (by omega) (by omega)) | refine ite_y (pRf_0 (by omega) (by omega)) ?_ | refine ite_n (fun e9 => absurd (pRf_i e9) (by omega)) ?_ | exact pr_e (by omega) (by omega) (by omega) | refine ite_y (pCf_ok (by omega) (by omega)) ?_ | refine ite_n (fun e9 => absurd (pCf_0 e9) (by omega)) ?_ | exact pr_e (pCf_no (by omega)) (by omega) (by omega) | exact pr_e (pCf_big (by omega) (by omega)) (by omega) (by omega))
              exact g_vret F hr hlk hH hS hz ⟨rfl, rfl, rfl, hv, hT, pf, by first | (dsimp only; omega) | omega | rfl, by (try dsimp only); exact (fun hf => absurd hf (by omega)), by (try dsimp only); exact (fun hf => absurd hf (by omega)), by (try dsimp only); rw [hfin]; exact hQ, by (try dsimp only); rw [hfin]; exact pIc_n (by omega), by (try dsimp only); rw [hfin]; exact zIf_n (by omega), by (try dsimp only); rw [hfin]; exact zIf_n (by omega), fun b hb => q_132 b hb⟩ dX7_bothTold_81
          · have t_133 := tIz_n q_80 (by omega)
            refine lv_aload_n F.1 F.2.1 dX7_bothTold_27 rfl (lv_at hl 1 rfl) ?_
            refine lv_aload_n F.1 F.2.1 dX7_bothTold_28 rfl (lv_at hl 1 rfl) ?_
            refine g_getJ (ci := 7) (k := 22) F hH rfl (by decide) iX7 hm (by decide) rfl k111 dX7_bothTold_29 ?_
            refine lv_topl (fun j_134 ej_134 => ?_)
            have ew29 := ej_134
            refine g_calli (g_runV (As := [.long j_134]) (rest := []) (ci := 7) F hl.1 hH hS hz (c_X7_named l g gh T I_2 R J_4 AI AJ AR mo j_134 hv hm hT) (cwV 1 F.2.2.2.2.1 (good_up gT_X7_named) rfl rfl rfl hdX7_named ⟨Nat.le_of_ble_eq_true rfl, Nat.le_of_ble_eq_true rfl⟩) hm (by decide) rfl rfl rfl (Nat.le_of_ble_eq_true rfl) dX7_bothTold_32 ⟨Nat.zero_le _, Nat.zero_le _⟩) hS (fun v_141 I_135 R_136 J_137 AI_138 AJ_139 AR_140 H locs zv_141 hp_142 hH hS => ?_)
            dsimp only at hp_142
            obtain ⟨rfl, rfl, rfl, rfl, rfl, rfl, hn1a, hn1⟩ := hp_142
            replace hn1 := hid hn1
            have hfd : v_141 = pFd b nn nt nr (h + 1) := mQ_fd hQ rfl (by omega) (by omega) ew29 hn1a hn1
            refine z_if_lt (tgt := 63) F dX7_bothTold_35 (by decide) zv_141 (fun c_143 => ?_) (fun c_143 => ?_)
            · refine lv_aload_n F.1 F.2.1 dX7_bothTold_63 rfl (lv_at hl 1 rfl) ?_
              refine g_calli (g_runV (As := []) (rest := []) (ci := 7) F hl.1 hH hS hz (c_X7_relationg l g gh T b nn nr nt cc 0 (h + 1) I_2 R J_4 AI AJ AR mo hv hm hT (by omega) h65 hbM hr7 (by omega) hn9 (by omega) hQ) (cwV 0 F.2.2.2.2.1 (good_up gT_X7_relation) rfl rfl rfl hdX7_relation ⟨Nat.le_of_ble_eq_true rfl, Nat.le_of_ble_eq_true rfl⟩) hm (by decide) rfl rfl rfl (Nat.le_of_ble_eq_true rfl) dX7_bothTold_64 ⟨Nat.zero_le _, Nat.zero_le _⟩) hS (fun v_150 I_144 R_145 J_146 AI_147 AJ_148 AR_149 H locs zv_150 hp_151 hH hS => ?_)
              dsimp only at hp_151
              obtain ⟨r_152, er_152⟩ : ∃ qQ : pR, qQ = thn (0, (h + 1), 0) (fun t _ => sRl b nn nr nt cc t) := ⟨_, rfl⟩
              rw [← er_152] at hp_151
              obtain ⟨rfl, rfl, rfl, rfl, hv, pfq, q_153, q_154, hQ, q_155, q_156⟩ := hp_151
              have pf := qF_t pf pfq
              have u_157_2 : (I_144 mo 2).toInt = (I mo 2).toInt := by rw [pf 2 (by decide) (by decide) (by decide) (by decide) (by decide)]
              have u_157_5 : (I_144 mo 5).toInt = (I mo 5).toInt := by rw [pf 5 (by decide) (by decide) (by decide) (by decide) (by decide)]
              have u_157_14 : (I_144 mo 14).toInt = (I mo 14).toInt := by rw [pf 14 (by decide) (by decide) (by decide) (by decide) (by decide)]
              have u_157_16 : (I_144 mo 16).toInt = (I mo 16).toInt := by rw [pf 16 (by decide) (by decide) (by decide) (by decide) (by decide)]
              have u_157_18 : (I_144 mo 18).toInt = (I mo 18).toInt := by rw [pf 18 (by decide) (by decide) (by decide) (by decide) (by decide)]
              have er_152 : r_152 = sRl b nn nr nt cc (h + 1) := er_152
              have sr_152 := er_152
              rcases sRl_c er_152 with ⟨er_152, pr_152⟩ | ⟨er_152, pr_152⟩
              · have hQ : mQ gh I_144 J_146 AI AJ mo b nn nr nt cc 0 (h + 2) := by rw [er_152] at hQ; exact hQ
                have sr_152 : sRl b nn nr nt cc (h + 1) = (0, h + 2, cF b nn nr nt cc (h + 1)) := sr_152.symm.trans er_152
                have vlr_152 := q_155 (by rw [er_152])
                try rw [er_152] at vlr_152
                try dsimp only at vlr_152
                replace q_154 := (⟨q_154.1, q_154.2.1, q_154.2.2 (mQ_0 hQ rfl)⟩ : _ ∧ _ ∧ _)
                have vfr_152 := q_156 (by rw [er_152])
                try rw [er_152] at vfr_152
                try dsimp only at vfr_152
                obtain ⟨f0, ef0⟩ : ∃ q, q = (I_144 mo 24).toInt := ⟨_, rfl⟩
                have hr2 : Hid (f0 = 0 → v_150 < M ∧ fa0 = 0) := fun h9 => by omega
                refine lv_istore_n (lv' := [(3, .int (iI v_150)), (2, .int (iI v_8)), (0, .ref mo), (1, .int (iI kd))]) F.1 F.2.1 dX7_bothTold_67 rfl hl (by decide) rfl (fun ls hl => ?_)
                refine lv_aload_n F.1 F.2.1 dX7_bothTold_68 rfl (lv_at hl 2 rfl) ?_
                refine lv_iload_n F.1 F.2.1 dX7_bothTold_69 rfl (lv_at hl 3 rfl) ?_
                refine lv_aload_n F.1 F.2.1 dX7_bothTold_70 rfl (lv_at hl 2 rfl) ?_
                refine lv_iload_n F.1 F.2.1 dX7_bothTold_71 rfl (lv_at hl 1 rfl) ?_
                have b_159 := mJ hv hm
                unfold mNum1 at b_159
                refine g_calli (g_runV (As := [.int (iI v_8)]) (rest := [.int (iI kd), .ref mo]) (ci := 7) F hl.1 hH hS hz (c_X7_columns l g gh T I_144 R J_146 AI AJ AR mo v_8 zv_8 hv hm hT (by omega)) (cwV 1 F.2.2.2.2.1 (good_up gT_X7_columns) rfl rfl rfl hdX7_columns ⟨Nat.le_of_ble_eq_true rfl, Nat.le_of_ble_eq_true rfl⟩) hm (by decide) rfl rfl rfl (Nat.le_of_ble_eq_true rfl) dX7_bothTold_72 ⟨Nat.zero_le _, Nat.zero_le _⟩) hS (fun v_166 I_160 R_161 J_162 AI_163 AJ_164 AR_165 H locs zv_166 hp_167 hH hS => ?_)
                dsimp only at hp_167
                obtain ⟨rfl, rfl, rfl, rfl, rfl, rfl, q_158⟩ := hp_167
                have cvv_166 : v_166 = cF b nn nr nt cc h := q_158.trans ((mQ_c hQ rfl vlr_10.1 vlr_10.2.1).trans vlr_10.2.2)
                have hcol : Hid ((I_144 mo 24).toInt = 0 → 1 ≤ v_166 ∧ v_166 ≤ 4) := fun h => by have q9 := mCol hv hm (z := v_8) (by omega) (by omega); omega
                refine lv_iload_n F.1 F.2.1 dX7_bothTold_75 rfl (lv_at hl 1 rfl) ?_
                refine lv_iload_n F.1 F.2.1 dX7_bothTold_76 rfl (lv_at hl 0 rfl) ?_
                refine z_iconst F dX7_bothTold_77 ?_
                refine g_callv (g_runV (As := [.int (iI kd), .int (iI v_166), .int (iI v_8), .int (iI v_150), .int (iI 0)]) (rest := []) (ci := 7) F hl.1 hH hS hz (c_X7_headerg l g gh T M I_144 R J_146 AI AJ AR mo kd v_166 v_8 v_150 0 zkd zv_166 zv_8 zv_150 ⟨by decide, by decide⟩ hv hm hT (by omega) (by omega)) (cwV 5 F.2.2.2.2.1 (good_up gT_X7_header) rfl rfl rfl hdX7_header ⟨Nat.le_of_ble_eq_true rfl, Nat.le_of_ble_eq_true rfl⟩) hm (by decide) rfl rfl rfl (Nat.le_of_ble_eq_true rfl) dX7_bothTold_78 ⟨Nat.zero_le _, Nat.zero_le _⟩) hS (fun I_168 R_169 J_170 AI_171 AJ_172 AR_173 H locs hp_174 hH hS => ?_)
                dsimp only at hp_174
                obtain ⟨rfl, rfl, rfl, rfl, rfl, hv, hT, hhd, q_175⟩ := hp_174
                replace hhd := hid hhd
                have hQ : mQ gh I_144 J_146 AI_171 AJ mo b nn nr nt cc 0 (h + 2) := mQ_a hQ (fun hf9 z9 h09 h19 => (hhd hf9).1 z9 h09 (Or.inl (by omega)))
                have hfr := frM_h hfr (hhd (mQ_0 hQ rfl))
                have hfin : thn (f, h, 0) (fun t _ => sTwo b nn nr nt cc t) = (0, h + 2, cF b nn nr nt cc h) := by
                  refine (thn_k q0).trans ?_
                  show sTwo b nn nr nt cc h = _
                  unfold sTwo
                  repeat (first | with_reducible rfl | refine ite_y (by omega) ?_ | refine ite_n (by omega) ?_ | refine thn_t sr_10 (by first | rfl | omega) ?_ | exact (thn_x sr_10.symm (by omega)).trans (pr_e (by omega) (by omega) (by omega)) | refine thn_t sr_152 (by first | rfl | omega) ?_ | exact (thn_x sr_152.symm (by omega)).trans (pr_e (by omega) (by omega) (by omega)) | refine ite_y (pRf_0 (by omega) (by omega)) ?_ | refine ite_n (fun e9 => absurd (pRf_i e9) (by omega)) ?_ | exact pr_e (by omega) (by omega) (by omega) | refine ite_y (pCf_ok (by omega) (by omega)) ?_ | refine ite_n (fun e9 => absurd (pCf_0 e9) (by omega)) ?_ | exact pr_e (pCf_no (by omega)) (by omega) (by omega) | exact pr_e (pCf_big (by omega) (by omega)) (by omega) (by omega))
                exact g_vret F hr hlk hH hS hz ⟨rfl, rfl, rfl, hv, hT, pf, by first | (dsimp only; omega) | omega | rfl, by (try dsimp only); intro hf ht hn; exact row_mk (by omega) (hhd (by omega)) (by omega) (hcol (by omega)) (by omega) (by omega) (fun h => absurd h (by omega)) (fun h => absurd h (by omega)) (fun h => absurd h (by omega)) (fun h => absurd h (by omega)) (fun _ => by omega) (fun h => absurd h (by omega)) (fun h => absurd h (by omega)), by (try dsimp only); intro hf; exact (hhd (by omega)).2.1, by (try dsimp only); rw [hfin]; exact hQ, by (try dsimp only); rw [hfin]; have q9 := (hhd (mQ_0 hQ rfl)).2.2.1; rw [show M = (nr : Int) by omega] at q9; (try dsimp only); exact pIc_y (by omega), by (try dsimp only); rw [hfin]; exact zIf_y (hfr), by (try dsimp only); rw [hfin]; exact zIf_y (⟨(hhd (mQ_0 hQ rfl)).2.2.2.1.trans vfr_10, (hhd (mQ_0 hQ rfl)).2.2.2.2.1.trans vfr_152⟩), fun b hb => q_175 b hb⟩ dX7_bothTold_81
              · have hQ : mQ gh I_144 J_146 AI AJ mo b nn nr nt cc (pRf b nn nt nr (h + 1)) (h + 1) := by rw [er_152] at hQ; exact hQ
                have sr_152 := sr_152.symm.trans er_152
                have g9r_152 := mQ_f hQ (by omega)
                replace q_154 := (⟨q_154.1, q_154.2.1⟩ : _ ∧ _)
                obtain ⟨f0, ef0⟩ : ∃ q, q = (I_144 mo 24).toInt := ⟨_, rfl⟩
                have hr2 : Hid (f0 = 0 → v_150 < M ∧ fa0 = 0) := fun h9 => by omega
                refine lv_istore_n (lv' := [(3, .int (iI v_150)), (2, .int (iI v_8)), (0, .ref mo), (1, .int (iI kd))]) F.1 F.2.1 dX7_bothTold_67 rfl hl (by decide) rfl (fun ls hl => ?_)
                refine lv_aload_n F.1 F.2.1 dX7_bothTold_68 rfl (lv_at hl 2 rfl) ?_
                refine lv_iload_n F.1 F.2.1 dX7_bothTold_69 rfl (lv_at hl 3 rfl) ?_
                refine lv_aload_n F.1 F.2.1 dX7_bothTold_70 rfl (lv_at hl 2 rfl) ?_
                refine lv_iload_n F.1 F.2.1 dX7_bothTold_71 rfl (lv_at hl 1 rfl) ?_
                have b_177 := mJ hv hm
                unfold mNum1 at b_177
                refine g_calli (g_runV (As := [.int (iI v_8)]) (rest := [.int (iI kd), .ref mo]) (ci := 7) F hl.1 hH hS hz (c_X7_columns l g gh T I_144 R J_146 AI AJ AR mo v_8 zv_8 hv hm hT (by omega)) (cwV 1 F.2.2.2.2.1 (good_up gT_X7_columns) rfl rfl rfl hdX7_columns ⟨Nat.le_of_ble_eq_true rfl, Nat.le_of_ble_eq_true rfl⟩) hm (by decide) rfl rfl rfl (Nat.le_of_ble_eq_true rfl) dX7_bothTold_72 ⟨Nat.zero_le _, Nat.zero_le _⟩) hS (fun v_184 I_178 R_179 J_180 AI_181 AJ_182 AR_183 H locs zv_184 hp_185 hH hS => ?_)
                dsimp only at hp_185
                obtain ⟨rfl, rfl, rfl, rfl, rfl, rfl, q_176⟩ := hp_185
                have hcol : Hid ((I_144 mo 24).toInt = 0 → 1 ≤ v_184 ∧ v_184 ≤ 4) := fun h => by have q9 := mCol hv hm (z := v_8) (by omega) (by omega); omega
                refine lv_iload_n F.1 F.2.1 dX7_bothTold_75 rfl (lv_at hl 1 rfl) ?_
                refine lv_iload_n F.1 F.2.1 dX7_bothTold_76 rfl (lv_at hl 0 rfl) ?_
                refine z_iconst F dX7_bothTold_77 ?_
                refine g_callv (g_runV (As := [.int (iI kd), .int (iI v_184), .int (iI v_8), .int (iI v_150), .int (iI 0)]) (rest := []) (ci := 7) F hl.1 hH hS hz (c_X7_headerg l g gh T M I_144 R J_146 AI AJ AR mo kd v_184 v_8 v_150 0 zkd zv_184 zv_8 zv_150 ⟨by decide, by decide⟩ hv hm hT (by omega) (by omega)) (cwV 5 F.2.2.2.2.1 (good_up gT_X7_header) rfl rfl rfl hdX7_header ⟨Nat.le_of_ble_eq_true rfl, Nat.le_of_ble_eq_true rfl⟩) hm (by decide) rfl rfl rfl (Nat.le_of_ble_eq_true rfl) dX7_bothTold_78 ⟨Nat.zero_le _, Nat.zero_le _⟩) hS (fun I_186 R_187 J_188 AI_189 AJ_190 AR_191 H locs hp_192 hH hS => ?_)
                dsimp only at hp_192
                obtain ⟨rfl, rfl, rfl, rfl, rfl, hv, hT, hhd, q_193⟩ := hp_192
                replace hhd := hid hhd
                have hQ : mQ gh I_144 J_146 AI_189 AJ mo b nn nr nt cc (pRf b nn nt nr (h + 1)) (h + 1) := mQ_bad hQ (by omega) rfl
                have hfin : thn (f, h, 0) (fun t _ => sTwo b nn nr nt cc t) = (pRf b nn nt nr (h + 1), h + 1, 0) := by
                  refine (thn_k q0).trans ?_
                  show sTwo b nn nr nt cc h = _
                  unfold sTwo
                  repeat (first | with_reducible rfl | refine ite_y (by omega) ?_ | refine ite_n (by omega) ?_ | refine thn_t sr_10 (by first | rfl | omega) ?_ | exact (thn_x sr_10.symm (by omega)).trans (pr_e (by omega) (by omega) (by omega)) | refine thn_t sr_152 (by first | rfl | omega) ?_ | exact (thn_x sr_152.symm (by omega)).trans (pr_e (by omega) (by omega) (by omega)) | refine ite_y (pRf_0 (by omega) (by omega)) ?_ | refine ite_n (fun e9 => absurd (pRf_i e9) (by omega)) ?_ | exact pr_e (by omega) (by omega) (by omega) | refine ite_y (pCf_ok (by omega) (by omega)) ?_ | refine ite_n (fun e9 => absurd (pCf_0 e9) (by omega)) ?_ | exact pr_e (pCf_no (by omega)) (by omega) (by omega) | exact pr_e (pCf_big (by omega) (by omega)) (by omega) (by omega))
                exact g_vret F hr hlk hH hS hz ⟨rfl, rfl, rfl, hv, hT, pf, by first | (dsimp only; omega) | omega | rfl, by (try dsimp only); exact (fun hf => absurd hf (by omega)), by (try dsimp only); exact (fun hf => absurd hf (by omega)), by (try dsimp only); rw [hfin]; exact hQ, by (try dsimp only); rw [hfin]; exact pIc_n (by omega), by (try dsimp only); rw [hfin]; exact zIf_n (by omega), by (try dsimp only); rw [hfin]; exact zIf_n (by omega), fun b hb => q_193 b hb⟩ dX7_bothTold_81
            · refine lv_aload_n F.1 F.2.1 dX7_bothTold_38 rfl (lv_at hl 1 rfl) ?_
              refine lv_aload_n F.1 F.2.1 dX7_bothTold_39 rfl (lv_at hl 1 rfl) ?_
              refine lv_aload_n F.1 F.2.1 dX7_bothTold_40 rfl (lv_at hl 1 rfl) ?_
              refine g_getJ (ci := 7) (k := 22) F hH rfl (by decide) iX7 hm (by decide) rfl k111 dX7_bothTold_41 ?_
              refine lv_topl (fun j_194 ej_194 => ?_)
              have ew41 := ej_194
              refine g_calli (g_runV (As := [.long j_194]) (rest := [.ref mo]) (ci := 7) F hl.1 hH hS hz (c_X7_named l g gh T I_2 R J_4 AI AJ AR mo j_194 hv hm hT) (cwV 1 F.2.2.2.2.1 (good_up gT_X7_named) rfl rfl rfl hdX7_named ⟨Nat.le_of_ble_eq_true rfl, Nat.le_of_ble_eq_true rfl⟩) hm (by decide) rfl rfl rfl (Nat.le_of_ble_eq_true rfl) dX7_bothTold_44 ⟨Nat.zero_le _, Nat.zero_le _⟩) hS (fun v_201 I_195 R_196 J_197 AI_198 AJ_199 AR_200 H locs zv_201 hp_202 hH hS => ?_)
              dsimp only at hp_202
              obtain ⟨rfl, rfl, rfl, rfl, rfl, rfl, hn2a, hn2⟩ := hp_202
              replace hn2 := hid hn2
              have hge2 : 0 ≤ v_201 := Int.not_lt.mp (fun h => hn2.2 h v_141 (by omega) (by omega) (by rw [ej_194, ← ej_134]; exact hn1.1 (by omega)))
              have hfd2 : v_201 = pFd b nn nt nr (h + 1) := mQ_fd hQ rfl (by omega) (by omega) ew41 hn2a hn2
              have vl2 : 0 ≤ v_201 ∧ v_201 < (nr : Int) ∧ cc (v_201).toNat = cF b nn nr nt cc (h + 1) := ⟨by omega, by omega, by unfold cF; rw [hfd2]⟩
              refine g_calli (g_runV (As := [.int (iI v_201)]) (rest := []) (ci := 7) F hl.1 hH hS hz (c_X7_columns l g gh T I_2 R J_4 AI AJ AR mo v_201 zv_201 hv hm hT (by omega)) (cwV 1 F.2.2.2.2.1 (good_up gT_X7_columns) rfl rfl rfl hdX7_columns ⟨Nat.le_of_ble_eq_true rfl, Nat.le_of_ble_eq_true rfl⟩) hm (by decide) rfl rfl rfl (Nat.le_of_ble_eq_true rfl) dX7_bothTold_47 ⟨Nat.zero_le _, Nat.zero_le _⟩) hS (fun v_210 I_204 R_205 J_206 AI_207 AJ_208 AR_209 H locs zv_210 hp_211 hH hS => ?_)
              dsimp only at hp_211
              obtain ⟨rfl, rfl, rfl, rfl, rfl, rfl, q_203⟩ := hp_211
              have cvv_210 : v_210 = cF b nn nr nt cc (h + 1) := q_203.trans ((mQ_c hQ rfl vl2.1 vl2.2.1).trans vl2.2.2)
              refine lv_aload_n F.1 F.2.1 dX7_bothTold_50 rfl (lv_at hl 1 rfl) ?_
              refine lv_iload_n F.1 F.2.1 dX7_bothTold_51 rfl (lv_at hl 0 rfl) ?_
              refine g_calli (g_runV (As := [.int (iI v_8)]) (rest := [.int (iI v_210)]) (ci := 7) F hl.1 hH hS hz (c_X7_columns l g gh T I_2 R J_4 AI AJ AR mo v_8 zv_8 hv hm hT (by omega)) (cwV 1 F.2.2.2.2.1 (good_up gT_X7_columns) rfl rfl rfl hdX7_columns ⟨Nat.le_of_ble_eq_true rfl, Nat.le_of_ble_eq_true rfl⟩) hm (by decide) rfl rfl rfl (Nat.le_of_ble_eq_true rfl) dX7_bothTold_52 ⟨Nat.zero_le _, Nat.zero_le _⟩) hS (fun v_219 I_213 R_214 J_215 AI_216 AJ_217 AR_218 H locs zv_219 hp_220 hH hS => ?_)
              dsimp only at hp_220
              obtain ⟨rfl, rfl, rfl, rfl, rfl, rfl, q_212⟩ := hp_220
              have cvv_219 : v_219 = cF b nn nr nt cc h := q_212.trans ((mQ_c hQ rfl vlr_10.1 vlr_10.2.1).trans vlr_10.2.2)
              refine z_icmp_eq (tgt := 63) F dX7_bothTold_55 (by decide) zv_210 zv_219 (fun c_221 => ?_) (fun c_221 => ?_)
              · refine lv_aload_n F.1 F.2.1 dX7_bothTold_63 rfl (lv_at hl 1 rfl) ?_
                refine g_calli (g_runV (As := []) (rest := []) (ci := 7) F hl.1 hH hS hz (c_X7_relationg l g gh T b nn nr nt cc 0 (h + 1) I_2 R J_4 AI AJ AR mo hv hm hT (by omega) h65 hbM hr7 (by omega) hn9 (by omega) hQ) (cwV 0 F.2.2.2.2.1 (good_up gT_X7_relation) rfl rfl rfl hdX7_relation ⟨Nat.le_of_ble_eq_true rfl, Nat.le_of_ble_eq_true rfl⟩) hm (by decide) rfl rfl rfl (Nat.le_of_ble_eq_true rfl) dX7_bothTold_64 ⟨Nat.zero_le _, Nat.zero_le _⟩) hS (fun v_228 I_222 R_223 J_224 AI_225 AJ_226 AR_227 H locs zv_228 hp_229 hH hS => ?_)
                dsimp only at hp_229
                obtain ⟨r_230, er_230⟩ : ∃ qQ : pR, qQ = thn (0, (h + 1), 0) (fun t _ => sRl b nn nr nt cc t) := ⟨_, rfl⟩
                rw [← er_230] at hp_229
                obtain ⟨rfl, rfl, rfl, rfl, hv, pfq, q_231, q_232, hQ, q_233, q_234⟩ := hp_229
                have pf := qF_t pf pfq
                have u_235_2 : (I_222 mo 2).toInt = (I mo 2).toInt := by rw [pf 2 (by decide) (by decide) (by decide) (by decide) (by decide)]
                have u_235_5 : (I_222 mo 5).toInt = (I mo 5).toInt := by rw [pf 5 (by decide) (by decide) (by decide) (by decide) (by decide)]
                have u_235_14 : (I_222 mo 14).toInt = (I mo 14).toInt := by rw [pf 14 (by decide) (by decide) (by decide) (by decide) (by decide)]
                have u_235_16 : (I_222 mo 16).toInt = (I mo 16).toInt := by rw [pf 16 (by decide) (by decide) (by decide) (by decide) (by decide)]
                have u_235_18 : (I_222 mo 18).toInt = (I mo 18).toInt := by rw [pf 18 (by decide) (by decide) (by decide) (by decide) (by decide)]
                have er_230 : r_230 = sRl b nn nr nt cc (h + 1) := er_230
                have sr_230 := er_230
                rcases sRl_c er_230 with ⟨er_230, pr_230⟩ | ⟨er_230, pr_230⟩
                · have hQ : mQ gh I_222 J_224 AI AJ mo b nn nr nt cc 0 (h + 2) := by rw [er_230] at hQ; exact hQ
                  have sr_230 : sRl b nn nr nt cc (h + 1) = (0, h + 2, cF b nn nr nt cc (h + 1)) := sr_230.symm.trans er_230
                  have vlr_230 := q_233 (by rw [er_230])
                  try rw [er_230] at vlr_230
                  try dsimp only at vlr_230
                  replace q_232 := (⟨q_232.1, q_232.2.1, q_232.2.2 (mQ_0 hQ rfl)⟩ : _ ∧ _ ∧ _)
                  have vfr_230 := q_234 (by rw [er_230])
                  try rw [er_230] at vfr_230
                  try dsimp only at vfr_230
                  obtain ⟨f0, ef0⟩ : ∃ q, q = (I_222 mo 24).toInt := ⟨_, rfl⟩
                  have hr2 : Hid (f0 = 0 → v_228 < M ∧ fa0 = 0) := fun h9 => by omega
                  refine lv_istore_n (lv' := [(3, .int (iI v_228)), (2, .int (iI v_8)), (0, .ref mo), (1, .int (iI kd))]) F.1 F.2.1 dX7_bothTold_67 rfl hl (by decide) rfl (fun ls hl => ?_)
                  refine lv_aload_n F.1 F.2.1 dX7_bothTold_68 rfl (lv_at hl 2 rfl) ?_
                  refine lv_iload_n F.1 F.2.1 dX7_bothTold_69 rfl (lv_at hl 3 rfl) ?_
                  refine lv_aload_n F.1 F.2.1 dX7_bothTold_70 rfl (lv_at hl 2 rfl) ?_
                  refine lv_iload_n F.1 F.2.1 dX7_bothTold_71 rfl (lv_at hl 1 rfl) ?_
                  have b_237 := mJ hv hm
                  unfold mNum1 at b_237
                  refine g_calli (g_runV (As := [.int (iI v_8)]) (rest := [.int (iI kd), .ref mo]) (ci := 7) F hl.1 hH hS hz (c_X7_columns l g gh T I_222 R J_224 AI AJ AR mo v_8 zv_8 hv hm hT (by omega)) (cwV 1 F.2.2.2.2.1 (good_up gT_X7_columns) rfl rfl rfl hdX7_columns ⟨Nat.le_of_ble_eq_true rfl, Nat.le_of_ble_eq_true rfl⟩) hm (by decide) rfl rfl rfl (Nat.le_of_ble_eq_true rfl) dX7_bothTold_72 ⟨Nat.zero_le _, Nat.zero_le _⟩) hS (fun v_244 I_238 R_239 J_240 AI_241 AJ_242 AR_243 H locs zv_244 hp_245 hH hS => ?_)
                  dsimp only at hp_245
                  obtain ⟨rfl, rfl, rfl, rfl, rfl, rfl, q_236⟩ := hp_245
                  have cvv_244 : v_244 = cF b nn nr nt cc h := q_236.trans ((mQ_c hQ rfl vlr_10.1 vlr_10.2.1).trans vlr_10.2.2)
                  have hcol : Hid ((I_222 mo 24).toInt = 0 → 1 ≤ v_244 ∧ v_244 ≤ 4) := fun h => by have q9 := mCol hv hm (z := v_8) (by omega) (by omega); omega
                  refine lv_iload_n F.1 F.2.1 dX7_bothTold_75 rfl (lv_at hl 1 rfl) ?_
                  refine lv_iload_n F.1 F.2.1 dX7_bothTold_76 rfl (lv_at hl 0 rfl) ?_
                  refine z_iconst F dX7_bothTold_77 ?_
                  refine g_callv (g_runV (As := [.int (iI kd), .int (iI v_244), .int (iI v_8), .int (iI v_228), .int (iI 0)]) (rest := []) (ci := 7) F hl.1 hH hS hz (c_X7_headerg l g gh T M I_222 R J_224 AI AJ AR mo kd v_244 v_8 v_228 0 zkd zv_244 zv_8 zv_228 ⟨by decide, by decide⟩ hv hm hT (by omega) (by omega)) (cwV 5 F.2.2.2.2.1 (good_up gT_X7_header) rfl rfl rfl hdX7_header ⟨Nat.le_of_ble_eq_true rfl, Nat.le_of_ble_eq_true rfl⟩) hm (by decide) rfl rfl rfl (Nat.le_of_ble_eq_true rfl) dX7_bothTold_78 ⟨Nat.zero_le _, Nat.zero_le _⟩) hS (fun I_246 R_247 J_248 AI_249 AJ_250 AR_251 H locs hp_252 hH hS => ?_)
                  dsimp only at hp_252
                  obtain ⟨rfl, rfl, rfl, rfl, rfl, hv, hT, hhd, q_253⟩ := hp_252
                  replace hhd := hid hhd
                  have hQ : mQ gh I_222 J_224 AI_249 AJ mo b nn nr nt cc 0 (h + 2) := mQ_a hQ (fun hf9 z9 h09 h19 => (hhd hf9).1 z9 h09 (Or.inl (by omega)))
                  have hfr := frM_h hfr (hhd (mQ_0 hQ rfl))
                  have hfin : thn (f, h, 0) (fun t _ => sTwo b nn nr nt cc t) = (0, h + 2, cF b nn nr nt cc h) := by
                    refine (thn_k q0).trans ?_
                    show sTwo b nn nr nt cc h = _
                    unfold sTwo
                    repeat (first | with_reducible rfl | refine ite_y (by omega) ?_ | refine ite_n (by omega) ?_ | refine thn_t sr_10 (by first | rfl | omega) ?_ | exact (thn_x sr_10.symm (by omega)).trans (pr_e (by omega) (by omega) (by omega)) | refine thn_t sr_230 (by first | rfl | omega) ?_ | exact (thn_x sr_230.symm (by omega)).trans (pr_e (by omega) (by omega) (by omega)) | refine ite_y (pRf_0 (by omega) (by omega)) ?_ | refine ite_n (fun e9 => absurd (pRf_i e9) (by omega)) ?_ | exact pr_e (by omega) (by omega) (by omega) | refine ite_y (pCf_ok (by omega) (by omega)) ?_ | refine ite_n (fun e9 => absurd (pCf_0 e9) (by omega)) ?_ | exact pr_e (pCf_no (by omega)) (by omega) (by omega) | exact pr_e (pCf_big (by omega) (by omega)) (by omega) (by omega))
                  exact g_vret F hr hlk hH hS hz ⟨rfl, rfl, rfl, hv, hT, pf, by first | (dsimp only; omega) | omega | rfl, by (try dsimp only); intro hf ht hn; exact row_mk (by omega) (hhd (by omega)) (by omega) (hcol (by omega)) (by omega) (by omega) (fun h => absurd h (by omega)) (fun h => absurd h (by omega)) (fun h => absurd h (by omega)) (fun h => absurd h (by omega)) (fun _ => by omega) (fun h => absurd h (by omega)) (fun h => absurd h (by omega)), by (try dsimp only); intro hf; exact (hhd (by omega)).2.1, by (try dsimp only); rw [hfin]; exact hQ, by (try dsimp only); rw [hfin]; have q9 := (hhd (mQ_0 hQ rfl)).2.2.1; rw [show M = (nr : Int) by omega] at q9; (try dsimp only); exact pIc_y (by omega), by (try dsimp only); rw [hfin]; exact zIf_y (hfr), by (try dsimp only); rw [hfin]; exact zIf_y (⟨(hhd (mQ_0 hQ rfl)).2.2.2.1.trans vfr_10, (hhd (mQ_0 hQ rfl)).2.2.2.2.1.trans vfr_230⟩), fun b hb => q_253 b hb⟩ dX7_bothTold_81
                · have hQ : mQ gh I_222 J_224 AI AJ mo b nn nr nt cc (pRf b nn nt nr (h + 1)) (h + 1) := by rw [er_230] at hQ; exact hQ
                  have sr_230 := sr_230.symm.trans er_230
                  have g9r_230 := mQ_f hQ (by omega)
                  replace q_232 := (⟨q_232.1, q_232.2.1⟩ : _ ∧ _)
                  obtain ⟨f0, ef0⟩ : ∃ q, q = (I_222 mo 24).toInt := ⟨_, rfl⟩
                  have hr2 : Hid (f0 = 0 → v_228 < M ∧ fa0 = 0) := fun h9 => by omega
                  refine lv_istore_n (lv' := [(3, .int (iI v_228)), (2, .int (iI v_8)), (0, .ref mo), (1, .int (iI kd))]) F.1 F.2.1 dX7_bothTold_67 rfl hl (by decide) rfl (fun ls hl => ?_)
                  refine lv_aload_n F.1 F.2.1 dX7_bothTold_68 rfl (lv_at hl 2 rfl) ?_
                  refine lv_iload_n F.1 F.2.1 dX7_bothTold_69 rfl (lv_at hl 3 rfl) ?_
                  refine lv_aload_n F.1 F.2.1 dX7_bothTold_70 rfl (lv_at hl 2 rfl) ?_
                  refine lv_iload_n F.1 F.2.1 dX7_bothTold_71 rfl (lv_at hl 1 rfl) ?_
                  have b_255 := mJ hv hm
                  unfold mNum1 at b_255
                  refine g_calli (g_runV (As := [.int (iI v_8)]) (rest := [.int (iI kd), .ref mo]) (ci := 7) F hl.1 hH hS hz (c_X7_columns l g gh T I_222 R J_224 AI AJ AR mo v_8 zv_8 hv hm hT (by omega)) (cwV 1 F.2.2.2.2.1 (good_up gT_X7_columns) rfl rfl rfl hdX7_columns ⟨Nat.le_of_ble_eq_true rfl, Nat.le_of_ble_eq_true rfl⟩) hm (by decide) rfl rfl rfl (Nat.le_of_ble_eq_true rfl) dX7_bothTold_72 ⟨Nat.zero_le _, Nat.zero_le _⟩) hS (fun v_262 I_256 R_257 J_258 AI_259 AJ_260 AR_261 H locs zv_262 hp_263 hH hS => ?_)
                  dsimp only at hp_263
                  obtain ⟨rfl, rfl, rfl, rfl, rfl, rfl, q_254⟩ := hp_263
                  have hcol : Hid ((I_222 mo 24).toInt = 0 → 1 ≤ v_262 ∧ v_262 ≤ 4) := fun h => by have q9 := mCol hv hm (z := v_8) (by omega) (by omega); omega
                  refine lv_iload_n F.1 F.2.1 dX7_bothTold_75 rfl (lv_at hl 1 rfl) ?_
                  refine lv_iload_n F.1 F.2.1 dX7_bothTold_76 rfl (lv_at hl 0 rfl) ?_
                  refine z_iconst F dX7_bothTold_77 ?_
                  refine g_callv (g_runV (As := [.int (iI kd), .int (iI v_262), .int (iI v_8), .int (iI v_228), .int (iI 0)]) (rest := []) (ci := 7) F hl.1 hH hS hz (c_X7_headerg l g gh T M I_222 R J_224 AI AJ AR mo kd v_262 v_8 v_228 0 zkd zv_262 zv_8 zv_228 ⟨by decide, by decide⟩ hv hm hT (by omega) (by omega)) (cwV 5 F.2.2.2.2.1 (good_up gT_X7_header) rfl rfl rfl hdX7_header ⟨Nat.le_of_ble_eq_true rfl, Nat.le_of_ble_eq_true rfl⟩) hm (by decide) rfl rfl rfl (Nat.le_of_ble_eq_true rfl) dX7_bothTold_78 ⟨Nat.zero_le _, Nat.zero_le _⟩) hS (fun I_264 R_265 J_266 AI_267 AJ_268 AR_269 H locs hp_270 hH hS => ?_)
                  dsimp only at hp_270
                  obtain ⟨rfl, rfl, rfl, rfl, rfl, hv, hT, hhd, q_271⟩ := hp_270
                  replace hhd := hid hhd
                  have hQ : mQ gh I_222 J_224 AI_267 AJ mo b nn nr nt cc (pRf b nn nt nr (h + 1)) (h + 1) := mQ_bad hQ (by omega) rfl
                  have hfin : thn (f, h, 0) (fun t _ => sTwo b nn nr nt cc t) = (pRf b nn nt nr (h + 1), h + 1, 0) := by
                    refine (thn_k q0).trans ?_
                    show sTwo b nn nr nt cc h = _
                    unfold sTwo
                    repeat (first | with_reducible rfl | refine ite_y (by omega) ?_ | refine ite_n (by omega) ?_ | refine thn_t sr_10 (by first | rfl | omega) ?_ | exact (thn_x sr_10.symm (by omega)).trans (pr_e (by omega) (by omega) (by omega)) | refine thn_t sr_230 (by first | rfl | omega) ?_ | exact (thn_x sr_230.symm (by omega)).trans (pr_e (by omega) (by omega) (by omega)) | refine ite_y (pRf_0 (by omega) (by omega)) ?_ | refine ite_n (fun e9 => absurd (pRf_i e9) (by omega)) ?_ | exact pr_e (by omega) (by omega) (by omega) | refine ite_y (pCf_ok (by omega) (by omega)) ?_ | refine ite_n (fun e9 => absurd (pCf_0 e9) (by omega)) ?_ | exact pr_e (pCf_no (by omega)) (by omega) (by omega) | exact pr_e (pCf_big (by omega) (by omega)) (by omega) (by omega))
                  exact g_vret F hr hlk hH hS hz ⟨rfl, rfl, rfl, hv, hT, pf, by first | (dsimp only; omega) | omega | rfl, by (try dsimp only); exact (fun hf => absurd hf (by omega)), by (try dsimp only); exact (fun hf => absurd hf (by omega)), by (try dsimp only); rw [hfin]; exact hQ, by (try dsimp only); rw [hfin]; exact pIc_n (by omega), by (try dsimp only); rw [hfin]; exact zIf_n (by omega), by (try dsimp only); rw [hfin]; exact zIf_n (by omega), fun b hb => q_271 b hb⟩ dX7_bothTold_81
              · refine lv_aload_n F.1 F.2.1 dX7_bothTold_58 rfl (lv_at hl 1 rfl) ?_
                refine z_iconst F dX7_bothTold_59 ?_
                refine g_callv (g_runV (As := [.int (iI 5)]) (rest := []) (ci := 7) F hl.1 hH hS hz (c_X7_wrongf l g gh T b nn nr nt cc 0 (h + 1) I_2 R J_4 AI AJ AR mo 5 ⟨by decide, by decide⟩ hv hm hT (by omega) h65 hbM hr7 (by omega) hn9 (by omega) hQ) (cwV 1 F.2.2.2.2.1 (good_up gT_X7_wrong) rfl rfl rfl hdX7_wrong ⟨Nat.le_of_ble_eq_true rfl, Nat.le_of_ble_eq_true rfl⟩) hm (by decide) rfl rfl rfl (Nat.le_of_ble_eq_true rfl) dX7_bothTold_60 ⟨Nat.zero_le _, Nat.zero_le _⟩) hS (fun I_272 R_273 J_274 AI_275 AJ_276 AR_277 H locs hp_278 hH hS => ?_)
                dsimp only at hp_278
                obtain ⟨r_279, er_279⟩ : ∃ qQ : pR, qQ = thn (0, (h + 1), 0) (fun t _ => (5, t, 0)) := ⟨_, rfl⟩
                rw [← er_279] at hp_278
                obtain ⟨rfl, rfl, rfl, rfl, rfl, hv, pfq, q_280, hQ⟩ := hp_278
                have pf := qF_t pf pfq
                have u_281_2 : (I_272 mo 2).toInt = (I mo 2).toInt := by rw [pf 2 (by decide) (by decide) (by decide) (by decide) (by decide)]
                have u_281_5 : (I_272 mo 5).toInt = (I mo 5).toInt := by rw [pf 5 (by decide) (by decide) (by decide) (by decide) (by decide)]
                have u_281_14 : (I_272 mo 14).toInt = (I mo 14).toInt := by rw [pf 14 (by decide) (by decide) (by decide) (by decide) (by decide)]
                have u_281_16 : (I_272 mo 16).toInt = (I mo 16).toInt := by rw [pf 16 (by decide) (by decide) (by decide) (by decide) (by decide)]
                have u_281_18 : (I_272 mo 18).toInt = (I mo 18).toInt := by rw [pf 18 (by decide) (by decide) (by decide) (by decide) (by decide)]
                have er_279 : r_279 = (5, (h + 1), 0) := er_279
                have hQ : mQ gh I_272 J_4 AI AJ mo b nn nr nt cc 5 (h + 1) := by rw [er_279] at hQ; exact hQ
                have q9_r_279 : (5 : Int) ≠ 0 := by omega
                have g9_r_279 := mQ_f hQ q9_r_279
                refine lv_aload_n F.1 F.2.1 dX7_bothTold_63 rfl (lv_at hl 1 rfl) ?_
                have b_282 := mJ hv hm
                unfold mNum1 at b_282
                refine g_calli (g_runV (As := []) (rest := []) (ci := 7) F hl.1 hH hS hz (c_X7_relationg l g gh T b nn nr nt cc 5 (h + 1) I_272 R J_4 AI AJ AR mo hv hm hT (by omega) h65 hbM hr7 (by omega) hn9 (by omega) hQ) (cwV 0 F.2.2.2.2.1 (good_up gT_X7_relation) rfl rfl rfl hdX7_relation ⟨Nat.le_of_ble_eq_true rfl, Nat.le_of_ble_eq_true rfl⟩) hm (by decide) rfl rfl rfl (Nat.le_of_ble_eq_true rfl) dX7_bothTold_64 ⟨Nat.zero_le _, Nat.zero_le _⟩) hS (fun v_289 I_283 R_284 J_285 AI_286 AJ_287 AR_288 H locs zv_289 hp_290 hH hS => ?_)
                dsimp only at hp_290
                obtain ⟨r_291, er_291⟩ : ∃ qQ : pR, qQ = thn (5, (h + 1), 0) (fun t _ => sRl b nn nr nt cc t) := ⟨_, rfl⟩
                rw [← er_291] at hp_290
                obtain ⟨rfl, rfl, rfl, rfl, hv, pfq, q_292, q_293, hQ, q_294, q_295⟩ := hp_290
                have pf := qF_t pf pfq
                have u_296_2 : (I_283 mo 2).toInt = (I mo 2).toInt := by rw [pf 2 (by decide) (by decide) (by decide) (by decide) (by decide)]
                have u_296_5 : (I_283 mo 5).toInt = (I mo 5).toInt := by rw [pf 5 (by decide) (by decide) (by decide) (by decide) (by decide)]
                have u_296_14 : (I_283 mo 14).toInt = (I mo 14).toInt := by rw [pf 14 (by decide) (by decide) (by decide) (by decide) (by decide)]
                have u_296_16 : (I_283 mo 16).toInt = (I mo 16).toInt := by rw [pf 16 (by decide) (by decide) (by decide) (by decide) (by decide)]
                have u_296_18 : (I_283 mo 18).toInt = (I mo 18).toInt := by rw [pf 18 (by decide) (by decide) (by decide) (by decide) (by decide)]
                rw [thn_b (by omega)] at er_291
                have hQ : mQ gh I_283 J_285 AI AJ mo b nn nr nt cc 5 (h + 1) := by rw [er_291] at hQ; exact hQ
                replace q_293 := (⟨q_293.1, q_293.2.1⟩ : _ ∧ _)
                obtain ⟨f0, ef0⟩ : ∃ q, q = (I_283 mo 24).toInt := ⟨_, rfl⟩
                have hr2 : Hid (f0 = 0 → v_289 < M ∧ fa0 = 0) := fun h9 => by omega
                refine lv_istore_n (lv' := [(3, .int (iI v_289)), (2, .int (iI v_8)), (0, .ref mo), (1, .int (iI kd))]) F.1 F.2.1 dX7_bothTold_67 rfl hl (by decide) rfl (fun ls hl => ?_)
                refine lv_aload_n F.1 F.2.1 dX7_bothTold_68 rfl (lv_at hl 2 rfl) ?_
                refine lv_iload_n F.1 F.2.1 dX7_bothTold_69 rfl (lv_at hl 3 rfl) ?_
                refine lv_aload_n F.1 F.2.1 dX7_bothTold_70 rfl (lv_at hl 2 rfl) ?_
                refine lv_iload_n F.1 F.2.1 dX7_bothTold_71 rfl (lv_at hl 1 rfl) ?_
                have b_298 := mJ hv hm
                unfold mNum1 at b_298
                refine g_calli (g_runV (As := [.int (iI v_8)]) (rest := [.int (iI kd), .ref mo]) (ci := 7) F hl.1 hH hS hz (c_X7_columns l g gh T I_283 R J_285 AI AJ AR mo v_8 zv_8 hv hm hT (by omega)) (cwV 1 F.2.2.2.2.1 (good_up gT_X7_columns) rfl rfl rfl hdX7_columns ⟨Nat.le_of_ble_eq_true rfl, Nat.le_of_ble_eq_true rfl⟩) hm (by decide) rfl rfl rfl (Nat.le_of_ble_eq_true rfl) dX7_bothTold_72 ⟨Nat.zero_le _, Nat.zero_le _⟩) hS (fun v_305 I_299 R_300 J_301 AI_302 AJ_303 AR_304 H locs zv_305 hp_306 hH hS => ?_)
                dsimp only at hp_306
                obtain ⟨rfl, rfl, rfl, rfl, rfl, rfl, q_297⟩ := hp_306
                have hcol : Hid ((I_283 mo 24).toInt = 0 → 1 ≤ v_305 ∧ v_305 ≤ 4) := fun h => by have q9 := mCol hv hm (z := v_8) (by omega) (by omega); omega
                refine lv_iload_n F.1 F.2.1 dX7_bothTold_75 rfl (lv_at hl 1 rfl) ?_
                refine lv_iload_n F.1 F.2.1 dX7_bothTold_76 rfl (lv_at hl 0 rfl) ?_
                refine z_iconst F dX7_bothTold_77 ?_
                refine g_callv (g_runV (As := [.int (iI kd), .int (iI v_305), .int (iI v_8), .int (iI v_289), .int (iI 0)]) (rest := []) (ci := 7) F hl.1 hH hS hz (c_X7_headerg l g gh T M I_283 R J_285 AI AJ AR mo kd v_305 v_8 v_289 0 zkd zv_305 zv_8 zv_289 ⟨by decide, by decide⟩ hv hm hT (by omega) (by omega)) (cwV 5 F.2.2.2.2.1 (good_up gT_X7_header) rfl rfl rfl hdX7_header ⟨Nat.le_of_ble_eq_true rfl, Nat.le_of_ble_eq_true rfl⟩) hm (by decide) rfl rfl rfl (Nat.le_of_ble_eq_true rfl) dX7_bothTold_78 ⟨Nat.zero_le _, Nat.zero_le _⟩) hS (fun I_307 R_308 J_309 AI_310 AJ_311 AR_312 H locs hp_313 hH hS => ?_)
                dsimp only at hp_313
                obtain ⟨rfl, rfl, rfl, rfl, rfl, hv, hT, hhd, q_314⟩ := hp_313
                replace hhd := hid hhd
                have hQ : mQ gh I_283 J_285 AI_310 AJ mo b nn nr nt cc 5 (h + 1) := mQ_bad hQ (by omega) rfl
                have hfin : thn (f, h, 0) (fun t _ => sTwo b nn nr nt cc t) = (5, h + 1, 0) := by
                  refine (thn_k q0).trans ?_
                  show sTwo b nn nr nt cc h = _
                  unfold sTwo
                  repeat (first | with_reducible rfl | refine ite_y (by omega) ?_ | refine ite_n (by omega) ?_ | refine thn_t sr_10 (by first | rfl | omega) ?_ | exact (thn_x sr_10.symm (by omega)).trans (pr_e (by omega) (by omega) (by omega)) | refine ite_y (pRf_0 (by omega) (by omega)) ?_ | refine ite_n (fun e9 => absurd (pRf_i e9) (by omega)) ?_ | exact pr_e (by omega) (by omega) (by omega) | refine ite_y (pCf_ok (by omega) (by omega)) ?_ | refine ite_n (fun e9 => absurd (pCf_0 e9) (by omega)) ?_ | exact pr_e (pCf_no (by omega)) (by omega) (by omega) | exact pr_e (pCf_big (by omega) (by omega)) (by omega) (by omega))
                exact g_vret F hr hlk hH hS hz ⟨rfl, rfl, rfl, hv, hT, pf, by first | (dsimp only; omega) | omega | rfl, by (try dsimp only); exact (fun hf => absurd hf (by omega)), by (try dsimp only); exact (fun hf => absurd hf (by omega)), by (try dsimp only); rw [hfin]; exact hQ, by (try dsimp only); rw [hfin]; exact pIc_n (by omega), by (try dsimp only); rw [hfin]; exact zIf_n (by omega), by (try dsimp only); rw [hfin]; exact zIf_n (by omega), fun b hb => q_314 b hb⟩ dX7_bothTold_81
    · have hQ : mQ gh I_2 J_4 AI AJ mo b nn nr nt cc (pRf b nn nt nr h) h := by rw [er_10] at hQ; exact hQ
      have sr_10 := sr_10.symm.trans er_10
      have g9r_10 := mQ_f hQ (by omega)
      replace q_12 := (⟨q_12.1, q_12.2.1⟩ : _ ∧ _)
      obtain ⟨fa0, efa0⟩ : ∃ q, q = (I_2 mo 24).toInt := ⟨_, rfl⟩
      have hra : Hid (fa0 = 0 → v_8 < M) := fun h9 => by omega
      refine lv_istore_n (lv' := [(2, .int (iI v_8)), (0, .ref mo), (1, .int (iI kd))]) F.1 F.2.1 dX7_bothTold_4 rfl hl (by decide) rfl (fun ls hl => ?_)
      refine lv_aload_n F.1 F.2.1 dX7_bothTold_5 rfl (lv_at hl 1 rfl) ?_
      refine g_getI (ci := 7) (k := 24) F hH rfl (by decide) iX7 hm (by decide) rfl k81 dX7_bothTold_6 ?_
      have b_315 := mJ hv hm
      unfold mNum1 at b_315
      refine z_if_ne (tgt := 63) F dX7_bothTold_9 (by decide) (zr_t _) (fun c_316 => ?_) (fun c_316 => ?_)
      · refine lv_aload_n F.1 F.2.1 dX7_bothTold_63 rfl (lv_at hl 1 rfl) ?_
        refine g_calli (g_runV (As := []) (rest := []) (ci := 7) F hl.1 hH hS hz (c_X7_relationg l g gh T b nn nr nt cc (pRf b nn nt nr h) h I_2 R J_4 AI AJ AR mo hv hm hT (by omega) h65 hbM hr7 (by omega) hn9 (by omega) hQ) (cwV 0 F.2.2.2.2.1 (good_up gT_X7_relation) rfl rfl rfl hdX7_relation ⟨Nat.le_of_ble_eq_true rfl, Nat.le_of_ble_eq_true rfl⟩) hm (by decide) rfl rfl rfl (Nat.le_of_ble_eq_true rfl) dX7_bothTold_64 ⟨Nat.zero_le _, Nat.zero_le _⟩) hS (fun v_323 I_317 R_318 J_319 AI_320 AJ_321 AR_322 H locs zv_323 hp_324 hH hS => ?_)
        dsimp only at hp_324
        obtain ⟨r_325, er_325⟩ : ∃ qQ : pR, qQ = thn ((pRf b nn nt nr h), h, 0) (fun t _ => sRl b nn nr nt cc t) := ⟨_, rfl⟩
        rw [← er_325] at hp_324
        obtain ⟨rfl, rfl, rfl, rfl, hv, pfq, q_326, q_327, hQ, q_328, q_329⟩ := hp_324
        have pf := qF_t pf pfq
        have u_330_2 : (I_317 mo 2).toInt = (I mo 2).toInt := by rw [pf 2 (by decide) (by decide) (by decide) (by decide) (by decide)]
        have u_330_5 : (I_317 mo 5).toInt = (I mo 5).toInt := by rw [pf 5 (by decide) (by decide) (by decide) (by decide) (by decide)]
        have u_330_14 : (I_317 mo 14).toInt = (I mo 14).toInt := by rw [pf 14 (by decide) (by decide) (by decide) (by decide) (by decide)]
        have u_330_16 : (I_317 mo 16).toInt = (I mo 16).toInt := by rw [pf 16 (by decide) (by decide) (by decide) (by decide) (by decide)]
        have u_330_18 : (I_317 mo 18).toInt = (I mo 18).toInt := by rw [pf 18 (by decide) (by decide) (by decide) (by decide) (by decide)]
        rw [thn_b (by omega)] at er_325
        have hQ : mQ gh I_317 J_319 AI AJ mo b nn nr nt cc (pRf b nn nt nr h) h := by rw [er_325] at hQ; exact hQ
        replace q_327 := (⟨q_327.1, q_327.2.1⟩ : _ ∧ _)
        obtain ⟨f0, ef0⟩ : ∃ q, q = (I_317 mo 24).toInt := ⟨_, rfl⟩
        have hr2 : Hid (f0 = 0 → v_323 < M ∧ fa0 = 0) := fun h9 => by omega
        refine lv_istore_n (lv' := [(3, .int (iI v_323)), (2, .int (iI v_8)), (0, .ref mo), (1, .int (iI kd))]) F.1 F.2.1 dX7_bothTold_67 rfl hl (by decide) rfl (fun ls hl => ?_)
        refine lv_aload_n F.1 F.2.1 dX7_bothTold_68 rfl (lv_at hl 2 rfl) ?_
        refine lv_iload_n F.1 F.2.1 dX7_bothTold_69 rfl (lv_at hl 3 rfl) ?_
        refine lv_aload_n F.1 F.2.1 dX7_bothTold_70 rfl (lv_at hl 2 rfl) ?_
        refine lv_iload_n F.1 F.2.1 dX7_bothTold_71 rfl (lv_at hl 1 rfl) ?_
        have b_332 := mJ hv hm
        unfold mNum1 at b_332
        refine g_calli (g_runV (As := [.int (iI v_8)]) (rest := [.int (iI kd), .ref mo]) (ci := 7) F hl.1 hH hS hz (c_X7_columns l g gh T I_317 R J_319 AI AJ AR mo v_8 zv_8 hv hm hT (by omega)) (cwV 1 F.2.2.2.2.1 (good_up gT_X7_columns) rfl rfl rfl hdX7_columns ⟨Nat.le_of_ble_eq_true rfl, Nat.le_of_ble_eq_true rfl⟩) hm (by decide) rfl rfl rfl (Nat.le_of_ble_eq_true rfl) dX7_bothTold_72 ⟨Nat.zero_le _, Nat.zero_le _⟩) hS (fun v_339 I_333 R_334 J_335 AI_336 AJ_337 AR_338 H locs zv_339 hp_340 hH hS => ?_)
        dsimp only at hp_340
        obtain ⟨rfl, rfl, rfl, rfl, rfl, rfl, q_331⟩ := hp_340
        have hcol : Hid ((I_317 mo 24).toInt = 0 → 1 ≤ v_339 ∧ v_339 ≤ 4) := fun h => by have q9 := mCol hv hm (z := v_8) (by omega) (by omega); omega
        refine lv_iload_n F.1 F.2.1 dX7_bothTold_75 rfl (lv_at hl 1 rfl) ?_
        refine lv_iload_n F.1 F.2.1 dX7_bothTold_76 rfl (lv_at hl 0 rfl) ?_
        refine z_iconst F dX7_bothTold_77 ?_
        refine g_callv (g_runV (As := [.int (iI kd), .int (iI v_339), .int (iI v_8), .int (iI v_323), .int (iI 0)]) (rest := []) (ci := 7) F hl.1 hH hS hz (c_X7_headerg l g gh T M I_317 R J_319 AI AJ AR mo kd v_339 v_8 v_323 0 zkd zv_339 zv_8 zv_323 ⟨by decide, by decide⟩ hv hm hT (by omega) (by omega)) (cwV 5 F.2.2.2.2.1 (good_up gT_X7_header) rfl rfl rfl hdX7_header ⟨Nat.le_of_ble_eq_true rfl, Nat.le_of_ble_eq_true rfl⟩) hm (by decide) rfl rfl rfl (Nat.le_of_ble_eq_true rfl) dX7_bothTold_78 ⟨Nat.zero_le _, Nat.zero_le _⟩) hS (fun I_341 R_342 J_343 AI_344 AJ_345 AR_346 H locs hp_347 hH hS => ?_)
        dsimp only at hp_347
        obtain ⟨rfl, rfl, rfl, rfl, rfl, hv, hT, hhd, q_348⟩ := hp_347
        replace hhd := hid hhd
        have hQ : mQ gh I_317 J_319 AI_344 AJ mo b nn nr nt cc (pRf b nn nt nr h) h := mQ_bad hQ (by omega) rfl
        have hfin : thn (f, h, 0) (fun t _ => sTwo b nn nr nt cc t) = (pRf b nn nt nr h, h, 0) := by
          refine (thn_k q0).trans ?_
          show sTwo b nn nr nt cc h = _
          unfold sTwo
          repeat (first | with_reducible rfl | refine ite_y (by omega) ?_ | refine ite_n (by omega) ?_ | refine thn_t sr_10 (by first | rfl | omega) ?_ | exact (thn_x sr_10.symm (by omega)).trans (pr_e (by omega) (by omega) (by omega)) | refine ite_y (pRf_0 (by omega) (by omega)) ?_ | refine ite_n (fun e9 => absurd (pRf_i e9) (by omega)) ?_ | exact pr_e (by omega) (by omega) (by omega) | refine ite_y (pCf_ok (by omega) (by omega)) ?_ | refine ite_n (fun e9 => absurd (pCf_0 e9) (by omega)) ?_ | exact pr_e (pCf_no (by omega)) (by omega) (by omega) | exact pr_e (pCf_big (by omega) (by omega)) (by omega) (by omega))
        exact g_vret F hr hlk hH hS hz ⟨rfl, rfl, rfl, hv, hT, pf, by first | (dsimp only; omega) | omega | rfl, by (try dsimp only); exact (fun hf => absurd hf (by omega)), by (try dsimp only); exact (fun hf => absurd hf (by omega)), by (try dsimp only); rw [hfin]; exact hQ, by (try dsimp only); rw [hfin]; exact pIc_n (by omega), by (try dsimp only); rw [hfin]; exact zIf_n (by omega), by (try dsimp only); rw [hfin]; exact zIf_n (by omega), fun b hb => q_348 b hb⟩ dX7_bothTold_81
      · exact absurd (mQ_z hQ (by omega)) (by omega)
  · have hf1 := mQ_f hQ q0
    refine lv_aload_n F.1 F.2.1 dX7_bothTold_0 rfl (lv_at hl 0 rfl) ?_
    have b_349 := mJ hv hm
    unfold mNum1 at b_349
    refine g_calli (g_runV (As := []) (rest := []) (ci := 7) F hl.1 hH hS hz (c_X7_relationg l g gh T b nn nr nt cc f h I R J AI AJ AR mo hv hm hT (by omega) h65 hbM hr7 (by omega) hn9 (by omega) hQ) (cwV 0 F.2.2.2.2.1 (good_up gT_X7_relation) rfl rfl rfl hdX7_relation ⟨Nat.le_of_ble_eq_true rfl, Nat.le_of_ble_eq_true rfl⟩) hm (by decide) rfl rfl rfl (Nat.le_of_ble_eq_true rfl) dX7_bothTold_1 ⟨Nat.zero_le _, Nat.zero_le _⟩) hS (fun v_356 I_350 R_351 J_352 AI_353 AJ_354 AR_355 H locs zv_356 hp_357 hH hS => ?_)
    dsimp only at hp_357
    obtain ⟨r_358, er_358⟩ : ∃ qQ : pR, qQ = thn (f, h, 0) (fun t _ => sRl b nn nr nt cc t) := ⟨_, rfl⟩
    rw [← er_358] at hp_357
    obtain ⟨rfl, rfl, rfl, rfl, hv, pfq, q_359, q_360, hQ, q_361, q_362⟩ := hp_357
    have pf := qF_t pf pfq
    have u_363_2 : (I_350 mo 2).toInt = (I mo 2).toInt := by rw [pf 2 (by decide) (by decide) (by decide) (by decide) (by decide)]
    have u_363_5 : (I_350 mo 5).toInt = (I mo 5).toInt := by rw [pf 5 (by decide) (by decide) (by decide) (by decide) (by decide)]
    have u_363_14 : (I_350 mo 14).toInt = (I mo 14).toInt := by rw [pf 14 (by decide) (by decide) (by decide) (by decide) (by decide)]
    have u_363_16 : (I_350 mo 16).toInt = (I mo 16).toInt := by rw [pf 16 (by decide) (by decide) (by decide) (by decide) (by decide)]
    have u_363_18 : (I_350 mo 18).toInt = (I mo 18).toInt := by rw [pf 18 (by decide) (by decide) (by decide) (by decide) (by decide)]
    rw [thn_b (by omega)] at er_358
    have hQ : mQ gh I_350 J_352 AI AJ mo b nn nr nt cc f h := by rw [er_358] at hQ; exact hQ
    replace q_360 := (⟨q_360.1, q_360.2.1⟩ : _ ∧ _)
    obtain ⟨fa0, efa0⟩ : ∃ q, q = (I_350 mo 24).toInt := ⟨_, rfl⟩
    have hra : Hid (fa0 = 0 → v_356 < M) := fun h9 => by omega
    refine lv_istore_n (lv' := [(2, .int (iI v_356)), (0, .ref mo), (1, .int (iI kd))]) F.1 F.2.1 dX7_bothTold_4 rfl hl (by decide) rfl (fun ls hl => ?_)
    refine lv_aload_n F.1 F.2.1 dX7_bothTold_5 rfl (lv_at hl 1 rfl) ?_
    refine g_getI (ci := 7) (k := 24) F hH rfl (by decide) iX7 hm (by decide) rfl k81 dX7_bothTold_6 ?_
    have b_364 := mJ hv hm
    unfold mNum1 at b_364
    refine z_if_ne (tgt := 63) F dX7_bothTold_9 (by decide) (zr_t _) (fun c_365 => ?_) (fun c_365 => ?_)
    · refine lv_aload_n F.1 F.2.1 dX7_bothTold_63 rfl (lv_at hl 1 rfl) ?_
      refine g_calli (g_runV (As := []) (rest := []) (ci := 7) F hl.1 hH hS hz (c_X7_relationg l g gh T b nn nr nt cc f h I_350 R J_352 AI AJ AR mo hv hm hT (by omega) h65 hbM hr7 (by omega) hn9 (by omega) hQ) (cwV 0 F.2.2.2.2.1 (good_up gT_X7_relation) rfl rfl rfl hdX7_relation ⟨Nat.le_of_ble_eq_true rfl, Nat.le_of_ble_eq_true rfl⟩) hm (by decide) rfl rfl rfl (Nat.le_of_ble_eq_true rfl) dX7_bothTold_64 ⟨Nat.zero_le _, Nat.zero_le _⟩) hS (fun v_372 I_366 R_367 J_368 AI_369 AJ_370 AR_371 H locs zv_372 hp_373 hH hS => ?_)
      dsimp only at hp_373
      obtain ⟨r_374, er_374⟩ : ∃ qQ : pR, qQ = thn (f, h, 0) (fun t _ => sRl b nn nr nt cc t) := ⟨_, rfl⟩
      rw [← er_374] at hp_373
      obtain ⟨rfl, rfl, rfl, rfl, hv, pfq, q_375, q_376, hQ, q_377, q_378⟩ := hp_373
      have pf := qF_t pf pfq
      have u_379_2 : (I_366 mo 2).toInt = (I mo 2).toInt := by rw [pf 2 (by decide) (by decide) (by decide) (by decide) (by decide)]
      have u_379_5 : (I_366 mo 5).toInt = (I mo 5).toInt := by rw [pf 5 (by decide) (by decide) (by decide) (by decide) (by decide)]
      have u_379_14 : (I_366 mo 14).toInt = (I mo 14).toInt := by rw [pf 14 (by decide) (by decide) (by decide) (by decide) (by decide)]
      have u_379_16 : (I_366 mo 16).toInt = (I mo 16).toInt := by rw [pf 16 (by decide) (by decide) (by decide) (by decide) (by decide)]
      have u_379_18 : (I_366 mo 18).toInt = (I mo 18).toInt := by rw [pf 18 (by decide) (by decide) (by decide) (by decide) (by decide)]
      rw [thn_b (by omega)] at er_374
      have hQ : mQ gh I_366 J_368 AI AJ mo b nn nr nt cc f h := by rw [er_374] at hQ; exact hQ
      replace q_376 := (⟨q_376.1, q_376.2.1⟩ : _ ∧ _)
      obtain ⟨f0, ef0⟩ : ∃ q, q = (I_366 mo 24).toInt := ⟨_, rfl⟩
      have hr2 : Hid (f0 = 0 → v_372 < M ∧ fa0 = 0) := fun h9 => by omega
      refine lv_istore_n (lv' := [(3, .int (iI v_372)), (2, .int (iI v_356)), (0, .ref mo), (1, .int (iI kd))]) F.1 F.2.1 dX7_bothTold_67 rfl hl (by decide) rfl (fun ls hl => ?_)
      refine lv_aload_n F.1 F.2.1 dX7_bothTold_68 rfl (lv_at hl 2 rfl) ?_
      refine lv_iload_n F.1 F.2.1 dX7_bothTold_69 rfl (lv_at hl 3 rfl) ?_
      refine lv_aload_n F.1 F.2.1 dX7_bothTold_70 rfl (lv_at hl 2 rfl) ?_
      refine lv_iload_n F.1 F.2.1 dX7_bothTold_71 rfl (lv_at hl 1 rfl) ?_
      have b_381 := mJ hv hm
      unfold mNum1 at b_381
      refine g_calli (g_runV (As := [.int (iI v_356)]) (rest := [.int (iI kd), .ref mo]) (ci := 7) F hl.1 hH hS hz (c_X7_columns l g gh T I_366 R J_368 AI AJ AR mo v_356 zv_356 hv hm hT (by omega)) (cwV 1 F.2.2.2.2.1 (good_up gT_X7_columns) rfl rfl rfl hdX7_columns ⟨Nat.le_of_ble_eq_true rfl, Nat.le_of_ble_eq_true rfl⟩) hm (by decide) rfl rfl rfl (Nat.le_of_ble_eq_true rfl) dX7_bothTold_72 ⟨Nat.zero_le _, Nat.zero_le _⟩) hS (fun v_388 I_382 R_383 J_384 AI_385 AJ_386 AR_387 H locs zv_388 hp_389 hH hS => ?_)
      dsimp only at hp_389
      obtain ⟨rfl, rfl, rfl, rfl, rfl, rfl, q_380⟩ := hp_389
      have hcol : Hid ((I_366 mo 24).toInt = 0 → 1 ≤ v_388 ∧ v_388 ≤ 4) := fun h => by have q9 := mCol hv hm (z := v_356) (by omega) (by omega); omega
      refine lv_iload_n F.1 F.2.1 dX7_bothTold_75 rfl (lv_at hl 1 rfl) ?_
      refine lv_iload_n F.1 F.2.1 dX7_bothTold_76 rfl (lv_at hl 0 rfl) ?_
      refine z_iconst F dX7_bothTold_77 ?_
      refine g_callv (g_runV (As := [.int (iI kd), .int (iI v_388), .int (iI v_356), .int (iI v_372), .int (iI 0)]) (rest := []) (ci := 7) F hl.1 hH hS hz (c_X7_headerg l g gh T M I_366 R J_368 AI AJ AR mo kd v_388 v_356 v_372 0 zkd zv_388 zv_356 zv_372 ⟨by decide, by decide⟩ hv hm hT (by omega) (by omega)) (cwV 5 F.2.2.2.2.1 (good_up gT_X7_header) rfl rfl rfl hdX7_header ⟨Nat.le_of_ble_eq_true rfl, Nat.le_of_ble_eq_true rfl⟩) hm (by decide) rfl rfl rfl (Nat.le_of_ble_eq_true rfl) dX7_bothTold_78 ⟨Nat.zero_le _, Nat.zero_le _⟩) hS (fun I_390 R_391 J_392 AI_393 AJ_394 AR_395 H locs hp_396 hH hS => ?_)
      dsimp only at hp_396
      obtain ⟨rfl, rfl, rfl, rfl, rfl, hv, hT, hhd, q_397⟩ := hp_396
      replace hhd := hid hhd
      have hQ : mQ gh I_366 J_368 AI_393 AJ mo b nn nr nt cc f h := mQ_bad hQ (by omega) rfl
      have hfin : thn (f, h, 0) (fun t _ => sTwo b nn nr nt cc t) = (f, h, 0) := thn_b q0
      exact g_vret F hr hlk hH hS hz ⟨rfl, rfl, rfl, hv, hT, pf, by first | (dsimp only; omega) | omega | rfl, by (try dsimp only); exact (fun hf => absurd hf (by omega)), by (try dsimp only); exact (fun hf => absurd hf (by omega)), by (try dsimp only); rw [hfin]; exact hQ, by (try dsimp only); rw [hfin]; exact pIc_n (by omega), by (try dsimp only); rw [hfin]; exact zIf_n (by omega), by (try dsimp only); rw [hfin]; exact zIf_n (by omega), fun b hb => q_397 b hb⟩ dX7_bothTold_81
    · exact absurd (mQ_z hQ (by omega)) (by omega)
