def rmX7_selectToldg : Room := { frames := 8, cells := 0, slots := 0, locals := 170 }
set_option maxHeartbeats 4000000 in
set_option maxRecDepth 100000 in
/-- a selection told -/
theorem c_X7_selectToldg (l : Launch) (g : gG) (gh : gGh) (T : Nat → Int32) (M : Int) (b : tTx) (nn nr : Nat) (nt : Nat → Nat) (cc : Nat → Int) (f : Int) (h : Nat) (I : gI) (R : gR) (J : gJ) (AI : gI) (AJ : gJ) (AR : gR) (mo : Nat) (hv : mInv g gh R I AI) (hm : gO g mo 7) (hT : AI (gh 50 0) = T) (hE : (I mo 20).toInt ≤ 936) (hM : (I mo 24).toInt = 0 → (I mo 5).toInt ≤ 15) (hMM : (I mo 5).toInt = M) (h65 : gh 9 (gh 65 0) ≠ 5) (hbM : ∀ k : Nat, k < nn → ((gM g).2 (gh 65 0) k).toInt = b k % 256) (hr7 : ∀ k : Nat, -128 ≤ b k ∧ b k ≤ 127) (hsz : (I mo 18).toInt = (nn : Int)) (hn9 : nn ≤ 900) (hm5 : (I mo 5).toInt = (nr : Int)) (hQ : mQ gh I J AI AJ mo b nn nr nt cc f h) : gMet l g yX7_selectTold tsX7_selectTold rmX7_selectToldg [.ref mo] (I, R, J, AI, AJ, AR) (gQv g (fun w : gS => R = w.2.1 ∧ AJ = w.2.2.2.2.1 ∧ AR = w.2.2.2.2.2 ∧ (mInv g gh R (w.1) (w.2.2.2.1)) ∧ ((w.2.2.2.1) (gh 50 0) = T) ∧ (qF mo I (w.1)) ∧ (((w.1) mo 20).toInt ≤ 936 ∧ (I mo 24).toInt ≤ ((w.1) mo 24).toInt) ∧ (((w.1) mo 24).toInt = 0 → ((w.1) mo 21).toInt = 4 → ((w.1) mo 23).toInt = 59 → rowOK ((w.2.2.2.1) (gh 53 0)) M) ∧ (((w.1) mo 24).toInt = 0 → tI ((w.2.2.2.1) (gh 53 0)) (40 * M) = 1) ∧ (mQ gh (w.1) (w.2.2.1) (w.2.2.2.1) AJ mo b nn nr nt cc (thn (f, h, 0) (fun t _ => sSel b nn nr nt cc t)).1 (thn (f, h, 0) (fun t _ => sSel b nn nr nt cc t)).2.1) ∧ (pIc (thn (f, h, 0) (fun t _ => sSel b nn nr nt cc t)).1 (pK b nn (thn (f, h, 0) (fun t _ => sSel b nn nr nt cc t)).2.1) (tI ((w.2.2.2.1) (gh 53 0)) (40 * (nr : Int) + 1)) (thn (f, h, 0) (fun t _ => sSel b nn nr nt cc t)).2.2) ∧ (zIf (thn (f, h, 0) (fun t _ => sSel b nn nr nt cc t)).1 (frM M (AI (gh 53 0)) ((w.2.2.2.1) (gh 53 0)))) ∧ (zIf (thn (f, h, 0) (fun t _ => sSel b nn nr nt cc t)).1 (mSel b nn nr nt h ((w.2.2.2.1) (gh 53 0)) M)) ∧ (∀ b, b ≠ gh 53 0 → (w.2.2.2.1) b = AI b))) := by
  refine gStart (cc := cX7_selectTold) (maxL := 8) (ret := none) (by decide) rfl (Nat.le_of_ble_eq_true rfl) ?_
  intro p e s m below meth c ls F hr hlk hH hz hS hl
  have hl : lv_has ls 8 [(0, .ref mo)] := hl
  have hS : va_S (gA g) s.heap s.heap [] := hS
  obtain ⟨H, hHe⟩ : ∃ H : Heap, H = s.heap := ⟨_, rfl⟩
  obtain ⟨locs, hlo⟩ : ∃ k : List Loc, k = [] := ⟨_, rfl⟩
  have hH : gH g I R J AI AJ AR H := by rw [hHe]; exact hH
  have hS : va_S (gA g) s.heap H locs := by rw [hHe, hlo]; exact hS
  suffices hw : W p l e rmX7_selectToldg s m ([.ref mo] : List Value).toArray below meth c H locs 0 0 (MQ below (gQv g (fun w : gS => R = w.2.1 ∧ AJ = w.2.2.2.2.1 ∧ AR = w.2.2.2.2.2 ∧ (mInv g gh R (w.1) (w.2.2.2.1)) ∧ ((w.2.2.2.1) (gh 50 0) = T) ∧ (qF mo I (w.1)) ∧ (((w.1) mo 20).toInt ≤ 936 ∧ (I mo 24).toInt ≤ ((w.1) mo 24).toInt) ∧ (((w.1) mo 24).toInt = 0 → ((w.1) mo 21).toInt = 4 → ((w.1) mo 23).toInt = 59 → rowOK ((w.2.2.2.1) (gh 53 0)) M) ∧ (((w.1) mo 24).toInt = 0 → tI ((w.2.2.2.1) (gh 53 0)) (40 * M) = 1) ∧ (mQ gh (w.1) (w.2.2.1) (w.2.2.2.1) AJ mo b nn nr nt cc (thn (f, h, 0) (fun t _ => sSel b nn nr nt cc t)).1 (thn (f, h, 0) (fun t _ => sSel b nn nr nt cc t)).2.1) ∧ (pIc (thn (f, h, 0) (fun t _ => sSel b nn nr nt cc t)).1 (pK b nn (thn (f, h, 0) (fun t _ => sSel b nn nr nt cc t)).2.1) (tI ((w.2.2.2.1) (gh 53 0)) (40 * (nr : Int) + 1)) (thn (f, h, 0) (fun t _ => sSel b nn nr nt cc t)).2.2) ∧ (zIf (thn (f, h, 0) (fun t _ => sSel b nn nr nt cc t)).1 (frM M (AI (gh 53 0)) ((w.2.2.2.1) (gh 53 0)))) ∧ (zIf (thn (f, h, 0) (fun t _ => sSel b nn nr nt cc t)).1 (mSel b nn nr nt h ((w.2.2.2.1) (gh 53 0)) M)) ∧ (∀ b, b ≠ gh 53 0 → (w.2.2.2.1) b = AI b))) ([.ref mo] : List Value).toArray s 0 0 (gA g)) (F0 m 0 ls []) by
    rw [hHe, hlo] at hw; exact hw
  clear hHe hlo
  have pf : qF mo I I := qF_r
  have hb0 := mJ hv hm
  unfold mNum1 at hb0
  have hfr : frM M (AI (gh 53 0)) (AI (gh 53 0)) := frM_r
  have iX7 : ∀ w ∈ u_ws RX7 TX7 32, w ∈ tsX7_selectTold := fun w h => List.mem_cons_of_mem _ (inTB7 w h)
  have k81 : Cond.fieldLink RX7 81 (TX7 24).1 (TX7 24).2.1 (TX7 24).2.2.1 ∈ tsX7_selectTold := List.mem_cons_of_mem _ fl_81
  have k94 : Cond.fieldLink RX7 94 (TX7 21).1 (TX7 21).2.1 (TX7 21).2.2.1 ∈ tsX7_selectTold := List.mem_cons_of_mem _ fl_94
  have k97 : Cond.fieldLink RX7 97 (TX7 23).1 (TX7 23).2.1 (TX7 23).2.2.1 ∈ tsX7_selectTold := List.mem_cons_of_mem _ fl_97
  have hf0 := mQ_p hQ
  by_cases q0 : f = 0
  · have hQ := mQ_ok hQ q0
    have hz0 := mQ_0 hQ rfl
    refine lv_aload_n F.1 F.2.1 dX7_selectTold_0 rfl (lv_at hl 0 rfl) ?_
    have b_1 := mJ hv hm
    unfold mNum1 at b_1
    refine g_calli (g_runV (As := []) (rest := []) (ci := 7) F hl.1 hH hS hz (c_X7_relationg l g gh T b nn nr nt cc 0 h I R J AI AJ AR mo hv hm hT (by omega) h65 hbM hr7 (by omega) hn9 (by omega) hQ) (cwV 0 F.2.2.2.2.1 (good_up gT_X7_relation) rfl rfl rfl hdX7_relation ⟨Nat.le_of_ble_eq_true rfl, Nat.le_of_ble_eq_true rfl⟩) hm (by decide) rfl rfl rfl (Nat.le_of_ble_eq_true rfl) dX7_selectTold_1 ⟨Nat.zero_le _, Nat.zero_le _⟩) hS (fun v_8 I_2 R_3 J_4 AI_5 AJ_6 AR_7 H locs zv_8 hp_9 hH hS => ?_)
    dsimp only at hp_9
    obtain ⟨r_10, er_10⟩ : ∃ qQ : pR, qQ = thn (0, h, 0) (fun t _ => sRl b nn nr nt cc t) := ⟨_, rfl⟩
    rw [← er_10] at hp_9
    obtain ⟨rfl, rfl, rfl, rfl, hv, pfq, q_11, q_12, hQ, q_13, q_14⟩ := hp_9
    have pf := qF_t pf pfq
    have u_15_2 : (I_2 mo 2).toInt = (I mo 2).toInt := by rw [pf 2 (by decide) (by decide) (by decide) (by decide) (by decide)]
    have u_15_5 : (I_2 mo 5).toInt = (I mo 5).toInt := by rw [pf 5 (by decide) (by decide) (by decide) (by decide) (by decide)]
    have u_15_14 : (I_2 mo 14).toInt = (I mo 14).toInt := by rw [pf 14 (by decide) (by decide) (by decide) (by decide) (by decide)]
    have u_15_16 : (I_2 mo 16).toInt = (I mo 16).toInt := by rw [pf 16 (by decide) (by decide) (by decide) (by decide) (by decide)]
    have u_15_18 : (I_2 mo 18).toInt = (I mo 18).toInt := by rw [pf 18 (by decide) (by decide) (by decide) (by decide) (by decide)]
    have er_10 : r_10 = sRl b nn nr nt cc h := er_10
    have sr_10 := er_10
    rcases sRl_c er_10 with ⟨er_10, pr_10⟩ | ⟨er_10, pr_10⟩
    · have hQ : mQ gh I_2 J_4 AI AJ mo b nn nr nt cc 0 (h + 1) := by rw [er_10] at hQ; exact hQ
      have sr_10 : sRl b nn nr nt cc h = (0, h + 1, cF b nn nr nt cc h) := sr_10.symm.trans er_10
      have vlr_10 := q_13 (by rw [er_10])
      try rw [er_10] at vlr_10
      try dsimp only at vlr_10
      replace q_12 := (⟨q_12.1, q_12.2.1, q_12.2.2 (mQ_0 hQ rfl)⟩ : _ ∧ _ ∧ _)
      have vfr_10 := q_14 (by rw [er_10])
      try rw [er_10] at vfr_10
      try dsimp only at vfr_10
      obtain ⟨f0, ef0⟩ : ∃ q, q = (I_2 mo 24).toInt := ⟨_, rfl⟩
      have hr1 : Hid (f0 = 0 → v_8 < M) := fun h9 => by omega
      refine lv_istore_n (lv' := [(1, .int (iI v_8)), (0, .ref mo)]) F.1 F.2.1 dX7_selectTold_4 rfl hl (by decide) rfl (fun ls hl => ?_)
      refine lv_aload_n F.1 F.2.1 dX7_selectTold_5 rfl (lv_at hl 1 rfl) ?_
      refine va_ldcS F.1 F.2.1 F.2.2.2.1 (F.2.2.2.2.2.2.1 10 _ rfl).1 dX7_selectTold_6 ?_
      have b_16 := mJ hv hm
      unfold mNum1 at b_16
      refine g_callv (g_runV (As := [.ref (gSK g 10)]) (rest := []) (ci := 7) F hl.1 hH hS hz (c_X7_mustWordf l g gh T 10 _ 10 b nn nr nt cc 0 (h + 1) I_2 R J_4 AI AJ AR mo hv hm hT (by omega) (rfl : sTab[10]? = some _) h65 hbM hr7 (by omega) hn9 (by omega) (by decide) (by decide +kernel) hQ) (cwV 1 F.2.2.2.2.1 (good_up gT_X7_mustWord) rfl rfl rfl hdX7_mustWord ⟨Nat.le_of_ble_eq_true rfl, Nat.le_of_ble_eq_true rfl⟩) hm (by decide) rfl rfl rfl (Nat.le_of_ble_eq_true rfl) dX7_selectTold_8 ⟨Nat.zero_le _, Nat.zero_le _⟩) hS (fun I_17 R_18 J_19 AI_20 AJ_21 AR_22 H locs hp_23 hH hS => ?_)
      dsimp only at hp_23
      obtain ⟨r_24, er_24⟩ : ∃ qQ : pR, qQ = thn (0, (h + 1), 0) (fun t _ => sTw b nn ((10 : Nat) : Int) t) := ⟨_, rfl⟩
      rw [← er_24] at hp_23
      obtain ⟨rfl, rfl, rfl, rfl, hv, pfq, q_25, hQ⟩ := hp_23
      have pf := qF_t pf pfq
      have u_26_2 : (I_17 mo 2).toInt = (I mo 2).toInt := by rw [pf 2 (by decide) (by decide) (by decide) (by decide) (by decide)]
      have u_26_5 : (I_17 mo 5).toInt = (I mo 5).toInt := by rw [pf 5 (by decide) (by decide) (by decide) (by decide) (by decide)]
      have u_26_14 : (I_17 mo 14).toInt = (I mo 14).toInt := by rw [pf 14 (by decide) (by decide) (by decide) (by decide) (by decide)]
      have u_26_16 : (I_17 mo 16).toInt = (I mo 16).toInt := by rw [pf 16 (by decide) (by decide) (by decide) (by decide) (by decide)]
      have u_26_18 : (I_17 mo 18).toInt = (I mo 18).toInt := by rw [pf 18 (by decide) (by decide) (by decide) (by decide) (by decide)]
      have er_24 : r_24 = sTw b nn 10 (h + 1) := er_24
      have sr_24 := er_24
      rcases sTw_c er_24 with ⟨er_24, pr_24⟩ | ⟨er_24, pr_24⟩
      · have hQ : mQ gh I_17 J_19 AI AJ mo b nn nr nt cc 0 (h + 2) := by rw [er_24] at hQ; exact hQ
        have sr_24 : sTw b nn 10 (h + 1) = (0, h + 2, 0) := sr_24.symm.trans er_24
        refine z_iconst F dX7_selectTold_11 ?_
        refine lv_istore_n (lv' := [(2, .int (iI 0)), (1, .int (iI v_8)), (0, .ref mo)]) F.1 F.2.1 dX7_selectTold_12 rfl hl (by decide) rfl (fun ls hl => ?_)
        refine z_iconst F dX7_selectTold_13 ?_
        refine lv_istore_n (lv' := [(3, .int (iI 1)), (2, .int (iI 0)), (1, .int (iI v_8)), (0, .ref mo)]) F.1 F.2.1 dX7_selectTold_14 rfl hl (by decide) rfl (fun ls hl => ?_)
        have cut_15_29 : ∀ (NN : Nat) (n mr : Int) (I_27 : gI) (J_28 : gJ) (AI_29 : gI) (H : Heap) (locs : List Loc) (ls : Array Slot), zr n → zr mr → (mInv g gh R I_27 AI_29) → (AI_29 (gh 50 0) = T) → (qF mo I I_27) → ((I_27 mo 20).toInt ≤ 936 ∧ f0 ≤ (I_27 mo 24).toInt ∧ 0 ≤ n ∧ n ≤ 9) → (Hid ((I_27 mo 24).toInt = 0 → n ≤ 8 ∧ selP (AI_29 (gh 53 0)) M n)) → (∃ hc : Nat, mQ gh I_27 J_28 AI_29 AJ mo b nn nr nt cc 0 hc ∧ sSel b nn nr nt cc h = sTests b nn (cF b nn nr nt cc h) (9 - n).toNat n hc ∧ iL nxT (spA b nn) 9 (h + 2) n hc ∧ qAll (rTest b nn M) nxT (AI_29 (gh 53 0)) (h + 2) n) → (mr = 1) → (frM M (AI (gh 53 0)) (AI_29 (gh 53 0))) → (∀ b, b ≠ gh 53 0 → AI_29 b = AI b) → (10 - n) < ((NN : Nat) : Int) → gH g I_27 R J_28 AI_29 AJ AR H → va_S (gA g) s.heap H locs → lv_has ls 8 [(3, .int (iI mr)), (2, .int (iI n)), (1, .int (iI v_8)), (0, .ref mo)] → W p l e rmX7_selectToldg s m ([.ref mo] : List Value).toArray below meth c H locs 0 0 (MQ below (gQv g (fun w : gS => R = w.2.1 ∧ AJ = w.2.2.2.2.1 ∧ AR = w.2.2.2.2.2 ∧ (mInv g gh R (w.1) (w.2.2.2.1)) ∧ ((w.2.2.2.1) (gh 50 0) = T) ∧ (qF mo I (w.1)) ∧ (((w.1) mo 20).toInt ≤ 936 ∧ (I mo 24).toInt ≤ ((w.1) mo 24).toInt) ∧ (((w.1) mo 24).toInt = 0 → ((w.1) mo 21).toInt = 4 → ((w.1) mo 23).toInt = 59 → rowOK ((w.2.2.2.1) (gh 53 0)) M) ∧ (((w.1) mo 24).toInt = 0 → tI ((w.2.2.2.1) (gh 53 0)) (40 * M) = 1) ∧ (mQ gh (w.1) (w.2.2.1) (w.2.2.2.1) AJ mo b nn nr nt cc (thn (f, h, 0) (fun t _ => sSel b nn nr nt cc t)).1 (thn (f, h, 0) (fun t _ => sSel b nn nr nt cc t)).2.1) ∧ (pIc (thn (f, h, 0) (fun t _ => sSel b nn nr nt cc t)).1 (pK b nn (thn (f, h, 0) (fun t _ => sSel b nn nr nt cc t)).2.1) (tI ((w.2.2.2.1) (gh 53 0)) (40 * (nr : Int) + 1)) (thn (f, h, 0) (fun t _ => sSel b nn nr nt cc t)).2.2) ∧ (zIf (thn (f, h, 0) (fun t _ => sSel b nn nr nt cc t)).1 (frM M (AI (gh 53 0)) ((w.2.2.2.1) (gh 53 0)))) ∧ (zIf (thn (f, h, 0) (fun t _ => sSel b nn nr nt cc t)).1 (mSel b nn nr nt h ((w.2.2.2.1) (gh 53 0)) M)) ∧ (∀ b, b ≠ gh 53 0 → (w.2.2.2.1) b = AI b))) ([.ref mo] : List Value).toArray s 0 0 (gA g)) (F0 m 15 ls []) := by
          intro NN15
          induction NN15 with
          | zero =>
            intro n mr I_27 J_28 AI_29 H locs ls zn zmr hv hT pf hx hp hLs hmr hfr fA9 hm15 hH hS hl
            exact absurd hm15 (by omega)
          | succ NN15 ih15 =>
            intro n mr I_27 J_28 AI_29 H locs ls zn zmr hv hT pf hx hp hLs hmr hfr fA9 hm15 hH hS hl
            (try clear u_26_18); (try clear u_26_16); (try clear u_26_14); (try clear u_26_5); (try clear u_26_2); (try clear b_16); (try clear u_15_18); (try clear u_15_16); (try clear u_15_14); (try clear u_15_5); (try clear u_15_2); (try clear b_1)
            have uc_2 : (I_27 mo 2).toInt = (I mo 2).toInt := by rw [pf 2 (by decide) (by decide) (by decide) (by decide) (by decide)]
            have uc_5 : (I_27 mo 5).toInt = (I mo 5).toInt := by rw [pf 5 (by decide) (by decide) (by decide) (by decide) (by decide)]
            have uc_14 : (I_27 mo 14).toInt = (I mo 14).toInt := by rw [pf 14 (by decide) (by decide) (by decide) (by decide) (by decide)]
            have uc_16 : (I_27 mo 16).toInt = (I mo 16).toInt := by rw [pf 16 (by decide) (by decide) (by decide) (by decide) (by decide)]
            have uc_18 : (I_27 mo 18).toInt = (I mo 18).toInt := by rw [pf 18 (by decide) (by decide) (by decide) (by decide) (by decide)]
            obtain ⟨hc, hQ, hsq⟩ := hLs
            have hp_k := hp (mQ_0 hQ rfl)
            obtain ⟨hsq, hil, hqa⟩ := hsq
            refine lv_iload_n F.1 F.2.1 dX7_selectTold_15 rfl (lv_at hl 0 rfl) ?_
            refine z_if_eq (tgt := 220) F dX7_selectTold_16 (by decide) zmr (fun c_31 => ?_) (fun c_31 => ?_)
            · exact absurd hmr (by omega)
            · refine lv_aload_n F.1 F.2.1 dX7_selectTold_19 rfl (lv_at hl 3 rfl) ?_
              refine g_getI (ci := 7) (k := 24) F hH rfl (by decide) iX7 hm (by decide) rfl k81 dX7_selectTold_20 ?_
              have b_32 := mJ hv hm
              unfold mNum1 at b_32
              refine z_if_ne (tgt := 220) F dX7_selectTold_23 (by decide) (zr_t _) (fun c_33 => ?_) (fun c_33 => ?_)
              · exact absurd (mQ_0 hQ rfl) (by omega)
              · have cut_178_36 : ∀ (l4 l5 l6 l7 : Int) (I_34 : gI) (J_35 : gJ) (AI_36 : gI) (H : Heap) (locs : List Loc) (ls : Array Slot), zr l4 → zr l5 → zr l6 → zr l7 → (mInv g gh R I_34 AI_36) → (AI_36 (gh 50 0) = T) → (qF mo I I_34) → (∃ (f9 : Int) (h9 : Nat), f9 ≠ 0 ∧ mQ gh I_34 J_35 AI_36 AJ mo b nn nr nt cc f9 h9 ∧ thn (f, h, 0) (fun t _ => sSel b nn nr nt cc t) = (f9, h9, 0)) → ((I_34 mo 20).toInt ≤ 936 ∧ (I mo 24).toInt ≤ (I_34 mo 24).toInt) → (∀ b, b ≠ gh 53 0 → AI_36 b = AI b) → gH g I_34 R J_35 AI_36 AJ AR H → va_S (gA g) s.heap H locs → lv_has ls 8 [(3, .int (iI mr)), (2, .int (iI n)), (1, .int (iI v_8)), (0, .ref mo), (4, .int (iI l4)), (5, .int (iI l5)), (6, .int (iI l6)), (7, .int (iI l7))] → W p l e rmX7_selectToldg s m ([.ref mo] : List Value).toArray below meth c H locs 0 0 (MQ below (gQv g (fun w : gS => R = w.2.1 ∧ AJ = w.2.2.2.2.1 ∧ AR = w.2.2.2.2.2 ∧ (mInv g gh R (w.1) (w.2.2.2.1)) ∧ ((w.2.2.2.1) (gh 50 0) = T) ∧ (qF mo I (w.1)) ∧ (((w.1) mo 20).toInt ≤ 936 ∧ (I mo 24).toInt ≤ ((w.1) mo 24).toInt) ∧ (((w.1) mo 24).toInt = 0 → ((w.1) mo 21).toInt = 4 → ((w.1) mo 23).toInt = 59 → rowOK ((w.2.2.2.1) (gh 53 0)) M) ∧ (((w.1) mo 24).toInt = 0 → tI ((w.2.2.2.1) (gh 53 0)) (40 * M) = 1) ∧ (mQ gh (w.1) (w.2.2.1) (w.2.2.2.1) AJ mo b nn nr nt cc (thn (f, h, 0) (fun t _ => sSel b nn nr nt cc t)).1 (thn (f, h, 0) (fun t _ => sSel b nn nr nt cc t)).2.1) ∧ (pIc (thn (f, h, 0) (fun t _ => sSel b nn nr nt cc t)).1 (pK b nn (thn (f, h, 0) (fun t _ => sSel b nn nr nt cc t)).2.1) (tI ((w.2.2.2.1) (gh 53 0)) (40 * (nr : Int) + 1)) (thn (f, h, 0) (fun t _ => sSel b nn nr nt cc t)).2.2) ∧ (zIf (thn (f, h, 0) (fun t _ => sSel b nn nr nt cc t)).1 (frM M (AI (gh 53 0)) ((w.2.2.2.1) (gh 53 0)))) ∧ (zIf (thn (f, h, 0) (fun t _ => sSel b nn nr nt cc t)).1 (mSel b nn nr nt h ((w.2.2.2.1) (gh 53 0)) M)) ∧ (∀ b, b ≠ gh 53 0 → (w.2.2.2.1) b = AI b))) ([.ref mo] : List Value).toArray s 0 0 (gA g)) (F0 m 178 ls []) := by
                  intro l4 l5 l6 l7 I_34 J_35 AI_36 H locs ls zl4 zl5 zl6 zl7 hv hT pf hBad hx9 fA9 hH hS hl
                  (try clear b_32); (try clear uc_18); (try clear uc_16); (try clear uc_14); (try clear uc_5); (try clear uc_2); (try clear u_26_18); (try clear u_26_16); (try clear u_26_14); (try clear u_26_5); (try clear u_26_2); (try clear b_16); (try clear u_15_18); (try clear u_15_16); (try clear u_15_14); (try clear u_15_5); (try clear u_15_2); (try clear b_1)
                  have uc_2 : (I_34 mo 2).toInt = (I mo 2).toInt := by rw [pf 2 (by decide) (by decide) (by decide) (by decide) (by decide)]
                  have uc_5 : (I_34 mo 5).toInt = (I mo 5).toInt := by rw [pf 5 (by decide) (by decide) (by decide) (by decide) (by decide)]
                  have uc_14 : (I_34 mo 14).toInt = (I mo 14).toInt := by rw [pf 14 (by decide) (by decide) (by decide) (by decide) (by decide)]
                  have uc_16 : (I_34 mo 16).toInt = (I mo 16).toInt := by rw [pf 16 (by decide) (by decide) (by decide) (by decide) (by decide)]
                  have uc_18 : (I_34 mo 18).toInt = (I mo 18).toInt := by rw [pf 18 (by decide) (by decide) (by decide) (by decide) (by decide)]
                  obtain ⟨fb9, hb9, q9, hQ, hfin⟩ := hBad
                  have q9f := mQ_f hQ q9
                  have q9p := mQ_p hQ
                  refine lv_aload_n F.1 F.2.1 dX7_selectTold_178 rfl (lv_at hl 3 rfl) ?_
                  refine lv_iload_n F.1 F.2.1 dX7_selectTold_179 rfl (lv_at hl 1 rfl) ?_
                  refine lv_iload F.1 F.2.1 dX7_selectTold_180 (lv_at hl 4 rfl) ?_
                  refine lv_iload F.1 F.2.1 dX7_selectTold_182 (lv_at hl 5 rfl) ?_
                  refine lv_iload F.1 F.2.1 dX7_selectTold_184 (lv_at hl 6 rfl) ?_
                  refine z_if_eq (tgt := 193) F dX7_selectTold_186 (by decide) zl6 (fun c_38 => ?_) (fun c_38 => ?_)
                  · refine z_iconst F dX7_selectTold_193 ?_
                    refine lv_iload F.1 F.2.1 dX7_selectTold_194 (lv_at hl 7 rfl) ?_
                    have b_39 := mJ hv hm
                    unfold mNum1 at b_39
                    refine g_callv (g_runV (As := [.int (iI n), .int (iI l4), .int (iI l5), .int (iI 0), .int (iI l7)]) (rest := []) (ci := 7) F hl.1 hH hS hz (c_X7_setsPartg l g gh T M I_34 R J_35 AI_36 AJ AR mo n l4 l5 0 l7 zn zl4 zl5 ⟨by decide, by decide⟩ zl7 hv hm hT (by omega) (by omega) (by omega)) (cwV 5 F.2.2.2.2.1 (good_up gT_X7_setsPart) rfl rfl rfl hdX7_setsPart ⟨Nat.le_of_ble_eq_true rfl, Nat.le_of_ble_eq_true rfl⟩) hm (by decide) rfl rfl rfl (Nat.le_of_ble_eq_true rfl) dX7_selectTold_196 ⟨Nat.zero_le _, Nat.zero_le _⟩) hS (fun I_40 R_41 J_42 AI_43 AJ_44 AR_45 H locs hp_46 hH hS => ?_)
                    dsimp only at hp_46
                    obtain ⟨rfl, rfl, rfl, rfl, rfl, hv, hT, hsp, q_47⟩ := hp_46
                    replace hsp := hid hsp
                    have hQ : mQ gh I_34 J_35 AI_43 AJ mo b nn nr nt cc fb9 hb9 := mQ_bad hQ (by omega) rfl
                    refine z_iinc (lv' := [(2, .int (iI (n + 1))), (3, .int (iI mr)), (1, .int (iI v_8)), (0, .ref mo), (4, .int (iI l4)), (5, .int (iI l5)), (6, .int (iI l6)), (7, .int (iI l7))]) F dX7_selectTold_199 hl (k := 1) rfl (by decide) rfl (fun ls hl => ?_)
                    refine lv_aload_n F.1 F.2.1 dX7_selectTold_202 rfl (lv_at hl 3 rfl) ?_
                    refine va_ldcS F.1 F.2.1 F.2.2.2.1 (F.2.2.2.2.2.2.1 11 _ rfl).1 dX7_selectTold_203 ?_
                    refine g_calli (g_runV (As := [.ref (gSK g 11)]) (rest := []) (ci := 7) F hl.1 hH hS hz (c_X7_isWordf l g gh T 11 _ 11 b nn nr nt cc fb9 hb9 I_34 R J_35 AI_43 AJ AR mo hv hm hT (rfl : sTab[11]? = some _) (by decide) (by decide +kernel) h65 hbM hr7 (by omega) hn9 (by omega) hQ) (cwV 1 F.2.2.2.2.1 (good_up gT_X7_isWord) rfl rfl rfl hdX7_isWord ⟨Nat.le_of_ble_eq_true rfl, Nat.le_of_ble_eq_true rfl⟩) hm (by decide) rfl rfl rfl (Nat.le_of_ble_eq_true rfl) dX7_selectTold_205 ⟨Nat.zero_le _, Nat.zero_le _⟩) hS (fun v_54 I_48 R_49 J_50 AI_51 AJ_52 AR_53 H locs zv_54 hp_55 hH hS => ?_)
                    dsimp only at hp_55
                    obtain ⟨rfl, rfl, rfl, rfl, rfl, rfl, q_56, q_57⟩ := hp_55
                    refine lv_istore_n (lv' := [(3, .int (iI v_54)), (2, .int (iI (n + 1))), (1, .int (iI v_8)), (0, .ref mo), (4, .int (iI l4)), (5, .int (iI l5)), (6, .int (iI l6)), (7, .int (iI l7))]) F.1 F.2.1 dX7_selectTold_208 rfl hl (by decide) rfl (fun ls hl => ?_)
                    refine lv_iload_n F.1 F.2.1 dX7_selectTold_209 rfl (lv_at hl 0 rfl) ?_
                    refine z_if_eq (tgt := 217) F dX7_selectTold_210 (by decide) zv_54 (fun c_58 => ?_) (fun c_58 => ?_)
                    · have t_59 := tIz_0 q_57 (by omega)
                      refine z_goto (tgt := 15) F dX7_selectTold_217 (by decide) ?_
                      refine lv_iload_n F.1 F.2.1 dX7_selectTold_15 rfl (lv_at hl 0 rfl) ?_
                      refine z_if_eq (tgt := 220) F dX7_selectTold_16 (by decide) zv_54 (fun c_60 => ?_) (fun c_60 => ?_)
                      · have t_61 := tIz_0 q_57 (by omega)
                        refine lv_aload_n F.1 F.2.1 dX7_selectTold_220 rfl (lv_at hl 3 rfl) ?_
                        refine z_iconst F dX7_selectTold_221 ?_
                        refine lv_aload_n F.1 F.2.1 dX7_selectTold_222 rfl (lv_at hl 3 rfl) ?_
                        refine lv_iload_n F.1 F.2.1 dX7_selectTold_223 rfl (lv_at hl 2 rfl) ?_
                        refine g_calli (g_runV (As := [.int (iI v_8)]) (rest := [.int (iI 1), .ref mo]) (ci := 7) F hl.1 hH hS hz (c_X7_columns l g gh T I_34 R J_35 AI_43 AJ AR mo v_8 zv_8 hv hm hT (by omega)) (cwV 1 F.2.2.2.2.1 (good_up gT_X7_columns) rfl rfl rfl hdX7_columns ⟨Nat.le_of_ble_eq_true rfl, Nat.le_of_ble_eq_true rfl⟩) hm (by decide) rfl rfl rfl (Nat.le_of_ble_eq_true rfl) dX7_selectTold_224 ⟨Nat.zero_le _, Nat.zero_le _⟩) hS (fun v_69 I_63 R_64 J_65 AI_66 AJ_67 AR_68 H locs zv_69 hp_70 hH hS => ?_)
                        dsimp only at hp_70
                        obtain ⟨rfl, rfl, rfl, rfl, rfl, rfl, q_62⟩ := hp_70
                        have hcol : Hid ((I_34 mo 24).toInt = 0 → 1 ≤ v_69 ∧ v_69 ≤ 4) := fun h => by have q9 := mCol hv hm (z := v_8) (by omega) (by omega); omega
                        refine lv_iload_n F.1 F.2.1 dX7_selectTold_227 rfl (lv_at hl 2 rfl) ?_
                        refine z_iconst F dX7_selectTold_228 ?_
                        refine lv_iload_n F.1 F.2.1 dX7_selectTold_229 rfl (lv_at hl 1 rfl) ?_
                        refine g_callv (g_runV (As := [.int (iI 1), .int (iI v_69), .int (iI v_8), .int (iI ((-1))), .int (iI (n + 1))]) (rest := []) (ci := 7) F hl.1 hH hS hz (c_X7_headerg l g gh T M I_34 R J_35 AI_43 AJ AR mo 1 v_69 v_8 (-1) (n + 1) ⟨by decide, by decide⟩ zv_69 zv_8 ⟨by decide, by decide⟩ ⟨by omega, by omega⟩ hv hm hT (by omega) (by omega)) (cwV 5 F.2.2.2.2.1 (good_up gT_X7_header) rfl rfl rfl hdX7_header ⟨Nat.le_of_ble_eq_true rfl, Nat.le_of_ble_eq_true rfl⟩) hm (by decide) rfl rfl rfl (Nat.le_of_ble_eq_true rfl) dX7_selectTold_230 ⟨Nat.zero_le _, Nat.zero_le _⟩) hS (fun I_71 R_72 J_73 AI_74 AJ_75 AR_76 H locs hp_77 hH hS => ?_)
                        dsimp only at hp_77
                        obtain ⟨rfl, rfl, rfl, rfl, rfl, hv, hT, hhd, q_78⟩ := hp_77
                        replace hhd := hid hhd
                        have hQ : mQ gh I_34 J_35 AI_74 AJ mo b nn nr nt cc fb9 hb9 := mQ_bad hQ (by omega) rfl
                        exact g_vret F hr hlk hH hS hz ⟨rfl, rfl, rfl, hv, hT, pf, by first | (dsimp only; omega) | omega | rfl, by (try dsimp only); exact (fun hf => absurd hf (by omega)), by (try dsimp only); exact (fun hf => absurd hf (by omega)), by (try dsimp only); rw [hfin]; exact hQ, by (try dsimp only); rw [hfin]; exact pIc_n (by omega), by (try dsimp only); rw [hfin]; exact zIf_n (by omega), by (try dsimp only); rw [hfin]; exact zIf_n (by omega), fun b hb => ((q_78 b hb).trans (q_47 b hb)).trans (fA9 b hb)⟩ dX7_selectTold_233
                      · exact absurd trivial (by omega)
                    · exact absurd (tIz_1 q_57 (by omega)).1 (by omega)
                  · refine z_iconst F dX7_selectTold_189 ?_
                    refine z_goto (tgt := 194) F dX7_selectTold_190 (by decide) ?_
                    refine lv_iload F.1 F.2.1 dX7_selectTold_194 (lv_at hl 7 rfl) ?_
                    have b_79 := mJ hv hm
                    unfold mNum1 at b_79
                    refine g_callv (g_runV (As := [.int (iI n), .int (iI l4), .int (iI l5), .int (iI 1), .int (iI l7)]) (rest := []) (ci := 7) F hl.1 hH hS hz (c_X7_setsPartg l g gh T M I_34 R J_35 AI_36 AJ AR mo n l4 l5 1 l7 zn zl4 zl5 ⟨by decide, by decide⟩ zl7 hv hm hT (by omega) (by omega) (by omega)) (cwV 5 F.2.2.2.2.1 (good_up gT_X7_setsPart) rfl rfl rfl hdX7_setsPart ⟨Nat.le_of_ble_eq_true rfl, Nat.le_of_ble_eq_true rfl⟩) hm (by decide) rfl rfl rfl (Nat.le_of_ble_eq_true rfl) dX7_selectTold_196 ⟨Nat.zero_le _, Nat.zero_le _⟩) hS (fun I_80 R_81 J_82 AI_83 AJ_84 AR_85 H locs hp_86 hH hS => ?_)
                    dsimp only at hp_86
                    obtain ⟨rfl, rfl, rfl, rfl, rfl, hv, hT, hsp, q_87⟩ := hp_86
                    replace hsp := hid hsp
                    have hQ : mQ gh I_34 J_35 AI_83 AJ mo b nn nr nt cc fb9 hb9 := mQ_bad hQ (by omega) rfl
                    refine z_iinc (lv' := [(2, .int (iI (n + 1))), (3, .int (iI mr)), (1, .int (iI v_8)), (0, .ref mo), (4, .int (iI l4)), (5, .int (iI l5)), (6, .int (iI l6)), (7, .int (iI l7))]) F dX7_selectTold_199 hl (k := 1) rfl (by decide) rfl (fun ls hl => ?_)
                    refine lv_aload_n F.1 F.2.1 dX7_selectTold_202 rfl (lv_at hl 3 rfl) ?_
                    refine va_ldcS F.1 F.2.1 F.2.2.2.1 (F.2.2.2.2.2.2.1 11 _ rfl).1 dX7_selectTold_203 ?_
                    refine g_calli (g_runV (As := [.ref (gSK g 11)]) (rest := []) (ci := 7) F hl.1 hH hS hz (c_X7_isWordf l g gh T 11 _ 11 b nn nr nt cc fb9 hb9 I_34 R J_35 AI_83 AJ AR mo hv hm hT (rfl : sTab[11]? = some _) (by decide) (by decide +kernel) h65 hbM hr7 (by omega) hn9 (by omega) hQ) (cwV 1 F.2.2.2.2.1 (good_up gT_X7_isWord) rfl rfl rfl hdX7_isWord ⟨Nat.le_of_ble_eq_true rfl, Nat.le_of_ble_eq_true rfl⟩) hm (by decide) rfl rfl rfl (Nat.le_of_ble_eq_true rfl) dX7_selectTold_205 ⟨Nat.zero_le _, Nat.zero_le _⟩) hS (fun v_94 I_88 R_89 J_90 AI_91 AJ_92 AR_93 H locs zv_94 hp_95 hH hS => ?_)
                    dsimp only at hp_95
                    obtain ⟨rfl, rfl, rfl, rfl, rfl, rfl, q_96, q_97⟩ := hp_95
                    refine lv_istore_n (lv' := [(3, .int (iI v_94)), (2, .int (iI (n + 1))), (1, .int (iI v_8)), (0, .ref mo), (4, .int (iI l4)), (5, .int (iI l5)), (6, .int (iI l6)), (7, .int (iI l7))]) F.1 F.2.1 dX7_selectTold_208 rfl hl (by decide) rfl (fun ls hl => ?_)
                    refine lv_iload_n F.1 F.2.1 dX7_selectTold_209 rfl (lv_at hl 0 rfl) ?_
                    refine z_if_eq (tgt := 217) F dX7_selectTold_210 (by decide) zv_94 (fun c_98 => ?_) (fun c_98 => ?_)
                    · have t_99 := tIz_0 q_97 (by omega)
                      refine z_goto (tgt := 15) F dX7_selectTold_217 (by decide) ?_
                      refine lv_iload_n F.1 F.2.1 dX7_selectTold_15 rfl (lv_at hl 0 rfl) ?_
                      refine z_if_eq (tgt := 220) F dX7_selectTold_16 (by decide) zv_94 (fun c_100 => ?_) (fun c_100 => ?_)
                      · have t_101 := tIz_0 q_97 (by omega)
                        refine lv_aload_n F.1 F.2.1 dX7_selectTold_220 rfl (lv_at hl 3 rfl) ?_
                        refine z_iconst F dX7_selectTold_221 ?_
                        refine lv_aload_n F.1 F.2.1 dX7_selectTold_222 rfl (lv_at hl 3 rfl) ?_
                        refine lv_iload_n F.1 F.2.1 dX7_selectTold_223 rfl (lv_at hl 2 rfl) ?_
                        refine g_calli (g_runV (As := [.int (iI v_8)]) (rest := [.int (iI 1), .ref mo]) (ci := 7) F hl.1 hH hS hz (c_X7_columns l g gh T I_34 R J_35 AI_83 AJ AR mo v_8 zv_8 hv hm hT (by omega)) (cwV 1 F.2.2.2.2.1 (good_up gT_X7_columns) rfl rfl rfl hdX7_columns ⟨Nat.le_of_ble_eq_true rfl, Nat.le_of_ble_eq_true rfl⟩) hm (by decide) rfl rfl rfl (Nat.le_of_ble_eq_true rfl) dX7_selectTold_224 ⟨Nat.zero_le _, Nat.zero_le _⟩) hS (fun v_109 I_103 R_104 J_105 AI_106 AJ_107 AR_108 H locs zv_109 hp_110 hH hS => ?_)
                        dsimp only at hp_110
                        obtain ⟨rfl, rfl, rfl, rfl, rfl, rfl, q_102⟩ := hp_110
                        have hcol : Hid ((I_34 mo 24).toInt = 0 → 1 ≤ v_109 ∧ v_109 ≤ 4) := fun h => by have q9 := mCol hv hm (z := v_8) (by omega) (by omega); omega
                        refine lv_iload_n F.1 F.2.1 dX7_selectTold_227 rfl (lv_at hl 2 rfl) ?_
                        refine z_iconst F dX7_selectTold_228 ?_
                        refine lv_iload_n F.1 F.2.1 dX7_selectTold_229 rfl (lv_at hl 1 rfl) ?_
                        refine g_callv (g_runV (As := [.int (iI 1), .int (iI v_109), .int (iI v_8), .int (iI ((-1))), .int (iI (n + 1))]) (rest := []) (ci := 7) F hl.1 hH hS hz (c_X7_headerg l g gh T M I_34 R J_35 AI_83 AJ AR mo 1 v_109 v_8 (-1) (n + 1) ⟨by decide, by decide⟩ zv_109 zv_8 ⟨by decide, by decide⟩ ⟨by omega, by omega⟩ hv hm hT (by omega) (by omega)) (cwV 5 F.2.2.2.2.1 (good_up gT_X7_header) rfl rfl rfl hdX7_header ⟨Nat.le_of_ble_eq_true rfl, Nat.le_of_ble_eq_true rfl⟩) hm (by decide) rfl rfl rfl (Nat.le_of_ble_eq_true rfl) dX7_selectTold_230 ⟨Nat.zero_le _, Nat.zero_le _⟩) hS (fun I_111 R_112 J_113 AI_114 AJ_115 AR_116 H locs hp_117 hH hS => ?_)
                        dsimp only at hp_117
                        obtain ⟨rfl, rfl, rfl, rfl, rfl, hv, hT, hhd, q_118⟩ := hp_117
                        replace hhd := hid hhd
                        have hQ : mQ gh I_34 J_35 AI_114 AJ mo b nn nr nt cc fb9 hb9 := mQ_bad hQ (by omega) rfl
                        exact g_vret F hr hlk hH hS hz ⟨rfl, rfl, rfl, hv, hT, pf, by first | (dsimp only; omega) | omega | rfl, by (try dsimp only); exact (fun hf => absurd hf (by omega)), by (try dsimp only); exact (fun hf => absurd hf (by omega)), by (try dsimp only); rw [hfin]; exact hQ, by (try dsimp only); rw [hfin]; exact pIc_n (by omega), by (try dsimp only); rw [hfin]; exact zIf_n (by omega), by (try dsimp only); rw [hfin]; exact zIf_n (by omega), fun b hb => ((q_118 b hb).trans (q_87 b hb)).trans (fA9 b hb)⟩ dX7_selectTold_233
                      · exact absurd trivial (by omega)
                    · exact absurd (tIz_1 q_97 (by omega)).1 (by omega)
                have cut_136_121 : ∀ (l4 l5 : Int) (I_119 : gI) (J_120 : gJ) (AI_121 : gI) (H : Heap) (locs : List Loc) (ls : Array Slot), zr l4 → zr l5 → (mInv g gh R I_119 AI_121) → (AI_121 (gh 50 0) = T) → (qF mo I I_119) → (∃ (f9 : Int) (h9 : Nat), f9 ≠ 0 ∧ mQ gh I_119 J_120 AI_121 AJ mo b nn nr nt cc f9 h9 ∧ thn (f, h, 0) (fun t _ => sSel b nn nr nt cc t) = (f9, h9, 0)) → ((I_119 mo 20).toInt ≤ 936 ∧ (I mo 24).toInt ≤ (I_119 mo 24).toInt) → (∀ b, b ≠ gh 53 0 → AI_121 b = AI b) → gH g I_119 R J_120 AI_121 AJ AR H → va_S (gA g) s.heap H locs → lv_has ls 8 [(3, .int (iI mr)), (2, .int (iI n)), (1, .int (iI v_8)), (0, .ref mo), (4, .int (iI l4)), (5, .int (iI l5))] → W p l e rmX7_selectToldg s m ([.ref mo] : List Value).toArray below meth c H locs 0 0 (MQ below (gQv g (fun w : gS => R = w.2.1 ∧ AJ = w.2.2.2.2.1 ∧ AR = w.2.2.2.2.2 ∧ (mInv g gh R (w.1) (w.2.2.2.1)) ∧ ((w.2.2.2.1) (gh 50 0) = T) ∧ (qF mo I (w.1)) ∧ (((w.1) mo 20).toInt ≤ 936 ∧ (I mo 24).toInt ≤ ((w.1) mo 24).toInt) ∧ (((w.1) mo 24).toInt = 0 → ((w.1) mo 21).toInt = 4 → ((w.1) mo 23).toInt = 59 → rowOK ((w.2.2.2.1) (gh 53 0)) M) ∧ (((w.1) mo 24).toInt = 0 → tI ((w.2.2.2.1) (gh 53 0)) (40 * M) = 1) ∧ (mQ gh (w.1) (w.2.2.1) (w.2.2.2.1) AJ mo b nn nr nt cc (thn (f, h, 0) (fun t _ => sSel b nn nr nt cc t)).1 (thn (f, h, 0) (fun t _ => sSel b nn nr nt cc t)).2.1) ∧ (pIc (thn (f, h, 0) (fun t _ => sSel b nn nr nt cc t)).1 (pK b nn (thn (f, h, 0) (fun t _ => sSel b nn nr nt cc t)).2.1) (tI ((w.2.2.2.1) (gh 53 0)) (40 * (nr : Int) + 1)) (thn (f, h, 0) (fun t _ => sSel b nn nr nt cc t)).2.2) ∧ (zIf (thn (f, h, 0) (fun t _ => sSel b nn nr nt cc t)).1 (frM M (AI (gh 53 0)) ((w.2.2.2.1) (gh 53 0)))) ∧ (zIf (thn (f, h, 0) (fun t _ => sSel b nn nr nt cc t)).1 (mSel b nn nr nt h ((w.2.2.2.1) (gh 53 0)) M)) ∧ (∀ b, b ≠ gh 53 0 → (w.2.2.2.1) b = AI b))) ([.ref mo] : List Value).toArray s 0 0 (gA g)) (F0 m 136 ls []) := by
                  intro l4 l5 I_119 J_120 AI_121 H locs ls zl4 zl5 hv hT pf hBad hx9 fA9 hH hS hl
                  (try clear b_32); (try clear uc_18); (try clear uc_16); (try clear uc_14); (try clear uc_5); (try clear uc_2); (try clear u_26_18); (try clear u_26_16); (try clear u_26_14); (try clear u_26_5); (try clear u_26_2); (try clear b_16); (try clear u_15_18); (try clear u_15_16); (try clear u_15_14); (try clear u_15_5); (try clear u_15_2); (try clear b_1)
                  have uc_2 : (I_119 mo 2).toInt = (I mo 2).toInt := by rw [pf 2 (by decide) (by decide) (by decide) (by decide) (by decide)]
                  have uc_5 : (I_119 mo 5).toInt = (I mo 5).toInt := by rw [pf 5 (by decide) (by decide) (by decide) (by decide) (by decide)]
                  have uc_14 : (I_119 mo 14).toInt = (I mo 14).toInt := by rw [pf 14 (by decide) (by decide) (by decide) (by decide) (by decide)]
                  have uc_16 : (I_119 mo 16).toInt = (I mo 16).toInt := by rw [pf 16 (by decide) (by decide) (by decide) (by decide) (by decide)]
                  have uc_18 : (I_119 mo 18).toInt = (I mo 18).toInt := by rw [pf 18 (by decide) (by decide) (by decide) (by decide) (by decide)]
                  obtain ⟨fb9, hb9, q9, hQ, hfin⟩ := hBad
                  have q9f := mQ_f hQ q9
                  have q9p := mQ_p hQ
                  refine lv_aload_n F.1 F.2.1 dX7_selectTold_136 rfl (lv_at hl 3 rfl) ?_
                  have b_123 := mJ hv hm
                  unfold mNum1 at b_123
                  refine g_callv (g_runV (As := []) (rest := []) (ci := 7) F hl.1 hH hS hz (c_X7_nextf l g gh T b nn (tNd b nn (tPs b nn hb9)) I_119 R J_120 AI_121 AJ AR mo hv hm hT (by omega) (mTp hv h65 hbM) hr7 (by omega) (by omega) (mQ_e0 hQ) tNd_le.1) (cwV 0 F.2.2.2.2.1 (good_up gT_X7_next) rfl rfl rfl hdX7_next ⟨Nat.le_of_ble_eq_true rfl, Nat.le_of_ble_eq_true rfl⟩) hm (by decide) rfl rfl rfl (Nat.le_of_ble_eq_true rfl) dX7_selectTold_137 ⟨Nat.zero_le _, Nat.zero_le _⟩) hS (fun I_124 R_125 J_126 AI_127 AJ_128 AR_129 H locs hp_130 hH hS => ?_)
                  dsimp only at hp_130
                  obtain ⟨rfl, rfl, rfl, rfl, hv, pfq, q_131, nx4, nxa, nxb⟩ := hp_130
                  have pf := qF_t pf pfq
                  have u_132_2 : (I_124 mo 2).toInt = (I mo 2).toInt := by rw [pf 2 (by decide) (by decide) (by decide) (by decide) (by decide)]
                  have u_132_5 : (I_124 mo 5).toInt = (I mo 5).toInt := by rw [pf 5 (by decide) (by decide) (by decide) (by decide) (by decide)]
                  have u_132_14 : (I_124 mo 14).toInt = (I mo 14).toInt := by rw [pf 14 (by decide) (by decide) (by decide) (by decide) (by decide)]
                  have u_132_16 : (I_124 mo 16).toInt = (I mo 16).toInt := by rw [pf 16 (by decide) (by decide) (by decide) (by decide) (by decide)]
                  have u_132_18 : (I_124 mo 18).toInt = (I mo 18).toInt := by rw [pf 18 (by decide) (by decide) (by decide) (by decide) (by decide)]
                  have hQ : mQ gh I_124 J_126 AI_121 AJ mo b nn nr nt cc fb9 hb9 := by have q9 := mQ_nx hQ nx4 nxa; rw [thn_b (by omega)] at q9; exact q9
                  clear nxa nxb
                  refine lv_aload_n F.1 F.2.1 dX7_selectTold_140 rfl (lv_at hl 3 rfl) ?_
                  refine g_getI (ci := 7) (k := 21) F hH rfl (by decide) iX7 hm (by decide) rfl k94 dX7_selectTold_141 ?_
                  have b_133 := mJ hv hm
                  unfold mNum1 at b_133
                  refine z_iconst F dX7_selectTold_144 ?_
                  refine z_icmp_ne (tgt := 152) F dX7_selectTold_145 (by decide) (zr_t _) ⟨by decide, by decide⟩ (fun c_134 => ?_) (fun c_134 => ?_)
                  · refine z_iconst F dX7_selectTold_152 ?_
                    refine lv_istore (lv' := [(6, .int (iI 0)), (3, .int (iI mr)), (2, .int (iI n)), (1, .int (iI v_8)), (0, .ref mo), (4, .int (iI l4)), (5, .int (iI l5))]) F.1 F.2.1 dX7_selectTold_153 hl (by decide) rfl (fun ls hl => ?_)
                    refine lv_iload F.1 F.2.1 dX7_selectTold_155 (lv_at hl 0 rfl) ?_
                    refine z_if_eq (tgt := 172) F dX7_selectTold_157 (by decide) ⟨by decide, by decide⟩ (fun c_135 => ?_) (fun c_135 => ?_)
                    · refine lv_aload_n F.1 F.2.1 dX7_selectTold_172 rfl (lv_at hl 4 rfl) ?_
                      refine g_calli (g_runV (As := []) (rest := []) (ci := 7) F hl.1 hH hS hz (c_X7_numberToldf l g gh T b nn nr nt cc fb9 hb9 I_124 R J_126 AI_121 AJ AR mo hv hm hT (by omega) h65 hbM hr7 (by omega) hn9 (by omega) hQ) (cwV 0 F.2.2.2.2.1 (good_up gT_X7_numberTold) rfl rfl rfl hdX7_numberTold ⟨Nat.le_of_ble_eq_true rfl, Nat.le_of_ble_eq_true rfl⟩) hm (by decide) rfl rfl rfl (Nat.le_of_ble_eq_true rfl) dX7_selectTold_173 ⟨Nat.zero_le _, Nat.zero_le _⟩) hS (fun v_142 I_136 R_137 J_138 AI_139 AJ_140 AR_141 H locs zv_142 hp_143 hH hS => ?_)
                      dsimp only at hp_143
                      obtain ⟨r_144, er_144⟩ : ∃ qQ : pR, qQ = thn (fb9, hb9, 0) (fun t _ => sNum b nn t) := ⟨_, rfl⟩
                      rw [← er_144] at hp_143
                      obtain ⟨rfl, rfl, rfl, rfl, hv, pfq, q_145, q_146, hQ, q_147⟩ := hp_143
                      have pf := qF_t pf pfq
                      have u_148_2 : (I_136 mo 2).toInt = (I mo 2).toInt := by rw [pf 2 (by decide) (by decide) (by decide) (by decide) (by decide)]
                      have u_148_5 : (I_136 mo 5).toInt = (I mo 5).toInt := by rw [pf 5 (by decide) (by decide) (by decide) (by decide) (by decide)]
                      have u_148_14 : (I_136 mo 14).toInt = (I mo 14).toInt := by rw [pf 14 (by decide) (by decide) (by decide) (by decide) (by decide)]
                      have u_148_16 : (I_136 mo 16).toInt = (I mo 16).toInt := by rw [pf 16 (by decide) (by decide) (by decide) (by decide) (by decide)]
                      have u_148_18 : (I_136 mo 18).toInt = (I mo 18).toInt := by rw [pf 18 (by decide) (by decide) (by decide) (by decide) (by decide)]
                      rw [thn_b (by omega)] at er_144
                      have hQ : mQ gh I_136 J_138 AI_121 AJ mo b nn nr nt cc fb9 hb9 := by rw [er_144] at hQ; exact hQ
                      replace q_146 := hid q_146
                      refine lv_istore (lv' := [(7, .int (iI v_142)), (6, .int (iI 0)), (3, .int (iI mr)), (2, .int (iI n)), (1, .int (iI v_8)), (0, .ref mo), (4, .int (iI l4)), (5, .int (iI l5))]) F.1 F.2.1 dX7_selectTold_176 hl (by decide) rfl (fun ls hl => ?_)
                      exact cut_178_36 l4 l5 0 v_142 I_136 J_138 AI_121 H locs ls zl4 zl5 ⟨by decide, by decide⟩ zv_142 hv hT pf ⟨_, _, by omega, hQ, hfin⟩ (by omega) (fun b hb => fA9 b hb) hH hS (lv_sub hl [2, 3, 4, 5, 6, 7, 1, 0] rfl)
                    · exact absurd trivial (by omega)
                  · refine z_iconst F dX7_selectTold_148 ?_
                    refine z_goto (tgt := 153) F dX7_selectTold_149 (by decide) ?_
                    refine lv_istore (lv' := [(6, .int (iI 1)), (3, .int (iI mr)), (2, .int (iI n)), (1, .int (iI v_8)), (0, .ref mo), (4, .int (iI l4)), (5, .int (iI l5))]) F.1 F.2.1 dX7_selectTold_153 hl (by decide) rfl (fun ls hl => ?_)
                    refine lv_iload F.1 F.2.1 dX7_selectTold_155 (lv_at hl 0 rfl) ?_
                    refine z_if_eq (tgt := 172) F dX7_selectTold_157 (by decide) ⟨by decide, by decide⟩ (fun c_149 => ?_) (fun c_149 => ?_)
                    · exact absurd trivial (by omega)
                    · refine lv_aload_n F.1 F.2.1 dX7_selectTold_160 rfl (lv_at hl 4 rfl) ?_
                      refine lv_aload_n F.1 F.2.1 dX7_selectTold_161 rfl (lv_at hl 4 rfl) ?_
                      refine lv_iload_n F.1 F.2.1 dX7_selectTold_162 rfl (lv_at hl 3 rfl) ?_
                      refine g_calli (g_runV (As := [.int (iI v_8)]) (rest := [.ref mo]) (ci := 7) F hl.1 hH hS hz (c_X7_columns l g gh T I_124 R J_126 AI_121 AJ AR mo v_8 zv_8 hv hm hT (by omega)) (cwV 1 F.2.2.2.2.1 (good_up gT_X7_columns) rfl rfl rfl hdX7_columns ⟨Nat.le_of_ble_eq_true rfl, Nat.le_of_ble_eq_true rfl⟩) hm (by decide) rfl rfl rfl (Nat.le_of_ble_eq_true rfl) dX7_selectTold_163 ⟨Nat.zero_le _, Nat.zero_le _⟩) hS (fun v_157 I_151 R_152 J_153 AI_154 AJ_155 AR_156 H locs zv_157 hp_158 hH hS => ?_)
                      dsimp only at hp_158
                      obtain ⟨rfl, rfl, rfl, rfl, rfl, rfl, q_150⟩ := hp_158
                      refine g_calli (g_runV (As := [.int (iI v_157)]) (rest := []) (ci := 7) F hl.1 hH hS hz (c_X7_columnf l g gh T b nn nr nt cc fb9 hb9 I_124 R J_126 AI_121 AJ AR mo v_157 zv_157 hv hm hT (by omega) h65 hbM hr7 (by omega) hn9 (by omega) hQ) (cwV 1 F.2.2.2.2.1 (good_up gT_X7_column) rfl rfl rfl hdX7_column ⟨Nat.le_of_ble_eq_true rfl, Nat.le_of_ble_eq_true rfl⟩) hm (by decide) rfl rfl rfl (Nat.le_of_ble_eq_true rfl) dX7_selectTold_166 ⟨Nat.zero_le _, Nat.zero_le _⟩) hS (fun v_165 I_159 R_160 J_161 AI_162 AJ_163 AR_164 H locs zv_165 hp_166 hH hS => ?_)
                      dsimp only at hp_166
                      obtain ⟨r_167, er_167⟩ : ∃ qQ : pR, qQ = thn (fb9, hb9, 0) (fun t _ => sCol b nn v_157 t) := ⟨_, rfl⟩
                      rw [← er_167] at hp_166
                      obtain ⟨rfl, rfl, rfl, rfl, hv, pfq, q_168, q_169, hQ, q_170⟩ := hp_166
                      have pf := qF_t pf pfq
                      have u_171_2 : (I_159 mo 2).toInt = (I mo 2).toInt := by rw [pf 2 (by decide) (by decide) (by decide) (by decide) (by decide)]
                      have u_171_5 : (I_159 mo 5).toInt = (I mo 5).toInt := by rw [pf 5 (by decide) (by decide) (by decide) (by decide) (by decide)]
                      have u_171_14 : (I_159 mo 14).toInt = (I mo 14).toInt := by rw [pf 14 (by decide) (by decide) (by decide) (by decide) (by decide)]
                      have u_171_16 : (I_159 mo 16).toInt = (I mo 16).toInt := by rw [pf 16 (by decide) (by decide) (by decide) (by decide) (by decide)]
                      have u_171_18 : (I_159 mo 18).toInt = (I mo 18).toInt := by rw [pf 18 (by decide) (by decide) (by decide) (by decide) (by decide)]
                      rw [thn_b (by omega)] at er_167
                      have hQ : mQ gh I_159 J_161 AI_121 AJ mo b nn nr nt cc fb9 hb9 := by rw [er_167] at hQ; exact hQ
                      replace q_169 := hid q_169
                      refine z_goto (tgt := 176) F dX7_selectTold_169 (by decide) ?_
                      refine lv_istore (lv' := [(7, .int (iI v_165)), (6, .int (iI 1)), (3, .int (iI mr)), (2, .int (iI n)), (1, .int (iI v_8)), (0, .ref mo), (4, .int (iI l4)), (5, .int (iI l5))]) F.1 F.2.1 dX7_selectTold_176 hl (by decide) rfl (fun ls hl => ?_)
                      exact cut_178_36 l4 l5 1 v_165 I_159 J_161 AI_121 H locs ls zl4 zl5 ⟨by decide, by decide⟩ zv_165 hv hT pf ⟨_, _, by omega, hQ, hfin⟩ (by omega) (fun b hb => fA9 b hb) hH hS (lv_sub hl [2, 3, 4, 5, 6, 7, 1, 0] rfl)
                have cut_84_174 : ∀ (l4 : Int) (I_172 : gI) (J_173 : gJ) (AI_174 : gI) (H : Heap) (locs : List Loc) (ls : Array Slot), zr l4 → (mInv g gh R I_172 AI_174) → (AI_174 (gh 50 0) = T) → (qF mo I I_172) → (∃ (f9 : Int) (h9 : Nat), f9 ≠ 0 ∧ mQ gh I_172 J_173 AI_174 AJ mo b nn nr nt cc f9 h9 ∧ thn (f, h, 0) (fun t _ => sSel b nn nr nt cc t) = (f9, h9, 0)) → ((I_172 mo 20).toInt ≤ 936 ∧ (I mo 24).toInt ≤ (I_172 mo 24).toInt) → (∀ b, b ≠ gh 53 0 → AI_174 b = AI b) → gH g I_172 R J_173 AI_174 AJ AR H → va_S (gA g) s.heap H locs → lv_has ls 8 [(3, .int (iI mr)), (2, .int (iI n)), (1, .int (iI v_8)), (0, .ref mo), (4, .int (iI l4))] → W p l e rmX7_selectToldg s m ([.ref mo] : List Value).toArray below meth c H locs 0 0 (MQ below (gQv g (fun w : gS => R = w.2.1 ∧ AJ = w.2.2.2.2.1 ∧ AR = w.2.2.2.2.2 ∧ (mInv g gh R (w.1) (w.2.2.2.1)) ∧ ((w.2.2.2.1) (gh 50 0) = T) ∧ (qF mo I (w.1)) ∧ (((w.1) mo 20).toInt ≤ 936 ∧ (I mo 24).toInt ≤ ((w.1) mo 24).toInt) ∧ (((w.1) mo 24).toInt = 0 → ((w.1) mo 21).toInt = 4 → ((w.1) mo 23).toInt = 59 → rowOK ((w.2.2.2.1) (gh 53 0)) M) ∧ (((w.1) mo 24).toInt = 0 → tI ((w.2.2.2.1) (gh 53 0)) (40 * M) = 1) ∧ (mQ gh (w.1) (w.2.2.1) (w.2.2.2.1) AJ mo b nn nr nt cc (thn (f, h, 0) (fun t _ => sSel b nn nr nt cc t)).1 (thn (f, h, 0) (fun t _ => sSel b nn nr nt cc t)).2.1) ∧ (pIc (thn (f, h, 0) (fun t _ => sSel b nn nr nt cc t)).1 (pK b nn (thn (f, h, 0) (fun t _ => sSel b nn nr nt cc t)).2.1) (tI ((w.2.2.2.1) (gh 53 0)) (40 * (nr : Int) + 1)) (thn (f, h, 0) (fun t _ => sSel b nn nr nt cc t)).2.2) ∧ (zIf (thn (f, h, 0) (fun t _ => sSel b nn nr nt cc t)).1 (frM M (AI (gh 53 0)) ((w.2.2.2.1) (gh 53 0)))) ∧ (zIf (thn (f, h, 0) (fun t _ => sSel b nn nr nt cc t)).1 (mSel b nn nr nt h ((w.2.2.2.1) (gh 53 0)) M)) ∧ (∀ b, b ≠ gh 53 0 → (w.2.2.2.1) b = AI b))) ([.ref mo] : List Value).toArray s 0 0 (gA g)) (F0 m 84 ls []) := by
                  intro l4 I_172 J_173 AI_174 H locs ls zl4 hv hT pf hBad hx9 fA9 hH hS hl
                  (try clear b_32); (try clear uc_18); (try clear uc_16); (try clear uc_14); (try clear uc_5); (try clear uc_2); (try clear u_26_18); (try clear u_26_16); (try clear u_26_14); (try clear u_26_5); (try clear u_26_2); (try clear b_16); (try clear u_15_18); (try clear u_15_16); (try clear u_15_14); (try clear u_15_5); (try clear u_15_2); (try clear b_1)
                  have uc_2 : (I_172 mo 2).toInt = (I mo 2).toInt := by rw [pf 2 (by decide) (by decide) (by decide) (by decide) (by decide)]
                  have uc_5 : (I_172 mo 5).toInt = (I mo 5).toInt := by rw [pf 5 (by decide) (by decide) (by decide) (by decide) (by decide)]
                  have uc_14 : (I_172 mo 14).toInt = (I mo 14).toInt := by rw [pf 14 (by decide) (by decide) (by decide) (by decide) (by decide)]
                  have uc_16 : (I_172 mo 16).toInt = (I mo 16).toInt := by rw [pf 16 (by decide) (by decide) (by decide) (by decide) (by decide)]
                  have uc_18 : (I_172 mo 18).toInt = (I mo 18).toInt := by rw [pf 18 (by decide) (by decide) (by decide) (by decide) (by decide)]
                  obtain ⟨fb9, hb9, q9, hQ, hfin⟩ := hBad
                  have q9f := mQ_f hQ q9
                  have q9p := mQ_p hQ
                  refine lv_aload_n F.1 F.2.1 dX7_selectTold_84 rfl (lv_at hl 3 rfl) ?_
                  refine z_bipush F dX7_selectTold_85 (by decide) ?_
                  have b_176 := mJ hv hm
                  unfold mNum1 at b_176
                  refine g_calli (g_runV (As := [.int (iI 61)]) (rest := []) (ci := 7) F hl.1 hH hS hz (c_X7_isSignf l g gh T b nn nr nt cc fb9 hb9 I_172 R J_173 AI_174 AJ AR mo 61 ⟨by decide, by decide⟩ hv hm hT h65 hbM hr7 (by omega) hn9 (by omega) (by omega) hQ) (cwV 1 F.2.2.2.2.1 (good_up gT_X7_isSign) rfl rfl rfl hdX7_isSign ⟨Nat.le_of_ble_eq_true rfl, Nat.le_of_ble_eq_true rfl⟩) hm (by decide) rfl rfl rfl (Nat.le_of_ble_eq_true rfl) dX7_selectTold_87 ⟨Nat.zero_le _, Nat.zero_le _⟩) hS (fun v_183 I_177 R_178 J_179 AI_180 AJ_181 AR_182 H locs zv_183 hp_184 hH hS => ?_)
                  dsimp only at hp_184
                  obtain ⟨rfl, rfl, rfl, rfl, rfl, rfl, q_185, q_186⟩ := hp_184
                  replace q_185 := q_185.1
                  refine z_if_eq (tgt := 97) F dX7_selectTold_90 (by decide) zv_183 (fun c_187 => ?_) (fun c_187 => ?_)
                  · have t_188 := tIz_0 q_186 (by omega)
                    refine lv_aload_n F.1 F.2.1 dX7_selectTold_97 rfl (lv_at hl 3 rfl) ?_
                    refine z_bipush F dX7_selectTold_98 (by decide) ?_
                    refine g_calli (g_runV (As := [.int (iI 60)]) (rest := []) (ci := 7) F hl.1 hH hS hz (c_X7_isSignf l g gh T b nn nr nt cc fb9 hb9 I_172 R J_173 AI_174 AJ AR mo 60 ⟨by decide, by decide⟩ hv hm hT h65 hbM hr7 (by omega) hn9 (by omega) (by omega) hQ) (cwV 1 F.2.2.2.2.1 (good_up gT_X7_isSign) rfl rfl rfl hdX7_isSign ⟨Nat.le_of_ble_eq_true rfl, Nat.le_of_ble_eq_true rfl⟩) hm (by decide) rfl rfl rfl (Nat.le_of_ble_eq_true rfl) dX7_selectTold_100 ⟨Nat.zero_le _, Nat.zero_le _⟩) hS (fun v_195 I_189 R_190 J_191 AI_192 AJ_193 AR_194 H locs zv_195 hp_196 hH hS => ?_)
                    dsimp only at hp_196
                    obtain ⟨rfl, rfl, rfl, rfl, rfl, rfl, q_197, q_198⟩ := hp_196
                    replace q_197 := q_197.1
                    refine z_if_eq (tgt := 110) F dX7_selectTold_103 (by decide) zv_195 (fun c_199 => ?_) (fun c_199 => ?_)
                    · have t_200 := tIz_0 q_198 (by omega)
                      refine lv_aload_n F.1 F.2.1 dX7_selectTold_110 rfl (lv_at hl 3 rfl) ?_
                      refine z_bipush F dX7_selectTold_111 (by decide) ?_
                      refine g_calli (g_runV (As := [.int (iI 62)]) (rest := []) (ci := 7) F hl.1 hH hS hz (c_X7_isSignf l g gh T b nn nr nt cc fb9 hb9 I_172 R J_173 AI_174 AJ AR mo 62 ⟨by decide, by decide⟩ hv hm hT h65 hbM hr7 (by omega) hn9 (by omega) (by omega) hQ) (cwV 1 F.2.2.2.2.1 (good_up gT_X7_isSign) rfl rfl rfl hdX7_isSign ⟨Nat.le_of_ble_eq_true rfl, Nat.le_of_ble_eq_true rfl⟩) hm (by decide) rfl rfl rfl (Nat.le_of_ble_eq_true rfl) dX7_selectTold_113 ⟨Nat.zero_le _, Nat.zero_le _⟩) hS (fun v_207 I_201 R_202 J_203 AI_204 AJ_205 AR_206 H locs zv_207 hp_208 hH hS => ?_)
                      dsimp only at hp_208
                      obtain ⟨rfl, rfl, rfl, rfl, rfl, rfl, q_209, q_210⟩ := hp_208
                      replace q_209 := q_209.1
                      refine z_if_eq (tgt := 123) F dX7_selectTold_116 (by decide) zv_207 (fun c_211 => ?_) (fun c_211 => ?_)
                      · have t_212 := tIz_0 q_210 (by omega)
                        refine z_iconst F dX7_selectTold_123 ?_
                        refine lv_istore (lv' := [(5, .int (iI ((-1)))), (3, .int (iI mr)), (2, .int (iI n)), (1, .int (iI v_8)), (0, .ref mo), (4, .int (iI l4))]) F.1 F.2.1 dX7_selectTold_124 hl (by decide) rfl (fun ls hl => ?_)
                        refine lv_iload F.1 F.2.1 dX7_selectTold_126 (lv_at hl 0 rfl) ?_
                        refine z_if_ge (tgt := 136) F dX7_selectTold_128 (by decide) ⟨by decide, by decide⟩ (fun c_213 => ?_) (fun c_213 => ?_)
                        · exact absurd trivial (by omega)
                        · refine lv_aload_n F.1 F.2.1 dX7_selectTold_131 rfl (lv_at hl 4 rfl) ?_
                          refine z_iconst F dX7_selectTold_132 ?_
                          refine g_callv (g_runV (As := [.int (iI 1)]) (rest := []) (ci := 7) F hl.1 hH hS hz (c_X7_wrongf l g gh T b nn nr nt cc fb9 hb9 I_172 R J_173 AI_174 AJ AR mo 1 ⟨by decide, by decide⟩ hv hm hT (by omega) h65 hbM hr7 (by omega) hn9 (by omega) hQ) (cwV 1 F.2.2.2.2.1 (good_up gT_X7_wrong) rfl rfl rfl hdX7_wrong ⟨Nat.le_of_ble_eq_true rfl, Nat.le_of_ble_eq_true rfl⟩) hm (by decide) rfl rfl rfl (Nat.le_of_ble_eq_true rfl) dX7_selectTold_133 ⟨Nat.zero_le _, Nat.zero_le _⟩) hS (fun I_214 R_215 J_216 AI_217 AJ_218 AR_219 H locs hp_220 hH hS => ?_)
                          dsimp only at hp_220
                          obtain ⟨r_221, er_221⟩ : ∃ qQ : pR, qQ = thn (fb9, hb9, 0) (fun t _ => (1, t, 0)) := ⟨_, rfl⟩
                          rw [← er_221] at hp_220
                          obtain ⟨rfl, rfl, rfl, rfl, rfl, hv, pfq, q_222, hQ⟩ := hp_220
                          have pf := qF_t pf pfq
                          have u_223_2 : (I_214 mo 2).toInt = (I mo 2).toInt := by rw [pf 2 (by decide) (by decide) (by decide) (by decide) (by decide)]
                          have u_223_5 : (I_214 mo 5).toInt = (I mo 5).toInt := by rw [pf 5 (by decide) (by decide) (by decide) (by decide) (by decide)]
                          have u_223_14 : (I_214 mo 14).toInt = (I mo 14).toInt := by rw [pf 14 (by decide) (by decide) (by decide) (by decide) (by decide)]
                          have u_223_16 : (I_214 mo 16).toInt = (I mo 16).toInt := by rw [pf 16 (by decide) (by decide) (by decide) (by decide) (by decide)]
                          have u_223_18 : (I_214 mo 18).toInt = (I mo 18).toInt := by rw [pf 18 (by decide) (by decide) (by decide) (by decide) (by decide)]
                          rw [thn_b (by omega)] at er_221
                          have hQ : mQ gh I_214 J_173 AI_174 AJ mo b nn nr nt cc fb9 hb9 := by rw [er_221] at hQ; exact hQ
                          exact cut_136_121 l4 (-1) I_214 J_173 AI_174 H locs ls zl4 ⟨by decide, by decide⟩ hv hT pf ⟨_, _, by omega, hQ, hfin⟩ (by omega) (fun b hb => fA9 b hb) hH hS (lv_sub hl [1, 2, 3, 4, 5, 0] rfl)
                      · exact absurd (tIz_1 q_210 (by omega)).1 (by omega)
                    · exact absurd (tIz_1 q_198 (by omega)).1 (by omega)
                  · exact absurd (tIz_1 q_186 (by omega)).1 (by omega)
                refine lv_iload_n F.1 F.2.1 dX7_selectTold_26 rfl (lv_at hl 1 rfl) ?_
                refine z_bipush F dX7_selectTold_27 (by decide) ?_
                refine z_icmp_ne (tgt := 73) F dX7_selectTold_29 (by decide) zn ⟨by decide, by decide⟩ (fun c_224 => ?_) (fun c_224 => ?_)
                · refine lv_aload_n F.1 F.2.1 dX7_selectTold_73 rfl (lv_at hl 3 rfl) ?_
                  refine lv_aload_n F.1 F.2.1 dX7_selectTold_74 rfl (lv_at hl 3 rfl) ?_
                  refine lv_iload_n F.1 F.2.1 dX7_selectTold_75 rfl (lv_at hl 2 rfl) ?_
                  refine g_calli (g_runV (As := [.int (iI v_8)]) (rest := [.ref mo]) (ci := 7) F hl.1 hH hS hz (c_X7_columns l g gh T I_27 R J_28 AI_29 AJ AR mo v_8 zv_8 hv hm hT (by omega)) (cwV 1 F.2.2.2.2.1 (good_up gT_X7_columns) rfl rfl rfl hdX7_columns ⟨Nat.le_of_ble_eq_true rfl, Nat.le_of_ble_eq_true rfl⟩) hm (by decide) rfl rfl rfl (Nat.le_of_ble_eq_true rfl) dX7_selectTold_76 ⟨Nat.zero_le _, Nat.zero_le _⟩) hS (fun v_232 I_226 R_227 J_228 AI_229 AJ_230 AR_231 H locs zv_232 hp_233 hH hS => ?_)
                  dsimp only at hp_233
                  obtain ⟨rfl, rfl, rfl, rfl, rfl, rfl, q_225⟩ := hp_233
                  have cvv_232 : v_232 = cF b nn nr nt cc h := q_225.trans ((mQ_c hQ rfl vlr_10.1 vlr_10.2.1).trans vlr_10.2.2)
                  refine g_calli (g_runV (As := [.int (iI v_232)]) (rest := []) (ci := 7) F hl.1 hH hS hz (c_X7_columnf l g gh T b nn nr nt cc 0 hc I_27 R J_28 AI_29 AJ AR mo v_232 zv_232 hv hm hT (by omega) h65 hbM hr7 (by omega) hn9 (by omega) hQ) (cwV 1 F.2.2.2.2.1 (good_up gT_X7_column) rfl rfl rfl hdX7_column ⟨Nat.le_of_ble_eq_true rfl, Nat.le_of_ble_eq_true rfl⟩) hm (by decide) rfl rfl rfl (Nat.le_of_ble_eq_true rfl) dX7_selectTold_79 ⟨Nat.zero_le _, Nat.zero_le _⟩) hS (fun v_240 I_234 R_235 J_236 AI_237 AJ_238 AR_239 H locs zv_240 hp_241 hH hS => ?_)
                  dsimp only at hp_241
                  rw [show v_232 = cF b nn nr nt cc h by omega] at hp_241
                  obtain ⟨r_242, er_242⟩ : ∃ qQ : pR, qQ = thn (0, hc, 0) (fun t _ => sCol b nn (cF b nn nr nt cc h) t) := ⟨_, rfl⟩
                  rw [← er_242] at hp_241
                  obtain ⟨rfl, rfl, rfl, rfl, hv, pfq, q_243, q_244, hQ, q_245⟩ := hp_241
                  have pf := qF_t pf pfq
                  have u_246_2 : (I_234 mo 2).toInt = (I mo 2).toInt := by rw [pf 2 (by decide) (by decide) (by decide) (by decide) (by decide)]
                  have u_246_5 : (I_234 mo 5).toInt = (I mo 5).toInt := by rw [pf 5 (by decide) (by decide) (by decide) (by decide) (by decide)]
                  have u_246_14 : (I_234 mo 14).toInt = (I mo 14).toInt := by rw [pf 14 (by decide) (by decide) (by decide) (by decide) (by decide)]
                  have u_246_16 : (I_234 mo 16).toInt = (I mo 16).toInt := by rw [pf 16 (by decide) (by decide) (by decide) (by decide) (by decide)]
                  have u_246_18 : (I_234 mo 18).toInt = (I mo 18).toInt := by rw [pf 18 (by decide) (by decide) (by decide) (by decide) (by decide)]
                  have er_242 : r_242 = sCol b nn (cF b nn nr nt cc h) hc := er_242
                  have sr_242 := er_242
                  rcases sCol_c er_242 with ⟨er_242, pr_242⟩ | ⟨er_242, pr_242⟩
                  · have hQ : mQ gh I_234 J_236 AI_29 AJ mo b nn nr nt cc 0 (hc + 1) := by rw [er_242] at hQ; exact hQ
                    have sr_242 : sCol b nn (cF b nn nr nt cc h) hc = (0, hc + 1, pV b nn hc) := sr_242.symm.trans er_242
                    have vlr_242 := q_245 (by rw [er_242])
                    try rw [er_242] at vlr_242
                    try dsimp only at vlr_242
                    have kq_244 := q_244 (mQ_0 hQ rfl)
                    replace q_244 := hid q_244
                    obtain ⟨f1, ef1⟩ : ∃ q, q = (I_234 mo 24).toInt := ⟨_, rfl⟩
                    have hc1 : Hid (f1 = 0 → 0 ≤ v_240 ∧ v_240 ≤ 3) := fun h9 => by omega
                    refine lv_istore (lv' := [(4, .int (iI v_240)), (3, .int (iI mr)), (2, .int (iI n)), (1, .int (iI v_8)), (0, .ref mo)]) F.1 F.2.1 dX7_selectTold_82 hl (by decide) rfl (fun ls hl => ?_)
                    have cut_124_246 : ∀ (sg : Int) (H : Heap) (locs : List Loc) (ls : Array Slot), zr sg → (-1 ≤ sg ∧ sg ≤ 2) → (pSg sg (pSi b nn (hc + 1))) → (pSv sg (pK b nn (hc + 1))) → gH g I_234 R J_236 AI_29 AJ AR H → va_S (gA g) s.heap H locs → lv_has ls 8 [(4, .int (iI v_240)), (3, .int (iI mr)), (2, .int (iI n)), (1, .int (iI v_8)), (0, .ref mo)] → W p l e rmX7_selectToldg s m ([.ref mo] : List Value).toArray below meth c H locs 0 0 (MQ below (gQv g (fun w : gS => R = w.2.1 ∧ AJ = w.2.2.2.2.1 ∧ AR = w.2.2.2.2.2 ∧ (mInv g gh R (w.1) (w.2.2.2.1)) ∧ ((w.2.2.2.1) (gh 50 0) = T) ∧ (qF mo I (w.1)) ∧ (((w.1) mo 20).toInt ≤ 936 ∧ (I mo 24).toInt ≤ ((w.1) mo 24).toInt) ∧ (((w.1) mo 24).toInt = 0 → ((w.1) mo 21).toInt = 4 → ((w.1) mo 23).toInt = 59 → rowOK ((w.2.2.2.1) (gh 53 0)) M) ∧ (((w.1) mo 24).toInt = 0 → tI ((w.2.2.2.1) (gh 53 0)) (40 * M) = 1) ∧ (mQ gh (w.1) (w.2.2.1) (w.2.2.2.1) AJ mo b nn nr nt cc (thn (f, h, 0) (fun t _ => sSel b nn nr nt cc t)).1 (thn (f, h, 0) (fun t _ => sSel b nn nr nt cc t)).2.1) ∧ (pIc (thn (f, h, 0) (fun t _ => sSel b nn nr nt cc t)).1 (pK b nn (thn (f, h, 0) (fun t _ => sSel b nn nr nt cc t)).2.1) (tI ((w.2.2.2.1) (gh 53 0)) (40 * (nr : Int) + 1)) (thn (f, h, 0) (fun t _ => sSel b nn nr nt cc t)).2.2) ∧ (zIf (thn (f, h, 0) (fun t _ => sSel b nn nr nt cc t)).1 (frM M (AI (gh 53 0)) ((w.2.2.2.1) (gh 53 0)))) ∧ (zIf (thn (f, h, 0) (fun t _ => sSel b nn nr nt cc t)).1 (mSel b nn nr nt h ((w.2.2.2.1) (gh 53 0)) M)) ∧ (∀ b, b ≠ gh 53 0 → (w.2.2.2.1) b = AI b))) ([.ref mo] : List Value).toArray s 0 0 (gA g)) (F0 m 124 ls [.int (iI sg)]) := by
                      intro sg H locs ls zsg hsg hsg2 hsg3 hH hS hl
                      refine lv_istore (lv' := [(5, .int (iI sg)), (4, .int (iI v_240)), (3, .int (iI mr)), (2, .int (iI n)), (1, .int (iI v_8)), (0, .ref mo)]) F.1 F.2.1 dX7_selectTold_124 hl (by decide) rfl (fun ls hl => ?_)
                      refine lv_iload F.1 F.2.1 dX7_selectTold_126 (lv_at hl 0 rfl) ?_
                      refine z_if_ge (tgt := 136) F dX7_selectTold_128 (by decide) zsg (fun c_248 => ?_) (fun c_248 => ?_)
                      · have ysg := pSg_y hsg2 (by omega)
                        refine lv_aload_n F.1 F.2.1 dX7_selectTold_136 rfl (lv_at hl 5 rfl) ?_
                        have b_249 := mJ hv hm
                        unfold mNum1 at b_249
                        refine g_callv (g_runV (As := []) (rest := []) (ci := 7) F hl.1 hH hS hz (c_X7_nextf l g gh T b nn (tNd b nn (tPs b nn (hc + 1))) I_234 R J_236 AI_29 AJ AR mo hv hm hT (by omega) (mTp hv h65 hbM) hr7 (by omega) (by omega) (mQ_e0 hQ) tNd_le.1) (cwV 0 F.2.2.2.2.1 (good_up gT_X7_next) rfl rfl rfl hdX7_next ⟨Nat.le_of_ble_eq_true rfl, Nat.le_of_ble_eq_true rfl⟩) hm (by decide) rfl rfl rfl (Nat.le_of_ble_eq_true rfl) dX7_selectTold_137 ⟨Nat.zero_le _, Nat.zero_le _⟩) hS (fun I_250 R_251 J_252 AI_253 AJ_254 AR_255 H locs hp_256 hH hS => ?_)
                        dsimp only at hp_256
                        obtain ⟨rfl, rfl, rfl, rfl, hv, pfq, q_257, nx4, nxa, nxb⟩ := hp_256
                        have pf := qF_t pf pfq
                        have u_258_2 : (I_250 mo 2).toInt = (I mo 2).toInt := by rw [pf 2 (by decide) (by decide) (by decide) (by decide) (by decide)]
                        have u_258_5 : (I_250 mo 5).toInt = (I mo 5).toInt := by rw [pf 5 (by decide) (by decide) (by decide) (by decide) (by decide)]
                        have u_258_14 : (I_250 mo 14).toInt = (I mo 14).toInt := by rw [pf 14 (by decide) (by decide) (by decide) (by decide) (by decide)]
                        have u_258_16 : (I_250 mo 16).toInt = (I mo 16).toInt := by rw [pf 16 (by decide) (by decide) (by decide) (by decide) (by decide)]
                        have u_258_18 : (I_250 mo 18).toInt = (I mo 18).toInt := by rw [pf 18 (by decide) (by decide) (by decide) (by decide) (by decide)]
                        have hQ : mQ gh I_250 J_252 AI_29 AJ mo b nn nr nt cc 0 (hc + 2) := mQ_nx hQ nx4 nxa
                        clear nxa nxb
                        refine lv_aload_n F.1 F.2.1 dX7_selectTold_140 rfl (lv_at hl 5 rfl) ?_
                        refine g_getI (ci := 7) (k := 21) F hH rfl (by decide) iX7 hm (by decide) rfl k94 dX7_selectTold_141 ?_
                        have b_259 := mJ hv hm
                        unfold mNum1 at b_259
                        refine z_iconst F dX7_selectTold_144 ?_
                        refine z_icmp_ne (tgt := 152) F dX7_selectTold_145 (by decide) (zr_t _) ⟨by decide, by decide⟩ (fun c_260 => ?_) (fun c_260 => ?_)
                        · have t_261 : pK b nn (hc + 2) ≠ 2 := mQ_kn hQ rfl (c := 1) rfl (by omega)
                          refine z_iconst F dX7_selectTold_152 ?_
                          refine lv_istore (lv' := [(6, .int (iI 0)), (5, .int (iI sg)), (4, .int (iI v_240)), (3, .int (iI mr)), (2, .int (iI n)), (1, .int (iI v_8)), (0, .ref mo)]) F.1 F.2.1 dX7_selectTold_153 hl (by decide) rfl (fun ls hl => ?_)
                          have cut_176_263 : ∀ (v7 : Int) (I_262 : gI) (J_263 : gJ) (H : Heap) (locs : List Loc) (ls : Array Slot), zr v7 → (mInv g gh R I_262 AI_29) → (qF mo I I_262) → ((I_262 mo 20).toInt ≤ 936 ∧ f1 ≤ (I_262 mo 24).toInt ∧ (0 = 0 ∨ 0 ≤ v7 ∧ v7 ≤ 3)) → (Hid (pK b nn (hc + 2) = 4 ∨ pCf b nn (cF b nn nr nt cc h) (hc + 2) = 0)) → (mQ gh I_262 J_263 AI_29 AJ mo b nn nr nt cc 0 (hc + 3)) → (v7 = pV b nn (hc + 2)) → (Hid (0 = 0 → pK b nn (hc + 2) = 4)) → gH g I_262 R J_263 AI_29 AJ AR H → va_S (gA g) s.heap H locs → lv_has ls 8 [(6, .int (iI 0)), (5, .int (iI sg)), (4, .int (iI v_240)), (3, .int (iI mr)), (2, .int (iI n)), (1, .int (iI v_8)), (0, .ref mo)] → W p l e rmX7_selectToldg s m ([.ref mo] : List Value).toArray below meth c H locs 0 0 (MQ below (gQv g (fun w : gS => R = w.2.1 ∧ AJ = w.2.2.2.2.1 ∧ AR = w.2.2.2.2.2 ∧ (mInv g gh R (w.1) (w.2.2.2.1)) ∧ ((w.2.2.2.1) (gh 50 0) = T) ∧ (qF mo I (w.1)) ∧ (((w.1) mo 20).toInt ≤ 936 ∧ (I mo 24).toInt ≤ ((w.1) mo 24).toInt) ∧ (((w.1) mo 24).toInt = 0 → ((w.1) mo 21).toInt = 4 → ((w.1) mo 23).toInt = 59 → rowOK ((w.2.2.2.1) (gh 53 0)) M) ∧ (((w.1) mo 24).toInt = 0 → tI ((w.2.2.2.1) (gh 53 0)) (40 * M) = 1) ∧ (mQ gh (w.1) (w.2.2.1) (w.2.2.2.1) AJ mo b nn nr nt cc (thn (f, h, 0) (fun t _ => sSel b nn nr nt cc t)).1 (thn (f, h, 0) (fun t _ => sSel b nn nr nt cc t)).2.1) ∧ (pIc (thn (f, h, 0) (fun t _ => sSel b nn nr nt cc t)).1 (pK b nn (thn (f, h, 0) (fun t _ => sSel b nn nr nt cc t)).2.1) (tI ((w.2.2.2.1) (gh 53 0)) (40 * (nr : Int) + 1)) (thn (f, h, 0) (fun t _ => sSel b nn nr nt cc t)).2.2) ∧ (zIf (thn (f, h, 0) (fun t _ => sSel b nn nr nt cc t)).1 (frM M (AI (gh 53 0)) ((w.2.2.2.1) (gh 53 0)))) ∧ (zIf (thn (f, h, 0) (fun t _ => sSel b nn nr nt cc t)).1 (mSel b nn nr nt h ((w.2.2.2.1) (gh 53 0)) M)) ∧ (∀ b, b ≠ gh 53 0 → (w.2.2.2.1) b = AI b))) ([.ref mo] : List Value).toArray s 0 0 (gA g)) (F0 m 176 ls [.int (iI v7)]) := by
                            intro v7 I_262 J_263 H locs ls zv7 hv pf h176 hpj hQ hv7 hk7 hH hS hl
                            (try clear b_259); (try clear u_258_18); (try clear u_258_16); (try clear u_258_14); (try clear u_258_5); (try clear u_258_2); (try clear b_249); (try clear u_246_18); (try clear u_246_16); (try clear u_246_14); (try clear u_246_5); (try clear u_246_2); (try clear b_32); (try clear uc_18); (try clear uc_16); (try clear uc_14); (try clear uc_5); (try clear uc_2); (try clear u_26_18); (try clear u_26_16); (try clear u_26_14); (try clear u_26_5); (try clear u_26_2); (try clear b_16); (try clear u_15_18); (try clear u_15_16); (try clear u_15_14); (try clear u_15_5); (try clear u_15_2); (try clear b_1)
                            have uc_2 : (I_262 mo 2).toInt = (I mo 2).toInt := by rw [pf 2 (by decide) (by decide) (by decide) (by decide) (by decide)]
                            have uc_5 : (I_262 mo 5).toInt = (I mo 5).toInt := by rw [pf 5 (by decide) (by decide) (by decide) (by decide) (by decide)]
                            have uc_14 : (I_262 mo 14).toInt = (I mo 14).toInt := by rw [pf 14 (by decide) (by decide) (by decide) (by decide) (by decide)]
                            have uc_16 : (I_262 mo 16).toInt = (I mo 16).toInt := by rw [pf 16 (by decide) (by decide) (by decide) (by decide) (by decide)]
                            have uc_18 : (I_262 mo 18).toInt = (I mo 18).toInt := by rw [pf 18 (by decide) (by decide) (by decide) (by decide) (by decide)]
                            refine lv_istore (lv' := [(7, .int (iI v7)), (6, .int (iI 0)), (5, .int (iI sg)), (4, .int (iI v_240)), (3, .int (iI mr)), (2, .int (iI n)), (1, .int (iI v_8)), (0, .ref mo)]) F.1 F.2.1 dX7_selectTold_176 hl (by decide) rfl (fun ls hl => ?_)
                            refine lv_aload_n F.1 F.2.1 dX7_selectTold_178 rfl (lv_at hl 7 rfl) ?_
                            refine lv_iload_n F.1 F.2.1 dX7_selectTold_179 rfl (lv_at hl 5 rfl) ?_
                            refine lv_iload F.1 F.2.1 dX7_selectTold_180 (lv_at hl 3 rfl) ?_
                            refine lv_iload F.1 F.2.1 dX7_selectTold_182 (lv_at hl 2 rfl) ?_
                            refine lv_iload F.1 F.2.1 dX7_selectTold_184 (lv_at hl 1 rfl) ?_
                            refine z_if_eq (tgt := 193) F dX7_selectTold_186 (by decide) ⟨by decide, by decide⟩ (fun c_265 => ?_) (fun c_265 => ?_)
                            · refine z_iconst F dX7_selectTold_193 ?_
                              refine lv_iload F.1 F.2.1 dX7_selectTold_194 (lv_at hl 0 rfl) ?_
                              have b_266 := mJ hv hm
                              unfold mNum1 at b_266
                              refine g_callv (g_runV (As := [.int (iI n), .int (iI v_240), .int (iI sg), .int (iI 0), .int (iI v7)]) (rest := []) (ci := 7) F hl.1 hH hS hz (c_X7_setsPartg l g gh T M I_262 R J_263 AI_29 AJ AR mo n v_240 sg 0 v7 zn zv_240 zsg ⟨by decide, by decide⟩ zv7 hv hm hT (by omega) (by omega) (by omega)) (cwV 5 F.2.2.2.2.1 (good_up gT_X7_setsPart) rfl rfl rfl hdX7_setsPart ⟨Nat.le_of_ble_eq_true rfl, Nat.le_of_ble_eq_true rfl⟩) hm (by decide) rfl rfl rfl (Nat.le_of_ble_eq_true rfl) dX7_selectTold_196 ⟨Nat.zero_le _, Nat.zero_le _⟩) hS (fun I_267 R_268 J_269 AI_270 AJ_271 AR_272 H locs hp_273 hH hS => ?_)
                              dsimp only at hp_273
                              obtain ⟨rfl, rfl, rfl, rfl, rfl, hv, hT, hsp, q_274⟩ := hp_273
                              replace hsp := hid hsp
                              have hQ : mQ gh I_262 J_263 AI_270 AJ mo b nn nr nt cc 0 (hc + 3) := mQ_a hQ (fun hf9 z9 h09 h19 => (hsp hf9).1 z9 h09 (Or.inl (by omega)))
                              have k7 : pK b nn (hc + 2) = 4 := hk7 rfl
                              have hct := rTest_mk (b := b) (n := nn) (hc := hc) (k := n) (by omega) (hsp (mQ_0 hQ rfl)) (by omega) hsg3 (by omega) (by omega) hv7
                              have hqa := rAll_s rTest_l hqa hil (by omega) (Int.le_refl 0) (hsp (mQ_0 hQ rfl)) (by omega) hct
                              have hfr := frM_p hfr (by omega) (hsp (mQ_0 hQ rfl))
                              refine z_iinc (lv' := [(2, .int (iI (n + 1))), (7, .int (iI v7)), (6, .int (iI 0)), (5, .int (iI sg)), (4, .int (iI v_240)), (3, .int (iI mr)), (1, .int (iI v_8)), (0, .ref mo)]) F dX7_selectTold_199 hl (k := 5) rfl (by decide) rfl (fun ls hl => ?_)
                              refine lv_aload_n F.1 F.2.1 dX7_selectTold_202 rfl (lv_at hl 7 rfl) ?_
                              refine va_ldcS F.1 F.2.1 F.2.2.2.1 (F.2.2.2.2.2.2.1 11 _ rfl).1 dX7_selectTold_203 ?_
                              refine g_calli (g_runV (As := [.ref (gSK g 11)]) (rest := []) (ci := 7) F hl.1 hH hS hz (c_X7_isWordf l g gh T 11 _ 11 b nn nr nt cc 0 (hc + 3) I_262 R J_263 AI_270 AJ AR mo hv hm hT (rfl : sTab[11]? = some _) (by decide) (by decide +kernel) h65 hbM hr7 (by omega) hn9 (by omega) hQ) (cwV 1 F.2.2.2.2.1 (good_up gT_X7_isWord) rfl rfl rfl hdX7_isWord ⟨Nat.le_of_ble_eq_true rfl, Nat.le_of_ble_eq_true rfl⟩) hm (by decide) rfl rfl rfl (Nat.le_of_ble_eq_true rfl) dX7_selectTold_205 ⟨Nat.zero_le _, Nat.zero_le _⟩) hS (fun v_281 I_275 R_276 J_277 AI_278 AJ_279 AR_280 H locs zv_281 hp_282 hH hS => ?_)
                              dsimp only at hp_282
                              obtain ⟨rfl, rfl, rfl, rfl, rfl, rfl, q_283, q_284⟩ := hp_282
                              refine lv_istore_n (lv' := [(3, .int (iI v_281)), (2, .int (iI (n + 1))), (7, .int (iI v7)), (6, .int (iI 0)), (5, .int (iI sg)), (4, .int (iI v_240)), (1, .int (iI v_8)), (0, .ref mo)]) F.1 F.2.1 dX7_selectTold_208 rfl hl (by decide) rfl (fun ls hl => ?_)
                              refine lv_iload_n F.1 F.2.1 dX7_selectTold_209 rfl (lv_at hl 0 rfl) ?_
                              refine z_if_eq (tgt := 217) F dX7_selectTold_210 (by decide) zv_281 (fun c_285 => ?_) (fun c_285 => ?_)
                              · have t_286 := tIz_n q_284 (by omega)
                                have hTs : sTest b nn (cF b nn nr nt cc h) n hc = (0, hc + 3, 0) := sTest_ok (by omega) (by omega) ysg hpj
                                have hp : Hid ((I_262 mo 24).toInt = 0 → (n + 1) ≤ 8 ∧ selP (AI_270 (gh 53 0)) M (n + 1)) := ((fun hf => ⟨by omega, selP_step (by omega) (hp (by omega)).2 (hsp (by omega)) (by omega) (by omega)⟩))
                                have hS9 : sSel b nn nr nt cc h = (0, hc + 3, (cF b nn nr nt cc h)) := sTests_st hsq (f := (8 - n).toNat) (by omega) hTs.symm rfl (by omega)
                                have hcnt := iL_st hil (by omega) (sTest_h hTs.symm rfl) (spA_n (by omega))
                                refine z_goto (tgt := 15) F dX7_selectTold_217 (by decide) ?_
                                refine lv_iload_n F.1 F.2.1 dX7_selectTold_15 rfl (lv_at hl 0 rfl) ?_
                                refine z_if_eq (tgt := 220) F dX7_selectTold_16 (by decide) zv_281 (fun c_287 => ?_) (fun c_287 => ?_)
                                · have t_288 := tIz_n q_284 (by omega)
                                  refine lv_aload_n F.1 F.2.1 dX7_selectTold_220 rfl (lv_at hl 7 rfl) ?_
                                  refine z_iconst F dX7_selectTold_221 ?_
                                  refine lv_aload_n F.1 F.2.1 dX7_selectTold_222 rfl (lv_at hl 7 rfl) ?_
                                  refine lv_iload_n F.1 F.2.1 dX7_selectTold_223 rfl (lv_at hl 6 rfl) ?_
                                  refine g_calli (g_runV (As := [.int (iI v_8)]) (rest := [.int (iI 1), .ref mo]) (ci := 7) F hl.1 hH hS hz (c_X7_columns l g gh T I_262 R J_263 AI_270 AJ AR mo v_8 zv_8 hv hm hT (by omega)) (cwV 1 F.2.2.2.2.1 (good_up gT_X7_columns) rfl rfl rfl hdX7_columns ⟨Nat.le_of_ble_eq_true rfl, Nat.le_of_ble_eq_true rfl⟩) hm (by decide) rfl rfl rfl (Nat.le_of_ble_eq_true rfl) dX7_selectTold_224 ⟨Nat.zero_le _, Nat.zero_le _⟩) hS (fun v_296 I_290 R_291 J_292 AI_293 AJ_294 AR_295 H locs zv_296 hp_297 hH hS => ?_)
                                  dsimp only at hp_297
                                  obtain ⟨rfl, rfl, rfl, rfl, rfl, rfl, q_289⟩ := hp_297
                                  have cvv_296 : v_296 = cF b nn nr nt cc h := q_289.trans ((mQ_c hQ rfl vlr_10.1 vlr_10.2.1).trans vlr_10.2.2)
                                  have hcol : Hid ((I_262 mo 24).toInt = 0 → 1 ≤ v_296 ∧ v_296 ≤ 4) := fun h => by have q9 := mCol hv hm (z := v_8) (by omega) (by omega); omega
                                  refine lv_iload_n F.1 F.2.1 dX7_selectTold_227 rfl (lv_at hl 6 rfl) ?_
                                  refine z_iconst F dX7_selectTold_228 ?_
                                  refine lv_iload_n F.1 F.2.1 dX7_selectTold_229 rfl (lv_at hl 1 rfl) ?_
                                  refine g_callv (g_runV (As := [.int (iI 1), .int (iI v_296), .int (iI v_8), .int (iI ((-1))), .int (iI (n + 1))]) (rest := []) (ci := 7) F hl.1 hH hS hz (c_X7_headerg l g gh T M I_262 R J_263 AI_270 AJ AR mo 1 v_296 v_8 (-1) (n + 1) ⟨by decide, by decide⟩ zv_296 zv_8 ⟨by decide, by decide⟩ ⟨by omega, by omega⟩ hv hm hT (by omega) (by omega)) (cwV 5 F.2.2.2.2.1 (good_up gT_X7_header) rfl rfl rfl hdX7_header ⟨Nat.le_of_ble_eq_true rfl, Nat.le_of_ble_eq_true rfl⟩) hm (by decide) rfl rfl rfl (Nat.le_of_ble_eq_true rfl) dX7_selectTold_230 ⟨Nat.zero_le _, Nat.zero_le _⟩) hS (fun I_298 R_299 J_300 AI_301 AJ_302 AR_303 H locs hp_304 hH hS => ?_)
                                  dsimp only at hp_304
                                  obtain ⟨rfl, rfl, rfl, rfl, rfl, hv, hT, hhd, q_305⟩ := hp_304
                                  replace hhd := hid hhd
                                  have hQ : mQ gh I_262 J_263 AI_301 AJ mo b nn nr nt cc 0 (hc + 3) := mQ_a hQ (fun hf9 z9 h09 h19 => (hhd hf9).1 z9 h09 (Or.inl (by omega)))
                                  have hfr := frM_h hfr (hhd (mQ_0 hQ rfl))
                                  have hqa := rAll_h rTest_l (by omega) (Int.le_refl 0) (hhd (mQ_0 hQ rfl)) hqa
                                  have hfin : thn (f, h, 0) (fun t _ => sSel b nn nr nt cc t) = (0, hc + 3, (cF b nn nr nt cc h)) := (thn_k q0).trans hS9
                                  exact g_vret F hr hlk hH hS hz ⟨rfl, rfl, rfl, hv, hT, pf, by first | (dsimp only; omega) | omega | rfl, by (try dsimp only); intro hf ht hn; exact row_mk (by omega) (hhd (by omega)) (by omega) (hcol (by omega)) (by omega) (by omega) (fun h => absurd h (by omega)) (fun _ => (hp (by omega)).2) (fun h => absurd h (by omega)) (fun h => absurd h (by omega)) (fun h => absurd h (by omega)) (fun h => absurd h (by omega)) (fun h => absurd h (by omega)), by (try dsimp only); intro hf; exact (hhd (by omega)).2.1, by (try dsimp only); rw [hfin]; exact hQ, by (try dsimp only); rw [hfin]; have q9 := (hhd (mQ_0 hQ rfl)).2.2.1; rw [show M = (nr : Int) by omega] at q9; (try dsimp only); exact pIc_y (by omega), by (try dsimp only); rw [hfin]; exact zIf_y (hfr), by (try dsimp only); rw [hfin]; exact zIf_y (⟨⟨(hhd (mQ_0 hQ rfl)).2.2.2.1.trans vfr_10, (hhd (mQ_0 hQ rfl)).2.2.2.2.1⟩, (hhd (mQ_0 hQ rfl)).2.2.2.2.2.trans (by omega), by rw [hcnt]; exact hqa⟩), fun b hb => ((q_305 b hb).trans (q_274 b hb)).trans (fA9 b hb)⟩ dX7_selectTold_233
                                · exact absurd trivial (by omega)
                              · have t_306 := tIz_y q_284 (by omega)
                                refine lv_aload_n F.1 F.2.1 dX7_selectTold_213 rfl (lv_at hl 7 rfl) ?_
                                refine g_callv (g_runV (As := []) (rest := []) (ci := 7) F hl.1 hH hS hz (c_X7_nextf l g gh T b nn (tNd b nn (tPs b nn (hc + 3))) I_262 R J_263 AI_270 AJ AR mo hv hm hT (by omega) (mTp hv h65 hbM) hr7 (by omega) (by omega) (mQ_e0 hQ) tNd_le.1) (cwV 0 F.2.2.2.2.1 (good_up gT_X7_next) rfl rfl rfl hdX7_next ⟨Nat.le_of_ble_eq_true rfl, Nat.le_of_ble_eq_true rfl⟩) hm (by decide) rfl rfl rfl (Nat.le_of_ble_eq_true rfl) dX7_selectTold_214 ⟨Nat.zero_le _, Nat.zero_le _⟩) hS (fun I_307 R_308 J_309 AI_310 AJ_311 AR_312 H locs hp_313 hH hS => ?_)
                                dsimp only at hp_313
                                obtain ⟨rfl, rfl, rfl, rfl, hv, pfq, q_314, nx4, nxa, nxb⟩ := hp_313
                                have pf := qF_t pf pfq
                                have u_315_2 : (I_307 mo 2).toInt = (I mo 2).toInt := by rw [pf 2 (by decide) (by decide) (by decide) (by decide) (by decide)]
                                have u_315_5 : (I_307 mo 5).toInt = (I mo 5).toInt := by rw [pf 5 (by decide) (by decide) (by decide) (by decide) (by decide)]
                                have u_315_14 : (I_307 mo 14).toInt = (I mo 14).toInt := by rw [pf 14 (by decide) (by decide) (by decide) (by decide) (by decide)]
                                have u_315_16 : (I_307 mo 16).toInt = (I mo 16).toInt := by rw [pf 16 (by decide) (by decide) (by decide) (by decide) (by decide)]
                                have u_315_18 : (I_307 mo 18).toInt = (I mo 18).toInt := by rw [pf 18 (by decide) (by decide) (by decide) (by decide) (by decide)]
                                have hQ : mQ gh I_307 J_309 AI_270 AJ mo b nn nr nt cc 0 (hc + 4) := mQ_nx hQ nx4 nxa
                                clear nxa nxb
                                have hTs : sTest b nn (cF b nn nr nt cc h) n hc = (0, hc + 3, 0) := sTest_ok (by omega) (by omega) ysg hpj
                                have hsq := sTests_go hsq (f := (8 - n).toNat) (by omega) hTs.symm rfl (by omega)
                                have hil := iL_go hil (by omega) (sTest_h hTs.symm rfl) (spA_y (by omega))
                                refine z_goto (tgt := 15) F dX7_selectTold_217 (by decide) ?_
                                exact ih15 (n + 1) v_281 I_307 J_309 AI_270 H locs ls ⟨by omega, by omega⟩ zv_281 hv hT pf (by omega) ((fun hf => ⟨by omega, selP_step (by omega) (hp (by omega)).2 (hsp (by omega)) (by omega) (by omega)⟩)) ⟨_, hQ, by rw [show (9 - (n + 1)).toNat = (8 - n).toNat by omega]; exact hsq, hil, hqa⟩ (by omega) hfr (fun b hb => (q_274 b hb).trans (fA9 b hb)) (by omega) hH hS (lv_sub hl [0, 1, 6, 7] rfl)
                            · exact absurd trivial (by omega)
                          refine lv_iload F.1 F.2.1 dX7_selectTold_155 (lv_at hl 0 rfl) ?_
                          refine z_if_eq (tgt := 172) F dX7_selectTold_157 (by decide) ⟨by decide, by decide⟩ (fun c_316 => ?_) (fun c_316 => ?_)
                          · refine lv_aload_n F.1 F.2.1 dX7_selectTold_172 rfl (lv_at hl 6 rfl) ?_
                            refine g_calli (g_runV (As := []) (rest := []) (ci := 7) F hl.1 hH hS hz (c_X7_numberToldf l g gh T b nn nr nt cc 0 (hc + 2) I_250 R J_252 AI_29 AJ AR mo hv hm hT (by omega) h65 hbM hr7 (by omega) hn9 (by omega) hQ) (cwV 0 F.2.2.2.2.1 (good_up gT_X7_numberTold) rfl rfl rfl hdX7_numberTold ⟨Nat.le_of_ble_eq_true rfl, Nat.le_of_ble_eq_true rfl⟩) hm (by decide) rfl rfl rfl (Nat.le_of_ble_eq_true rfl) dX7_selectTold_173 ⟨Nat.zero_le _, Nat.zero_le _⟩) hS (fun v_323 I_317 R_318 J_319 AI_320 AJ_321 AR_322 H locs zv_323 hp_324 hH hS => ?_)
                            dsimp only at hp_324
                            obtain ⟨r_325, er_325⟩ : ∃ qQ : pR, qQ = thn (0, (hc + 2), 0) (fun t _ => sNum b nn t) := ⟨_, rfl⟩
                            rw [← er_325] at hp_324
                            obtain ⟨rfl, rfl, rfl, rfl, hv, pfq, q_326, q_327, hQ, q_328⟩ := hp_324
                            have pf := qF_t pf pfq
                            have u_329_2 : (I_317 mo 2).toInt = (I mo 2).toInt := by rw [pf 2 (by decide) (by decide) (by decide) (by decide) (by decide)]
                            have u_329_5 : (I_317 mo 5).toInt = (I mo 5).toInt := by rw [pf 5 (by decide) (by decide) (by decide) (by decide) (by decide)]
                            have u_329_14 : (I_317 mo 14).toInt = (I mo 14).toInt := by rw [pf 14 (by decide) (by decide) (by decide) (by decide) (by decide)]
                            have u_329_16 : (I_317 mo 16).toInt = (I mo 16).toInt := by rw [pf 16 (by decide) (by decide) (by decide) (by decide) (by decide)]
                            have u_329_18 : (I_317 mo 18).toInt = (I mo 18).toInt := by rw [pf 18 (by decide) (by decide) (by decide) (by decide) (by decide)]
                            have er_325 : r_325 = sNum b nn (hc + 2) := er_325
                            have sr_325 := er_325
                            rcases sNum_c er_325 with ⟨er_325, pr_325⟩ | ⟨er_325, pr_325⟩
                            · have hQ : mQ gh I_317 J_319 AI_29 AJ mo b nn nr nt cc 0 (hc + 3) := by rw [er_325] at hQ; exact hQ
                              have sr_325 : sNum b nn (hc + 2) = (0, hc + 3, pV b nn (hc + 2)) := sr_325.symm.trans er_325
                              have vlr_325 := q_328 (by rw [er_325])
                              try rw [er_325] at vlr_325
                              try dsimp only at vlr_325
                              have kq_327 := q_327 (mQ_0 hQ rfl)
                              replace q_327 := hid q_327
                              exact cut_176_263 v_323 I_317 J_319 H locs ls zv_323 hv pf (by omega) (by first | exact Or.inl (by omega) | exact Or.inr (by omega)) hQ (by omega) (fun h9 => by omega) hH hS (lv_sub hl [0, 1, 2, 3, 4, 5, 6] rfl)
                            · have hQ : mQ gh I_317 J_319 AI_29 AJ mo b nn nr nt cc 1 (hc + 2) := by rw [er_325] at hQ; exact hQ
                              have sr_325 := sr_325.symm.trans er_325
                              have g9r_325 := mQ_f hQ (by omega)
                              replace q_327 := hid q_327
                              refine lv_istore (lv' := [(7, .int (iI v_323)), (6, .int (iI 0)), (5, .int (iI sg)), (4, .int (iI v_240)), (3, .int (iI mr)), (2, .int (iI n)), (1, .int (iI v_8)), (0, .ref mo)]) F.1 F.2.1 dX7_selectTold_176 hl (by decide) rfl (fun ls hl => ?_)
                              have hTs : sTest b nn (cF b nn nr nt cc h) n hc = (1, hc + 2, 0) := pE1 (sTest_v (by omega) (by omega) ysg (by omega) (pCf_n1 (c := (cF b nn nr nt cc h)) (by omega))) (by omega)
                              have hS9 : sSel b nn nr nt cc h = (1, hc + 2, 0) := sTests_no hsq (f := (8 - n).toNat) (by omega) hTs.symm (by omega)
                              have hfin : thn (f, h, 0) (fun t _ => sSel b nn nr nt cc t) = (1, hc + 2, 0) := (thn_k q0).trans hS9
                              exact cut_178_36 v_240 sg 0 v_323 I_317 J_319 AI_29 H locs ls zv_240 zsg ⟨by decide, by decide⟩ zv_323 hv hT pf ⟨_, _, by omega, hQ, hfin⟩ (by omega) (fun b hb => fA9 b hb) hH hS (lv_sub hl [4, 5, 6, 7, 3, 2, 1, 0] rfl)
                          · exact absurd trivial (by omega)
                        · have t_330 := tkM_1 ((mQ_k hQ rfl).symm.trans (by omega))
                          have t_330v := mQ_v hQ rfl (by omega)
                          have t_330c := pV_c t_330
                          refine z_iconst F dX7_selectTold_148 ?_
                          refine z_goto (tgt := 153) F dX7_selectTold_149 (by decide) ?_
                          refine lv_istore (lv' := [(6, .int (iI 1)), (5, .int (iI sg)), (4, .int (iI v_240)), (3, .int (iI mr)), (2, .int (iI n)), (1, .int (iI v_8)), (0, .ref mo)]) F.1 F.2.1 dX7_selectTold_153 hl (by decide) rfl (fun ls hl => ?_)
                          have cut_176_332 : ∀ (v7 : Int) (I_331 : gI) (J_332 : gJ) (H : Heap) (locs : List Loc) (ls : Array Slot), zr v7 → (mInv g gh R I_331 AI_29) → (qF mo I I_331) → ((I_331 mo 20).toInt ≤ 936 ∧ f1 ≤ (I_331 mo 24).toInt ∧ (1 = 0 ∨ 0 ≤ v7 ∧ v7 ≤ 3)) → (Hid (pK b nn (hc + 2) = 4 ∨ pCf b nn (cF b nn nr nt cc h) (hc + 2) = 0)) → (mQ gh I_331 J_332 AI_29 AJ mo b nn nr nt cc 0 (hc + 3)) → (v7 = pV b nn (hc + 2)) → (Hid (1 = 0 → pK b nn (hc + 2) = 4)) → gH g I_331 R J_332 AI_29 AJ AR H → va_S (gA g) s.heap H locs → lv_has ls 8 [(6, .int (iI 1)), (5, .int (iI sg)), (4, .int (iI v_240)), (3, .int (iI mr)), (2, .int (iI n)), (1, .int (iI v_8)), (0, .ref mo)] → W p l e rmX7_selectToldg s m ([.ref mo] : List Value).toArray below meth c H locs 0 0 (MQ below (gQv g (fun w : gS => R = w.2.1 ∧ AJ = w.2.2.2.2.1 ∧ AR = w.2.2.2.2.2 ∧ (mInv g gh R (w.1) (w.2.2.2.1)) ∧ ((w.2.2.2.1) (gh 50 0) = T) ∧ (qF mo I (w.1)) ∧ (((w.1) mo 20).toInt ≤ 936 ∧ (I mo 24).toInt ≤ ((w.1) mo 24).toInt) ∧ (((w.1) mo 24).toInt = 0 → ((w.1) mo 21).toInt = 4 → ((w.1) mo 23).toInt = 59 → rowOK ((w.2.2.2.1) (gh 53 0)) M) ∧ (((w.1) mo 24).toInt = 0 → tI ((w.2.2.2.1) (gh 53 0)) (40 * M) = 1) ∧ (mQ gh (w.1) (w.2.2.1) (w.2.2.2.1) AJ mo b nn nr nt cc (thn (f, h, 0) (fun t _ => sSel b nn nr nt cc t)).1 (thn (f, h, 0) (fun t _ => sSel b nn nr nt cc t)).2.1) ∧ (pIc (thn (f, h, 0) (fun t _ => sSel b nn nr nt cc t)).1 (pK b nn (thn (f, h, 0) (fun t _ => sSel b nn nr nt cc t)).2.1) (tI ((w.2.2.2.1) (gh 53 0)) (40 * (nr : Int) + 1)) (thn (f, h, 0) (fun t _ => sSel b nn nr nt cc t)).2.2) ∧ (zIf (thn (f, h, 0) (fun t _ => sSel b nn nr nt cc t)).1 (frM M (AI (gh 53 0)) ((w.2.2.2.1) (gh 53 0)))) ∧ (zIf (thn (f, h, 0) (fun t _ => sSel b nn nr nt cc t)).1 (mSel b nn nr nt h ((w.2.2.2.1) (gh 53 0)) M)) ∧ (∀ b, b ≠ gh 53 0 → (w.2.2.2.1) b = AI b))) ([.ref mo] : List Value).toArray s 0 0 (gA g)) (F0 m 176 ls [.int (iI v7)]) := by
                            intro v7 I_331 J_332 H locs ls zv7 hv pf h176 hpj hQ hv7 hk7 hH hS hl
                            (try clear b_259); (try clear u_258_18); (try clear u_258_16); (try clear u_258_14); (try clear u_258_5); (try clear u_258_2); (try clear b_249); (try clear u_246_18); (try clear u_246_16); (try clear u_246_14); (try clear u_246_5); (try clear u_246_2); (try clear b_32); (try clear uc_18); (try clear uc_16); (try clear uc_14); (try clear uc_5); (try clear uc_2); (try clear u_26_18); (try clear u_26_16); (try clear u_26_14); (try clear u_26_5); (try clear u_26_2); (try clear b_16); (try clear u_15_18); (try clear u_15_16); (try clear u_15_14); (try clear u_15_5); (try clear u_15_2); (try clear b_1)
                            have uc_2 : (I_331 mo 2).toInt = (I mo 2).toInt := by rw [pf 2 (by decide) (by decide) (by decide) (by decide) (by decide)]
                            have uc_5 : (I_331 mo 5).toInt = (I mo 5).toInt := by rw [pf 5 (by decide) (by decide) (by decide) (by decide) (by decide)]
                            have uc_14 : (I_331 mo 14).toInt = (I mo 14).toInt := by rw [pf 14 (by decide) (by decide) (by decide) (by decide) (by decide)]
                            have uc_16 : (I_331 mo 16).toInt = (I mo 16).toInt := by rw [pf 16 (by decide) (by decide) (by decide) (by decide) (by decide)]
                            have uc_18 : (I_331 mo 18).toInt = (I mo 18).toInt := by rw [pf 18 (by decide) (by decide) (by decide) (by decide) (by decide)]
                            refine lv_istore (lv' := [(7, .int (iI v7)), (6, .int (iI 1)), (5, .int (iI sg)), (4, .int (iI v_240)), (3, .int (iI mr)), (2, .int (iI n)), (1, .int (iI v_8)), (0, .ref mo)]) F.1 F.2.1 dX7_selectTold_176 hl (by decide) rfl (fun ls hl => ?_)
                            refine lv_aload_n F.1 F.2.1 dX7_selectTold_178 rfl (lv_at hl 7 rfl) ?_
                            refine lv_iload_n F.1 F.2.1 dX7_selectTold_179 rfl (lv_at hl 5 rfl) ?_
                            refine lv_iload F.1 F.2.1 dX7_selectTold_180 (lv_at hl 3 rfl) ?_
                            refine lv_iload F.1 F.2.1 dX7_selectTold_182 (lv_at hl 2 rfl) ?_
                            refine lv_iload F.1 F.2.1 dX7_selectTold_184 (lv_at hl 1 rfl) ?_
                            refine z_if_eq (tgt := 193) F dX7_selectTold_186 (by decide) ⟨by decide, by decide⟩ (fun c_334 => ?_) (fun c_334 => ?_)
                            · exact absurd trivial (by omega)
                            · refine z_iconst F dX7_selectTold_189 ?_
                              refine z_goto (tgt := 194) F dX7_selectTold_190 (by decide) ?_
                              refine lv_iload F.1 F.2.1 dX7_selectTold_194 (lv_at hl 0 rfl) ?_
                              have b_335 := mJ hv hm
                              unfold mNum1 at b_335
                              refine g_callv (g_runV (As := [.int (iI n), .int (iI v_240), .int (iI sg), .int (iI 1), .int (iI v7)]) (rest := []) (ci := 7) F hl.1 hH hS hz (c_X7_setsPartg l g gh T M I_331 R J_332 AI_29 AJ AR mo n v_240 sg 1 v7 zn zv_240 zsg ⟨by decide, by decide⟩ zv7 hv hm hT (by omega) (by omega) (by omega)) (cwV 5 F.2.2.2.2.1 (good_up gT_X7_setsPart) rfl rfl rfl hdX7_setsPart ⟨Nat.le_of_ble_eq_true rfl, Nat.le_of_ble_eq_true rfl⟩) hm (by decide) rfl rfl rfl (Nat.le_of_ble_eq_true rfl) dX7_selectTold_196 ⟨Nat.zero_le _, Nat.zero_le _⟩) hS (fun I_336 R_337 J_338 AI_339 AJ_340 AR_341 H locs hp_342 hH hS => ?_)
                              dsimp only at hp_342
                              obtain ⟨rfl, rfl, rfl, rfl, rfl, hv, hT, hsp, q_343⟩ := hp_342
                              replace hsp := hid hsp
                              have hQ : mQ gh I_331 J_332 AI_339 AJ mo b nn nr nt cc 0 (hc + 3) := mQ_a hQ (fun hf9 z9 h09 h19 => (hsp hf9).1 z9 h09 (Or.inl (by omega)))
                              have hct := rTest_mk (b := b) (n := nn) (hc := hc) (k := n) (by omega) (hsp (mQ_0 hQ rfl)) (by omega) hsg3 (by omega) (by omega) hv7
                              have hqa := rAll_s rTest_l hqa hil (by omega) (Int.le_refl 0) (hsp (mQ_0 hQ rfl)) (by omega) hct
                              have hfr := frM_p hfr (by omega) (hsp (mQ_0 hQ rfl))
                              refine z_iinc (lv' := [(2, .int (iI (n + 1))), (7, .int (iI v7)), (6, .int (iI 1)), (5, .int (iI sg)), (4, .int (iI v_240)), (3, .int (iI mr)), (1, .int (iI v_8)), (0, .ref mo)]) F dX7_selectTold_199 hl (k := 5) rfl (by decide) rfl (fun ls hl => ?_)
                              refine lv_aload_n F.1 F.2.1 dX7_selectTold_202 rfl (lv_at hl 7 rfl) ?_
                              refine va_ldcS F.1 F.2.1 F.2.2.2.1 (F.2.2.2.2.2.2.1 11 _ rfl).1 dX7_selectTold_203 ?_
                              refine g_calli (g_runV (As := [.ref (gSK g 11)]) (rest := []) (ci := 7) F hl.1 hH hS hz (c_X7_isWordf l g gh T 11 _ 11 b nn nr nt cc 0 (hc + 3) I_331 R J_332 AI_339 AJ AR mo hv hm hT (rfl : sTab[11]? = some _) (by decide) (by decide +kernel) h65 hbM hr7 (by omega) hn9 (by omega) hQ) (cwV 1 F.2.2.2.2.1 (good_up gT_X7_isWord) rfl rfl rfl hdX7_isWord ⟨Nat.le_of_ble_eq_true rfl, Nat.le_of_ble_eq_true rfl⟩) hm (by decide) rfl rfl rfl (Nat.le_of_ble_eq_true rfl) dX7_selectTold_205 ⟨Nat.zero_le _, Nat.zero_le _⟩) hS (fun v_350 I_344 R_345 J_346 AI_347 AJ_348 AR_349 H locs zv_350 hp_351 hH hS => ?_)
                              dsimp only at hp_351
                              obtain ⟨rfl, rfl, rfl, rfl, rfl, rfl, q_352, q_353⟩ := hp_351
                              refine lv_istore_n (lv' := [(3, .int (iI v_350)), (2, .int (iI (n + 1))), (7, .int (iI v7)), (6, .int (iI 1)), (5, .int (iI sg)), (4, .int (iI v_240)), (1, .int (iI v_8)), (0, .ref mo)]) F.1 F.2.1 dX7_selectTold_208 rfl hl (by decide) rfl (fun ls hl => ?_)
                              refine lv_iload_n F.1 F.2.1 dX7_selectTold_209 rfl (lv_at hl 0 rfl) ?_
                              refine z_if_eq (tgt := 217) F dX7_selectTold_210 (by decide) zv_350 (fun c_354 => ?_) (fun c_354 => ?_)
                              · have t_355 := tIz_n q_353 (by omega)
                                have hTs : sTest b nn (cF b nn nr nt cc h) n hc = (0, hc + 3, 0) := sTest_ok (by omega) (by omega) ysg hpj
                                have hp : Hid ((I_331 mo 24).toInt = 0 → (n + 1) ≤ 8 ∧ selP (AI_339 (gh 53 0)) M (n + 1)) := ((fun hf => ⟨by omega, selP_step (by omega) (hp (by omega)).2 (hsp (by omega)) (by omega) (by omega)⟩))
                                have hS9 : sSel b nn nr nt cc h = (0, hc + 3, (cF b nn nr nt cc h)) := sTests_st hsq (f := (8 - n).toNat) (by omega) hTs.symm rfl (by omega)
                                have hcnt := iL_st hil (by omega) (sTest_h hTs.symm rfl) (spA_n (by omega))
                                refine z_goto (tgt := 15) F dX7_selectTold_217 (by decide) ?_
                                refine lv_iload_n F.1 F.2.1 dX7_selectTold_15 rfl (lv_at hl 0 rfl) ?_
                                refine z_if_eq (tgt := 220) F dX7_selectTold_16 (by decide) zv_350 (fun c_356 => ?_) (fun c_356 => ?_)
                                · have t_357 := tIz_n q_353 (by omega)
                                  refine lv_aload_n F.1 F.2.1 dX7_selectTold_220 rfl (lv_at hl 7 rfl) ?_
                                  refine z_iconst F dX7_selectTold_221 ?_
                                  refine lv_aload_n F.1 F.2.1 dX7_selectTold_222 rfl (lv_at hl 7 rfl) ?_
                                  refine lv_iload_n F.1 F.2.1 dX7_selectTold_223 rfl (lv_at hl 6 rfl) ?_
                                  refine g_calli (g_runV (As := [.int (iI v_8)]) (rest := [.int (iI 1), .ref mo]) (ci := 7) F hl.1 hH hS hz (c_X7_columns l g gh T I_331 R J_332 AI_339 AJ AR mo v_8 zv_8 hv hm hT (by omega)) (cwV 1 F.2.2.2.2.1 (good_up gT_X7_columns) rfl rfl rfl hdX7_columns ⟨Nat.le_of_ble_eq_true rfl, Nat.le_of_ble_eq_true rfl⟩) hm (by decide) rfl rfl rfl (Nat.le_of_ble_eq_true rfl) dX7_selectTold_224 ⟨Nat.zero_le _, Nat.zero_le _⟩) hS (fun v_365 I_359 R_360 J_361 AI_362 AJ_363 AR_364 H locs zv_365 hp_366 hH hS => ?_)
                                  dsimp only at hp_366
                                  obtain ⟨rfl, rfl, rfl, rfl, rfl, rfl, q_358⟩ := hp_366
                                  have cvv_365 : v_365 = cF b nn nr nt cc h := q_358.trans ((mQ_c hQ rfl vlr_10.1 vlr_10.2.1).trans vlr_10.2.2)
                                  have hcol : Hid ((I_331 mo 24).toInt = 0 → 1 ≤ v_365 ∧ v_365 ≤ 4) := fun h => by have q9 := mCol hv hm (z := v_8) (by omega) (by omega); omega
                                  refine lv_iload_n F.1 F.2.1 dX7_selectTold_227 rfl (lv_at hl 6 rfl) ?_
                                  refine z_iconst F dX7_selectTold_228 ?_
                                  refine lv_iload_n F.1 F.2.1 dX7_selectTold_229 rfl (lv_at hl 1 rfl) ?_
                                  refine g_callv (g_runV (As := [.int (iI 1), .int (iI v_365), .int (iI v_8), .int (iI ((-1))), .int (iI (n + 1))]) (rest := []) (ci := 7) F hl.1 hH hS hz (c_X7_headerg l g gh T M I_331 R J_332 AI_339 AJ AR mo 1 v_365 v_8 (-1) (n + 1) ⟨by decide, by decide⟩ zv_365 zv_8 ⟨by decide, by decide⟩ ⟨by omega, by omega⟩ hv hm hT (by omega) (by omega)) (cwV 5 F.2.2.2.2.1 (good_up gT_X7_header) rfl rfl rfl hdX7_header ⟨Nat.le_of_ble_eq_true rfl, Nat.le_of_ble_eq_true rfl⟩) hm (by decide) rfl rfl rfl (Nat.le_of_ble_eq_true rfl) dX7_selectTold_230 ⟨Nat.zero_le _, Nat.zero_le _⟩) hS (fun I_367 R_368 J_369 AI_370 AJ_371 AR_372 H locs hp_373 hH hS => ?_)
                                  dsimp only at hp_373
                                  obtain ⟨rfl, rfl, rfl, rfl, rfl, hv, hT, hhd, q_374⟩ := hp_373
                                  replace hhd := hid hhd
                                  have hQ : mQ gh I_331 J_332 AI_370 AJ mo b nn nr nt cc 0 (hc + 3) := mQ_a hQ (fun hf9 z9 h09 h19 => (hhd hf9).1 z9 h09 (Or.inl (by omega)))
                                  have hfr := frM_h hfr (hhd (mQ_0 hQ rfl))
                                  have hqa := rAll_h rTest_l (by omega) (Int.le_refl 0) (hhd (mQ_0 hQ rfl)) hqa
                                  have hfin : thn (f, h, 0) (fun t _ => sSel b nn nr nt cc t) = (0, hc + 3, (cF b nn nr nt cc h)) := (thn_k q0).trans hS9
                                  exact g_vret F hr hlk hH hS hz ⟨rfl, rfl, rfl, hv, hT, pf, by first | (dsimp only; omega) | omega | rfl, by (try dsimp only); intro hf ht hn; exact row_mk (by omega) (hhd (by omega)) (by omega) (hcol (by omega)) (by omega) (by omega) (fun h => absurd h (by omega)) (fun _ => (hp (by omega)).2) (fun h => absurd h (by omega)) (fun h => absurd h (by omega)) (fun h => absurd h (by omega)) (fun h => absurd h (by omega)) (fun h => absurd h (by omega)), by (try dsimp only); intro hf; exact (hhd (by omega)).2.1, by (try dsimp only); rw [hfin]; exact hQ, by (try dsimp only); rw [hfin]; have q9 := (hhd (mQ_0 hQ rfl)).2.2.1; rw [show M = (nr : Int) by omega] at q9; (try dsimp only); exact pIc_y (by omega), by (try dsimp only); rw [hfin]; exact zIf_y (hfr), by (try dsimp only); rw [hfin]; exact zIf_y (⟨⟨(hhd (mQ_0 hQ rfl)).2.2.2.1.trans vfr_10, (hhd (mQ_0 hQ rfl)).2.2.2.2.1⟩, (hhd (mQ_0 hQ rfl)).2.2.2.2.2.trans (by omega), by rw [hcnt]; exact hqa⟩), fun b hb => ((q_374 b hb).trans (q_343 b hb)).trans (fA9 b hb)⟩ dX7_selectTold_233
                                · exact absurd trivial (by omega)
                              · have t_375 := tIz_y q_353 (by omega)
                                refine lv_aload_n F.1 F.2.1 dX7_selectTold_213 rfl (lv_at hl 7 rfl) ?_
                                refine g_callv (g_runV (As := []) (rest := []) (ci := 7) F hl.1 hH hS hz (c_X7_nextf l g gh T b nn (tNd b nn (tPs b nn (hc + 3))) I_331 R J_332 AI_339 AJ AR mo hv hm hT (by omega) (mTp hv h65 hbM) hr7 (by omega) (by omega) (mQ_e0 hQ) tNd_le.1) (cwV 0 F.2.2.2.2.1 (good_up gT_X7_next) rfl rfl rfl hdX7_next ⟨Nat.le_of_ble_eq_true rfl, Nat.le_of_ble_eq_true rfl⟩) hm (by decide) rfl rfl rfl (Nat.le_of_ble_eq_true rfl) dX7_selectTold_214 ⟨Nat.zero_le _, Nat.zero_le _⟩) hS (fun I_376 R_377 J_378 AI_379 AJ_380 AR_381 H locs hp_382 hH hS => ?_)
                                dsimp only at hp_382
                                obtain ⟨rfl, rfl, rfl, rfl, hv, pfq, q_383, nx4, nxa, nxb⟩ := hp_382
                                have pf := qF_t pf pfq
                                have u_384_2 : (I_376 mo 2).toInt = (I mo 2).toInt := by rw [pf 2 (by decide) (by decide) (by decide) (by decide) (by decide)]
                                have u_384_5 : (I_376 mo 5).toInt = (I mo 5).toInt := by rw [pf 5 (by decide) (by decide) (by decide) (by decide) (by decide)]
                                have u_384_14 : (I_376 mo 14).toInt = (I mo 14).toInt := by rw [pf 14 (by decide) (by decide) (by decide) (by decide) (by decide)]
                                have u_384_16 : (I_376 mo 16).toInt = (I mo 16).toInt := by rw [pf 16 (by decide) (by decide) (by decide) (by decide) (by decide)]
                                have u_384_18 : (I_376 mo 18).toInt = (I mo 18).toInt := by rw [pf 18 (by decide) (by decide) (by decide) (by decide) (by decide)]
                                have hQ : mQ gh I_376 J_378 AI_339 AJ mo b nn nr nt cc 0 (hc + 4) := mQ_nx hQ nx4 nxa
                                clear nxa nxb
                                have hTs : sTest b nn (cF b nn nr nt cc h) n hc = (0, hc + 3, 0) := sTest_ok (by omega) (by omega) ysg hpj
                                have hsq := sTests_go hsq (f := (8 - n).toNat) (by omega) hTs.symm rfl (by omega)
                                have hil := iL_go hil (by omega) (sTest_h hTs.symm rfl) (spA_y (by omega))
                                refine z_goto (tgt := 15) F dX7_selectTold_217 (by decide) ?_
                                exact ih15 (n + 1) v_350 I_376 J_378 AI_339 H locs ls ⟨by omega, by omega⟩ zv_350 hv hT pf (by omega) ((fun hf => ⟨by omega, selP_step (by omega) (hp (by omega)).2 (hsp (by omega)) (by omega) (by omega)⟩)) ⟨_, hQ, by rw [show (9 - (n + 1)).toNat = (8 - n).toNat by omega]; exact hsq, hil, hqa⟩ (by omega) hfr (fun b hb => (q_343 b hb).trans (fA9 b hb)) (by omega) hH hS (lv_sub hl [0, 1, 6, 7] rfl)
                          refine lv_iload F.1 F.2.1 dX7_selectTold_155 (lv_at hl 0 rfl) ?_
                          refine z_if_eq (tgt := 172) F dX7_selectTold_157 (by decide) ⟨by decide, by decide⟩ (fun c_385 => ?_) (fun c_385 => ?_)
                          · exact absurd trivial (by omega)
                          · refine lv_aload_n F.1 F.2.1 dX7_selectTold_160 rfl (lv_at hl 6 rfl) ?_
                            refine lv_aload_n F.1 F.2.1 dX7_selectTold_161 rfl (lv_at hl 6 rfl) ?_
                            refine lv_iload_n F.1 F.2.1 dX7_selectTold_162 rfl (lv_at hl 5 rfl) ?_
                            refine g_calli (g_runV (As := [.int (iI v_8)]) (rest := [.ref mo]) (ci := 7) F hl.1 hH hS hz (c_X7_columns l g gh T I_250 R J_252 AI_29 AJ AR mo v_8 zv_8 hv hm hT (by omega)) (cwV 1 F.2.2.2.2.1 (good_up gT_X7_columns) rfl rfl rfl hdX7_columns ⟨Nat.le_of_ble_eq_true rfl, Nat.le_of_ble_eq_true rfl⟩) hm (by decide) rfl rfl rfl (Nat.le_of_ble_eq_true rfl) dX7_selectTold_163 ⟨Nat.zero_le _, Nat.zero_le _⟩) hS (fun v_393 I_387 R_388 J_389 AI_390 AJ_391 AR_392 H locs zv_393 hp_394 hH hS => ?_)
                            dsimp only at hp_394
                            obtain ⟨rfl, rfl, rfl, rfl, rfl, rfl, q_386⟩ := hp_394
                            have cvv_393 : v_393 = cF b nn nr nt cc h := q_386.trans ((mQ_c hQ rfl vlr_10.1 vlr_10.2.1).trans vlr_10.2.2)
                            refine g_calli (g_runV (As := [.int (iI v_393)]) (rest := []) (ci := 7) F hl.1 hH hS hz (c_X7_columnf l g gh T b nn nr nt cc 0 (hc + 2) I_250 R J_252 AI_29 AJ AR mo v_393 zv_393 hv hm hT (by omega) h65 hbM hr7 (by omega) hn9 (by omega) hQ) (cwV 1 F.2.2.2.2.1 (good_up gT_X7_column) rfl rfl rfl hdX7_column ⟨Nat.le_of_ble_eq_true rfl, Nat.le_of_ble_eq_true rfl⟩) hm (by decide) rfl rfl rfl (Nat.le_of_ble_eq_true rfl) dX7_selectTold_166 ⟨Nat.zero_le _, Nat.zero_le _⟩) hS (fun v_401 I_395 R_396 J_397 AI_398 AJ_399 AR_400 H locs zv_401 hp_402 hH hS => ?_)
                            dsimp only at hp_402
                            rw [show v_393 = cF b nn nr nt cc h by omega] at hp_402
                            obtain ⟨r_403, er_403⟩ : ∃ qQ : pR, qQ = thn (0, (hc + 2), 0) (fun t _ => sCol b nn (cF b nn nr nt cc h) t) := ⟨_, rfl⟩
                            rw [← er_403] at hp_402
                            obtain ⟨rfl, rfl, rfl, rfl, hv, pfq, q_404, q_405, hQ, q_406⟩ := hp_402
                            have pf := qF_t pf pfq
                            have u_407_2 : (I_395 mo 2).toInt = (I mo 2).toInt := by rw [pf 2 (by decide) (by decide) (by decide) (by decide) (by decide)]
                            have u_407_5 : (I_395 mo 5).toInt = (I mo 5).toInt := by rw [pf 5 (by decide) (by decide) (by decide) (by decide) (by decide)]
                            have u_407_14 : (I_395 mo 14).toInt = (I mo 14).toInt := by rw [pf 14 (by decide) (by decide) (by decide) (by decide) (by decide)]
                            have u_407_16 : (I_395 mo 16).toInt = (I mo 16).toInt := by rw [pf 16 (by decide) (by decide) (by decide) (by decide) (by decide)]
                            have u_407_18 : (I_395 mo 18).toInt = (I mo 18).toInt := by rw [pf 18 (by decide) (by decide) (by decide) (by decide) (by decide)]
                            have er_403 : r_403 = sCol b nn (cF b nn nr nt cc h) (hc + 2) := er_403
                            have sr_403 := er_403
                            rcases sCol_c er_403 with ⟨er_403, pr_403⟩ | ⟨er_403, pr_403⟩
                            · have hQ : mQ gh I_395 J_397 AI_29 AJ mo b nn nr nt cc 0 (hc + 3) := by rw [er_403] at hQ; exact hQ
                              have sr_403 : sCol b nn (cF b nn nr nt cc h) (hc + 2) = (0, hc + 3, pV b nn (hc + 2)) := sr_403.symm.trans er_403
                              have vlr_403 := q_406 (by rw [er_403])
                              try rw [er_403] at vlr_403
                              try dsimp only at vlr_403
                              have kq_405 := q_405 (mQ_0 hQ rfl)
                              replace q_405 := hid q_405
                              refine z_goto (tgt := 176) F dX7_selectTold_169 (by decide) ?_
                              exact cut_176_332 v_401 I_395 J_397 H locs ls zv_401 hv pf (by omega) (by first | exact Or.inl (by omega) | exact Or.inr (by omega)) hQ (by omega) (fun h9 => by omega) hH hS (lv_sub hl [0, 1, 2, 3, 4, 5, 6] rfl)
                            · have hQ : mQ gh I_395 J_397 AI_29 AJ mo b nn nr nt cc (pCf b nn (cF b nn nr nt cc h) (hc + 2)) (hc + 2) := by rw [er_403] at hQ; exact hQ
                              have sr_403 := sr_403.symm.trans er_403
                              have g9r_403 := mQ_f hQ (by omega)
                              replace q_405 := hid q_405
                              refine z_goto (tgt := 176) F dX7_selectTold_169 (by decide) ?_
                              refine lv_istore (lv' := [(7, .int (iI v_401)), (6, .int (iI 1)), (5, .int (iI sg)), (4, .int (iI v_240)), (3, .int (iI mr)), (2, .int (iI n)), (1, .int (iI v_8)), (0, .ref mo)]) F.1 F.2.1 dX7_selectTold_176 hl (by decide) rfl (fun ls hl => ?_)
                              have hTs : sTest b nn (cF b nn nr nt cc h) n hc = (pCf b nn (cF b nn nr nt cc h) (hc + 2), hc + 2, 0) := sTest_v (by omega) (by omega) ysg (by omega) (by omega)
                              have hS9 : sSel b nn nr nt cc h = (pCf b nn (cF b nn nr nt cc h) (hc + 2), hc + 2, 0) := sTests_no hsq (f := (8 - n).toNat) (by omega) hTs.symm (by omega)
                              have hfin : thn (f, h, 0) (fun t _ => sSel b nn nr nt cc t) = (pCf b nn (cF b nn nr nt cc h) (hc + 2), hc + 2, 0) := (thn_k q0).trans hS9
                              exact cut_178_36 v_240 sg 1 v_401 I_395 J_397 AI_29 H locs ls zv_240 zsg ⟨by decide, by decide⟩ zv_401 hv hT pf ⟨_, _, by omega, hQ, hfin⟩ (by omega) (fun b hb => fA9 b hb) hH hS (lv_sub hl [4, 5, 6, 7, 3, 2, 1, 0] rfl)
                      · have nsg := pSg_n hsg2 (by omega)
                        refine lv_aload_n F.1 F.2.1 dX7_selectTold_131 rfl (lv_at hl 5 rfl) ?_
                        refine z_iconst F dX7_selectTold_132 ?_
                        have b_408 := mJ hv hm
                        unfold mNum1 at b_408
                        refine g_callv (g_runV (As := [.int (iI 1)]) (rest := []) (ci := 7) F hl.1 hH hS hz (c_X7_wrongf l g gh T b nn nr nt cc 0 (hc + 1) I_234 R J_236 AI_29 AJ AR mo 1 ⟨by decide, by decide⟩ hv hm hT (by omega) h65 hbM hr7 (by omega) hn9 (by omega) hQ) (cwV 1 F.2.2.2.2.1 (good_up gT_X7_wrong) rfl rfl rfl hdX7_wrong ⟨Nat.le_of_ble_eq_true rfl, Nat.le_of_ble_eq_true rfl⟩) hm (by decide) rfl rfl rfl (Nat.le_of_ble_eq_true rfl) dX7_selectTold_133 ⟨Nat.zero_le _, Nat.zero_le _⟩) hS (fun I_409 R_410 J_411 AI_412 AJ_413 AR_414 H locs hp_415 hH hS => ?_)
                        dsimp only at hp_415
                        obtain ⟨r_416, er_416⟩ : ∃ qQ : pR, qQ = thn (0, (hc + 1), 0) (fun t _ => (1, t, 0)) := ⟨_, rfl⟩
                        rw [← er_416] at hp_415
                        obtain ⟨rfl, rfl, rfl, rfl, rfl, hv, pfq, q_417, hQ⟩ := hp_415
                        have pf := qF_t pf pfq
                        have u_418_2 : (I_409 mo 2).toInt = (I mo 2).toInt := by rw [pf 2 (by decide) (by decide) (by decide) (by decide) (by decide)]
                        have u_418_5 : (I_409 mo 5).toInt = (I mo 5).toInt := by rw [pf 5 (by decide) (by decide) (by decide) (by decide) (by decide)]
                        have u_418_14 : (I_409 mo 14).toInt = (I mo 14).toInt := by rw [pf 14 (by decide) (by decide) (by decide) (by decide) (by decide)]
                        have u_418_16 : (I_409 mo 16).toInt = (I mo 16).toInt := by rw [pf 16 (by decide) (by decide) (by decide) (by decide) (by decide)]
                        have u_418_18 : (I_409 mo 18).toInt = (I mo 18).toInt := by rw [pf 18 (by decide) (by decide) (by decide) (by decide) (by decide)]
                        have er_416 : r_416 = (1, (hc + 1), 0) := er_416
                        have hQ : mQ gh I_409 J_236 AI_29 AJ mo b nn nr nt cc 1 (hc + 1) := by rw [er_416] at hQ; exact hQ
                        have q9_r_416 : (1 : Int) ≠ 0 := by omega
                        have g9_r_416 := mQ_f hQ q9_r_416
                        have hTs : sTest b nn (cF b nn nr nt cc h) n hc = (1, hc + 1, 0) := sTest_s (by omega) (by omega) nsg
                        have hS9 : sSel b nn nr nt cc h = (1, hc + 1, 0) := sTests_no hsq (f := (8 - n).toNat) (by omega) hTs.symm (by omega)
                        have hfin : thn (f, h, 0) (fun t _ => sSel b nn nr nt cc t) = (1, hc + 1, 0) := (thn_k q0).trans hS9
                        exact cut_136_121 v_240 sg I_409 J_236 AI_29 H locs ls zv_240 zsg hv hT pf ⟨_, _, by omega, hQ, hfin⟩ (by omega) (fun b hb => fA9 b hb) hH hS (lv_sub hl [2, 3, 4, 5, 1, 0] rfl)
                    refine lv_aload_n F.1 F.2.1 dX7_selectTold_84 rfl (lv_at hl 4 rfl) ?_
                    refine z_bipush F dX7_selectTold_85 (by decide) ?_
                    have b_419 := mJ hv hm
                    unfold mNum1 at b_419
                    refine g_calli (g_runV (As := [.int (iI 61)]) (rest := []) (ci := 7) F hl.1 hH hS hz (c_X7_isSignf l g gh T b nn nr nt cc 0 (hc + 1) I_234 R J_236 AI_29 AJ AR mo 61 ⟨by decide, by decide⟩ hv hm hT h65 hbM hr7 (by omega) hn9 (by omega) (by omega) hQ) (cwV 1 F.2.2.2.2.1 (good_up gT_X7_isSign) rfl rfl rfl hdX7_isSign ⟨Nat.le_of_ble_eq_true rfl, Nat.le_of_ble_eq_true rfl⟩) hm (by decide) rfl rfl rfl (Nat.le_of_ble_eq_true rfl) dX7_selectTold_87 ⟨Nat.zero_le _, Nat.zero_le _⟩) hS (fun v_426 I_420 R_421 J_422 AI_423 AJ_424 AR_425 H locs zv_426 hp_427 hH hS => ?_)
                    dsimp only at hp_427
                    obtain ⟨rfl, rfl, rfl, rfl, rfl, rfl, q_428, q_429⟩ := hp_427
                    replace q_428 := q_428.1
                    refine z_if_eq (tgt := 97) F dX7_selectTold_90 (by decide) zv_426 (fun c_430 => ?_) (fun c_430 => ?_)
                    · have t_431 := tIz_n q_429 (by omega)
                      refine lv_aload_n F.1 F.2.1 dX7_selectTold_97 rfl (lv_at hl 4 rfl) ?_
                      refine z_bipush F dX7_selectTold_98 (by decide) ?_
                      refine g_calli (g_runV (As := [.int (iI 60)]) (rest := []) (ci := 7) F hl.1 hH hS hz (c_X7_isSignf l g gh T b nn nr nt cc 0 (hc + 1) I_234 R J_236 AI_29 AJ AR mo 60 ⟨by decide, by decide⟩ hv hm hT h65 hbM hr7 (by omega) hn9 (by omega) (by omega) hQ) (cwV 1 F.2.2.2.2.1 (good_up gT_X7_isSign) rfl rfl rfl hdX7_isSign ⟨Nat.le_of_ble_eq_true rfl, Nat.le_of_ble_eq_true rfl⟩) hm (by decide) rfl rfl rfl (Nat.le_of_ble_eq_true rfl) dX7_selectTold_100 ⟨Nat.zero_le _, Nat.zero_le _⟩) hS (fun v_438 I_432 R_433 J_434 AI_435 AJ_436 AR_437 H locs zv_438 hp_439 hH hS => ?_)
                      dsimp only at hp_439
                      obtain ⟨rfl, rfl, rfl, rfl, rfl, rfl, q_440, q_441⟩ := hp_439
                      replace q_440 := q_440.1
                      refine z_if_eq (tgt := 110) F dX7_selectTold_103 (by decide) zv_438 (fun c_442 => ?_) (fun c_442 => ?_)
                      · have t_443 := tIz_n q_441 (by omega)
                        refine lv_aload_n F.1 F.2.1 dX7_selectTold_110 rfl (lv_at hl 4 rfl) ?_
                        refine z_bipush F dX7_selectTold_111 (by decide) ?_
                        refine g_calli (g_runV (As := [.int (iI 62)]) (rest := []) (ci := 7) F hl.1 hH hS hz (c_X7_isSignf l g gh T b nn nr nt cc 0 (hc + 1) I_234 R J_236 AI_29 AJ AR mo 62 ⟨by decide, by decide⟩ hv hm hT h65 hbM hr7 (by omega) hn9 (by omega) (by omega) hQ) (cwV 1 F.2.2.2.2.1 (good_up gT_X7_isSign) rfl rfl rfl hdX7_isSign ⟨Nat.le_of_ble_eq_true rfl, Nat.le_of_ble_eq_true rfl⟩) hm (by decide) rfl rfl rfl (Nat.le_of_ble_eq_true rfl) dX7_selectTold_113 ⟨Nat.zero_le _, Nat.zero_le _⟩) hS (fun v_450 I_444 R_445 J_446 AI_447 AJ_448 AR_449 H locs zv_450 hp_451 hH hS => ?_)
                        dsimp only at hp_451
                        obtain ⟨rfl, rfl, rfl, rfl, rfl, rfl, q_452, q_453⟩ := hp_451
                        replace q_452 := q_452.1
                        refine z_if_eq (tgt := 123) F dX7_selectTold_116 (by decide) zv_450 (fun c_454 => ?_) (fun c_454 => ?_)
                        · have t_455 := tIz_n q_453 (by omega)
                          refine z_iconst F dX7_selectTold_123 ?_
                          exact cut_124_246 (-1) H locs ls ⟨by decide, by decide⟩ (by omega) (by first | exact pSg_t (by decide) (by omega) | exact pSg_f rfl (by omega)) (by unfold pSv; omega) hH hS (lv_sub hl [0, 1, 2, 3, 4] rfl)
                        · have t_456 := tIz_y q_453 (by omega)
                          refine z_iconst F dX7_selectTold_119 ?_
                          refine z_goto (tgt := 124) F dX7_selectTold_120 (by decide) ?_
                          exact cut_124_246 2 H locs ls ⟨by decide, by decide⟩ (by omega) (by first | exact pSg_t (by decide) (by omega) | exact pSg_f rfl (by omega)) (by unfold pSv; omega) hH hS (lv_sub hl [0, 1, 2, 3, 4] rfl)
                      · have t_457 := tIz_y q_441 (by omega)
                        refine z_iconst F dX7_selectTold_106 ?_
                        refine z_goto (tgt := 124) F dX7_selectTold_107 (by decide) ?_
                        exact cut_124_246 1 H locs ls ⟨by decide, by decide⟩ (by omega) (by first | exact pSg_t (by decide) (by omega) | exact pSg_f rfl (by omega)) (by unfold pSv; omega) hH hS (lv_sub hl [0, 1, 2, 3, 4] rfl)
                    · have t_458 := tIz_y q_429 (by omega)
                      refine z_iconst F dX7_selectTold_93 ?_
                      refine z_goto (tgt := 124) F dX7_selectTold_94 (by decide) ?_
                      exact cut_124_246 0 H locs ls ⟨by decide, by decide⟩ (by omega) (by first | exact pSg_t (by decide) (by omega) | exact pSg_f rfl (by omega)) (by unfold pSv; omega) hH hS (lv_sub hl [0, 1, 2, 3, 4] rfl)
                  · have hQ : mQ gh I_234 J_236 AI_29 AJ mo b nn nr nt cc (pCf b nn (cF b nn nr nt cc h) hc) hc := by rw [er_242] at hQ; exact hQ
                    have sr_242 := sr_242.symm.trans er_242
                    have g9r_242 := mQ_f hQ (by omega)
                    replace q_244 := hid q_244
                    obtain ⟨f1, ef1⟩ : ∃ q, q = (I_234 mo 24).toInt := ⟨_, rfl⟩
                    have hc1 : Hid (f1 = 0 → 0 ≤ v_240 ∧ v_240 ≤ 3) := fun h9 => by omega
                    refine lv_istore (lv' := [(4, .int (iI v_240)), (3, .int (iI mr)), (2, .int (iI n)), (1, .int (iI v_8)), (0, .ref mo)]) F.1 F.2.1 dX7_selectTold_82 hl (by decide) rfl (fun ls hl => ?_)
                    have hTs : sTest b nn (cF b nn nr nt cc h) n hc = (pCf b nn (cF b nn nr nt cc h) hc, hc, 0) := sTest_c (by omega)
                    have hS9 : sSel b nn nr nt cc h = (pCf b nn (cF b nn nr nt cc h) hc, hc, 0) := sTests_no hsq (f := (8 - n).toNat) (by omega) hTs.symm (by omega)
                    have hfin : thn (f, h, 0) (fun t _ => sSel b nn nr nt cc t) = (pCf b nn (cF b nn nr nt cc h) hc, hc, 0) := (thn_k q0).trans hS9
                    exact cut_84_174 v_240 I_234 J_236 AI_29 H locs ls zv_240 hv hT pf ⟨_, _, by omega, hQ, hfin⟩ (by omega) (fun b hb => fA9 b hb) hH hS (lv_sub hl [1, 2, 3, 4, 0] rfl)
                · refine lv_aload_n F.1 F.2.1 dX7_selectTold_32 rfl (lv_at hl 3 rfl) ?_
                  refine lv_aload_n F.1 F.2.1 dX7_selectTold_33 rfl (lv_at hl 3 rfl) ?_
                  refine g_getI (ci := 7) (k := 21) F hH rfl (by decide) iX7 hm (by decide) rfl k94 dX7_selectTold_34 ?_
                  refine z_iconst F dX7_selectTold_37 ?_
                  refine z_icmp_ne (tgt := 57) F dX7_selectTold_38 (by decide) (zr_t _) ⟨by decide, by decide⟩ (fun c_459 => ?_) (fun c_459 => ?_)
                  · have t_460 : pK b nn hc ≠ 2 := mQ_kn hQ rfl (c := 1) rfl (by omega)
                    refine lv_aload_n F.1 F.2.1 dX7_selectTold_57 rfl (lv_at hl 3 rfl) ?_
                    refine g_getI (ci := 7) (k := 21) F hH rfl (by decide) iX7 hm (by decide) rfl k94 dX7_selectTold_58 ?_
                    refine z_iconst F dX7_selectTold_61 ?_
                    refine z_icmp_ne (tgt := 69) F dX7_selectTold_62 (by decide) (zr_t _) ⟨by decide, by decide⟩ (fun c_461 => ?_) (fun c_461 => ?_)
                    · have t_462 : pK b nn hc ≠ 2 := mQ_kn hQ rfl (c := 1) rfl (by omega)
                      refine z_iconst F dX7_selectTold_69 ?_
                      refine g_callv (g_runV (As := [.int (iI 1)]) (rest := []) (ci := 7) F hl.1 hH hS hz (c_X7_wrongf l g gh T b nn nr nt cc 0 hc I_27 R J_28 AI_29 AJ AR mo 1 ⟨by decide, by decide⟩ hv hm hT (by omega) h65 hbM hr7 (by omega) hn9 (by omega) hQ) (cwV 1 F.2.2.2.2.1 (good_up gT_X7_wrong) rfl rfl rfl hdX7_wrong ⟨Nat.le_of_ble_eq_true rfl, Nat.le_of_ble_eq_true rfl⟩) hm (by decide) rfl rfl rfl (Nat.le_of_ble_eq_true rfl) dX7_selectTold_70 ⟨Nat.zero_le _, Nat.zero_le _⟩) hS (fun I_463 R_464 J_465 AI_466 AJ_467 AR_468 H locs hp_469 hH hS => ?_)
                      dsimp only at hp_469
                      obtain ⟨r_470, er_470⟩ : ∃ qQ : pR, qQ = thn (0, hc, 0) (fun t _ => (1, t, 0)) := ⟨_, rfl⟩
                      rw [← er_470] at hp_469
                      obtain ⟨rfl, rfl, rfl, rfl, rfl, hv, pfq, q_471, hQ⟩ := hp_469
                      have pf := qF_t pf pfq
                      have u_472_2 : (I_463 mo 2).toInt = (I mo 2).toInt := by rw [pf 2 (by decide) (by decide) (by decide) (by decide) (by decide)]
                      have u_472_5 : (I_463 mo 5).toInt = (I mo 5).toInt := by rw [pf 5 (by decide) (by decide) (by decide) (by decide) (by decide)]
                      have u_472_14 : (I_463 mo 14).toInt = (I mo 14).toInt := by rw [pf 14 (by decide) (by decide) (by decide) (by decide) (by decide)]
                      have u_472_16 : (I_463 mo 16).toInt = (I mo 16).toInt := by rw [pf 16 (by decide) (by decide) (by decide) (by decide) (by decide)]
                      have u_472_18 : (I_463 mo 18).toInt = (I mo 18).toInt := by rw [pf 18 (by decide) (by decide) (by decide) (by decide) (by decide)]
                      have er_470 : r_470 = (1, hc, 0) := er_470
                      have hQ : mQ gh I_463 J_28 AI_29 AJ mo b nn nr nt cc 1 hc := by rw [er_470] at hQ; exact hQ
                      have q9_r_470 : (1 : Int) ≠ 0 := by omega
                      have g9_r_470 := mQ_f hQ q9_r_470
                      refine lv_aload_n F.1 F.2.1 dX7_selectTold_73 rfl (lv_at hl 3 rfl) ?_
                      refine lv_aload_n F.1 F.2.1 dX7_selectTold_74 rfl (lv_at hl 3 rfl) ?_
                      refine lv_iload_n F.1 F.2.1 dX7_selectTold_75 rfl (lv_at hl 2 rfl) ?_
                      have b_474 := mJ hv hm
                      unfold mNum1 at b_474
                      refine g_calli (g_runV (As := [.int (iI v_8)]) (rest := [.ref mo]) (ci := 7) F hl.1 hH hS hz (c_X7_columns l g gh T I_463 R J_28 AI_29 AJ AR mo v_8 zv_8 hv hm hT (by omega)) (cwV 1 F.2.2.2.2.1 (good_up gT_X7_columns) rfl rfl rfl hdX7_columns ⟨Nat.le_of_ble_eq_true rfl, Nat.le_of_ble_eq_true rfl⟩) hm (by decide) rfl rfl rfl (Nat.le_of_ble_eq_true rfl) dX7_selectTold_76 ⟨Nat.zero_le _, Nat.zero_le _⟩) hS (fun v_481 I_475 R_476 J_477 AI_478 AJ_479 AR_480 H locs zv_481 hp_482 hH hS => ?_)
                      dsimp only at hp_482
                      obtain ⟨rfl, rfl, rfl, rfl, rfl, rfl, q_473⟩ := hp_482
                      refine g_calli (g_runV (As := [.int (iI v_481)]) (rest := []) (ci := 7) F hl.1 hH hS hz (c_X7_columnf l g gh T b nn nr nt cc 1 hc I_463 R J_28 AI_29 AJ AR mo v_481 zv_481 hv hm hT (by omega) h65 hbM hr7 (by omega) hn9 (by omega) hQ) (cwV 1 F.2.2.2.2.1 (good_up gT_X7_column) rfl rfl rfl hdX7_column ⟨Nat.le_of_ble_eq_true rfl, Nat.le_of_ble_eq_true rfl⟩) hm (by decide) rfl rfl rfl (Nat.le_of_ble_eq_true rfl) dX7_selectTold_79 ⟨Nat.zero_le _, Nat.zero_le _⟩) hS (fun v_489 I_483 R_484 J_485 AI_486 AJ_487 AR_488 H locs zv_489 hp_490 hH hS => ?_)
                      dsimp only at hp_490
                      obtain ⟨r_491, er_491⟩ : ∃ qQ : pR, qQ = thn (1, hc, 0) (fun t _ => sCol b nn v_481 t) := ⟨_, rfl⟩
                      rw [← er_491] at hp_490
                      obtain ⟨rfl, rfl, rfl, rfl, hv, pfq, q_492, q_493, hQ, q_494⟩ := hp_490
                      have pf := qF_t pf pfq
                      have u_495_2 : (I_483 mo 2).toInt = (I mo 2).toInt := by rw [pf 2 (by decide) (by decide) (by decide) (by decide) (by decide)]
                      have u_495_5 : (I_483 mo 5).toInt = (I mo 5).toInt := by rw [pf 5 (by decide) (by decide) (by decide) (by decide) (by decide)]
                      have u_495_14 : (I_483 mo 14).toInt = (I mo 14).toInt := by rw [pf 14 (by decide) (by decide) (by decide) (by decide) (by decide)]
                      have u_495_16 : (I_483 mo 16).toInt = (I mo 16).toInt := by rw [pf 16 (by decide) (by decide) (by decide) (by decide) (by decide)]
                      have u_495_18 : (I_483 mo 18).toInt = (I mo 18).toInt := by rw [pf 18 (by decide) (by decide) (by decide) (by decide) (by decide)]
                      rw [thn_b (by omega)] at er_491
                      have hQ : mQ gh I_483 J_485 AI_29 AJ mo b nn nr nt cc 1 hc := by rw [er_491] at hQ; exact hQ
                      replace q_493 := hid q_493
                      obtain ⟨f1, ef1⟩ : ∃ q, q = (I_483 mo 24).toInt := ⟨_, rfl⟩
                      have hc1 : Hid (f1 = 0 → 0 ≤ v_489 ∧ v_489 ≤ 3) := fun h9 => by omega
                      refine lv_istore (lv' := [(4, .int (iI v_489)), (3, .int (iI mr)), (2, .int (iI n)), (1, .int (iI v_8)), (0, .ref mo)]) F.1 F.2.1 dX7_selectTold_82 hl (by decide) rfl (fun ls hl => ?_)
                      have hTs : sTest b nn (cF b nn nr nt cc h) n hc = (1, hc, 0) := pE1 (sTest_c (c := (cF b nn nr nt cc h)) (pCf_n1 (by omega))) (by omega)
                      have hS9 : sSel b nn nr nt cc h = (1, hc, 0) := sTests_no hsq (f := (8 - n).toNat) (by omega) hTs.symm (by omega)
                      have hfin : thn (f, h, 0) (fun t _ => sSel b nn nr nt cc t) = (1, hc, 0) := (thn_k q0).trans hS9
                      exact cut_84_174 v_489 I_483 J_485 AI_29 H locs ls zv_489 hv hT pf ⟨_, _, by omega, hQ, hfin⟩ (by omega) (fun b hb => fA9 b hb) hH hS (lv_sub hl [1, 2, 3, 4, 0] rfl)
                    · exact absurd trivial (by omega)
                  · have t_496 := tkM_1 ((mQ_k hQ rfl).symm.trans (by omega))
                    have t_496v := mQ_v hQ rfl (by omega)
                    have t_496c := pV_c t_496
                    refine lv_aload_n F.1 F.2.1 dX7_selectTold_41 rfl (lv_at hl 3 rfl) ?_
                    refine g_getI (ci := 7) (k := 23) F hH rfl (by decide) iX7 hm (by decide) rfl k97 dX7_selectTold_42 ?_
                    refine lv_aload_n F.1 F.2.1 dX7_selectTold_45 rfl (lv_at hl 3 rfl) ?_
                    refine lv_iload_n F.1 F.2.1 dX7_selectTold_46 rfl (lv_at hl 2 rfl) ?_
                    refine g_calli (g_runV (As := [.int (iI v_8)]) (rest := [.int (iI ((I_27 mo 23).toInt)), .ref mo]) (ci := 7) F hl.1 hH hS hz (c_X7_columns l g gh T I_27 R J_28 AI_29 AJ AR mo v_8 zv_8 hv hm hT (by omega)) (cwV 1 F.2.2.2.2.1 (good_up gT_X7_columns) rfl rfl rfl hdX7_columns ⟨Nat.le_of_ble_eq_true rfl, Nat.le_of_ble_eq_true rfl⟩) hm (by decide) rfl rfl rfl (Nat.le_of_ble_eq_true rfl) dX7_selectTold_47 ⟨Nat.zero_le _, Nat.zero_le _⟩) hS (fun v_504 I_498 R_499 J_500 AI_501 AJ_502 AR_503 H locs zv_504 hp_505 hH hS => ?_)
                    dsimp only at hp_505
                    obtain ⟨rfl, rfl, rfl, rfl, rfl, rfl, q_497⟩ := hp_505
                    have cvv_504 : v_504 = cF b nn nr nt cc h := q_497.trans ((mQ_c hQ rfl vlr_10.1 vlr_10.2.1).trans vlr_10.2.2)
                    refine z_icmp_lt (tgt := 57) F dX7_selectTold_50 (by decide) (zr_t _) zv_504 (fun c_506 => ?_) (fun c_506 => ?_)
                    · refine lv_aload_n F.1 F.2.1 dX7_selectTold_57 rfl (lv_at hl 3 rfl) ?_
                      refine g_getI (ci := 7) (k := 21) F hH rfl (by decide) iX7 hm (by decide) rfl k94 dX7_selectTold_58 ?_
                      refine z_iconst F dX7_selectTold_61 ?_
                      refine z_icmp_ne (tgt := 69) F dX7_selectTold_62 (by decide) (zr_t _) ⟨by decide, by decide⟩ (fun c_507 => ?_) (fun c_507 => ?_)
                      · exact absurd trivial (by omega)
                      · have t_508 := tkM_1 ((mQ_k hQ rfl).symm.trans (by omega))
                        have t_508v := mQ_v hQ rfl (by omega)
                        have t_508c := pV_c t_508
                        refine z_iconst F dX7_selectTold_65 ?_
                        refine z_goto (tgt := 70) F dX7_selectTold_66 (by decide) ?_
                        refine g_callv (g_runV (As := [.int (iI 4)]) (rest := []) (ci := 7) F hl.1 hH hS hz (c_X7_wrongf l g gh T b nn nr nt cc 0 hc I_27 R J_28 AI_29 AJ AR mo 4 ⟨by decide, by decide⟩ hv hm hT (by omega) h65 hbM hr7 (by omega) hn9 (by omega) hQ) (cwV 1 F.2.2.2.2.1 (good_up gT_X7_wrong) rfl rfl rfl hdX7_wrong ⟨Nat.le_of_ble_eq_true rfl, Nat.le_of_ble_eq_true rfl⟩) hm (by decide) rfl rfl rfl (Nat.le_of_ble_eq_true rfl) dX7_selectTold_70 ⟨Nat.zero_le _, Nat.zero_le _⟩) hS (fun I_509 R_510 J_511 AI_512 AJ_513 AR_514 H locs hp_515 hH hS => ?_)
                        dsimp only at hp_515
                        obtain ⟨r_516, er_516⟩ : ∃ qQ : pR, qQ = thn (0, hc, 0) (fun t _ => (4, t, 0)) := ⟨_, rfl⟩
                        rw [← er_516] at hp_515
                        obtain ⟨rfl, rfl, rfl, rfl, rfl, hv, pfq, q_517, hQ⟩ := hp_515
                        have pf := qF_t pf pfq
                        have u_518_2 : (I_509 mo 2).toInt = (I mo 2).toInt := by rw [pf 2 (by decide) (by decide) (by decide) (by decide) (by decide)]
                        have u_518_5 : (I_509 mo 5).toInt = (I mo 5).toInt := by rw [pf 5 (by decide) (by decide) (by decide) (by decide) (by decide)]
                        have u_518_14 : (I_509 mo 14).toInt = (I mo 14).toInt := by rw [pf 14 (by decide) (by decide) (by decide) (by decide) (by decide)]
                        have u_518_16 : (I_509 mo 16).toInt = (I mo 16).toInt := by rw [pf 16 (by decide) (by decide) (by decide) (by decide) (by decide)]
                        have u_518_18 : (I_509 mo 18).toInt = (I mo 18).toInt := by rw [pf 18 (by decide) (by decide) (by decide) (by decide) (by decide)]
                        have er_516 : r_516 = (4, hc, 0) := er_516
                        have hQ : mQ gh I_509 J_28 AI_29 AJ mo b nn nr nt cc 4 hc := by rw [er_516] at hQ; exact hQ
                        have q9_r_516 : (4 : Int) ≠ 0 := by omega
                        have g9_r_516 := mQ_f hQ q9_r_516
                        refine lv_aload_n F.1 F.2.1 dX7_selectTold_73 rfl (lv_at hl 3 rfl) ?_
                        refine lv_aload_n F.1 F.2.1 dX7_selectTold_74 rfl (lv_at hl 3 rfl) ?_
                        refine lv_iload_n F.1 F.2.1 dX7_selectTold_75 rfl (lv_at hl 2 rfl) ?_
                        have b_520 := mJ hv hm
                        unfold mNum1 at b_520
                        refine g_calli (g_runV (As := [.int (iI v_8)]) (rest := [.ref mo]) (ci := 7) F hl.1 hH hS hz (c_X7_columns l g gh T I_509 R J_28 AI_29 AJ AR mo v_8 zv_8 hv hm hT (by omega)) (cwV 1 F.2.2.2.2.1 (good_up gT_X7_columns) rfl rfl rfl hdX7_columns ⟨Nat.le_of_ble_eq_true rfl, Nat.le_of_ble_eq_true rfl⟩) hm (by decide) rfl rfl rfl (Nat.le_of_ble_eq_true rfl) dX7_selectTold_76 ⟨Nat.zero_le _, Nat.zero_le _⟩) hS (fun v_527 I_521 R_522 J_523 AI_524 AJ_525 AR_526 H locs zv_527 hp_528 hH hS => ?_)
                        dsimp only at hp_528
                        obtain ⟨rfl, rfl, rfl, rfl, rfl, rfl, q_519⟩ := hp_528
                        refine g_calli (g_runV (As := [.int (iI v_527)]) (rest := []) (ci := 7) F hl.1 hH hS hz (c_X7_columnf l g gh T b nn nr nt cc 4 hc I_509 R J_28 AI_29 AJ AR mo v_527 zv_527 hv hm hT (by omega) h65 hbM hr7 (by omega) hn9 (by omega) hQ) (cwV 1 F.2.2.2.2.1 (good_up gT_X7_column) rfl rfl rfl hdX7_column ⟨Nat.le_of_ble_eq_true rfl, Nat.le_of_ble_eq_true rfl⟩) hm (by decide) rfl rfl rfl (Nat.le_of_ble_eq_true rfl) dX7_selectTold_79 ⟨Nat.zero_le _, Nat.zero_le _⟩) hS (fun v_535 I_529 R_530 J_531 AI_532 AJ_533 AR_534 H locs zv_535 hp_536 hH hS => ?_)
                        dsimp only at hp_536
                        obtain ⟨r_537, er_537⟩ : ∃ qQ : pR, qQ = thn (4, hc, 0) (fun t _ => sCol b nn v_527 t) := ⟨_, rfl⟩
                        rw [← er_537] at hp_536
                        obtain ⟨rfl, rfl, rfl, rfl, hv, pfq, q_538, q_539, hQ, q_540⟩ := hp_536
                        have pf := qF_t pf pfq
                        have u_541_2 : (I_529 mo 2).toInt = (I mo 2).toInt := by rw [pf 2 (by decide) (by decide) (by decide) (by decide) (by decide)]
                        have u_541_5 : (I_529 mo 5).toInt = (I mo 5).toInt := by rw [pf 5 (by decide) (by decide) (by decide) (by decide) (by decide)]
                        have u_541_14 : (I_529 mo 14).toInt = (I mo 14).toInt := by rw [pf 14 (by decide) (by decide) (by decide) (by decide) (by decide)]
                        have u_541_16 : (I_529 mo 16).toInt = (I mo 16).toInt := by rw [pf 16 (by decide) (by decide) (by decide) (by decide) (by decide)]
                        have u_541_18 : (I_529 mo 18).toInt = (I mo 18).toInt := by rw [pf 18 (by decide) (by decide) (by decide) (by decide) (by decide)]
                        rw [thn_b (by omega)] at er_537
                        have hQ : mQ gh I_529 J_531 AI_29 AJ mo b nn nr nt cc 4 hc := by rw [er_537] at hQ; exact hQ
                        replace q_539 := hid q_539
                        obtain ⟨f1, ef1⟩ : ∃ q, q = (I_529 mo 24).toInt := ⟨_, rfl⟩
                        have hc1 : Hid (f1 = 0 → 0 ≤ v_535 ∧ v_535 ≤ 3) := fun h9 => by omega
                        refine lv_istore (lv' := [(4, .int (iI v_535)), (3, .int (iI mr)), (2, .int (iI n)), (1, .int (iI v_8)), (0, .ref mo)]) F.1 F.2.1 dX7_selectTold_82 hl (by decide) rfl (fun ls hl => ?_)
                        have hTs : sTest b nn (cF b nn nr nt cc h) n hc = (4, hc, 0) := sTest_4 (pCf_ok (by omega) (by omega)) (by omega)
                        have hS9 : sSel b nn nr nt cc h = (4, hc, 0) := sTests_no hsq (f := (8 - n).toNat) (by omega) hTs.symm (by omega)
                        have hfin : thn (f, h, 0) (fun t _ => sSel b nn nr nt cc t) = (4, hc, 0) := (thn_k q0).trans hS9
                        exact cut_84_174 v_535 I_529 J_531 AI_29 H locs ls zv_535 hv hT pf ⟨_, _, by omega, hQ, hfin⟩ (by omega) (fun b hb => fA9 b hb) hH hS (lv_sub hl [1, 2, 3, 4, 0] rfl)
                    · refine z_iconst F dX7_selectTold_53 ?_
                      refine z_goto (tgt := 70) F dX7_selectTold_54 (by decide) ?_
                      refine g_callv (g_runV (As := [.int (iI 2)]) (rest := []) (ci := 7) F hl.1 hH hS hz (c_X7_wrongf l g gh T b nn nr nt cc 0 hc I_27 R J_28 AI_29 AJ AR mo 2 ⟨by decide, by decide⟩ hv hm hT (by omega) h65 hbM hr7 (by omega) hn9 (by omega) hQ) (cwV 1 F.2.2.2.2.1 (good_up gT_X7_wrong) rfl rfl rfl hdX7_wrong ⟨Nat.le_of_ble_eq_true rfl, Nat.le_of_ble_eq_true rfl⟩) hm (by decide) rfl rfl rfl (Nat.le_of_ble_eq_true rfl) dX7_selectTold_70 ⟨Nat.zero_le _, Nat.zero_le _⟩) hS (fun I_542 R_543 J_544 AI_545 AJ_546 AR_547 H locs hp_548 hH hS => ?_)
                      dsimp only at hp_548
                      obtain ⟨r_549, er_549⟩ : ∃ qQ : pR, qQ = thn (0, hc, 0) (fun t _ => (2, t, 0)) := ⟨_, rfl⟩
                      rw [← er_549] at hp_548
                      obtain ⟨rfl, rfl, rfl, rfl, rfl, hv, pfq, q_550, hQ⟩ := hp_548
                      have pf := qF_t pf pfq
                      have u_551_2 : (I_542 mo 2).toInt = (I mo 2).toInt := by rw [pf 2 (by decide) (by decide) (by decide) (by decide) (by decide)]
                      have u_551_5 : (I_542 mo 5).toInt = (I mo 5).toInt := by rw [pf 5 (by decide) (by decide) (by decide) (by decide) (by decide)]
                      have u_551_14 : (I_542 mo 14).toInt = (I mo 14).toInt := by rw [pf 14 (by decide) (by decide) (by decide) (by decide) (by decide)]
                      have u_551_16 : (I_542 mo 16).toInt = (I mo 16).toInt := by rw [pf 16 (by decide) (by decide) (by decide) (by decide) (by decide)]
                      have u_551_18 : (I_542 mo 18).toInt = (I mo 18).toInt := by rw [pf 18 (by decide) (by decide) (by decide) (by decide) (by decide)]
                      have er_549 : r_549 = (2, hc, 0) := er_549
                      have hQ : mQ gh I_542 J_28 AI_29 AJ mo b nn nr nt cc 2 hc := by rw [er_549] at hQ; exact hQ
                      have q9_r_549 : (2 : Int) ≠ 0 := by omega
                      have g9_r_549 := mQ_f hQ q9_r_549
                      refine lv_aload_n F.1 F.2.1 dX7_selectTold_73 rfl (lv_at hl 3 rfl) ?_
                      refine lv_aload_n F.1 F.2.1 dX7_selectTold_74 rfl (lv_at hl 3 rfl) ?_
                      refine lv_iload_n F.1 F.2.1 dX7_selectTold_75 rfl (lv_at hl 2 rfl) ?_
                      have b_553 := mJ hv hm
                      unfold mNum1 at b_553
                      refine g_calli (g_runV (As := [.int (iI v_8)]) (rest := [.ref mo]) (ci := 7) F hl.1 hH hS hz (c_X7_columns l g gh T I_542 R J_28 AI_29 AJ AR mo v_8 zv_8 hv hm hT (by omega)) (cwV 1 F.2.2.2.2.1 (good_up gT_X7_columns) rfl rfl rfl hdX7_columns ⟨Nat.le_of_ble_eq_true rfl, Nat.le_of_ble_eq_true rfl⟩) hm (by decide) rfl rfl rfl (Nat.le_of_ble_eq_true rfl) dX7_selectTold_76 ⟨Nat.zero_le _, Nat.zero_le _⟩) hS (fun v_560 I_554 R_555 J_556 AI_557 AJ_558 AR_559 H locs zv_560 hp_561 hH hS => ?_)
                      dsimp only at hp_561
                      obtain ⟨rfl, rfl, rfl, rfl, rfl, rfl, q_552⟩ := hp_561
                      refine g_calli (g_runV (As := [.int (iI v_560)]) (rest := []) (ci := 7) F hl.1 hH hS hz (c_X7_columnf l g gh T b nn nr nt cc 2 hc I_542 R J_28 AI_29 AJ AR mo v_560 zv_560 hv hm hT (by omega) h65 hbM hr7 (by omega) hn9 (by omega) hQ) (cwV 1 F.2.2.2.2.1 (good_up gT_X7_column) rfl rfl rfl hdX7_column ⟨Nat.le_of_ble_eq_true rfl, Nat.le_of_ble_eq_true rfl⟩) hm (by decide) rfl rfl rfl (Nat.le_of_ble_eq_true rfl) dX7_selectTold_79 ⟨Nat.zero_le _, Nat.zero_le _⟩) hS (fun v_568 I_562 R_563 J_564 AI_565 AJ_566 AR_567 H locs zv_568 hp_569 hH hS => ?_)
                      dsimp only at hp_569
                      obtain ⟨r_570, er_570⟩ : ∃ qQ : pR, qQ = thn (2, hc, 0) (fun t _ => sCol b nn v_560 t) := ⟨_, rfl⟩
                      rw [← er_570] at hp_569
                      obtain ⟨rfl, rfl, rfl, rfl, hv, pfq, q_571, q_572, hQ, q_573⟩ := hp_569
                      have pf := qF_t pf pfq
                      have u_574_2 : (I_562 mo 2).toInt = (I mo 2).toInt := by rw [pf 2 (by decide) (by decide) (by decide) (by decide) (by decide)]
                      have u_574_5 : (I_562 mo 5).toInt = (I mo 5).toInt := by rw [pf 5 (by decide) (by decide) (by decide) (by decide) (by decide)]
                      have u_574_14 : (I_562 mo 14).toInt = (I mo 14).toInt := by rw [pf 14 (by decide) (by decide) (by decide) (by decide) (by decide)]
                      have u_574_16 : (I_562 mo 16).toInt = (I mo 16).toInt := by rw [pf 16 (by decide) (by decide) (by decide) (by decide) (by decide)]
                      have u_574_18 : (I_562 mo 18).toInt = (I mo 18).toInt := by rw [pf 18 (by decide) (by decide) (by decide) (by decide) (by decide)]
                      rw [thn_b (by omega)] at er_570
                      have hQ : mQ gh I_562 J_564 AI_29 AJ mo b nn nr nt cc 2 hc := by rw [er_570] at hQ; exact hQ
                      replace q_572 := hid q_572
                      obtain ⟨f1, ef1⟩ : ∃ q, q = (I_562 mo 24).toInt := ⟨_, rfl⟩
                      have hc1 : Hid (f1 = 0 → 0 ≤ v_568 ∧ v_568 ≤ 3) := fun h9 => by omega
                      refine lv_istore (lv' := [(4, .int (iI v_568)), (3, .int (iI mr)), (2, .int (iI n)), (1, .int (iI v_8)), (0, .ref mo)]) F.1 F.2.1 dX7_selectTold_82 hl (by decide) rfl (fun ls hl => ?_)
                      have hTs : sTest b nn (cF b nn nr nt cc h) n hc = (2, hc, 0) := pE2 (sTest_c (pCf_n2 (by omega) (by omega))) (by omega) (by omega)
                      have hS9 : sSel b nn nr nt cc h = (2, hc, 0) := sTests_no hsq (f := (8 - n).toNat) (by omega) hTs.symm (by omega)
                      have hfin : thn (f, h, 0) (fun t _ => sSel b nn nr nt cc t) = (2, hc, 0) := (thn_k q0).trans hS9
                      exact cut_84_174 v_568 I_562 J_564 AI_29 H locs ls zv_568 hv hT pf ⟨_, _, by omega, hQ, hfin⟩ (by omega) (fun b hb => fA9 b hb) hH hS (lv_sub hl [1, 2, 3, 4, 0] rfl)
        exact cut_15_29 (((10 - 0) + 1 : Int).toNat) 0 1 I_17 J_19 AI H locs ls ⟨by decide, by decide⟩ ⟨by decide, by decide⟩ hv hT pf (by omega) ((fun _ => ⟨by omega, fun k a b => absurd b (by omega)⟩)) ⟨_, hQ, by unfold sSel; exact thn_y sr_10.symm rfl (thn_y sr_24.symm rfl (rfl)), iL_0, qAll_0 (Int.le_refl 0)⟩ (by omega) hfr (fun _ _ => rfl) (by omega) hH hS (lv_sub hl [0, 1, 2, 3] rfl)
      · have hQ : mQ gh I_17 J_19 AI AJ mo b nn nr nt cc 1 (h + 1) := by rw [er_24] at hQ; exact hQ
        have sr_24 := sr_24.symm.trans er_24
        have g9r_24 := mQ_f hQ (by omega)
        refine z_iconst F dX7_selectTold_11 ?_
        refine lv_istore_n (lv' := [(2, .int (iI 0)), (1, .int (iI v_8)), (0, .ref mo)]) F.1 F.2.1 dX7_selectTold_12 rfl hl (by decide) rfl (fun ls hl => ?_)
        refine z_iconst F dX7_selectTold_13 ?_
        refine lv_istore_n (lv' := [(3, .int (iI 1)), (2, .int (iI 0)), (1, .int (iI v_8)), (0, .ref mo)]) F.1 F.2.1 dX7_selectTold_14 rfl hl (by decide) rfl (fun ls hl => ?_)
        refine lv_iload_n F.1 F.2.1 dX7_selectTold_15 rfl (lv_at hl 0 rfl) ?_
        refine z_if_eq (tgt := 220) F dX7_selectTold_16 (by decide) ⟨by decide, by decide⟩ (fun c_575 => ?_) (fun c_575 => ?_)
        · exact absurd trivial (by omega)
        · refine lv_aload_n F.1 F.2.1 dX7_selectTold_19 rfl (lv_at hl 3 rfl) ?_
          refine g_getI (ci := 7) (k := 24) F hH rfl (by decide) iX7 hm (by decide) rfl k81 dX7_selectTold_20 ?_
          have b_576 := mJ hv hm
          unfold mNum1 at b_576
          refine z_if_ne (tgt := 220) F dX7_selectTold_23 (by decide) (zr_t _) (fun c_577 => ?_) (fun c_577 => ?_)
          · refine lv_aload_n F.1 F.2.1 dX7_selectTold_220 rfl (lv_at hl 3 rfl) ?_
            refine z_iconst F dX7_selectTold_221 ?_
            refine lv_aload_n F.1 F.2.1 dX7_selectTold_222 rfl (lv_at hl 3 rfl) ?_
            refine lv_iload_n F.1 F.2.1 dX7_selectTold_223 rfl (lv_at hl 2 rfl) ?_
            refine g_calli (g_runV (As := [.int (iI v_8)]) (rest := [.int (iI 1), .ref mo]) (ci := 7) F hl.1 hH hS hz (c_X7_columns l g gh T I_17 R J_19 AI AJ AR mo v_8 zv_8 hv hm hT (by omega)) (cwV 1 F.2.2.2.2.1 (good_up gT_X7_columns) rfl rfl rfl hdX7_columns ⟨Nat.le_of_ble_eq_true rfl, Nat.le_of_ble_eq_true rfl⟩) hm (by decide) rfl rfl rfl (Nat.le_of_ble_eq_true rfl) dX7_selectTold_224 ⟨Nat.zero_le _, Nat.zero_le _⟩) hS (fun v_585 I_579 R_580 J_581 AI_582 AJ_583 AR_584 H locs zv_585 hp_586 hH hS => ?_)
            dsimp only at hp_586
            obtain ⟨rfl, rfl, rfl, rfl, rfl, rfl, q_578⟩ := hp_586
            have hcol : Hid ((I_17 mo 24).toInt = 0 → 1 ≤ v_585 ∧ v_585 ≤ 4) := fun h => by have q9 := mCol hv hm (z := v_8) (by omega) (by omega); omega
            refine lv_iload_n F.1 F.2.1 dX7_selectTold_227 rfl (lv_at hl 2 rfl) ?_
            refine z_iconst F dX7_selectTold_228 ?_
            refine lv_iload_n F.1 F.2.1 dX7_selectTold_229 rfl (lv_at hl 1 rfl) ?_
            refine g_callv (g_runV (As := [.int (iI 1), .int (iI v_585), .int (iI v_8), .int (iI ((-1))), .int (iI 0)]) (rest := []) (ci := 7) F hl.1 hH hS hz (c_X7_headerg l g gh T M I_17 R J_19 AI AJ AR mo 1 v_585 v_8 (-1) 0 ⟨by decide, by decide⟩ zv_585 zv_8 ⟨by decide, by decide⟩ ⟨by decide, by decide⟩ hv hm hT (by omega) (by omega)) (cwV 5 F.2.2.2.2.1 (good_up gT_X7_header) rfl rfl rfl hdX7_header ⟨Nat.le_of_ble_eq_true rfl, Nat.le_of_ble_eq_true rfl⟩) hm (by decide) rfl rfl rfl (Nat.le_of_ble_eq_true rfl) dX7_selectTold_230 ⟨Nat.zero_le _, Nat.zero_le _⟩) hS (fun I_587 R_588 J_589 AI_590 AJ_591 AR_592 H locs hp_593 hH hS => ?_)
            dsimp only at hp_593
            obtain ⟨rfl, rfl, rfl, rfl, rfl, hv, hT, hhd, q_594⟩ := hp_593
            replace hhd := hid hhd
            have hQ : mQ gh I_17 J_19 AI_590 AJ mo b nn nr nt cc 1 (h + 1) := mQ_bad hQ (by omega) rfl
            have hfin : thn (f, h, 0) (fun t _ => sSel b nn nr nt cc t) = (1, h + 1, 0) := (thn_k q0).trans (by show sSel b nn nr nt cc h = _; unfold sSel; exact thn_y sr_10.symm rfl (thn_x sr_24.symm (by omega)))
            exact g_vret F hr hlk hH hS hz ⟨rfl, rfl, rfl, hv, hT, pf, by first | (dsimp only; omega) | omega | rfl, by (try dsimp only); exact (fun hf => absurd hf (by omega)), by (try dsimp only); exact (fun hf => absurd hf (by omega)), by (try dsimp only); rw [hfin]; exact hQ, by (try dsimp only); rw [hfin]; exact pIc_n (by omega), by (try dsimp only); rw [hfin]; exact zIf_n (by omega), by (try dsimp only); rw [hfin]; exact zIf_n (by omega), fun b hb => q_594 b hb⟩ dX7_selectTold_233
          · exact absurd (mQ_z hQ (by omega)) (by omega)
    · have hQ : mQ gh I_2 J_4 AI AJ mo b nn nr nt cc (pRf b nn nt nr h) h := by rw [er_10] at hQ; exact hQ
      have sr_10 := sr_10.symm.trans er_10
      have g9r_10 := mQ_f hQ (by omega)
      replace q_12 := (⟨q_12.1, q_12.2.1⟩ : _ ∧ _)
      obtain ⟨f0, ef0⟩ : ∃ q, q = (I_2 mo 24).toInt := ⟨_, rfl⟩
      have hr1 : Hid (f0 = 0 → v_8 < M) := fun h9 => by omega
      refine lv_istore_n (lv' := [(1, .int (iI v_8)), (0, .ref mo)]) F.1 F.2.1 dX7_selectTold_4 rfl hl (by decide) rfl (fun ls hl => ?_)
      refine lv_aload_n F.1 F.2.1 dX7_selectTold_5 rfl (lv_at hl 1 rfl) ?_
      refine va_ldcS F.1 F.2.1 F.2.2.2.1 (F.2.2.2.2.2.2.1 10 _ rfl).1 dX7_selectTold_6 ?_
      have b_595 := mJ hv hm
      unfold mNum1 at b_595
      refine g_callv (g_runV (As := [.ref (gSK g 10)]) (rest := []) (ci := 7) F hl.1 hH hS hz (c_X7_mustWordf l g gh T 10 _ 10 b nn nr nt cc (pRf b nn nt nr h) h I_2 R J_4 AI AJ AR mo hv hm hT (by omega) (rfl : sTab[10]? = some _) h65 hbM hr7 (by omega) hn9 (by omega) (by decide) (by decide +kernel) hQ) (cwV 1 F.2.2.2.2.1 (good_up gT_X7_mustWord) rfl rfl rfl hdX7_mustWord ⟨Nat.le_of_ble_eq_true rfl, Nat.le_of_ble_eq_true rfl⟩) hm (by decide) rfl rfl rfl (Nat.le_of_ble_eq_true rfl) dX7_selectTold_8 ⟨Nat.zero_le _, Nat.zero_le _⟩) hS (fun I_596 R_597 J_598 AI_599 AJ_600 AR_601 H locs hp_602 hH hS => ?_)
      dsimp only at hp_602
      obtain ⟨r_603, er_603⟩ : ∃ qQ : pR, qQ = thn ((pRf b nn nt nr h), h, 0) (fun t _ => sTw b nn ((10 : Nat) : Int) t) := ⟨_, rfl⟩
      rw [← er_603] at hp_602
      obtain ⟨rfl, rfl, rfl, rfl, hv, pfq, q_604, hQ⟩ := hp_602
      have pf := qF_t pf pfq
      have u_605_2 : (I_596 mo 2).toInt = (I mo 2).toInt := by rw [pf 2 (by decide) (by decide) (by decide) (by decide) (by decide)]
      have u_605_5 : (I_596 mo 5).toInt = (I mo 5).toInt := by rw [pf 5 (by decide) (by decide) (by decide) (by decide) (by decide)]
      have u_605_14 : (I_596 mo 14).toInt = (I mo 14).toInt := by rw [pf 14 (by decide) (by decide) (by decide) (by decide) (by decide)]
      have u_605_16 : (I_596 mo 16).toInt = (I mo 16).toInt := by rw [pf 16 (by decide) (by decide) (by decide) (by decide) (by decide)]
      have u_605_18 : (I_596 mo 18).toInt = (I mo 18).toInt := by rw [pf 18 (by decide) (by decide) (by decide) (by decide) (by decide)]
      rw [thn_b (by omega)] at er_603
      have hQ : mQ gh I_596 J_598 AI AJ mo b nn nr nt cc (pRf b nn nt nr h) h := by rw [er_603] at hQ; exact hQ
      refine z_iconst F dX7_selectTold_11 ?_
      refine lv_istore_n (lv' := [(2, .int (iI 0)), (1, .int (iI v_8)), (0, .ref mo)]) F.1 F.2.1 dX7_selectTold_12 rfl hl (by decide) rfl (fun ls hl => ?_)
      refine z_iconst F dX7_selectTold_13 ?_
      refine lv_istore_n (lv' := [(3, .int (iI 1)), (2, .int (iI 0)), (1, .int (iI v_8)), (0, .ref mo)]) F.1 F.2.1 dX7_selectTold_14 rfl hl (by decide) rfl (fun ls hl => ?_)
      refine lv_iload_n F.1 F.2.1 dX7_selectTold_15 rfl (lv_at hl 0 rfl) ?_
      refine z_if_eq (tgt := 220) F dX7_selectTold_16 (by decide) ⟨by decide, by decide⟩ (fun c_606 => ?_) (fun c_606 => ?_)
      · exact absurd trivial (by omega)
      · refine lv_aload_n F.1 F.2.1 dX7_selectTold_19 rfl (lv_at hl 3 rfl) ?_
        refine g_getI (ci := 7) (k := 24) F hH rfl (by decide) iX7 hm (by decide) rfl k81 dX7_selectTold_20 ?_
        have b_607 := mJ hv hm
        unfold mNum1 at b_607
        refine z_if_ne (tgt := 220) F dX7_selectTold_23 (by decide) (zr_t _) (fun c_608 => ?_) (fun c_608 => ?_)
        · refine lv_aload_n F.1 F.2.1 dX7_selectTold_220 rfl (lv_at hl 3 rfl) ?_
          refine z_iconst F dX7_selectTold_221 ?_
          refine lv_aload_n F.1 F.2.1 dX7_selectTold_222 rfl (lv_at hl 3 rfl) ?_
          refine lv_iload_n F.1 F.2.1 dX7_selectTold_223 rfl (lv_at hl 2 rfl) ?_
          refine g_calli (g_runV (As := [.int (iI v_8)]) (rest := [.int (iI 1), .ref mo]) (ci := 7) F hl.1 hH hS hz (c_X7_columns l g gh T I_596 R J_598 AI AJ AR mo v_8 zv_8 hv hm hT (by omega)) (cwV 1 F.2.2.2.2.1 (good_up gT_X7_columns) rfl rfl rfl hdX7_columns ⟨Nat.le_of_ble_eq_true rfl, Nat.le_of_ble_eq_true rfl⟩) hm (by decide) rfl rfl rfl (Nat.le_of_ble_eq_true rfl) dX7_selectTold_224 ⟨Nat.zero_le _, Nat.zero_le _⟩) hS (fun v_616 I_610 R_611 J_612 AI_613 AJ_614 AR_615 H locs zv_616 hp_617 hH hS => ?_)
          dsimp only at hp_617
          obtain ⟨rfl, rfl, rfl, rfl, rfl, rfl, q_609⟩ := hp_617
          have hcol : Hid ((I_596 mo 24).toInt = 0 → 1 ≤ v_616 ∧ v_616 ≤ 4) := fun h => by have q9 := mCol hv hm (z := v_8) (by omega) (by omega); omega
          refine lv_iload_n F.1 F.2.1 dX7_selectTold_227 rfl (lv_at hl 2 rfl) ?_
          refine z_iconst F dX7_selectTold_228 ?_
          refine lv_iload_n F.1 F.2.1 dX7_selectTold_229 rfl (lv_at hl 1 rfl) ?_
          refine g_callv (g_runV (As := [.int (iI 1), .int (iI v_616), .int (iI v_8), .int (iI ((-1))), .int (iI 0)]) (rest := []) (ci := 7) F hl.1 hH hS hz (c_X7_headerg l g gh T M I_596 R J_598 AI AJ AR mo 1 v_616 v_8 (-1) 0 ⟨by decide, by decide⟩ zv_616 zv_8 ⟨by decide, by decide⟩ ⟨by decide, by decide⟩ hv hm hT (by omega) (by omega)) (cwV 5 F.2.2.2.2.1 (good_up gT_X7_header) rfl rfl rfl hdX7_header ⟨Nat.le_of_ble_eq_true rfl, Nat.le_of_ble_eq_true rfl⟩) hm (by decide) rfl rfl rfl (Nat.le_of_ble_eq_true rfl) dX7_selectTold_230 ⟨Nat.zero_le _, Nat.zero_le _⟩) hS (fun I_618 R_619 J_620 AI_621 AJ_622 AR_623 H locs hp_624 hH hS => ?_)
          dsimp only at hp_624
          obtain ⟨rfl, rfl, rfl, rfl, rfl, hv, hT, hhd, q_625⟩ := hp_624
          replace hhd := hid hhd
          have hQ : mQ gh I_596 J_598 AI_621 AJ mo b nn nr nt cc (pRf b nn nt nr h) h := mQ_bad hQ (by omega) rfl
          have hfin : thn (f, h, 0) (fun t _ => sSel b nn nr nt cc t) = (pRf b nn nt nr h, h, 0) := (thn_k q0).trans (by show sSel b nn nr nt cc h = _; unfold sSel; exact thn_x sr_10.symm (by omega))
          exact g_vret F hr hlk hH hS hz ⟨rfl, rfl, rfl, hv, hT, pf, by first | (dsimp only; omega) | omega | rfl, by (try dsimp only); exact (fun hf => absurd hf (by omega)), by (try dsimp only); exact (fun hf => absurd hf (by omega)), by (try dsimp only); rw [hfin]; exact hQ, by (try dsimp only); rw [hfin]; exact pIc_n (by omega), by (try dsimp only); rw [hfin]; exact zIf_n (by omega), by (try dsimp only); rw [hfin]; exact zIf_n (by omega), fun b hb => q_625 b hb⟩ dX7_selectTold_233
        · exact absurd (mQ_z hQ (by omega)) (by omega)
  · have hf1 := mQ_f hQ q0
    refine lv_aload_n F.1 F.2.1 dX7_selectTold_0 rfl (lv_at hl 0 rfl) ?_
    have b_626 := mJ hv hm
    unfold mNum1 at b_626
    refine g_calli (g_runV (As := []) (rest := []) (ci := 7) F hl.1 hH hS hz (c_X7_relationg l g gh T b nn nr nt cc f h I R J AI AJ AR mo hv hm hT (by omega) h65 hbM hr7 (by omega) hn9 (by omega) hQ) (cwV 0 F.2.2.2.2.1 (good_up gT_X7_relation) rfl rfl rfl hdX7_relation ⟨Nat.le_of_ble_eq_true rfl, Nat.le_of_ble_eq_true rfl⟩) hm (by decide) rfl rfl rfl (Nat.le_of_ble_eq_true rfl) dX7_selectTold_1 ⟨Nat.zero_le _, Nat.zero_le _⟩) hS (fun v_633 I_627 R_628 J_629 AI_630 AJ_631 AR_632 H locs zv_633 hp_634 hH hS => ?_)
    dsimp only at hp_634
    obtain ⟨r_635, er_635⟩ : ∃ qQ : pR, qQ = thn (f, h, 0) (fun t _ => sRl b nn nr nt cc t) := ⟨_, rfl⟩
    rw [← er_635] at hp_634
    obtain ⟨rfl, rfl, rfl, rfl, hv, pfq, q_636, q_637, hQ, q_638, q_639⟩ := hp_634
    have pf := qF_t pf pfq
    have u_640_2 : (I_627 mo 2).toInt = (I mo 2).toInt := by rw [pf 2 (by decide) (by decide) (by decide) (by decide) (by decide)]
    have u_640_5 : (I_627 mo 5).toInt = (I mo 5).toInt := by rw [pf 5 (by decide) (by decide) (by decide) (by decide) (by decide)]
    have u_640_14 : (I_627 mo 14).toInt = (I mo 14).toInt := by rw [pf 14 (by decide) (by decide) (by decide) (by decide) (by decide)]
    have u_640_16 : (I_627 mo 16).toInt = (I mo 16).toInt := by rw [pf 16 (by decide) (by decide) (by decide) (by decide) (by decide)]
    have u_640_18 : (I_627 mo 18).toInt = (I mo 18).toInt := by rw [pf 18 (by decide) (by decide) (by decide) (by decide) (by decide)]
    rw [thn_b (by omega)] at er_635
    have hQ : mQ gh I_627 J_629 AI AJ mo b nn nr nt cc f h := by rw [er_635] at hQ; exact hQ
    replace q_637 := (⟨q_637.1, q_637.2.1⟩ : _ ∧ _)
    obtain ⟨f0, ef0⟩ : ∃ q, q = (I_627 mo 24).toInt := ⟨_, rfl⟩
    have hr1 : Hid (f0 = 0 → v_633 < M) := fun h9 => by omega
    refine lv_istore_n (lv' := [(1, .int (iI v_633)), (0, .ref mo)]) F.1 F.2.1 dX7_selectTold_4 rfl hl (by decide) rfl (fun ls hl => ?_)
    refine lv_aload_n F.1 F.2.1 dX7_selectTold_5 rfl (lv_at hl 1 rfl) ?_
    refine va_ldcS F.1 F.2.1 F.2.2.2.1 (F.2.2.2.2.2.2.1 10 _ rfl).1 dX7_selectTold_6 ?_
    have b_641 := mJ hv hm
    unfold mNum1 at b_641
    refine g_callv (g_runV (As := [.ref (gSK g 10)]) (rest := []) (ci := 7) F hl.1 hH hS hz (c_X7_mustWordf l g gh T 10 _ 10 b nn nr nt cc f h I_627 R J_629 AI AJ AR mo hv hm hT (by omega) (rfl : sTab[10]? = some _) h65 hbM hr7 (by omega) hn9 (by omega) (by decide) (by decide +kernel) hQ) (cwV 1 F.2.2.2.2.1 (good_up gT_X7_mustWord) rfl rfl rfl hdX7_mustWord ⟨Nat.le_of_ble_eq_true rfl, Nat.le_of_ble_eq_true rfl⟩) hm (by decide) rfl rfl rfl (Nat.le_of_ble_eq_true rfl) dX7_selectTold_8 ⟨Nat.zero_le _, Nat.zero_le _⟩) hS (fun I_642 R_643 J_644 AI_645 AJ_646 AR_647 H locs hp_648 hH hS => ?_)
    dsimp only at hp_648
    obtain ⟨r_649, er_649⟩ : ∃ qQ : pR, qQ = thn (f, h, 0) (fun t _ => sTw b nn ((10 : Nat) : Int) t) := ⟨_, rfl⟩
    rw [← er_649] at hp_648
    obtain ⟨rfl, rfl, rfl, rfl, hv, pfq, q_650, hQ⟩ := hp_648
    have pf := qF_t pf pfq
    have u_651_2 : (I_642 mo 2).toInt = (I mo 2).toInt := by rw [pf 2 (by decide) (by decide) (by decide) (by decide) (by decide)]
    have u_651_5 : (I_642 mo 5).toInt = (I mo 5).toInt := by rw [pf 5 (by decide) (by decide) (by decide) (by decide) (by decide)]
    have u_651_14 : (I_642 mo 14).toInt = (I mo 14).toInt := by rw [pf 14 (by decide) (by decide) (by decide) (by decide) (by decide)]
    have u_651_16 : (I_642 mo 16).toInt = (I mo 16).toInt := by rw [pf 16 (by decide) (by decide) (by decide) (by decide) (by decide)]
    have u_651_18 : (I_642 mo 18).toInt = (I mo 18).toInt := by rw [pf 18 (by decide) (by decide) (by decide) (by decide) (by decide)]
    rw [thn_b (by omega)] at er_649
    have hQ : mQ gh I_642 J_644 AI AJ mo b nn nr nt cc f h := by rw [er_649] at hQ; exact hQ
    refine z_iconst F dX7_selectTold_11 ?_
    refine lv_istore_n (lv' := [(2, .int (iI 0)), (1, .int (iI v_633)), (0, .ref mo)]) F.1 F.2.1 dX7_selectTold_12 rfl hl (by decide) rfl (fun ls hl => ?_)
    refine z_iconst F dX7_selectTold_13 ?_
    refine lv_istore_n (lv' := [(3, .int (iI 1)), (2, .int (iI 0)), (1, .int (iI v_633)), (0, .ref mo)]) F.1 F.2.1 dX7_selectTold_14 rfl hl (by decide) rfl (fun ls hl => ?_)
    refine lv_iload_n F.1 F.2.1 dX7_selectTold_15 rfl (lv_at hl 0 rfl) ?_
    refine z_if_eq (tgt := 220) F dX7_selectTold_16 (by decide) ⟨by decide, by decide⟩ (fun c_652 => ?_) (fun c_652 => ?_)
    · exact absurd trivial (by omega)
    · refine lv_aload_n F.1 F.2.1 dX7_selectTold_19 rfl (lv_at hl 3 rfl) ?_
      refine g_getI (ci := 7) (k := 24) F hH rfl (by decide) iX7 hm (by decide) rfl k81 dX7_selectTold_20 ?_
      have b_653 := mJ hv hm
      unfold mNum1 at b_653
      refine z_if_ne (tgt := 220) F dX7_selectTold_23 (by decide) (zr_t _) (fun c_654 => ?_) (fun c_654 => ?_)
      · refine lv_aload_n F.1 F.2.1 dX7_selectTold_220 rfl (lv_at hl 3 rfl) ?_
        refine z_iconst F dX7_selectTold_221 ?_
        refine lv_aload_n F.1 F.2.1 dX7_selectTold_222 rfl (lv_at hl 3 rfl) ?_
        refine lv_iload_n F.1 F.2.1 dX7_selectTold_223 rfl (lv_at hl 2 rfl) ?_
        refine g_calli (g_runV (As := [.int (iI v_633)]) (rest := [.int (iI 1), .ref mo]) (ci := 7) F hl.1 hH hS hz (c_X7_columns l g gh T I_642 R J_644 AI AJ AR mo v_633 zv_633 hv hm hT (by omega)) (cwV 1 F.2.2.2.2.1 (good_up gT_X7_columns) rfl rfl rfl hdX7_columns ⟨Nat.le_of_ble_eq_true rfl, Nat.le_of_ble_eq_true rfl⟩) hm (by decide) rfl rfl rfl (Nat.le_of_ble_eq_true rfl) dX7_selectTold_224 ⟨Nat.zero_le _, Nat.zero_le _⟩) hS (fun v_662 I_656 R_657 J_658 AI_659 AJ_660 AR_661 H locs zv_662 hp_663 hH hS => ?_)
        dsimp only at hp_663
        obtain ⟨rfl, rfl, rfl, rfl, rfl, rfl, q_655⟩ := hp_663
        have hcol : Hid ((I_642 mo 24).toInt = 0 → 1 ≤ v_662 ∧ v_662 ≤ 4) := fun h => by have q9 := mCol hv hm (z := v_633) (by omega) (by omega); omega
        refine lv_iload_n F.1 F.2.1 dX7_selectTold_227 rfl (lv_at hl 2 rfl) ?_
        refine z_iconst F dX7_selectTold_228 ?_
        refine lv_iload_n F.1 F.2.1 dX7_selectTold_229 rfl (lv_at hl 1 rfl) ?_
        refine g_callv (g_runV (As := [.int (iI 1), .int (iI v_662), .int (iI v_633), .int (iI ((-1))), .int (iI 0)]) (rest := []) (ci := 7) F hl.1 hH hS hz (c_X7_headerg l g gh T M I_642 R J_644 AI AJ AR mo 1 v_662 v_633 (-1) 0 ⟨by decide, by decide⟩ zv_662 zv_633 ⟨by decide, by decide⟩ ⟨by decide, by decide⟩ hv hm hT (by omega) (by omega)) (cwV 5 F.2.2.2.2.1 (good_up gT_X7_header) rfl rfl rfl hdX7_header ⟨Nat.le_of_ble_eq_true rfl, Nat.le_of_ble_eq_true rfl⟩) hm (by decide) rfl rfl rfl (Nat.le_of_ble_eq_true rfl) dX7_selectTold_230 ⟨Nat.zero_le _, Nat.zero_le _⟩) hS (fun I_664 R_665 J_666 AI_667 AJ_668 AR_669 H locs hp_670 hH hS => ?_)
        dsimp only at hp_670
        obtain ⟨rfl, rfl, rfl, rfl, rfl, hv, hT, hhd, q_671⟩ := hp_670
        replace hhd := hid hhd
        have hQ : mQ gh I_642 J_644 AI_667 AJ mo b nn nr nt cc f h := mQ_bad hQ (by omega) rfl
        have hfin : thn (f, h, 0) (fun t _ => sSel b nn nr nt cc t) = (f, h, 0) := thn_b q0
        exact g_vret F hr hlk hH hS hz ⟨rfl, rfl, rfl, hv, hT, pf, by first | (dsimp only; omega) | omega | rfl, by (try dsimp only); exact (fun hf => absurd hf (by omega)), by (try dsimp only); exact (fun hf => absurd hf (by omega)), by (try dsimp only); rw [hfin]; exact hQ, by (try dsimp only); rw [hfin]; exact pIc_n (by omega), by (try dsimp only); rw [hfin]; exact zIf_n (by omega), by (try dsimp only); rw [hfin]; exact zIf_n (by omega), fun b hb => q_671 b hb⟩ dX7_selectTold_233
      · exact absurd (mQ_z hQ (by omega)) (by omega)
