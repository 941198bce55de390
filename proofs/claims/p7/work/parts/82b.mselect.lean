def rmX7_selectToldf : Room := { frames := 8, cells := 0, slots := 0, locals := 170 }
set_option maxHeartbeats 4000000 in
set_option maxRecDepth 100000 in
/-- a selection told -/
theorem c_X7_selectToldf (l : Launch) (g : gG) (gh : gGh) (T : Nat → Int32) (M : Int) (b : tTx) (nn nr : Nat) (nt : Nat → Nat) (cc : Nat → Int) (f : Int) (h : Nat) (I : gI) (R : gR) (J : gJ) (AI : gI) (AJ : gJ) (AR : gR) (mo : Nat) (hv : mInv g gh R I AI) (hm : gO g mo 7) (hT : AI (gh 50 0) = T) (hE : (I mo 20).toInt ≤ 936) (hM : (I mo 24).toInt = 0 → (I mo 5).toInt ≤ 15) (hMM : (I mo 5).toInt = M) (h65 : gh 9 (gh 65 0) ≠ 5) (hbM : ∀ k : Nat, k < nn → ((gM g).2 (gh 65 0) k).toInt = b k % 256) (hr7 : ∀ k : Nat, -128 ≤ b k ∧ b k ≤ 127) (hsz : (I mo 18).toInt = (nn : Int)) (hn9 : nn ≤ 900) (hm5 : (I mo 5).toInt = (nr : Int)) (hQ : mQ gh I J AI AJ mo b nn nr nt cc f h) : gMet l g yX7_selectTold tsX7_selectTold rmX7_selectToldf [.ref mo] (I, R, J, AI, AJ, AR) (gQv g (fun w : gS => R = w.2.1 ∧ AJ = w.2.2.2.2.1 ∧ AR = w.2.2.2.2.2 ∧ (mInv g gh R (w.1) (w.2.2.2.1)) ∧ ((w.2.2.2.1) (gh 50 0) = T) ∧ (qF mo I (w.1)) ∧ (((w.1) mo 20).toInt ≤ 936 ∧ (I mo 24).toInt ≤ ((w.1) mo 24).toInt) ∧ (((w.1) mo 24).toInt = 0 → ((w.1) mo 21).toInt = 4 → ((w.1) mo 23).toInt = 59 → rowOK ((w.2.2.2.1) (gh 53 0)) M) ∧ (((w.1) mo 24).toInt = 0 → tI ((w.2.2.2.1) (gh 53 0)) (40 * M) = 1) ∧ (mQ gh (w.1) (w.2.2.1) (w.2.2.2.1) AJ mo b nn nr nt cc (thn (f, h, 0) (fun t _ => sSel b nn nr nt cc t)).1 (thn (f, h, 0) (fun t _ => sSel b nn nr nt cc t)).2.1) ∧ (pIc (thn (f, h, 0) (fun t _ => sSel b nn nr nt cc t)).1 (pK b nn (thn (f, h, 0) (fun t _ => sSel b nn nr nt cc t)).2.1) (tI ((w.2.2.2.1) (gh 53 0)) (40 * (nr : Int) + 1)) (thn (f, h, 0) (fun t _ => sSel b nn nr nt cc t)).2.2))) := by
  refine gStart (cc := cX7_selectTold) (maxL := 8) (ret := none) (by decide) rfl (Nat.le_of_ble_eq_true rfl) ?_
  intro p e s m below meth c ls F hr hlk hH hz hS hl
  have hl : lv_has ls 8 [(0, .ref mo)] := hl
  have hS : va_S (gA g) s.heap s.heap [] := hS
  obtain ⟨H, hHe⟩ : ∃ H : Heap, H = s.heap := ⟨_, rfl⟩
  obtain ⟨locs, hlo⟩ : ∃ k : List Loc, k = [] := ⟨_, rfl⟩
  have hH : gH g I R J AI AJ AR H := by rw [hHe]; exact hH
  have hS : va_S (gA g) s.heap H locs := by rw [hHe, hlo]; exact hS
  suffices hw : W p l e rmX7_selectToldf s m ([.ref mo] : List Value).toArray below meth c H locs 0 0 (MQ below (gQv g (fun w : gS => R = w.2.1 ∧ AJ = w.2.2.2.2.1 ∧ AR = w.2.2.2.2.2 ∧ (mInv g gh R (w.1) (w.2.2.2.1)) ∧ ((w.2.2.2.1) (gh 50 0) = T) ∧ (qF mo I (w.1)) ∧ (((w.1) mo 20).toInt ≤ 936 ∧ (I mo 24).toInt ≤ ((w.1) mo 24).toInt) ∧ (((w.1) mo 24).toInt = 0 → ((w.1) mo 21).toInt = 4 → ((w.1) mo 23).toInt = 59 → rowOK ((w.2.2.2.1) (gh 53 0)) M) ∧ (((w.1) mo 24).toInt = 0 → tI ((w.2.2.2.1) (gh 53 0)) (40 * M) = 1) ∧ (mQ gh (w.1) (w.2.2.1) (w.2.2.2.1) AJ mo b nn nr nt cc (thn (f, h, 0) (fun t _ => sSel b nn nr nt cc t)).1 (thn (f, h, 0) (fun t _ => sSel b nn nr nt cc t)).2.1) ∧ (pIc (thn (f, h, 0) (fun t _ => sSel b nn nr nt cc t)).1 (pK b nn (thn (f, h, 0) (fun t _ => sSel b nn nr nt cc t)).2.1) (tI ((w.2.2.2.1) (gh 53 0)) (40 * (nr : Int) + 1)) (thn (f, h, 0) (fun t _ => sSel b nn nr nt cc t)).2.2))) ([.ref mo] : List Value).toArray s 0 0 (gA g)) (F0 m 0 ls []) by
    rw [hHe, hlo] at hw; exact hw
  clear hHe hlo
  have pf : qF mo I I := qF_r
  have hb0 := mJ hv hm
  unfold mNum1 at hb0
  have iX7 : ∀ w ∈ u_ws RX7 TX7 32, w ∈ tsX7_selectTold := fun w h => List.mem_cons_of_mem _ (inTB7 w h)
  have k81 : Cond.fieldLink RX7 81 (TX7 24).1 (TX7 24).2.1 (TX7 24).2.2.1 ∈ tsX7_selectTold := List.mem_cons_of_mem _ fl_81
  have k94 : Cond.fieldLink RX7 94 (TX7 21).1 (TX7 21).2.1 (TX7 21).2.2.1 ∈ tsX7_selectTold := List.mem_cons_of_mem _ fl_94
  have k97 : Cond.fieldLink RX7 97 (TX7 23).1 (TX7 23).2.1 (TX7 23).2.2.1 ∈ tsX7_selectTold := List.mem_cons_of_mem _ fl_97
  have hf0 := mQ_p hQ
  by_cases q0 : f = 0
  · have hQ := mQ_ok hQ q0
    have hz0 := mQ_0 hQ rfl
    refine lv_aload_n F.1 F.2.1 dX7_selectTold_0 rfl (lv_at hl 0 rfl) ?_
    have b_1 := mJ hv hm
    unfold mNum1 at b_1
    refine g_calli (g_runV (As := []) (rest := []) (ci := 7) F hl.1 hH hS hz (c_X7_relationf l g gh T b nn nr nt cc 0 h I R J AI AJ AR mo hv hm hT (by omega) h65 hbM hr7 (by omega) hn9 (by omega) hQ) (cwV 0 F.2.2.2.2.1 (good_up gT_X7_relation) rfl rfl rfl hdX7_relation ⟨Nat.le_of_ble_eq_true rfl, Nat.le_of_ble_eq_true rfl⟩) hm (by decide) rfl rfl rfl (Nat.le_of_ble_eq_true rfl) dX7_selectTold_1 ⟨Nat.zero_le _, Nat.zero_le _⟩) hS (fun v_8 I_2 R_3 J_4 AI_5 AJ_6 AR_7 H locs zv_8 hp_9 hH hS => ?_)
    dsimp only at hp_9
    obtain ⟨r_10, er_10⟩ : ∃ qQ : pR, qQ = thn (0, h, 0) (fun t _ => sRl b nn nr nt cc t) := ⟨_, rfl⟩
    rw [← er_10] at hp_9
    obtain ⟨rfl, rfl, rfl, rfl, hv, pfq, q_11, q_12, hQ, q_13⟩ := hp_9
    have pf := qF_t pf pfq
    have u_14_2 : (I_2 mo 2).toInt = (I mo 2).toInt := by rw [pf 2 (by decide) (by decide) (by decide) (by decide) (by decide)]
    have u_14_5 : (I_2 mo 5).toInt = (I mo 5).toInt := by rw [pf 5 (by decide) (by decide) (by decide) (by decide) (by decide)]
    have u_14_14 : (I_2 mo 14).toInt = (I mo 14).toInt := by rw [pf 14 (by decide) (by decide) (by decide) (by decide) (by decide)]
    have u_14_16 : (I_2 mo 16).toInt = (I mo 16).toInt := by rw [pf 16 (by decide) (by decide) (by decide) (by decide) (by decide)]
    have u_14_18 : (I_2 mo 18).toInt = (I mo 18).toInt := by rw [pf 18 (by decide) (by decide) (by decide) (by decide) (by decide)]
    have er_10 : r_10 = sRl b nn nr nt cc h := er_10
    have sr_10 := er_10
    rcases sRl_c er_10 with ⟨er_10, pr_10⟩ | ⟨er_10, pr_10⟩
    · have hQ : mQ gh I_2 J_4 AI AJ mo b nn nr nt cc 0 (h + 1) := by rw [er_10] at hQ; exact hQ
      have sr_10 : sRl b nn nr nt cc h = (0, h + 1, cF b nn nr nt cc h) := sr_10.symm.trans er_10
      have vlr_10 := q_13 (by rw [er_10])
      try rw [er_10] at vlr_10
      try dsimp only at vlr_10
      replace q_12 := (⟨q_12.1, q_12.2.1, q_12.2.2 (mQ_0 hQ rfl)⟩ : _ ∧ _ ∧ _)
      obtain ⟨f0, ef0⟩ : ∃ q, q = (I_2 mo 24).toInt := ⟨_, rfl⟩
      have hr1 : Hid (f0 = 0 → v_8 < M) := fun h9 => by omega
      refine lv_istore_n (lv' := [(1, .int (iI v_8)), (0, .ref mo)]) F.1 F.2.1 dX7_selectTold_4 rfl hl (by decide) rfl (fun ls hl => ?_)
      refine lv_aload_n F.1 F.2.1 dX7_selectTold_5 rfl (lv_at hl 1 rfl) ?_
      refine va_ldcS F.1 F.2.1 F.2.2.2.1 (F.2.2.2.2.2.2.1 10 _ rfl).1 dX7_selectTold_6 ?_
      have b_15 := mJ hv hm
      unfold mNum1 at b_15
      refine g_callv (g_runV (As := [.ref (gSK g 10)]) (rest := []) (ci := 7) F hl.1 hH hS hz (c_X7_mustWordf l g gh T 10 _ 10 b nn nr nt cc 0 (h + 1) I_2 R J_4 AI AJ AR mo hv hm hT (by omega) (rfl : sTab[10]? = some _) h65 hbM hr7 (by omega) hn9 (by omega) (by decide) (by decide +kernel) hQ) (cwV 1 F.2.2.2.2.1 (good_up gT_X7_mustWord) rfl rfl rfl hdX7_mustWord ⟨Nat.le_of_ble_eq_true rfl, Nat.le_of_ble_eq_true rfl⟩) hm (by decide) rfl rfl rfl (Nat.le_of_ble_eq_true rfl) dX7_selectTold_8 ⟨Nat.zero_le _, Nat.zero_le _⟩) hS (fun I_16 R_17 J_18 AI_19 AJ_20 AR_21 H locs hp_22 hH hS => ?_)
      dsimp only at hp_22
      obtain ⟨r_23, er_23⟩ : ∃ qQ : pR, qQ = thn (0, (h + 1), 0) (fun t _ => sTw b nn ((10 : Nat) : Int) t) := ⟨_, rfl⟩
      rw [← er_23] at hp_22
      obtain ⟨rfl, rfl, rfl, rfl, hv, pfq, q_24, hQ⟩ := hp_22
      have pf := qF_t pf pfq
      have u_25_2 : (I_16 mo 2).toInt = (I mo 2).toInt := by rw [pf 2 (by decide) (by decide) (by decide) (by decide) (by decide)]
      have u_25_5 : (I_16 mo 5).toInt = (I mo 5).toInt := by rw [pf 5 (by decide) (by decide) (by decide) (by decide) (by decide)]
      have u_25_14 : (I_16 mo 14).toInt = (I mo 14).toInt := by rw [pf 14 (by decide) (by decide) (by decide) (by decide) (by decide)]
      have u_25_16 : (I_16 mo 16).toInt = (I mo 16).toInt := by rw [pf 16 (by decide) (by decide) (by decide) (by decide) (by decide)]
      have u_25_18 : (I_16 mo 18).toInt = (I mo 18).toInt := by rw [pf 18 (by decide) (by decide) (by decide) (by decide) (by decide)]
      have er_23 : r_23 = sTw b nn 10 (h + 1) := er_23
      have sr_23 := er_23
      rcases sTw_c er_23 with ⟨er_23, pr_23⟩ | ⟨er_23, pr_23⟩
      · have hQ : mQ gh I_16 J_18 AI AJ mo b nn nr nt cc 0 (h + 2) := by rw [er_23] at hQ; exact hQ
        have sr_23 : sTw b nn 10 (h + 1) = (0, h + 2, 0) := sr_23.symm.trans er_23
        refine z_iconst F dX7_selectTold_11 ?_
        refine lv_istore_n (lv' := [(2, .int (iI 0)), (1, .int (iI v_8)), (0, .ref mo)]) F.1 F.2.1 dX7_selectTold_12 rfl hl (by decide) rfl (fun ls hl => ?_)
        refine z_iconst F dX7_selectTold_13 ?_
        refine lv_istore_n (lv' := [(3, .int (iI 1)), (2, .int (iI 0)), (1, .int (iI v_8)), (0, .ref mo)]) F.1 F.2.1 dX7_selectTold_14 rfl hl (by decide) rfl (fun ls hl => ?_)
        have cut_15_28 : ∀ (NN : Nat) (n mr : Int) (I_26 : gI) (J_27 : gJ) (AI_28 : gI) (H : Heap) (locs : List Loc) (ls : Array Slot), zr n → zr mr → (mInv g gh R I_26 AI_28) → (AI_28 (gh 50 0) = T) → (qF mo I I_26) → ((I_26 mo 20).toInt ≤ 936 ∧ f0 ≤ (I_26 mo 24).toInt ∧ 0 ≤ n ∧ n ≤ 9) → (Hid ((I_26 mo 24).toInt = 0 → n ≤ 8 ∧ selP (AI_28 (gh 53 0)) M n)) → (∃ hc : Nat, mQ gh I_26 J_27 AI_28 AJ mo b nn nr nt cc 0 hc ∧ sSel b nn nr nt cc h = sTests b nn (cF b nn nr nt cc h) (9 - n).toNat n hc) → (mr = 1) → (10 - n) < ((NN : Nat) : Int) → gH g I_26 R J_27 AI_28 AJ AR H → va_S (gA g) s.heap H locs → lv_has ls 8 [(3, .int (iI mr)), (2, .int (iI n)), (1, .int (iI v_8)), (0, .ref mo)] → W p l e rmX7_selectToldf s m ([.ref mo] : List Value).toArray below meth c H locs 0 0 (MQ below (gQv g (fun w : gS => R = w.2.1 ∧ AJ = w.2.2.2.2.1 ∧ AR = w.2.2.2.2.2 ∧ (mInv g gh R (w.1) (w.2.2.2.1)) ∧ ((w.2.2.2.1) (gh 50 0) = T) ∧ (qF mo I (w.1)) ∧ (((w.1) mo 20).toInt ≤ 936 ∧ (I mo 24).toInt ≤ ((w.1) mo 24).toInt) ∧ (((w.1) mo 24).toInt = 0 → ((w.1) mo 21).toInt = 4 → ((w.1) mo 23).toInt = 59 → rowOK ((w.2.2.2.1) (gh 53 0)) M) ∧ (((w.1) mo 24).toInt = 0 → tI ((w.2.2.2.1) (gh 53 0)) (40 * M) = 1) ∧ (mQ gh (w.1) (w.2.2.1) (w.2.2.2.1) AJ mo b nn nr nt cc (thn (f, h, 0) (fun t _ => sSel b nn nr nt cc t)).1 (thn (f, h, 0) (fun t _ => sSel b nn nr nt cc t)).2.1) ∧ (pIc (thn (f, h, 0) (fun t _ => sSel b nn nr nt cc t)).1 (pK b nn (thn (f, h, 0) (fun t _ => sSel b nn nr nt cc t)).2.1) (tI ((w.2.2.2.1) (gh 53 0)) (40 * (nr : Int) + 1)) (thn (f, h, 0) (fun t _ => sSel b nn nr nt cc t)).2.2))) ([.ref mo] : List Value).toArray s 0 0 (gA g)) (F0 m 15 ls []) := by
          intro NN15
          induction NN15 with
          | zero =>
            intro n mr I_26 J_27 AI_28 H locs ls zn zmr hv hT pf hx hp hLs hmr hm15 hH hS hl
            exact absurd hm15 (by omega)
          | succ NN15 ih15 =>
            intro n mr I_26 J_27 AI_28 H locs ls zn zmr hv hT pf hx hp hLs hmr hm15 hH hS hl
            (try clear u_25_18); (try clear u_25_16); (try clear u_25_14); (try clear u_25_5); (try clear u_25_2); (try clear b_15); (try clear u_14_18); (try clear u_14_16); (try clear u_14_14); (try clear u_14_5); (try clear u_14_2); (try clear b_1)
            have uc_2 : (I_26 mo 2).toInt = (I mo 2).toInt := by rw [pf 2 (by decide) (by decide) (by decide) (by decide) (by decide)]
            have uc_5 : (I_26 mo 5).toInt = (I mo 5).toInt := by rw [pf 5 (by decide) (by decide) (by decide) (by decide) (by decide)]
            have uc_14 : (I_26 mo 14).toInt = (I mo 14).toInt := by rw [pf 14 (by decide) (by decide) (by decide) (by decide) (by decide)]
            have uc_16 : (I_26 mo 16).toInt = (I mo 16).toInt := by rw [pf 16 (by decide) (by decide) (by decide) (by decide) (by decide)]
            have uc_18 : (I_26 mo 18).toInt = (I mo 18).toInt := by rw [pf 18 (by decide) (by decide) (by decide) (by decide) (by decide)]
            obtain ⟨hc, hQ, hsq⟩ := hLs
            have hp_k := hp (mQ_0 hQ rfl)
            refine lv_iload_n F.1 F.2.1 dX7_selectTold_15 rfl (lv_at hl 0 rfl) ?_
            refine z_if_eq (tgt := 220) F dX7_selectTold_16 (by decide) zmr (fun c_30 => ?_) (fun c_30 => ?_)
            · exact absurd hmr (by omega)
            · refine lv_aload_n F.1 F.2.1 dX7_selectTold_19 rfl (lv_at hl 3 rfl) ?_
              refine g_getI (ci := 7) (k := 24) F hH rfl (by decide) iX7 hm (by decide) rfl k81 dX7_selectTold_20 ?_
              have b_31 := mJ hv hm
              unfold mNum1 at b_31
              refine z_if_ne (tgt := 220) F dX7_selectTold_23 (by decide) (zr_t _) (fun c_32 => ?_) (fun c_32 => ?_)
              · exact absurd (mQ_0 hQ rfl) (by omega)
              · have cut_178_35 : ∀ (l4 l5 l6 l7 : Int) (I_33 : gI) (J_34 : gJ) (AI_35 : gI) (H : Heap) (locs : List Loc) (ls : Array Slot), zr l4 → zr l5 → zr l6 → zr l7 → (mInv g gh R I_33 AI_35) → (AI_35 (gh 50 0) = T) → (qF mo I I_33) → (∃ (f9 : Int) (h9 : Nat), f9 ≠ 0 ∧ mQ gh I_33 J_34 AI_35 AJ mo b nn nr nt cc f9 h9 ∧ thn (f, h, 0) (fun t _ => sSel b nn nr nt cc t) = (f9, h9, 0)) → ((I_33 mo 20).toInt ≤ 936 ∧ (I mo 24).toInt ≤ (I_33 mo 24).toInt) → gH g I_33 R J_34 AI_35 AJ AR H → va_S (gA g) s.heap H locs → lv_has ls 8 [(3, .int (iI mr)), (2, .int (iI n)), (1, .int (iI v_8)), (0, .ref mo), (4, .int (iI l4)), (5, .int (iI l5)), (6, .int (iI l6)), (7, .int (iI l7))] → W p l e rmX7_selectToldf s m ([.ref mo] : List Value).toArray below meth c H locs 0 0 (MQ below (gQv g (fun w : gS => R = w.2.1 ∧ AJ = w.2.2.2.2.1 ∧ AR = w.2.2.2.2.2 ∧ (mInv g gh R (w.1) (w.2.2.2.1)) ∧ ((w.2.2.2.1) (gh 50 0) = T) ∧ (qF mo I (w.1)) ∧ (((w.1) mo 20).toInt ≤ 936 ∧ (I mo 24).toInt ≤ ((w.1) mo 24).toInt) ∧ (((w.1) mo 24).toInt = 0 → ((w.1) mo 21).toInt = 4 → ((w.1) mo 23).toInt = 59 → rowOK ((w.2.2.2.1) (gh 53 0)) M) ∧ (((w.1) mo 24).toInt = 0 → tI ((w.2.2.2.1) (gh 53 0)) (40 * M) = 1) ∧ (mQ gh (w.1) (w.2.2.1) (w.2.2.2.1) AJ mo b nn nr nt cc (thn (f, h, 0) (fun t _ => sSel b nn nr nt cc t)).1 (thn (f, h, 0) (fun t _ => sSel b nn nr nt cc t)).2.1) ∧ (pIc (thn (f, h, 0) (fun t _ => sSel b nn nr nt cc t)).1 (pK b nn (thn (f, h, 0) (fun t _ => sSel b nn nr nt cc t)).2.1) (tI ((w.2.2.2.1) (gh 53 0)) (40 * (nr : Int) + 1)) (thn (f, h, 0) (fun t _ => sSel b nn nr nt cc t)).2.2))) ([.ref mo] : List Value).toArray s 0 0 (gA g)) (F0 m 178 ls []) := by
                  intro l4 l5 l6 l7 I_33 J_34 AI_35 H locs ls zl4 zl5 zl6 zl7 hv hT pf hBad hx9 hH hS hl
                  (try clear b_31); (try clear uc_18); (try clear uc_16); (try clear uc_14); (try clear uc_5); (try clear uc_2); (try clear u_25_18); (try clear u_25_16); (try clear u_25_14); (try clear u_25_5); (try clear u_25_2); (try clear b_15); (try clear u_14_18); (try clear u_14_16); (try clear u_14_14); (try clear u_14_5); (try clear u_14_2); (try clear b_1)
                  have uc_2 : (I_33 mo 2).toInt = (I mo 2).toInt := by rw [pf 2 (by decide) (by decide) (by decide) (by decide) (by decide)]
                  have uc_5 : (I_33 mo 5).toInt = (I mo 5).toInt := by rw [pf 5 (by decide) (by decide) (by decide) (by decide) (by decide)]
                  have uc_14 : (I_33 mo 14).toInt = (I mo 14).toInt := by rw [pf 14 (by decide) (by decide) (by decide) (by decide) (by decide)]
                  have uc_16 : (I_33 mo 16).toInt = (I mo 16).toInt := by rw [pf 16 (by decide) (by decide) (by decide) (by decide) (by decide)]
                  have uc_18 : (I_33 mo 18).toInt = (I mo 18).toInt := by rw [pf 18 (by decide) (by decide) (by decide) (by decide) (by decide)]
                  obtain ⟨fb9, hb9, q9, hQ, hfin⟩ := hBad
                  have q9f := mQ_f hQ q9
                  have q9p := mQ_p hQ
                  refine lv_aload_n F.1 F.2.1 dX7_selectTold_178 rfl (lv_at hl 3 rfl) ?_
                  refine lv_iload_n F.1 F.2.1 dX7_selectTold_179 rfl (lv_at hl 1 rfl) ?_
                  refine lv_iload F.1 F.2.1 dX7_selectTold_180 (lv_at hl 4 rfl) ?_
                  refine lv_iload F.1 F.2.1 dX7_selectTold_182 (lv_at hl 5 rfl) ?_
                  refine lv_iload F.1 F.2.1 dX7_selectTold_184 (lv_at hl 6 rfl) ?_
                  refine z_if_eq (tgt := 193) F dX7_selectTold_186 (by decide) zl6 (fun c_37 => ?_) (fun c_37 => ?_)
                  · refine z_iconst F dX7_selectTold_193 ?_
                    refine lv_iload F.1 F.2.1 dX7_selectTold_194 (lv_at hl 7 rfl) ?_
                    have b_38 := mJ hv hm
                    unfold mNum1 at b_38
                    refine g_callv (g_runV (As := [.int (iI n), .int (iI l4), .int (iI l5), .int (iI 0), .int (iI l7)]) (rest := []) (ci := 7) F hl.1 hH hS hz (c_X7_setsPart l g gh T M I_33 R J_34 AI_35 AJ AR mo n l4 l5 0 l7 zn zl4 zl5 ⟨by decide, by decide⟩ zl7 hv hm hT (by omega) (by omega) (by omega)) (cwV 5 F.2.2.2.2.1 (good_up gT_X7_setsPart) rfl rfl rfl hdX7_setsPart ⟨Nat.le_of_ble_eq_true rfl, Nat.le_of_ble_eq_true rfl⟩) hm (by decide) rfl rfl rfl (Nat.le_of_ble_eq_true rfl) dX7_selectTold_196 ⟨Nat.zero_le _, Nat.zero_le _⟩) hS (fun I_39 R_40 J_41 AI_42 AJ_43 AR_44 H locs hp_45 hH hS => ?_)
                    dsimp only at hp_45
                    obtain ⟨rfl, rfl, rfl, rfl, rfl, hv, hT, hsp⟩ := hp_45
                    replace hsp := hid hsp
                    have hQ : mQ gh I_33 J_34 AI_42 AJ mo b nn nr nt cc fb9 hb9 := mQ_bad hQ (by omega) rfl
                    refine z_iinc (lv' := [(2, .int (iI (n + 1))), (3, .int (iI mr)), (1, .int (iI v_8)), (0, .ref mo), (4, .int (iI l4)), (5, .int (iI l5)), (6, .int (iI l6)), (7, .int (iI l7))]) F dX7_selectTold_199 hl (k := 1) rfl (by decide) rfl (fun ls hl => ?_)
                    refine lv_aload_n F.1 F.2.1 dX7_selectTold_202 rfl (lv_at hl 3 rfl) ?_
                    refine va_ldcS F.1 F.2.1 F.2.2.2.1 (F.2.2.2.2.2.2.1 11 _ rfl).1 dX7_selectTold_203 ?_
                    refine g_calli (g_runV (As := [.ref (gSK g 11)]) (rest := []) (ci := 7) F hl.1 hH hS hz (c_X7_isWordf l g gh T 11 _ 11 b nn nr nt cc fb9 hb9 I_33 R J_34 AI_42 AJ AR mo hv hm hT (rfl : sTab[11]? = some _) (by decide) (by decide +kernel) h65 hbM hr7 (by omega) hn9 (by omega) hQ) (cwV 1 F.2.2.2.2.1 (good_up gT_X7_isWord) rfl rfl rfl hdX7_isWord ⟨Nat.le_of_ble_eq_true rfl, Nat.le_of_ble_eq_true rfl⟩) hm (by decide) rfl rfl rfl (Nat.le_of_ble_eq_true rfl) dX7_selectTold_205 ⟨Nat.zero_le _, Nat.zero_le _⟩) hS (fun v_52 I_46 R_47 J_48 AI_49 AJ_50 AR_51 H locs zv_52 hp_53 hH hS => ?_)
                    dsimp only at hp_53
                    obtain ⟨rfl, rfl, rfl, rfl, rfl, rfl, q_54, q_55⟩ := hp_53
                    refine lv_istore_n (lv' := [(3, .int (iI v_52)), (2, .int (iI (n + 1))), (1, .int (iI v_8)), (0, .ref mo), (4, .int (iI l4)), (5, .int (iI l5)), (6, .int (iI l6)), (7, .int (iI l7))]) F.1 F.2.1 dX7_selectTold_208 rfl hl (by decide) rfl (fun ls hl => ?_)
                    refine lv_iload_n F.1 F.2.1 dX7_selectTold_209 rfl (lv_at hl 0 rfl) ?_
                    refine z_if_eq (tgt := 217) F dX7_selectTold_210 (by decide) zv_52 (fun c_56 => ?_) (fun c_56 => ?_)
                    · have t_57 := tIz_0 q_55 (by omega)
                      refine z_goto (tgt := 15) F dX7_selectTold_217 (by decide) ?_
                      refine lv_iload_n F.1 F.2.1 dX7_selectTold_15 rfl (lv_at hl 0 rfl) ?_
                      refine z_if_eq (tgt := 220) F dX7_selectTold_16 (by decide) zv_52 (fun c_58 => ?_) (fun c_58 => ?_)
                      · have t_59 := tIz_0 q_55 (by omega)
                        refine lv_aload_n F.1 F.2.1 dX7_selectTold_220 rfl (lv_at hl 3 rfl) ?_
                        refine z_iconst F dX7_selectTold_221 ?_
                        refine lv_aload_n F.1 F.2.1 dX7_selectTold_222 rfl (lv_at hl 3 rfl) ?_
                        refine lv_iload_n F.1 F.2.1 dX7_selectTold_223 rfl (lv_at hl 2 rfl) ?_
                        refine g_calli (g_runV (As := [.int (iI v_8)]) (rest := [.int (iI 1), .ref mo]) (ci := 7) F hl.1 hH hS hz (c_X7_columns l g gh T I_33 R J_34 AI_42 AJ AR mo v_8 zv_8 hv hm hT (by omega)) (cwV 1 F.2.2.2.2.1 (good_up gT_X7_columns) rfl rfl rfl hdX7_columns ⟨Nat.le_of_ble_eq_true rfl, Nat.le_of_ble_eq_true rfl⟩) hm (by decide) rfl rfl rfl (Nat.le_of_ble_eq_true rfl) dX7_selectTold_224 ⟨Nat.zero_le _, Nat.zero_le _⟩) hS (fun v_67 I_61 R_62 J_63 AI_64 AJ_65 AR_66 H locs zv_67 hp_68 hH hS => ?_)
                        dsimp only at hp_68
                        obtain ⟨rfl, rfl, rfl, rfl, rfl, rfl, q_60⟩ := hp_68
                        have hcol : Hid ((I_33 mo 24).toInt = 0 → 1 ≤ v_67 ∧ v_67 ≤ 4) := fun h => by have q9 := mCol hv hm (z := v_8) (by omega) (by omega); omega
                        refine lv_iload_n F.1 F.2.1 dX7_selectTold_227 rfl (lv_at hl 2 rfl) ?_
                        refine z_iconst F dX7_selectTold_228 ?_
                        refine lv_iload_n F.1 F.2.1 dX7_selectTold_229 rfl (lv_at hl 1 rfl) ?_
                        refine g_callv (g_runV (As := [.int (iI 1), .int (iI v_67), .int (iI v_8), .int (iI ((-1))), .int (iI (n + 1))]) (rest := []) (ci := 7) F hl.1 hH hS hz (c_X7_header l g gh T M I_33 R J_34 AI_42 AJ AR mo 1 v_67 v_8 (-1) (n + 1) ⟨by decide, by decide⟩ zv_67 zv_8 ⟨by decide, by decide⟩ ⟨by omega, by omega⟩ hv hm hT (by omega) (by omega)) (cwV 5 F.2.2.2.2.1 (good_up gT_X7_header) rfl rfl rfl hdX7_header ⟨Nat.le_of_ble_eq_true rfl, Nat.le_of_ble_eq_true rfl⟩) hm (by decide) rfl rfl rfl (Nat.le_of_ble_eq_true rfl) dX7_selectTold_230 ⟨Nat.zero_le _, Nat.zero_le _⟩) hS (fun I_69 R_70 J_71 AI_72 AJ_73 AR_74 H locs hp_75 hH hS => ?_)
                        dsimp only at hp_75
                        obtain ⟨rfl, rfl, rfl, rfl, rfl, hv, hT, hhd⟩ := hp_75
                        replace hhd := hid hhd
                        have hQ : mQ gh I_33 J_34 AI_72 AJ mo b nn nr nt cc fb9 hb9 := mQ_bad hQ (by omega) rfl
                        exact g_vret F hr hlk hH hS hz ⟨rfl, rfl, rfl, hv, hT, pf, by first | (dsimp only; omega) | omega | rfl, by (try dsimp only); exact (fun hf => absurd hf (by omega)), by (try dsimp only); exact (fun hf => absurd hf (by omega)), by (try dsimp only); rw [hfin]; exact hQ, by (try dsimp only); rw [hfin]; exact pIc_n (by omega)⟩ dX7_selectTold_233
                      · exact absurd trivial (by omega)
                    · exact absurd (tIz_1 q_55 (by omega)).1 (by omega)
                  · refine z_iconst F dX7_selectTold_189 ?_
                    refine z_goto (tgt := 194) F dX7_selectTold_190 (by decide) ?_
                    refine lv_iload F.1 F.2.1 dX7_selectTold_194 (lv_at hl 7 rfl) ?_
                    have b_76 := mJ hv hm
                    unfold mNum1 at b_76
                    refine g_callv (g_runV (As := [.int (iI n), .int (iI l4), .int (iI l5), .int (iI 1), .int (iI l7)]) (rest := []) (ci := 7) F hl.1 hH hS hz (c_X7_setsPart l g gh T M I_33 R J_34 AI_35 AJ AR mo n l4 l5 1 l7 zn zl4 zl5 ⟨by decide, by decide⟩ zl7 hv hm hT (by omega) (by omega) (by omega)) (cwV 5 F.2.2.2.2.1 (good_up gT_X7_setsPart) rfl rfl rfl hdX7_setsPart ⟨Nat.le_of_ble_eq_true rfl, Nat.le_of_ble_eq_true rfl⟩) hm (by decide) rfl rfl rfl (Nat.le_of_ble_eq_true rfl) dX7_selectTold_196 ⟨Nat.zero_le _, Nat.zero_le _⟩) hS (fun I_77 R_78 J_79 AI_80 AJ_81 AR_82 H locs hp_83 hH hS => ?_)
                    dsimp only at hp_83
                    obtain ⟨rfl, rfl, rfl, rfl, rfl, hv, hT, hsp⟩ := hp_83
                    replace hsp := hid hsp
                    have hQ : mQ gh I_33 J_34 AI_80 AJ mo b nn nr nt cc fb9 hb9 := mQ_bad hQ (by omega) rfl
                    refine z_iinc (lv' := [(2, .int (iI (n + 1))), (3, .int (iI mr)), (1, .int (iI v_8)), (0, .ref mo), (4, .int (iI l4)), (5, .int (iI l5)), (6, .int (iI l6)), (7, .int (iI l7))]) F dX7_selectTold_199 hl (k := 1) rfl (by decide) rfl (fun ls hl => ?_)
                    refine lv_aload_n F.1 F.2.1 dX7_selectTold_202 rfl (lv_at hl 3 rfl) ?_
                    refine va_ldcS F.1 F.2.1 F.2.2.2.1 (F.2.2.2.2.2.2.1 11 _ rfl).1 dX7_selectTold_203 ?_
                    refine g_calli (g_runV (As := [.ref (gSK g 11)]) (rest := []) (ci := 7) F hl.1 hH hS hz (c_X7_isWordf l g gh T 11 _ 11 b nn nr nt cc fb9 hb9 I_33 R J_34 AI_80 AJ AR mo hv hm hT (rfl : sTab[11]? = some _) (by decide) (by decide +kernel) h65 hbM hr7 (by omega) hn9 (by omega) hQ) (cwV 1 F.2.2.2.2.1 (good_up gT_X7_isWord) rfl rfl rfl hdX7_isWord ⟨Nat.le_of_ble_eq_true rfl, Nat.le_of_ble_eq_true rfl⟩) hm (by decide) rfl rfl rfl (Nat.le_of_ble_eq_true rfl) dX7_selectTold_205 ⟨Nat.zero_le _, Nat.zero_le _⟩) hS (fun v_90 I_84 R_85 J_86 AI_87 AJ_88 AR_89 H locs zv_90 hp_91 hH hS => ?_)
                    dsimp only at hp_91
                    obtain ⟨rfl, rfl, rfl, rfl, rfl, rfl, q_92, q_93⟩ := hp_91
                    refine lv_istore_n (lv' := [(3, .int (iI v_90)), (2, .int (iI (n + 1))), (1, .int (iI v_8)), (0, .ref mo), (4, .int (iI l4)), (5, .int (iI l5)), (6, .int (iI l6)), (7, .int (iI l7))]) F.1 F.2.1 dX7_selectTold_208 rfl hl (by decide) rfl (fun ls hl => ?_)
                    refine lv_iload_n F.1 F.2.1 dX7_selectTold_209 rfl (lv_at hl 0 rfl) ?_
                    refine z_if_eq (tgt := 217) F dX7_selectTold_210 (by decide) zv_90 (fun c_94 => ?_) (fun c_94 => ?_)
                    · have t_95 := tIz_0 q_93 (by omega)
                      refine z_goto (tgt := 15) F dX7_selectTold_217 (by decide) ?_
                      refine lv_iload_n F.1 F.2.1 dX7_selectTold_15 rfl (lv_at hl 0 rfl) ?_
                      refine z_if_eq (tgt := 220) F dX7_selectTold_16 (by decide) zv_90 (fun c_96 => ?_) (fun c_96 => ?_)
                      · have t_97 := tIz_0 q_93 (by omega)
                        refine lv_aload_n F.1 F.2.1 dX7_selectTold_220 rfl (lv_at hl 3 rfl) ?_
                        refine z_iconst F dX7_selectTold_221 ?_
                        refine lv_aload_n F.1 F.2.1 dX7_selectTold_222 rfl (lv_at hl 3 rfl) ?_
                        refine lv_iload_n F.1 F.2.1 dX7_selectTold_223 rfl (lv_at hl 2 rfl) ?_
                        refine g_calli (g_runV (As := [.int (iI v_8)]) (rest := [.int (iI 1), .ref mo]) (ci := 7) F hl.1 hH hS hz (c_X7_columns l g gh T I_33 R J_34 AI_80 AJ AR mo v_8 zv_8 hv hm hT (by omega)) (cwV 1 F.2.2.2.2.1 (good_up gT_X7_columns) rfl rfl rfl hdX7_columns ⟨Nat.le_of_ble_eq_true rfl, Nat.le_of_ble_eq_true rfl⟩) hm (by decide) rfl rfl rfl (Nat.le_of_ble_eq_true rfl) dX7_selectTold_224 ⟨Nat.zero_le _, Nat.zero_le _⟩) hS (fun v_105 I_99 R_100 J_101 AI_102 AJ_103 AR_104 H locs zv_105 hp_106 hH hS => ?_)
                        dsimp only at hp_106
                        obtain ⟨rfl, rfl, rfl, rfl, rfl, rfl, q_98⟩ := hp_106
                        have hcol : Hid ((I_33 mo 24).toInt = 0 → 1 ≤ v_105 ∧ v_105 ≤ 4) := fun h => by have q9 := mCol hv hm (z := v_8) (by omega) (by omega); omega
                        refine lv_iload_n F.1 F.2.1 dX7_selectTold_227 rfl (lv_at hl 2 rfl) ?_
                        refine z_iconst F dX7_selectTold_228 ?_
                        refine lv_iload_n F.1 F.2.1 dX7_selectTold_229 rfl (lv_at hl 1 rfl) ?_
                        refine g_callv (g_runV (As := [.int (iI 1), .int (iI v_105), .int (iI v_8), .int (iI ((-1))), .int (iI (n + 1))]) (rest := []) (ci := 7) F hl.1 hH hS hz (c_X7_header l g gh T M I_33 R J_34 AI_80 AJ AR mo 1 v_105 v_8 (-1) (n + 1) ⟨by decide, by decide⟩ zv_105 zv_8 ⟨by decide, by decide⟩ ⟨by omega, by omega⟩ hv hm hT (by omega) (by omega)) (cwV 5 F.2.2.2.2.1 (good_up gT_X7_header) rfl rfl rfl hdX7_header ⟨Nat.le_of_ble_eq_true rfl, Nat.le_of_ble_eq_true rfl⟩) hm (by decide) rfl rfl rfl (Nat.le_of_ble_eq_true rfl) dX7_selectTold_230 ⟨Nat.zero_le _, Nat.zero_le _⟩) hS (fun I_107 R_108 J_109 AI_110 AJ_111 AR_112 H locs hp_113 hH hS => ?_)
                        dsimp only at hp_113
                        obtain ⟨rfl, rfl, rfl, rfl, rfl, hv, hT, hhd⟩ := hp_113
                        replace hhd := hid hhd
                        have hQ : mQ gh I_33 J_34 AI_110 AJ mo b nn nr nt cc fb9 hb9 := mQ_bad hQ (by omega) rfl
                        exact g_vret F hr hlk hH hS hz ⟨rfl, rfl, rfl, hv, hT, pf, by first | (dsimp only; omega) | omega | rfl, by (try dsimp only); exact (fun hf => absurd hf (by omega)), by (try dsimp only); exact (fun hf => absurd hf (by omega)), by (try dsimp only); rw [hfin]; exact hQ, by (try dsimp only); rw [hfin]; exact pIc_n (by omega)⟩ dX7_selectTold_233
                      · exact absurd trivial (by omega)
                    · exact absurd (tIz_1 q_93 (by omega)).1 (by omega)
                have cut_136_116 : ∀ (l4 l5 : Int) (I_114 : gI) (J_115 : gJ) (AI_116 : gI) (H : Heap) (locs : List Loc) (ls : Array Slot), zr l4 → zr l5 → (mInv g gh R I_114 AI_116) → (AI_116 (gh 50 0) = T) → (qF mo I I_114) → (∃ (f9 : Int) (h9 : Nat), f9 ≠ 0 ∧ mQ gh I_114 J_115 AI_116 AJ mo b nn nr nt cc f9 h9 ∧ thn (f, h, 0) (fun t _ => sSel b nn nr nt cc t) = (f9, h9, 0)) → ((I_114 mo 20).toInt ≤ 936 ∧ (I mo 24).toInt ≤ (I_114 mo 24).toInt) → gH g I_114 R J_115 AI_116 AJ AR H → va_S (gA g) s.heap H locs → lv_has ls 8 [(3, .int (iI mr)), (2, .int (iI n)), (1, .int (iI v_8)), (0, .ref mo), (4, .int (iI l4)), (5, .int (iI l5))] → W p l e rmX7_selectToldf s m ([.ref mo] : List Value).toArray below meth c H locs 0 0 (MQ below (gQv g (fun w : gS => R = w.2.1 ∧ AJ = w.2.2.2.2.1 ∧ AR = w.2.2.2.2.2 ∧ (mInv g gh R (w.1) (w.2.2.2.1)) ∧ ((w.2.2.2.1) (gh 50 0) = T) ∧ (qF mo I (w.1)) ∧ (((w.1) mo 20).toInt ≤ 936 ∧ (I mo 24).toInt ≤ ((w.1) mo 24).toInt) ∧ (((w.1) mo 24).toInt = 0 → ((w.1) mo 21).toInt = 4 → ((w.1) mo 23).toInt = 59 → rowOK ((w.2.2.2.1) (gh 53 0)) M) ∧ (((w.1) mo 24).toInt = 0 → tI ((w.2.2.2.1) (gh 53 0)) (40 * M) = 1) ∧ (mQ gh (w.1) (w.2.2.1) (w.2.2.2.1) AJ mo b nn nr nt cc (thn (f, h, 0) (fun t _ => sSel b nn nr nt cc t)).1 (thn (f, h, 0) (fun t _ => sSel b nn nr nt cc t)).2.1) ∧ (pIc (thn (f, h, 0) (fun t _ => sSel b nn nr nt cc t)).1 (pK b nn (thn (f, h, 0) (fun t _ => sSel b nn nr nt cc t)).2.1) (tI ((w.2.2.2.1) (gh 53 0)) (40 * (nr : Int) + 1)) (thn (f, h, 0) (fun t _ => sSel b nn nr nt cc t)).2.2))) ([.ref mo] : List Value).toArray s 0 0 (gA g)) (F0 m 136 ls []) := by
                  intro l4 l5 I_114 J_115 AI_116 H locs ls zl4 zl5 hv hT pf hBad hx9 hH hS hl
                  (try clear b_31); (try clear uc_18); (try clear uc_16); (try clear uc_14); (try clear uc_5); (try clear uc_2); (try clear u_25_18); (try clear u_25_16); (try clear u_25_14); (try clear u_25_5); (try clear u_25_2); (try clear b_15); (try clear u_14_18); (try clear u_14_16); (try clear u_14_14); (try clear u_14_5); (try clear u_14_2); (try clear b_1)
                  have uc_2 : (I_114 mo 2).toInt = (I mo 2).toInt := by rw [pf 2 (by decide) (by decide) (by decide) (by decide) (by decide)]
                  have uc_5 : (I_114 mo 5).toInt = (I mo 5).toInt := by rw [pf 5 (by decide) (by decide) (by decide) (by decide) (by decide)]
                  have uc_14 : (I_114 mo 14).toInt = (I mo 14).toInt := by rw [pf 14 (by decide) (by decide) (by decide) (by decide) (by decide)]
                  have uc_16 : (I_114 mo 16).toInt = (I mo 16).toInt := by rw [pf 16 (by decide) (by decide) (by decide) (by decide) (by decide)]
                  have uc_18 : (I_114 mo 18).toInt = (I mo 18).toInt := by rw [pf 18 (by decide) (by decide) (by decide) (by decide) (by decide)]
                  obtain ⟨fb9, hb9, q9, hQ, hfin⟩ := hBad
                  have q9f := mQ_f hQ q9
                  have q9p := mQ_p hQ
                  refine lv_aload_n F.1 F.2.1 dX7_selectTold_136 rfl (lv_at hl 3 rfl) ?_
                  have b_118 := mJ hv hm
                  unfold mNum1 at b_118
                  refine g_callv (g_runV (As := []) (rest := []) (ci := 7) F hl.1 hH hS hz (c_X7_nextf l g gh T b nn (tNd b nn (tPs b nn hb9)) I_114 R J_115 AI_116 AJ AR mo hv hm hT (by omega) (mTp hv h65 hbM) hr7 (by omega) (by omega) (mQ_e0 hQ) tNd_le.1) (cwV 0 F.2.2.2.2.1 (good_up gT_X7_next) rfl rfl rfl hdX7_next ⟨Nat.le_of_ble_eq_true rfl, Nat.le_of_ble_eq_true rfl⟩) hm (by decide) rfl rfl rfl (Nat.le_of_ble_eq_true rfl) dX7_selectTold_137 ⟨Nat.zero_le _, Nat.zero_le _⟩) hS (fun I_119 R_120 J_121 AI_122 AJ_123 AR_124 H locs hp_125 hH hS => ?_)
                  dsimp only at hp_125
                  obtain ⟨rfl, rfl, rfl, rfl, hv, pfq, q_126, nx4, nxa, nxb⟩ := hp_125
                  have pf := qF_t pf pfq
                  have u_127_2 : (I_119 mo 2).toInt = (I mo 2).toInt := by rw [pf 2 (by decide) (by decide) (by decide) (by decide) (by decide)]
                  have u_127_5 : (I_119 mo 5).toInt = (I mo 5).toInt := by rw [pf 5 (by decide) (by decide) (by decide) (by decide) (by decide)]
                  have u_127_14 : (I_119 mo 14).toInt = (I mo 14).toInt := by rw [pf 14 (by decide) (by decide) (by decide) (by decide) (by decide)]
                  have u_127_16 : (I_119 mo 16).toInt = (I mo 16).toInt := by rw [pf 16 (by decide) (by decide) (by decide) (by decide) (by decide)]
                  have u_127_18 : (I_119 mo 18).toInt = (I mo 18).toInt := by rw [pf 18 (by decide) (by decide) (by decide) (by decide) (by decide)]
                  have hQ : mQ gh I_119 J_121 AI_116 AJ mo b nn nr nt cc fb9 hb9 := by have q9 := mQ_nx hQ nx4 nxa; rw [thn_b (by omega)] at q9; exact q9
                  clear nxa nxb
                  refine lv_aload_n F.1 F.2.1 dX7_selectTold_140 rfl (lv_at hl 3 rfl) ?_
                  refine g_getI (ci := 7) (k := 21) F hH rfl (by decide) iX7 hm (by decide) rfl k94 dX7_selectTold_141 ?_
                  have b_128 := mJ hv hm
                  unfold mNum1 at b_128
                  refine z_iconst F dX7_selectTold_144 ?_
                  refine z_icmp_ne (tgt := 152) F dX7_selectTold_145 (by decide) (zr_t _) ⟨by decide, by decide⟩ (fun c_129 => ?_) (fun c_129 => ?_)
                  · refine z_iconst F dX7_selectTold_152 ?_
                    refine lv_istore (lv' := [(6, .int (iI 0)), (3, .int (iI mr)), (2, .int (iI n)), (1, .int (iI v_8)), (0, .ref mo), (4, .int (iI l4)), (5, .int (iI l5))]) F.1 F.2.1 dX7_selectTold_153 hl (by decide) rfl (fun ls hl => ?_)
                    refine lv_iload F.1 F.2.1 dX7_selectTold_155 (lv_at hl 0 rfl) ?_
                    refine z_if_eq (tgt := 172) F dX7_selectTold_157 (by decide) ⟨by decide, by decide⟩ (fun c_130 => ?_) (fun c_130 => ?_)
                    · refine lv_aload_n F.1 F.2.1 dX7_selectTold_172 rfl (lv_at hl 4 rfl) ?_
                      refine g_calli (g_runV (As := []) (rest := []) (ci := 7) F hl.1 hH hS hz (c_X7_numberToldf l g gh T b nn nr nt cc fb9 hb9 I_119 R J_121 AI_116 AJ AR mo hv hm hT (by omega) h65 hbM hr7 (by omega) hn9 (by omega) hQ) (cwV 0 F.2.2.2.2.1 (good_up gT_X7_numberTold) rfl rfl rfl hdX7_numberTold ⟨Nat.le_of_ble_eq_true rfl, Nat.le_of_ble_eq_true rfl⟩) hm (by decide) rfl rfl rfl (Nat.le_of_ble_eq_true rfl) dX7_selectTold_173 ⟨Nat.zero_le _, Nat.zero_le _⟩) hS (fun v_137 I_131 R_132 J_133 AI_134 AJ_135 AR_136 H locs zv_137 hp_138 hH hS => ?_)
                      dsimp only at hp_138
                      obtain ⟨r_139, er_139⟩ : ∃ qQ : pR, qQ = thn (fb9, hb9, 0) (fun t _ => sNum b nn t) := ⟨_, rfl⟩
                      rw [← er_139] at hp_138
                      obtain ⟨rfl, rfl, rfl, rfl, hv, pfq, q_140, q_141, hQ, q_142⟩ := hp_138
                      have pf := qF_t pf pfq
                      have u_143_2 : (I_131 mo 2).toInt = (I mo 2).toInt := by rw [pf 2 (by decide) (by decide) (by decide) (by decide) (by decide)]
                      have u_143_5 : (I_131 mo 5).toInt = (I mo 5).toInt := by rw [pf 5 (by decide) (by decide) (by decide) (by decide) (by decide)]
                      have u_143_14 : (I_131 mo 14).toInt = (I mo 14).toInt := by rw [pf 14 (by decide) (by decide) (by decide) (by decide) (by decide)]
                      have u_143_16 : (I_131 mo 16).toInt = (I mo 16).toInt := by rw [pf 16 (by decide) (by decide) (by decide) (by decide) (by decide)]
                      have u_143_18 : (I_131 mo 18).toInt = (I mo 18).toInt := by rw [pf 18 (by decide) (by decide) (by decide) (by decide) (by decide)]
                      rw [thn_b (by omega)] at er_139
                      have hQ : mQ gh I_131 J_133 AI_116 AJ mo b nn nr nt cc fb9 hb9 := by rw [er_139] at hQ; exact hQ
                      replace q_141 := hid q_141
                      refine lv_istore (lv' := [(7, .int (iI v_137)), (6, .int (iI 0)), (3, .int (iI mr)), (2, .int (iI n)), (1, .int (iI v_8)), (0, .ref mo), (4, .int (iI l4)), (5, .int (iI l5))]) F.1 F.2.1 dX7_selectTold_176 hl (by decide) rfl (fun ls hl => ?_)
                      exact cut_178_35 l4 l5 0 v_137 I_131 J_133 AI_116 H locs ls zl4 zl5 ⟨by decide, by decide⟩ zv_137 hv hT pf ⟨_, _, by omega, hQ, hfin⟩ (by omega) hH hS (lv_sub hl [2, 3, 4, 5, 6, 7, 1, 0] rfl)
                    · exact absurd trivial (by omega)
                  · refine z_iconst F dX7_selectTold_148 ?_
                    refine z_goto (tgt := 153) F dX7_selectTold_149 (by decide) ?_
                    refine lv_istore (lv' := [(6, .int (iI 1)), (3, .int (iI mr)), (2, .int (iI n)), (1, .int (iI v_8)), (0, .ref mo), (4, .int (iI l4)), (5, .int (iI l5))]) F.1 F.2.1 dX7_selectTold_153 hl (by decide) rfl (fun ls hl => ?_)
                    refine lv_iload F.1 F.2.1 dX7_selectTold_155 (lv_at hl 0 rfl) ?_
                    refine z_if_eq (tgt := 172) F dX7_selectTold_157 (by decide) ⟨by decide, by decide⟩ (fun c_144 => ?_) (fun c_144 => ?_)
                    · exact absurd trivial (by omega)
                    · refine lv_aload_n F.1 F.2.1 dX7_selectTold_160 rfl (lv_at hl 4 rfl) ?_
                      refine lv_aload_n F.1 F.2.1 dX7_selectTold_161 rfl (lv_at hl 4 rfl) ?_
                      refine lv_iload_n F.1 F.2.1 dX7_selectTold_162 rfl (lv_at hl 3 rfl) ?_
                      refine g_calli (g_runV (As := [.int (iI v_8)]) (rest := [.ref mo]) (ci := 7) F hl.1 hH hS hz (c_X7_columns l g gh T I_119 R J_121 AI_116 AJ AR mo v_8 zv_8 hv hm hT (by omega)) (cwV 1 F.2.2.2.2.1 (good_up gT_X7_columns) rfl rfl rfl hdX7_columns ⟨Nat.le_of_ble_eq_true rfl, Nat.le_of_ble_eq_true rfl⟩) hm (by decide) rfl rfl rfl (Nat.le_of_ble_eq_true rfl) dX7_selectTold_163 ⟨Nat.zero_le _, Nat.zero_le _⟩) hS (fun v_152 I_146 R_147 J_148 AI_149 AJ_150 AR_151 H locs zv_152 hp_153 hH hS => ?_)
                      dsimp only at hp_153
                      obtain ⟨rfl, rfl, rfl, rfl, rfl, rfl, q_145⟩ := hp_153
                      refine g_calli (g_runV (As := [.int (iI v_152)]) (rest := []) (ci := 7) F hl.1 hH hS hz (c_X7_columnf l g gh T b nn nr nt cc fb9 hb9 I_119 R J_121 AI_116 AJ AR mo v_152 zv_152 hv hm hT (by omega) h65 hbM hr7 (by omega) hn9 (by omega) hQ) (cwV 1 F.2.2.2.2.1 (good_up gT_X7_column) rfl rfl rfl hdX7_column ⟨Nat.le_of_ble_eq_true rfl, Nat.le_of_ble_eq_true rfl⟩) hm (by decide) rfl rfl rfl (Nat.le_of_ble_eq_true rfl) dX7_selectTold_166 ⟨Nat.zero_le _, Nat.zero_le _⟩) hS (fun v_160 I_154 R_155 J_156 AI_157 AJ_158 AR_159 H locs zv_160 hp_161 hH hS => ?_)
                      dsimp only at hp_161
                      obtain ⟨r_162, er_162⟩ : ∃ qQ : pR, qQ = thn (fb9, hb9, 0) (fun t _ => sCol b nn v_152 t) := ⟨_, rfl⟩
                      rw [← er_162] at hp_161
                      obtain ⟨rfl, rfl, rfl, rfl, hv, pfq, q_163, q_164, hQ, q_165⟩ := hp_161
                      have pf := qF_t pf pfq
                      have u_166_2 : (I_154 mo 2).toInt = (I mo 2).toInt := by rw [pf 2 (by decide) (by decide) (by decide) (by decide) (by decide)]
                      have u_166_5 : (I_154 mo 5).toInt = (I mo 5).toInt := by rw [pf 5 (by decide) (by decide) (by decide) (by decide) (by decide)]
                      have u_166_14 : (I_154 mo 14).toInt = (I mo 14).toInt := by rw [pf 14 (by decide) (by decide) (by decide) (by decide) (by decide)]
                      have u_166_16 : (I_154 mo 16).toInt = (I mo 16).toInt := by rw [pf 16 (by decide) (by decide) (by decide) (by decide) (by decide)]
                      have u_166_18 : (I_154 mo 18).toInt = (I mo 18).toInt := by rw [pf 18 (by decide) (by decide) (by decide) (by decide) (by decide)]
                      rw [thn_b (by omega)] at er_162
                      have hQ : mQ gh I_154 J_156 AI_116 AJ mo b nn nr nt cc fb9 hb9 := by rw [er_162] at hQ; exact hQ
                      replace q_164 := hid q_164
                      refine z_goto (tgt := 176) F dX7_selectTold_169 (by decide) ?_
                      refine lv_istore (lv' := [(7, .int (iI v_160)), (6, .int (iI 1)), (3, .int (iI mr)), (2, .int (iI n)), (1, .int (iI v_8)), (0, .ref mo), (4, .int (iI l4)), (5, .int (iI l5))]) F.1 F.2.1 dX7_selectTold_176 hl (by decide) rfl (fun ls hl => ?_)
                      exact cut_178_35 l4 l5 1 v_160 I_154 J_156 AI_116 H locs ls zl4 zl5 ⟨by decide, by decide⟩ zv_160 hv hT pf ⟨_, _, by omega, hQ, hfin⟩ (by omega) hH hS (lv_sub hl [2, 3, 4, 5, 6, 7, 1, 0] rfl)
                have cut_84_169 : ∀ (l4 : Int) (I_167 : gI) (J_168 : gJ) (AI_169 : gI) (H : Heap) (locs : List Loc) (ls : Array Slot), zr l4 → (mInv g gh R I_167 AI_169) → (AI_169 (gh 50 0) = T) → (qF mo I I_167) → (∃ (f9 : Int) (h9 : Nat), f9 ≠ 0 ∧ mQ gh I_167 J_168 AI_169 AJ mo b nn nr nt cc f9 h9 ∧ thn (f, h, 0) (fun t _ => sSel b nn nr nt cc t) = (f9, h9, 0)) → ((I_167 mo 20).toInt ≤ 936 ∧ (I mo 24).toInt ≤ (I_167 mo 24).toInt) → gH g I_167 R J_168 AI_169 AJ AR H → va_S (gA g) s.heap H locs → lv_has ls 8 [(3, .int (iI mr)), (2, .int (iI n)), (1, .int (iI v_8)), (0, .ref mo), (4, .int (iI l4))] → W p l e rmX7_selectToldf s m ([.ref mo] : List Value).toArray below meth c H locs 0 0 (MQ below (gQv g (fun w : gS => R = w.2.1 ∧ AJ = w.2.2.2.2.1 ∧ AR = w.2.2.2.2.2 ∧ (mInv g gh R (w.1) (w.2.2.2.1)) ∧ ((w.2.2.2.1) (gh 50 0) = T) ∧ (qF mo I (w.1)) ∧ (((w.1) mo 20).toInt ≤ 936 ∧ (I mo 24).toInt ≤ ((w.1) mo 24).toInt) ∧ (((w.1) mo 24).toInt = 0 → ((w.1) mo 21).toInt = 4 → ((w.1) mo 23).toInt = 59 → rowOK ((w.2.2.2.1) (gh 53 0)) M) ∧ (((w.1) mo 24).toInt = 0 → tI ((w.2.2.2.1) (gh 53 0)) (40 * M) = 1) ∧ (mQ gh (w.1) (w.2.2.1) (w.2.2.2.1) AJ mo b nn nr nt cc (thn (f, h, 0) (fun t _ => sSel b nn nr nt cc t)).1 (thn (f, h, 0) (fun t _ => sSel b nn nr nt cc t)).2.1) ∧ (pIc (thn (f, h, 0) (fun t _ => sSel b nn nr nt cc t)).1 (pK b nn (thn (f, h, 0) (fun t _ => sSel b nn nr nt cc t)).2.1) (tI ((w.2.2.2.1) (gh 53 0)) (40 * (nr : Int) + 1)) (thn (f, h, 0) (fun t _ => sSel b nn nr nt cc t)).2.2))) ([.ref mo] : List Value).toArray s 0 0 (gA g)) (F0 m 84 ls []) := by
                  intro l4 I_167 J_168 AI_169 H locs ls zl4 hv hT pf hBad hx9 hH hS hl
                  (try clear b_31); (try clear uc_18); (try clear uc_16); (try clear uc_14); (try clear uc_5); (try clear uc_2); (try clear u_25_18); (try clear u_25_16); (try clear u_25_14); (try clear u_25_5); (try clear u_25_2); (try clear b_15); (try clear u_14_18); (try clear u_14_16); (try clear u_14_14); (try clear u_14_5); (try clear u_14_2); (try clear b_1)
                  have uc_2 : (I_167 mo 2).toInt = (I mo 2).toInt := by rw [pf 2 (by decide) (by decide) (by decide) (by decide) (by decide)]
                  have uc_5 : (I_167 mo 5).toInt = (I mo 5).toInt := by rw [pf 5 (by decide) (by decide) (by decide) (by decide) (by decide)]
                  have uc_14 : (I_167 mo 14).toInt = (I mo 14).toInt := by rw [pf 14 (by decide) (by decide) (by decide) (by decide) (by decide)]
                  have uc_16 : (I_167 mo 16).toInt = (I mo 16).toInt := by rw [pf 16 (by decide) (by decide) (by decide) (by decide) (by decide)]
                  have uc_18 : (I_167 mo 18).toInt = (I mo 18).toInt := by rw [pf 18 (by decide) (by decide) (by decide) (by decide) (by decide)]
                  obtain ⟨fb9, hb9, q9, hQ, hfin⟩ := hBad
                  have q9f := mQ_f hQ q9
                  have q9p := mQ_p hQ
                  refine lv_aload_n F.1 F.2.1 dX7_selectTold_84 rfl (lv_at hl 3 rfl) ?_
                  refine z_bipush F dX7_selectTold_85 (by decide) ?_
                  have b_171 := mJ hv hm
                  unfold mNum1 at b_171
                  refine g_calli (g_runV (As := [.int (iI 61)]) (rest := []) (ci := 7) F hl.1 hH hS hz (c_X7_isSignf l g gh T b nn nr nt cc fb9 hb9 I_167 R J_168 AI_169 AJ AR mo 61 ⟨by decide, by decide⟩ hv hm hT h65 hbM hr7 (by omega) hn9 (by omega) (by omega) hQ) (cwV 1 F.2.2.2.2.1 (good_up gT_X7_isSign) rfl rfl rfl hdX7_isSign ⟨Nat.le_of_ble_eq_true rfl, Nat.le_of_ble_eq_true rfl⟩) hm (by decide) rfl rfl rfl (Nat.le_of_ble_eq_true rfl) dX7_selectTold_87 ⟨Nat.zero_le _, Nat.zero_le _⟩) hS (fun v_178 I_172 R_173 J_174 AI_175 AJ_176 AR_177 H locs zv_178 hp_179 hH hS => ?_)
                  dsimp only at hp_179
                  obtain ⟨rfl, rfl, rfl, rfl, rfl, rfl, q_180, q_181⟩ := hp_179
                  replace q_180 := q_180.1
                  refine z_if_eq (tgt := 97) F dX7_selectTold_90 (by decide) zv_178 (fun c_182 => ?_) (fun c_182 => ?_)
                  · have t_183 := tIz_0 q_181 (by omega)
                    refine lv_aload_n F.1 F.2.1 dX7_selectTold_97 rfl (lv_at hl 3 rfl) ?_
                    refine z_bipush F dX7_selectTold_98 (by decide) ?_
                    refine g_calli (g_runV (As := [.int (iI 60)]) (rest := []) (ci := 7) F hl.1 hH hS hz (c_X7_isSignf l g gh T b nn nr nt cc fb9 hb9 I_167 R J_168 AI_169 AJ AR mo 60 ⟨by decide, by decide⟩ hv hm hT h65 hbM hr7 (by omega) hn9 (by omega) (by omega) hQ) (cwV 1 F.2.2.2.2.1 (good_up gT_X7_isSign) rfl rfl rfl hdX7_isSign ⟨Nat.le_of_ble_eq_true rfl, Nat.le_of_ble_eq_true rfl⟩) hm (by decide) rfl rfl rfl (Nat.le_of_ble_eq_true rfl) dX7_selectTold_100 ⟨Nat.zero_le _, Nat.zero_le _⟩) hS (fun v_190 I_184 R_185 J_186 AI_187 AJ_188 AR_189 H locs zv_190 hp_191 hH hS => ?_)
                    dsimp only at hp_191
                    obtain ⟨rfl, rfl, rfl, rfl, rfl, rfl, q_192, q_193⟩ := hp_191
                    replace q_192 := q_192.1
                    refine z_if_eq (tgt := 110) F dX7_selectTold_103 (by decide) zv_190 (fun c_194 => ?_) (fun c_194 => ?_)
                    · have t_195 := tIz_0 q_193 (by omega)
                      refine lv_aload_n F.1 F.2.1 dX7_selectTold_110 rfl (lv_at hl 3 rfl) ?_
                      refine z_bipush F dX7_selectTold_111 (by decide) ?_
                      refine g_calli (g_runV (As := [.int (iI 62)]) (rest := []) (ci := 7) F hl.1 hH hS hz (c_X7_isSignf l g gh T b nn nr nt cc fb9 hb9 I_167 R J_168 AI_169 AJ AR mo 62 ⟨by decide, by decide⟩ hv hm hT h65 hbM hr7 (by omega) hn9 (by omega) (by omega) hQ) (cwV 1 F.2.2.2.2.1 (good_up gT_X7_isSign) rfl rfl rfl hdX7_isSign ⟨Nat.le_of_ble_eq_true rfl, Nat.le_of_ble_eq_true rfl⟩) hm (by decide) rfl rfl rfl (Nat.le_of_ble_eq_true rfl) dX7_selectTold_113 ⟨Nat.zero_le _, Nat.zero_le _⟩) hS (fun v_202 I_196 R_197 J_198 AI_199 AJ_200 AR_201 H locs zv_202 hp_203 hH hS => ?_)
                      dsimp only at hp_203
                      obtain ⟨rfl, rfl, rfl, rfl, rfl, rfl, q_204, q_205⟩ := hp_203
                      replace q_204 := q_204.1
                      refine z_if_eq (tgt := 123) F dX7_selectTold_116 (by decide) zv_202 (fun c_206 => ?_) (fun c_206 => ?_)
                      · have t_207 := tIz_0 q_205 (by omega)
                        refine z_iconst F dX7_selectTold_123 ?_
                        refine lv_istore (lv' := [(5, .int (iI ((-1)))), (3, .int (iI mr)), (2, .int (iI n)), (1, .int (iI v_8)), (0, .ref mo), (4, .int (iI l4))]) F.1 F.2.1 dX7_selectTold_124 hl (by decide) rfl (fun ls hl => ?_)
                        refine lv_iload F.1 F.2.1 dX7_selectTold_126 (lv_at hl 0 rfl) ?_
                        refine z_if_ge (tgt := 136) F dX7_selectTold_128 (by decide) ⟨by decide, by decide⟩ (fun c_208 => ?_) (fun c_208 => ?_)
                        · exact absurd trivial (by omega)
                        · refine lv_aload_n F.1 F.2.1 dX7_selectTold_131 rfl (lv_at hl 4 rfl) ?_
                          refine z_iconst F dX7_selectTold_132 ?_
                          refine g_callv (g_runV (As := [.int (iI 1)]) (rest := []) (ci := 7) F hl.1 hH hS hz (c_X7_wrongf l g gh T b nn nr nt cc fb9 hb9 I_167 R J_168 AI_169 AJ AR mo 1 ⟨by decide, by decide⟩ hv hm hT (by omega) h65 hbM hr7 (by omega) hn9 (by omega) hQ) (cwV 1 F.2.2.2.2.1 (good_up gT_X7_wrong) rfl rfl rfl hdX7_wrong ⟨Nat.le_of_ble_eq_true rfl, Nat.le_of_ble_eq_true rfl⟩) hm (by decide) rfl rfl rfl (Nat.le_of_ble_eq_true rfl) dX7_selectTold_133 ⟨Nat.zero_le _, Nat.zero_le _⟩) hS (fun I_209 R_210 J_211 AI_212 AJ_213 AR_214 H locs hp_215 hH hS => ?_)
                          dsimp only at hp_215
                          obtain ⟨r_216, er_216⟩ : ∃ qQ : pR, qQ = thn (fb9, hb9, 0) (fun t _ => (1, t, 0)) := ⟨_, rfl⟩
                          rw [← er_216] at hp_215
                          obtain ⟨rfl, rfl, rfl, rfl, rfl, hv, pfq, q_217, hQ⟩ := hp_215
                          have pf := qF_t pf pfq
                          have u_218_2 : (I_209 mo 2).toInt = (I mo 2).toInt := by rw [pf 2 (by decide) (by decide) (by decide) (by decide) (by decide)]
                          have u_218_5 : (I_209 mo 5).toInt = (I mo 5).toInt := by rw [pf 5 (by decide) (by decide) (by decide) (by decide) (by decide)]
                          have u_218_14 : (I_209 mo 14).toInt = (I mo 14).toInt := by rw [pf 14 (by decide) (by decide) (by decide) (by decide) (by decide)]
                          have u_218_16 : (I_209 mo 16).toInt = (I mo 16).toInt := by rw [pf 16 (by decide) (by decide) (by decide) (by decide) (by decide)]
                          have u_218_18 : (I_209 mo 18).toInt = (I mo 18).toInt := by rw [pf 18 (by decide) (by decide) (by decide) (by decide) (by decide)]
                          rw [thn_b (by omega)] at er_216
                          have hQ : mQ gh I_209 J_168 AI_169 AJ mo b nn nr nt cc fb9 hb9 := by rw [er_216] at hQ; exact hQ
                          exact cut_136_116 l4 (-1) I_209 J_168 AI_169 H locs ls zl4 ⟨by decide, by decide⟩ hv hT pf ⟨_, _, by omega, hQ, hfin⟩ (by omega) hH hS (lv_sub hl [1, 2, 3, 4, 5, 0] rfl)
                      · exact absurd (tIz_1 q_205 (by omega)).1 (by omega)
                    · exact absurd (tIz_1 q_193 (by omega)).1 (by omega)
                  · exact absurd (tIz_1 q_181 (by omega)).1 (by omega)
                refine lv_iload_n F.1 F.2.1 dX7_selectTold_26 rfl (lv_at hl 1 rfl) ?_
                refine z_bipush F dX7_selectTold_27 (by decide) ?_
                refine z_icmp_ne (tgt := 73) F dX7_selectTold_29 (by decide) zn ⟨by decide, by decide⟩ (fun c_219 => ?_) (fun c_219 => ?_)
                · refine lv_aload_n F.1 F.2.1 dX7_selectTold_73 rfl (lv_at hl 3 rfl) ?_
                  refine lv_aload_n F.1 F.2.1 dX7_selectTold_74 rfl (lv_at hl 3 rfl) ?_
                  refine lv_iload_n F.1 F.2.1 dX7_selectTold_75 rfl (lv_at hl 2 rfl) ?_
                  refine g_calli (g_runV (As := [.int (iI v_8)]) (rest := [.ref mo]) (ci := 7) F hl.1 hH hS hz (c_X7_columns l g gh T I_26 R J_27 AI_28 AJ AR mo v_8 zv_8 hv hm hT (by omega)) (cwV 1 F.2.2.2.2.1 (good_up gT_X7_columns) rfl rfl rfl hdX7_columns ⟨Nat.le_of_ble_eq_true rfl, Nat.le_of_ble_eq_true rfl⟩) hm (by decide) rfl rfl rfl (Nat.le_of_ble_eq_true rfl) dX7_selectTold_76 ⟨Nat.zero_le _, Nat.zero_le _⟩) hS (fun v_227 I_221 R_222 J_223 AI_224 AJ_225 AR_226 H locs zv_227 hp_228 hH hS => ?_)
                  dsimp only at hp_228
                  obtain ⟨rfl, rfl, rfl, rfl, rfl, rfl, q_220⟩ := hp_228
                  have cvv_227 : v_227 = cF b nn nr nt cc h := q_220.trans ((mQ_c hQ rfl vlr_10.1 vlr_10.2.1).trans vlr_10.2.2)
                  refine g_calli (g_runV (As := [.int (iI v_227)]) (rest := []) (ci := 7) F hl.1 hH hS hz (c_X7_columnf l g gh T b nn nr nt cc 0 hc I_26 R J_27 AI_28 AJ AR mo v_227 zv_227 hv hm hT (by omega) h65 hbM hr7 (by omega) hn9 (by omega) hQ) (cwV 1 F.2.2.2.2.1 (good_up gT_X7_column) rfl rfl rfl hdX7_column ⟨Nat.le_of_ble_eq_true rfl, Nat.le_of_ble_eq_true rfl⟩) hm (by decide) rfl rfl rfl (Nat.le_of_ble_eq_true rfl) dX7_selectTold_79 ⟨Nat.zero_le _, Nat.zero_le _⟩) hS (fun v_235 I_229 R_230 J_231 AI_232 AJ_233 AR_234 H locs zv_235 hp_236 hH hS => ?_)
                  dsimp only at hp_236
                  rw [show v_227 = cF b nn nr nt cc h by omega] at hp_236
                  obtain ⟨r_237, er_237⟩ : ∃ qQ : pR, qQ = thn (0, hc, 0) (fun t _ => sCol b nn (cF b nn nr nt cc h) t) := ⟨_, rfl⟩
                  rw [← er_237] at hp_236
                  obtain ⟨rfl, rfl, rfl, rfl, hv, pfq, q_238, q_239, hQ, q_240⟩ := hp_236
                  have pf := qF_t pf pfq
                  have u_241_2 : (I_229 mo 2).toInt = (I mo 2).toInt := by rw [pf 2 (by decide) (by decide) (by decide) (by decide) (by decide)]
                  have u_241_5 : (I_229 mo 5).toInt = (I mo 5).toInt := by rw [pf 5 (by decide) (by decide) (by decide) (by decide) (by decide)]
                  have u_241_14 : (I_229 mo 14).toInt = (I mo 14).toInt := by rw [pf 14 (by decide) (by decide) (by decide) (by decide) (by decide)]
                  have u_241_16 : (I_229 mo 16).toInt = (I mo 16).toInt := by rw [pf 16 (by decide) (by decide) (by decide) (by decide) (by decide)]
                  have u_241_18 : (I_229 mo 18).toInt = (I mo 18).toInt := by rw [pf 18 (by decide) (by decide) (by decide) (by decide) (by decide)]
                  have er_237 : r_237 = sCol b nn (cF b nn nr nt cc h) hc := er_237
                  have sr_237 := er_237
                  rcases sCol_c er_237 with ⟨er_237, pr_237⟩ | ⟨er_237, pr_237⟩
                  · have hQ : mQ gh I_229 J_231 AI_28 AJ mo b nn nr nt cc 0 (hc + 1) := by rw [er_237] at hQ; exact hQ
                    have sr_237 : sCol b nn (cF b nn nr nt cc h) hc = (0, hc + 1, pV b nn hc) := sr_237.symm.trans er_237
                    have vlr_237 := q_240 (by rw [er_237])
                    try rw [er_237] at vlr_237
                    try dsimp only at vlr_237
                    have kq_239 := q_239 (mQ_0 hQ rfl)
                    replace q_239 := hid q_239
                    obtain ⟨f1, ef1⟩ : ∃ q, q = (I_229 mo 24).toInt := ⟨_, rfl⟩
                    have hc1 : Hid (f1 = 0 → 0 ≤ v_235 ∧ v_235 ≤ 3) := fun h9 => by omega
                    refine lv_istore (lv' := [(4, .int (iI v_235)), (3, .int (iI mr)), (2, .int (iI n)), (1, .int (iI v_8)), (0, .ref mo)]) F.1 F.2.1 dX7_selectTold_82 hl (by decide) rfl (fun ls hl => ?_)
                    have cut_124_241 : ∀ (sg : Int) (H : Heap) (locs : List Loc) (ls : Array Slot), zr sg → (-1 ≤ sg ∧ sg ≤ 2) → (pSg sg (pSi b nn (hc + 1))) → gH g I_229 R J_231 AI_28 AJ AR H → va_S (gA g) s.heap H locs → lv_has ls 8 [(4, .int (iI v_235)), (3, .int (iI mr)), (2, .int (iI n)), (1, .int (iI v_8)), (0, .ref mo)] → W p l e rmX7_selectToldf s m ([.ref mo] : List Value).toArray below meth c H locs 0 0 (MQ below (gQv g (fun w : gS => R = w.2.1 ∧ AJ = w.2.2.2.2.1 ∧ AR = w.2.2.2.2.2 ∧ (mInv g gh R (w.1) (w.2.2.2.1)) ∧ ((w.2.2.2.1) (gh 50 0) = T) ∧ (qF mo I (w.1)) ∧ (((w.1) mo 20).toInt ≤ 936 ∧ (I mo 24).toInt ≤ ((w.1) mo 24).toInt) ∧ (((w.1) mo 24).toInt = 0 → ((w.1) mo 21).toInt = 4 → ((w.1) mo 23).toInt = 59 → rowOK ((w.2.2.2.1) (gh 53 0)) M) ∧ (((w.1) mo 24).toInt = 0 → tI ((w.2.2.2.1) (gh 53 0)) (40 * M) = 1) ∧ (mQ gh (w.1) (w.2.2.1) (w.2.2.2.1) AJ mo b nn nr nt cc (thn (f, h, 0) (fun t _ => sSel b nn nr nt cc t)).1 (thn (f, h, 0) (fun t _ => sSel b nn nr nt cc t)).2.1) ∧ (pIc (thn (f, h, 0) (fun t _ => sSel b nn nr nt cc t)).1 (pK b nn (thn (f, h, 0) (fun t _ => sSel b nn nr nt cc t)).2.1) (tI ((w.2.2.2.1) (gh 53 0)) (40 * (nr : Int) + 1)) (thn (f, h, 0) (fun t _ => sSel b nn nr nt cc t)).2.2))) ([.ref mo] : List Value).toArray s 0 0 (gA g)) (F0 m 124 ls [.int (iI sg)]) := by
                      intro sg H locs ls zsg hsg hsg2 hH hS hl
                      refine lv_istore (lv' := [(5, .int (iI sg)), (4, .int (iI v_235)), (3, .int (iI mr)), (2, .int (iI n)), (1, .int (iI v_8)), (0, .ref mo)]) F.1 F.2.1 dX7_selectTold_124 hl (by decide) rfl (fun ls hl => ?_)
                      refine lv_iload F.1 F.2.1 dX7_selectTold_126 (lv_at hl 0 rfl) ?_
                      refine z_if_ge (tgt := 136) F dX7_selectTold_128 (by decide) zsg (fun c_243 => ?_) (fun c_243 => ?_)
                      · have ysg := pSg_y hsg2 (by omega)
                        refine lv_aload_n F.1 F.2.1 dX7_selectTold_136 rfl (lv_at hl 5 rfl) ?_
                        have b_244 := mJ hv hm
                        unfold mNum1 at b_244
                        refine g_callv (g_runV (As := []) (rest := []) (ci := 7) F hl.1 hH hS hz (c_X7_nextf l g gh T b nn (tNd b nn (tPs b nn (hc + 1))) I_229 R J_231 AI_28 AJ AR mo hv hm hT (by omega) (mTp hv h65 hbM) hr7 (by omega) (by omega) (mQ_e0 hQ) tNd_le.1) (cwV 0 F.2.2.2.2.1 (good_up gT_X7_next) rfl rfl rfl hdX7_next ⟨Nat.le_of_ble_eq_true rfl, Nat.le_of_ble_eq_true rfl⟩) hm (by decide) rfl rfl rfl (Nat.le_of_ble_eq_true rfl) dX7_selectTold_137 ⟨Nat.zero_le _, Nat.zero_le _⟩) hS (fun I_245 R_246 J_247 AI_248 AJ_249 AR_250 H locs hp_251 hH hS => ?_)
                        dsimp only at hp_251
                        obtain ⟨rfl, rfl, rfl, rfl, hv, pfq, q_252, nx4, nxa, nxb⟩ := hp_251
                        have pf := qF_t pf pfq
                        have u_253_2 : (I_245 mo 2).toInt = (I mo 2).toInt := by rw [pf 2 (by decide) (by decide) (by decide) (by decide) (by decide)]
                        have u_253_5 : (I_245 mo 5).toInt = (I mo 5).toInt := by rw [pf 5 (by decide) (by decide) (by decide) (by decide) (by decide)]
                        have u_253_14 : (I_245 mo 14).toInt = (I mo 14).toInt := by rw [pf 14 (by decide) (by decide) (by decide) (by decide) (by decide)]
                        have u_253_16 : (I_245 mo 16).toInt = (I mo 16).toInt := by rw [pf 16 (by decide) (by decide) (by decide) (by decide) (by decide)]
                        have u_253_18 : (I_245 mo 18).toInt = (I mo 18).toInt := by rw [pf 18 (by decide) (by decide) (by decide) (by decide) (by decide)]
                        have hQ : mQ gh I_245 J_247 AI_28 AJ mo b nn nr nt cc 0 (hc + 2) := mQ_nx hQ nx4 nxa
                        clear nxa nxb
                        refine lv_aload_n F.1 F.2.1 dX7_selectTold_140 rfl (lv_at hl 5 rfl) ?_
                        refine g_getI (ci := 7) (k := 21) F hH rfl (by decide) iX7 hm (by decide) rfl k94 dX7_selectTold_141 ?_
                        have b_254 := mJ hv hm
                        unfold mNum1 at b_254
                        refine z_iconst F dX7_selectTold_144 ?_
                        refine z_icmp_ne (tgt := 152) F dX7_selectTold_145 (by decide) (zr_t _) ⟨by decide, by decide⟩ (fun c_255 => ?_) (fun c_255 => ?_)
                        · have t_256 : pK b nn (hc + 2) ≠ 2 := mQ_kn hQ rfl (c := 1) rfl (by omega)
                          refine z_iconst F dX7_selectTold_152 ?_
                          refine lv_istore (lv' := [(6, .int (iI 0)), (5, .int (iI sg)), (4, .int (iI v_235)), (3, .int (iI mr)), (2, .int (iI n)), (1, .int (iI v_8)), (0, .ref mo)]) F.1 F.2.1 dX7_selectTold_153 hl (by decide) rfl (fun ls hl => ?_)
                          have cut_176_258 : ∀ (v7 : Int) (I_257 : gI) (J_258 : gJ) (H : Heap) (locs : List Loc) (ls : Array Slot), zr v7 → (mInv g gh R I_257 AI_28) → (qF mo I I_257) → ((I_257 mo 20).toInt ≤ 936 ∧ f1 ≤ (I_257 mo 24).toInt ∧ (0 = 0 ∨ 0 ≤ v7 ∧ v7 ≤ 3)) → (Hid (pK b nn (hc + 2) = 4 ∨ pCf b nn (cF b nn nr nt cc h) (hc + 2) = 0)) → (mQ gh I_257 J_258 AI_28 AJ mo b nn nr nt cc 0 (hc + 3)) → gH g I_257 R J_258 AI_28 AJ AR H → va_S (gA g) s.heap H locs → lv_has ls 8 [(6, .int (iI 0)), (5, .int (iI sg)), (4, .int (iI v_235)), (3, .int (iI mr)), (2, .int (iI n)), (1, .int (iI v_8)), (0, .ref mo)] → W p l e rmX7_selectToldf s m ([.ref mo] : List Value).toArray below meth c H locs 0 0 (MQ below (gQv g (fun w : gS => R = w.2.1 ∧ AJ = w.2.2.2.2.1 ∧ AR = w.2.2.2.2.2 ∧ (mInv g gh R (w.1) (w.2.2.2.1)) ∧ ((w.2.2.2.1) (gh 50 0) = T) ∧ (qF mo I (w.1)) ∧ (((w.1) mo 20).toInt ≤ 936 ∧ (I mo 24).toInt ≤ ((w.1) mo 24).toInt) ∧ (((w.1) mo 24).toInt = 0 → ((w.1) mo 21).toInt = 4 → ((w.1) mo 23).toInt = 59 → rowOK ((w.2.2.2.1) (gh 53 0)) M) ∧ (((w.1) mo 24).toInt = 0 → tI ((w.2.2.2.1) (gh 53 0)) (40 * M) = 1) ∧ (mQ gh (w.1) (w.2.2.1) (w.2.2.2.1) AJ mo b nn nr nt cc (thn (f, h, 0) (fun t _ => sSel b nn nr nt cc t)).1 (thn (f, h, 0) (fun t _ => sSel b nn nr nt cc t)).2.1) ∧ (pIc (thn (f, h, 0) (fun t _ => sSel b nn nr nt cc t)).1 (pK b nn (thn (f, h, 0) (fun t _ => sSel b nn nr nt cc t)).2.1) (tI ((w.2.2.2.1) (gh 53 0)) (40 * (nr : Int) + 1)) (thn (f, h, 0) (fun t _ => sSel b nn nr nt cc t)).2.2))) ([.ref mo] : List Value).toArray s 0 0 (gA g)) (F0 m 176 ls [.int (iI v7)]) := by
                            intro v7 I_257 J_258 H locs ls zv7 hv pf h176 hpj hQ hH hS hl
                            (try clear b_254); (try clear u_253_18); (try clear u_253_16); (try clear u_253_14); (try clear u_253_5); (try clear u_253_2); (try clear b_244); (try clear u_241_18); (try clear u_241_16); (try clear u_241_14); (try clear u_241_5); (try clear u_241_2); (try clear b_31); (try clear uc_18); (try clear uc_16); (try clear uc_14); (try clear uc_5); (try clear uc_2); (try clear u_25_18); (try clear u_25_16); (try clear u_25_14); (try clear u_25_5); (try clear u_25_2); (try clear b_15); (try clear u_14_18); (try clear u_14_16); (try clear u_14_14); (try clear u_14_5); (try clear u_14_2); (try clear b_1)
                            have uc_2 : (I_257 mo 2).toInt = (I mo 2).toInt := by rw [pf 2 (by decide) (by decide) (by decide) (by decide) (by decide)]
                            have uc_5 : (I_257 mo 5).toInt = (I mo 5).toInt := by rw [pf 5 (by decide) (by decide) (by decide) (by decide) (by decide)]
                            have uc_14 : (I_257 mo 14).toInt = (I mo 14).toInt := by rw [pf 14 (by decide) (by decide) (by decide) (by decide) (by decide)]
                            have uc_16 : (I_257 mo 16).toInt = (I mo 16).toInt := by rw [pf 16 (by decide) (by decide) (by decide) (by decide) (by decide)]
                            have uc_18 : (I_257 mo 18).toInt = (I mo 18).toInt := by rw [pf 18 (by decide) (by decide) (by decide) (by decide) (by decide)]
                            refine lv_istore (lv' := [(7, .int (iI v7)), (6, .int (iI 0)), (5, .int (iI sg)), (4, .int (iI v_235)), (3, .int (iI mr)), (2, .int (iI n)), (1, .int (iI v_8)), (0, .ref mo)]) F.1 F.2.1 dX7_selectTold_176 hl (by decide) rfl (fun ls hl => ?_)
                            refine lv_aload_n F.1 F.2.1 dX7_selectTold_178 rfl (lv_at hl 7 rfl) ?_
                            refine lv_iload_n F.1 F.2.1 dX7_selectTold_179 rfl (lv_at hl 5 rfl) ?_
                            refine lv_iload F.1 F.2.1 dX7_selectTold_180 (lv_at hl 3 rfl) ?_
                            refine lv_iload F.1 F.2.1 dX7_selectTold_182 (lv_at hl 2 rfl) ?_
                            refine lv_iload F.1 F.2.1 dX7_selectTold_184 (lv_at hl 1 rfl) ?_
                            refine z_if_eq (tgt := 193) F dX7_selectTold_186 (by decide) ⟨by decide, by decide⟩ (fun c_260 => ?_) (fun c_260 => ?_)
                            · refine z_iconst F dX7_selectTold_193 ?_
                              refine lv_iload F.1 F.2.1 dX7_selectTold_194 (lv_at hl 0 rfl) ?_
                              have b_261 := mJ hv hm
                              unfold mNum1 at b_261
                              refine g_callv (g_runV (As := [.int (iI n), .int (iI v_235), .int (iI sg), .int (iI 0), .int (iI v7)]) (rest := []) (ci := 7) F hl.1 hH hS hz (c_X7_setsPart l g gh T M I_257 R J_258 AI_28 AJ AR mo n v_235 sg 0 v7 zn zv_235 zsg ⟨by decide, by decide⟩ zv7 hv hm hT (by omega) (by omega) (by omega)) (cwV 5 F.2.2.2.2.1 (good_up gT_X7_setsPart) rfl rfl rfl hdX7_setsPart ⟨Nat.le_of_ble_eq_true rfl, Nat.le_of_ble_eq_true rfl⟩) hm (by decide) rfl rfl rfl (Nat.le_of_ble_eq_true rfl) dX7_selectTold_196 ⟨Nat.zero_le _, Nat.zero_le _⟩) hS (fun I_262 R_263 J_264 AI_265 AJ_266 AR_267 H locs hp_268 hH hS => ?_)
                              dsimp only at hp_268
                              obtain ⟨rfl, rfl, rfl, rfl, rfl, hv, hT, hsp⟩ := hp_268
                              replace hsp := hid hsp
                              have hQ : mQ gh I_257 J_258 AI_265 AJ mo b nn nr nt cc 0 (hc + 3) := mQ_a hQ (fun hf9 z9 h09 h19 => (hsp hf9).1 z9 h09 (Or.inl (by omega)))
                              refine z_iinc (lv' := [(2, .int (iI (n + 1))), (7, .int (iI v7)), (6, .int (iI 0)), (5, .int (iI sg)), (4, .int (iI v_235)), (3, .int (iI mr)), (1, .int (iI v_8)), (0, .ref mo)]) F dX7_selectTold_199 hl (k := 5) rfl (by decide) rfl (fun ls hl => ?_)
                              refine lv_aload_n F.1 F.2.1 dX7_selectTold_202 rfl (lv_at hl 7 rfl) ?_
                              refine va_ldcS F.1 F.2.1 F.2.2.2.1 (F.2.2.2.2.2.2.1 11 _ rfl).1 dX7_selectTold_203 ?_
                              refine g_calli (g_runV (As := [.ref (gSK g 11)]) (rest := []) (ci := 7) F hl.1 hH hS hz (c_X7_isWordf l g gh T 11 _ 11 b nn nr nt cc 0 (hc + 3) I_257 R J_258 AI_265 AJ AR mo hv hm hT (rfl : sTab[11]? = some _) (by decide) (by decide +kernel) h65 hbM hr7 (by omega) hn9 (by omega) hQ) (cwV 1 F.2.2.2.2.1 (good_up gT_X7_isWord) rfl rfl rfl hdX7_isWord ⟨Nat.le_of_ble_eq_true rfl, Nat.le_of_ble_eq_true rfl⟩) hm (by decide) rfl rfl rfl (Nat.le_of_ble_eq_true rfl) dX7_selectTold_205 ⟨Nat.zero_le _, Nat.zero_le _⟩) hS (fun v_275 I_269 R_270 J_271 AI_272 AJ_273 AR_274 H locs zv_275 hp_276 hH hS => ?_)
                              dsimp only at hp_276
                              obtain ⟨rfl, rfl, rfl, rfl, rfl, rfl, q_277, q_278⟩ := hp_276
                              refine lv_istore_n (lv' := [(3, .int (iI v_275)), (2, .int (iI (n + 1))), (7, .int (iI v7)), (6, .int (iI 0)), (5, .int (iI sg)), (4, .int (iI v_235)), (1, .int (iI v_8)), (0, .ref mo)]) F.1 F.2.1 dX7_selectTold_208 rfl hl (by decide) rfl (fun ls hl => ?_)
                              refine lv_iload_n F.1 F.2.1 dX7_selectTold_209 rfl (lv_at hl 0 rfl) ?_
                              refine z_if_eq (tgt := 217) F dX7_selectTold_210 (by decide) zv_275 (fun c_279 => ?_) (fun c_279 => ?_)
                              · have t_280 := tIz_n q_278 (by omega)
                                have hTs : sTest b nn (cF b nn nr nt cc h) n hc = (0, hc + 3, 0) := sTest_ok (by omega) (by omega) ysg hpj
                                have hp : Hid ((I_257 mo 24).toInt = 0 → (n + 1) ≤ 8 ∧ selP (AI_265 (gh 53 0)) M (n + 1)) := ((fun hf => ⟨by omega, selP_step (by omega) (hp (by omega)).2 (hsp (by omega)) (by omega) (by omega)⟩))
                                have hS9 : sSel b nn nr nt cc h = (0, hc + 3, (cF b nn nr nt cc h)) := sTests_st hsq (f := (8 - n).toNat) (by omega) hTs.symm rfl (by omega)
                                refine z_goto (tgt := 15) F dX7_selectTold_217 (by decide) ?_
                                refine lv_iload_n F.1 F.2.1 dX7_selectTold_15 rfl (lv_at hl 0 rfl) ?_
                                refine z_if_eq (tgt := 220) F dX7_selectTold_16 (by decide) zv_275 (fun c_281 => ?_) (fun c_281 => ?_)
                                · have t_282 := tIz_n q_278 (by omega)
                                  refine lv_aload_n F.1 F.2.1 dX7_selectTold_220 rfl (lv_at hl 7 rfl) ?_
                                  refine z_iconst F dX7_selectTold_221 ?_
                                  refine lv_aload_n F.1 F.2.1 dX7_selectTold_222 rfl (lv_at hl 7 rfl) ?_
                                  refine lv_iload_n F.1 F.2.1 dX7_selectTold_223 rfl (lv_at hl 6 rfl) ?_
                                  refine g_calli (g_runV (As := [.int (iI v_8)]) (rest := [.int (iI 1), .ref mo]) (ci := 7) F hl.1 hH hS hz (c_X7_columns l g gh T I_257 R J_258 AI_265 AJ AR mo v_8 zv_8 hv hm hT (by omega)) (cwV 1 F.2.2.2.2.1 (good_up gT_X7_columns) rfl rfl rfl hdX7_columns ⟨Nat.le_of_ble_eq_true rfl, Nat.le_of_ble_eq_true rfl⟩) hm (by decide) rfl rfl rfl (Nat.le_of_ble_eq_true rfl) dX7_selectTold_224 ⟨Nat.zero_le _, Nat.zero_le _⟩) hS (fun v_290 I_284 R_285 J_286 AI_287 AJ_288 AR_289 H locs zv_290 hp_291 hH hS => ?_)
                                  dsimp only at hp_291
                                  obtain ⟨rfl, rfl, rfl, rfl, rfl, rfl, q_283⟩ := hp_291
                                  have cvv_290 : v_290 = cF b nn nr nt cc h := q_283.trans ((mQ_c hQ rfl vlr_10.1 vlr_10.2.1).trans vlr_10.2.2)
                                  have hcol : Hid ((I_257 mo 24).toInt = 0 → 1 ≤ v_290 ∧ v_290 ≤ 4) := fun h => by have q9 := mCol hv hm (z := v_8) (by omega) (by omega); omega
                                  refine lv_iload_n F.1 F.2.1 dX7_selectTold_227 rfl (lv_at hl 6 rfl) ?_
                                  refine z_iconst F dX7_selectTold_228 ?_
                                  refine lv_iload_n F.1 F.2.1 dX7_selectTold_229 rfl (lv_at hl 1 rfl) ?_
                                  refine g_callv (g_runV (As := [.int (iI 1), .int (iI v_290), .int (iI v_8), .int (iI ((-1))), .int (iI (n + 1))]) (rest := []) (ci := 7) F hl.1 hH hS hz (c_X7_header l g gh T M I_257 R J_258 AI_265 AJ AR mo 1 v_290 v_8 (-1) (n + 1) ⟨by decide, by decide⟩ zv_290 zv_8 ⟨by decide, by decide⟩ ⟨by omega, by omega⟩ hv hm hT (by omega) (by omega)) (cwV 5 F.2.2.2.2.1 (good_up gT_X7_header) rfl rfl rfl hdX7_header ⟨Nat.le_of_ble_eq_true rfl, Nat.le_of_ble_eq_true rfl⟩) hm (by decide) rfl rfl rfl (Nat.le_of_ble_eq_true rfl) dX7_selectTold_230 ⟨Nat.zero_le _, Nat.zero_le _⟩) hS (fun I_292 R_293 J_294 AI_295 AJ_296 AR_297 H locs hp_298 hH hS => ?_)
                                  dsimp only at hp_298
                                  obtain ⟨rfl, rfl, rfl, rfl, rfl, hv, hT, hhd⟩ := hp_298
                                  replace hhd := hid hhd
                                  have hQ : mQ gh I_257 J_258 AI_295 AJ mo b nn nr nt cc 0 (hc + 3) := mQ_a hQ (fun hf9 z9 h09 h19 => (hhd hf9).1 z9 h09 (Or.inl (by omega)))
                                  have hfin : thn (f, h, 0) (fun t _ => sSel b nn nr nt cc t) = (0, hc + 3, (cF b nn nr nt cc h)) := (thn_k q0).trans hS9
                                  exact g_vret F hr hlk hH hS hz ⟨rfl, rfl, rfl, hv, hT, pf, by first | (dsimp only; omega) | omega | rfl, by (try dsimp only); intro hf ht hn; exact row_mk (by omega) (hhd (by omega)) (by omega) (hcol (by omega)) (by omega) (by omega) (fun h => absurd h (by omega)) (fun _ => (hp (by omega)).2) (fun h => absurd h (by omega)) (fun h => absurd h (by omega)) (fun h => absurd h (by omega)) (fun h => absurd h (by omega)) (fun h => absurd h (by omega)), by (try dsimp only); intro hf; exact (hhd (by omega)).2.1, by (try dsimp only); rw [hfin]; exact hQ, by (try dsimp only); rw [hfin]; have q9 := (hhd (mQ_0 hQ rfl)).2.2.1; rw [show M = (nr : Int) by omega] at q9; (try dsimp only); exact pIc_y (by omega)⟩ dX7_selectTold_233
                                · exact absurd trivial (by omega)
                              · have t_299 := tIz_y q_278 (by omega)
                                refine lv_aload_n F.1 F.2.1 dX7_selectTold_213 rfl (lv_at hl 7 rfl) ?_
                                refine g_callv (g_runV (As := []) (rest := []) (ci := 7) F hl.1 hH hS hz (c_X7_nextf l g gh T b nn (tNd b nn (tPs b nn (hc + 3))) I_257 R J_258 AI_265 AJ AR mo hv hm hT (by omega) (mTp hv h65 hbM) hr7 (by omega) (by omega) (mQ_e0 hQ) tNd_le.1) (cwV 0 F.2.2.2.2.1 (good_up gT_X7_next) rfl rfl rfl hdX7_next ⟨Nat.le_of_ble_eq_true rfl, Nat.le_of_ble_eq_true rfl⟩) hm (by decide) rfl rfl rfl (Nat.le_of_ble_eq_true rfl) dX7_selectTold_214 ⟨Nat.zero_le _, Nat.zero_le _⟩) hS (fun I_300 R_301 J_302 AI_303 AJ_304 AR_305 H locs hp_306 hH hS => ?_)
                                dsimp only at hp_306
                                obtain ⟨rfl, rfl, rfl, rfl, hv, pfq, q_307, nx4, nxa, nxb⟩ := hp_306
                                have pf := qF_t pf pfq
                                have u_308_2 : (I_300 mo 2).toInt = (I mo 2).toInt := by rw [pf 2 (by decide) (by decide) (by decide) (by decide) (by decide)]
                                have u_308_5 : (I_300 mo 5).toInt = (I mo 5).toInt := by rw [pf 5 (by decide) (by decide) (by decide) (by decide) (by decide)]
                                have u_308_14 : (I_300 mo 14).toInt = (I mo 14).toInt := by rw [pf 14 (by decide) (by decide) (by decide) (by decide) (by decide)]
                                have u_308_16 : (I_300 mo 16).toInt = (I mo 16).toInt := by rw [pf 16 (by decide) (by decide) (by decide) (by decide) (by decide)]
                                have u_308_18 : (I_300 mo 18).toInt = (I mo 18).toInt := by rw [pf 18 (by decide) (by decide) (by decide) (by decide) (by decide)]
                                have hQ : mQ gh I_300 J_302 AI_265 AJ mo b nn nr nt cc 0 (hc + 4) := mQ_nx hQ nx4 nxa
                                clear nxa nxb
                                have hTs : sTest b nn (cF b nn nr nt cc h) n hc = (0, hc + 3, 0) := sTest_ok (by omega) (by omega) ysg hpj
                                have hsq := sTests_go hsq (f := (8 - n).toNat) (by omega) hTs.symm rfl (by omega)
                                refine z_goto (tgt := 15) F dX7_selectTold_217 (by decide) ?_
                                exact ih15 (n + 1) v_275 I_300 J_302 AI_265 H locs ls ⟨by omega, by omega⟩ zv_275 hv hT pf (by omega) ((fun hf => ⟨by omega, selP_step (by omega) (hp (by omega)).2 (hsp (by omega)) (by omega) (by omega)⟩)) ⟨_, hQ, by rw [show (9 - (n + 1)).toNat = (8 - n).toNat by omega]; exact hsq⟩ (by omega) (by omega) hH hS (lv_sub hl [0, 1, 6, 7] rfl)
                            · exact absurd trivial (by omega)
                          refine lv_iload F.1 F.2.1 dX7_selectTold_155 (lv_at hl 0 rfl) ?_
                          refine z_if_eq (tgt := 172) F dX7_selectTold_157 (by decide) ⟨by decide, by decide⟩ (fun c_309 => ?_) (fun c_309 => ?_)
                          · refine lv_aload_n F.1 F.2.1 dX7_selectTold_172 rfl (lv_at hl 6 rfl) ?_
                            refine g_calli (g_runV (As := []) (rest := []) (ci := 7) F hl.1 hH hS hz (c_X7_numberToldf l g gh T b nn nr nt cc 0 (hc + 2) I_245 R J_247 AI_28 AJ AR mo hv hm hT (by omega) h65 hbM hr7 (by omega) hn9 (by omega) hQ) (cwV 0 F.2.2.2.2.1 (good_up gT_X7_numberTold) rfl rfl rfl hdX7_numberTold ⟨Nat.le_of_ble_eq_true rfl, Nat.le_of_ble_eq_true rfl⟩) hm (by decide) rfl rfl rfl (Nat.le_of_ble_eq_true rfl) dX7_selectTold_173 ⟨Nat.zero_le _, Nat.zero_le _⟩) hS (fun v_316 I_310 R_311 J_312 AI_313 AJ_314 AR_315 H locs zv_316 hp_317 hH hS => ?_)
                            dsimp only at hp_317
                            obtain ⟨r_318, er_318⟩ : ∃ qQ : pR, qQ = thn (0, (hc + 2), 0) (fun t _ => sNum b nn t) := ⟨_, rfl⟩
                            rw [← er_318] at hp_317
                            obtain ⟨rfl, rfl, rfl, rfl, hv, pfq, q_319, q_320, hQ, q_321⟩ := hp_317
                            have pf := qF_t pf pfq
                            have u_322_2 : (I_310 mo 2).toInt = (I mo 2).toInt := by rw [pf 2 (by decide) (by decide) (by decide) (by decide) (by decide)]
                            have u_322_5 : (I_310 mo 5).toInt = (I mo 5).toInt := by rw [pf 5 (by decide) (by decide) (by decide) (by decide) (by decide)]
                            have u_322_14 : (I_310 mo 14).toInt = (I mo 14).toInt := by rw [pf 14 (by decide) (by decide) (by decide) (by decide) (by decide)]
                            have u_322_16 : (I_310 mo 16).toInt = (I mo 16).toInt := by rw [pf 16 (by decide) (by decide) (by decide) (by decide) (by decide)]
                            have u_322_18 : (I_310 mo 18).toInt = (I mo 18).toInt := by rw [pf 18 (by decide) (by decide) (by decide) (by decide) (by decide)]
                            have er_318 : r_318 = sNum b nn (hc + 2) := er_318
                            have sr_318 := er_318
                            rcases sNum_c er_318 with ⟨er_318, pr_318⟩ | ⟨er_318, pr_318⟩
                            · have hQ : mQ gh I_310 J_312 AI_28 AJ mo b nn nr nt cc 0 (hc + 3) := by rw [er_318] at hQ; exact hQ
                              have sr_318 : sNum b nn (hc + 2) = (0, hc + 3, pV b nn (hc + 2)) := sr_318.symm.trans er_318
                              have vlr_318 := q_321 (by rw [er_318])
                              try rw [er_318] at vlr_318
                              try dsimp only at vlr_318
                              have kq_320 := q_320 (mQ_0 hQ rfl)
                              replace q_320 := hid q_320
                              exact cut_176_258 v_316 I_310 J_312 H locs ls zv_316 hv pf (by omega) (by first | exact Or.inl (by omega) | exact Or.inr (by omega)) hQ hH hS (lv_sub hl [0, 1, 2, 3, 4, 5, 6] rfl)
                            · have hQ : mQ gh I_310 J_312 AI_28 AJ mo b nn nr nt cc 1 (hc + 2) := by rw [er_318] at hQ; exact hQ
                              have sr_318 := sr_318.symm.trans er_318
                              have g9r_318 := mQ_f hQ (by omega)
                              replace q_320 := hid q_320
                              refine lv_istore (lv' := [(7, .int (iI v_316)), (6, .int (iI 0)), (5, .int (iI sg)), (4, .int (iI v_235)), (3, .int (iI mr)), (2, .int (iI n)), (1, .int (iI v_8)), (0, .ref mo)]) F.1 F.2.1 dX7_selectTold_176 hl (by decide) rfl (fun ls hl => ?_)
                              have hTs : sTest b nn (cF b nn nr nt cc h) n hc = (1, hc + 2, 0) := pE1 (sTest_v (by omega) (by omega) ysg (by omega) (pCf_n1 (c := (cF b nn nr nt cc h)) (by omega))) (by omega)
                              have hS9 : sSel b nn nr nt cc h = (1, hc + 2, 0) := sTests_no hsq (f := (8 - n).toNat) (by omega) hTs.symm (by omega)
                              have hfin : thn (f, h, 0) (fun t _ => sSel b nn nr nt cc t) = (1, hc + 2, 0) := (thn_k q0).trans hS9
                              exact cut_178_35 v_235 sg 0 v_316 I_310 J_312 AI_28 H locs ls zv_235 zsg ⟨by decide, by decide⟩ zv_316 hv hT pf ⟨_, _, by omega, hQ, hfin⟩ (by omega) hH hS (lv_sub hl [4, 5, 6, 7, 3, 2, 1, 0] rfl)
                          · exact absurd trivial (by omega)
                        · have t_323 := tkM_1 ((mQ_k hQ rfl).symm.trans (by omega))
                          have t_323v := mQ_v hQ rfl (by omega)
                          have t_323c := pV_c t_323
                          refine z_iconst F dX7_selectTold_148 ?_
                          refine z_goto (tgt := 153) F dX7_selectTold_149 (by decide) ?_
                          refine lv_istore (lv' := [(6, .int (iI 1)), (5, .int (iI sg)), (4, .int (iI v_235)), (3, .int (iI mr)), (2, .int (iI n)), (1, .int (iI v_8)), (0, .ref mo)]) F.1 F.2.1 dX7_selectTold_153 hl (by decide) rfl (fun ls hl => ?_)
                          have cut_176_325 : ∀ (v7 : Int) (I_324 : gI) (J_325 : gJ) (H : Heap) (locs : List Loc) (ls : Array Slot), zr v7 → (mInv g gh R I_324 AI_28) → (qF mo I I_324) → ((I_324 mo 20).toInt ≤ 936 ∧ f1 ≤ (I_324 mo 24).toInt ∧ (1 = 0 ∨ 0 ≤ v7 ∧ v7 ≤ 3)) → (Hid (pK b nn (hc + 2) = 4 ∨ pCf b nn (cF b nn nr nt cc h) (hc + 2) = 0)) → (mQ gh I_324 J_325 AI_28 AJ mo b nn nr nt cc 0 (hc + 3)) → gH g I_324 R J_325 AI_28 AJ AR H → va_S (gA g) s.heap H locs → lv_has ls 8 [(6, .int (iI 1)), (5, .int (iI sg)), (4, .int (iI v_235)), (3, .int (iI mr)), (2, .int (iI n)), (1, .int (iI v_8)), (0, .ref mo)] → W p l e rmX7_selectToldf s m ([.ref mo] : List Value).toArray below meth c H locs 0 0 (MQ below (gQv g (fun w : gS => R = w.2.1 ∧ AJ = w.2.2.2.2.1 ∧ AR = w.2.2.2.2.2 ∧ (mInv g gh R (w.1) (w.2.2.2.1)) ∧ ((w.2.2.2.1) (gh 50 0) = T) ∧ (qF mo I (w.1)) ∧ (((w.1) mo 20).toInt ≤ 936 ∧ (I mo 24).toInt ≤ ((w.1) mo 24).toInt) ∧ (((w.1) mo 24).toInt = 0 → ((w.1) mo 21).toInt = 4 → ((w.1) mo 23).toInt = 59 → rowOK ((w.2.2.2.1) (gh 53 0)) M) ∧ (((w.1) mo 24).toInt = 0 → tI ((w.2.2.2.1) (gh 53 0)) (40 * M) = 1) ∧ (mQ gh (w.1) (w.2.2.1) (w.2.2.2.1) AJ mo b nn nr nt cc (thn (f, h, 0) (fun t _ => sSel b nn nr nt cc t)).1 (thn (f, h, 0) (fun t _ => sSel b nn nr nt cc t)).2.1) ∧ (pIc (thn (f, h, 0) (fun t _ => sSel b nn nr nt cc t)).1 (pK b nn (thn (f, h, 0) (fun t _ => sSel b nn nr nt cc t)).2.1) (tI ((w.2.2.2.1) (gh 53 0)) (40 * (nr : Int) + 1)) (thn (f, h, 0) (fun t _ => sSel b nn nr nt cc t)).2.2))) ([.ref mo] : List Value).toArray s 0 0 (gA g)) (F0 m 176 ls [.int (iI v7)]) := by
                            intro v7 I_324 J_325 H locs ls zv7 hv pf h176 hpj hQ hH hS hl
                            (try clear b_254); (try clear u_253_18); (try clear u_253_16); (try clear u_253_14); (try clear u_253_5); (try clear u_253_2); (try clear b_244); (try clear u_241_18); (try clear u_241_16); (try clear u_241_14); (try clear u_241_5); (try clear u_241_2); (try clear b_31); (try clear uc_18); (try clear uc_16); (try clear uc_14); (try clear uc_5); (try clear uc_2); (try clear u_25_18); (try clear u_25_16); (try clear u_25_14); (try clear u_25_5); (try clear u_25_2); (try clear b_15); (try clear u_14_18); (try clear u_14_16); (try clear u_14_14); (try clear u_14_5); (try clear u_14_2); (try clear b_1)
                            have uc_2 : (I_324 mo 2).toInt = (I mo 2).toInt := by rw [pf 2 (by decide) (by decide) (by decide) (by decide) (by decide)]
                            have uc_5 : (I_324 mo 5).toInt = (I mo 5).toInt := by rw [pf 5 (by decide) (by decide) (by decide) (by decide) (by decide)]
                            have uc_14 : (I_324 mo 14).toInt = (I mo 14).toInt := by rw [pf 14 (by decide) (by decide) (by decide) (by decide) (by decide)]
                            have uc_16 : (I_324 mo 16).toInt = (I mo 16).toInt := by rw [pf 16 (by decide) (by decide) (by decide) (by decide) (by decide)]
                            have uc_18 : (I_324 mo 18).toInt = (I mo 18).toInt := by rw [pf 18 (by decide) (by decide) (by decide) (by decide) (by decide)]
                            refine lv_istore (lv' := [(7, .int (iI v7)), (6, .int (iI 1)), (5, .int (iI sg)), (4, .int (iI v_235)), (3, .int (iI mr)), (2, .int (iI n)), (1, .int (iI v_8)), (0, .ref mo)]) F.1 F.2.1 dX7_selectTold_176 hl (by decide) rfl (fun ls hl => ?_)
                            refine lv_aload_n F.1 F.2.1 dX7_selectTold_178 rfl (lv_at hl 7 rfl) ?_
                            refine lv_iload_n F.1 F.2.1 dX7_selectTold_179 rfl (lv_at hl 5 rfl) ?_
                            refine lv_iload F.1 F.2.1 dX7_selectTold_180 (lv_at hl 3 rfl) ?_
                            refine lv_iload F.1 F.2.1 dX7_selectTold_182 (lv_at hl 2 rfl) ?_
                            refine lv_iload F.1 F.2.1 dX7_selectTold_184 (lv_at hl 1 rfl) ?_
                            refine z_if_eq (tgt := 193) F dX7_selectTold_186 (by decide) ⟨by decide, by decide⟩ (fun c_327 => ?_) (fun c_327 => ?_)
                            · exact absurd trivial (by omega)
                            · refine z_iconst F dX7_selectTold_189 ?_
                              refine z_goto (tgt := 194) F dX7_selectTold_190 (by decide) ?_
                              refine lv_iload F.1 F.2.1 dX7_selectTold_194 (lv_at hl 0 rfl) ?_
                              have b_328 := mJ hv hm
                              unfold mNum1 at b_328
                              refine g_callv (g_runV (As := [.int (iI n), .int (iI v_235), .int (iI sg), .int (iI 1), .int (iI v7)]) (rest := []) (ci := 7) F hl.1 hH hS hz (c_X7_setsPart l g gh T M I_324 R J_325 AI_28 AJ AR mo n v_235 sg 1 v7 zn zv_235 zsg ⟨by decide, by decide⟩ zv7 hv hm hT (by omega) (by omega) (by omega)) (cwV 5 F.2.2.2.2.1 (good_up gT_X7_setsPart) rfl rfl rfl hdX7_setsPart ⟨Nat.le_of_ble_eq_true rfl, Nat.le_of_ble_eq_true rfl⟩) hm (by decide) rfl rfl rfl (Nat.le_of_ble_eq_true rfl) dX7_selectTold_196 ⟨Nat.zero_le _, Nat.zero_le _⟩) hS (fun I_329 R_330 J_331 AI_332 AJ_333 AR_334 H locs hp_335 hH hS => ?_)
                              dsimp only at hp_335
                              obtain ⟨rfl, rfl, rfl, rfl, rfl, hv, hT, hsp⟩ := hp_335
                              replace hsp := hid hsp
                              have hQ : mQ gh I_324 J_325 AI_332 AJ mo b nn nr nt cc 0 (hc + 3) := mQ_a hQ (fun hf9 z9 h09 h19 => (hsp hf9).1 z9 h09 (Or.inl (by omega)))
                              refine z_iinc (lv' := [(2, .int (iI (n + 1))), (7, .int (iI v7)), (6, .int (iI 1)), (5, .int (iI sg)), (4, .int (iI v_235)), (3, .int (iI mr)), (1, .int (iI v_8)), (0, .ref mo)]) F dX7_selectTold_199 hl (k := 5) rfl (by decide) rfl (fun ls hl => ?_)
                              refine lv_aload_n F.1 F.2.1 dX7_selectTold_202 rfl (lv_at hl 7 rfl) ?_
                              refine va_ldcS F.1 F.2.1 F.2.2.2.1 (F.2.2.2.2.2.2.1 11 _ rfl).1 dX7_selectTold_203 ?_
                              refine g_calli (g_runV (As := [.ref (gSK g 11)]) (rest := []) (ci := 7) F hl.1 hH hS hz (c_X7_isWordf l g gh T 11 _ 11 b nn nr nt cc 0 (hc + 3) I_324 R J_325 AI_332 AJ AR mo hv hm hT (rfl : sTab[11]? = some _) (by decide) (by decide +kernel) h65 hbM hr7 (by omega) hn9 (by omega) hQ) (cwV 1 F.2.2.2.2.1 (good_up gT_X7_isWord) rfl rfl rfl hdX7_isWord ⟨Nat.le_of_ble_eq_true rfl, Nat.le_of_ble_eq_true rfl⟩) hm (by decide) rfl rfl rfl (Nat.le_of_ble_eq_true rfl) dX7_selectTold_205 ⟨Nat.zero_le _, Nat.zero_le _⟩) hS (fun v_342 I_336 R_337 J_338 AI_339 AJ_340 AR_341 H locs zv_342 hp_343 hH hS => ?_)
                              dsimp only at hp_343
                              obtain ⟨rfl, rfl, rfl, rfl, rfl, rfl, q_344, q_345⟩ := hp_343
                              refine lv_istore_n (lv' := [(3, .int (iI v_342)), (2, .int (iI (n + 1))), (7, .int (iI v7)), (6, .int (iI 1)), (5, .int (iI sg)), (4, .int (iI v_235)), (1, .int (iI v_8)), (0, .ref mo)]) F.1 F.2.1 dX7_selectTold_208 rfl hl (by decide) rfl (fun ls hl => ?_)
                              refine lv_iload_n F.1 F.2.1 dX7_selectTold_209 rfl (lv_at hl 0 rfl) ?_
                              refine z_if_eq (tgt := 217) F dX7_selectTold_210 (by decide) zv_342 (fun c_346 => ?_) (fun c_346 => ?_)
                              · have t_347 := tIz_n q_345 (by omega)
                                have hTs : sTest b nn (cF b nn nr nt cc h) n hc = (0, hc + 3, 0) := sTest_ok (by omega) (by omega) ysg hpj
                                have hp : Hid ((I_324 mo 24).toInt = 0 → (n + 1) ≤ 8 ∧ selP (AI_332 (gh 53 0)) M (n + 1)) := ((fun hf => ⟨by omega, selP_step (by omega) (hp (by omega)).2 (hsp (by omega)) (by omega) (by omega)⟩))
                                have hS9 : sSel b nn nr nt cc h = (0, hc + 3, (cF b nn nr nt cc h)) := sTests_st hsq (f := (8 - n).toNat) (by omega) hTs.symm rfl (by omega)
                                refine z_goto (tgt := 15) F dX7_selectTold_217 (by decide) ?_
                                refine lv_iload_n F.1 F.2.1 dX7_selectTold_15 rfl (lv_at hl 0 rfl) ?_
                                refine z_if_eq (tgt := 220) F dX7_selectTold_16 (by decide) zv_342 (fun c_348 => ?_) (fun c_348 => ?_)
                                · have t_349 := tIz_n q_345 (by omega)
                                  refine lv_aload_n F.1 F.2.1 dX7_selectTold_220 rfl (lv_at hl 7 rfl) ?_
                                  refine z_iconst F dX7_selectTold_221 ?_
                                  refine lv_aload_n F.1 F.2.1 dX7_selectTold_222 rfl (lv_at hl 7 rfl) ?_
                                  refine lv_iload_n F.1 F.2.1 dX7_selectTold_223 rfl (lv_at hl 6 rfl) ?_
                                  refine g_calli (g_runV (As := [.int (iI v_8)]) (rest := [.int (iI 1), .ref mo]) (ci := 7) F hl.1 hH hS hz (c_X7_columns l g gh T I_324 R J_325 AI_332 AJ AR mo v_8 zv_8 hv hm hT (by omega)) (cwV 1 F.2.2.2.2.1 (good_up gT_X7_columns) rfl rfl rfl hdX7_columns ⟨Nat.le_of_ble_eq_true rfl, Nat.le_of_ble_eq_true rfl⟩) hm (by decide) rfl rfl rfl (Nat.le_of_ble_eq_true rfl) dX7_selectTold_224 ⟨Nat.zero_le _, Nat.zero_le _⟩) hS (fun v_357 I_351 R_352 J_353 AI_354 AJ_355 AR_356 H locs zv_357 hp_358 hH hS => ?_)
                                  dsimp only at hp_358
                                  obtain ⟨rfl, rfl, rfl, rfl, rfl, rfl, q_350⟩ := hp_358
                                  have cvv_357 : v_357 = cF b nn nr nt cc h := q_350.trans ((mQ_c hQ rfl vlr_10.1 vlr_10.2.1).trans vlr_10.2.2)
                                  have hcol : Hid ((I_324 mo 24).toInt = 0 → 1 ≤ v_357 ∧ v_357 ≤ 4) := fun h => by have q9 := mCol hv hm (z := v_8) (by omega) (by omega); omega
                                  refine lv_iload_n F.1 F.2.1 dX7_selectTold_227 rfl (lv_at hl 6 rfl) ?_
                                  refine z_iconst F dX7_selectTold_228 ?_
                                  refine lv_iload_n F.1 F.2.1 dX7_selectTold_229 rfl (lv_at hl 1 rfl) ?_
                                  refine g_callv (g_runV (As := [.int (iI 1), .int (iI v_357), .int (iI v_8), .int (iI ((-1))), .int (iI (n + 1))]) (rest := []) (ci := 7) F hl.1 hH hS hz (c_X7_header l g gh T M I_324 R J_325 AI_332 AJ AR mo 1 v_357 v_8 (-1) (n + 1) ⟨by decide, by decide⟩ zv_357 zv_8 ⟨by decide, by decide⟩ ⟨by omega, by omega⟩ hv hm hT (by omega) (by omega)) (cwV 5 F.2.2.2.2.1 (good_up gT_X7_header) rfl rfl rfl hdX7_header ⟨Nat.le_of_ble_eq_true rfl, Nat.le_of_ble_eq_true rfl⟩) hm (by decide) rfl rfl rfl (Nat.le_of_ble_eq_true rfl) dX7_selectTold_230 ⟨Nat.zero_le _, Nat.zero_le _⟩) hS (fun I_359 R_360 J_361 AI_362 AJ_363 AR_364 H locs hp_365 hH hS => ?_)
                                  dsimp only at hp_365
                                  obtain ⟨rfl, rfl, rfl, rfl, rfl, hv, hT, hhd⟩ := hp_365
                                  replace hhd := hid hhd
                                  have hQ : mQ gh I_324 J_325 AI_362 AJ mo b nn nr nt cc 0 (hc + 3) := mQ_a hQ (fun hf9 z9 h09 h19 => (hhd hf9).1 z9 h09 (Or.inl (by omega)))
                                  have hfin : thn (f, h, 0) (fun t _ => sSel b nn nr nt cc t) = (0, hc + 3, (cF b nn nr nt cc h)) := (thn_k q0).trans hS9
                                  exact g_vret F hr hlk hH hS hz ⟨rfl, rfl, rfl, hv, hT, pf, by first | (dsimp only; omega) | omega | rfl, by (try dsimp only); intro hf ht hn; exact row_mk (by omega) (hhd (by omega)) (by omega) (hcol (by omega)) (by omega) (by omega) (fun h => absurd h (by omega)) (fun _ => (hp (by omega)).2) (fun h => absurd h (by omega)) (fun h => absurd h (by omega)) (fun h => absurd h (by omega)) (fun h => absurd h (by omega)) (fun h => absurd h (by omega)), by (try dsimp only); intro hf; exact (hhd (by omega)).2.1, by (try dsimp only); rw [hfin]; exact hQ, by (try dsimp only); rw [hfin]; have q9 := (hhd (mQ_0 hQ rfl)).2.2.1; rw [show M = (nr : Int) by omega] at q9; (try dsimp only); exact pIc_y (by omega)⟩ dX7_selectTold_233
                                · exact absurd trivial (by omega)
                              · have t_366 := tIz_y q_345 (by omega)
                                refine lv_aload_n F.1 F.2.1 dX7_selectTold_213 rfl (lv_at hl 7 rfl) ?_
                                refine g_callv (g_runV (As := []) (rest := []) (ci := 7) F hl.1 hH hS hz (c_X7_nextf l g gh T b nn (tNd b nn (tPs b nn (hc + 3))) I_324 R J_325 AI_332 AJ AR mo hv hm hT (by omega) (mTp hv h65 hbM) hr7 (by omega) (by omega) (mQ_e0 hQ) tNd_le.1) (cwV 0 F.2.2.2.2.1 (good_up gT_X7_next) rfl rfl rfl hdX7_next ⟨Nat.le_of_ble_eq_true rfl, Nat.le_of_ble_eq_true rfl⟩) hm (by decide) rfl rfl rfl (Nat.le_of_ble_eq_true rfl) dX7_selectTold_214 ⟨Nat.zero_le _, Nat.zero_le _⟩) hS (fun I_367 R_368 J_369 AI_370 AJ_371 AR_372 H locs hp_373 hH hS => ?_)
                                dsimp only at hp_373
                                obtain ⟨rfl, rfl, rfl, rfl, hv, pfq, q_374, nx4, nxa, nxb⟩ := hp_373
                                have pf := qF_t pf pfq
                                have u_375_2 : (I_367 mo 2).toInt = (I mo 2).toInt := by rw [pf 2 (by decide) (by decide) (by decide) (by decide) (by decide)]
                                have u_375_5 : (I_367 mo 5).toInt = (I mo 5).toInt := by rw [pf 5 (by decide) (by decide) (by decide) (by decide) (by decide)]
                                have u_375_14 : (I_367 mo 14).toInt = (I mo 14).toInt := by rw [pf 14 (by decide) (by decide) (by decide) (by decide) (by decide)]
                                have u_375_16 : (I_367 mo 16).toInt = (I mo 16).toInt := by rw [pf 16 (by decide) (by decide) (by decide) (by decide) (by decide)]
                                have u_375_18 : (I_367 mo 18).toInt = (I mo 18).toInt := by rw [pf 18 (by decide) (by decide) (by decide) (by decide) (by decide)]
                                have hQ : mQ gh I_367 J_369 AI_332 AJ mo b nn nr nt cc 0 (hc + 4) := mQ_nx hQ nx4 nxa
                                clear nxa nxb
                                have hTs : sTest b nn (cF b nn nr nt cc h) n hc = (0, hc + 3, 0) := sTest_ok (by omega) (by omega) ysg hpj
                                have hsq := sTests_go hsq (f := (8 - n).toNat) (by omega) hTs.symm rfl (by omega)
                                refine z_goto (tgt := 15) F dX7_selectTold_217 (by decide) ?_
                                exact ih15 (n + 1) v_342 I_367 J_369 AI_332 H locs ls ⟨by omega, by omega⟩ zv_342 hv hT pf (by omega) ((fun hf => ⟨by omega, selP_step (by omega) (hp (by omega)).2 (hsp (by omega)) (by omega) (by omega)⟩)) ⟨_, hQ, by rw [show (9 - (n + 1)).toNat = (8 - n).toNat by omega]; exact hsq⟩ (by omega) (by omega) hH hS (lv_sub hl [0, 1, 6, 7] rfl)
                          refine lv_iload F.1 F.2.1 dX7_selectTold_155 (lv_at hl 0 rfl) ?_
                          refine z_if_eq (tgt := 172) F dX7_selectTold_157 (by decide) ⟨by decide, by decide⟩ (fun c_376 => ?_) (fun c_376 => ?_)
                          · exact absurd trivial (by omega)
                          · refine lv_aload_n F.1 F.2.1 dX7_selectTold_160 rfl (lv_at hl 6 rfl) ?_
                            refine lv_aload_n F.1 F.2.1 dX7_selectTold_161 rfl (lv_at hl 6 rfl) ?_
                            refine lv_iload_n F.1 F.2.1 dX7_selectTold_162 rfl (lv_at hl 5 rfl) ?_
                            refine g_calli (g_runV (As := [.int (iI v_8)]) (rest := [.ref mo]) (ci := 7) F hl.1 hH hS hz (c_X7_columns l g gh T I_245 R J_247 AI_28 AJ AR mo v_8 zv_8 hv hm hT (by omega)) (cwV 1 F.2.2.2.2.1 (good_up gT_X7_columns) rfl rfl rfl hdX7_columns ⟨Nat.le_of_ble_eq_true rfl, Nat.le_of_ble_eq_true rfl⟩) hm (by decide) rfl rfl rfl (Nat.le_of_ble_eq_true rfl) dX7_selectTold_163 ⟨Nat.zero_le _, Nat.zero_le _⟩) hS (fun v_384 I_378 R_379 J_380 AI_381 AJ_382 AR_383 H locs zv_384 hp_385 hH hS => ?_)
                            dsimp only at hp_385
                            obtain ⟨rfl, rfl, rfl, rfl, rfl, rfl, q_377⟩ := hp_385
                            have cvv_384 : v_384 = cF b nn nr nt cc h := q_377.trans ((mQ_c hQ rfl vlr_10.1 vlr_10.2.1).trans vlr_10.2.2)
                            refine g_calli (g_runV (As := [.int (iI v_384)]) (rest := []) (ci := 7) F hl.1 hH hS hz (c_X7_columnf l g gh T b nn nr nt cc 0 (hc + 2) I_245 R J_247 AI_28 AJ AR mo v_384 zv_384 hv hm hT (by omega) h65 hbM hr7 (by omega) hn9 (by omega) hQ) (cwV 1 F.2.2.2.2.1 (good_up gT_X7_column) rfl rfl rfl hdX7_column ⟨Nat.le_of_ble_eq_true rfl, Nat.le_of_ble_eq_true rfl⟩) hm (by decide) rfl rfl rfl (Nat.le_of_ble_eq_true rfl) dX7_selectTold_166 ⟨Nat.zero_le _, Nat.zero_le _⟩) hS (fun v_392 I_386 R_387 J_388 AI_389 AJ_390 AR_391 H locs zv_392 hp_393 hH hS => ?_)
                            dsimp only at hp_393
                            rw [show v_384 = cF b nn nr nt cc h by omega] at hp_393
                            obtain ⟨r_394, er_394⟩ : ∃ qQ : pR, qQ = thn (0, (hc + 2), 0) (fun t _ => sCol b nn (cF b nn nr nt cc h) t) := ⟨_, rfl⟩
                            rw [← er_394] at hp_393
                            obtain ⟨rfl, rfl, rfl, rfl, hv, pfq, q_395, q_396, hQ, q_397⟩ := hp_393
                            have pf := qF_t pf pfq
                            have u_398_2 : (I_386 mo 2).toInt = (I mo 2).toInt := by rw [pf 2 (by decide) (by decide) (by decide) (by decide) (by decide)]
                            have u_398_5 : (I_386 mo 5).toInt = (I mo 5).toInt := by rw [pf 5 (by decide) (by decide) (by decide) (by decide) (by decide)]
                            have u_398_14 : (I_386 mo 14).toInt = (I mo 14).toInt := by rw [pf 14 (by decide) (by decide) (by decide) (by decide) (by decide)]
                            have u_398_16 : (I_386 mo 16).toInt = (I mo 16).toInt := by rw [pf 16 (by decide) (by decide) (by decide) (by decide) (by decide)]
                            have u_398_18 : (I_386 mo 18).toInt = (I mo 18).toInt := by rw [pf 18 (by decide) (by decide) (by decide) (by decide) (by decide)]
                            have er_394 : r_394 = sCol b nn (cF b nn nr nt cc h) (hc + 2) := er_394
                            have sr_394 := er_394
                            rcases sCol_c er_394 with ⟨er_394, pr_394⟩ | ⟨er_394, pr_394⟩
                            · have hQ : mQ gh I_386 J_388 AI_28 AJ mo b nn nr nt cc 0 (hc + 3) := by rw [er_394] at hQ; exact hQ
                              have sr_394 : sCol b nn (cF b nn nr nt cc h) (hc + 2) = (0, hc + 3, pV b nn (hc + 2)) := sr_394.symm.trans er_394
                              have vlr_394 := q_397 (by rw [er_394])
                              try rw [er_394] at vlr_394
                              try dsimp only at vlr_394
                              have kq_396 := q_396 (mQ_0 hQ rfl)
                              replace q_396 := hid q_396
                              refine z_goto (tgt := 176) F dX7_selectTold_169 (by decide) ?_
                              exact cut_176_325 v_392 I_386 J_388 H locs ls zv_392 hv pf (by omega) (by first | exact Or.inl (by omega) | exact Or.inr (by omega)) hQ hH hS (lv_sub hl [0, 1, 2, 3, 4, 5, 6] rfl)
                            · have hQ : mQ gh I_386 J_388 AI_28 AJ mo b nn nr nt cc (pCf b nn (cF b nn nr nt cc h) (hc + 2)) (hc + 2) := by rw [er_394] at hQ; exact hQ
                              have sr_394 := sr_394.symm.trans er_394
                              have g9r_394 := mQ_f hQ (by omega)
                              replace q_396 := hid q_396
                              refine z_goto (tgt := 176) F dX7_selectTold_169 (by decide) ?_
                              refine lv_istore (lv' := [(7, .int (iI v_392)), (6, .int (iI 1)), (5, .int (iI sg)), (4, .int (iI v_235)), (3, .int (iI mr)), (2, .int (iI n)), (1, .int (iI v_8)), (0, .ref mo)]) F.1 F.2.1 dX7_selectTold_176 hl (by decide) rfl (fun ls hl => ?_)
                              have hTs : sTest b nn (cF b nn nr nt cc h) n hc = (pCf b nn (cF b nn nr nt cc h) (hc + 2), hc + 2, 0) := sTest_v (by omega) (by omega) ysg (by omega) (by omega)
                              have hS9 : sSel b nn nr nt cc h = (pCf b nn (cF b nn nr nt cc h) (hc + 2), hc + 2, 0) := sTests_no hsq (f := (8 - n).toNat) (by omega) hTs.symm (by omega)
                              have hfin : thn (f, h, 0) (fun t _ => sSel b nn nr nt cc t) = (pCf b nn (cF b nn nr nt cc h) (hc + 2), hc + 2, 0) := (thn_k q0).trans hS9
                              exact cut_178_35 v_235 sg 1 v_392 I_386 J_388 AI_28 H locs ls zv_235 zsg ⟨by decide, by decide⟩ zv_392 hv hT pf ⟨_, _, by omega, hQ, hfin⟩ (by omega) hH hS (lv_sub hl [4, 5, 6, 7, 3, 2, 1, 0] rfl)
                      · have nsg := pSg_n hsg2 (by omega)
                        refine lv_aload_n F.1 F.2.1 dX7_selectTold_131 rfl (lv_at hl 5 rfl) ?_
                        refine z_iconst F dX7_selectTold_132 ?_
                        have b_399 := mJ hv hm
                        unfold mNum1 at b_399
                        refine g_callv (g_runV (As := [.int (iI 1)]) (rest := []) (ci := 7) F hl.1 hH hS hz (c_X7_wrongf l g gh T b nn nr nt cc 0 (hc + 1) I_229 R J_231 AI_28 AJ AR mo 1 ⟨by decide, by decide⟩ hv hm hT (by omega) h65 hbM hr7 (by omega) hn9 (by omega) hQ) (cwV 1 F.2.2.2.2.1 (good_up gT_X7_wrong) rfl rfl rfl hdX7_wrong ⟨Nat.le_of_ble_eq_true rfl, Nat.le_of_ble_eq_true rfl⟩) hm (by decide) rfl rfl rfl (Nat.le_of_ble_eq_true rfl) dX7_selectTold_133 ⟨Nat.zero_le _, Nat.zero_le _⟩) hS (fun I_400 R_401 J_402 AI_403 AJ_404 AR_405 H locs hp_406 hH hS => ?_)
                        dsimp only at hp_406
                        obtain ⟨r_407, er_407⟩ : ∃ qQ : pR, qQ = thn (0, (hc + 1), 0) (fun t _ => (1, t, 0)) := ⟨_, rfl⟩
                        rw [← er_407] at hp_406
                        obtain ⟨rfl, rfl, rfl, rfl, rfl, hv, pfq, q_408, hQ⟩ := hp_406
                        have pf := qF_t pf pfq
                        have u_409_2 : (I_400 mo 2).toInt = (I mo 2).toInt := by rw [pf 2 (by decide) (by decide) (by decide) (by decide) (by decide)]
                        have u_409_5 : (I_400 mo 5).toInt = (I mo 5).toInt := by rw [pf 5 (by decide) (by decide) (by decide) (by decide) (by decide)]
                        have u_409_14 : (I_400 mo 14).toInt = (I mo 14).toInt := by rw [pf 14 (by decide) (by decide) (by decide) (by decide) (by decide)]
                        have u_409_16 : (I_400 mo 16).toInt = (I mo 16).toInt := by rw [pf 16 (by decide) (by decide) (by decide) (by decide) (by decide)]
                        have u_409_18 : (I_400 mo 18).toInt = (I mo 18).toInt := by rw [pf 18 (by decide) (by decide) (by decide) (by decide) (by decide)]
                        have er_407 : r_407 = (1, (hc + 1), 0) := er_407
                        have hQ : mQ gh I_400 J_231 AI_28 AJ mo b nn nr nt cc 1 (hc + 1) := by rw [er_407] at hQ; exact hQ
                        have q9_r_407 : (1 : Int) ≠ 0 := by omega
                        have g9_r_407 := mQ_f hQ q9_r_407
                        have hTs : sTest b nn (cF b nn nr nt cc h) n hc = (1, hc + 1, 0) := sTest_s (by omega) (by omega) nsg
                        have hS9 : sSel b nn nr nt cc h = (1, hc + 1, 0) := sTests_no hsq (f := (8 - n).toNat) (by omega) hTs.symm (by omega)
                        have hfin : thn (f, h, 0) (fun t _ => sSel b nn nr nt cc t) = (1, hc + 1, 0) := (thn_k q0).trans hS9
                        exact cut_136_116 v_235 sg I_400 J_231 AI_28 H locs ls zv_235 zsg hv hT pf ⟨_, _, by omega, hQ, hfin⟩ (by omega) hH hS (lv_sub hl [2, 3, 4, 5, 1, 0] rfl)
                    refine lv_aload_n F.1 F.2.1 dX7_selectTold_84 rfl (lv_at hl 4 rfl) ?_
                    refine z_bipush F dX7_selectTold_85 (by decide) ?_
                    have b_410 := mJ hv hm
                    unfold mNum1 at b_410
                    refine g_calli (g_runV (As := [.int (iI 61)]) (rest := []) (ci := 7) F hl.1 hH hS hz (c_X7_isSignf l g gh T b nn nr nt cc 0 (hc + 1) I_229 R J_231 AI_28 AJ AR mo 61 ⟨by decide, by decide⟩ hv hm hT h65 hbM hr7 (by omega) hn9 (by omega) (by omega) hQ) (cwV 1 F.2.2.2.2.1 (good_up gT_X7_isSign) rfl rfl rfl hdX7_isSign ⟨Nat.le_of_ble_eq_true rfl, Nat.le_of_ble_eq_true rfl⟩) hm (by decide) rfl rfl rfl (Nat.le_of_ble_eq_true rfl) dX7_selectTold_87 ⟨Nat.zero_le _, Nat.zero_le _⟩) hS (fun v_417 I_411 R_412 J_413 AI_414 AJ_415 AR_416 H locs zv_417 hp_418 hH hS => ?_)
                    dsimp only at hp_418
                    obtain ⟨rfl, rfl, rfl, rfl, rfl, rfl, q_419, q_420⟩ := hp_418
                    replace q_419 := q_419.1
                    refine z_if_eq (tgt := 97) F dX7_selectTold_90 (by decide) zv_417 (fun c_421 => ?_) (fun c_421 => ?_)
                    · have t_422 := tIz_n q_420 (by omega)
                      refine lv_aload_n F.1 F.2.1 dX7_selectTold_97 rfl (lv_at hl 4 rfl) ?_
                      refine z_bipush F dX7_selectTold_98 (by decide) ?_
                      refine g_calli (g_runV (As := [.int (iI 60)]) (rest := []) (ci := 7) F hl.1 hH hS hz (c_X7_isSignf l g gh T b nn nr nt cc 0 (hc + 1) I_229 R J_231 AI_28 AJ AR mo 60 ⟨by decide, by decide⟩ hv hm hT h65 hbM hr7 (by omega) hn9 (by omega) (by omega) hQ) (cwV 1 F.2.2.2.2.1 (good_up gT_X7_isSign) rfl rfl rfl hdX7_isSign ⟨Nat.le_of_ble_eq_true rfl, Nat.le_of_ble_eq_true rfl⟩) hm (by decide) rfl rfl rfl (Nat.le_of_ble_eq_true rfl) dX7_selectTold_100 ⟨Nat.zero_le _, Nat.zero_le _⟩) hS (fun v_429 I_423 R_424 J_425 AI_426 AJ_427 AR_428 H locs zv_429 hp_430 hH hS => ?_)
                      dsimp only at hp_430
                      obtain ⟨rfl, rfl, rfl, rfl, rfl, rfl, q_431, q_432⟩ := hp_430
                      replace q_431 := q_431.1
                      refine z_if_eq (tgt := 110) F dX7_selectTold_103 (by decide) zv_429 (fun c_433 => ?_) (fun c_433 => ?_)
                      · have t_434 := tIz_n q_432 (by omega)
                        refine lv_aload_n F.1 F.2.1 dX7_selectTold_110 rfl (lv_at hl 4 rfl) ?_
                        refine z_bipush F dX7_selectTold_111 (by decide) ?_
                        refine g_calli (g_runV (As := [.int (iI 62)]) (rest := []) (ci := 7) F hl.1 hH hS hz (c_X7_isSignf l g gh T b nn nr nt cc 0 (hc + 1) I_229 R J_231 AI_28 AJ AR mo 62 ⟨by decide, by decide⟩ hv hm hT h65 hbM hr7 (by omega) hn9 (by omega) (by omega) hQ) (cwV 1 F.2.2.2.2.1 (good_up gT_X7_isSign) rfl rfl rfl hdX7_isSign ⟨Nat.le_of_ble_eq_true rfl, Nat.le_of_ble_eq_true rfl⟩) hm (by decide) rfl rfl rfl (Nat.le_of_ble_eq_true rfl) dX7_selectTold_113 ⟨Nat.zero_le _, Nat.zero_le _⟩) hS (fun v_441 I_435 R_436 J_437 AI_438 AJ_439 AR_440 H locs zv_441 hp_442 hH hS => ?_)
                        dsimp only at hp_442
                        obtain ⟨rfl, rfl, rfl, rfl, rfl, rfl, q_443, q_444⟩ := hp_442
                        replace q_443 := q_443.1
                        refine z_if_eq (tgt := 123) F dX7_selectTold_116 (by decide) zv_441 (fun c_445 => ?_) (fun c_445 => ?_)
                        · have t_446 := tIz_n q_444 (by omega)
                          refine z_iconst F dX7_selectTold_123 ?_
                          exact cut_124_241 (-1) H locs ls ⟨by decide, by decide⟩ (by omega) (by first | exact pSg_t (by decide) (by omega) | exact pSg_f rfl (by omega)) hH hS (lv_sub hl [0, 1, 2, 3, 4] rfl)
                        · have t_447 := tIz_y q_444 (by omega)
                          refine z_iconst F dX7_selectTold_119 ?_
                          refine z_goto (tgt := 124) F dX7_selectTold_120 (by decide) ?_
                          exact cut_124_241 2 H locs ls ⟨by decide, by decide⟩ (by omega) (by first | exact pSg_t (by decide) (by omega) | exact pSg_f rfl (by omega)) hH hS (lv_sub hl [0, 1, 2, 3, 4] rfl)
                      · have t_448 := tIz_y q_432 (by omega)
                        refine z_iconst F dX7_selectTold_106 ?_
                        refine z_goto (tgt := 124) F dX7_selectTold_107 (by decide) ?_
                        exact cut_124_241 1 H locs ls ⟨by decide, by decide⟩ (by omega) (by first | exact pSg_t (by decide) (by omega) | exact pSg_f rfl (by omega)) hH hS (lv_sub hl [0, 1, 2, 3, 4] rfl)
                    · have t_449 := tIz_y q_420 (by omega)
                      refine z_iconst F dX7_selectTold_93 ?_
                      refine z_goto (tgt := 124) F dX7_selectTold_94 (by decide) ?_
                      exact cut_124_241 0 H locs ls ⟨by decide, by decide⟩ (by omega) (by first | exact pSg_t (by decide) (by omega) | exact pSg_f rfl (by omega)) hH hS (lv_sub hl [0, 1, 2, 3, 4] rfl)
                  · have hQ : mQ gh I_229 J_231 AI_28 AJ mo b nn nr nt cc (pCf b nn (cF b nn nr nt cc h) hc) hc := by rw [er_237] at hQ; exact hQ
                    have sr_237 := sr_237.symm.trans er_237
                    have g9r_237 := mQ_f hQ (by omega)
                    replace q_239 := hid q_239
                    obtain ⟨f1, ef1⟩ : ∃ q, q = (I_229 mo 24).toInt := ⟨_, rfl⟩
                    have hc1 : Hid (f1 = 0 → 0 ≤ v_235 ∧ v_235 ≤ 3) := fun h9 => by omega
                    refine lv_istore (lv' := [(4, .int (iI v_235)), (3, .int (iI mr)), (2, .int (iI n)), (1, .int (iI v_8)), (0, .ref mo)]) F.1 F.2.1 dX7_selectTold_82 hl (by decide) rfl (fun ls hl => ?_)
                    have hTs : sTest b nn (cF b nn nr nt cc h) n hc = (pCf b nn (cF b nn nr nt cc h) hc, hc, 0) := sTest_c (by omega)
                    have hS9 : sSel b nn nr nt cc h = (pCf b nn (cF b nn nr nt cc h) hc, hc, 0) := sTests_no hsq (f := (8 - n).toNat) (by omega) hTs.symm (by omega)
                    have hfin : thn (f, h, 0) (fun t _ => sSel b nn nr nt cc t) = (pCf b nn (cF b nn nr nt cc h) hc, hc, 0) := (thn_k q0).trans hS9
                    exact cut_84_169 v_235 I_229 J_231 AI_28 H locs ls zv_235 hv hT pf ⟨_, _, by omega, hQ, hfin⟩ (by omega) hH hS (lv_sub hl [1, 2, 3, 4, 0] rfl)
                · refine lv_aload_n F.1 F.2.1 dX7_selectTold_32 rfl (lv_at hl 3 rfl) ?_
                  refine lv_aload_n F.1 F.2.1 dX7_selectTold_33 rfl (lv_at hl 3 rfl) ?_
                  refine g_getI (ci := 7) (k := 21) F hH rfl (by decide) iX7 hm (by decide) rfl k94 dX7_selectTold_34 ?_
                  refine z_iconst F dX7_selectTold_37 ?_
                  refine z_icmp_ne (tgt := 57) F dX7_selectTold_38 (by decide) (zr_t _) ⟨by decide, by decide⟩ (fun c_450 => ?_) (fun c_450 => ?_)
                  · have t_451 : pK b nn hc ≠ 2 := mQ_kn hQ rfl (c := 1) rfl (by omega)
                    refine lv_aload_n F.1 F.2.1 dX7_selectTold_57 rfl (lv_at hl 3 rfl) ?_
                    refine g_getI (ci := 7) (k := 21) F hH rfl (by decide) iX7 hm (by decide) rfl k94 dX7_selectTold_58 ?_
                    refine z_iconst F dX7_selectTold_61 ?_
                    refine z_icmp_ne (tgt := 69) F dX7_selectTold_62 (by decide) (zr_t _) ⟨by decide, by decide⟩ (fun c_452 => ?_) (fun c_452 => ?_)
                    · have t_453 : pK b nn hc ≠ 2 := mQ_kn hQ rfl (c := 1) rfl (by omega)
                      refine z_iconst F dX7_selectTold_69 ?_
                      refine g_callv (g_runV (As := [.int (iI 1)]) (rest := []) (ci := 7) F hl.1 hH hS hz (c_X7_wrongf l g gh T b nn nr nt cc 0 hc I_26 R J_27 AI_28 AJ AR mo 1 ⟨by decide, by decide⟩ hv hm hT (by omega) h65 hbM hr7 (by omega) hn9 (by omega) hQ) (cwV 1 F.2.2.2.2.1 (good_up gT_X7_wrong) rfl rfl rfl hdX7_wrong ⟨Nat.le_of_ble_eq_true rfl, Nat.le_of_ble_eq_true rfl⟩) hm (by decide) rfl rfl rfl (Nat.le_of_ble_eq_true rfl) dX7_selectTold_70 ⟨Nat.zero_le _, Nat.zero_le _⟩) hS (fun I_454 R_455 J_456 AI_457 AJ_458 AR_459 H locs hp_460 hH hS => ?_)
                      dsimp only at hp_460
                      obtain ⟨r_461, er_461⟩ : ∃ qQ : pR, qQ = thn (0, hc, 0) (fun t _ => (1, t, 0)) := ⟨_, rfl⟩
                      rw [← er_461] at hp_460
                      obtain ⟨rfl, rfl, rfl, rfl, rfl, hv, pfq, q_462, hQ⟩ := hp_460
                      have pf := qF_t pf pfq
                      have u_463_2 : (I_454 mo 2).toInt = (I mo 2).toInt := by rw [pf 2 (by decide) (by decide) (by decide) (by decide) (by decide)]
                      have u_463_5 : (I_454 mo 5).toInt = (I mo 5).toInt := by rw [pf 5 (by decide) (by decide) (by decide) (by decide) (by decide)]
                      have u_463_14 : (I_454 mo 14).toInt = (I mo 14).toInt := by rw [pf 14 (by decide) (by decide) (by decide) (by decide) (by decide)]
                      have u_463_16 : (I_454 mo 16).toInt = (I mo 16).toInt := by rw [pf 16 (by decide) (by decide) (by decide) (by decide) (by decide)]
                      have u_463_18 : (I_454 mo 18).toInt = (I mo 18).toInt := by rw [pf 18 (by decide) (by decide) (by decide) (by decide) (by decide)]
                      have er_461 : r_461 = (1, hc, 0) := er_461
                      have hQ : mQ gh I_454 J_27 AI_28 AJ mo b nn nr nt cc 1 hc := by rw [er_461] at hQ; exact hQ
                      have q9_r_461 : (1 : Int) ≠ 0 := by omega
                      have g9_r_461 := mQ_f hQ q9_r_461
                      refine lv_aload_n F.1 F.2.1 dX7_selectTold_73 rfl (lv_at hl 3 rfl) ?_
                      refine lv_aload_n F.1 F.2.1 dX7_selectTold_74 rfl (lv_at hl 3 rfl) ?_
                      refine lv_iload_n F.1 F.2.1 dX7_selectTold_75 rfl (lv_at hl 2 rfl) ?_
                      have b_465 := mJ hv hm
                      unfold mNum1 at b_465
                      refine g_calli (g_runV (As := [.int (iI v_8)]) (rest := [.ref mo]) (ci := 7) F hl.1 hH hS hz (c_X7_columns l g gh T I_454 R J_27 AI_28 AJ AR mo v_8 zv_8 hv hm hT (by omega)) (cwV 1 F.2.2.2.2.1 (good_up gT_X7_columns) rfl rfl rfl hdX7_columns ⟨Nat.le_of_ble_eq_true rfl, Nat.le_of_ble_eq_true rfl⟩) hm (by decide) rfl rfl rfl (Nat.le_of_ble_eq_true rfl) dX7_selectTold_76 ⟨Nat.zero_le _, Nat.zero_le _⟩) hS (fun v_472 I_466 R_467 J_468 AI_469 AJ_470 AR_471 H locs zv_472 hp_473 hH hS => ?_)
                      dsimp only at hp_473
                      obtain ⟨rfl, rfl, rfl, rfl, rfl, rfl, q_464⟩ := hp_473
                      refine g_calli (g_runV (As := [.int (iI v_472)]) (rest := []) (ci := 7) F hl.1 hH hS hz (c_X7_columnf l g gh T b nn nr nt cc 1 hc I_454 R J_27 AI_28 AJ AR mo v_472 zv_472 hv hm hT (by omega) h65 hbM hr7 (by omega) hn9 (by omega) hQ) (cwV 1 F.2.2.2.2.1 (good_up gT_X7_column) rfl rfl rfl hdX7_column ⟨Nat.le_of_ble_eq_true rfl, Nat.le_of_ble_eq_true rfl⟩) hm (by decide) rfl rfl rfl (Nat.le_of_ble_eq_true rfl) dX7_selectTold_79 ⟨Nat.zero_le _, Nat.zero_le _⟩) hS (fun v_480 I_474 R_475 J_476 AI_477 AJ_478 AR_479 H locs zv_480 hp_481 hH hS => ?_)
                      dsimp only at hp_481
                      obtain ⟨r_482, er_482⟩ : ∃ qQ : pR, qQ = thn (1, hc, 0) (fun t _ => sCol b nn v_472 t) := ⟨_, rfl⟩
                      rw [← er_482] at hp_481
                      obtain ⟨rfl, rfl, rfl, rfl, hv, pfq, q_483, q_484, hQ, q_485⟩ := hp_481
                      have pf := qF_t pf pfq
                      have u_486_2 : (I_474 mo 2).toInt = (I mo 2).toInt := by rw [pf 2 (by decide) (by decide) (by decide) (by decide) (by decide)]
                      have u_486_5 : (I_474 mo 5).toInt = (I mo 5).toInt := by rw [pf 5 (by decide) (by decide) (by decide) (by decide) (by decide)]
                      have u_486_14 : (I_474 mo 14).toInt = (I mo 14).toInt := by rw [pf 14 (by decide) (by decide) (by decide) (by decide) (by decide)]
                      have u_486_16 : (I_474 mo 16).toInt = (I mo 16).toInt := by rw [pf 16 (by decide) (by decide) (by decide) (by decide) (by decide)]
                      have u_486_18 : (I_474 mo 18).toInt = (I mo 18).toInt := by rw [pf 18 (by decide) (by decide) (by decide) (by decide) (by decide)]
                      rw [thn_b (by omega)] at er_482
                      have hQ : mQ gh I_474 J_476 AI_28 AJ mo b nn nr nt cc 1 hc := by rw [er_482] at hQ; exact hQ
                      replace q_484 := hid q_484
                      obtain ⟨f1, ef1⟩ : ∃ q, q = (I_474 mo 24).toInt := ⟨_, rfl⟩
                      have hc1 : Hid (f1 = 0 → 0 ≤ v_480 ∧ v_480 ≤ 3) := fun h9 => by omega
                      refine lv_istore (lv' := [(4, .int (iI v_480)), (3, .int (iI mr)), (2, .int (iI n)), (1, .int (iI v_8)), (0, .ref mo)]) F.1 F.2.1 dX7_selectTold_82 hl (by decide) rfl (fun ls hl => ?_)
                      have hTs : sTest b nn (cF b nn nr nt cc h) n hc = (1, hc, 0) := pE1 (sTest_c (c := (cF b nn nr nt cc h)) (pCf_n1 (by omega))) (by omega)
                      have hS9 : sSel b nn nr nt cc h = (1, hc, 0) := sTests_no hsq (f := (8 - n).toNat) (by omega) hTs.symm (by omega)
                      have hfin : thn (f, h, 0) (fun t _ => sSel b nn nr nt cc t) = (1, hc, 0) := (thn_k q0).trans hS9
                      exact cut_84_169 v_480 I_474 J_476 AI_28 H locs ls zv_480 hv hT pf ⟨_, _, by omega, hQ, hfin⟩ (by omega) hH hS (lv_sub hl [1, 2, 3, 4, 0] rfl)
                    · exact absurd trivial (by omega)
                  · have t_487 := tkM_1 ((mQ_k hQ rfl).symm.trans (by omega))
                    have t_487v := mQ_v hQ rfl (by omega)
                    have t_487c := pV_c t_487
                    refine lv_aload_n F.1 F.2.1 dX7_selectTold_41 rfl (lv_at hl 3 rfl) ?_
                    refine g_getI (ci := 7) (k := 23) F hH rfl (by decide) iX7 hm (by decide) rfl k97 dX7_selectTold_42 ?_
                    refine lv_aload_n F.1 F.2.1 dX7_selectTold_45 rfl (lv_at hl 3 rfl) ?_
                    refine lv_iload_n F.1 F.2.1 dX7_selectTold_46 rfl (lv_at hl 2 rfl) ?_
                    refine g_calli (g_runV (As := [.int (iI v_8)]) (rest := [.int (iI ((I_26 mo 23).toInt)), .ref mo]) (ci := 7) F hl.1 hH hS hz (c_X7_columns l g gh T I_26 R J_27 AI_28 AJ AR mo v_8 zv_8 hv hm hT (by omega)) (cwV 1 F.2.2.2.2.1 (good_up gT_X7_columns) rfl rfl rfl hdX7_columns ⟨Nat.le_of_ble_eq_true rfl, Nat.le_of_ble_eq_true rfl⟩) hm (by decide) rfl rfl rfl (Nat.le_of_ble_eq_true rfl) dX7_selectTold_47 ⟨Nat.zero_le _, Nat.zero_le _⟩) hS (fun v_495 I_489 R_490 J_491 AI_492 AJ_493 AR_494 H locs zv_495 hp_496 hH hS => ?_)
                    dsimp only at hp_496
                    obtain ⟨rfl, rfl, rfl, rfl, rfl, rfl, q_488⟩ := hp_496
                    have cvv_495 : v_495 = cF b nn nr nt cc h := q_488.trans ((mQ_c hQ rfl vlr_10.1 vlr_10.2.1).trans vlr_10.2.2)
                    refine z_icmp_lt (tgt := 57) F dX7_selectTold_50 (by decide) (zr_t _) zv_495 (fun c_497 => ?_) (fun c_497 => ?_)
                    · refine lv_aload_n F.1 F.2.1 dX7_selectTold_57 rfl (lv_at hl 3 rfl) ?_
                      refine g_getI (ci := 7) (k := 21) F hH rfl (by decide) iX7 hm (by decide) rfl k94 dX7_selectTold_58 ?_
                      refine z_iconst F dX7_selectTold_61 ?_
                      refine z_icmp_ne (tgt := 69) F dX7_selectTold_62 (by decide) (zr_t _) ⟨by decide, by decide⟩ (fun c_498 => ?_) (fun c_498 => ?_)
                      · exact absurd trivial (by omega)
                      · have t_499 := tkM_1 ((mQ_k hQ rfl).symm.trans (by omega))
                        have t_499v := mQ_v hQ rfl (by omega)
                        have t_499c := pV_c t_499
                        refine z_iconst F dX7_selectTold_65 ?_
                        refine z_goto (tgt := 70) F dX7_selectTold_66 (by decide) ?_
                        refine g_callv (g_runV (As := [.int (iI 4)]) (rest := []) (ci := 7) F hl.1 hH hS hz (c_X7_wrongf l g gh T b nn nr nt cc 0 hc I_26 R J_27 AI_28 AJ AR mo 4 ⟨by decide, by decide⟩ hv hm hT (by omega) h65 hbM hr7 (by omega) hn9 (by omega) hQ) (cwV 1 F.2.2.2.2.1 (good_up gT_X7_wrong) rfl rfl rfl hdX7_wrong ⟨Nat.le_of_ble_eq_true rfl, Nat.le_of_ble_eq_true rfl⟩) hm (by decide) rfl rfl rfl (Nat.le_of_ble_eq_true rfl) dX7_selectTold_70 ⟨Nat.zero_le _, Nat.zero_le _⟩) hS (fun I_500 R_501 J_502 AI_503 AJ_504 AR_505 H locs hp_506 hH hS => ?_)
                        dsimp only at hp_506
                        obtain ⟨r_507, er_507⟩ : ∃ qQ : pR, qQ = thn (0, hc, 0) (fun t _ => (4, t, 0)) := ⟨_, rfl⟩
                        rw [← er_507] at hp_506
                        obtain ⟨rfl, rfl, rfl, rfl, rfl, hv, pfq, q_508, hQ⟩ := hp_506
                        have pf := qF_t pf pfq
                        have u_509_2 : (I_500 mo 2).toInt = (I mo 2).toInt := by rw [pf 2 (by decide) (by decide) (by decide) (by decide) (by decide)]
                        have u_509_5 : (I_500 mo 5).toInt = (I mo 5).toInt := by rw [pf 5 (by decide) (by decide) (by decide) (by decide) (by decide)]
                        have u_509_14 : (I_500 mo 14).toInt = (I mo 14).toInt := by rw [pf 14 (by decide) (by decide) (by decide) (by decide) (by decide)]
                        have u_509_16 : (I_500 mo 16).toInt = (I mo 16).toInt := by rw [pf 16 (by decide) (by decide) (by decide) (by decide) (by decide)]
                        have u_509_18 : (I_500 mo 18).toInt = (I mo 18).toInt := by rw [pf 18 (by decide) (by decide) (by decide) (by decide) (by decide)]
                        have er_507 : r_507 = (4, hc, 0) := er_507
                        have hQ : mQ gh I_500 J_27 AI_28 AJ mo b nn nr nt cc 4 hc := by rw [er_507] at hQ; exact hQ
                        have q9_r_507 : (4 : Int) ≠ 0 := by omega
                        have g9_r_507 := mQ_f hQ q9_r_507
                        refine lv_aload_n F.1 F.2.1 dX7_selectTold_73 rfl (lv_at hl 3 rfl) ?_
                        refine lv_aload_n F.1 F.2.1 dX7_selectTold_74 rfl (lv_at hl 3 rfl) ?_
                        refine lv_iload_n F.1 F.2.1 dX7_selectTold_75 rfl (lv_at hl 2 rfl) ?_
                        have b_511 := mJ hv hm
                        unfold mNum1 at b_511
                        refine g_calli (g_runV (As := [.int (iI v_8)]) (rest := [.ref mo]) (ci := 7) F hl.1 hH hS hz (c_X7_columns l g gh T I_500 R J_27 AI_28 AJ AR mo v_8 zv_8 hv hm hT (by omega)) (cwV 1 F.2.2.2.2.1 (good_up gT_X7_columns) rfl rfl rfl hdX7_columns ⟨Nat.le_of_ble_eq_true rfl, Nat.le_of_ble_eq_true rfl⟩) hm (by decide) rfl rfl rfl (Nat.le_of_ble_eq_true rfl) dX7_selectTold_76 ⟨Nat.zero_le _, Nat.zero_le _⟩) hS (fun v_518 I_512 R_513 J_514 AI_515 AJ_516 AR_517 H locs zv_518 hp_519 hH hS => ?_)
                        dsimp only at hp_519
                        obtain ⟨rfl, rfl, rfl, rfl, rfl, rfl, q_510⟩ := hp_519
                        refine g_calli (g_runV (As := [.int (iI v_518)]) (rest := []) (ci := 7) F hl.1 hH hS hz (c_X7_columnf l g gh T b nn nr nt cc 4 hc I_500 R J_27 AI_28 AJ AR mo v_518 zv_518 hv hm hT (by omega) h65 hbM hr7 (by omega) hn9 (by omega) hQ) (cwV 1 F.2.2.2.2.1 (good_up gT_X7_column) rfl rfl rfl hdX7_column ⟨Nat.le_of_ble_eq_true rfl, Nat.le_of_ble_eq_true rfl⟩) hm (by decide) rfl rfl rfl (Nat.le_of_ble_eq_true rfl) dX7_selectTold_79 ⟨Nat.zero_le _, Nat.zero_le _⟩) hS (fun v_526 I_520 R_521 J_522 AI_523 AJ_524 AR_525 H locs zv_526 hp_527 hH hS => ?_)
                        dsimp only at hp_527
                        obtain ⟨r_528, er_528⟩ : ∃ qQ : pR, qQ = thn (4, hc, 0) (fun t _ => sCol b nn v_518 t) := ⟨_, rfl⟩
                        rw [← er_528] at hp_527
                        obtain ⟨rfl, rfl, rfl, rfl, hv, pfq, q_529, q_530, hQ, q_531⟩ := hp_527
                        have pf := qF_t pf pfq
                        have u_532_2 : (I_520 mo 2).toInt = (I mo 2).toInt := by rw [pf 2 (by decide) (by decide) (by decide) (by decide) (by decide)]
                        have u_532_5 : (I_520 mo 5).toInt = (I mo 5).toInt := by rw [pf 5 (by decide) (by decide) (by decide) (by decide) (by decide)]
                        have u_532_14 : (I_520 mo 14).toInt = (I mo 14).toInt := by rw [pf 14 (by decide) (by decide) (by decide) (by decide) (by decide)]
                        have u_532_16 : (I_520 mo 16).toInt = (I mo 16).toInt := by rw [pf 16 (by decide) (by decide) (by decide) (by decide) (by decide)]
                        have u_532_18 : (I_520 mo 18).toInt = (I mo 18).toInt := by rw [pf 18 (by decide) (by decide) (by decide) (by decide) (by decide)]
                        rw [thn_b (by omega)] at er_528
                        have hQ : mQ gh I_520 J_522 AI_28 AJ mo b nn nr nt cc 4 hc := by rw [er_528] at hQ; exact hQ
                        replace q_530 := hid q_530
                        obtain ⟨f1, ef1⟩ : ∃ q, q = (I_520 mo 24).toInt := ⟨_, rfl⟩
                        have hc1 : Hid (f1 = 0 → 0 ≤ v_526 ∧ v_526 ≤ 3) := fun h9 => by omega
                        refine lv_istore (lv' := [(4, .int (iI v_526)), (3, .int (iI mr)), (2, .int (iI n)), (1, .int (iI v_8)), (0, .ref mo)]) F.1 F.2.1 dX7_selectTold_82 hl (by decide) rfl (fun ls hl => ?_)
                        have hTs : sTest b nn (cF b nn nr nt cc h) n hc = (4, hc, 0) := sTest_4 (pCf_ok (by omega) (by omega)) (by omega)
                        have hS9 : sSel b nn nr nt cc h = (4, hc, 0) := sTests_no hsq (f := (8 - n).toNat) (by omega) hTs.symm (by omega)
                        have hfin : thn (f, h, 0) (fun t _ => sSel b nn nr nt cc t) = (4, hc, 0) := (thn_k q0).trans hS9
                        exact cut_84_169 v_526 I_520 J_522 AI_28 H locs ls zv_526 hv hT pf ⟨_, _, by omega, hQ, hfin⟩ (by omega) hH hS (lv_sub hl [1, 2, 3, 4, 0] rfl)
                    · refine z_iconst F dX7_selectTold_53 ?_
                      refine z_goto (tgt := 70) F dX7_selectTold_54 (by decide) ?_
                      refine g_callv (g_runV (As := [.int (iI 2)]) (rest := []) (ci := 7) F hl.1 hH hS hz (c_X7_wrongf l g gh T b nn nr nt cc 0 hc I_26 R J_27 AI_28 AJ AR mo 2 ⟨by decide, by decide⟩ hv hm hT (by omega) h65 hbM hr7 (by omega) hn9 (by omega) hQ) (cwV 1 F.2.2.2.2.1 (good_up gT_X7_wrong) rfl rfl rfl hdX7_wrong ⟨Nat.le_of_ble_eq_true rfl, Nat.le_of_ble_eq_true rfl⟩) hm (by decide) rfl rfl rfl (Nat.le_of_ble_eq_true rfl) dX7_selectTold_70 ⟨Nat.zero_le _, Nat.zero_le _⟩) hS (fun I_533 R_534 J_535 AI_536 AJ_537 AR_538 H locs hp_539 hH hS => ?_)
                      dsimp only at hp_539
                      obtain ⟨r_540, er_540⟩ : ∃ qQ : pR, qQ = thn (0, hc, 0) (fun t _ => (2, t, 0)) := ⟨_, rfl⟩
                      rw [← er_540] at hp_539
                      obtain ⟨rfl, rfl, rfl, rfl, rfl, hv, pfq, q_541, hQ⟩ := hp_539
                      have pf := qF_t pf pfq
                      have u_542_2 : (I_533 mo 2).toInt = (I mo 2).toInt := by rw [pf 2 (by decide) (by decide) (by decide) (by decide) (by decide)]
                      have u_542_5 : (I_533 mo 5).toInt = (I mo 5).toInt := by rw [pf 5 (by decide) (by decide) (by decide) (by decide) (by decide)]
                      have u_542_14 : (I_533 mo 14).toInt = (I mo 14).toInt := by rw [pf 14 (by decide) (by decide) (by decide) (by decide) (by decide)]
                      have u_542_16 : (I_533 mo 16).toInt = (I mo 16).toInt := by rw [pf 16 (by decide) (by decide) (by decide) (by decide) (by decide)]
                      have u_542_18 : (I_533 mo 18).toInt = (I mo 18).toInt := by rw [pf 18 (by decide) (by decide) (by decide) (by decide) (by decide)]
                      have er_540 : r_540 = (2, hc, 0) := er_540
                      have hQ : mQ gh I_533 J_27 AI_28 AJ mo b nn nr nt cc 2 hc := by rw [er_540] at hQ; exact hQ
                      have q9_r_540 : (2 : Int) ≠ 0 := by omega
                      have g9_r_540 := mQ_f hQ q9_r_540
                      refine lv_aload_n F.1 F.2.1 dX7_selectTold_73 rfl (lv_at hl 3 rfl) ?_
                      refine lv_aload_n F.1 F.2.1 dX7_selectTold_74 rfl (lv_at hl 3 rfl) ?_
                      refine lv_iload_n F.1 F.2.1 dX7_selectTold_75 rfl (lv_at hl 2 rfl) ?_
                      have b_544 := mJ hv hm
                      unfold mNum1 at b_544
                      refine g_calli (g_runV (As := [.int (iI v_8)]) (rest := [.ref mo]) (ci := 7) F hl.1 hH hS hz (c_X7_columns l g gh T I_533 R J_27 AI_28 AJ AR mo v_8 zv_8 hv hm hT (by omega)) (cwV 1 F.2.2.2.2.1 (good_up gT_X7_columns) rfl rfl rfl hdX7_columns ⟨Nat.le_of_ble_eq_true rfl, Nat.le_of_ble_eq_true rfl⟩) hm (by decide) rfl rfl rfl (Nat.le_of_ble_eq_true rfl) dX7_selectTold_76 ⟨Nat.zero_le _, Nat.zero_le _⟩) hS (fun v_551 I_545 R_546 J_547 AI_548 AJ_549 AR_550 H locs zv_551 hp_552 hH hS => ?_)
                      dsimp only at hp_552
                      obtain ⟨rfl, rfl, rfl, rfl, rfl, rfl, q_543⟩ := hp_552
                      refine g_calli (g_runV (As := [.int (iI v_551)]) (rest := []) (ci := 7) F hl.1 hH hS hz (c_X7_columnf l g gh T b nn nr nt cc 2 hc I_533 R J_27 AI_28 AJ AR mo v_551 zv_551 hv hm hT (by omega) h65 hbM hr7 (by omega) hn9 (by omega) hQ) (cwV 1 F.2.2.2.2.1 (good_up gT_X7_column) rfl rfl rfl hdX7_column ⟨Nat.le_of_ble_eq_true rfl, Nat.le_of_ble_eq_true rfl⟩) hm (by decide) rfl rfl rfl (Nat.le_of_ble_eq_true rfl) dX7_selectTold_79 ⟨Nat.zero_le _, Nat.zero_le _⟩) hS (fun v_559 I_553 R_554 J_555 AI_556 AJ_557 AR_558 H locs zv_559 hp_560 hH hS => ?_)
                      dsimp only at hp_560
                      obtain ⟨r_561, er_561⟩ : ∃ qQ : pR, qQ = thn (2, hc, 0) (fun t _ => sCol b nn v_551 t) := ⟨_, rfl⟩
                      rw [← er_561] at hp_560
                      obtain ⟨rfl, rfl, rfl, rfl, hv, pfq, q_562, q_563, hQ, q_564⟩ := hp_560
                      have pf := qF_t pf pfq
                      have u_565_2 : (I_553 mo 2).toInt = (I mo 2).toInt := by rw [pf 2 (by decide) (by decide) (by decide) (by decide) (by decide)]
                      have u_565_5 : (I_553 mo 5).toInt = (I mo 5).toInt := by rw [pf 5 (by decide) (by decide) (by decide) (by decide) (by decide)]
                      have u_565_14 : (I_553 mo 14).toInt = (I mo 14).toInt := by rw [pf 14 (by decide) (by decide) (by decide) (by decide) (by decide)]
                      have u_565_16 : (I_553 mo 16).toInt = (I mo 16).toInt := by rw [pf 16 (by decide) (by decide) (by decide) (by decide) (by decide)]
                      have u_565_18 : (I_553 mo 18).toInt = (I mo 18).toInt := by rw [pf 18 (by decide) (by decide) (by decide) (by decide) (by decide)]
                      rw [thn_b (by omega)] at er_561
                      have hQ : mQ gh I_553 J_555 AI_28 AJ mo b nn nr nt cc 2 hc := by rw [er_561] at hQ; exact hQ
                      replace q_563 := hid q_563
                      obtain ⟨f1, ef1⟩ : ∃ q, q = (I_553 mo 24).toInt := ⟨_, rfl⟩
                      have hc1 : Hid (f1 = 0 → 0 ≤ v_559 ∧ v_559 ≤ 3) := fun h9 => by omega
                      refine lv_istore (lv' := [(4, .int (iI v_559)), (3, .int (iI mr)), (2, .int (iI n)), (1, .int (iI v_8)), (0, .ref mo)]) F.1 F.2.1 dX7_selectTold_82 hl (by decide) rfl (fun ls hl => ?_)
                      have hTs : sTest b nn (cF b nn nr nt cc h) n hc = (2, hc, 0) := pE2 (sTest_c (pCf_n2 (by omega) (by omega))) (by omega) (by omega)
                      have hS9 : sSel b nn nr nt cc h = (2, hc, 0) := sTests_no hsq (f := (8 - n).toNat) (by omega) hTs.symm (by omega)
                      have hfin : thn (f, h, 0) (fun t _ => sSel b nn nr nt cc t) = (2, hc, 0) := (thn_k q0).trans hS9
                      exact cut_84_169 v_559 I_553 J_555 AI_28 H locs ls zv_559 hv hT pf ⟨_, _, by omega, hQ, hfin⟩ (by omega) hH hS (lv_sub hl [1, 2, 3, 4, 0] rfl)
        exact cut_15_28 (((10 - 0) + 1 : Int).toNat) 0 1 I_16 J_18 AI H locs ls ⟨by decide, by decide⟩ ⟨by decide, by decide⟩ hv hT pf (by omega) ((fun _ => ⟨by omega, fun k a b => absurd b (by omega)⟩)) ⟨_, hQ, by unfold sSel; exact thn_y sr_10.symm rfl (thn_y sr_23.symm rfl (rfl))⟩ (by omega) (by omega) hH hS (lv_sub hl [0, 1, 2, 3] rfl)
      · have hQ : mQ gh I_16 J_18 AI AJ mo b nn nr nt cc 1 (h + 1) := by rw [er_23] at hQ; exact hQ
        have sr_23 := sr_23.symm.trans er_23
        have g9r_23 := mQ_f hQ (by omega)
        refine z_iconst F dX7_selectTold_11 ?_
        refine lv_istore_n (lv' := [(2, .int (iI 0)), (1, .int (iI v_8)), (0, .ref mo)]) F.1 F.2.1 dX7_selectTold_12 rfl hl (by decide) rfl (fun ls hl => ?_)
        refine z_iconst F dX7_selectTold_13 ?_
        refine lv_istore_n (lv' := [(3, .int (iI 1)), (2, .int (iI 0)), (1, .int (iI v_8)), (0, .ref mo)]) F.1 F.2.1 dX7_selectTold_14 rfl hl (by decide) rfl (fun ls hl => ?_)
        refine lv_iload_n F.1 F.2.1 dX7_selectTold_15 rfl (lv_at hl 0 rfl) ?_
        refine z_if_eq (tgt := 220) F dX7_selectTold_16 (by decide) ⟨by decide, by decide⟩ (fun c_566 => ?_) (fun c_566 => ?_)
        · exact absurd trivial (by omega)
        · refine lv_aload_n F.1 F.2.1 dX7_selectTold_19 rfl (lv_at hl 3 rfl) ?_
          refine g_getI (ci := 7) (k := 24) F hH rfl (by decide) iX7 hm (by decide) rfl k81 dX7_selectTold_20 ?_
          have b_567 := mJ hv hm
          unfold mNum1 at b_567
          refine z_if_ne (tgt := 220) F dX7_selectTold_23 (by decide) (zr_t _) (fun c_568 => ?_) (fun c_568 => ?_)
          · refine lv_aload_n F.1 F.2.1 dX7_selectTold_220 rfl (lv_at hl 3 rfl) ?_
            refine z_iconst F dX7_selectTold_221 ?_
            refine lv_aload_n F.1 F.2.1 dX7_selectTold_222 rfl (lv_at hl 3 rfl) ?_
            refine lv_iload_n F.1 F.2.1 dX7_selectTold_223 rfl (lv_at hl 2 rfl) ?_
            refine g_calli (g_runV (As := [.int (iI v_8)]) (rest := [.int (iI 1), .ref mo]) (ci := 7) F hl.1 hH hS hz (c_X7_columns l g gh T I_16 R J_18 AI AJ AR mo v_8 zv_8 hv hm hT (by omega)) (cwV 1 F.2.2.2.2.1 (good_up gT_X7_columns) rfl rfl rfl hdX7_columns ⟨Nat.le_of_ble_eq_true rfl, Nat.le_of_ble_eq_true rfl⟩) hm (by decide) rfl rfl rfl (Nat.le_of_ble_eq_true rfl) dX7_selectTold_224 ⟨Nat.zero_le _, Nat.zero_le _⟩) hS (fun v_576 I_570 R_571 J_572 AI_573 AJ_574 AR_575 H locs zv_576 hp_577 hH hS => ?_)
            dsimp only at hp_577
            obtain ⟨rfl, rfl, rfl, rfl, rfl, rfl, q_569⟩ := hp_577
            have hcol : Hid ((I_16 mo 24).toInt = 0 → 1 ≤ v_576 ∧ v_576 ≤ 4) := fun h => by have q9 := mCol hv hm (z := v_8) (by omega) (by omega); omega
            refine lv_iload_n F.1 F.2.1 dX7_selectTold_227 rfl (lv_at hl 2 rfl) ?_
            refine z_iconst F dX7_selectTold_228 ?_
            refine lv_iload_n F.1 F.2.1 dX7_selectTold_229 rfl (lv_at hl 1 rfl) ?_
            refine g_callv (g_runV (As := [.int (iI 1), .int (iI v_576), .int (iI v_8), .int (iI ((-1))), .int (iI 0)]) (rest := []) (ci := 7) F hl.1 hH hS hz (c_X7_header l g gh T M I_16 R J_18 AI AJ AR mo 1 v_576 v_8 (-1) 0 ⟨by decide, by decide⟩ zv_576 zv_8 ⟨by decide, by decide⟩ ⟨by decide, by decide⟩ hv hm hT (by omega) (by omega)) (cwV 5 F.2.2.2.2.1 (good_up gT_X7_header) rfl rfl rfl hdX7_header ⟨Nat.le_of_ble_eq_true rfl, Nat.le_of_ble_eq_true rfl⟩) hm (by decide) rfl rfl rfl (Nat.le_of_ble_eq_true rfl) dX7_selectTold_230 ⟨Nat.zero_le _, Nat.zero_le _⟩) hS (fun I_578 R_579 J_580 AI_581 AJ_582 AR_583 H locs hp_584 hH hS => ?_)
            dsimp only at hp_584
            obtain ⟨rfl, rfl, rfl, rfl, rfl, hv, hT, hhd⟩ := hp_584
            replace hhd := hid hhd
            have hQ : mQ gh I_16 J_18 AI_581 AJ mo b nn nr nt cc 1 (h + 1) := mQ_bad hQ (by omega) rfl
            have hfin : thn (f, h, 0) (fun t _ => sSel b nn nr nt cc t) = (1, h + 1, 0) := (thn_k q0).trans (by show sSel b nn nr nt cc h = _; unfold sSel; exact thn_y sr_10.symm rfl (thn_x sr_23.symm (by omega)))
            exact g_vret F hr hlk hH hS hz ⟨rfl, rfl, rfl, hv, hT, pf, by first | (dsimp only; omega) | omega | rfl, by (try dsimp only); exact (fun hf => absurd hf (by omega)), by (try dsimp only); exact (fun hf => absurd hf (by omega)), by (try dsimp only); rw [hfin]; exact hQ, by (try dsimp only); rw [hfin]; exact pIc_n (by omega)⟩ dX7_selectTold_233
          · exact absurd (mQ_z hQ (by omega)) (by omega)
    · have hQ : mQ gh I_2 J_4 AI AJ mo b nn nr nt cc (pRf b nn nt nr h) h := by rw [er_10] at hQ; exact hQ
      have sr_10 := sr_10.symm.trans er_10
      have g9r_10 := mQ_f hQ (by omega)
      replace q_12 := (⟨q_12.1, q_12.2.1⟩ : _ ∧ _)
      obtain ⟨f0, ef0⟩ : ∃ q, q = (I_2 mo 24).toInt := ⟨_, rfl⟩
      have hr1 : Hid (f0 = 0 → v_8 < M) := fun h9 => by omega
      refine lv_istore_n (lv' := [(1, .int (iI v_8)), (0, .ref mo)]) F.1 F.2.1 dX7_selectTold_4 rfl hl (by decide) rfl (fun ls hl => ?_)
      refine lv_aload_n F.1 F.2.1 dX7_selectTold_5 rfl (lv_at hl 1 rfl) ?_
      refine va_ldcS F.1 F.2.1 F.2.2.2.1 (F.2.2.2.2.2.2.1 10 _ rfl).1 dX7_selectTold_6 ?_
      have b_585 := mJ hv hm
      unfold mNum1 at b_585
      refine g_callv (g_runV (As := [.ref (gSK g 10)]) (rest := []) (ci := 7) F hl.1 hH hS hz (c_X7_mustWordf l g gh T 10 _ 10 b nn nr nt cc (pRf b nn nt nr h) h I_2 R J_4 AI AJ AR mo hv hm hT (by omega) (rfl : sTab[10]? = some _) h65 hbM hr7 (by omega) hn9 (by omega) (by decide) (by decide +kernel) hQ) (cwV 1 F.2.2.2.2.1 (good_up gT_X7_mustWord) rfl rfl rfl hdX7_mustWord ⟨Nat.le_of_ble_eq_true rfl, Nat.le_of_ble_eq_true rfl⟩) hm (by decide) rfl rfl rfl (Nat.le_of_ble_eq_true rfl) dX7_selectTold_8 ⟨Nat.zero_le _, Nat.zero_le _⟩) hS (fun I_586 R_587 J_588 AI_589 AJ_590 AR_591 H locs hp_592 hH hS => ?_)
      dsimp only at hp_592
      obtain ⟨r_593, er_593⟩ : ∃ qQ : pR, qQ = thn ((pRf b nn nt nr h), h, 0) (fun t _ => sTw b nn ((10 : Nat) : Int) t) := ⟨_, rfl⟩
      rw [← er_593] at hp_592
      obtain ⟨rfl, rfl, rfl, rfl, hv, pfq, q_594, hQ⟩ := hp_592
      have pf := qF_t pf pfq
      have u_595_2 : (I_586 mo 2).toInt = (I mo 2).toInt := by rw [pf 2 (by decide) (by decide) (by decide) (by decide) (by decide)]
      have u_595_5 : (I_586 mo 5).toInt = (I mo 5).toInt := by rw [pf 5 (by decide) (by decide) (by decide) (by decide) (by decide)]
      have u_595_14 : (I_586 mo 14).toInt = (I mo 14).toInt := by rw [pf 14 (by decide) (by decide) (by decide) (by decide) (by decide)]
      have u_595_16 : (I_586 mo 16).toInt = (I mo 16).toInt := by rw [pf 16 (by decide) (by decide) (by decide) (by decide) (by decide)]
      have u_595_18 : (I_586 mo 18).toInt = (I mo 18).toInt := by rw [pf 18 (by decide) (by decide) (by decide) (by decide) (by decide)]
      rw [thn_b (by omega)] at er_593
      have hQ : mQ gh I_586 J_588 AI AJ mo b nn nr nt cc (pRf b nn nt nr h) h := by rw [er_593] at hQ; exact hQ
      refine z_iconst F dX7_selectTold_11 ?_
      refine lv_istore_n (lv' := [(2, .int (iI 0)), (1, .int (iI v_8)), (0, .ref mo)]) F.1 F.2.1 dX7_selectTold_12 rfl hl (by decide) rfl (fun ls hl => ?_)
      refine z_iconst F dX7_selectTold_13 ?_
      refine lv_istore_n (lv' := [(3, .int (iI 1)), (2, .int (iI 0)), (1, .int (iI v_8)), (0, .ref mo)]) F.1 F.2.1 dX7_selectTold_14 rfl hl (by decide) rfl (fun ls hl => ?_)
      refine lv_iload_n F.1 F.2.1 dX7_selectTold_15 rfl (lv_at hl 0 rfl) ?_
      refine z_if_eq (tgt := 220) F dX7_selectTold_16 (by decide) ⟨by decide, by decide⟩ (fun c_596 => ?_) (fun c_596 => ?_)
      · exact absurd trivial (by omega)
      · refine lv_aload_n F.1 F.2.1 dX7_selectTold_19 rfl (lv_at hl 3 rfl) ?_
        refine g_getI (ci := 7) (k := 24) F hH rfl (by decide) iX7 hm (by decide) rfl k81 dX7_selectTold_20 ?_
        have b_597 := mJ hv hm
        unfold mNum1 at b_597
        refine z_if_ne (tgt := 220) F dX7_selectTold_23 (by decide) (zr_t _) (fun c_598 => ?_) (fun c_598 => ?_)
        · refine lv_aload_n F.1 F.2.1 dX7_selectTold_220 rfl (lv_at hl 3 rfl) ?_
          refine z_iconst F dX7_selectTold_221 ?_
          refine lv_aload_n F.1 F.2.1 dX7_selectTold_222 rfl (lv_at hl 3 rfl) ?_
          refine lv_iload_n F.1 F.2.1 dX7_selectTold_223 rfl (lv_at hl 2 rfl) ?_
          refine g_calli (g_runV (As := [.int (iI v_8)]) (rest := [.int (iI 1), .ref mo]) (ci := 7) F hl.1 hH hS hz (c_X7_columns l g gh T I_586 R J_588 AI AJ AR mo v_8 zv_8 hv hm hT (by omega)) (cwV 1 F.2.2.2.2.1 (good_up gT_X7_columns) rfl rfl rfl hdX7_columns ⟨Nat.le_of_ble_eq_true rfl, Nat.le_of_ble_eq_true rfl⟩) hm (by decide) rfl rfl rfl (Nat.le_of_ble_eq_true rfl) dX7_selectTold_224 ⟨Nat.zero_le _, Nat.zero_le _⟩) hS (fun v_606 I_600 R_601 J_602 AI_603 AJ_604 AR_605 H locs zv_606 hp_607 hH hS => ?_)
          dsimp only at hp_607
          obtain ⟨rfl, rfl, rfl, rfl, rfl, rfl, q_599⟩ := hp_607
          have hcol : Hid ((I_586 mo 24).toInt = 0 → 1 ≤ v_606 ∧ v_606 ≤ 4) := fun h => by have q9 := mCol hv hm (z := v_8) (by omega) (by omega); omega
          refine lv_iload_n F.1 F.2.1 dX7_selectTold_227 rfl (lv_at hl 2 rfl) ?_
          refine z_iconst F dX7_selectTold_228 ?_
          refine lv_iload_n F.1 F.2.1 dX7_selectTold_229 rfl (lv_at hl 1 rfl) ?_
          refine g_callv (g_runV (As := [.int (iI 1), .int (iI v_606), .int (iI v_8), .int (iI ((-1))), .int (iI 0)]) (rest := []) (ci := 7) F hl.1 hH hS hz (c_X7_header l g gh T M I_586 R J_588 AI AJ AR mo 1 v_606 v_8 (-1) 0 ⟨by decide, by decide⟩ zv_606 zv_8 ⟨by decide, by decide⟩ ⟨by decide, by decide⟩ hv hm hT (by omega) (by omega)) (cwV 5 F.2.2.2.2.1 (good_up gT_X7_header) rfl rfl rfl hdX7_header ⟨Nat.le_of_ble_eq_true rfl, Nat.le_of_ble_eq_true rfl⟩) hm (by decide) rfl rfl rfl (Nat.le_of_ble_eq_true rfl) dX7_selectTold_230 ⟨Nat.zero_le _, Nat.zero_le _⟩) hS (fun I_608 R_609 J_610 AI_611 AJ_612 AR_613 H locs hp_614 hH hS => ?_)
          dsimp only at hp_614
          obtain ⟨rfl, rfl, rfl, rfl, rfl, hv, hT, hhd⟩ := hp_614
          replace hhd := hid hhd
          have hQ : mQ gh I_586 J_588 AI_611 AJ mo b nn nr nt cc (pRf b nn nt nr h) h := mQ_bad hQ (by omega) rfl
          have hfin : thn (f, h, 0) (fun t _ => sSel b nn nr nt cc t) = (pRf b nn nt nr h, h, 0) := (thn_k q0).trans (by show sSel b nn nr nt cc h = _; unfold sSel; exact thn_x sr_10.symm (by omega))
          exact g_vret F hr hlk hH hS hz ⟨rfl, rfl, rfl, hv, hT, pf, by first | (dsimp only; omega) | omega | rfl, by (try dsimp only); exact (fun hf => absurd hf (by omega)), by (try dsimp only); exact (fun hf => absurd hf (by omega)), by (try dsimp only); rw [hfin]; exact hQ, by (try dsimp only); rw [hfin]; exact pIc_n (by omega)⟩ dX7_selectTold_233
        · exact absurd (mQ_z hQ (by omega)) (by omega)
  · have hf1 := mQ_f hQ q0
    refine lv_aload_n F.1 F.2.1 dX7_selectTold_0 rfl (lv_at hl 0 rfl) ?_
    have b_615 := mJ hv hm
    unfold mNum1 at b_615
    refine g_calli (g_runV (As := []) (rest := []) (ci := 7) F hl.1 hH hS hz (c_X7_relationf l g gh T b nn nr nt cc f h I R J AI AJ AR mo hv hm hT (by omega) h65 hbM hr7 (by omega) hn9 (by omega) hQ) (cwV 0 F.2.2.2.2.1 (good_up gT_X7_relation) rfl rfl rfl hdX7_relation ⟨Nat.le_of_ble_eq_true rfl, Nat.le_of_ble_eq_true rfl⟩) hm (by decide) rfl rfl rfl (Nat.le_of_ble_eq_true rfl) dX7_selectTold_1 ⟨Nat.zero_le _, Nat.zero_le _⟩) hS (fun v_622 I_616 R_617 J_618 AI_619 AJ_620 AR_621 H locs zv_622 hp_623 hH hS => ?_)
    dsimp only at hp_623
    obtain ⟨r_624, er_624⟩ : ∃ qQ : pR, qQ = thn (f, h, 0) (fun t _ => sRl b nn nr nt cc t) := ⟨_, rfl⟩
    rw [← er_624] at hp_623
    obtain ⟨rfl, rfl, rfl, rfl, hv, pfq, q_625, q_626, hQ, q_627⟩ := hp_623
    have pf := qF_t pf pfq
    have u_628_2 : (I_616 mo 2).toInt = (I mo 2).toInt := by rw [pf 2 (by decide) (by decide) (by decide) (by decide) (by decide)]
    have u_628_5 : (I_616 mo 5).toInt = (I mo 5).toInt := by rw [pf 5 (by decide) (by decide) (by decide) (by decide) (by decide)]
    have u_628_14 : (I_616 mo 14).toInt = (I mo 14).toInt := by rw [pf 14 (by decide) (by decide) (by decide) (by decide) (by decide)]
    have u_628_16 : (I_616 mo 16).toInt = (I mo 16).toInt := by rw [pf 16 (by decide) (by decide) (by decide) (by decide) (by decide)]
    have u_628_18 : (I_616 mo 18).toInt = (I mo 18).toInt := by rw [pf 18 (by decide) (by decide) (by decide) (by decide) (by decide)]
    rw [thn_b (by omega)] at er_624
    have hQ : mQ gh I_616 J_618 AI AJ mo b nn nr nt cc f h := by rw [er_624] at hQ; exact hQ
    replace q_626 := (⟨q_626.1, q_626.2.1⟩ : _ ∧ _)
    obtain ⟨f0, ef0⟩ : ∃ q, q = (I_616 mo 24).toInt := ⟨_, rfl⟩
    have hr1 : Hid (f0 = 0 → v_622 < M) := fun h9 => by omega
    refine lv_istore_n (lv' := [(1, .int (iI v_622)), (0, .ref mo)]) F.1 F.2.1 dX7_selectTold_4 rfl hl (by decide) rfl (fun ls hl => ?_)
    refine lv_aload_n F.1 F.2.1 dX7_selectTold_5 rfl (lv_at hl 1 rfl) ?_
    refine va_ldcS F.1 F.2.1 F.2.2.2.1 (F.2.2.2.2.2.2.1 10 _ rfl).1 dX7_selectTold_6 ?_
    have b_629 := mJ hv hm
    unfold mNum1 at b_629
    refine g_callv (g_runV (As := [.ref (gSK g 10)]) (rest := []) (ci := 7) F hl.1 hH hS hz (c_X7_mustWordf l g gh T 10 _ 10 b nn nr nt cc f h I_616 R J_618 AI AJ AR mo hv hm hT (by omega) (rfl : sTab[10]? = some _) h65 hbM hr7 (by omega) hn9 (by omega) (by decide) (by decide +kernel) hQ) (cwV 1 F.2.2.2.2.1 (good_up gT_X7_mustWord) rfl rfl rfl hdX7_mustWord ⟨Nat.le_of_ble_eq_true rfl, Nat.le_of_ble_eq_true rfl⟩) hm (by decide) rfl rfl rfl (Nat.le_of_ble_eq_true rfl) dX7_selectTold_8 ⟨Nat.zero_le _, Nat.zero_le _⟩) hS (fun I_630 R_631 J_632 AI_633 AJ_634 AR_635 H locs hp_636 hH hS => ?_)
    dsimp only at hp_636
    obtain ⟨r_637, er_637⟩ : ∃ qQ : pR, qQ = thn (f, h, 0) (fun t _ => sTw b nn ((10 : Nat) : Int) t) := ⟨_, rfl⟩
    rw [← er_637] at hp_636
    obtain ⟨rfl, rfl, rfl, rfl, hv, pfq, q_638, hQ⟩ := hp_636
    have pf := qF_t pf pfq
    have u_639_2 : (I_630 mo 2).toInt = (I mo 2).toInt := by rw [pf 2 (by decide) (by decide) (by decide) (by decide) (by decide)]
    have u_639_5 : (I_630 mo 5).toInt = (I mo 5).toInt := by rw [pf 5 (by decide) (by decide) (by decide) (by decide) (by decide)]
    have u_639_14 : (I_630 mo 14).toInt = (I mo 14).toInt := by rw [pf 14 (by decide) (by decide) (by decide) (by decide) (by decide)]
    have u_639_16 : (I_630 mo 16).toInt = (I mo 16).toInt := by rw [pf 16 (by decide) (by decide) (by decide) (by decide) (by decide)]
    have u_639_18 : (I_630 mo 18).toInt = (I mo 18).toInt := by rw [pf 18 (by decide) (by decide) (by decide) (by decide) (by decide)]
    rw [thn_b (by omega)] at er_637
    have hQ : mQ gh I_630 J_632 AI AJ mo b nn nr nt cc f h := by rw [er_637] at hQ; exact hQ
    refine z_iconst F dX7_selectTold_11 ?_
    refine lv_istore_n (lv' := [(2, .int (iI 0)), (1, .int (iI v_622)), (0, .ref mo)]) F.1 F.2.1 dX7_selectTold_12 rfl hl (by decide) rfl (fun ls hl => ?_)
    refine z_iconst F dX7_selectTold_13 ?_
    refine lv_istore_n (lv' := [(3, .int (iI 1)), (2, .int (iI 0)), (1, .int (iI v_622)), (0, .ref mo)]) F.1 F.2.1 dX7_selectTold_14 rfl hl (by decide) rfl (fun ls hl => ?_)
    refine lv_iload_n F.1 F.2.1 dX7_selectTold_15 rfl (lv_at hl 0 rfl) ?_
    refine z_if_eq (tgt := 220) F dX7_selectTold_16 (by decide) ⟨by decide, by decide⟩ (fun c_640 => ?_) (fun c_640 => ?_)
    · exact absurd trivial (by omega)
    · refine lv_aload_n F.1 F.2.1 dX7_selectTold_19 rfl (lv_at hl 3 rfl) ?_
      refine g_getI (ci := 7) (k := 24) F hH rfl (by decide) iX7 hm (by decide) rfl k81 dX7_selectTold_20 ?_
      have b_641 := mJ hv hm
      unfold mNum1 at b_641
      refine z_if_ne (tgt := 220) F dX7_selectTold_23 (by decide) (zr_t _) (fun c_642 => ?_) (fun c_642 => ?_)
      · refine lv_aload_n F.1 F.2.1 dX7_selectTold_220 rfl (lv_at hl 3 rfl) ?_
        refine z_iconst F dX7_selectTold_221 ?_
        refine lv_aload_n F.1 F.2.1 dX7_selectTold_222 rfl (lv_at hl 3 rfl) ?_
        refine lv_iload_n F.1 F.2.1 dX7_selectTold_223 rfl (lv_at hl 2 rfl) ?_
        refine g_calli (g_runV (As := [.int (iI v_622)]) (rest := [.int (iI 1), .ref mo]) (ci := 7) F hl.1 hH hS hz (c_X7_columns l g gh T I_630 R J_632 AI AJ AR mo v_622 zv_622 hv hm hT (by omega)) (cwV 1 F.2.2.2.2.1 (good_up gT_X7_columns) rfl rfl rfl hdX7_columns ⟨Nat.le_of_ble_eq_true rfl, Nat.le_of_ble_eq_true rfl⟩) hm (by decide) rfl rfl rfl (Nat.le_of_ble_eq_true rfl) dX7_selectTold_224 ⟨Nat.zero_le _, Nat.zero_le _⟩) hS (fun v_650 I_644 R_645 J_646 AI_647 AJ_648 AR_649 H locs zv_650 hp_651 hH hS => ?_)
        dsimp only at hp_651
        obtain ⟨rfl, rfl, rfl, rfl, rfl, rfl, q_643⟩ := hp_651
        have hcol : Hid ((I_630 mo 24).toInt = 0 → 1 ≤ v_650 ∧ v_650 ≤ 4) := fun h => by have q9 := mCol hv hm (z := v_622) (by omega) (by omega); omega
        refine lv_iload_n F.1 F.2.1 dX7_selectTold_227 rfl (lv_at hl 2 rfl) ?_
        refine z_iconst F dX7_selectTold_228 ?_
        refine lv_iload_n F.1 F.2.1 dX7_selectTold_229 rfl (lv_at hl 1 rfl) ?_
        refine g_callv (g_runV (As := [.int (iI 1), .int (iI v_650), .int (iI v_622), .int (iI ((-1))), .int (iI 0)]) (rest := []) (ci := 7) F hl.1 hH hS hz (c_X7_header l g gh T M I_630 R J_632 AI AJ AR mo 1 v_650 v_622 (-1) 0 ⟨by decide, by decide⟩ zv_650 zv_622 ⟨by decide, by decide⟩ ⟨by decide, by decide⟩ hv hm hT (by omega) (by omega)) (cwV 5 F.2.2.2.2.1 (good_up gT_X7_header) rfl rfl rfl hdX7_header ⟨Nat.le_of_ble_eq_true rfl, Nat.le_of_ble_eq_true rfl⟩) hm (by decide) rfl rfl rfl (Nat.le_of_ble_eq_true rfl) dX7_selectTold_230 ⟨Nat.zero_le _, Nat.zero_le _⟩) hS (fun I_652 R_653 J_654 AI_655 AJ_656 AR_657 H locs hp_658 hH hS => ?_)
        dsimp only at hp_658
        obtain ⟨rfl, rfl, rfl, rfl, rfl, hv, hT, hhd⟩ := hp_658
        replace hhd := hid hhd
        have hQ : mQ gh I_630 J_632 AI_655 AJ mo b nn nr nt cc f h := mQ_bad hQ (by omega) rfl
        have hfin : thn (f, h, 0) (fun t _ => sSel b nn nr nt cc t) = (f, h, 0) := thn_b q0
        exact g_vret F hr hlk hH hS hz ⟨rfl, rfl, rfl, hv, hT, pf, by first | (dsimp only; omega) | omega | rfl, by (try dsimp only); exact (fun hf => absurd hf (by omega)), by (try dsimp only); exact (fun hf => absurd hf (by omega)), by (try dsimp only); rw [hfin]; exact hQ, by (try dsimp only); rw [hfin]; exact pIc_n (by omega)⟩ dX7_selectTold_233
      · exact absurd (mQ_z hQ (by omega)) (by omega)
