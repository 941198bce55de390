def rmX1_readSelectg : Room := { frames := 4, cells := 0, slots := 0, locals := 89 }
set_option maxHeartbeats 4000000 in
set_option maxRecDepth 100000 in
/-- a select -/
theorem c_X1_readSelectg (l : Launch) (g : gG) (gh : gGh) (q ln : Nat) (b : tTx) (n : Nat) (tl : Int) (nr : Nat) (nt : Nat → Nat) (cl : Nat → Int) (h : Nat) (I : gI) (R : gR) (J : gJ) (AI : gI) (AJ : gJ) (AR : gR) (a : Nat) (hv : gInv g gh R AR I AI) (hp : pS g gh R I a q ln) (hk : (I ln 0).toInt = 1) (hP : pH gh AR I J AI AJ a q b n tl nr nt cl h) (hk8 : (I ln 8).toInt = 0) (h4n : (I ln 4).toInt = -1) : gMet l g yX1_readSelect wsX1_readSelect rmX1_readSelectg [.ref a] (I, R, J, AI, AJ, AR) (gQi g (fun (z : Int) (w : gS) => R = w.2.1 ∧ J = w.2.2.1 ∧ AJ = w.2.2.2.2.1 ∧ AR = w.2.2.2.2.2 ∧ (gInv g gh R AR (w.1) (w.2.2.2.1)) ∧ (pS g gh R (w.1) a q ln) ∧ (pF a ln I (w.1)) ∧ (0 ≤ z ∧ z ≤ 4) ∧ (z = (sSel b n nr nt cl h).1) ∧ (pH gh AR (w.1) J (w.2.2.2.1) AJ a q b n tl nr nt cl (sSel b n nr nt cl h).2.1) ∧ (pIm z (((w.1) ln 2).toInt) ((sSel b n nr nt cl h).2.2)) ∧ (∀ b, b ≠ gh 3 ln → (w.2.2.2.1) b = AI b) ∧ (zIf z (kSel b n nr nt h ((w.1) ln) ((w.2.2.2.1) (gh 3 ln)))))) := by
  refine gStart (cc := cX1_readSelect) (maxL := 2) (ret := (some (.int))) (by decide) rfl (Nat.le_of_ble_eq_true rfl) ?_
  intro p e s m below meth c ls F hr hlk hH hz hS hl
  have hl : lv_has ls 2 [(0, .ref a)] := hl
  have hS : va_S (gA g) s.heap s.heap [] := hS
  obtain ⟨H, hHe⟩ : ∃ H : Heap, H = s.heap := ⟨_, rfl⟩
  obtain ⟨locs, hlo⟩ : ∃ k : List Loc, k = [] := ⟨_, rfl⟩
  have hH : gH g I R J AI AJ AR H := by rw [hHe]; exact hH
  have hS : va_S (gA g) s.heap H locs := by rw [hHe, hlo]; exact hS
  suffices hw : W p l e rmX1_readSelectg s m ([.ref a] : List Value).toArray below meth c H locs 0 0 (MQ below (gQi g (fun (z : Int) (w : gS) => R = w.2.1 ∧ J = w.2.2.1 ∧ AJ = w.2.2.2.2.1 ∧ AR = w.2.2.2.2.2 ∧ (gInv g gh R AR (w.1) (w.2.2.2.1)) ∧ (pS g gh R (w.1) a q ln) ∧ (pF a ln I (w.1)) ∧ (0 ≤ z ∧ z ≤ 4) ∧ (z = (sSel b n nr nt cl h).1) ∧ (pH gh AR (w.1) J (w.2.2.2.1) AJ a q b n tl nr nt cl (sSel b n nr nt cl h).2.1) ∧ (pIm z (((w.1) ln 2).toInt) ((sSel b n nr nt cl h).2.2)) ∧ (∀ b, b ≠ gh 3 ln → (w.2.2.2.1) b = AI b) ∧ (zIf z (kSel b n nr nt h ((w.1) ln) ((w.2.2.2.1) (gh 3 ln)))))) ([.ref a] : List Value).toArray s 0 0 (gA g)) (F0 m 0 ls []) by
    rw [hHe, hlo] at hw; exact hw
  clear hHe hlo
  have pf : pF a ln I I := pF_r
  have iX1 : ∀ w ∈ u_ws RX1 TX1 4, w ∈ wsX1_readSelect := (by decide +kernel)
  have iX0 : ∀ w ∈ u_ws RX0 TX0 15, w ∈ wsX1_readSelect := (by decide +kernel)
  have k29 : Cond.fieldLink RX1 29 (TX1 2).1 (TX1 2).2.1 (TX1 2).2.2.1 ∈ wsX1_readSelect := List.mem_of_getElem? (i := 1) rfl
  have k143 : Cond.fieldLink RX1 143 (TX0 5).1 (TX0 5).2.1 (TX0 5).2.2.1 ∈ wsX1_readSelect := List.mem_of_getElem? (i := 2) rfl
  have k136 : Cond.fieldLink RX1 136 (TX0 2).1 (TX0 2).2.1 (TX0 2).2.2.1 ∈ wsX1_readSelect := List.mem_of_getElem? (i := 3) rfl
  refine lv_aload_n F.1 F.2.1 dX1_readSelect_0 rfl (lv_at hl 0 rfl) ?_
  refine g_calli (g_runV (As := []) (rest := []) (ci := 1) F hl.1 hH hS hz (c_X1_readFirstg l g gh q ln b n tl nr nt cl h I R J AI AJ AR a hv hp (by omega) hP) (cwV 0 F.2.2.2.2.1 gX1_readSelect_X1_readFirst rfl rfl rfl hdX1_readFirst ⟨Nat.le_of_ble_eq_true rfl, Nat.le_of_ble_eq_true rfl⟩) hp.1 (by decide) rfl rfl rfl (Nat.le_of_ble_eq_true rfl) dX1_readSelect_1 ⟨Nat.zero_le _, Nat.zero_le _⟩) hS (fun v_7 I_1 R_2 J_3 AI_4 AJ_5 AR_6 H locs zv_7 hp_8 hH hS => ?_)
  dsimp only at hp_8
  obtain ⟨r_9, er_9⟩ : ∃ qQ : pR, qQ = sRl b n nr nt cl h := ⟨_, rfl⟩
  rw [← er_9] at hp_8
  obtain ⟨rfl, rfl, rfl, rfl, rfl, hv, hp, pfq, k8q, q_10, q_11, hP, q_12, q_13, rl3⟩ := hp_8
  have pf := pF_t pf pfq
  have u_14q : (I_1 q 1).toInt = (I q 1).toInt := by rw [pF_q hp pfq]
  have u_14_0 : (I_1 ln 0).toInt = (I ln 0).toInt := by rw [pfq.2]
  have u_14_8 : (I_1 ln 8).toInt = (I ln 8).toInt := by rw [k8q]
  refine lv_istore_n (lv' := [(1, .int (iI v_7)), (0, .ref a)]) F.1 F.2.1 dX1_readSelect_4 rfl hl (by decide) rfl (fun ls hl => ?_)
  refine lv_iload_n F.1 F.2.1 dX1_readSelect_5 rfl (lv_at hl 0 rfl) ?_
  refine z_if_ne (tgt := 16) F dX1_readSelect_6 (by decide) zv_7 (fun c_15 => ?_) (fun c_15 => ?_)
  · refine lv_iload_n F.1 F.2.1 dX1_readSelect_16 rfl (lv_at hl 0 rfl) ?_
    refine z_if_ne (tgt := 25) F dX1_readSelect_17 (by decide) zv_7 (fun c_16 => ?_) (fun c_16 => ?_)
    · refine lv_aload_n F.1 F.2.1 dX1_readSelect_25 rfl (lv_at hl 1 rfl) ?_
      refine g_getR (ci := 1) (k := 2) F hH rfl (by decide) iX1 hp.1 (by decide) rfl (b := ln) hp.2.2.2.1 k29 dX1_readSelect_26 ?_
      refine lv_aload_n F.1 F.2.1 dX1_readSelect_29 rfl (lv_at hl 1 rfl) ?_
      refine g_getR (ci := 1) (k := 2) F hH rfl (by decide) iX1 hp.1 (by decide) rfl (b := ln) hp.2.2.2.1 k29 dX1_readSelect_30 ?_
      refine g_getI (ci := 0) (k := 5) F hH rfl (by decide) iX0 hp.2.2.2.2.1 (by decide) rfl k143 dX1_readSelect_33 ?_
      have b_17 := gI_line hv hp.2.2.2.2.1
      unfold vLineI at b_17
      refine g_putI (ci := 0) (k := 2) F hH hS rfl (by decide) iX0 hp.2.2.2.2.1 (by decide) tyX0 tyX0_ok nmX0 rfl rfl rfl k136 dX1_readSelect_36 (fun H locs hH hS => ?_)
      obtain ⟨I_18, eI_18⟩ : ∃ qQ, qQ = gup2 I_1 ln 2 (iI ((I_1 ln 5).toInt)) := ⟨_, rfl⟩
      rw [← eI_18] at hH
      have kI_18 : ∀ b, b ≠ ln → I_18 b = I_1 b := fun b hb => by rw [eI_18]; exact funext fun j => gup2_a _ _ hb
      have hP := pH_ln hv hp hP kI_18
      have w_19 : (I_18 ln 2).toInt = (I_1 ln 5).toInt := by rw [eI_18, gup2_s]; exact iI_val ⟨by omega, by omega⟩
      have hp2 : pS g gh R I_18 a q ln := pS_ln hv hp kI_18
      have hv : gInv g gh R AR I_18 AI := by rw [eI_18]; exact gInv_line2 hv hp.2.2.2.2.1 (by omega) (by omega) (pS_col hp)
      have hp := hp2
      have pf : pF a ln I I_18 := pF_t pf (by rw [eI_18]; exact pF_ln (by decide))
      have w_19_k : ∀ j, j ≠ 2 → I_18 ln j = I_1 ln j := fun j hj => by rw [eI_18]; exact gup2_k _ _ hj
      have u_20q : (I_18 q 1).toInt = (I_1 q 1).toInt := by rw [kI_18 q (gO_ne hp.2.2.1 hp.2.2.2.2.1 (by decide))]
      have u_20_0 : (I_18 ln 0).toInt = (I_1 ln 0).toInt := by rw [w_19_k 0 (by decide)]
      have u_20_8 : (I_18 ln 8).toInt = (I_1 ln 8).toInt := by rw [w_19_k 8 (by decide)]
      have u_21 : (I_18 ln 3).toInt = (I_1 ln 3).toInt := by rw [w_19_k 3 (by decide)]
      have u_22 : (I_18 ln 4).toInt = (I_1 ln 4).toInt := by rw [w_19_k 4 (by decide)]
      have u_23 : (I_18 ln 5).toInt = (I_1 ln 5).toInt := by rw [w_19_k 5 (by decide)]
      have u_24 : (I_18 ln 6).toInt = (I_1 ln 6).toInt := by rw [w_19_k 6 (by decide)]
      have u_25 : (I_18 ln 9).toInt = (I_1 ln 9).toInt := by rw [w_19_k 9 (by decide)]
      have u_26 : (I_18 ln 10).toInt = (I_1 ln 10).toInt := by rw [w_19_k 10 (by decide)]
      have u_27 : (I_18 ln 11).toInt = (I_1 ln 11).toInt := by rw [w_19_k 11 (by decide)]
      have u_28 : (I_18 ln 12).toInt = (I_1 ln 12).toInt := by rw [w_19_k 12 (by decide)]
      refine lv_iload_n F.1 F.2.1 dX1_readSelect_39 rfl (lv_at hl 0 rfl) ?_
      have hfin : sSel b n nr nt cl h = r_9 := by
        unfold sSel
        repeat (first | with_reducible rfl | refine ite_y (by omega) ?_ | refine ite_n (by omega) ?_ | exact er_9.symm | exact thn_x er_9 (by omega) | exact pr_e (by omega) (by omega) (by omega))
      exact g_iret F hr hlk hH hS hz zv_7 ⟨rfl, rfl, rfl, rfl, hv, hp, pf, by first | omega | rfl | (dsimp only; omega), by (try dsimp only); rw [hfin]; first | done | omega | rfl, by (try dsimp only); rw [hfin]; exact hP, by (try dsimp only); first | exact pIm_n (by omega) | (rw [hfin]; (try dsimp only); exact pIm_y (by first | omega | rfl)) | exact pIm_y (by omega) | (rw [hfin]; (try dsimp only); exact fun h9 => by have q9 := q_13 h9; (try dsimp only at q9); omega), fun _ _ => rfl, by (try dsimp only); exact zIf_n (by omega)⟩ dX1_readSelect_40
    · exact absurd trivial (by omega)
  · have t_29 := q_13 (by omega)
    refine lv_aload_n F.1 F.2.1 dX1_readSelect_9 rfl (lv_at hl 1 rfl) ?_
    refine z_bipush F dX1_readSelect_10 (by decide) ?_
    refine g_calli (g_runV (As := [.int (iI 10)]) (rest := []) (ci := 1) F hl.1 hH hS hz (c_X1_takeWordg l g gh q ln b n tl nr nt cl r_9.2.1 I_1 R J AI AJ AR a 10 ⟨by decide, by decide⟩ hv hp hP) (cwV 1 F.2.2.2.2.1 gX1_readSelect_X1_takeWord rfl rfl rfl hdX1_takeWord ⟨Nat.le_of_ble_eq_true rfl, Nat.le_of_ble_eq_true rfl⟩) hp.1 (by decide) rfl rfl rfl (Nat.le_of_ble_eq_true rfl) dX1_readSelect_12 ⟨Nat.zero_le _, Nat.zero_le _⟩) hS (fun v_36 I_30 R_31 J_32 AI_33 AJ_34 AR_35 H locs zv_36 hp_37 hH hS => ?_)
    dsimp only at hp_37
    obtain ⟨r_38, er_38⟩ : ∃ qQ : pR, qQ = sTw b n 10 r_9.2.1 := ⟨_, rfl⟩
    rw [← er_38] at hp_37
    obtain ⟨rfl, rfl, rfl, rfl, rfl, hv, hp, pfq, flq, q_39, q_40, hP⟩ := hp_37
    have pf := pF_t pf pfq
    have u_41q : (I_30 q 1).toInt = (I_1 q 1).toInt := by rw [pF_q hp pfq]
    have u_41_0 : (I_30 ln 0).toInt = (I_1 ln 0).toInt := by rw [pfq.2]
    have u_41_8 : (I_30 ln 8).toInt = (I_1 ln 8).toInt := by rw [flq]
    have u_42 : (I_30 ln 2).toInt = (I_1 ln 2).toInt := by rw [flq]
    have u_43 : (I_30 ln 3).toInt = (I_1 ln 3).toInt := by rw [flq]
    have u_44 : (I_30 ln 4).toInt = (I_1 ln 4).toInt := by rw [flq]
    have u_45 : (I_30 ln 5).toInt = (I_1 ln 5).toInt := by rw [flq]
    have u_46 : (I_30 ln 6).toInt = (I_1 ln 6).toInt := by rw [flq]
    have u_47 : (I_30 ln 9).toInt = (I_1 ln 9).toInt := by rw [flq]
    have u_48 : (I_30 ln 10).toInt = (I_1 ln 10).toInt := by rw [flq]
    have u_49 : (I_30 ln 11).toInt = (I_1 ln 11).toInt := by rw [flq]
    have u_50 : (I_30 ln 12).toInt = (I_1 ln 12).toInt := by rw [flq]
    refine lv_istore_n (lv' := [(1, .int (iI v_36)), (0, .ref a)]) F.1 F.2.1 dX1_readSelect_15 rfl hl (by decide) rfl (fun ls hl => ?_)
    refine lv_iload_n F.1 F.2.1 dX1_readSelect_16 rfl (lv_at hl 0 rfl) ?_
    refine z_if_ne (tgt := 25) F dX1_readSelect_17 (by decide) zv_36 (fun c_51 => ?_) (fun c_51 => ?_)
    · refine lv_aload_n F.1 F.2.1 dX1_readSelect_25 rfl (lv_at hl 1 rfl) ?_
      refine g_getR (ci := 1) (k := 2) F hH rfl (by decide) iX1 hp.1 (by decide) rfl (b := ln) hp.2.2.2.1 k29 dX1_readSelect_26 ?_
      refine lv_aload_n F.1 F.2.1 dX1_readSelect_29 rfl (lv_at hl 1 rfl) ?_
      refine g_getR (ci := 1) (k := 2) F hH rfl (by decide) iX1 hp.1 (by decide) rfl (b := ln) hp.2.2.2.1 k29 dX1_readSelect_30 ?_
      refine g_getI (ci := 0) (k := 5) F hH rfl (by decide) iX0 hp.2.2.2.2.1 (by decide) rfl k143 dX1_readSelect_33 ?_
      have b_52 := gI_line hv hp.2.2.2.2.1
      unfold vLineI at b_52
      refine g_putI (ci := 0) (k := 2) F hH hS rfl (by decide) iX0 hp.2.2.2.2.1 (by decide) tyX0 tyX0_ok nmX0 rfl rfl rfl k136 dX1_readSelect_36 (fun H locs hH hS => ?_)
      obtain ⟨I_53, eI_53⟩ : ∃ qQ, qQ = gup2 I_30 ln 2 (iI ((I_30 ln 5).toInt)) := ⟨_, rfl⟩
      rw [← eI_53] at hH
      have kI_53 : ∀ b, b ≠ ln → I_53 b = I_30 b := fun b hb => by rw [eI_53]; exact funext fun j => gup2_a _ _ hb
      have hP := pH_ln hv hp hP kI_53
      have w_54 : (I_53 ln 2).toInt = (I_30 ln 5).toInt := by rw [eI_53, gup2_s]; exact iI_val ⟨by omega, by omega⟩
      have hp2 : pS g gh R I_53 a q ln := pS_ln hv hp kI_53
      have hv : gInv g gh R AR I_53 AI := by rw [eI_53]; exact gInv_line2 hv hp.2.2.2.2.1 (by omega) (by omega) (pS_col hp)
      have hp := hp2
      have pf : pF a ln I I_53 := pF_t pf (by rw [eI_53]; exact pF_ln (by decide))
      have w_54_k : ∀ j, j ≠ 2 → I_53 ln j = I_30 ln j := fun j hj => by rw [eI_53]; exact gup2_k _ _ hj
      have u_55q : (I_53 q 1).toInt = (I_30 q 1).toInt := by rw [kI_53 q (gO_ne hp.2.2.1 hp.2.2.2.2.1 (by decide))]
      have u_55_0 : (I_53 ln 0).toInt = (I_30 ln 0).toInt := by rw [w_54_k 0 (by decide)]
      have u_55_8 : (I_53 ln 8).toInt = (I_30 ln 8).toInt := by rw [w_54_k 8 (by decide)]
      have u_56 : (I_53 ln 3).toInt = (I_30 ln 3).toInt := by rw [w_54_k 3 (by decide)]
      have u_57 : (I_53 ln 4).toInt = (I_30 ln 4).toInt := by rw [w_54_k 4 (by decide)]
      have u_58 : (I_53 ln 5).toInt = (I_30 ln 5).toInt := by rw [w_54_k 5 (by decide)]
      have u_59 : (I_53 ln 6).toInt = (I_30 ln 6).toInt := by rw [w_54_k 6 (by decide)]
      have u_60 : (I_53 ln 9).toInt = (I_30 ln 9).toInt := by rw [w_54_k 9 (by decide)]
      have u_61 : (I_53 ln 10).toInt = (I_30 ln 10).toInt := by rw [w_54_k 10 (by decide)]
      have u_62 : (I_53 ln 11).toInt = (I_30 ln 11).toInt := by rw [w_54_k 11 (by decide)]
      have u_63 : (I_53 ln 12).toInt = (I_30 ln 12).toInt := by rw [w_54_k 12 (by decide)]
      refine lv_iload_n F.1 F.2.1 dX1_readSelect_39 rfl (lv_at hl 0 rfl) ?_
      have hfin : sSel b n nr nt cl h = r_38 := by
        unfold sSel
        repeat (first | with_reducible rfl | refine ite_y (by omega) ?_ | refine ite_n (by omega) ?_ | exact er_38.symm | exact thn_x er_38 (by omega) | refine thn_y er_9 (by omega) ?_ | exact pr_e (by omega) (by omega) (by omega))
      exact g_iret F hr hlk hH hS hz zv_36 ⟨rfl, rfl, rfl, rfl, hv, hp, pf, by first | omega | rfl | (dsimp only; omega), by (try dsimp only); rw [hfin]; first | done | omega | rfl, by (try dsimp only); rw [hfin]; exact hP, by (try dsimp only); first | exact pIm_n (by omega) | (rw [hfin]; (try dsimp only); exact pIm_y (by first | omega | rfl)) | exact pIm_y (by omega), fun _ _ => rfl, by (try dsimp only); exact zIf_n (by omega)⟩ dX1_readSelect_40
    · refine lv_aload_n F.1 F.2.1 dX1_readSelect_20 rfl (lv_at hl 1 rfl) ?_
      refine g_calli (g_runV (As := []) (rest := []) (ci := 1) F hl.1 hH hS hz (c_X1_readTestsg l g gh q ln r_9.2.2 b n tl nr nt cl r_38.2.1 I_30 R J AI AJ AR a hv hp (by omega) hP (by omega) (by omega)) (cwV 0 F.2.2.2.2.1 gX1_readSelect_X1_readTests rfl rfl rfl hdX1_readTests ⟨Nat.le_of_ble_eq_true rfl, Nat.le_of_ble_eq_true rfl⟩) hp.1 (by decide) rfl rfl rfl (Nat.le_of_ble_eq_true rfl) dX1_readSelect_21 ⟨Nat.zero_le _, Nat.zero_le _⟩) hS (fun v_70 I_64 R_65 J_66 AI_67 AJ_68 AR_69 H locs zv_70 hp_71 hH hS => ?_)
      dsimp only at hp_71
      obtain ⟨r_72, er_72⟩ : ∃ qQ : pR, qQ = sTests b n r_9.2.2 9 0 r_38.2.1 := ⟨_, rfl⟩
      rw [← er_72] at hp_71
      obtain ⟨rfl, rfl, rfl, rfl, hv, hp, pfq, q_73, q_74, hP, q_75, q_76, fAq, ctl⟩ := hp_71
      have pf := pF_t pf pfq
      have u_77q : (I_64 q 1).toInt = (I_30 q 1).toInt := by rw [pF_q hp pfq]
      have u_77_0 : (I_64 ln 0).toInt = (I_30 ln 0).toInt := by rw [pfq.2]
      refine lv_istore_n (lv' := [(1, .int (iI v_70)), (0, .ref a)]) F.1 F.2.1 dX1_readSelect_24 rfl hl (by decide) rfl (fun ls hl => ?_)
      refine lv_aload_n F.1 F.2.1 dX1_readSelect_25 rfl (lv_at hl 1 rfl) ?_
      refine g_getR (ci := 1) (k := 2) F hH rfl (by decide) iX1 hp.1 (by decide) rfl (b := ln) hp.2.2.2.1 k29 dX1_readSelect_26 ?_
      refine lv_aload_n F.1 F.2.1 dX1_readSelect_29 rfl (lv_at hl 1 rfl) ?_
      refine g_getR (ci := 1) (k := 2) F hH rfl (by decide) iX1 hp.1 (by decide) rfl (b := ln) hp.2.2.2.1 k29 dX1_readSelect_30 ?_
      refine g_getI (ci := 0) (k := 5) F hH rfl (by decide) iX0 hp.2.2.2.2.1 (by decide) rfl k143 dX1_readSelect_33 ?_
      have b_78 := gI_line hv hp.2.2.2.2.1
      unfold vLineI at b_78
      refine g_putI (ci := 0) (k := 2) F hH hS rfl (by decide) iX0 hp.2.2.2.2.1 (by decide) tyX0 tyX0_ok nmX0 rfl rfl rfl k136 dX1_readSelect_36 (fun H locs hH hS => ?_)
      obtain ⟨I_79, eI_79⟩ : ∃ qQ, qQ = gup2 I_64 ln 2 (iI ((I_64 ln 5).toInt)) := ⟨_, rfl⟩
      rw [← eI_79] at hH
      have kI_79 : ∀ b, b ≠ ln → I_79 b = I_64 b := fun b hb => by rw [eI_79]; exact funext fun j => gup2_a _ _ hb
      have hP := pH_ln hv hp hP kI_79
      have w_80 : (I_79 ln 2).toInt = (I_64 ln 5).toInt := by rw [eI_79, gup2_s]; exact iI_val ⟨by omega, by omega⟩
      have hp2 : pS g gh R I_79 a q ln := pS_ln hv hp kI_79
      have hv : gInv g gh R AR I_79 AI_67 := by rw [eI_79]; exact gInv_line2 hv hp.2.2.2.2.1 (by omega) (by omega) (pS_col hp)
      have hp := hp2
      have pf : pF a ln I I_79 := pF_t pf (by rw [eI_79]; exact pF_ln (by decide))
      have w_80_k : ∀ j, j ≠ 2 → I_79 ln j = I_64 ln j := fun j hj => by rw [eI_79]; exact gup2_k _ _ hj
      have u_81q : (I_79 q 1).toInt = (I_64 q 1).toInt := by rw [kI_79 q (gO_ne hp.2.2.1 hp.2.2.2.2.1 (by decide))]
      have u_81_0 : (I_79 ln 0).toInt = (I_64 ln 0).toInt := by rw [w_80_k 0 (by decide)]
      have u_81_8 : (I_79 ln 8).toInt = (I_64 ln 8).toInt := by rw [w_80_k 8 (by decide)]
      have u_82 : (I_79 ln 3).toInt = (I_64 ln 3).toInt := by rw [w_80_k 3 (by decide)]
      have u_83 : (I_79 ln 4).toInt = (I_64 ln 4).toInt := by rw [w_80_k 4 (by decide)]
      have u_84 : (I_79 ln 5).toInt = (I_64 ln 5).toInt := by rw [w_80_k 5 (by decide)]
      have u_85 : (I_79 ln 6).toInt = (I_64 ln 6).toInt := by rw [w_80_k 6 (by decide)]
      have u_86 : (I_79 ln 9).toInt = (I_64 ln 9).toInt := by rw [w_80_k 9 (by decide)]
      have u_87 : (I_79 ln 10).toInt = (I_64 ln 10).toInt := by rw [w_80_k 10 (by decide)]
      have u_88 : (I_79 ln 11).toInt = (I_64 ln 11).toInt := by rw [w_80_k 11 (by decide)]
      have u_89 : (I_79 ln 12).toInt = (I_64 ln 12).toInt := by rw [w_80_k 12 (by decide)]
      refine lv_iload_n F.1 F.2.1 dX1_readSelect_39 rfl (lv_at hl 0 rfl) ?_
      have hfin : sSel b n nr nt cl h = r_72 := by
        unfold sSel
        repeat (first | with_reducible rfl | refine ite_y (by omega) ?_ | refine ite_n (by omega) ?_ | exact er_72.symm | exact thn_x er_72 (by omega) | refine thn_y er_9 (by omega) ?_ | refine thn_y er_38 (by omega) ?_ | exact pr_e (by omega) (by omega) (by omega))
      exact g_iret F hr hlk hH hS hz zv_70 ⟨rfl, rfl, rfl, rfl, hv, hp, pf, by first | omega | rfl | (dsimp only; omega), by (try dsimp only); rw [hfin]; first | done | omega | rfl, by (try dsimp only); rw [hfin]; exact hP, by (try dsimp only); first | exact pIm_n (by omega) | (rw [hfin]; (try dsimp only); exact pIm_y (by first | omega | rfl)) | exact pIm_y (by omega) | (rw [hfin]; (try dsimp only); exact fun h9 => by have q9 := q_76 h9; (try dsimp only at q9); omega), fun b hb => fAq b hb, fun h9 => by
        (try dsimp only at h9)
        have a1 := sRl_h er_9 (by omega)
        have a2 := sTw_h er_38 (by omega)
        have a3 := rl3 (by omega)
        have a4 := ctl (by omega)
        have a5 : (I_79 ln 8).toInt = ((iCnt nxT (spA b n) 9 r_38.2.1 : Nat) : Int) := by have := a4.1; omega
        unfold kSel
        (try dsimp only)
        rw [show h + 2 = r_38.2.1 by omega, a5]
        refine ⟨by omega, by omega, rfl, ?_⟩
        rw [← a4.1]; exact a4.2⟩ dX1_readSelect_40

def rmX1_readProjectg : Room := { frames := 4, cells := 0, slots := 0, locals := 90 }
set_option maxHeartbeats 4000000 in
set_option maxRecDepth 100000 in
/-- a project -/
theorem c_X1_readProjectg (l : Launch) (g : gG) (gh : gGh) (q ln : Nat) (b : tTx) (n : Nat) (tl : Int) (nr : Nat) (nt : Nat → Nat) (cl : Nat → Int) (h : Nat) (I : gI) (R : gR) (J : gJ) (AI : gI) (AJ : gJ) (AR : gR) (a : Nat) (hv : gInv g gh R AR I AI) (hp : pS g gh R I a q ln) (hk : (I ln 0).toInt = 2) (hP : pH gh AR I J AI AJ a q b n tl nr nt cl h) (hk8 : (I ln 8).toInt = 0) (h4n : (I ln 4).toInt = -1) : gMet l g yX1_readProject wsX1_readProject rmX1_readProjectg [.ref a] (I, R, J, AI, AJ, AR) (gQi g (fun (z : Int) (w : gS) => R = w.2.1 ∧ J = w.2.2.1 ∧ AJ = w.2.2.2.2.1 ∧ AR = w.2.2.2.2.2 ∧ (gInv g gh R AR (w.1) (w.2.2.2.1)) ∧ (pS g gh R (w.1) a q ln) ∧ (pF a ln I (w.1)) ∧ (0 ≤ z ∧ z ≤ 4) ∧ (z = (sPrj b n nr nt cl h).1) ∧ (pH gh AR (w.1) J (w.2.2.2.1) AJ a q b n tl nr nt cl (sPrj b n nr nt cl h).2.1) ∧ (pIm z (((w.1) ln 2).toInt) ((sPrj b n nr nt cl h).2.2)) ∧ (∀ b, b ≠ gh 3 ln → (w.2.2.2.1) b = AI b) ∧ (zIf z (kPrj b n nr nt h ((w.1) ln) ((w.2.2.2.1) (gh 3 ln)))))) := by
  refine gStart (cc := cX1_readProject) (maxL := 2) (ret := (some (.int))) (by decide) rfl (Nat.le_of_ble_eq_true rfl) ?_
  intro p e s m below meth c ls F hr hlk hH hz hS hl
  have hl : lv_has ls 2 [(0, .ref a)] := hl
  have hS : va_S (gA g) s.heap s.heap [] := hS
  obtain ⟨H, hHe⟩ : ∃ H : Heap, H = s.heap := ⟨_, rfl⟩
  obtain ⟨locs, hlo⟩ : ∃ k : List Loc, k = [] := ⟨_, rfl⟩
  have hH : gH g I R J AI AJ AR H := by rw [hHe]; exact hH
  have hS : va_S (gA g) s.heap H locs := by rw [hHe, hlo]; exact hS
  suffices hw : W p l e rmX1_readProjectg s m ([.ref a] : List Value).toArray below meth c H locs 0 0 (MQ below (gQi g (fun (z : Int) (w : gS) => R = w.2.1 ∧ J = w.2.2.1 ∧ AJ = w.2.2.2.2.1 ∧ AR = w.2.2.2.2.2 ∧ (gInv g gh R AR (w.1) (w.2.2.2.1)) ∧ (pS g gh R (w.1) a q ln) ∧ (pF a ln I (w.1)) ∧ (0 ≤ z ∧ z ≤ 4) ∧ (z = (sPrj b n nr nt cl h).1) ∧ (pH gh AR (w.1) J (w.2.2.2.1) AJ a q b n tl nr nt cl (sPrj b n nr nt cl h).2.1) ∧ (pIm z (((w.1) ln 2).toInt) ((sPrj b n nr nt cl h).2.2)) ∧ (∀ b, b ≠ gh 3 ln → (w.2.2.2.1) b = AI b) ∧ (zIf z (kPrj b n nr nt h ((w.1) ln) ((w.2.2.2.1) (gh 3 ln)))))) ([.ref a] : List Value).toArray s 0 0 (gA g)) (F0 m 0 ls []) by
    rw [hHe, hlo] at hw; exact hw
  clear hHe hlo
  have pf : pF a ln I I := pF_r
  have iX1 : ∀ w ∈ u_ws RX1 TX1 4, w ∈ wsX1_readProject := (by decide +kernel)
  have iX0 : ∀ w ∈ u_ws RX0 TX0 15, w ∈ wsX1_readProject := (by decide +kernel)
  have k29 : Cond.fieldLink RX1 29 (TX1 2).1 (TX1 2).2.1 (TX1 2).2.2.1 ∈ wsX1_readProject := List.mem_of_getElem? (i := 1) rfl
  have k143 : Cond.fieldLink RX1 143 (TX0 5).1 (TX0 5).2.1 (TX0 5).2.2.1 ∈ wsX1_readProject := List.mem_of_getElem? (i := 2) rfl
  have k149 : Cond.fieldLink RX1 149 (TX0 8).1 (TX0 8).2.1 (TX0 8).2.2.1 ∈ wsX1_readProject := List.mem_of_getElem? (i := 3) rfl
  have k136 : Cond.fieldLink RX1 136 (TX0 2).1 (TX0 2).2.1 (TX0 2).2.2.1 ∈ wsX1_readProject := List.mem_of_getElem? (i := 4) rfl
  refine lv_aload_n F.1 F.2.1 dX1_readProject_0 rfl (lv_at hl 0 rfl) ?_
  refine g_calli (g_runV (As := []) (rest := []) (ci := 1) F hl.1 hH hS hz (c_X1_readFirstg l g gh q ln b n tl nr nt cl h I R J AI AJ AR a hv hp (by omega) hP) (cwV 0 F.2.2.2.2.1 gX1_readProject_X1_readFirst rfl rfl rfl hdX1_readFirst ⟨Nat.le_of_ble_eq_true rfl, Nat.le_of_ble_eq_true rfl⟩) hp.1 (by decide) rfl rfl rfl (Nat.le_of_ble_eq_true rfl) dX1_readProject_1 ⟨Nat.zero_le _, Nat.zero_le _⟩) hS (fun v_7 I_1 R_2 J_3 AI_4 AJ_5 AR_6 H locs zv_7 hp_8 hH hS => ?_)
  dsimp only at hp_8
  obtain ⟨r_9, er_9⟩ : ∃ qQ : pR, qQ = sRl b n nr nt cl h := ⟨_, rfl⟩
  rw [← er_9] at hp_8
  obtain ⟨rfl, rfl, rfl, rfl, rfl, hv, hp, pfq, k8q, q_10, q_11, hP, q_12, q_13, rl3⟩ := hp_8
  have pf := pF_t pf pfq
  have u_14q : (I_1 q 1).toInt = (I q 1).toInt := by rw [pF_q hp pfq]
  have u_14_0 : (I_1 ln 0).toInt = (I ln 0).toInt := by rw [pfq.2]
  have u_14_8 : (I_1 ln 8).toInt = (I ln 8).toInt := by rw [k8q]
  refine lv_istore_n (lv' := [(1, .int (iI v_7)), (0, .ref a)]) F.1 F.2.1 dX1_readProject_4 rfl hl (by decide) rfl (fun ls hl => ?_)
  refine lv_iload_n F.1 F.2.1 dX1_readProject_5 rfl (lv_at hl 0 rfl) ?_
  refine z_if_ne (tgt := 21) F dX1_readProject_6 (by decide) zv_7 (fun c_15 => ?_) (fun c_15 => ?_)
  · refine lv_aload_n F.1 F.2.1 dX1_readProject_21 rfl (lv_at hl 1 rfl) ?_
    refine g_getR (ci := 1) (k := 2) F hH rfl (by decide) iX1 hp.1 (by decide) rfl (b := ln) hp.2.2.2.1 k29 dX1_readProject_22 ?_
    refine lv_aload_n F.1 F.2.1 dX1_readProject_25 rfl (lv_at hl 1 rfl) ?_
    refine g_getR (ci := 1) (k := 2) F hH rfl (by decide) iX1 hp.1 (by decide) rfl (b := ln) hp.2.2.2.1 k29 dX1_readProject_26 ?_
    refine g_getI (ci := 0) (k := 8) F hH rfl (by decide) iX0 hp.2.2.2.2.1 (by decide) rfl k149 dX1_readProject_29 ?_
    have b_16 := gI_line hv hp.2.2.2.2.1
    unfold vLineI at b_16
    refine g_putI (ci := 0) (k := 2) F hH hS rfl (by decide) iX0 hp.2.2.2.2.1 (by decide) tyX0 tyX0_ok nmX0 rfl rfl rfl k136 dX1_readProject_32 (fun H locs hH hS => ?_)
    obtain ⟨I_17, eI_17⟩ : ∃ qQ, qQ = gup2 I_1 ln 2 (iI ((I_1 ln 8).toInt)) := ⟨_, rfl⟩
    rw [← eI_17] at hH
    have kI_17 : ∀ b, b ≠ ln → I_17 b = I_1 b := fun b hb => by rw [eI_17]; exact funext fun j => gup2_a _ _ hb
    have hP := pH_ln hv hp hP kI_17
    have w_18 : (I_17 ln 2).toInt = (I_1 ln 8).toInt := by rw [eI_17, gup2_s]; exact iI_val ⟨by omega, by omega⟩
    have hp2 : pS g gh R I_17 a q ln := pS_ln hv hp kI_17
    have hv : gInv g gh R AR I_17 AI := by rw [eI_17]; exact gInv_line2 hv hp.2.2.2.2.1 (by omega) (by omega) (pS_col hp)
    have hp := hp2
    have pf : pF a ln I I_17 := pF_t pf (by rw [eI_17]; exact pF_ln (by decide))
    have w_18_k : ∀ j, j ≠ 2 → I_17 ln j = I_1 ln j := fun j hj => by rw [eI_17]; exact gup2_k _ _ hj
    have u_19q : (I_17 q 1).toInt = (I_1 q 1).toInt := by rw [kI_17 q (gO_ne hp.2.2.1 hp.2.2.2.2.1 (by decide))]
    have u_19_0 : (I_17 ln 0).toInt = (I_1 ln 0).toInt := by rw [w_18_k 0 (by decide)]
    have u_19_8 : (I_17 ln 8).toInt = (I_1 ln 8).toInt := by rw [w_18_k 8 (by decide)]
    have u_20 : (I_17 ln 3).toInt = (I_1 ln 3).toInt := by rw [w_18_k 3 (by decide)]
    have u_21 : (I_17 ln 4).toInt = (I_1 ln 4).toInt := by rw [w_18_k 4 (by decide)]
    have u_22 : (I_17 ln 5).toInt = (I_1 ln 5).toInt := by rw [w_18_k 5 (by decide)]
    have u_23 : (I_17 ln 6).toInt = (I_1 ln 6).toInt := by rw [w_18_k 6 (by decide)]
    have u_24 : (I_17 ln 9).toInt = (I_1 ln 9).toInt := by rw [w_18_k 9 (by decide)]
    have u_25 : (I_17 ln 10).toInt = (I_1 ln 10).toInt := by rw [w_18_k 10 (by decide)]
    have u_26 : (I_17 ln 11).toInt = (I_1 ln 11).toInt := by rw [w_18_k 11 (by decide)]
    have u_27 : (I_17 ln 12).toInt = (I_1 ln 12).toInt := by rw [w_18_k 12 (by decide)]
    refine lv_iload_n F.1 F.2.1 dX1_readProject_35 rfl (lv_at hl 0 rfl) ?_
    have hfin : sPrj b n nr nt cl h = r_9 := by
      unfold sPrj
      repeat (first | with_reducible rfl | refine ite_y (by omega) ?_ | refine ite_n (by omega) ?_ | exact er_9.symm | exact thn_x er_9 (by omega) | exact pr_e (by omega) (by omega) (by omega))
    exact g_iret F hr hlk hH hS hz zv_7 ⟨rfl, rfl, rfl, rfl, hv, hp, pf, by first | omega | rfl | (dsimp only; omega), by (try dsimp only); rw [hfin]; first | done | omega | rfl, by (try dsimp only); rw [hfin]; exact hP, by (try dsimp only); first | exact pIm_n (by omega) | (rw [hfin]; (try dsimp only); exact pIm_y (by first | omega | rfl)) | exact pIm_y (by omega) | (rw [hfin]; (try dsimp only); exact fun h9 => by have q9 := q_13 h9; (try dsimp only at q9); omega), fun _ _ => rfl, by (try dsimp only); exact zIf_n (by omega)⟩ dX1_readProject_36
  · have t_28 := q_13 (by omega)
    refine lv_aload_n F.1 F.2.1 dX1_readProject_9 rfl (lv_at hl 1 rfl) ?_
    refine lv_aload_n F.1 F.2.1 dX1_readProject_10 rfl (lv_at hl 1 rfl) ?_
    refine g_getR (ci := 1) (k := 2) F hH rfl (by decide) iX1 hp.1 (by decide) rfl (b := ln) hp.2.2.2.1 k29 dX1_readProject_11 ?_
    refine g_getI (ci := 0) (k := 5) F hH rfl (by decide) iX0 hp.2.2.2.2.1 (by decide) rfl k143 dX1_readProject_14 ?_
    have b_29 := gI_line hv hp.2.2.2.2.1
    unfold vLineI at b_29
    refine g_calli (g_runV (As := [.int (iI ((I_1 ln 5).toInt))]) (rest := []) (ci := 1) F hl.1 hH hS hz (c_X1_readTermsg l g gh q ln b n tl nr nt cl r_9.2.1 I_1 R J AI AJ AR a ((I_1 ln 5).toInt) (zr_t _) hv hp (by omega) hP (by omega)) (cwV 1 F.2.2.2.2.1 gX1_readProject_X1_readTerms rfl rfl rfl hdX1_readTerms ⟨Nat.le_of_ble_eq_true rfl, Nat.le_of_ble_eq_true rfl⟩) hp.1 (by decide) rfl rfl rfl (Nat.le_of_ble_eq_true rfl) dX1_readProject_17 ⟨Nat.zero_le _, Nat.zero_le _⟩) hS (fun v_36 I_30 R_31 J_32 AI_33 AJ_34 AR_35 H locs zv_36 hp_37 hH hS => ?_)
    dsimp only at hp_37
    rw [show (I_1 ln 5).toInt = r_9.2.2 by omega] at hp_37
    obtain ⟨r_38, er_38⟩ : ∃ qQ : pR, qQ = sTerms b n r_9.2.2 5 0 r_9.2.1 := ⟨_, rfl⟩
    rw [← er_38] at hp_37
    obtain ⟨rfl, rfl, rfl, rfl, hv, hp, pfq, q_39, q_40, hP, q_41, q_42, fAq, ctl⟩ := hp_37
    have pf := pF_t pf pfq
    have u_43q : (I_30 q 1).toInt = (I_1 q 1).toInt := by rw [pF_q hp pfq]
    have u_43_0 : (I_30 ln 0).toInt = (I_1 ln 0).toInt := by rw [pfq.2]
    refine lv_istore_n (lv' := [(1, .int (iI v_36)), (0, .ref a)]) F.1 F.2.1 dX1_readProject_20 rfl hl (by decide) rfl (fun ls hl => ?_)
    refine lv_aload_n F.1 F.2.1 dX1_readProject_21 rfl (lv_at hl 1 rfl) ?_
    refine g_getR (ci := 1) (k := 2) F hH rfl (by decide) iX1 hp.1 (by decide) rfl (b := ln) hp.2.2.2.1 k29 dX1_readProject_22 ?_
    refine lv_aload_n F.1 F.2.1 dX1_readProject_25 rfl (lv_at hl 1 rfl) ?_
    refine g_getR (ci := 1) (k := 2) F hH rfl (by decide) iX1 hp.1 (by decide) rfl (b := ln) hp.2.2.2.1 k29 dX1_readProject_26 ?_
    refine g_getI (ci := 0) (k := 8) F hH rfl (by decide) iX0 hp.2.2.2.2.1 (by decide) rfl k149 dX1_readProject_29 ?_
    have b_44 := gI_line hv hp.2.2.2.2.1
    unfold vLineI at b_44
    refine g_putI (ci := 0) (k := 2) F hH hS rfl (by decide) iX0 hp.2.2.2.2.1 (by decide) tyX0 tyX0_ok nmX0 rfl rfl rfl k136 dX1_readProject_32 (fun H locs hH hS => ?_)
    obtain ⟨I_45, eI_45⟩ : ∃ qQ, qQ = gup2 I_30 ln 2 (iI ((I_30 ln 8).toInt)) := ⟨_, rfl⟩
    rw [← eI_45] at hH
    have kI_45 : ∀ b, b ≠ ln → I_45 b = I_30 b := fun b hb => by rw [eI_45]; exact funext fun j => gup2_a _ _ hb
    have hP := pH_ln hv hp hP kI_45
    have w_46 : (I_45 ln 2).toInt = (I_30 ln 8).toInt := by rw [eI_45, gup2_s]; exact iI_val ⟨by omega, by omega⟩
    have hp2 : pS g gh R I_45 a q ln := pS_ln hv hp kI_45
    have hv : gInv g gh R AR I_45 AI_33 := by rw [eI_45]; exact gInv_line2 hv hp.2.2.2.2.1 (by omega) (by omega) (pS_col hp)
    have hp := hp2
    have pf : pF a ln I I_45 := pF_t pf (by rw [eI_45]; exact pF_ln (by decide))
    have w_46_k : ∀ j, j ≠ 2 → I_45 ln j = I_30 ln j := fun j hj => by rw [eI_45]; exact gup2_k _ _ hj
    have u_47q : (I_45 q 1).toInt = (I_30 q 1).toInt := by rw [kI_45 q (gO_ne hp.2.2.1 hp.2.2.2.2.1 (by decide))]
    have u_47_0 : (I_45 ln 0).toInt = (I_30 ln 0).toInt := by rw [w_46_k 0 (by decide)]
    have u_47_8 : (I_45 ln 8).toInt = (I_30 ln 8).toInt := by rw [w_46_k 8 (by decide)]
    have u_48 : (I_45 ln 3).toInt = (I_30 ln 3).toInt := by rw [w_46_k 3 (by decide)]
    have u_49 : (I_45 ln 4).toInt = (I_30 ln 4).toInt := by rw [w_46_k 4 (by decide)]
    have u_50 : (I_45 ln 5).toInt = (I_30 ln 5).toInt := by rw [w_46_k 5 (by decide)]
    have u_51 : (I_45 ln 6).toInt = (I_30 ln 6).toInt := by rw [w_46_k 6 (by decide)]
    have u_52 : (I_45 ln 9).toInt = (I_30 ln 9).toInt := by rw [w_46_k 9 (by decide)]
    have u_53 : (I_45 ln 10).toInt = (I_30 ln 10).toInt := by rw [w_46_k 10 (by decide)]
    have u_54 : (I_45 ln 11).toInt = (I_30 ln 11).toInt := by rw [w_46_k 11 (by decide)]
    have u_55 : (I_45 ln 12).toInt = (I_30 ln 12).toInt := by rw [w_46_k 12 (by decide)]
    refine lv_iload_n F.1 F.2.1 dX1_readProject_35 rfl (lv_at hl 0 rfl) ?_
    have hfin : sPrj b n nr nt cl h = r_38 := by
      unfold sPrj
      repeat (first | with_reducible rfl | refine ite_y (by omega) ?_ | refine ite_n (by omega) ?_ | exact er_38.symm | exact thn_x er_38 (by omega) | refine thn_y er_9 (by omega) ?_ | exact pr_e (by omega) (by omega) (by omega))
    exact g_iret F hr hlk hH hS hz zv_36 ⟨rfl, rfl, rfl, rfl, hv, hp, pf, by first | omega | rfl | (dsimp only; omega), by (try dsimp only); rw [hfin]; first | done | omega | rfl, by (try dsimp only); rw [hfin]; exact hP, by (try dsimp only); first | exact pIm_n (by omega) | (rw [hfin]; (try dsimp only); exact pIm_y (by first | omega | rfl)) | exact pIm_y (by omega) | (rw [hfin]; (try dsimp only); exact fun h9 => by have q9 := q_42 h9; (try dsimp only at q9); omega), fun b hb => fAq b hb, fun h9 => by
        (try dsimp only at h9)
        have a1 := sRl_h er_9 (by omega)
        have a3 := rl3 (by omega)
        have a4 := ctl (by omega)
        have a5 : (I_45 ln 8).toInt = ((iCnt (nxE b n) (spC b n) 5 r_9.2.1 : Nat) : Int) := by have := a4.1; omega
        unfold kPrj
        (try dsimp only)
        rw [show h + 1 = r_9.2.1 by omega, a5]
        refine ⟨by omega, by omega, rfl, ?_⟩
        rw [← a4.1]; exact a4.2⟩ dX1_readProject_36

def rmX1_readJoing : Room := { frames := 4, cells := 0, slots := 0, locals := 86 }
set_option maxHeartbeats 4000000 in
set_option maxRecDepth 100000 in
/-- a join -/
theorem c_X1_readJoing (l : Launch) (g : gG) (gh : gGh) (q ln : Nat) (b : tTx) (n : Nat) (tl : Int) (nr : Nat) (nt : Nat → Nat) (cl : Nat → Int) (h : Nat) (I : gI) (R : gR) (J : gJ) (AI : gI) (AJ : gJ) (AR : gR) (a : Nat) (hv : gInv g gh R AR I AI) (hp : pS g gh R I a q ln) (hk : (I ln 0).toInt = 3) (hP : pH gh AR I J AI AJ a q b n tl nr nt cl h) (hk8 : (I ln 8).toInt = 0) : gMet l g yX1_readJoin wsX1_readJoin rmX1_readJoing [.ref a] (I, R, J, AI, AJ, AR) (gQi g (fun (z : Int) (w : gS) => R = w.2.1 ∧ J = w.2.2.1 ∧ AJ = w.2.2.2.2.1 ∧ AR = w.2.2.2.2.2 ∧ (gInv g gh R AR (w.1) (w.2.2.2.1)) ∧ (pS g gh R (w.1) a q ln) ∧ (pF a ln I (w.1)) ∧ (0 ≤ z ∧ z ≤ 4) ∧ (z = (sJoi b n nr nt cl h).1) ∧ (pH gh AR (w.1) J (w.2.2.2.1) AJ a q b n tl nr nt cl (sJoi b n nr nt cl h).2.1) ∧ (pIm z (((w.1) ln 2).toInt) ((sJoi b n nr nt cl h).2.2)) ∧ (∀ b, b ≠ gh 3 ln → (w.2.2.2.1) b = AI b) ∧ (zIf z (kJoi b n nr nt cl h ((w.1) ln) ((w.2.2.2.1) (gh 3 ln)))))) := by
  refine gStart (cc := cX1_readJoin) (maxL := 2) (ret := (some (.int))) (by decide) rfl (Nat.le_of_ble_eq_true rfl) ?_
  intro p e s m below meth c ls F hr hlk hH hz hS hl
  have hl : lv_has ls 2 [(0, .ref a)] := hl
  have hS : va_S (gA g) s.heap s.heap [] := hS
  obtain ⟨H, hHe⟩ : ∃ H : Heap, H = s.heap := ⟨_, rfl⟩
  obtain ⟨locs, hlo⟩ : ∃ k : List Loc, k = [] := ⟨_, rfl⟩
  have hH : gH g I R J AI AJ AR H := by rw [hHe]; exact hH
  have hS : va_S (gA g) s.heap H locs := by rw [hHe, hlo]; exact hS
  suffices hw : W p l e rmX1_readJoing s m ([.ref a] : List Value).toArray below meth c H locs 0 0 (MQ below (gQi g (fun (z : Int) (w : gS) => R = w.2.1 ∧ J = w.2.2.1 ∧ AJ = w.2.2.2.2.1 ∧ AR = w.2.2.2.2.2 ∧ (gInv g gh R AR (w.1) (w.2.2.2.1)) ∧ (pS g gh R (w.1) a q ln) ∧ (pF a ln I (w.1)) ∧ (0 ≤ z ∧ z ≤ 4) ∧ (z = (sJoi b n nr nt cl h).1) ∧ (pH gh AR (w.1) J (w.2.2.2.1) AJ a q b n tl nr nt cl (sJoi b n nr nt cl h).2.1) ∧ (pIm z (((w.1) ln 2).toInt) ((sJoi b n nr nt cl h).2.2)) ∧ (∀ b, b ≠ gh 3 ln → (w.2.2.2.1) b = AI b) ∧ (zIf z (kJoi b n nr nt cl h ((w.1) ln) ((w.2.2.2.1) (gh 3 ln)))))) ([.ref a] : List Value).toArray s 0 0 (gA g)) (F0 m 0 ls []) by
    rw [hHe, hlo] at hw; exact hw
  clear hHe hlo
  have pf : pF a ln I I := pF_r
  have iX1 : ∀ w ∈ u_ws RX1 TX1 4, w ∈ wsX1_readJoin := (by decide +kernel)
  have iX0 : ∀ w ∈ u_ws RX0 TX0 15, w ∈ wsX1_readJoin := (by decide +kernel)
  have k29 : Cond.fieldLink RX1 29 (TX1 2).1 (TX1 2).2.1 (TX1 2).2.2.1 ∈ wsX1_readJoin := List.mem_of_getElem? (i := 1) rfl
  have k136 : Cond.fieldLink RX1 136 (TX0 2).1 (TX0 2).2.1 (TX0 2).2.2.1 ∈ wsX1_readJoin := List.mem_of_getElem? (i := 2) rfl
  refine lv_aload_n F.1 F.2.1 dX1_readJoin_0 rfl (lv_at hl 0 rfl) ?_
  refine g_calli (g_runV (As := []) (rest := []) (ci := 1) F hl.1 hH hS hz (c_X1_readFirstg l g gh q ln b n tl nr nt cl h I R J AI AJ AR a hv hp (by omega) hP) (cwV 0 F.2.2.2.2.1 gX1_readJoin_X1_readFirst rfl rfl rfl hdX1_readFirst ⟨Nat.le_of_ble_eq_true rfl, Nat.le_of_ble_eq_true rfl⟩) hp.1 (by decide) rfl rfl rfl (Nat.le_of_ble_eq_true rfl) dX1_readJoin_1 ⟨Nat.zero_le _, Nat.zero_le _⟩) hS (fun v_7 I_1 R_2 J_3 AI_4 AJ_5 AR_6 H locs zv_7 hp_8 hH hS => ?_)
  dsimp only at hp_8
  obtain ⟨r_9, er_9⟩ : ∃ qQ : pR, qQ = sRl b n nr nt cl h := ⟨_, rfl⟩
  rw [← er_9] at hp_8
  obtain ⟨rfl, rfl, rfl, rfl, rfl, hv, hp, pfq, k8q, q_10, q_11, hP, q_12, q_13, rl3⟩ := hp_8
  have pf := pF_t pf pfq
  have u_14q : (I_1 q 1).toInt = (I q 1).toInt := by rw [pF_q hp pfq]
  have u_14_0 : (I_1 ln 0).toInt = (I ln 0).toInt := by rw [pfq.2]
  have u_14_8 : (I_1 ln 8).toInt = (I ln 8).toInt := by rw [k8q]
  refine lv_istore_n (lv' := [(1, .int (iI v_7)), (0, .ref a)]) F.1 F.2.1 dX1_readJoin_4 rfl hl (by decide) rfl (fun ls hl => ?_)
  refine lv_iload_n F.1 F.2.1 dX1_readJoin_5 rfl (lv_at hl 0 rfl) ?_
  refine z_if_ne (tgt := 14) F dX1_readJoin_6 (by decide) zv_7 (fun c_15 => ?_) (fun c_15 => ?_)
  · refine lv_iload_n F.1 F.2.1 dX1_readJoin_14 rfl (lv_at hl 0 rfl) ?_
    refine z_if_ne (tgt := 25) F dX1_readJoin_15 (by decide) zv_7 (fun c_16 => ?_) (fun c_16 => ?_)
    · refine lv_iload_n F.1 F.2.1 dX1_readJoin_25 rfl (lv_at hl 0 rfl) ?_
      refine z_if_ne (tgt := 34) F dX1_readJoin_26 (by decide) zv_7 (fun c_17 => ?_) (fun c_17 => ?_)
      · refine lv_aload_n F.1 F.2.1 dX1_readJoin_34 rfl (lv_at hl 1 rfl) ?_
        refine g_getR (ci := 1) (k := 2) F hH rfl (by decide) iX1 hp.1 (by decide) rfl (b := ln) hp.2.2.2.1 k29 dX1_readJoin_35 ?_
        refine lv_aload_n F.1 F.2.1 dX1_readJoin_38 rfl (lv_at hl 1 rfl) ?_
        refine g_getR (ci := 1) (k := 2) F hH rfl (by decide) iX1 hp.1 (by decide) rfl (b := ln) hp.2.2.2.1 k29 dX1_readJoin_39 ?_
        have b_18 := gI_line hv hp.2.2.2.2.1
        unfold vLineI at b_18
        refine g_calli (g_runV (As := []) (rest := [.ref ln]) (ci := 0) F hl.1 hH hS hz (c_X0_columnsOfJoing l g gh ([]) I_1 R J AI AJ AR ln hv hp.2.2.2.2.1 (pCn_0 (by omega))) (cwV 0 F.2.2.2.2.1 gX1_readJoin_X0_columnsOfJoin rfl rfl rfl hdX0_columnsOfJoin ⟨Nat.le_of_ble_eq_true rfl, Nat.le_of_ble_eq_true rfl⟩) hp.2.2.2.2.1 (by decide) rfl rfl rfl (Nat.le_of_ble_eq_true rfl) dX1_readJoin_42 ⟨Nat.zero_le _, Nat.zero_le _⟩) hS (fun v_25 I_19 R_20 J_21 AI_22 AJ_23 AR_24 H locs zv_25 hp_26 hH hS => ?_)
        dsimp only at hp_26
        obtain ⟨rfl, rfl, rfl, rfl, rfl, rfl, q_27, qj⟩ := hp_26
        refine g_putI (ci := 0) (k := 2) F hH hS rfl (by decide) iX0 hp.2.2.2.2.1 (by decide) tyX0 tyX0_ok nmX0 rfl rfl rfl k136 dX1_readJoin_45 (fun H locs hH hS => ?_)
        obtain ⟨I_28, eI_28⟩ : ∃ qQ, qQ = gup2 I_1 ln 2 (iI (v_25)) := ⟨_, rfl⟩
        rw [← eI_28] at hH
        have kI_28 : ∀ b, b ≠ ln → I_28 b = I_1 b := fun b hb => by rw [eI_28]; exact funext fun j => gup2_a _ _ hb
        have hP := pH_ln hv hp hP kI_28
        have w_29 : (I_28 ln 2).toInt = v_25 := by rw [eI_28, gup2_s]; exact iI_val ⟨by omega, by omega⟩
        have hp2 : pS g gh R I_28 a q ln := pS_ln hv hp kI_28
        have hv : gInv g gh R AR I_28 AI := by rw [eI_28]; exact gInv_line2 hv hp.2.2.2.2.1 (by omega) (by omega) (pS_col hp)
        have hp := hp2
        have pf : pF a ln I I_28 := pF_t pf (by rw [eI_28]; exact pF_ln (by decide))
        have w_29_k : ∀ j, j ≠ 2 → I_28 ln j = I_1 ln j := fun j hj => by rw [eI_28]; exact gup2_k _ _ hj
        have u_30q : (I_28 q 1).toInt = (I_1 q 1).toInt := by rw [kI_28 q (gO_ne hp.2.2.1 hp.2.2.2.2.1 (by decide))]
        have u_30_0 : (I_28 ln 0).toInt = (I_1 ln 0).toInt := by rw [w_29_k 0 (by decide)]
        have u_30_8 : (I_28 ln 8).toInt = (I_1 ln 8).toInt := by rw [w_29_k 8 (by decide)]
        have u_31 : (I_28 ln 3).toInt = (I_1 ln 3).toInt := by rw [w_29_k 3 (by decide)]
        have u_32 : (I_28 ln 4).toInt = (I_1 ln 4).toInt := by rw [w_29_k 4 (by decide)]
        have u_33 : (I_28 ln 5).toInt = (I_1 ln 5).toInt := by rw [w_29_k 5 (by decide)]
        have u_34 : (I_28 ln 6).toInt = (I_1 ln 6).toInt := by rw [w_29_k 6 (by decide)]
        have u_35 : (I_28 ln 9).toInt = (I_1 ln 9).toInt := by rw [w_29_k 9 (by decide)]
        have u_36 : (I_28 ln 10).toInt = (I_1 ln 10).toInt := by rw [w_29_k 10 (by decide)]
        have u_37 : (I_28 ln 11).toInt = (I_1 ln 11).toInt := by rw [w_29_k 11 (by decide)]
        have u_38 : (I_28 ln 12).toInt = (I_1 ln 12).toInt := by rw [w_29_k 12 (by decide)]
        refine lv_iload_n F.1 F.2.1 dX1_readJoin_48 rfl (lv_at hl 0 rfl) ?_
        have hfin : sJoi b n nr nt cl h = r_9 := by
          unfold sJoi
          repeat (first | with_reducible rfl | refine ite_y (by omega) ?_ | refine ite_n (by omega) ?_ | exact er_9.symm | exact thn_x er_9 (by omega) | exact pr_e (by omega) (by omega) (by omega))
        exact g_iret F hr hlk hH hS hz zv_7 ⟨rfl, rfl, rfl, rfl, hv, hp, pf, by first | omega | rfl | (dsimp only; omega), by (try dsimp only); rw [hfin]; first | done | omega | rfl, by (try dsimp only); rw [hfin]; exact hP, by (try dsimp only); first | exact pIm_n (by omega) | (rw [hfin]; exact fun h => by have q9 := hjz h; omega), fun _ _ => rfl, by (try dsimp only); exact zIf_n (by omega)⟩ dX1_readJoin_49
      · exact absurd trivial (by omega)
    · exact absurd trivial (by omega)
  · have t_39 := q_13 (by omega)
    refine lv_aload_n F.1 F.2.1 dX1_readJoin_9 rfl (lv_at hl 1 rfl) ?_
    refine g_calli (g_runV (As := []) (rest := []) (ci := 1) F hl.1 hH hS hz (c_X1_readSecondg l g gh q ln b n tl nr nt cl r_9.2.1 I_1 R J AI AJ AR a hv hp (by omega) hP) (cwV 0 F.2.2.2.2.1 gX1_readJoin_X1_readSecond rfl rfl rfl hdX1_readSecond ⟨Nat.le_of_ble_eq_true rfl, Nat.le_of_ble_eq_true rfl⟩) hp.1 (by decide) rfl rfl rfl (Nat.le_of_ble_eq_true rfl) dX1_readJoin_10 ⟨Nat.zero_le _, Nat.zero_le _⟩) hS (fun v_46 I_40 R_41 J_42 AI_43 AJ_44 AR_45 H locs zv_46 hp_47 hH hS => ?_)
    dsimp only at hp_47
    obtain ⟨r_48, er_48⟩ : ∃ qQ : pR, qQ = sRl b n nr nt cl r_9.2.1 := ⟨_, rfl⟩
    rw [← er_48] at hp_47
    obtain ⟨rfl, rfl, rfl, rfl, rfl, hv, hp, pfq, k8q, q_49, q_50, hP, q_51, q_52, rl4⟩ := hp_47
    have pf := pF_t pf pfq
    have u_53q : (I_40 q 1).toInt = (I_1 q 1).toInt := by rw [pF_q hp pfq]
    have u_53_0 : (I_40 ln 0).toInt = (I_1 ln 0).toInt := by rw [pfq.2]
    have u_53_8 : (I_40 ln 8).toInt = (I_1 ln 8).toInt := by rw [k8q]
    refine lv_istore_n (lv' := [(1, .int (iI v_46)), (0, .ref a)]) F.1 F.2.1 dX1_readJoin_13 rfl hl (by decide) rfl (fun ls hl => ?_)
    refine lv_iload_n F.1 F.2.1 dX1_readJoin_14 rfl (lv_at hl 0 rfl) ?_
    refine z_if_ne (tgt := 25) F dX1_readJoin_15 (by decide) zv_46 (fun c_54 => ?_) (fun c_54 => ?_)
    · refine lv_iload_n F.1 F.2.1 dX1_readJoin_25 rfl (lv_at hl 0 rfl) ?_
      refine z_if_ne (tgt := 34) F dX1_readJoin_26 (by decide) zv_46 (fun c_55 => ?_) (fun c_55 => ?_)
      · refine lv_aload_n F.1 F.2.1 dX1_readJoin_34 rfl (lv_at hl 1 rfl) ?_
        refine g_getR (ci := 1) (k := 2) F hH rfl (by decide) iX1 hp.1 (by decide) rfl (b := ln) hp.2.2.2.1 k29 dX1_readJoin_35 ?_
        refine lv_aload_n F.1 F.2.1 dX1_readJoin_38 rfl (lv_at hl 1 rfl) ?_
        refine g_getR (ci := 1) (k := 2) F hH rfl (by decide) iX1 hp.1 (by decide) rfl (b := ln) hp.2.2.2.1 k29 dX1_readJoin_39 ?_
        have b_56 := gI_line hv hp.2.2.2.2.1
        unfold vLineI at b_56
        refine g_calli (g_runV (As := []) (rest := [.ref ln]) (ci := 0) F hl.1 hH hS hz (c_X0_columnsOfJoing l g gh ([]) I_40 R J AI AJ AR ln hv hp.2.2.2.2.1 (pCn_0 (by omega))) (cwV 0 F.2.2.2.2.1 gX1_readJoin_X0_columnsOfJoin rfl rfl rfl hdX0_columnsOfJoin ⟨Nat.le_of_ble_eq_true rfl, Nat.le_of_ble_eq_true rfl⟩) hp.2.2.2.2.1 (by decide) rfl rfl rfl (Nat.le_of_ble_eq_true rfl) dX1_readJoin_42 ⟨Nat.zero_le _, Nat.zero_le _⟩) hS (fun v_63 I_57 R_58 J_59 AI_60 AJ_61 AR_62 H locs zv_63 hp_64 hH hS => ?_)
        dsimp only at hp_64
        obtain ⟨rfl, rfl, rfl, rfl, rfl, rfl, q_65, qj⟩ := hp_64
        refine g_putI (ci := 0) (k := 2) F hH hS rfl (by decide) iX0 hp.2.2.2.2.1 (by decide) tyX0 tyX0_ok nmX0 rfl rfl rfl k136 dX1_readJoin_45 (fun H locs hH hS => ?_)
        obtain ⟨I_66, eI_66⟩ : ∃ qQ, qQ = gup2 I_40 ln 2 (iI (v_63)) := ⟨_, rfl⟩
        rw [← eI_66] at hH
        have kI_66 : ∀ b, b ≠ ln → I_66 b = I_40 b := fun b hb => by rw [eI_66]; exact funext fun j => gup2_a _ _ hb
        have hP := pH_ln hv hp hP kI_66
        have w_67 : (I_66 ln 2).toInt = v_63 := by rw [eI_66, gup2_s]; exact iI_val ⟨by omega, by omega⟩
        have hp2 : pS g gh R I_66 a q ln := pS_ln hv hp kI_66
        have hv : gInv g gh R AR I_66 AI := by rw [eI_66]; exact gInv_line2 hv hp.2.2.2.2.1 (by omega) (by omega) (pS_col hp)
        have hp := hp2
        have pf : pF a ln I I_66 := pF_t pf (by rw [eI_66]; exact pF_ln (by decide))
        have w_67_k : ∀ j, j ≠ 2 → I_66 ln j = I_40 ln j := fun j hj => by rw [eI_66]; exact gup2_k _ _ hj
        have u_68q : (I_66 q 1).toInt = (I_40 q 1).toInt := by rw [kI_66 q (gO_ne hp.2.2.1 hp.2.2.2.2.1 (by decide))]
        have u_68_0 : (I_66 ln 0).toInt = (I_40 ln 0).toInt := by rw [w_67_k 0 (by decide)]
        have u_68_8 : (I_66 ln 8).toInt = (I_40 ln 8).toInt := by rw [w_67_k 8 (by decide)]
        have u_69 : (I_66 ln 3).toInt = (I_40 ln 3).toInt := by rw [w_67_k 3 (by decide)]
        have u_70 : (I_66 ln 4).toInt = (I_40 ln 4).toInt := by rw [w_67_k 4 (by decide)]
        have u_71 : (I_66 ln 5).toInt = (I_40 ln 5).toInt := by rw [w_67_k 5 (by decide)]
        have u_72 : (I_66 ln 6).toInt = (I_40 ln 6).toInt := by rw [w_67_k 6 (by decide)]
        have u_73 : (I_66 ln 9).toInt = (I_40 ln 9).toInt := by rw [w_67_k 9 (by decide)]
        have u_74 : (I_66 ln 10).toInt = (I_40 ln 10).toInt := by rw [w_67_k 10 (by decide)]
        have u_75 : (I_66 ln 11).toInt = (I_40 ln 11).toInt := by rw [w_67_k 11 (by decide)]
        have u_76 : (I_66 ln 12).toInt = (I_40 ln 12).toInt := by rw [w_67_k 12 (by decide)]
        refine lv_iload_n F.1 F.2.1 dX1_readJoin_48 rfl (lv_at hl 0 rfl) ?_
        have hfin : sJoi b n nr nt cl h = r_48 := by
          unfold sJoi
          repeat (first | with_reducible rfl | refine ite_y (by omega) ?_ | refine ite_n (by omega) ?_ | exact er_48.symm | exact thn_x er_48 (by omega) | refine thn_y er_9 (by omega) ?_ | exact pr_e (by omega) (by omega) (by omega))
        exact g_iret F hr hlk hH hS hz zv_46 ⟨rfl, rfl, rfl, rfl, hv, hp, pf, by first | omega | rfl | (dsimp only; omega), by (try dsimp only); rw [hfin]; first | done | omega | rfl, by (try dsimp only); rw [hfin]; exact hP, by (try dsimp only); first | exact pIm_n (by omega) | (rw [hfin]; exact fun h => by have q9 := hjz h; omega), fun _ _ => rfl, by (try dsimp only); exact zIf_n (by omega)⟩ dX1_readJoin_49
      · exact absurd trivial (by omega)
    · have t_77 := q_52 (by omega)
      refine lv_aload_n F.1 F.2.1 dX1_readJoin_18 rfl (lv_at hl 1 rfl) ?_
      refine z_bipush F dX1_readJoin_19 (by decide) ?_
      refine g_calli (g_runV (As := [.int (iI 12)]) (rest := []) (ci := 1) F hl.1 hH hS hz (c_X1_takeWordg l g gh q ln b n tl nr nt cl r_48.2.1 I_40 R J AI AJ AR a 12 ⟨by decide, by decide⟩ hv hp hP) (cwV 1 F.2.2.2.2.1 gX1_readJoin_X1_takeWord rfl rfl rfl hdX1_takeWord ⟨Nat.le_of_ble_eq_true rfl, Nat.le_of_ble_eq_true rfl⟩) hp.1 (by decide) rfl rfl rfl (Nat.le_of_ble_eq_true rfl) dX1_readJoin_21 ⟨Nat.zero_le _, Nat.zero_le _⟩) hS (fun v_84 I_78 R_79 J_80 AI_81 AJ_82 AR_83 H locs zv_84 hp_85 hH hS => ?_)
      dsimp only at hp_85
      obtain ⟨r_86, er_86⟩ : ∃ qQ : pR, qQ = sTw b n 12 r_48.2.1 := ⟨_, rfl⟩
      rw [← er_86] at hp_85
      obtain ⟨rfl, rfl, rfl, rfl, rfl, hv, hp, pfq, flq, q_87, q_88, hP⟩ := hp_85
      have pf := pF_t pf pfq
      have u_89q : (I_78 q 1).toInt = (I_40 q 1).toInt := by rw [pF_q hp pfq]
      have u_89_0 : (I_78 ln 0).toInt = (I_40 ln 0).toInt := by rw [pfq.2]
      have u_89_8 : (I_78 ln 8).toInt = (I_40 ln 8).toInt := by rw [flq]
      have u_90 : (I_78 ln 2).toInt = (I_40 ln 2).toInt := by rw [flq]
      have u_91 : (I_78 ln 3).toInt = (I_40 ln 3).toInt := by rw [flq]
      have u_92 : (I_78 ln 4).toInt = (I_40 ln 4).toInt := by rw [flq]
      have u_93 : (I_78 ln 5).toInt = (I_40 ln 5).toInt := by rw [flq]
      have u_94 : (I_78 ln 6).toInt = (I_40 ln 6).toInt := by rw [flq]
      have u_95 : (I_78 ln 9).toInt = (I_40 ln 9).toInt := by rw [flq]
      have u_96 : (I_78 ln 10).toInt = (I_40 ln 10).toInt := by rw [flq]
      have u_97 : (I_78 ln 11).toInt = (I_40 ln 11).toInt := by rw [flq]
      have u_98 : (I_78 ln 12).toInt = (I_40 ln 12).toInt := by rw [flq]
      refine lv_istore_n (lv' := [(1, .int (iI v_84)), (0, .ref a)]) F.1 F.2.1 dX1_readJoin_24 rfl hl (by decide) rfl (fun ls hl => ?_)
      refine lv_iload_n F.1 F.2.1 dX1_readJoin_25 rfl (lv_at hl 0 rfl) ?_
      refine z_if_ne (tgt := 34) F dX1_readJoin_26 (by decide) zv_84 (fun c_99 => ?_) (fun c_99 => ?_)
      · refine lv_aload_n F.1 F.2.1 dX1_readJoin_34 rfl (lv_at hl 1 rfl) ?_
        refine g_getR (ci := 1) (k := 2) F hH rfl (by decide) iX1 hp.1 (by decide) rfl (b := ln) hp.2.2.2.1 k29 dX1_readJoin_35 ?_
        refine lv_aload_n F.1 F.2.1 dX1_readJoin_38 rfl (lv_at hl 1 rfl) ?_
        refine g_getR (ci := 1) (k := 2) F hH rfl (by decide) iX1 hp.1 (by decide) rfl (b := ln) hp.2.2.2.1 k29 dX1_readJoin_39 ?_
        have b_100 := gI_line hv hp.2.2.2.2.1
        unfold vLineI at b_100
        refine g_calli (g_runV (As := []) (rest := [.ref ln]) (ci := 0) F hl.1 hH hS hz (c_X0_columnsOfJoing l g gh ([]) I_78 R J AI AJ AR ln hv hp.2.2.2.2.1 (pCn_0 (by omega))) (cwV 0 F.2.2.2.2.1 gX1_readJoin_X0_columnsOfJoin rfl rfl rfl hdX0_columnsOfJoin ⟨Nat.le_of_ble_eq_true rfl, Nat.le_of_ble_eq_true rfl⟩) hp.2.2.2.2.1 (by decide) rfl rfl rfl (Nat.le_of_ble_eq_true rfl) dX1_readJoin_42 ⟨Nat.zero_le _, Nat.zero_le _⟩) hS (fun v_107 I_101 R_102 J_103 AI_104 AJ_105 AR_106 H locs zv_107 hp_108 hH hS => ?_)
        dsimp only at hp_108
        obtain ⟨rfl, rfl, rfl, rfl, rfl, rfl, q_109, qj⟩ := hp_108
        refine g_putI (ci := 0) (k := 2) F hH hS rfl (by decide) iX0 hp.2.2.2.2.1 (by decide) tyX0 tyX0_ok nmX0 rfl rfl rfl k136 dX1_readJoin_45 (fun H locs hH hS => ?_)
        obtain ⟨I_110, eI_110⟩ : ∃ qQ, qQ = gup2 I_78 ln 2 (iI (v_107)) := ⟨_, rfl⟩
        rw [← eI_110] at hH
        have kI_110 : ∀ b, b ≠ ln → I_110 b = I_78 b := fun b hb => by rw [eI_110]; exact funext fun j => gup2_a _ _ hb
        have hP := pH_ln hv hp hP kI_110
        have w_111 : (I_110 ln 2).toInt = v_107 := by rw [eI_110, gup2_s]; exact iI_val ⟨by omega, by omega⟩
        have hp2 : pS g gh R I_110 a q ln := pS_ln hv hp kI_110
        have hv : gInv g gh R AR I_110 AI := by rw [eI_110]; exact gInv_line2 hv hp.2.2.2.2.1 (by omega) (by omega) (pS_col hp)
        have hp := hp2
        have pf : pF a ln I I_110 := pF_t pf (by rw [eI_110]; exact pF_ln (by decide))
        have w_111_k : ∀ j, j ≠ 2 → I_110 ln j = I_78 ln j := fun j hj => by rw [eI_110]; exact gup2_k _ _ hj
        have u_112q : (I_110 q 1).toInt = (I_78 q 1).toInt := by rw [kI_110 q (gO_ne hp.2.2.1 hp.2.2.2.2.1 (by decide))]
        have u_112_0 : (I_110 ln 0).toInt = (I_78 ln 0).toInt := by rw [w_111_k 0 (by decide)]
        have u_112_8 : (I_110 ln 8).toInt = (I_78 ln 8).toInt := by rw [w_111_k 8 (by decide)]
        have u_113 : (I_110 ln 3).toInt = (I_78 ln 3).toInt := by rw [w_111_k 3 (by decide)]
        have u_114 : (I_110 ln 4).toInt = (I_78 ln 4).toInt := by rw [w_111_k 4 (by decide)]
        have u_115 : (I_110 ln 5).toInt = (I_78 ln 5).toInt := by rw [w_111_k 5 (by decide)]
        have u_116 : (I_110 ln 6).toInt = (I_78 ln 6).toInt := by rw [w_111_k 6 (by decide)]
        have u_117 : (I_110 ln 9).toInt = (I_78 ln 9).toInt := by rw [w_111_k 9 (by decide)]
        have u_118 : (I_110 ln 10).toInt = (I_78 ln 10).toInt := by rw [w_111_k 10 (by decide)]
        have u_119 : (I_110 ln 11).toInt = (I_78 ln 11).toInt := by rw [w_111_k 11 (by decide)]
        have u_120 : (I_110 ln 12).toInt = (I_78 ln 12).toInt := by rw [w_111_k 12 (by decide)]
        refine lv_iload_n F.1 F.2.1 dX1_readJoin_48 rfl (lv_at hl 0 rfl) ?_
        have hfin : sJoi b n nr nt cl h = r_86 := by
          unfold sJoi
          repeat (first | with_reducible rfl | refine ite_y (by omega) ?_ | refine ite_n (by omega) ?_ | exact er_86.symm | exact thn_x er_86 (by omega) | refine thn_y er_9 (by omega) ?_ | refine thn_y er_48 (by omega) ?_ | exact pr_e (by omega) (by omega) (by omega))
        exact g_iret F hr hlk hH hS hz zv_84 ⟨rfl, rfl, rfl, rfl, hv, hp, pf, by first | omega | rfl | (dsimp only; omega), by (try dsimp only); rw [hfin]; first | done | omega | rfl, by (try dsimp only); rw [hfin]; exact hP, by (try dsimp only); first | exact pIm_n (by omega) | (rw [hfin]; exact fun h => by have q9 := hjz h; omega), fun _ _ => rfl, by (try dsimp only); exact zIf_n (by omega)⟩ dX1_readJoin_49
      · refine lv_aload_n F.1 F.2.1 dX1_readJoin_29 rfl (lv_at hl 1 rfl) ?_
        refine g_calli (g_runV (As := []) (rest := []) (ci := 1) F hl.1 hH hS hz (c_X1_readPairsg l g gh q ln r_9.2.2 r_48.2.2 b n tl nr nt cl r_86.2.1 I_78 R J AI AJ AR a hv hp (by omega) hP (by omega) (by omega) (by omega)) (cwV 0 F.2.2.2.2.1 gX1_readJoin_X1_readPairs rfl rfl rfl hdX1_readPairs ⟨Nat.le_of_ble_eq_true rfl, Nat.le_of_ble_eq_true rfl⟩) hp.1 (by decide) rfl rfl rfl (Nat.le_of_ble_eq_true rfl) dX1_readJoin_30 ⟨Nat.zero_le _, Nat.zero_le _⟩) hS (fun v_127 I_121 R_122 J_123 AI_124 AJ_125 AR_126 H locs zv_127 hp_128 hH hS => ?_)
        dsimp only at hp_128
        obtain ⟨r_129, er_129⟩ : ∃ qQ : pR, qQ = sPairs b n r_9.2.2 r_48.2.2 5 0 [] r_86.2.1 := ⟨_, rfl⟩
        rw [← er_129] at hp_128
        obtain ⟨rfl, rfl, rfl, rfl, hv, hp, pfq, q_130, q_131, hP, q_132, hLE, fAq, ctl⟩ := hp_128
        obtain ⟨L, hL, hLx⟩ := hLE
        have pf := pF_t pf pfq
        have u_133q : (I_121 q 1).toInt = (I_78 q 1).toInt := by rw [pF_q hp pfq]
        have u_133_0 : (I_121 ln 0).toInt = (I_78 ln 0).toInt := by rw [pfq.2]
        refine lv_istore_n (lv' := [(1, .int (iI v_127)), (0, .ref a)]) F.1 F.2.1 dX1_readJoin_33 rfl hl (by decide) rfl (fun ls hl => ?_)
        refine lv_aload_n F.1 F.2.1 dX1_readJoin_34 rfl (lv_at hl 1 rfl) ?_
        refine g_getR (ci := 1) (k := 2) F hH rfl (by decide) iX1 hp.1 (by decide) rfl (b := ln) hp.2.2.2.1 k29 dX1_readJoin_35 ?_
        refine lv_aload_n F.1 F.2.1 dX1_readJoin_38 rfl (lv_at hl 1 rfl) ?_
        refine g_getR (ci := 1) (k := 2) F hH rfl (by decide) iX1 hp.1 (by decide) rfl (b := ln) hp.2.2.2.1 k29 dX1_readJoin_39 ?_
        have b_134 := gI_line hv hp.2.2.2.2.1
        unfold vLineI at b_134
        refine g_calli (g_runV (As := []) (rest := [.ref ln]) (ci := 0) F hl.1 hH hS hz (c_X0_columnsOfJoing l g gh L I_121 R J AI_124 AJ AR ln hv hp.2.2.2.2.1 hL) (cwV 0 F.2.2.2.2.1 gX1_readJoin_X0_columnsOfJoin rfl rfl rfl hdX0_columnsOfJoin ⟨Nat.le_of_ble_eq_true rfl, Nat.le_of_ble_eq_true rfl⟩) hp.2.2.2.2.1 (by decide) rfl rfl rfl (Nat.le_of_ble_eq_true rfl) dX1_readJoin_42 ⟨Nat.zero_le _, Nat.zero_le _⟩) hS (fun v_141 I_135 R_136 J_137 AI_138 AJ_139 AR_140 H locs zv_141 hp_142 hH hS => ?_)
        dsimp only at hp_142
        obtain ⟨rfl, rfl, rfl, rfl, rfl, rfl, q_143, qj⟩ := hp_142
        have hjz : pIm v_127 (v_141) (r_129.2.2) := fun h => by rw [qj, show (I_121 ln 6).toInt = r_48.2.2 by omega, hLx h]; omega
        refine g_putI (ci := 0) (k := 2) F hH hS rfl (by decide) iX0 hp.2.2.2.2.1 (by decide) tyX0 tyX0_ok nmX0 rfl rfl rfl k136 dX1_readJoin_45 (fun H locs hH hS => ?_)
        obtain ⟨I_144, eI_144⟩ : ∃ qQ, qQ = gup2 I_121 ln 2 (iI (v_141)) := ⟨_, rfl⟩
        rw [← eI_144] at hH
        have kI_144 : ∀ b, b ≠ ln → I_144 b = I_121 b := fun b hb => by rw [eI_144]; exact funext fun j => gup2_a _ _ hb
        have hP := pH_ln hv hp hP kI_144
        have w_145 : (I_144 ln 2).toInt = v_141 := by rw [eI_144, gup2_s]; exact iI_val ⟨by omega, by omega⟩
        have hp2 : pS g gh R I_144 a q ln := pS_ln hv hp kI_144
        have hv : gInv g gh R AR I_144 AI_124 := by rw [eI_144]; exact gInv_line2 hv hp.2.2.2.2.1 (by omega) (by omega) (pS_col hp)
        have hp := hp2
        have pf : pF a ln I I_144 := pF_t pf (by rw [eI_144]; exact pF_ln (by decide))
        have w_145_k : ∀ j, j ≠ 2 → I_144 ln j = I_121 ln j := fun j hj => by rw [eI_144]; exact gup2_k _ _ hj
        have u_146q : (I_144 q 1).toInt = (I_121 q 1).toInt := by rw [kI_144 q (gO_ne hp.2.2.1 hp.2.2.2.2.1 (by decide))]
        have u_146_0 : (I_144 ln 0).toInt = (I_121 ln 0).toInt := by rw [w_145_k 0 (by decide)]
        have u_146_8 : (I_144 ln 8).toInt = (I_121 ln 8).toInt := by rw [w_145_k 8 (by decide)]
        have u_147 : (I_144 ln 3).toInt = (I_121 ln 3).toInt := by rw [w_145_k 3 (by decide)]
        have u_148 : (I_144 ln 4).toInt = (I_121 ln 4).toInt := by rw [w_145_k 4 (by decide)]
        have u_149 : (I_144 ln 5).toInt = (I_121 ln 5).toInt := by rw [w_145_k 5 (by decide)]
        have u_150 : (I_144 ln 6).toInt = (I_121 ln 6).toInt := by rw [w_145_k 6 (by decide)]
        have u_151 : (I_144 ln 9).toInt = (I_121 ln 9).toInt := by rw [w_145_k 9 (by decide)]
        have u_152 : (I_144 ln 10).toInt = (I_121 ln 10).toInt := by rw [w_145_k 10 (by decide)]
        have u_153 : (I_144 ln 11).toInt = (I_121 ln 11).toInt := by rw [w_145_k 11 (by decide)]
        have u_154 : (I_144 ln 12).toInt = (I_121 ln 12).toInt := by rw [w_145_k 12 (by decide)]
        refine lv_iload_n F.1 F.2.1 dX1_readJoin_48 rfl (lv_at hl 0 rfl) ?_
        have hfin : sJoi b n nr nt cl h = r_129 := by
          unfold sJoi
          repeat (first | with_reducible rfl | refine ite_y (by omega) ?_ | refine ite_n (by omega) ?_ | exact er_129.symm | exact thn_x er_129 (by omega) | refine thn_y er_9 (by omega) ?_ | refine thn_y er_48 (by omega) ?_ | refine thn_y er_86 (by omega) ?_ | exact pr_e (by omega) (by omega) (by omega))
        exact g_iret F hr hlk hH hS hz zv_127 ⟨rfl, rfl, rfl, rfl, hv, hp, pf, by first | omega | rfl | (dsimp only; omega), by (try dsimp only); rw [hfin]; first | done | omega | rfl, by (try dsimp only); rw [hfin]; exact hP, by (try dsimp only); first | exact pIm_n (by omega) | (rw [hfin]; exact fun h => by have q9 := hjz h; omega), fun b hb => fAq b hb, fun h9 => by
        (try dsimp only at h9)
        have a1 := sRl_h er_9 (by omega)
        have a2 := sRl_h er_48 (by omega)
        have a3 := sTw_h er_86 (by omega)
        have a6 := rl3 (by omega)
        have a7 := rl4 (by omega)
        have a4 := ctl (by omega)
        have a5 : (I_144 ln 8).toInt = ((iCnt nxT (spC b n) 5 r_86.2.1 : Nat) : Int) := by have := a4.1; omega
        unfold kJoi
        (try dsimp only)
        rw [show h + 3 = r_86.2.1 by omega, show h + 1 = r_9.2.1 by omega, a5]
        refine ⟨by omega, by omega, by omega, by omega, rfl, ?_⟩
        rw [← a4.1]; exact a4.2⟩ dX1_readJoin_49

def rmX1_readDistinctg : Room := { frames := 4, cells := 0, slots := 0, locals := 83 }
set_option maxHeartbeats 4000000 in
set_option maxRecDepth 100000 in
/-- a distinct -/
theorem c_X1_readDistinctg (l : Launch) (g : gG) (gh : gGh) (q ln : Nat) (b : tTx) (n : Nat) (tl : Int) (nr : Nat) (nt : Nat → Nat) (cl : Nat → Int) (h : Nat) (I : gI) (R : gR) (J : gJ) (AI : gI) (AJ : gJ) (AR : gR) (a : Nat) (hv : gInv g gh R AR I AI) (hp : pS g gh R I a q ln) (hk0 : (I ln 0).toInt ≠ 0) (hP : pH gh AR I J AI AJ a q b n tl nr nt cl h) (h4n : (I ln 4).toInt = -1) : gMet l g yX1_readDistinct wsX1_readDistinct rmX1_readDistinctg [.ref a] (I, R, J, AI, AJ, AR) (gQi g (fun (z : Int) (w : gS) => R = w.2.1 ∧ J = w.2.2.1 ∧ AI = w.2.2.2.1 ∧ AJ = w.2.2.2.2.1 ∧ AR = w.2.2.2.2.2 ∧ (gInv g gh R AR (w.1) AI) ∧ (pS g gh R (w.1) a q ln) ∧ (pF a ln I (w.1)) ∧ (0 ≤ z ∧ z ≤ 4) ∧ (z = (sRl b n nr nt cl h).1) ∧ (pH gh AR (w.1) J AI AJ a q b n tl nr nt cl (sRl b n nr nt cl h).2.1) ∧ (pIm z (((w.1) ln 2).toInt) ((sRl b n nr nt cl h).2.2)) ∧ (zIf z (kOne b n nr nt h ((w.1) ln))))) := by
  refine gStart (cc := cX1_readDistinct) (maxL := 2) (ret := (some (.int))) (by decide) rfl (Nat.le_of_ble_eq_true rfl) ?_
  intro p e s m below meth c ls F hr hlk hH hz hS hl
  have hl : lv_has ls 2 [(0, .ref a)] := hl
  have hS : va_S (gA g) s.heap s.heap [] := hS
  obtain ⟨H, hHe⟩ : ∃ H : Heap, H = s.heap := ⟨_, rfl⟩
  obtain ⟨locs, hlo⟩ : ∃ k : List Loc, k = [] := ⟨_, rfl⟩
  have hH : gH g I R J AI AJ AR H := by rw [hHe]; exact hH
  have hS : va_S (gA g) s.heap H locs := by rw [hHe, hlo]; exact hS
  suffices hw : W p l e rmX1_readDistinctg s m ([.ref a] : List Value).toArray below meth c H locs 0 0 (MQ below (gQi g (fun (z : Int) (w : gS) => R = w.2.1 ∧ J = w.2.2.1 ∧ AI = w.2.2.2.1 ∧ AJ = w.2.2.2.2.1 ∧ AR = w.2.2.2.2.2 ∧ (gInv g gh R AR (w.1) AI) ∧ (pS g gh R (w.1) a q ln) ∧ (pF a ln I (w.1)) ∧ (0 ≤ z ∧ z ≤ 4) ∧ (z = (sRl b n nr nt cl h).1) ∧ (pH gh AR (w.1) J AI AJ a q b n tl nr nt cl (sRl b n nr nt cl h).2.1) ∧ (pIm z (((w.1) ln 2).toInt) ((sRl b n nr nt cl h).2.2)) ∧ (zIf z (kOne b n nr nt h ((w.1) ln))))) ([.ref a] : List Value).toArray s 0 0 (gA g)) (F0 m 0 ls []) by
    rw [hHe, hlo] at hw; exact hw
  clear hHe hlo
  have pf : pF a ln I I := pF_r
  have iX1 : ∀ w ∈ u_ws RX1 TX1 4, w ∈ wsX1_readDistinct := (by decide +kernel)
  have iX0 : ∀ w ∈ u_ws RX0 TX0 15, w ∈ wsX1_readDistinct := (by decide +kernel)
  have k29 : Cond.fieldLink RX1 29 (TX1 2).1 (TX1 2).2.1 (TX1 2).2.2.1 ∈ wsX1_readDistinct := List.mem_of_getElem? (i := 1) rfl
  have k143 : Cond.fieldLink RX1 143 (TX0 5).1 (TX0 5).2.1 (TX0 5).2.2.1 ∈ wsX1_readDistinct := List.mem_of_getElem? (i := 2) rfl
  have k136 : Cond.fieldLink RX1 136 (TX0 2).1 (TX0 2).2.1 (TX0 2).2.2.1 ∈ wsX1_readDistinct := List.mem_of_getElem? (i := 3) rfl
  refine lv_aload_n F.1 F.2.1 dX1_readDistinct_0 rfl (lv_at hl 0 rfl) ?_
  refine g_calli (g_runV (As := []) (rest := []) (ci := 1) F hl.1 hH hS hz (c_X1_readFirstg l g gh q ln b n tl nr nt cl h I R J AI AJ AR a hv hp (by omega) hP) (cwV 0 F.2.2.2.2.1 gX1_readDistinct_X1_readFirst rfl rfl rfl hdX1_readFirst ⟨Nat.le_of_ble_eq_true rfl, Nat.le_of_ble_eq_true rfl⟩) hp.1 (by decide) rfl rfl rfl (Nat.le_of_ble_eq_true rfl) dX1_readDistinct_1 ⟨Nat.zero_le _, Nat.zero_le _⟩) hS (fun v_7 I_1 R_2 J_3 AI_4 AJ_5 AR_6 H locs zv_7 hp_8 hH hS => ?_)
  dsimp only at hp_8
  obtain ⟨r_9, er_9⟩ : ∃ qQ : pR, qQ = sRl b n nr nt cl h := ⟨_, rfl⟩
  rw [← er_9] at hp_8
  obtain ⟨rfl, rfl, rfl, rfl, rfl, hv, hp, pfq, k8q, q_10, q_11, hP, q_12, hd5, rl3⟩ := hp_8
  have pf := pF_t pf pfq
  have u_13q : (I_1 q 1).toInt = (I q 1).toInt := by rw [pF_q hp pfq]
  have u_13_0 : (I_1 ln 0).toInt = (I ln 0).toInt := by rw [pfq.2]
  have u_13_8 : (I_1 ln 8).toInt = (I ln 8).toInt := by rw [k8q]
  refine lv_istore_n (lv' := [(1, .int (iI v_7)), (0, .ref a)]) F.1 F.2.1 dX1_readDistinct_4 rfl hl (by decide) rfl (fun ls hl => ?_)
  refine lv_aload_n F.1 F.2.1 dX1_readDistinct_5 rfl (lv_at hl 1 rfl) ?_
  refine g_getR (ci := 1) (k := 2) F hH rfl (by decide) iX1 hp.1 (by decide) rfl (b := ln) hp.2.2.2.1 k29 dX1_readDistinct_6 ?_
  refine lv_aload_n F.1 F.2.1 dX1_readDistinct_9 rfl (lv_at hl 1 rfl) ?_
  refine g_getR (ci := 1) (k := 2) F hH rfl (by decide) iX1 hp.1 (by decide) rfl (b := ln) hp.2.2.2.1 k29 dX1_readDistinct_10 ?_
  refine g_getI (ci := 0) (k := 5) F hH rfl (by decide) iX0 hp.2.2.2.2.1 (by decide) rfl k143 dX1_readDistinct_13 ?_
  have b_14 := gI_line hv hp.2.2.2.2.1
  unfold vLineI at b_14
  refine g_putI (ci := 0) (k := 2) F hH hS rfl (by decide) iX0 hp.2.2.2.2.1 (by decide) tyX0 tyX0_ok nmX0 rfl rfl rfl k136 dX1_readDistinct_16 (fun H locs hH hS => ?_)
  obtain ⟨I_15, eI_15⟩ : ∃ qQ, qQ = gup2 I_1 ln 2 (iI ((I_1 ln 5).toInt)) := ⟨_, rfl⟩
  rw [← eI_15] at hH
  have kI_15 : ∀ b, b ≠ ln → I_15 b = I_1 b := fun b hb => by rw [eI_15]; exact funext fun j => gup2_a _ _ hb
  have hP := pH_ln hv hp hP kI_15
  have w_16 : (I_15 ln 2).toInt = (I_1 ln 5).toInt := by rw [eI_15, gup2_s]; exact iI_val ⟨by omega, by omega⟩
  have hp2 : pS g gh R I_15 a q ln := pS_ln hv hp kI_15
  have hv : gInv g gh R AR I_15 AI := by rw [eI_15]; exact gInv_line2 hv hp.2.2.2.2.1 (by omega) (by omega) (pS_col hp)
  have hp := hp2
  have pf : pF a ln I I_15 := pF_t pf (by rw [eI_15]; exact pF_ln (by decide))
  have w_16_k : ∀ j, j ≠ 2 → I_15 ln j = I_1 ln j := fun j hj => by rw [eI_15]; exact gup2_k _ _ hj
  have u_17q : (I_15 q 1).toInt = (I_1 q 1).toInt := by rw [kI_15 q (gO_ne hp.2.2.1 hp.2.2.2.2.1 (by decide))]
  have u_17_0 : (I_15 ln 0).toInt = (I_1 ln 0).toInt := by rw [w_16_k 0 (by decide)]
  have u_17_8 : (I_15 ln 8).toInt = (I_1 ln 8).toInt := by rw [w_16_k 8 (by decide)]
  have u_18 : (I_15 ln 3).toInt = (I_1 ln 3).toInt := by rw [w_16_k 3 (by decide)]
  have u_19 : (I_15 ln 4).toInt = (I_1 ln 4).toInt := by rw [w_16_k 4 (by decide)]
  have u_20 : (I_15 ln 5).toInt = (I_1 ln 5).toInt := by rw [w_16_k 5 (by decide)]
  have u_21 : (I_15 ln 6).toInt = (I_1 ln 6).toInt := by rw [w_16_k 6 (by decide)]
  have u_22 : (I_15 ln 9).toInt = (I_1 ln 9).toInt := by rw [w_16_k 9 (by decide)]
  have u_23 : (I_15 ln 10).toInt = (I_1 ln 10).toInt := by rw [w_16_k 10 (by decide)]
  have u_24 : (I_15 ln 11).toInt = (I_1 ln 11).toInt := by rw [w_16_k 11 (by decide)]
  have u_25 : (I_15 ln 12).toInt = (I_1 ln 12).toInt := by rw [w_16_k 12 (by decide)]
  refine lv_iload_n F.1 F.2.1 dX1_readDistinct_19 rfl (lv_at hl 0 rfl) ?_
  have hfin : sRl b n nr nt cl h = r_9 := by
    unfold sRl
    repeat (first | with_reducible rfl | refine ite_y (by omega) ?_ | refine ite_n (by omega) ?_ | exact er_9.symm | exact thn_x er_9 (by omega) | exact pr_e (by omega) (by omega) (by omega))
  exact g_iret F hr hlk hH hS hz zv_7 ⟨rfl, rfl, rfl, rfl, rfl, hv, hp, pf, by first | omega | rfl | (dsimp only; omega), by (try dsimp only); rw [hfin]; first | done | omega | rfl, by (try dsimp only); rw [hfin]; exact hP, by (try dsimp only); rw [hfin]; exact fun h => by have q9 := hd5 h; omega, fun h9 => by
        (try dsimp only at h9)
        have a6 := rl3 (by omega)
        unfold kOne
        (try dsimp only)
        exact ⟨by omega, by omega⟩⟩ dX1_readDistinct_20

def rmX1_readTwoAlikeg : Room := { frames := 4, cells := 0, slots := 0, locals := 83 }
set_option maxHeartbeats 4000000 in
set_option maxRecDepth 100000 in
/-- a union or minus -/
theorem c_X1_readTwoAlikeg (l : Launch) (g : gG) (gh : gGh) (q ln : Nat) (b : tTx) (n : Nat) (tl : Int) (nr : Nat) (nt : Nat → Nat) (cl : Nat → Int) (h : Nat) (I : gI) (R : gR) (J : gJ) (AI : gI) (AJ : gJ) (AR : gR) (a : Nat) (hv : gInv g gh R AR I AI) (hp : pS g gh R I a q ln) (hk0 : (I ln 0).toInt ≠ 0) (hP : pH gh AR I J AI AJ a q b n tl nr nt cl h) : gMet l g yX1_readTwoAlike wsX1_readTwoAlike rmX1_readTwoAlikeg [.ref a] (I, R, J, AI, AJ, AR) (gQi g (fun (z : Int) (w : gS) => R = w.2.1 ∧ J = w.2.2.1 ∧ AI = w.2.2.2.1 ∧ AJ = w.2.2.2.2.1 ∧ AR = w.2.2.2.2.2 ∧ (gInv g gh R AR (w.1) AI) ∧ (pS g gh R (w.1) a q ln) ∧ (pF a ln I (w.1)) ∧ (0 ≤ z ∧ z ≤ 5) ∧ (z = (sTwo b n nr nt cl h).1) ∧ (pH gh AR (w.1) J AI AJ a q b n tl nr nt cl (sTwo b n nr nt cl h).2.1) ∧ (pIm z (((w.1) ln 2).toInt) ((sTwo b n nr nt cl h).2.2)) ∧ (zIf z (kTwo b n nr nt h ((w.1) ln))))) := by
  refine gStart (cc := cX1_readTwoAlike) (maxL := 3) (ret := (some (.int))) (by decide) rfl (Nat.le_of_ble_eq_true rfl) ?_
  intro p e s m below meth c ls F hr hlk hH hz hS hl
  have hl : lv_has ls 3 [(0, .ref a)] := hl
  have hS : va_S (gA g) s.heap s.heap [] := hS
  obtain ⟨H, hHe⟩ : ∃ H : Heap, H = s.heap := ⟨_, rfl⟩
  obtain ⟨locs, hlo⟩ : ∃ k : List Loc, k = [] := ⟨_, rfl⟩
  have hH : gH g I R J AI AJ AR H := by rw [hHe]; exact hH
  have hS : va_S (gA g) s.heap H locs := by rw [hHe, hlo]; exact hS
  suffices hw : W p l e rmX1_readTwoAlikeg s m ([.ref a] : List Value).toArray below meth c H locs 0 0 (MQ below (gQi g (fun (z : Int) (w : gS) => R = w.2.1 ∧ J = w.2.2.1 ∧ AI = w.2.2.2.1 ∧ AJ = w.2.2.2.2.1 ∧ AR = w.2.2.2.2.2 ∧ (gInv g gh R AR (w.1) AI) ∧ (pS g gh R (w.1) a q ln) ∧ (pF a ln I (w.1)) ∧ (0 ≤ z ∧ z ≤ 5) ∧ (z = (sTwo b n nr nt cl h).1) ∧ (pH gh AR (w.1) J AI AJ a q b n tl nr nt cl (sTwo b n nr nt cl h).2.1) ∧ (pIm z (((w.1) ln 2).toInt) ((sTwo b n nr nt cl h).2.2)) ∧ (zIf z (kTwo b n nr nt h ((w.1) ln))))) ([.ref a] : List Value).toArray s 0 0 (gA g)) (F0 m 0 ls []) by
    rw [hHe, hlo] at hw; exact hw
  clear hHe hlo
  have pf : pF a ln I I := pF_r
  have iX5 : ∀ w ∈ u_ws RX5 TX5 5, w ∈ wsX1_readTwoAlike := (by decide +kernel)
  have iX2 : ∀ w ∈ u_ws RX2 TX2 3, w ∈ wsX1_readTwoAlike := (by decide +kernel)
  have iX1 : ∀ w ∈ u_ws RX1 TX1 4, w ∈ wsX1_readTwoAlike := (by decide +kernel)
  have iX0 : ∀ w ∈ u_ws RX0 TX0 15, w ∈ wsX1_readTwoAlike := (by decide +kernel)
  have k21 : Cond.fieldLink RX1 21 (TX1 1).1 (TX1 1).2.1 (TX1 1).2.2.1 ∈ wsX1_readTwoAlike := List.mem_of_getElem? (i := 1) rfl
  have k12 : Cond.fieldLink RX1 12 (TX1 0).1 (TX1 0).2.1 (TX1 0).2.2.1 ∈ wsX1_readTwoAlike := List.mem_of_getElem? (i := 2) rfl
  have k93 : Cond.fieldLink RX1 93 (TX5 3).1 (TX5 3).2.1 (TX5 3).2.2.1 ∈ wsX1_readTwoAlike := List.mem_of_getElem? (i := 3) rfl
  have k44 : Cond.fieldLink RX1 44 (TX1 3).1 (TX1 3).2.1 (TX1 3).2.2.1 ∈ wsX1_readTwoAlike := List.mem_of_getElem? (i := 4) rfl
  have k25 : Cond.fieldLink RX1 25 (TX2 0).1 (TX2 0).2.1 (TX2 0).2.2.1 ∈ wsX1_readTwoAlike := List.mem_of_getElem? (i := 5) rfl
  have k136 : Cond.fieldLink RX1 136 (TX0 2).1 (TX0 2).2.1 (TX0 2).2.2.1 ∈ wsX1_readTwoAlike := List.mem_of_getElem? (i := 6) rfl
  have k29 : Cond.fieldLink RX1 29 (TX1 2).1 (TX1 2).2.1 (TX1 2).2.2.1 ∈ wsX1_readTwoAlike := List.mem_of_getElem? (i := 7) rfl
  have k143 : Cond.fieldLink RX1 143 (TX0 5).1 (TX0 5).2.1 (TX0 5).2.2.1 ∈ wsX1_readTwoAlike := List.mem_of_getElem? (i := 8) rfl
  refine lv_aload_n F.1 F.2.1 dX1_readTwoAlike_0 rfl (lv_at hl 0 rfl) ?_
  refine g_calli (g_runV (As := []) (rest := []) (ci := 1) F hl.1 hH hS hz (c_X1_readFirstg l g gh q ln b n tl nr nt cl h I R J AI AJ AR a hv hp (by omega) hP) (cwV 0 F.2.2.2.2.1 gX1_readTwoAlike_X1_readFirst rfl rfl rfl hdX1_readFirst ⟨Nat.le_of_ble_eq_true rfl, Nat.le_of_ble_eq_true rfl⟩) hp.1 (by decide) rfl rfl rfl (Nat.le_of_ble_eq_true rfl) dX1_readTwoAlike_1 ⟨Nat.zero_le _, Nat.zero_le _⟩) hS (fun v_7 I_1 R_2 J_3 AI_4 AJ_5 AR_6 H locs zv_7 hp_8 hH hS => ?_)
  dsimp only at hp_8
  obtain ⟨r_9, er_9⟩ : ∃ qQ : pR, qQ = sRl b n nr nt cl h := ⟨_, rfl⟩
  rw [← er_9] at hp_8
  obtain ⟨rfl, rfl, rfl, rfl, rfl, hv, hp, pfq, k8q, q_10, q_11, hP, q_12, q_13, rl3⟩ := hp_8
  have pf := pF_t pf pfq
  have u_14q : (I_1 q 1).toInt = (I q 1).toInt := by rw [pF_q hp pfq]
  have u_14_0 : (I_1 ln 0).toInt = (I ln 0).toInt := by rw [pfq.2]
  have u_14_8 : (I_1 ln 8).toInt = (I ln 8).toInt := by rw [k8q]
  refine lv_istore_n (lv' := [(1, .int (iI v_7)), (0, .ref a)]) F.1 F.2.1 dX1_readTwoAlike_4 rfl hl (by decide) rfl (fun ls hl => ?_)
  refine lv_iload_n F.1 F.2.1 dX1_readTwoAlike_5 rfl (lv_at hl 0 rfl) ?_
  refine z_if_ne (tgt := 14) F dX1_readTwoAlike_6 (by decide) zv_7 (fun c_15 => ?_) (fun c_15 => ?_)
  · refine lv_iload_n F.1 F.2.1 dX1_readTwoAlike_14 rfl (lv_at hl 0 rfl) ?_
    refine z_if_eq (tgt := 20) F dX1_readTwoAlike_15 (by decide) zv_7 (fun c_16 => ?_) (fun c_16 => ?_)
    · exact absurd trivial (by omega)
    · refine lv_iload_n F.1 F.2.1 dX1_readTwoAlike_18 rfl (lv_at hl 0 rfl) ?_
      have hfin : sTwo b n nr nt cl h = r_9 := by
        unfold sTwo
        repeat (first | with_reducible rfl | refine ite_y (by omega) ?_ | refine ite_n (by omega) ?_ | exact er_9.symm | exact thn_x er_9 (by omega) | exact pr_e (by omega) (by omega) (by omega))
      exact g_iret F hr hlk hH hS hz zv_7 ⟨rfl, rfl, rfl, rfl, rfl, hv, hp, pf, by first | omega | rfl | (dsimp only; omega), by (try dsimp only); rw [hfin]; first | done | omega | rfl, by (try dsimp only); rw [hfin]; exact hP, by (try dsimp only); first | exact pIm_n (by omega) | (rw [hfin]; (try dsimp only); exact pIm_y (by first | omega | rfl)) | exact pIm_y (by omega) | (rw [hfin]; (try dsimp only); exact fun h9 => by have q9 := q_13 h9; (try dsimp only at q9); omega), by (try dsimp only); exact zIf_n (by omega)⟩ dX1_readTwoAlike_19
  · have t_17 := q_13 (by omega)
    refine lv_aload_n F.1 F.2.1 dX1_readTwoAlike_9 rfl (lv_at hl 1 rfl) ?_
    refine g_calli (g_runV (As := []) (rest := []) (ci := 1) F hl.1 hH hS hz (c_X1_seeRelationg l g gh q ln b n tl nr nt cl r_9.2.1 I_1 R J AI AJ AR a hv hp hP) (cwV 0 F.2.2.2.2.1 gX1_readTwoAlike_X1_seeRelation rfl rfl rfl hdX1_seeRelation ⟨Nat.le_of_ble_eq_true rfl, Nat.le_of_ble_eq_true rfl⟩) hp.1 (by decide) rfl rfl rfl (Nat.le_of_ble_eq_true rfl) dX1_readTwoAlike_10 ⟨Nat.zero_le _, Nat.zero_le _⟩) hS (fun v_24 I_18 R_19 J_20 AI_21 AJ_22 AR_23 H locs zv_24 hp_25 hH hS => ?_)
    dsimp only at hp_25
    obtain ⟨rfl, rfl, rfl, rfl, rfl, rfl, qz, qs, qf⟩ := hp_25
    refine lv_istore_n (lv' := [(1, .int (iI v_24)), (0, .ref a)]) F.1 F.2.1 dX1_readTwoAlike_13 rfl hl (by decide) rfl (fun ls hl => ?_)
    refine lv_iload_n F.1 F.2.1 dX1_readTwoAlike_14 rfl (lv_at hl 0 rfl) ?_
    refine z_if_eq (tgt := 20) F dX1_readTwoAlike_15 (by decide) zv_24 (fun c_26 => ?_) (fun c_26 => ?_)
    · refine lv_aload_n F.1 F.2.1 dX1_readTwoAlike_20 rfl (lv_at hl 1 rfl) ?_
      refine g_getR (ci := 1) (k := 1) F hH rfl (by decide) iX1 hp.1 (by decide) rfl (b := q) hp.2.1 k21 dX1_readTwoAlike_21 ?_
      refine lv_aload_n F.1 F.2.1 dX1_readTwoAlike_24 rfl (lv_at hl 1 rfl) ?_
      refine g_getR (ci := 1) (k := 0) F hH rfl (by decide) iX1 hp.1 (by decide) rfl (b := gh 22 0) (gR_pr0 hv hp.1).1 k12 dX1_readTwoAlike_25 ?_
      obtain ⟨r_27a, r_27b⟩ := gR_tk3 hv (gR_pr0 hv hp.1).2
      refine g_getR (ci := 5) (k := 3) F hH rfl (by decide) iX5 (gR_pr0 hv hp.1).2 (by decide) rfl (b := gh 27 0) r_27a k93 dX1_readTwoAlike_28 ?_
      refine lv_aload_n F.1 F.2.1 dX1_readTwoAlike_31 rfl (lv_at hl 1 rfl) ?_
      refine g_getI (ci := 1) (k := 3) F hH rfl (by decide) iX1 hp.1 (by decide) rfl k44 dX1_readTwoAlike_32 ?_
      have b_28h := hp.2.2.2.2.2.2.2
      have b_28 := gI_pr hv hp.1
      have b_28t := gI_tk hv (gR_pr0 hv hp.1).2
      have hx35 : 0 ≤ ((I_1 a 3).toInt) ∧ ((I_1 a 3).toInt) < ((901 : Nat) : Int) ∧ ((I_1 a 3).toInt) ≤ 2147483647 := ⟨by omega, by omega, by omega⟩
      refine g_lald F hH r_27b hx35.1 hx35.2.1 hx35.2.2 dX1_readTwoAlike_35 ?_
      refine lv_topl (fun j_29 ej_29 => ?_)
      have ejn := ej_29
      have b_30 := gI_plan hv hp.2.2.1
      refine g_calli (g_runV (As := [.long j_29]) (rest := []) (ci := 2) F hl.1 hH hS hz (c_X2_relationOf l g gh I_1 R J AI AJ AR q j_29 hv hp.2.2.1) (cwV 1 F.2.2.2.2.1 gX1_readTwoAlike_X2_relationOf rfl rfl rfl hdX2_relationOf ⟨Nat.le_of_ble_eq_true rfl, Nat.le_of_ble_eq_true rfl⟩) hp.2.2.1 (by decide) rfl rfl rfl (Nat.le_of_ble_eq_true rfl) dX1_readTwoAlike_36 ⟨Nat.zero_le _, Nat.zero_le _⟩) hS (fun v_37 I_31 R_32 J_33 AI_34 AJ_35 AR_36 H locs zv_37 hp_38 hH hS => ?_)
      dsimp only at hp_38
      obtain ⟨rfl, rfl, rfl, rfl, rfl, rfl, qr⟩ := hp_38
      have hfd : v_37 = pFd b n nt nr (r_9.2.1) := pH_fd hv hp.2.2.1 hP ejn qr
      have hvr : 0 ≤ v_37 ∧ v_37 < (I_1 q 1).toInt := by
        rcases qr with ⟨h, h2⟩ | ⟨h1, h2, b, h3, h4⟩
        · obtain ⟨j, b, hj, hb, hJ⟩ := qs (by omega)
          exact absurd (hJ.trans ejn.symm) (h2 j hj b hb)
        · exact ⟨h1, h2⟩
      clear qs qr
      refine lv_istore_n (lv' := [(2, .int (iI v_37)), (1, .int (iI v_24)), (0, .ref a)]) F.1 F.2.1 dX1_readTwoAlike_39 rfl hl (by decide) rfl (fun ls hl => ?_)
      refine lv_aload_n F.1 F.2.1 dX1_readTwoAlike_40 rfl (lv_at hl 2 rfl) ?_
      refine g_getR (ci := 1) (k := 1) F hH rfl (by decide) iX1 hp.1 (by decide) rfl (b := q) hp.2.1 k21 dX1_readTwoAlike_41 ?_
      obtain ⟨r_39a, r_39b⟩ := gR_lines hv hp.2.2.1
      refine g_getR (ci := 2) (k := 0) F hH rfl (by decide) iX2 hp.2.2.1 (by decide) rfl (b := gh 6 q) r_39a k25 dX1_readTwoAlike_44 ?_
      refine lv_iload_n F.1 F.2.1 dX1_readTwoAlike_47 rfl (lv_at hl 0 rfl) ?_
      have hx48 : 0 ≤ v_37 ∧ v_37 < ((16 : Nat) : Int) ∧ v_37 ≤ 2147483647 := ⟨by omega, by omega, by omega⟩
      obtain ⟨y_40, y_40a, y_40b, y_40c, y_40d⟩ := gA_lines hv hp.2.2.1 (z := v_37) (by omega) (by omega)
      refine g_aldL F hH r_39b hx48.1 hx48.2.1 hx48.2.2 (b := y_40) y_40a dX1_readTwoAlike_48 ?_
      have hcl : (I_1 y_40 2).toInt = cF b n nr nt cl (r_9.2.1) := (pH_c hP (by omega) (by omega) y_40a).trans (by unfold cF; rw [hfd])
      have hrf : pRf b n nt nr (r_9.2.1) = 0 := by omega
      refine g_getI (ci := 0) (k := 2) F hH rfl (by decide) iX0 y_40b (by decide) rfl k136 dX1_readTwoAlike_49 ?_
      have b_41 := gI_line hv y_40b
      unfold vLineI at b_41
      refine lv_aload_n F.1 F.2.1 dX1_readTwoAlike_52 rfl (lv_at hl 2 rfl) ?_
      refine g_getR (ci := 1) (k := 2) F hH rfl (by decide) iX1 hp.1 (by decide) rfl (b := ln) hp.2.2.2.1 k29 dX1_readTwoAlike_53 ?_
      refine g_getI (ci := 0) (k := 5) F hH rfl (by decide) iX0 hp.2.2.2.2.1 (by decide) rfl k143 dX1_readTwoAlike_56 ?_
      have b_42 := gI_line hv hp.2.2.2.2.1
      unfold vLineI at b_42
      refine z_icmp_eq (tgt := 64) F dX1_readTwoAlike_59 (by decide) (zr_t _) (zr_t _) (fun c_43 => ?_) (fun c_43 => ?_)
      · refine lv_aload_n F.1 F.2.1 dX1_readTwoAlike_64 rfl (lv_at hl 2 rfl) ?_
        refine g_getR (ci := 1) (k := 2) F hH rfl (by decide) iX1 hp.1 (by decide) rfl (b := ln) hp.2.2.2.1 k29 dX1_readTwoAlike_65 ?_
        refine lv_aload_n F.1 F.2.1 dX1_readTwoAlike_68 rfl (lv_at hl 2 rfl) ?_
        refine g_getR (ci := 1) (k := 2) F hH rfl (by decide) iX1 hp.1 (by decide) rfl (b := ln) hp.2.2.2.1 k29 dX1_readTwoAlike_69 ?_
        refine g_getI (ci := 0) (k := 5) F hH rfl (by decide) iX0 hp.2.2.2.2.1 (by decide) rfl k143 dX1_readTwoAlike_72 ?_
        refine g_putI (ci := 0) (k := 2) F hH hS rfl (by decide) iX0 hp.2.2.2.2.1 (by decide) tyX0 tyX0_ok nmX0 rfl rfl rfl k136 dX1_readTwoAlike_75 (fun H locs hH hS => ?_)
        obtain ⟨I_44, eI_44⟩ : ∃ qQ, qQ = gup2 I_1 ln 2 (iI ((I_1 ln 5).toInt)) := ⟨_, rfl⟩
        rw [← eI_44] at hH
        have kI_44 : ∀ b, b ≠ ln → I_44 b = I_1 b := fun b hb => by rw [eI_44]; exact funext fun j => gup2_a _ _ hb
        have hP := pH_ln hv hp hP kI_44
        have w_45 : (I_44 ln 2).toInt = (I_1 ln 5).toInt := by rw [eI_44, gup2_s]; exact iI_val ⟨by omega, by omega⟩
        have hp2 : pS g gh R I_44 a q ln := pS_ln hv hp kI_44
        have hv : gInv g gh R AR I_44 AI := by rw [eI_44]; exact gInv_line2 hv hp.2.2.2.2.1 (by omega) (by omega) (pS_col hp)
        have hp := hp2
        have pf : pF a ln I I_44 := pF_t pf (by rw [eI_44]; exact pF_ln (by decide))
        have w_45_k : ∀ j, j ≠ 2 → I_44 ln j = I_1 ln j := fun j hj => by rw [eI_44]; exact gup2_k _ _ hj
        have u_46q : (I_44 q 1).toInt = (I_1 q 1).toInt := by rw [kI_44 q (gO_ne hp.2.2.1 hp.2.2.2.2.1 (by decide))]
        have u_46_0 : (I_44 ln 0).toInt = (I_1 ln 0).toInt := by rw [w_45_k 0 (by decide)]
        have u_46_8 : (I_44 ln 8).toInt = (I_1 ln 8).toInt := by rw [w_45_k 8 (by decide)]
        have u_47 : (I_44 ln 3).toInt = (I_1 ln 3).toInt := by rw [w_45_k 3 (by decide)]
        have u_48 : (I_44 ln 4).toInt = (I_1 ln 4).toInt := by rw [w_45_k 4 (by decide)]
        have u_49 : (I_44 ln 5).toInt = (I_1 ln 5).toInt := by rw [w_45_k 5 (by decide)]
        have u_50 : (I_44 ln 6).toInt = (I_1 ln 6).toInt := by rw [w_45_k 6 (by decide)]
        have u_51 : (I_44 ln 9).toInt = (I_1 ln 9).toInt := by rw [w_45_k 9 (by decide)]
        have u_52 : (I_44 ln 10).toInt = (I_1 ln 10).toInt := by rw [w_45_k 10 (by decide)]
        have u_53 : (I_44 ln 11).toInt = (I_1 ln 11).toInt := by rw [w_45_k 11 (by decide)]
        have u_54 : (I_44 ln 12).toInt = (I_1 ln 12).toInt := by rw [w_45_k 12 (by decide)]
        refine lv_aload_n F.1 F.2.1 dX1_readTwoAlike_78 rfl (lv_at hl 2 rfl) ?_
        refine g_calli (g_runV (As := []) (rest := []) (ci := 1) F hl.1 hH hS hz (c_X1_readSecondg l g gh q ln b n tl nr nt cl r_9.2.1 I_44 R J AI AJ AR a hv hp (by omega) hP) (cwV 0 F.2.2.2.2.1 gX1_readTwoAlike_X1_readSecond rfl rfl rfl hdX1_readSecond ⟨Nat.le_of_ble_eq_true rfl, Nat.le_of_ble_eq_true rfl⟩) hp.1 (by decide) rfl rfl rfl (Nat.le_of_ble_eq_true rfl) dX1_readTwoAlike_79 ⟨Nat.zero_le _, Nat.zero_le _⟩) hS (fun v_61 I_55 R_56 J_57 AI_58 AJ_59 AR_60 H locs zv_61 hp_62 hH hS => ?_)
        dsimp only at hp_62
        obtain ⟨r_63, er_63⟩ : ∃ qQ : pR, qQ = sRl b n nr nt cl r_9.2.1 := ⟨_, rfl⟩
        rw [← er_63] at hp_62
        obtain ⟨rfl, rfl, rfl, rfl, rfl, hv, hp, pfq, k8q, q_64, q_65, hP, q_66, q_67, rl4⟩ := hp_62
        have pf := pF_t pf pfq
        have u_68q : (I_55 q 1).toInt = (I_44 q 1).toInt := by rw [pF_q hp pfq]
        have u_68_0 : (I_55 ln 0).toInt = (I_44 ln 0).toInt := by rw [pfq.2]
        have u_68_8 : (I_55 ln 8).toInt = (I_44 ln 8).toInt := by rw [k8q]
        have hr2 : r_63 = (0, r_9.2.1 + 1, cF b n nr nt cl (r_9.2.1)) := by rw [er_63]; exact ite_y (by omega) rfl
        have hfin : sTwo b n nr nt cl h = (r_63.1, r_63.2.1, r_9.2.2) := by
          rw [hr2]; unfold sTwo
          exact thn_y er_9 (by omega) (ite_y (by omega) (ite_y (by omega) rfl))
        exact g_iret F hr hlk hH hS hz zv_61 ⟨rfl, rfl, rfl, rfl, rfl, hv, hp, pf, by first | omega | rfl | (dsimp only; omega), by (try dsimp only); rw [hfin]; first | done | omega | rfl, by (try dsimp only); rw [hfin]; exact hP, by (try dsimp only); first | exact pIm_n (by omega) | (rw [hfin]; (try dsimp only); exact pIm_y (by first | omega | rfl)) | exact pIm_y (by omega) | (rw [hfin]; (try dsimp only); exact fun h9 => by have q9 := q_67 h9; (try dsimp only at q9); omega), fun h9 => by
        (try dsimp only at h9)
        have a1 := sRl_h er_9 (by omega)
        have a6 := rl3 (by omega)
        have a7 := rl4 (by omega)
        unfold kTwo
        (try dsimp only)
        rw [show h + 1 = r_9.2.1 by omega]
        exact ⟨by omega, by omega⟩⟩ dX1_readTwoAlike_82
      · refine z_iconst F dX1_readTwoAlike_62 ?_
        have hfin : sTwo b n nr nt cl h = (5, r_9.2.1, 0) := by
          unfold sTwo
          repeat (first | with_reducible rfl | refine ite_y (by omega) ?_ | refine ite_n (by omega) ?_ | refine thn_y er_9 (by omega) ?_ | exact pr_e (by omega) (by omega) (by omega))
        exact g_iret F hr hlk hH hS hz ⟨by decide, by decide⟩ ⟨rfl, rfl, rfl, rfl, rfl, hv, hp, pf, by first | omega | rfl | (dsimp only; omega), by (try dsimp only); rw [hfin]; first | done | omega | rfl, by (try dsimp only); rw [hfin]; exact hP, by (try dsimp only); first | exact pIm_n (by omega) | (rw [hfin]; (try dsimp only); exact pIm_y (by first | omega | rfl)) | exact pIm_y (by omega), by (try dsimp only); exact zIf_n (by omega)⟩ dX1_readTwoAlike_63
    · refine lv_iload_n F.1 F.2.1 dX1_readTwoAlike_18 rfl (lv_at hl 0 rfl) ?_
      have hfin : sTwo b n nr nt cl h = (v_24, r_9.2.1, 0) := by
        unfold sTwo
        repeat (first | with_reducible rfl | refine ite_y (by omega) ?_ | refine ite_n (by omega) ?_ | refine thn_y er_9 (by omega) ?_ | exact pr_e (by omega) (by omega) (by omega))
      exact g_iret F hr hlk hH hS hz zv_24 ⟨rfl, rfl, rfl, rfl, rfl, hv, hp, pf, by first | omega | rfl | (dsimp only; omega), by (try dsimp only); rw [hfin]; first | done | omega | rfl, by (try dsimp only); rw [hfin]; exact hP, by (try dsimp only); first | exact pIm_n (by omega) | (rw [hfin]; (try dsimp only); exact pIm_y (by first | omega | rfl)) | exact pIm_y (by omega), by (try dsimp only); exact zIf_n (by omega)⟩ dX1_readTwoAlike_19

def rmX1_readGroupg : Room := { frames := 4, cells := 0, slots := 0, locals := 86 }
set_option maxHeartbeats 4000000 in
set_option maxRecDepth 100000 in
/-- a group -/
theorem c_X1_readGroupg (l : Launch) (g : gG) (gh : gGh) (q ln : Nat) (b : tTx) (n : Nat) (tl : Int) (nr : Nat) (nt : Nat → Nat) (cl : Nat → Int) (h : Nat) (I : gI) (R : gR) (J : gJ) (AI : gI) (AJ : gJ) (AR : gR) (a : Nat) (hv : gInv g gh R AR I AI) (hp : pS g gh R I a q ln) (hk : (I ln 0).toInt = 7) (hP : pH gh AR I J AI AJ a q b n tl nr nt cl h) (hk8 : (I ln 8).toInt = 0) (h4n : (I ln 4).toInt = -1) : gMet l g yX1_readGroup wsX1_readGroup rmX1_readGroupg [.ref a] (I, R, J, AI, AJ, AR) (gQi g (fun (z : Int) (w : gS) => R = w.2.1 ∧ J = w.2.2.1 ∧ AJ = w.2.2.2.2.1 ∧ AR = w.2.2.2.2.2 ∧ (gInv g gh R AR (w.1) (w.2.2.2.1)) ∧ (pS g gh R (w.1) a q ln) ∧ (pF a ln I (w.1)) ∧ (0 ≤ z ∧ z ≤ 4) ∧ (z = (sGrp b n nr nt cl h).1) ∧ (pH gh AR (w.1) J (w.2.2.2.1) AJ a q b n tl nr nt cl (sGrp b n nr nt cl h).2.1) ∧ (pIm z (((w.1) ln 2).toInt) ((sGrp b n nr nt cl h).2.2)) ∧ (∀ b, b ≠ gh 3 ln → (w.2.2.2.1) b = AI b) ∧ (zIf z (kGrp b n nr nt h ((w.1) ln) ((w.2.2.2.1) (gh 3 ln)))))) := by
  refine gStart (cc := cX1_readGroup) (maxL := 2) (ret := (some (.int))) (by decide) rfl (Nat.le_of_ble_eq_true rfl) ?_
  intro p e s m below meth c ls F hr hlk hH hz hS hl
  have hl : lv_has ls 2 [(0, .ref a)] := hl
  have hS : va_S (gA g) s.heap s.heap [] := hS
  obtain ⟨H, hHe⟩ : ∃ H : Heap, H = s.heap := ⟨_, rfl⟩
  obtain ⟨locs, hlo⟩ : ∃ k : List Loc, k = [] := ⟨_, rfl⟩
  have hH : gH g I R J AI AJ AR H := by rw [hHe]; exact hH
  have hS : va_S (gA g) s.heap H locs := by rw [hHe, hlo]; exact hS
  suffices hw : W p l e rmX1_readGroupg s m ([.ref a] : List Value).toArray below meth c H locs 0 0 (MQ below (gQi g (fun (z : Int) (w : gS) => R = w.2.1 ∧ J = w.2.2.1 ∧ AJ = w.2.2.2.2.1 ∧ AR = w.2.2.2.2.2 ∧ (gInv g gh R AR (w.1) (w.2.2.2.1)) ∧ (pS g gh R (w.1) a q ln) ∧ (pF a ln I (w.1)) ∧ (0 ≤ z ∧ z ≤ 4) ∧ (z = (sGrp b n nr nt cl h).1) ∧ (pH gh AR (w.1) J (w.2.2.2.1) AJ a q b n tl nr nt cl (sGrp b n nr nt cl h).2.1) ∧ (pIm z (((w.1) ln 2).toInt) ((sGrp b n nr nt cl h).2.2)) ∧ (∀ b, b ≠ gh 3 ln → (w.2.2.2.1) b = AI b) ∧ (zIf z (kGrp b n nr nt h ((w.1) ln) ((w.2.2.2.1) (gh 3 ln)))))) ([.ref a] : List Value).toArray s 0 0 (gA g)) (F0 m 0 ls []) by
    rw [hHe, hlo] at hw; exact hw
  clear hHe hlo
  have pf : pF a ln I I := pF_r
  have iX1 : ∀ w ∈ u_ws RX1 TX1 4, w ∈ wsX1_readGroup := (by decide +kernel)
  have iX0 : ∀ w ∈ u_ws RX0 TX0 15, w ∈ wsX1_readGroup := (by decide +kernel)
  have k29 : Cond.fieldLink RX1 29 (TX1 2).1 (TX1 2).2.1 (TX1 2).2.2.1 ∈ wsX1_readGroup := List.mem_of_getElem? (i := 1) rfl
  have k149 : Cond.fieldLink RX1 149 (TX0 8).1 (TX0 8).2.1 (TX0 8).2.2.1 ∈ wsX1_readGroup := List.mem_of_getElem? (i := 2) rfl
  have k136 : Cond.fieldLink RX1 136 (TX0 2).1 (TX0 2).2.1 (TX0 2).2.2.1 ∈ wsX1_readGroup := List.mem_of_getElem? (i := 3) rfl
  refine lv_aload_n F.1 F.2.1 dX1_readGroup_0 rfl (lv_at hl 0 rfl) ?_
  refine g_calli (g_runV (As := []) (rest := []) (ci := 1) F hl.1 hH hS hz (c_X1_readFirstg l g gh q ln b n tl nr nt cl h I R J AI AJ AR a hv hp (by omega) hP) (cwV 0 F.2.2.2.2.1 gX1_readGroup_X1_readFirst rfl rfl rfl hdX1_readFirst ⟨Nat.le_of_ble_eq_true rfl, Nat.le_of_ble_eq_true rfl⟩) hp.1 (by decide) rfl rfl rfl (Nat.le_of_ble_eq_true rfl) dX1_readGroup_1 ⟨Nat.zero_le _, Nat.zero_le _⟩) hS (fun v_7 I_1 R_2 J_3 AI_4 AJ_5 AR_6 H locs zv_7 hp_8 hH hS => ?_)
  dsimp only at hp_8
  obtain ⟨r_9, er_9⟩ : ∃ qQ : pR, qQ = sRl b n nr nt cl h := ⟨_, rfl⟩
  rw [← er_9] at hp_8
  obtain ⟨rfl, rfl, rfl, rfl, rfl, hv, hp, pfq, k8q, q_10, q_11, hP, q_12, q_13, rl3⟩ := hp_8
  have pf := pF_t pf pfq
  have u_14q : (I_1 q 1).toInt = (I q 1).toInt := by rw [pF_q hp pfq]
  have u_14_0 : (I_1 ln 0).toInt = (I ln 0).toInt := by rw [pfq.2]
  have u_14_8 : (I_1 ln 8).toInt = (I ln 8).toInt := by rw [k8q]
  refine lv_istore_n (lv' := [(1, .int (iI v_7)), (0, .ref a)]) F.1 F.2.1 dX1_readGroup_4 rfl hl (by decide) rfl (fun ls hl => ?_)
  refine lv_iload_n F.1 F.2.1 dX1_readGroup_5 rfl (lv_at hl 0 rfl) ?_
  refine z_if_ne (tgt := 16) F dX1_readGroup_6 (by decide) zv_7 (fun c_15 => ?_) (fun c_15 => ?_)
  · refine lv_iload_n F.1 F.2.1 dX1_readGroup_16 rfl (lv_at hl 0 rfl) ?_
    refine z_if_ne (tgt := 25) F dX1_readGroup_17 (by decide) zv_7 (fun c_16 => ?_) (fun c_16 => ?_)
    · refine lv_iload_n F.1 F.2.1 dX1_readGroup_25 rfl (lv_at hl 0 rfl) ?_
      refine z_if_ne (tgt := 34) F dX1_readGroup_26 (by decide) zv_7 (fun c_17 => ?_) (fun c_17 => ?_)
      · refine lv_aload_n F.1 F.2.1 dX1_readGroup_34 rfl (lv_at hl 1 rfl) ?_
        refine g_getR (ci := 1) (k := 2) F hH rfl (by decide) iX1 hp.1 (by decide) rfl (b := ln) hp.2.2.2.1 k29 dX1_readGroup_35 ?_
        refine lv_aload_n F.1 F.2.1 dX1_readGroup_38 rfl (lv_at hl 1 rfl) ?_
        refine g_getR (ci := 1) (k := 2) F hH rfl (by decide) iX1 hp.1 (by decide) rfl (b := ln) hp.2.2.2.1 k29 dX1_readGroup_39 ?_
        refine g_getI (ci := 0) (k := 8) F hH rfl (by decide) iX0 hp.2.2.2.2.1 (by decide) rfl k149 dX1_readGroup_42 ?_
        have b_18 := gI_line hv hp.2.2.2.2.1
        unfold vLineI at b_18
        refine z_iconst F dX1_readGroup_45 ?_
        refine z_iadd F dX1_readGroup_46 ?_
        refine g_putI (ci := 0) (k := 2) F hH hS rfl (by decide) iX0 hp.2.2.2.2.1 (by decide) tyX0 tyX0_ok nmX0 rfl rfl rfl k136 dX1_readGroup_47 (fun H locs hH hS => ?_)
        obtain ⟨I_19, eI_19⟩ : ∃ qQ, qQ = gup2 I_1 ln 2 (iI (((I_1 ln 8).toInt) + 1)) := ⟨_, rfl⟩
        rw [← eI_19] at hH
        have kI_19 : ∀ b, b ≠ ln → I_19 b = I_1 b := fun b hb => by rw [eI_19]; exact funext fun j => gup2_a _ _ hb
        have hP := pH_ln hv hp hP kI_19
        have w_20 : (I_19 ln 2).toInt = ((I_1 ln 8).toInt) + 1 := by rw [eI_19, gup2_s]; exact iI_val ⟨by omega, by omega⟩
        have hp2 : pS g gh R I_19 a q ln := pS_ln hv hp kI_19
        have hv : gInv g gh R AR I_19 AI := by rw [eI_19]; exact gInv_line2 hv hp.2.2.2.2.1 (by omega) (by omega) (pS_col hp)
        have hp := hp2
        have pf : pF a ln I I_19 := pF_t pf (by rw [eI_19]; exact pF_ln (by decide))
        have w_20_k : ∀ j, j ≠ 2 → I_19 ln j = I_1 ln j := fun j hj => by rw [eI_19]; exact gup2_k _ _ hj
        have u_21q : (I_19 q 1).toInt = (I_1 q 1).toInt := by rw [kI_19 q (gO_ne hp.2.2.1 hp.2.2.2.2.1 (by decide))]
        have u_21_0 : (I_19 ln 0).toInt = (I_1 ln 0).toInt := by rw [w_20_k 0 (by decide)]
        have u_21_8 : (I_19 ln 8).toInt = (I_1 ln 8).toInt := by rw [w_20_k 8 (by decide)]
        have u_22 : (I_19 ln 3).toInt = (I_1 ln 3).toInt := by rw [w_20_k 3 (by decide)]
        have u_23 : (I_19 ln 4).toInt = (I_1 ln 4).toInt := by rw [w_20_k 4 (by decide)]
        have u_24 : (I_19 ln 5).toInt = (I_1 ln 5).toInt := by rw [w_20_k 5 (by decide)]
        have u_25 : (I_19 ln 6).toInt = (I_1 ln 6).toInt := by rw [w_20_k 6 (by decide)]
        have u_26 : (I_19 ln 9).toInt = (I_1 ln 9).toInt := by rw [w_20_k 9 (by decide)]
        have u_27 : (I_19 ln 10).toInt = (I_1 ln 10).toInt := by rw [w_20_k 10 (by decide)]
        have u_28 : (I_19 ln 11).toInt = (I_1 ln 11).toInt := by rw [w_20_k 11 (by decide)]
        have u_29 : (I_19 ln 12).toInt = (I_1 ln 12).toInt := by rw [w_20_k 12 (by decide)]
        refine lv_iload_n F.1 F.2.1 dX1_readGroup_50 rfl (lv_at hl 0 rfl) ?_
        have hfin : sGrp b n nr nt cl h = r_9 := by
          unfold sGrp
          repeat (first | with_reducible rfl | refine ite_y (by omega) ?_ | refine ite_n (by omega) ?_ | exact er_9.symm | exact thn_x er_9 (by omega) | exact pr_e (by omega) (by omega) (by omega))
        exact g_iret F hr hlk hH hS hz zv_7 ⟨rfl, rfl, rfl, rfl, hv, hp, pf, by first | omega | rfl | (dsimp only; omega), by (try dsimp only); rw [hfin]; first | done | omega | rfl, by (try dsimp only); rw [hfin]; exact hP, by (try dsimp only); first | exact pIm_n (by omega) | (rw [hfin]; exact fun h => by have q9 := hx7 h; omega), fun _ _ => rfl, by (try dsimp only); exact zIf_n (by omega)⟩ dX1_readGroup_51
      · exact absurd trivial (by omega)
    · exact absurd trivial (by omega)
  · have t_30 := q_13 (by omega)
    refine lv_aload_n F.1 F.2.1 dX1_readGroup_9 rfl (lv_at hl 1 rfl) ?_
    refine z_bipush F dX1_readGroup_10 (by decide) ?_
    refine g_calli (g_runV (As := [.int (iI 13)]) (rest := []) (ci := 1) F hl.1 hH hS hz (c_X1_takeWordg l g gh q ln b n tl nr nt cl r_9.2.1 I_1 R J AI AJ AR a 13 ⟨by decide, by decide⟩ hv hp hP) (cwV 1 F.2.2.2.2.1 gX1_readGroup_X1_takeWord rfl rfl rfl hdX1_takeWord ⟨Nat.le_of_ble_eq_true rfl, Nat.le_of_ble_eq_true rfl⟩) hp.1 (by decide) rfl rfl rfl (Nat.le_of_ble_eq_true rfl) dX1_readGroup_12 ⟨Nat.zero_le _, Nat.zero_le _⟩) hS (fun v_37 I_31 R_32 J_33 AI_34 AJ_35 AR_36 H locs zv_37 hp_38 hH hS => ?_)
    dsimp only at hp_38
    obtain ⟨r_39, er_39⟩ : ∃ qQ : pR, qQ = sTw b n 13 r_9.2.1 := ⟨_, rfl⟩
    rw [← er_39] at hp_38
    obtain ⟨rfl, rfl, rfl, rfl, rfl, hv, hp, pfq, flq, q_40, q_41, hP⟩ := hp_38
    have pf := pF_t pf pfq
    have u_42q : (I_31 q 1).toInt = (I_1 q 1).toInt := by rw [pF_q hp pfq]
    have u_42_0 : (I_31 ln 0).toInt = (I_1 ln 0).toInt := by rw [pfq.2]
    have u_42_8 : (I_31 ln 8).toInt = (I_1 ln 8).toInt := by rw [flq]
    have u_43 : (I_31 ln 2).toInt = (I_1 ln 2).toInt := by rw [flq]
    have u_44 : (I_31 ln 3).toInt = (I_1 ln 3).toInt := by rw [flq]
    have u_45 : (I_31 ln 4).toInt = (I_1 ln 4).toInt := by rw [flq]
    have u_46 : (I_31 ln 5).toInt = (I_1 ln 5).toInt := by rw [flq]
    have u_47 : (I_31 ln 6).toInt = (I_1 ln 6).toInt := by rw [flq]
    have u_48 : (I_31 ln 9).toInt = (I_1 ln 9).toInt := by rw [flq]
    have u_49 : (I_31 ln 10).toInt = (I_1 ln 10).toInt := by rw [flq]
    have u_50 : (I_31 ln 11).toInt = (I_1 ln 11).toInt := by rw [flq]
    have u_51 : (I_31 ln 12).toInt = (I_1 ln 12).toInt := by rw [flq]
    refine lv_istore_n (lv' := [(1, .int (iI v_37)), (0, .ref a)]) F.1 F.2.1 dX1_readGroup_15 rfl hl (by decide) rfl (fun ls hl => ?_)
    refine lv_iload_n F.1 F.2.1 dX1_readGroup_16 rfl (lv_at hl 0 rfl) ?_
    refine z_if_ne (tgt := 25) F dX1_readGroup_17 (by decide) zv_37 (fun c_52 => ?_) (fun c_52 => ?_)
    · refine lv_iload_n F.1 F.2.1 dX1_readGroup_25 rfl (lv_at hl 0 rfl) ?_
      refine z_if_ne (tgt := 34) F dX1_readGroup_26 (by decide) zv_37 (fun c_53 => ?_) (fun c_53 => ?_)
      · refine lv_aload_n F.1 F.2.1 dX1_readGroup_34 rfl (lv_at hl 1 rfl) ?_
        refine g_getR (ci := 1) (k := 2) F hH rfl (by decide) iX1 hp.1 (by decide) rfl (b := ln) hp.2.2.2.1 k29 dX1_readGroup_35 ?_
        refine lv_aload_n F.1 F.2.1 dX1_readGroup_38 rfl (lv_at hl 1 rfl) ?_
        refine g_getR (ci := 1) (k := 2) F hH rfl (by decide) iX1 hp.1 (by decide) rfl (b := ln) hp.2.2.2.1 k29 dX1_readGroup_39 ?_
        refine g_getI (ci := 0) (k := 8) F hH rfl (by decide) iX0 hp.2.2.2.2.1 (by decide) rfl k149 dX1_readGroup_42 ?_
        have b_54 := gI_line hv hp.2.2.2.2.1
        unfold vLineI at b_54
        refine z_iconst F dX1_readGroup_45 ?_
        refine z_iadd F dX1_readGroup_46 ?_
        refine g_putI (ci := 0) (k := 2) F hH hS rfl (by decide) iX0 hp.2.2.2.2.1 (by decide) tyX0 tyX0_ok nmX0 rfl rfl rfl k136 dX1_readGroup_47 (fun H locs hH hS => ?_)
        obtain ⟨I_55, eI_55⟩ : ∃ qQ, qQ = gup2 I_31 ln 2 (iI (((I_31 ln 8).toInt) + 1)) := ⟨_, rfl⟩
        rw [← eI_55] at hH
        have kI_55 : ∀ b, b ≠ ln → I_55 b = I_31 b := fun b hb => by rw [eI_55]; exact funext fun j => gup2_a _ _ hb
        have hP := pH_ln hv hp hP kI_55
        have w_56 : (I_55 ln 2).toInt = ((I_31 ln 8).toInt) + 1 := by rw [eI_55, gup2_s]; exact iI_val ⟨by omega, by omega⟩
        have hp2 : pS g gh R I_55 a q ln := pS_ln hv hp kI_55
        have hv : gInv g gh R AR I_55 AI := by rw [eI_55]; exact gInv_line2 hv hp.2.2.2.2.1 (by omega) (by omega) (pS_col hp)
        have hp := hp2
        have pf : pF a ln I I_55 := pF_t pf (by rw [eI_55]; exact pF_ln (by decide))
        have w_56_k : ∀ j, j ≠ 2 → I_55 ln j = I_31 ln j := fun j hj => by rw [eI_55]; exact gup2_k _ _ hj
        have u_57q : (I_55 q 1).toInt = (I_31 q 1).toInt := by rw [kI_55 q (gO_ne hp.2.2.1 hp.2.2.2.2.1 (by decide))]
        have u_57_0 : (I_55 ln 0).toInt = (I_31 ln 0).toInt := by rw [w_56_k 0 (by decide)]
        have u_57_8 : (I_55 ln 8).toInt = (I_31 ln 8).toInt := by rw [w_56_k 8 (by decide)]
        have u_58 : (I_55 ln 3).toInt = (I_31 ln 3).toInt := by rw [w_56_k 3 (by decide)]
        have u_59 : (I_55 ln 4).toInt = (I_31 ln 4).toInt := by rw [w_56_k 4 (by decide)]
        have u_60 : (I_55 ln 5).toInt = (I_31 ln 5).toInt := by rw [w_56_k 5 (by decide)]
        have u_61 : (I_55 ln 6).toInt = (I_31 ln 6).toInt := by rw [w_56_k 6 (by decide)]
        have u_62 : (I_55 ln 9).toInt = (I_31 ln 9).toInt := by rw [w_56_k 9 (by decide)]
        have u_63 : (I_55 ln 10).toInt = (I_31 ln 10).toInt := by rw [w_56_k 10 (by decide)]
        have u_64 : (I_55 ln 11).toInt = (I_31 ln 11).toInt := by rw [w_56_k 11 (by decide)]
        have u_65 : (I_55 ln 12).toInt = (I_31 ln 12).toInt := by rw [w_56_k 12 (by decide)]
        refine lv_iload_n F.1 F.2.1 dX1_readGroup_50 rfl (lv_at hl 0 rfl) ?_
        have hfin : sGrp b n nr nt cl h = r_39 := by
          unfold sGrp
          repeat (first | with_reducible rfl | refine ite_y (by omega) ?_ | refine ite_n (by omega) ?_ | exact er_39.symm | exact thn_x er_39 (by omega) | refine thn_y er_9 (by omega) ?_ | exact pr_e (by omega) (by omega) (by omega))
        exact g_iret F hr hlk hH hS hz zv_37 ⟨rfl, rfl, rfl, rfl, hv, hp, pf, by first | omega | rfl | (dsimp only; omega), by (try dsimp only); rw [hfin]; first | done | omega | rfl, by (try dsimp only); rw [hfin]; exact hP, by (try dsimp only); first | exact pIm_n (by omega) | (rw [hfin]; exact fun h => by have q9 := hx7 h; omega), fun _ _ => rfl, by (try dsimp only); exact zIf_n (by omega)⟩ dX1_readGroup_51
      · exact absurd trivial (by omega)
    · refine lv_aload_n F.1 F.2.1 dX1_readGroup_20 rfl (lv_at hl 1 rfl) ?_
      refine g_calli (g_runV (As := []) (rest := []) (ci := 1) F hl.1 hH hS hz (c_X1_readByColumnsg l g gh q ln r_9.2.2 b n tl nr nt cl r_39.2.1 I_31 R J AI AJ AR a hv hp (by omega) hP (by omega) (by omega)) (cwV 0 F.2.2.2.2.1 gX1_readGroup_X1_readByColumns rfl rfl rfl hdX1_readByColumns ⟨Nat.le_of_ble_eq_true rfl, Nat.le_of_ble_eq_true rfl⟩) hp.1 (by decide) rfl rfl rfl (Nat.le_of_ble_eq_true rfl) dX1_readGroup_21 ⟨Nat.zero_le _, Nat.zero_le _⟩) hS (fun v_72 I_66 R_67 J_68 AI_69 AJ_70 AR_71 H locs zv_72 hp_73 hH hS => ?_)
      dsimp only at hp_73
      obtain ⟨r_74, er_74⟩ : ∃ qQ : pR, qQ = sBys b n r_9.2.2 4 0 [] r_39.2.1 := ⟨_, rfl⟩
      rw [← er_74] at hp_73
      obtain ⟨rfl, rfl, rfl, rfl, hv, hp, pfq, q_75, q_76, hP, q_77, q_78, q_79, fAq, ctl, cth⟩ := hp_73
      have pf := pF_t pf pfq
      have u_80q : (I_66 q 1).toInt = (I_31 q 1).toInt := by rw [pF_q hp pfq]
      have u_80_0 : (I_66 ln 0).toInt = (I_31 ln 0).toInt := by rw [pfq.2]
      refine lv_istore_n (lv' := [(1, .int (iI v_72)), (0, .ref a)]) F.1 F.2.1 dX1_readGroup_24 rfl hl (by decide) rfl (fun ls hl => ?_)
      refine lv_iload_n F.1 F.2.1 dX1_readGroup_25 rfl (lv_at hl 0 rfl) ?_
      refine z_if_ne (tgt := 34) F dX1_readGroup_26 (by decide) zv_72 (fun c_81 => ?_) (fun c_81 => ?_)
      · refine lv_aload_n F.1 F.2.1 dX1_readGroup_34 rfl (lv_at hl 1 rfl) ?_
        refine g_getR (ci := 1) (k := 2) F hH rfl (by decide) iX1 hp.1 (by decide) rfl (b := ln) hp.2.2.2.1 k29 dX1_readGroup_35 ?_
        refine lv_aload_n F.1 F.2.1 dX1_readGroup_38 rfl (lv_at hl 1 rfl) ?_
        refine g_getR (ci := 1) (k := 2) F hH rfl (by decide) iX1 hp.1 (by decide) rfl (b := ln) hp.2.2.2.1 k29 dX1_readGroup_39 ?_
        refine g_getI (ci := 0) (k := 8) F hH rfl (by decide) iX0 hp.2.2.2.2.1 (by decide) rfl k149 dX1_readGroup_42 ?_
        have b_82 := gI_line hv hp.2.2.2.2.1
        unfold vLineI at b_82
        refine z_iconst F dX1_readGroup_45 ?_
        refine z_iadd F dX1_readGroup_46 ?_
        refine g_putI (ci := 0) (k := 2) F hH hS rfl (by decide) iX0 hp.2.2.2.2.1 (by decide) tyX0 tyX0_ok nmX0 rfl rfl rfl k136 dX1_readGroup_47 (fun H locs hH hS => ?_)
        obtain ⟨I_83, eI_83⟩ : ∃ qQ, qQ = gup2 I_66 ln 2 (iI (((I_66 ln 8).toInt) + 1)) := ⟨_, rfl⟩
        rw [← eI_83] at hH
        have kI_83 : ∀ b, b ≠ ln → I_83 b = I_66 b := fun b hb => by rw [eI_83]; exact funext fun j => gup2_a _ _ hb
        have hP := pH_ln hv hp hP kI_83
        have w_84 : (I_83 ln 2).toInt = ((I_66 ln 8).toInt) + 1 := by rw [eI_83, gup2_s]; exact iI_val ⟨by omega, by omega⟩
        have hp2 : pS g gh R I_83 a q ln := pS_ln hv hp kI_83
        have hv : gInv g gh R AR I_83 AI_69 := by rw [eI_83]; exact gInv_line2 hv hp.2.2.2.2.1 (by omega) (by omega) (pS_col hp)
        have hp := hp2
        have pf : pF a ln I I_83 := pF_t pf (by rw [eI_83]; exact pF_ln (by decide))
        have w_84_k : ∀ j, j ≠ 2 → I_83 ln j = I_66 ln j := fun j hj => by rw [eI_83]; exact gup2_k _ _ hj
        have u_85q : (I_83 q 1).toInt = (I_66 q 1).toInt := by rw [kI_83 q (gO_ne hp.2.2.1 hp.2.2.2.2.1 (by decide))]
        have u_85_0 : (I_83 ln 0).toInt = (I_66 ln 0).toInt := by rw [w_84_k 0 (by decide)]
        have u_85_8 : (I_83 ln 8).toInt = (I_66 ln 8).toInt := by rw [w_84_k 8 (by decide)]
        have u_86 : (I_83 ln 3).toInt = (I_66 ln 3).toInt := by rw [w_84_k 3 (by decide)]
        have u_87 : (I_83 ln 4).toInt = (I_66 ln 4).toInt := by rw [w_84_k 4 (by decide)]
        have u_88 : (I_83 ln 5).toInt = (I_66 ln 5).toInt := by rw [w_84_k 5 (by decide)]
        have u_89 : (I_83 ln 6).toInt = (I_66 ln 6).toInt := by rw [w_84_k 6 (by decide)]
        have u_90 : (I_83 ln 9).toInt = (I_66 ln 9).toInt := by rw [w_84_k 9 (by decide)]
        have u_91 : (I_83 ln 10).toInt = (I_66 ln 10).toInt := by rw [w_84_k 10 (by decide)]
        have u_92 : (I_83 ln 11).toInt = (I_66 ln 11).toInt := by rw [w_84_k 11 (by decide)]
        have u_93 : (I_83 ln 12).toInt = (I_66 ln 12).toInt := by rw [w_84_k 12 (by decide)]
        refine lv_iload_n F.1 F.2.1 dX1_readGroup_50 rfl (lv_at hl 0 rfl) ?_
        have hfin : sGrp b n nr nt cl h = r_74 := by
          unfold sGrp
          repeat (first | with_reducible rfl | refine ite_y (by omega) ?_ | refine ite_n (by omega) ?_ | exact er_74.symm | exact thn_x er_74 (by omega) | refine thn_y er_9 (by omega) ?_ | refine thn_y er_39 (by omega) ?_ | exact pr_e (by omega) (by omega) (by omega))
        exact g_iret F hr hlk hH hS hz zv_72 ⟨rfl, rfl, rfl, rfl, hv, hp, pf, by first | omega | rfl | (dsimp only; omega), by (try dsimp only); rw [hfin]; first | done | omega | rfl, by (try dsimp only); rw [hfin]; exact hP, by (try dsimp only); first | exact pIm_n (by omega) | (rw [hfin]; exact fun h => by have q9 := hx7 h; omega), fun b hb => fAq b hb, by (try dsimp only); exact zIf_n (by omega)⟩ dX1_readGroup_51
      · have t_94 := q_78 (by omega)
        refine lv_aload_n F.1 F.2.1 dX1_readGroup_29 rfl (lv_at hl 1 rfl) ?_
        refine g_calli (g_runV (As := []) (rest := []) (ci := 1) F hl.1 hH hS hz (c_X1_readFoldg l g gh q ln r_9.2.2 (r_74.2.2 + 1) b n tl nr nt cl r_74.2.1 I_66 R J AI_69 AJ AR a hv hp (by omega) hP (by omega)) (cwV 0 F.2.2.2.2.1 gX1_readGroup_X1_readFold rfl rfl rfl hdX1_readFold ⟨Nat.le_of_ble_eq_true rfl, Nat.le_of_ble_eq_true rfl⟩) hp.1 (by decide) rfl rfl rfl (Nat.le_of_ble_eq_true rfl) dX1_readGroup_30 ⟨Nat.zero_le _, Nat.zero_le _⟩) hS (fun v_101 I_95 R_96 J_97 AI_98 AJ_99 AR_100 H locs zv_101 hp_102 hH hS => ?_)
        dsimp only at hp_102
        obtain ⟨r_103, er_103⟩ : ∃ qQ : pR, qQ = sFo b n r_9.2.2 (r_74.2.2 + 1) r_74.2.1 := ⟨_, rfl⟩
        rw [← er_103] at hp_102
        obtain ⟨rfl, rfl, rfl, rfl, rfl, hv, hp, pfq, q_104, q_105, hP, q_106, hx7, ctf⟩ := hp_102
        have pf := pF_t pf pfq
        have u_107q : (I_95 q 1).toInt = (I_66 q 1).toInt := by rw [pF_q hp pfq]
        have u_107_0 : (I_95 ln 0).toInt = (I_66 ln 0).toInt := by rw [pfq.2]
        refine lv_istore_n (lv' := [(1, .int (iI v_101)), (0, .ref a)]) F.1 F.2.1 dX1_readGroup_33 rfl hl (by decide) rfl (fun ls hl => ?_)
        refine lv_aload_n F.1 F.2.1 dX1_readGroup_34 rfl (lv_at hl 1 rfl) ?_
        refine g_getR (ci := 1) (k := 2) F hH rfl (by decide) iX1 hp.1 (by decide) rfl (b := ln) hp.2.2.2.1 k29 dX1_readGroup_35 ?_
        refine lv_aload_n F.1 F.2.1 dX1_readGroup_38 rfl (lv_at hl 1 rfl) ?_
        refine g_getR (ci := 1) (k := 2) F hH rfl (by decide) iX1 hp.1 (by decide) rfl (b := ln) hp.2.2.2.1 k29 dX1_readGroup_39 ?_
        refine g_getI (ci := 0) (k := 8) F hH rfl (by decide) iX0 hp.2.2.2.2.1 (by decide) rfl k149 dX1_readGroup_42 ?_
        have b_108 := gI_line hv hp.2.2.2.2.1
        unfold vLineI at b_108
        refine z_iconst F dX1_readGroup_45 ?_
        refine z_iadd F dX1_readGroup_46 ?_
        refine g_putI (ci := 0) (k := 2) F hH hS rfl (by decide) iX0 hp.2.2.2.2.1 (by decide) tyX0 tyX0_ok nmX0 rfl rfl rfl k136 dX1_readGroup_47 (fun H locs hH hS => ?_)
        obtain ⟨I_109, eI_109⟩ : ∃ qQ, qQ = gup2 I_95 ln 2 (iI (((I_95 ln 8).toInt) + 1)) := ⟨_, rfl⟩
        rw [← eI_109] at hH
        have kI_109 : ∀ b, b ≠ ln → I_109 b = I_95 b := fun b hb => by rw [eI_109]; exact funext fun j => gup2_a _ _ hb
        have hP := pH_ln hv hp hP kI_109
        have w_110 : (I_109 ln 2).toInt = ((I_95 ln 8).toInt) + 1 := by rw [eI_109, gup2_s]; exact iI_val ⟨by omega, by omega⟩
        have hp2 : pS g gh R I_109 a q ln := pS_ln hv hp kI_109
        have hv : gInv g gh R AR I_109 AI_69 := by rw [eI_109]; exact gInv_line2 hv hp.2.2.2.2.1 (by omega) (by omega) (pS_col hp)
        have hp := hp2
        have pf : pF a ln I I_109 := pF_t pf (by rw [eI_109]; exact pF_ln (by decide))
        have w_110_k : ∀ j, j ≠ 2 → I_109 ln j = I_95 ln j := fun j hj => by rw [eI_109]; exact gup2_k _ _ hj
        have u_111q : (I_109 q 1).toInt = (I_95 q 1).toInt := by rw [kI_109 q (gO_ne hp.2.2.1 hp.2.2.2.2.1 (by decide))]
        have u_111_0 : (I_109 ln 0).toInt = (I_95 ln 0).toInt := by rw [w_110_k 0 (by decide)]
        have u_111_8 : (I_109 ln 8).toInt = (I_95 ln 8).toInt := by rw [w_110_k 8 (by decide)]
        have u_112 : (I_109 ln 3).toInt = (I_95 ln 3).toInt := by rw [w_110_k 3 (by decide)]
        have u_113 : (I_109 ln 4).toInt = (I_95 ln 4).toInt := by rw [w_110_k 4 (by decide)]
        have u_114 : (I_109 ln 5).toInt = (I_95 ln 5).toInt := by rw [w_110_k 5 (by decide)]
        have u_115 : (I_109 ln 6).toInt = (I_95 ln 6).toInt := by rw [w_110_k 6 (by decide)]
        have u_116 : (I_109 ln 9).toInt = (I_95 ln 9).toInt := by rw [w_110_k 9 (by decide)]
        have u_117 : (I_109 ln 10).toInt = (I_95 ln 10).toInt := by rw [w_110_k 10 (by decide)]
        have u_118 : (I_109 ln 11).toInt = (I_95 ln 11).toInt := by rw [w_110_k 11 (by decide)]
        have u_119 : (I_109 ln 12).toInt = (I_95 ln 12).toInt := by rw [w_110_k 12 (by decide)]
        refine lv_iload_n F.1 F.2.1 dX1_readGroup_50 rfl (lv_at hl 0 rfl) ?_
        have hfin : sGrp b n nr nt cl h = r_103 := by
          unfold sGrp
          repeat (first | with_reducible rfl | refine ite_y (by omega) ?_ | refine ite_n (by omega) ?_ | exact er_103.symm | exact thn_x er_103 (by omega) | refine thn_y er_9 (by omega) ?_ | refine thn_y er_39 (by omega) ?_ | refine thn_y er_74 (by omega) ?_ | exact pr_e (by omega) (by omega) (by omega))
        exact g_iret F hr hlk hH hS hz zv_101 ⟨rfl, rfl, rfl, rfl, hv, hp, pf, by first | omega | rfl | (dsimp only; omega), by (try dsimp only); rw [hfin]; first | done | omega | rfl, by (try dsimp only); rw [hfin]; exact hP, by (try dsimp only); first | exact pIm_n (by omega) | (rw [hfin]; exact fun h => by have q9 := hx7 h; omega), fun b hb => fAq b hb, fun h9 => by
        (try dsimp only at h9)
        have a1 := sRl_h er_9 (by omega)
        have a2 := sTw_h er_39 (by omega)
        have a6 := rl3 (by omega)
        have a4 := ctl (by omega)
        have a8 := cth (by omega)
        have a9 := ctf (by omega)
        have a5 : (I_109 ln 8).toInt = ((iCnt nxB (spC b n) 4 r_39.2.1 : Nat) : Int) := by have := a4.1; omega
        rw [a4.1] at a8
        rw [a8.1] at a9
        unfold kGrp
        (try dsimp only)
        rw [show h + 2 = r_39.2.1 by omega, a5]
        refine ⟨by omega, by omega, rfl, ?_, ?_⟩
        · rw [← a4.1]; exact a4.2
        · exact ⟨by have := a9.1; omega, by have := a9.2; omega⟩⟩ dX1_readGroup_51

def rmX1_readRingg : Room := { frames := 4, cells := 0, slots := 0, locals := 90 }
set_option maxHeartbeats 4000000 in
set_option maxRecDepth 100000 in
/-- a ring -/
theorem c_X1_readRingg (l : Launch) (g : gG) (gh : gGh) (q ln : Nat) (b : tTx) (n : Nat) (tl : Int) (nr : Nat) (nt : Nat → Nat) (cl : Nat → Int) (h : Nat) (I : gI) (R : gR) (J : gJ) (AI : gI) (AJ : gJ) (AR : gR) (a : Nat) (hv : gInv g gh R AR I AI) (hp : pS g gh R I a q ln) (hk : (I ln 0).toInt = 8) (hP : pH gh AR I J AI AJ a q b n tl nr nt cl h) (hk8 : (I ln 8).toInt = 0) : gMet l g yX1_readRing wsX1_readRing rmX1_readRingg [.ref a] (I, R, J, AI, AJ, AR) (gQi g (fun (z : Int) (w : gS) => R = w.2.1 ∧ J = w.2.2.1 ∧ AJ = w.2.2.2.2.1 ∧ AR = w.2.2.2.2.2 ∧ (gInv g gh R AR (w.1) (w.2.2.2.1)) ∧ (pS g gh R (w.1) a q ln) ∧ (pF a ln I (w.1)) ∧ (0 ≤ z ∧ z ≤ 4) ∧ (z = (sRng b n nr nt cl h).1) ∧ (pH gh AR (w.1) J (w.2.2.2.1) AJ a q b n tl nr nt cl (sRng b n nr nt cl h).2.1) ∧ (pBz z ((w.1) ln) (sRng b n nr nt cl h).2.2) ∧ (∀ b, b ≠ gh 3 ln → (w.2.2.2.1) b = AI b) ∧ (zIf z (kRng b n nr nt cl h ((w.1) ln) ((w.2.2.2.1) (gh 3 ln)))))) := by
  refine gStart (cc := cX1_readRing) (maxL := 2) (ret := (some (.int))) (by decide) rfl (Nat.le_of_ble_eq_true rfl) ?_
  intro p e s m below meth c ls F hr hlk hH hz hS hl
  have hl : lv_has ls 2 [(0, .ref a)] := hl
  have hS : va_S (gA g) s.heap s.heap [] := hS
  obtain ⟨H, hHe⟩ : ∃ H : Heap, H = s.heap := ⟨_, rfl⟩
  obtain ⟨locs, hlo⟩ : ∃ k : List Loc, k = [] := ⟨_, rfl⟩
  have hH : gH g I R J AI AJ AR H := by rw [hHe]; exact hH
  have hS : va_S (gA g) s.heap H locs := by rw [hHe, hlo]; exact hS
  suffices hw : W p l e rmX1_readRingg s m ([.ref a] : List Value).toArray below meth c H locs 0 0 (MQ below (gQi g (fun (z : Int) (w : gS) => R = w.2.1 ∧ J = w.2.2.1 ∧ AJ = w.2.2.2.2.1 ∧ AR = w.2.2.2.2.2 ∧ (gInv g gh R AR (w.1) (w.2.2.2.1)) ∧ (pS g gh R (w.1) a q ln) ∧ (pF a ln I (w.1)) ∧ (0 ≤ z ∧ z ≤ 4) ∧ (z = (sRng b n nr nt cl h).1) ∧ (pH gh AR (w.1) J (w.2.2.2.1) AJ a q b n tl nr nt cl (sRng b n nr nt cl h).2.1) ∧ (pBz z ((w.1) ln) (sRng b n nr nt cl h).2.2) ∧ (∀ b, b ≠ gh 3 ln → (w.2.2.2.1) b = AI b) ∧ (zIf z (kRng b n nr nt cl h ((w.1) ln) ((w.2.2.2.1) (gh 3 ln)))))) ([.ref a] : List Value).toArray s 0 0 (gA g)) (F0 m 0 ls []) by
    rw [hHe, hlo] at hw; exact hw
  clear hHe hlo
  have pf : pF a ln I I := pF_r
  have iX1 : ∀ w ∈ u_ws RX1 TX1 4, w ∈ wsX1_readRing := (by decide +kernel)
  have iX0 : ∀ w ∈ u_ws RX0 TX0 15, w ∈ wsX1_readRing := (by decide +kernel)
  have k29 : Cond.fieldLink RX1 29 (TX1 2).1 (TX1 2).2.1 (TX1 2).2.2.1 ∈ wsX1_readRing := List.mem_of_getElem? (i := 1) rfl
  have k143 : Cond.fieldLink RX1 143 (TX0 5).1 (TX0 5).2.1 (TX0 5).2.2.1 ∈ wsX1_readRing := List.mem_of_getElem? (i := 2) rfl
  have k146 : Cond.fieldLink RX1 146 (TX0 6).1 (TX0 6).2.1 (TX0 6).2.2.1 ∈ wsX1_readRing := List.mem_of_getElem? (i := 3) rfl
  have k136 : Cond.fieldLink RX1 136 (TX0 2).1 (TX0 2).2.1 (TX0 2).2.2.1 ∈ wsX1_readRing := List.mem_of_getElem? (i := 4) rfl
  refine lv_aload_n F.1 F.2.1 dX1_readRing_0 rfl (lv_at hl 0 rfl) ?_
  refine g_calli (g_runV (As := []) (rest := []) (ci := 1) F hl.1 hH hS hz (c_X1_readFirstg l g gh q ln b n tl nr nt cl h I R J AI AJ AR a hv hp (by omega) hP) (cwV 0 F.2.2.2.2.1 gX1_readRing_X1_readFirst rfl rfl rfl hdX1_readFirst ⟨Nat.le_of_ble_eq_true rfl, Nat.le_of_ble_eq_true rfl⟩) hp.1 (by decide) rfl rfl rfl (Nat.le_of_ble_eq_true rfl) dX1_readRing_1 ⟨Nat.zero_le _, Nat.zero_le _⟩) hS (fun v_7 I_1 R_2 J_3 AI_4 AJ_5 AR_6 H locs zv_7 hp_8 hH hS => ?_)
  dsimp only at hp_8
  obtain ⟨r_9, er_9⟩ : ∃ qQ : pR, qQ = sRl b n nr nt cl h := ⟨_, rfl⟩
  rw [← er_9] at hp_8
  obtain ⟨rfl, rfl, rfl, rfl, rfl, hv, hp, pfq, k8q, q_10, q_11, hP, q_12, q_13, rl3⟩ := hp_8
  have pf := pF_t pf pfq
  have u_14q : (I_1 q 1).toInt = (I q 1).toInt := by rw [pF_q hp pfq]
  have u_14_0 : (I_1 ln 0).toInt = (I ln 0).toInt := by rw [pfq.2]
  have u_14_8 : (I_1 ln 8).toInt = (I ln 8).toInt := by rw [k8q]
  refine lv_istore_n (lv' := [(1, .int (iI v_7)), (0, .ref a)]) F.1 F.2.1 dX1_readRing_4 rfl hl (by decide) rfl (fun ls hl => ?_)
  refine lv_iload_n F.1 F.2.1 dX1_readRing_5 rfl (lv_at hl 0 rfl) ?_
  refine z_if_ne (tgt := 16) F dX1_readRing_6 (by decide) zv_7 (fun c_15 => ?_) (fun c_15 => ?_)
  · refine lv_iload_n F.1 F.2.1 dX1_readRing_16 rfl (lv_at hl 0 rfl) ?_
    refine z_if_ne (tgt := 25) F dX1_readRing_17 (by decide) zv_7 (fun c_16 => ?_) (fun c_16 => ?_)
    · refine lv_iload_n F.1 F.2.1 dX1_readRing_25 rfl (lv_at hl 0 rfl) ?_
      refine z_if_ne (tgt := 36) F dX1_readRing_26 (by decide) zv_7 (fun c_17 => ?_) (fun c_17 => ?_)
      · refine lv_iload_n F.1 F.2.1 dX1_readRing_36 rfl (lv_at hl 0 rfl) ?_
        refine z_if_ne (tgt := 46) F dX1_readRing_37 (by decide) zv_7 (fun c_18 => ?_) (fun c_18 => ?_)
        · refine lv_iload_n F.1 F.2.1 dX1_readRing_46 rfl (lv_at hl 0 rfl) ?_
          refine z_if_ne (tgt := 57) F dX1_readRing_47 (by decide) zv_7 (fun c_19 => ?_) (fun c_19 => ?_)
          · refine lv_iload_n F.1 F.2.1 dX1_readRing_57 rfl (lv_at hl 0 rfl) ?_
            refine z_if_ne (tgt := 81) F dX1_readRing_58 (by decide) zv_7 (fun c_20 => ?_) (fun c_20 => ?_)
            · refine lv_aload_n F.1 F.2.1 dX1_readRing_81 rfl (lv_at hl 1 rfl) ?_
              refine g_getR (ci := 1) (k := 2) F hH rfl (by decide) iX1 hp.1 (by decide) rfl (b := ln) hp.2.2.2.1 k29 dX1_readRing_82 ?_
              refine lv_aload_n F.1 F.2.1 dX1_readRing_85 rfl (lv_at hl 1 rfl) ?_
              refine g_getR (ci := 1) (k := 2) F hH rfl (by decide) iX1 hp.1 (by decide) rfl (b := ln) hp.2.2.2.1 k29 dX1_readRing_86 ?_
              refine g_getI (ci := 0) (k := 5) F hH rfl (by decide) iX0 hp.2.2.2.2.1 (by decide) rfl k143 dX1_readRing_89 ?_
              have b_21 := gI_line hv hp.2.2.2.2.1
              unfold vLineI at b_21
              refine g_putI (ci := 0) (k := 2) F hH hS rfl (by decide) iX0 hp.2.2.2.2.1 (by decide) tyX0 tyX0_ok nmX0 rfl rfl rfl k136 dX1_readRing_92 (fun H locs hH hS => ?_)
              obtain ⟨I_22, eI_22⟩ : ∃ qQ, qQ = gup2 I_1 ln 2 (iI ((I_1 ln 5).toInt)) := ⟨_, rfl⟩
              rw [← eI_22] at hH
              have kI_22 : ∀ b, b ≠ ln → I_22 b = I_1 b := fun b hb => by rw [eI_22]; exact funext fun j => gup2_a _ _ hb
              have hP := pH_ln hv hp hP kI_22
              have w_23 : (I_22 ln 2).toInt = (I_1 ln 5).toInt := by rw [eI_22, gup2_s]; exact iI_val ⟨by omega, by omega⟩
              have hp2 : pS g gh R I_22 a q ln := pS_ln hv hp kI_22
              have hv : gInv g gh R AR I_22 AI := by rw [eI_22]; exact gInv_line2 hv hp.2.2.2.2.1 (by omega) (by omega) (pS_col hp)
              have hp := hp2
              have pf : pF a ln I I_22 := pF_t pf (by rw [eI_22]; exact pF_ln (by decide))
              have w_23_k : ∀ j, j ≠ 2 → I_22 ln j = I_1 ln j := fun j hj => by rw [eI_22]; exact gup2_k _ _ hj
              have u_24q : (I_22 q 1).toInt = (I_1 q 1).toInt := by rw [kI_22 q (gO_ne hp.2.2.1 hp.2.2.2.2.1 (by decide))]
              have u_24_0 : (I_22 ln 0).toInt = (I_1 ln 0).toInt := by rw [w_23_k 0 (by decide)]
              have u_24_8 : (I_22 ln 8).toInt = (I_1 ln 8).toInt := by rw [w_23_k 8 (by decide)]
              have u_25 : (I_22 ln 3).toInt = (I_1 ln 3).toInt := by rw [w_23_k 3 (by decide)]
              have u_26 : (I_22 ln 4).toInt = (I_1 ln 4).toInt := by rw [w_23_k 4 (by decide)]
              have u_27 : (I_22 ln 5).toInt = (I_1 ln 5).toInt := by rw [w_23_k 5 (by decide)]
              have u_28 : (I_22 ln 6).toInt = (I_1 ln 6).toInt := by rw [w_23_k 6 (by decide)]
              have u_29 : (I_22 ln 9).toInt = (I_1 ln 9).toInt := by rw [w_23_k 9 (by decide)]
              have u_30 : (I_22 ln 10).toInt = (I_1 ln 10).toInt := by rw [w_23_k 10 (by decide)]
              have u_31 : (I_22 ln 11).toInt = (I_1 ln 11).toInt := by rw [w_23_k 11 (by decide)]
              have u_32 : (I_22 ln 12).toInt = (I_1 ln 12).toInt := by rw [w_23_k 12 (by decide)]
              refine lv_iload_n F.1 F.2.1 dX1_readRing_95 rfl (lv_at hl 0 rfl) ?_
              have hfin : sRng b n nr nt cl h = r_9 := by
                unfold sRng
                repeat (first | with_reducible rfl | refine ite_y (by omega) ?_ | refine ite_n (by omega) ?_ | exact er_9.symm | exact thn_x er_9 (by omega) | exact pr_e (by omega) (by omega) (by omega))
              exact g_iret F hr hlk hH hS hz zv_7 ⟨rfl, rfl, rfl, rfl, hv, hp, pf, by first | omega | rfl | (dsimp only; omega), by (try dsimp only); rw [hfin]; first | done | omega | rfl, by (try dsimp only); rw [hfin]; exact hP, by (try dsimp only); exact (fun h => absurd h (by omega)), fun _ _ => rfl, by (try dsimp only); exact zIf_n (by omega)⟩ dX1_readRing_96
            · exact absurd trivial (by omega)
          · exact absurd trivial (by omega)
        · exact absurd trivial (by omega)
      · exact absurd trivial (by omega)
    · exact absurd trivial (by omega)
  · have t_33 := q_13 (by omega)
    refine lv_aload_n F.1 F.2.1 dX1_readRing_9 rfl (lv_at hl 1 rfl) ?_
    refine z_bipush F dX1_readRing_10 (by decide) ?_
    refine g_calli (g_runV (As := [.int (iI 14)]) (rest := []) (ci := 1) F hl.1 hH hS hz (c_X1_takeWordg l g gh q ln b n tl nr nt cl r_9.2.1 I_1 R J AI AJ AR a 14 ⟨by decide, by decide⟩ hv hp hP) (cwV 1 F.2.2.2.2.1 gX1_readRing_X1_takeWord rfl rfl rfl hdX1_takeWord ⟨Nat.le_of_ble_eq_true rfl, Nat.le_of_ble_eq_true rfl⟩) hp.1 (by decide) rfl rfl rfl (Nat.le_of_ble_eq_true rfl) dX1_readRing_12 ⟨Nat.zero_le _, Nat.zero_le _⟩) hS (fun v_40 I_34 R_35 J_36 AI_37 AJ_38 AR_39 H locs zv_40 hp_41 hH hS => ?_)
    dsimp only at hp_41
    obtain ⟨r_42, er_42⟩ : ∃ qQ : pR, qQ = sTw b n 14 r_9.2.1 := ⟨_, rfl⟩
    rw [← er_42] at hp_41
    obtain ⟨rfl, rfl, rfl, rfl, rfl, hv, hp, pfq, flq, q_43, q_44, hP⟩ := hp_41
    have pf := pF_t pf pfq
    have u_45q : (I_34 q 1).toInt = (I_1 q 1).toInt := by rw [pF_q hp pfq]
    have u_45_0 : (I_34 ln 0).toInt = (I_1 ln 0).toInt := by rw [pfq.2]
    have u_45_8 : (I_34 ln 8).toInt = (I_1 ln 8).toInt := by rw [flq]
    have u_46 : (I_34 ln 2).toInt = (I_1 ln 2).toInt := by rw [flq]
    have u_47 : (I_34 ln 3).toInt = (I_1 ln 3).toInt := by rw [flq]
    have u_48 : (I_34 ln 4).toInt = (I_1 ln 4).toInt := by rw [flq]
    have u_49 : (I_34 ln 5).toInt = (I_1 ln 5).toInt := by rw [flq]
    have u_50 : (I_34 ln 6).toInt = (I_1 ln 6).toInt := by rw [flq]
    have u_51 : (I_34 ln 9).toInt = (I_1 ln 9).toInt := by rw [flq]
    have u_52 : (I_34 ln 10).toInt = (I_1 ln 10).toInt := by rw [flq]
    have u_53 : (I_34 ln 11).toInt = (I_1 ln 11).toInt := by rw [flq]
    have u_54 : (I_34 ln 12).toInt = (I_1 ln 12).toInt := by rw [flq]
    refine lv_istore_n (lv' := [(1, .int (iI v_40)), (0, .ref a)]) F.1 F.2.1 dX1_readRing_15 rfl hl (by decide) rfl (fun ls hl => ?_)
    refine lv_iload_n F.1 F.2.1 dX1_readRing_16 rfl (lv_at hl 0 rfl) ?_
    refine z_if_ne (tgt := 25) F dX1_readRing_17 (by decide) zv_40 (fun c_55 => ?_) (fun c_55 => ?_)
    · refine lv_iload_n F.1 F.2.1 dX1_readRing_25 rfl (lv_at hl 0 rfl) ?_
      refine z_if_ne (tgt := 36) F dX1_readRing_26 (by decide) zv_40 (fun c_56 => ?_) (fun c_56 => ?_)
      · refine lv_iload_n F.1 F.2.1 dX1_readRing_36 rfl (lv_at hl 0 rfl) ?_
        refine z_if_ne (tgt := 46) F dX1_readRing_37 (by decide) zv_40 (fun c_57 => ?_) (fun c_57 => ?_)
        · refine lv_iload_n F.1 F.2.1 dX1_readRing_46 rfl (lv_at hl 0 rfl) ?_
          refine z_if_ne (tgt := 57) F dX1_readRing_47 (by decide) zv_40 (fun c_58 => ?_) (fun c_58 => ?_)
          · refine lv_iload_n F.1 F.2.1 dX1_readRing_57 rfl (lv_at hl 0 rfl) ?_
            refine z_if_ne (tgt := 81) F dX1_readRing_58 (by decide) zv_40 (fun c_59 => ?_) (fun c_59 => ?_)
            · refine lv_aload_n F.1 F.2.1 dX1_readRing_81 rfl (lv_at hl 1 rfl) ?_
              refine g_getR (ci := 1) (k := 2) F hH rfl (by decide) iX1 hp.1 (by decide) rfl (b := ln) hp.2.2.2.1 k29 dX1_readRing_82 ?_
              refine lv_aload_n F.1 F.2.1 dX1_readRing_85 rfl (lv_at hl 1 rfl) ?_
              refine g_getR (ci := 1) (k := 2) F hH rfl (by decide) iX1 hp.1 (by decide) rfl (b := ln) hp.2.2.2.1 k29 dX1_readRing_86 ?_
              refine g_getI (ci := 0) (k := 5) F hH rfl (by decide) iX0 hp.2.2.2.2.1 (by decide) rfl k143 dX1_readRing_89 ?_
              have b_60 := gI_line hv hp.2.2.2.2.1
              unfold vLineI at b_60
              refine g_putI (ci := 0) (k := 2) F hH hS rfl (by decide) iX0 hp.2.2.2.2.1 (by decide) tyX0 tyX0_ok nmX0 rfl rfl rfl k136 dX1_readRing_92 (fun H locs hH hS => ?_)
              obtain ⟨I_61, eI_61⟩ : ∃ qQ, qQ = gup2 I_34 ln 2 (iI ((I_34 ln 5).toInt)) := ⟨_, rfl⟩
              rw [← eI_61] at hH
              have kI_61 : ∀ b, b ≠ ln → I_61 b = I_34 b := fun b hb => by rw [eI_61]; exact funext fun j => gup2_a _ _ hb
              have hP := pH_ln hv hp hP kI_61
              have w_62 : (I_61 ln 2).toInt = (I_34 ln 5).toInt := by rw [eI_61, gup2_s]; exact iI_val ⟨by omega, by omega⟩
              have hp2 : pS g gh R I_61 a q ln := pS_ln hv hp kI_61
              have hv : gInv g gh R AR I_61 AI := by rw [eI_61]; exact gInv_line2 hv hp.2.2.2.2.1 (by omega) (by omega) (pS_col hp)
              have hp := hp2
              have pf : pF a ln I I_61 := pF_t pf (by rw [eI_61]; exact pF_ln (by decide))
              have w_62_k : ∀ j, j ≠ 2 → I_61 ln j = I_34 ln j := fun j hj => by rw [eI_61]; exact gup2_k _ _ hj
              have u_63q : (I_61 q 1).toInt = (I_34 q 1).toInt := by rw [kI_61 q (gO_ne hp.2.2.1 hp.2.2.2.2.1 (by decide))]
              have u_63_0 : (I_61 ln 0).toInt = (I_34 ln 0).toInt := by rw [w_62_k 0 (by decide)]
              have u_63_8 : (I_61 ln 8).toInt = (I_34 ln 8).toInt := by rw [w_62_k 8 (by decide)]
              have u_64 : (I_61 ln 3).toInt = (I_34 ln 3).toInt := by rw [w_62_k 3 (by decide)]
              have u_65 : (I_61 ln 4).toInt = (I_34 ln 4).toInt := by rw [w_62_k 4 (by decide)]
              have u_66 : (I_61 ln 5).toInt = (I_34 ln 5).toInt := by rw [w_62_k 5 (by decide)]
              have u_67 : (I_61 ln 6).toInt = (I_34 ln 6).toInt := by rw [w_62_k 6 (by decide)]
              have u_68 : (I_61 ln 9).toInt = (I_34 ln 9).toInt := by rw [w_62_k 9 (by decide)]
              have u_69 : (I_61 ln 10).toInt = (I_34 ln 10).toInt := by rw [w_62_k 10 (by decide)]
              have u_70 : (I_61 ln 11).toInt = (I_34 ln 11).toInt := by rw [w_62_k 11 (by decide)]
              have u_71 : (I_61 ln 12).toInt = (I_34 ln 12).toInt := by rw [w_62_k 12 (by decide)]
              refine lv_iload_n F.1 F.2.1 dX1_readRing_95 rfl (lv_at hl 0 rfl) ?_
              have hfin : sRng b n nr nt cl h = r_42 := by
                unfold sRng
                repeat (first | with_reducible rfl | refine ite_y (by omega) ?_ | refine ite_n (by omega) ?_ | exact er_42.symm | exact thn_x er_42 (by omega) | refine thn_y er_9 (by omega) ?_ | exact pr_e (by omega) (by omega) (by omega))
              exact g_iret F hr hlk hH hS hz zv_40 ⟨rfl, rfl, rfl, rfl, hv, hp, pf, by first | omega | rfl | (dsimp only; omega), by (try dsimp only); rw [hfin]; first | done | omega | rfl, by (try dsimp only); rw [hfin]; exact hP, by (try dsimp only); exact (fun h => absurd h (by omega)), fun _ _ => rfl, by (try dsimp only); exact zIf_n (by omega)⟩ dX1_readRing_96
            · exact absurd trivial (by omega)
          · exact absurd trivial (by omega)
        · exact absurd trivial (by omega)
      · exact absurd trivial (by omega)
    · refine lv_aload_n F.1 F.2.1 dX1_readRing_20 rfl (lv_at hl 1 rfl) ?_
      refine g_calli (g_runV (As := []) (rest := []) (ci := 1) F hl.1 hH hS hz (c_X1_readSecondg l g gh q ln b n tl nr nt cl r_42.2.1 I_34 R J AI AJ AR a hv hp (by omega) hP) (cwV 0 F.2.2.2.2.1 gX1_readRing_X1_readSecond rfl rfl rfl hdX1_readSecond ⟨Nat.le_of_ble_eq_true rfl, Nat.le_of_ble_eq_true rfl⟩) hp.1 (by decide) rfl rfl rfl (Nat.le_of_ble_eq_true rfl) dX1_readRing_21 ⟨Nat.zero_le _, Nat.zero_le _⟩) hS (fun v_78 I_72 R_73 J_74 AI_75 AJ_76 AR_77 H locs zv_78 hp_79 hH hS => ?_)
      dsimp only at hp_79
      obtain ⟨r_80, er_80⟩ : ∃ qQ : pR, qQ = sRl b n nr nt cl r_42.2.1 := ⟨_, rfl⟩
      rw [← er_80] at hp_79
      obtain ⟨rfl, rfl, rfl, rfl, rfl, hv, hp, pfq, k8q, q_81, q_82, hP, q_83, q_84, rl4⟩ := hp_79
      have pf := pF_t pf pfq
      have u_85q : (I_72 q 1).toInt = (I_34 q 1).toInt := by rw [pF_q hp pfq]
      have u_85_0 : (I_72 ln 0).toInt = (I_34 ln 0).toInt := by rw [pfq.2]
      have u_85_8 : (I_72 ln 8).toInt = (I_34 ln 8).toInt := by rw [k8q]
      refine lv_istore_n (lv' := [(1, .int (iI v_78)), (0, .ref a)]) F.1 F.2.1 dX1_readRing_24 rfl hl (by decide) rfl (fun ls hl => ?_)
      refine lv_iload_n F.1 F.2.1 dX1_readRing_25 rfl (lv_at hl 0 rfl) ?_
      refine z_if_ne (tgt := 36) F dX1_readRing_26 (by decide) zv_78 (fun c_86 => ?_) (fun c_86 => ?_)
      · refine lv_iload_n F.1 F.2.1 dX1_readRing_36 rfl (lv_at hl 0 rfl) ?_
        refine z_if_ne (tgt := 46) F dX1_readRing_37 (by decide) zv_78 (fun c_87 => ?_) (fun c_87 => ?_)
        · refine lv_iload_n F.1 F.2.1 dX1_readRing_46 rfl (lv_at hl 0 rfl) ?_
          refine z_if_ne (tgt := 57) F dX1_readRing_47 (by decide) zv_78 (fun c_88 => ?_) (fun c_88 => ?_)
          · refine lv_iload_n F.1 F.2.1 dX1_readRing_57 rfl (lv_at hl 0 rfl) ?_
            refine z_if_ne (tgt := 81) F dX1_readRing_58 (by decide) zv_78 (fun c_89 => ?_) (fun c_89 => ?_)
            · refine lv_aload_n F.1 F.2.1 dX1_readRing_81 rfl (lv_at hl 1 rfl) ?_
              refine g_getR (ci := 1) (k := 2) F hH rfl (by decide) iX1 hp.1 (by decide) rfl (b := ln) hp.2.2.2.1 k29 dX1_readRing_82 ?_
              refine lv_aload_n F.1 F.2.1 dX1_readRing_85 rfl (lv_at hl 1 rfl) ?_
              refine g_getR (ci := 1) (k := 2) F hH rfl (by decide) iX1 hp.1 (by decide) rfl (b := ln) hp.2.2.2.1 k29 dX1_readRing_86 ?_
              refine g_getI (ci := 0) (k := 5) F hH rfl (by decide) iX0 hp.2.2.2.2.1 (by decide) rfl k143 dX1_readRing_89 ?_
              have b_90 := gI_line hv hp.2.2.2.2.1
              unfold vLineI at b_90
              refine g_putI (ci := 0) (k := 2) F hH hS rfl (by decide) iX0 hp.2.2.2.2.1 (by decide) tyX0 tyX0_ok nmX0 rfl rfl rfl k136 dX1_readRing_92 (fun H locs hH hS => ?_)
              obtain ⟨I_91, eI_91⟩ : ∃ qQ, qQ = gup2 I_72 ln 2 (iI ((I_72 ln 5).toInt)) := ⟨_, rfl⟩
              rw [← eI_91] at hH
              have kI_91 : ∀ b, b ≠ ln → I_91 b = I_72 b := fun b hb => by rw [eI_91]; exact funext fun j => gup2_a _ _ hb
              have hP := pH_ln hv hp hP kI_91
              have w_92 : (I_91 ln 2).toInt = (I_72 ln 5).toInt := by rw [eI_91, gup2_s]; exact iI_val ⟨by omega, by omega⟩
              have hp2 : pS g gh R I_91 a q ln := pS_ln hv hp kI_91
              have hv : gInv g gh R AR I_91 AI := by rw [eI_91]; exact gInv_line2 hv hp.2.2.2.2.1 (by omega) (by omega) (pS_col hp)
              have hp := hp2
              have pf : pF a ln I I_91 := pF_t pf (by rw [eI_91]; exact pF_ln (by decide))
              have w_92_k : ∀ j, j ≠ 2 → I_91 ln j = I_72 ln j := fun j hj => by rw [eI_91]; exact gup2_k _ _ hj
              have u_93q : (I_91 q 1).toInt = (I_72 q 1).toInt := by rw [kI_91 q (gO_ne hp.2.2.1 hp.2.2.2.2.1 (by decide))]
              have u_93_0 : (I_91 ln 0).toInt = (I_72 ln 0).toInt := by rw [w_92_k 0 (by decide)]
              have u_93_8 : (I_91 ln 8).toInt = (I_72 ln 8).toInt := by rw [w_92_k 8 (by decide)]
              have u_94 : (I_91 ln 3).toInt = (I_72 ln 3).toInt := by rw [w_92_k 3 (by decide)]
              have u_95 : (I_91 ln 4).toInt = (I_72 ln 4).toInt := by rw [w_92_k 4 (by decide)]
              have u_96 : (I_91 ln 5).toInt = (I_72 ln 5).toInt := by rw [w_92_k 5 (by decide)]
              have u_97 : (I_91 ln 6).toInt = (I_72 ln 6).toInt := by rw [w_92_k 6 (by decide)]
              have u_98 : (I_91 ln 9).toInt = (I_72 ln 9).toInt := by rw [w_92_k 9 (by decide)]
              have u_99 : (I_91 ln 10).toInt = (I_72 ln 10).toInt := by rw [w_92_k 10 (by decide)]
              have u_100 : (I_91 ln 11).toInt = (I_72 ln 11).toInt := by rw [w_92_k 11 (by decide)]
              have u_101 : (I_91 ln 12).toInt = (I_72 ln 12).toInt := by rw [w_92_k 12 (by decide)]
              refine lv_iload_n F.1 F.2.1 dX1_readRing_95 rfl (lv_at hl 0 rfl) ?_
              have hfin : sRng b n nr nt cl h = r_80 := by
                unfold sRng
                repeat (first | with_reducible rfl | refine ite_y (by omega) ?_ | refine ite_n (by omega) ?_ | exact er_80.symm | exact thn_x er_80 (by omega) | refine thn_y er_9 (by omega) ?_ | refine thn_y er_42 (by omega) ?_ | exact pr_e (by omega) (by omega) (by omega))
              exact g_iret F hr hlk hH hS hz zv_78 ⟨rfl, rfl, rfl, rfl, hv, hp, pf, by first | omega | rfl | (dsimp only; omega), by (try dsimp only); rw [hfin]; first | done | omega | rfl, by (try dsimp only); rw [hfin]; exact hP, by (try dsimp only); exact (fun h => absurd h (by omega)), fun _ _ => rfl, by (try dsimp only); exact zIf_n (by omega)⟩ dX1_readRing_96
            · exact absurd trivial (by omega)
          · exact absurd trivial (by omega)
        · exact absurd trivial (by omega)
      · have t_102 := q_84 (by omega)
        refine lv_aload_n F.1 F.2.1 dX1_readRing_29 rfl (lv_at hl 1 rfl) ?_
        refine z_bipush F dX1_readRing_30 (by decide) ?_
        refine g_calli (g_runV (As := [.int (iI 12)]) (rest := []) (ci := 1) F hl.1 hH hS hz (c_X1_takeWordg l g gh q ln b n tl nr nt cl r_80.2.1 I_72 R J AI AJ AR a 12 ⟨by decide, by decide⟩ hv hp hP) (cwV 1 F.2.2.2.2.1 gX1_readRing_X1_takeWord rfl rfl rfl hdX1_takeWord ⟨Nat.le_of_ble_eq_true rfl, Nat.le_of_ble_eq_true rfl⟩) hp.1 (by decide) rfl rfl rfl (Nat.le_of_ble_eq_true rfl) dX1_readRing_32 ⟨Nat.zero_le _, Nat.zero_le _⟩) hS (fun v_109 I_103 R_104 J_105 AI_106 AJ_107 AR_108 H locs zv_109 hp_110 hH hS => ?_)
        dsimp only at hp_110
        obtain ⟨r_111, er_111⟩ : ∃ qQ : pR, qQ = sTw b n 12 r_80.2.1 := ⟨_, rfl⟩
        rw [← er_111] at hp_110
        obtain ⟨rfl, rfl, rfl, rfl, rfl, hv, hp, pfq, flq, q_112, q_113, hP⟩ := hp_110
        have pf := pF_t pf pfq
        have u_114q : (I_103 q 1).toInt = (I_72 q 1).toInt := by rw [pF_q hp pfq]
        have u_114_0 : (I_103 ln 0).toInt = (I_72 ln 0).toInt := by rw [pfq.2]
        have u_114_8 : (I_103 ln 8).toInt = (I_72 ln 8).toInt := by rw [flq]
        have u_115 : (I_103 ln 2).toInt = (I_72 ln 2).toInt := by rw [flq]
        have u_116 : (I_103 ln 3).toInt = (I_72 ln 3).toInt := by rw [flq]
        have u_117 : (I_103 ln 4).toInt = (I_72 ln 4).toInt := by rw [flq]
        have u_118 : (I_103 ln 5).toInt = (I_72 ln 5).toInt := by rw [flq]
        have u_119 : (I_103 ln 6).toInt = (I_72 ln 6).toInt := by rw [flq]
        have u_120 : (I_103 ln 9).toInt = (I_72 ln 9).toInt := by rw [flq]
        have u_121 : (I_103 ln 10).toInt = (I_72 ln 10).toInt := by rw [flq]
        have u_122 : (I_103 ln 11).toInt = (I_72 ln 11).toInt := by rw [flq]
        have u_123 : (I_103 ln 12).toInt = (I_72 ln 12).toInt := by rw [flq]
        refine lv_istore_n (lv' := [(1, .int (iI v_109)), (0, .ref a)]) F.1 F.2.1 dX1_readRing_35 rfl hl (by decide) rfl (fun ls hl => ?_)
        refine lv_iload_n F.1 F.2.1 dX1_readRing_36 rfl (lv_at hl 0 rfl) ?_
        refine z_if_ne (tgt := 46) F dX1_readRing_37 (by decide) zv_109 (fun c_124 => ?_) (fun c_124 => ?_)
        · refine lv_iload_n F.1 F.2.1 dX1_readRing_46 rfl (lv_at hl 0 rfl) ?_
          refine z_if_ne (tgt := 57) F dX1_readRing_47 (by decide) zv_109 (fun c_125 => ?_) (fun c_125 => ?_)
          · refine lv_iload_n F.1 F.2.1 dX1_readRing_57 rfl (lv_at hl 0 rfl) ?_
            refine z_if_ne (tgt := 81) F dX1_readRing_58 (by decide) zv_109 (fun c_126 => ?_) (fun c_126 => ?_)
            · refine lv_aload_n F.1 F.2.1 dX1_readRing_81 rfl (lv_at hl 1 rfl) ?_
              refine g_getR (ci := 1) (k := 2) F hH rfl (by decide) iX1 hp.1 (by decide) rfl (b := ln) hp.2.2.2.1 k29 dX1_readRing_82 ?_
              refine lv_aload_n F.1 F.2.1 dX1_readRing_85 rfl (lv_at hl 1 rfl) ?_
              refine g_getR (ci := 1) (k := 2) F hH rfl (by decide) iX1 hp.1 (by decide) rfl (b := ln) hp.2.2.2.1 k29 dX1_readRing_86 ?_
              refine g_getI (ci := 0) (k := 5) F hH rfl (by decide) iX0 hp.2.2.2.2.1 (by decide) rfl k143 dX1_readRing_89 ?_
              have b_127 := gI_line hv hp.2.2.2.2.1
              unfold vLineI at b_127
              refine g_putI (ci := 0) (k := 2) F hH hS rfl (by decide) iX0 hp.2.2.2.2.1 (by decide) tyX0 tyX0_ok nmX0 rfl rfl rfl k136 dX1_readRing_92 (fun H locs hH hS => ?_)
              obtain ⟨I_128, eI_128⟩ : ∃ qQ, qQ = gup2 I_103 ln 2 (iI ((I_103 ln 5).toInt)) := ⟨_, rfl⟩
              rw [← eI_128] at hH
              have kI_128 : ∀ b, b ≠ ln → I_128 b = I_103 b := fun b hb => by rw [eI_128]; exact funext fun j => gup2_a _ _ hb
              have hP := pH_ln hv hp hP kI_128
              have w_129 : (I_128 ln 2).toInt = (I_103 ln 5).toInt := by rw [eI_128, gup2_s]; exact iI_val ⟨by omega, by omega⟩
              have hp2 : pS g gh R I_128 a q ln := pS_ln hv hp kI_128
              have hv : gInv g gh R AR I_128 AI := by rw [eI_128]; exact gInv_line2 hv hp.2.2.2.2.1 (by omega) (by omega) (pS_col hp)
              have hp := hp2
              have pf : pF a ln I I_128 := pF_t pf (by rw [eI_128]; exact pF_ln (by decide))
              have w_129_k : ∀ j, j ≠ 2 → I_128 ln j = I_103 ln j := fun j hj => by rw [eI_128]; exact gup2_k _ _ hj
              have u_130q : (I_128 q 1).toInt = (I_103 q 1).toInt := by rw [kI_128 q (gO_ne hp.2.2.1 hp.2.2.2.2.1 (by decide))]
              have u_130_0 : (I_128 ln 0).toInt = (I_103 ln 0).toInt := by rw [w_129_k 0 (by decide)]
              have u_130_8 : (I_128 ln 8).toInt = (I_103 ln 8).toInt := by rw [w_129_k 8 (by decide)]
              have u_131 : (I_128 ln 3).toInt = (I_103 ln 3).toInt := by rw [w_129_k 3 (by decide)]
              have u_132 : (I_128 ln 4).toInt = (I_103 ln 4).toInt := by rw [w_129_k 4 (by decide)]
              have u_133 : (I_128 ln 5).toInt = (I_103 ln 5).toInt := by rw [w_129_k 5 (by decide)]
              have u_134 : (I_128 ln 6).toInt = (I_103 ln 6).toInt := by rw [w_129_k 6 (by decide)]
              have u_135 : (I_128 ln 9).toInt = (I_103 ln 9).toInt := by rw [w_129_k 9 (by decide)]
              have u_136 : (I_128 ln 10).toInt = (I_103 ln 10).toInt := by rw [w_129_k 10 (by decide)]
              have u_137 : (I_128 ln 11).toInt = (I_103 ln 11).toInt := by rw [w_129_k 11 (by decide)]
              have u_138 : (I_128 ln 12).toInt = (I_103 ln 12).toInt := by rw [w_129_k 12 (by decide)]
              refine lv_iload_n F.1 F.2.1 dX1_readRing_95 rfl (lv_at hl 0 rfl) ?_
              have hfin : sRng b n nr nt cl h = r_111 := by
                unfold sRng
                repeat (first | with_reducible rfl | refine ite_y (by omega) ?_ | refine ite_n (by omega) ?_ | exact er_111.symm | exact thn_x er_111 (by omega) | refine thn_y er_9 (by omega) ?_ | refine thn_y er_42 (by omega) ?_ | refine thn_y er_80 (by omega) ?_ | exact pr_e (by omega) (by omega) (by omega))
              exact g_iret F hr hlk hH hS hz zv_109 ⟨rfl, rfl, rfl, rfl, hv, hp, pf, by first | omega | rfl | (dsimp only; omega), by (try dsimp only); rw [hfin]; first | done | omega | rfl, by (try dsimp only); rw [hfin]; exact hP, by (try dsimp only); exact (fun h => absurd h (by omega)), fun _ _ => rfl, by (try dsimp only); exact zIf_n (by omega)⟩ dX1_readRing_96
            · exact absurd trivial (by omega)
          · exact absurd trivial (by omega)
        · refine lv_aload_n F.1 F.2.1 dX1_readRing_40 rfl (lv_at hl 1 rfl) ?_
          refine z_iconst F dX1_readRing_41 ?_
          refine g_calli (g_runV (As := [.int (iI 1)]) (rest := []) (ci := 1) F hl.1 hH hS hz (c_X1_readPairg l g gh q ln r_9.2.2 r_80.2.2 0 b n tl nr nt cl r_111.2.1 I_103 R J AI AJ AR a 1 ⟨by decide, by decide⟩ hv hp hP (by omega) (by omega) (by omega)) (cwV 1 F.2.2.2.2.1 gX1_readRing_X1_readPair rfl rfl rfl hdX1_readPair ⟨Nat.le_of_ble_eq_true rfl, Nat.le_of_ble_eq_true rfl⟩) hp.1 (by decide) rfl rfl rfl (Nat.le_of_ble_eq_true rfl) dX1_readRing_42 ⟨Nat.zero_le _, Nat.zero_le _⟩) hS (fun v_145 I_139 R_140 J_141 AI_142 AJ_143 AR_144 H locs zv_145 hp_146 hH hS => ?_)
          dsimp only at hp_146
          obtain ⟨r_147, er_147⟩ : ∃ qQ : pR, qQ = sPair b n r_9.2.2 r_80.2.2 0 1 r_111.2.1 := ⟨_, rfl⟩
          rw [← er_147] at hp_146
          obtain ⟨rfl, rfl, rfl, rfl, rfl, hv, hp, pfq, k8q, q_148, q_149, q_150, hP, q_151, q_152, ct9⟩ := hp_146
          have pf := pF_t pf pfq
          have u_153q : (I_139 q 1).toInt = (I_103 q 1).toInt := by rw [pF_q hp pfq]
          have u_153_0 : (I_139 ln 0).toInt = (I_103 ln 0).toInt := by rw [pfq.2]
          have u_153_8 : (I_139 ln 8).toInt = (I_103 ln 8).toInt := by rw [k8q]
          refine lv_istore_n (lv' := [(1, .int (iI v_145)), (0, .ref a)]) F.1 F.2.1 dX1_readRing_45 rfl hl (by decide) rfl (fun ls hl => ?_)
          refine lv_iload_n F.1 F.2.1 dX1_readRing_46 rfl (lv_at hl 0 rfl) ?_
          refine z_if_ne (tgt := 57) F dX1_readRing_47 (by decide) zv_145 (fun c_154 => ?_) (fun c_154 => ?_)
          · refine lv_iload_n F.1 F.2.1 dX1_readRing_57 rfl (lv_at hl 0 rfl) ?_
            refine z_if_ne (tgt := 81) F dX1_readRing_58 (by decide) zv_145 (fun c_155 => ?_) (fun c_155 => ?_)
            · refine lv_aload_n F.1 F.2.1 dX1_readRing_81 rfl (lv_at hl 1 rfl) ?_
              refine g_getR (ci := 1) (k := 2) F hH rfl (by decide) iX1 hp.1 (by decide) rfl (b := ln) hp.2.2.2.1 k29 dX1_readRing_82 ?_
              refine lv_aload_n F.1 F.2.1 dX1_readRing_85 rfl (lv_at hl 1 rfl) ?_
              refine g_getR (ci := 1) (k := 2) F hH rfl (by decide) iX1 hp.1 (by decide) rfl (b := ln) hp.2.2.2.1 k29 dX1_readRing_86 ?_
              refine g_getI (ci := 0) (k := 5) F hH rfl (by decide) iX0 hp.2.2.2.2.1 (by decide) rfl k143 dX1_readRing_89 ?_
              have b_156 := gI_line hv hp.2.2.2.2.1
              unfold vLineI at b_156
              refine g_putI (ci := 0) (k := 2) F hH hS rfl (by decide) iX0 hp.2.2.2.2.1 (by decide) tyX0 tyX0_ok nmX0 rfl rfl rfl k136 dX1_readRing_92 (fun H locs hH hS => ?_)
              obtain ⟨I_157, eI_157⟩ : ∃ qQ, qQ = gup2 I_139 ln 2 (iI ((I_139 ln 5).toInt)) := ⟨_, rfl⟩
              rw [← eI_157] at hH
              have kI_157 : ∀ b, b ≠ ln → I_157 b = I_139 b := fun b hb => by rw [eI_157]; exact funext fun j => gup2_a _ _ hb
              have hP := pH_ln hv hp hP kI_157
              have w_158 : (I_157 ln 2).toInt = (I_139 ln 5).toInt := by rw [eI_157, gup2_s]; exact iI_val ⟨by omega, by omega⟩
              have hp2 : pS g gh R I_157 a q ln := pS_ln hv hp kI_157
              have hv : gInv g gh R AR I_157 AI := by rw [eI_157]; exact gInv_line2 hv hp.2.2.2.2.1 (by omega) (by omega) (pS_col hp)
              have hp := hp2
              have pf : pF a ln I I_157 := pF_t pf (by rw [eI_157]; exact pF_ln (by decide))
              have w_158_k : ∀ j, j ≠ 2 → I_157 ln j = I_139 ln j := fun j hj => by rw [eI_157]; exact gup2_k _ _ hj
              have u_159q : (I_157 q 1).toInt = (I_139 q 1).toInt := by rw [kI_157 q (gO_ne hp.2.2.1 hp.2.2.2.2.1 (by decide))]
              have u_159_0 : (I_157 ln 0).toInt = (I_139 ln 0).toInt := by rw [w_158_k 0 (by decide)]
              have u_159_8 : (I_157 ln 8).toInt = (I_139 ln 8).toInt := by rw [w_158_k 8 (by decide)]
              have u_160 : (I_157 ln 3).toInt = (I_139 ln 3).toInt := by rw [w_158_k 3 (by decide)]
              have u_161 : (I_157 ln 4).toInt = (I_139 ln 4).toInt := by rw [w_158_k 4 (by decide)]
              have u_162 : (I_157 ln 5).toInt = (I_139 ln 5).toInt := by rw [w_158_k 5 (by decide)]
              have u_163 : (I_157 ln 6).toInt = (I_139 ln 6).toInt := by rw [w_158_k 6 (by decide)]
              have u_164 : (I_157 ln 9).toInt = (I_139 ln 9).toInt := by rw [w_158_k 9 (by decide)]
              have u_165 : (I_157 ln 10).toInt = (I_139 ln 10).toInt := by rw [w_158_k 10 (by decide)]
              have u_166 : (I_157 ln 11).toInt = (I_139 ln 11).toInt := by rw [w_158_k 11 (by decide)]
              have u_167 : (I_157 ln 12).toInt = (I_139 ln 12).toInt := by rw [w_158_k 12 (by decide)]
              refine lv_iload_n F.1 F.2.1 dX1_readRing_95 rfl (lv_at hl 0 rfl) ?_
              have hfin : sRng b n nr nt cl h = r_147 := by
                unfold sRng
                repeat (first | with_reducible rfl | refine ite_y (by omega) ?_ | refine ite_n (by omega) ?_ | exact er_147.symm | exact thn_x er_147 (by omega) | refine thn_y er_9 (by omega) ?_ | refine thn_y er_42 (by omega) ?_ | refine thn_y er_80 (by omega) ?_ | refine thn_y er_111 (by omega) ?_ | exact pr_e (by omega) (by omega) (by omega))
              exact g_iret F hr hlk hH hS hz zv_145 ⟨rfl, rfl, rfl, rfl, hv, hp, pf, by first | omega | rfl | (dsimp only; omega), by (try dsimp only); rw [hfin]; first | done | omega | rfl, by (try dsimp only); rw [hfin]; exact hP, by (try dsimp only); exact (fun h => absurd h (by omega)), fun _ _ => rfl, by (try dsimp only); exact zIf_n (by omega)⟩ dX1_readRing_96
            · exact absurd trivial (by omega)
          · have t_168 := q_152 (by omega)
            refine lv_aload_n F.1 F.2.1 dX1_readRing_50 rfl (lv_at hl 1 rfl) ?_
            refine z_bipush F dX1_readRing_51 (by decide) ?_
            refine g_calli (g_runV (As := [.int (iI 15)]) (rest := []) (ci := 1) F hl.1 hH hS hz (c_X1_takeWordg l g gh q ln b n tl nr nt cl r_147.2.1 I_139 R J AI AJ AR a 15 ⟨by decide, by decide⟩ hv hp hP) (cwV 1 F.2.2.2.2.1 gX1_readRing_X1_takeWord rfl rfl rfl hdX1_takeWord ⟨Nat.le_of_ble_eq_true rfl, Nat.le_of_ble_eq_true rfl⟩) hp.1 (by decide) rfl rfl rfl (Nat.le_of_ble_eq_true rfl) dX1_readRing_53 ⟨Nat.zero_le _, Nat.zero_le _⟩) hS (fun v_175 I_169 R_170 J_171 AI_172 AJ_173 AR_174 H locs zv_175 hp_176 hH hS => ?_)
            dsimp only at hp_176
            obtain ⟨r_177, er_177⟩ : ∃ qQ : pR, qQ = sTw b n 15 r_147.2.1 := ⟨_, rfl⟩
            rw [← er_177] at hp_176
            obtain ⟨rfl, rfl, rfl, rfl, rfl, hv, hp, pfq, flq, q_178, q_179, hP⟩ := hp_176
            have pf := pF_t pf pfq
            have u_180q : (I_169 q 1).toInt = (I_139 q 1).toInt := by rw [pF_q hp pfq]
            have u_180_0 : (I_169 ln 0).toInt = (I_139 ln 0).toInt := by rw [pfq.2]
            have u_180_8 : (I_169 ln 8).toInt = (I_139 ln 8).toInt := by rw [flq]
            have u_181 : (I_169 ln 2).toInt = (I_139 ln 2).toInt := by rw [flq]
            have u_182 : (I_169 ln 3).toInt = (I_139 ln 3).toInt := by rw [flq]
            have u_183 : (I_169 ln 4).toInt = (I_139 ln 4).toInt := by rw [flq]
            have u_184 : (I_169 ln 5).toInt = (I_139 ln 5).toInt := by rw [flq]
            have u_185 : (I_169 ln 6).toInt = (I_139 ln 6).toInt := by rw [flq]
            have u_186 : (I_169 ln 9).toInt = (I_139 ln 9).toInt := by rw [flq]
            have u_187 : (I_169 ln 10).toInt = (I_139 ln 10).toInt := by rw [flq]
            have u_188 : (I_169 ln 11).toInt = (I_139 ln 11).toInt := by rw [flq]
            have u_189 : (I_169 ln 12).toInt = (I_139 ln 12).toInt := by rw [flq]
            refine lv_istore_n (lv' := [(1, .int (iI v_175)), (0, .ref a)]) F.1 F.2.1 dX1_readRing_56 rfl hl (by decide) rfl (fun ls hl => ?_)
            refine lv_iload_n F.1 F.2.1 dX1_readRing_57 rfl (lv_at hl 0 rfl) ?_
            refine z_if_ne (tgt := 81) F dX1_readRing_58 (by decide) zv_175 (fun c_190 => ?_) (fun c_190 => ?_)
            · refine lv_aload_n F.1 F.2.1 dX1_readRing_81 rfl (lv_at hl 1 rfl) ?_
              refine g_getR (ci := 1) (k := 2) F hH rfl (by decide) iX1 hp.1 (by decide) rfl (b := ln) hp.2.2.2.1 k29 dX1_readRing_82 ?_
              refine lv_aload_n F.1 F.2.1 dX1_readRing_85 rfl (lv_at hl 1 rfl) ?_
              refine g_getR (ci := 1) (k := 2) F hH rfl (by decide) iX1 hp.1 (by decide) rfl (b := ln) hp.2.2.2.1 k29 dX1_readRing_86 ?_
              refine g_getI (ci := 0) (k := 5) F hH rfl (by decide) iX0 hp.2.2.2.2.1 (by decide) rfl k143 dX1_readRing_89 ?_
              have b_191 := gI_line hv hp.2.2.2.2.1
              unfold vLineI at b_191
              refine g_putI (ci := 0) (k := 2) F hH hS rfl (by decide) iX0 hp.2.2.2.2.1 (by decide) tyX0 tyX0_ok nmX0 rfl rfl rfl k136 dX1_readRing_92 (fun H locs hH hS => ?_)
              obtain ⟨I_192, eI_192⟩ : ∃ qQ, qQ = gup2 I_169 ln 2 (iI ((I_169 ln 5).toInt)) := ⟨_, rfl⟩
              rw [← eI_192] at hH
              have kI_192 : ∀ b, b ≠ ln → I_192 b = I_169 b := fun b hb => by rw [eI_192]; exact funext fun j => gup2_a _ _ hb
              have hP := pH_ln hv hp hP kI_192
              have w_193 : (I_192 ln 2).toInt = (I_169 ln 5).toInt := by rw [eI_192, gup2_s]; exact iI_val ⟨by omega, by omega⟩
              have hp2 : pS g gh R I_192 a q ln := pS_ln hv hp kI_192
              have hv : gInv g gh R AR I_192 AI := by rw [eI_192]; exact gInv_line2 hv hp.2.2.2.2.1 (by omega) (by omega) (pS_col hp)
              have hp := hp2
              have pf : pF a ln I I_192 := pF_t pf (by rw [eI_192]; exact pF_ln (by decide))
              have w_193_k : ∀ j, j ≠ 2 → I_192 ln j = I_169 ln j := fun j hj => by rw [eI_192]; exact gup2_k _ _ hj
              have u_194q : (I_192 q 1).toInt = (I_169 q 1).toInt := by rw [kI_192 q (gO_ne hp.2.2.1 hp.2.2.2.2.1 (by decide))]
              have u_194_0 : (I_192 ln 0).toInt = (I_169 ln 0).toInt := by rw [w_193_k 0 (by decide)]
              have u_194_8 : (I_192 ln 8).toInt = (I_169 ln 8).toInt := by rw [w_193_k 8 (by decide)]
              have u_195 : (I_192 ln 3).toInt = (I_169 ln 3).toInt := by rw [w_193_k 3 (by decide)]
              have u_196 : (I_192 ln 4).toInt = (I_169 ln 4).toInt := by rw [w_193_k 4 (by decide)]
              have u_197 : (I_192 ln 5).toInt = (I_169 ln 5).toInt := by rw [w_193_k 5 (by decide)]
              have u_198 : (I_192 ln 6).toInt = (I_169 ln 6).toInt := by rw [w_193_k 6 (by decide)]
              have u_199 : (I_192 ln 9).toInt = (I_169 ln 9).toInt := by rw [w_193_k 9 (by decide)]
              have u_200 : (I_192 ln 10).toInt = (I_169 ln 10).toInt := by rw [w_193_k 10 (by decide)]
              have u_201 : (I_192 ln 11).toInt = (I_169 ln 11).toInt := by rw [w_193_k 11 (by decide)]
              have u_202 : (I_192 ln 12).toInt = (I_169 ln 12).toInt := by rw [w_193_k 12 (by decide)]
              refine lv_iload_n F.1 F.2.1 dX1_readRing_95 rfl (lv_at hl 0 rfl) ?_
              have hfin : sRng b n nr nt cl h = r_177 := by
                unfold sRng
                repeat (first | with_reducible rfl | refine ite_y (by omega) ?_ | refine ite_n (by omega) ?_ | exact er_177.symm | exact thn_x er_177 (by omega) | refine thn_y er_9 (by omega) ?_ | refine thn_y er_42 (by omega) ?_ | refine thn_y er_80 (by omega) ?_ | refine thn_y er_111 (by omega) ?_ | refine thn_y er_147 (by omega) ?_ | exact pr_e (by omega) (by omega) (by omega))
              exact g_iret F hr hlk hH hS hz zv_175 ⟨rfl, rfl, rfl, rfl, hv, hp, pf, by first | omega | rfl | (dsimp only; omega), by (try dsimp only); rw [hfin]; first | done | omega | rfl, by (try dsimp only); rw [hfin]; exact hP, by (try dsimp only); exact (fun h => absurd h (by omega)), fun _ _ => rfl, by (try dsimp only); exact zIf_n (by omega)⟩ dX1_readRing_96
            · refine lv_aload_n F.1 F.2.1 dX1_readRing_61 rfl (lv_at hl 1 rfl) ?_
              refine lv_aload_n F.1 F.2.1 dX1_readRing_62 rfl (lv_at hl 1 rfl) ?_
              refine g_getR (ci := 1) (k := 2) F hH rfl (by decide) iX1 hp.1 (by decide) rfl (b := ln) hp.2.2.2.1 k29 dX1_readRing_63 ?_
              refine g_getI (ci := 0) (k := 5) F hH rfl (by decide) iX0 hp.2.2.2.2.1 (by decide) rfl k143 dX1_readRing_66 ?_
              have b_203 := gI_line hv hp.2.2.2.2.1
              unfold vLineI at b_203
              refine lv_aload_n F.1 F.2.1 dX1_readRing_69 rfl (lv_at hl 1 rfl) ?_
              refine g_getR (ci := 1) (k := 2) F hH rfl (by decide) iX1 hp.1 (by decide) rfl (b := ln) hp.2.2.2.1 k29 dX1_readRing_70 ?_
              refine g_getI (ci := 0) (k := 6) F hH rfl (by decide) iX0 hp.2.2.2.2.1 (by decide) rfl k146 dX1_readRing_73 ?_
              refine z_iadd F dX1_readRing_76 ?_
              refine g_calli (g_runV (As := [.int (iI (((I_169 ln 5).toInt) + ((I_169 ln 6).toInt)))]) (rest := []) (ci := 1) F hl.1 hH hS hz (c_X1_readTermsg l g gh q ln b n tl nr nt cl r_177.2.1 I_169 R J AI AJ AR a (((I_169 ln 5).toInt) + ((I_169 ln 6).toInt)) ⟨by omega, by omega⟩ hv hp (by omega) hP (by omega)) (cwV 1 F.2.2.2.2.1 gX1_readRing_X1_readTerms rfl rfl rfl hdX1_readTerms ⟨Nat.le_of_ble_eq_true rfl, Nat.le_of_ble_eq_true rfl⟩) hp.1 (by decide) rfl rfl rfl (Nat.le_of_ble_eq_true rfl) dX1_readRing_77 ⟨Nat.zero_le _, Nat.zero_le _⟩) hS (fun v_210 I_204 R_205 J_206 AI_207 AJ_208 AR_209 H locs zv_210 hp_211 hH hS => ?_)
              dsimp only at hp_211
              rw [show ((I_169 ln 5).toInt) + ((I_169 ln 6).toInt) = r_9.2.2 + r_80.2.2 by omega] at hp_211
              obtain ⟨r_212, er_212⟩ : ∃ qQ : pR, qQ = sTerms b n (r_9.2.2 + r_80.2.2) 5 0 r_177.2.1 := ⟨_, rfl⟩
              rw [← er_212] at hp_211
              obtain ⟨rfl, rfl, rfl, rfl, hv, hp, pfq, q_213, q_214, hP, q_215, hx8, fAq, ctl⟩ := hp_211
              have pf := pF_t pf pfq
              have u_216q : (I_204 q 1).toInt = (I_169 q 1).toInt := by rw [pF_q hp pfq]
              have u_216_0 : (I_204 ln 0).toInt = (I_169 ln 0).toInt := by rw [pfq.2]
              refine lv_istore_n (lv' := [(1, .int (iI v_210)), (0, .ref a)]) F.1 F.2.1 dX1_readRing_80 rfl hl (by decide) rfl (fun ls hl => ?_)
              refine lv_aload_n F.1 F.2.1 dX1_readRing_81 rfl (lv_at hl 1 rfl) ?_
              refine g_getR (ci := 1) (k := 2) F hH rfl (by decide) iX1 hp.1 (by decide) rfl (b := ln) hp.2.2.2.1 k29 dX1_readRing_82 ?_
              refine lv_aload_n F.1 F.2.1 dX1_readRing_85 rfl (lv_at hl 1 rfl) ?_
              refine g_getR (ci := 1) (k := 2) F hH rfl (by decide) iX1 hp.1 (by decide) rfl (b := ln) hp.2.2.2.1 k29 dX1_readRing_86 ?_
              refine g_getI (ci := 0) (k := 5) F hH rfl (by decide) iX0 hp.2.2.2.2.1 (by decide) rfl k143 dX1_readRing_89 ?_
              have b_217 := gI_line hv hp.2.2.2.2.1
              unfold vLineI at b_217
              refine g_putI (ci := 0) (k := 2) F hH hS rfl (by decide) iX0 hp.2.2.2.2.1 (by decide) tyX0 tyX0_ok nmX0 rfl rfl rfl k136 dX1_readRing_92 (fun H locs hH hS => ?_)
              obtain ⟨I_218, eI_218⟩ : ∃ qQ, qQ = gup2 I_204 ln 2 (iI ((I_204 ln 5).toInt)) := ⟨_, rfl⟩
              rw [← eI_218] at hH
              have kI_218 : ∀ b, b ≠ ln → I_218 b = I_204 b := fun b hb => by rw [eI_218]; exact funext fun j => gup2_a _ _ hb
              have hP := pH_ln hv hp hP kI_218
              have w_219 : (I_218 ln 2).toInt = (I_204 ln 5).toInt := by rw [eI_218, gup2_s]; exact iI_val ⟨by omega, by omega⟩
              have hp2 : pS g gh R I_218 a q ln := pS_ln hv hp kI_218
              have hv : gInv g gh R AR I_218 AI_207 := by rw [eI_218]; exact gInv_line2 hv hp.2.2.2.2.1 (by omega) (by omega) (pS_col hp)
              have hp := hp2
              have pf : pF a ln I I_218 := pF_t pf (by rw [eI_218]; exact pF_ln (by decide))
              have w_219_k : ∀ j, j ≠ 2 → I_218 ln j = I_204 ln j := fun j hj => by rw [eI_218]; exact gup2_k _ _ hj
              have u_220q : (I_218 q 1).toInt = (I_204 q 1).toInt := by rw [kI_218 q (gO_ne hp.2.2.1 hp.2.2.2.2.1 (by decide))]
              have u_220_0 : (I_218 ln 0).toInt = (I_204 ln 0).toInt := by rw [w_219_k 0 (by decide)]
              have u_220_8 : (I_218 ln 8).toInt = (I_204 ln 8).toInt := by rw [w_219_k 8 (by decide)]
              have u_221 : (I_218 ln 3).toInt = (I_204 ln 3).toInt := by rw [w_219_k 3 (by decide)]
              have u_222 : (I_218 ln 4).toInt = (I_204 ln 4).toInt := by rw [w_219_k 4 (by decide)]
              have u_223 : (I_218 ln 5).toInt = (I_204 ln 5).toInt := by rw [w_219_k 5 (by decide)]
              have u_224 : (I_218 ln 6).toInt = (I_204 ln 6).toInt := by rw [w_219_k 6 (by decide)]
              have u_225 : (I_218 ln 9).toInt = (I_204 ln 9).toInt := by rw [w_219_k 9 (by decide)]
              have u_226 : (I_218 ln 10).toInt = (I_204 ln 10).toInt := by rw [w_219_k 10 (by decide)]
              have u_227 : (I_218 ln 11).toInt = (I_204 ln 11).toInt := by rw [w_219_k 11 (by decide)]
              have u_228 : (I_218 ln 12).toInt = (I_204 ln 12).toInt := by rw [w_219_k 12 (by decide)]
              refine lv_iload_n F.1 F.2.1 dX1_readRing_95 rfl (lv_at hl 0 rfl) ?_
              have hfz : v_210 = 0 → sRng b n nr nt cl h = (0, r_212.2.1, rX r_9.2.2 r_80.2.2 r_212.2.2) := fun h => by unfold sRng; exact thn_y er_9 (by omega) (thn_y er_42 (by omega) (thn_y er_80 (by omega) (thn_y er_111 (by omega) (thn_y er_147 (by omega) (thn_y er_177 (by omega) (thn_y er_212 (by omega) rfl))))))
              have hfn : v_210 ≠ 0 → sRng b n nr nt cl h = r_212 := fun h => by unfold sRng; exact thn_y er_9 (by omega) (thn_y er_42 (by omega) (thn_y er_80 (by omega) (thn_y er_111 (by omega) (thn_y er_147 (by omega) (thn_y er_177 (by omega) (thn_x er_212 (by omega)))))))
              have hfin : (sRng b n nr nt cl h).1 = r_212.1 ∧ (sRng b n nr nt cl h).2.1 = r_212.2.1 := by
                by_cases h : v_210 = 0
                · rw [hfz h]; exact ⟨by (try dsimp only); omega, rfl⟩
                · rw [hfn h]; exact ⟨rfl, rfl⟩
              exact g_iret F hr hlk hH hS hz zv_210 ⟨rfl, rfl, rfl, rfl, hv, hp, pf, by first | omega | rfl | (dsimp only; omega), by (try dsimp only); rw [hfin.1]; omega, by (try dsimp only); rw [hfin.2]; exact hP, by (try dsimp only); first | exact (fun h => absurd h (by omega)) | exact (fun h => by
        have q9 := hx8 h
        rw [hfz h]
        show pB _ (rX r_9.2.2 r_80.2.2 r_212.2.2)
        unfold pB rX
        refine Or.inr ⟨by omega, by omega, ?_⟩
        by_cases w9 : r_9.2.2 + r_80.2.2 ≤ 4 ∧ r_212.2.2 = r_9.2.2
        · rw [if_pos w9]; exact Or.inl ⟨by omega, by omega, by omega⟩
        · rw [if_neg w9]; exact Or.inr ⟨by omega, rfl⟩), fun b hb => fAq b hb, fun h9 => by
        (try dsimp only at h9)
        have a1 := sRl_h er_9 (by omega)
        have a2 := sTw_h er_42 (by omega)
        have a3 := sRl_h er_80 (by omega)
        have a4 := sTw_h er_111 (by omega)
        have a5 := sPair_h er_147 (by omega)
        have a6 := sTw_h er_177 (by omega)
        have b3 := rl3 (by omega)
        have b4 := rl4 (by omega)
        have b9 := ct9 (by omega)
        have a7 := ctl (by omega)
        unfold nxT at a5
        have a8 : (I_218 ln 8).toInt = ((iCnt (nxE b n) (spC b n) 5 r_177.2.1 : Nat) : Int) := by have := a7.1; omega
        unfold kRng
        (try dsimp only)
        rw [show h + 8 = r_177.2.1 by omega, show h + 6 = r_111.2.1 + 2 by omega, show h + 4 = r_111.2.1 by omega, show h + 2 = r_42.2.1 by omega, a8]
        refine ⟨by omega, by omega, by omega, by omega, by omega, by omega, rfl, ?_⟩
        rw [← a7.1]; exact a7.2⟩ dX1_readRing_96

def rmX1_readTableColumnsg : Room := { frames := 1, cells := 0, slots := 0, locals := 21 }
set_option maxHeartbeats 4000000 in
set_option maxRecDepth 100000 in
/-- the columns of a table -/
theorem c_X1_readTableColumnsg (l : Launch) (g : gG) (gh : gGh) (q ln : Nat) (b : tTx) (n : Nat) (tl : Int) (nr : Nat) (nt : Nat → Nat) (cl : Nat → Int) (h : Nat) (I : gI) (R : gR) (J : gJ) (AI : gI) (AJ : gJ) (AR : gR) (a : Nat) (hv : gInv g gh R AR I AI) (hp : pS g gh R I a q ln) (hP : pH gh AR I J AI AJ a q b n tl nr nt cl h) : gMet l g yX1_readTableColumns wsX1_readTableColumns rmX1_readTableColumnsg [.ref a] (I, R, J, AI, AJ, AR) (gQi g (fun (z : Int) (w : gS) => R = w.2.1 ∧ J = w.2.2.1 ∧ AI = w.2.2.2.1 ∧ AJ = w.2.2.2.2.1 ∧ AR = w.2.2.2.2.2 ∧ (gInv g gh R AR (w.1) AI) ∧ (pS g gh R (w.1) a q ln) ∧ (pF a ln I (w.1)) ∧ (0 ≤ z ∧ z ≤ 4) ∧ (z = (sTc b n h).1) ∧ (pH gh AR (w.1) J AI AJ a q b n tl nr nt cl (sTc b n h).2.1) ∧ (pIm z (((w.1) ln 2).toInt) ((sTc b n h).2.2)) ∧ (((w.1) ln 3).toInt = (I ln 3).toInt ∧ ((w.1) ln 4).toInt = (I ln 4).toInt))) := by
  refine gStart (cc := cX1_readTableColumns) (maxL := 2) (ret := (some (.int))) (by decide) rfl (Nat.le_of_ble_eq_true rfl) ?_
  intro p e s m below meth c ls F hr hlk hH hz hS hl
  have hl : lv_has ls 2 [(0, .ref a)] := hl
  have hS : va_S (gA g) s.heap s.heap [] := hS
  obtain ⟨H, hHe⟩ : ∃ H : Heap, H = s.heap := ⟨_, rfl⟩
  obtain ⟨locs, hlo⟩ : ∃ k : List Loc, k = [] := ⟨_, rfl⟩
  have hH : gH g I R J AI AJ AR H := by rw [hHe]; exact hH
  have hS : va_S (gA g) s.heap H locs := by rw [hHe, hlo]; exact hS
  suffices hw : W p l e rmX1_readTableColumnsg s m ([.ref a] : List Value).toArray below meth c H locs 0 0 (MQ below (gQi g (fun (z : Int) (w : gS) => R = w.2.1 ∧ J = w.2.2.1 ∧ AI = w.2.2.2.1 ∧ AJ = w.2.2.2.2.1 ∧ AR = w.2.2.2.2.2 ∧ (gInv g gh R AR (w.1) AI) ∧ (pS g gh R (w.1) a q ln) ∧ (pF a ln I (w.1)) ∧ (0 ≤ z ∧ z ≤ 4) ∧ (z = (sTc b n h).1) ∧ (pH gh AR (w.1) J AI AJ a q b n tl nr nt cl (sTc b n h).2.1) ∧ (pIm z (((w.1) ln 2).toInt) ((sTc b n h).2.2)) ∧ (((w.1) ln 3).toInt = (I ln 3).toInt ∧ ((w.1) ln 4).toInt = (I ln 4).toInt))) ([.ref a] : List Value).toArray s 0 0 (gA g)) (F0 m 0 ls []) by
    rw [hHe, hlo] at hw; exact hw
  clear hHe hlo
  have pf : pF a ln I I := pF_r
  have iX5 : ∀ w ∈ u_ws RX5 TX5 5, w ∈ wsX1_readTableColumns := (by decide +kernel)
  have iX1 : ∀ w ∈ u_ws RX1 TX1 4, w ∈ wsX1_readTableColumns := (by decide +kernel)
  have iX0 : ∀ w ∈ u_ws RX0 TX0 15, w ∈ wsX1_readTableColumns := (by decide +kernel)
  have k12 : Cond.fieldLink RX1 12 (TX1 0).1 (TX1 0).2.1 (TX1 0).2.2.1 ∈ wsX1_readTableColumns := List.mem_of_getElem? (i := 1) rfl
  have k71 : Cond.fieldLink RX1 71 (TX5 2).1 (TX5 2).2.1 (TX5 2).2.2.1 ∈ wsX1_readTableColumns := List.mem_of_getElem? (i := 2) rfl
  have k44 : Cond.fieldLink RX1 44 (TX1 3).1 (TX1 3).2.1 (TX1 3).2.2.1 ∈ wsX1_readTableColumns := List.mem_of_getElem? (i := 3) rfl
  have k29 : Cond.fieldLink RX1 29 (TX1 2).1 (TX1 2).2.1 (TX1 2).2.2.1 ∈ wsX1_readTableColumns := List.mem_of_getElem? (i := 4) rfl
  have k136 : Cond.fieldLink RX1 136 (TX0 2).1 (TX0 2).2.1 (TX0 2).2.2.1 ∈ wsX1_readTableColumns := List.mem_of_getElem? (i := 5) rfl
  refine lv_aload_n F.1 F.2.1 dX1_readTableColumns_0 rfl (lv_at hl 0 rfl) ?_
  refine z_iconst F dX1_readTableColumns_1 ?_
  refine g_calli (g_runV (As := [.int (iI 4)]) (rest := []) (ci := 1) F hl.1 hH hS hz (c_X1_isKindg l g gh q b n tl nr nt cl h I R J AI AJ AR a 4 ⟨by decide, by decide⟩ hv hp.1 (by first | exact hp.2.2.2.2.2.2.2 | exact hh | omega) hP) (cwV 1 F.2.2.2.2.1 gX1_readTableColumns_X1_isKind rfl rfl rfl hdX1_isKind ⟨Nat.le_of_ble_eq_true rfl, Nat.le_of_ble_eq_true rfl⟩) hp.1 (by decide) rfl rfl rfl (Nat.le_of_ble_eq_true rfl) dX1_readTableColumns_2 ⟨Nat.zero_le _, Nat.zero_le _⟩) hS (fun v_7 I_1 R_2 J_3 AI_4 AJ_5 AR_6 H locs zv_7 hp_8 hH hS => ?_)
  dsimp only at hp_8
  obtain ⟨rfl, rfl, rfl, rfl, rfl, rfl, q_9, q_10⟩ := hp_8
  refine z_if_ne (tgt := 10) F dX1_readTableColumns_5 (by decide) zv_7 (fun c_11 => ?_) (fun c_11 => ?_)
  · have t_12 := tIz_1 q_10 (by omega)
    refine lv_aload_n F.1 F.2.1 dX1_readTableColumns_10 rfl (lv_at hl 0 rfl) ?_
    refine g_getR (ci := 1) (k := 0) F hH rfl (by decide) iX1 hp.1 (by decide) rfl (b := gh 22 0) (gR_pr0 hv hp.1).1 k12 dX1_readTableColumns_11 ?_
    obtain ⟨r_13a, r_13b⟩ := gR_tk2 hv (gR_pr0 hv hp.1).2
    refine g_getR (ci := 5) (k := 2) F hH rfl (by decide) iX5 (gR_pr0 hv hp.1).2 (by decide) rfl (b := gh 26 0) r_13a k71 dX1_readTableColumns_14 ?_
    refine lv_aload_n F.1 F.2.1 dX1_readTableColumns_17 rfl (lv_at hl 0 rfl) ?_
    refine g_getI (ci := 1) (k := 3) F hH rfl (by decide) iX1 hp.1 (by decide) rfl k44 dX1_readTableColumns_18 ?_
    have b_14h := hp.2.2.2.2.2.2.2
    have b_14 := gI_pr hv hp.1
    have b_14t := gI_tk hv (gR_pr0 hv hp.1).2
    have hx21 : 0 ≤ ((I a 3).toInt) ∧ ((I a 3).toInt) < ((901 : Nat) : Int) ∧ ((I a 3).toInt) ≤ 2147483647 := ⟨by omega, by omega, by omega⟩
    refine g_iald F hH r_13b hx21.1 hx21.2.1 hx21.2.2 dX1_readTableColumns_21 ?_
    refine z_name (fun v_15 ev_15 => ?_)
    have zv_15 : zr v_15 := by rw [ev_15]; exact zr_t _
    have t21 : v_15 = pV b n (h) := by rw [ev_15]; exact pH_V hP
    refine lv_istore_n (lv' := [(1, .int (iI v_15)), (0, .ref a)]) F.1 F.2.1 dX1_readTableColumns_22 rfl hl (by decide) rfl (fun ls hl => ?_)
    refine lv_iload_n F.1 F.2.1 dX1_readTableColumns_23 rfl (lv_at hl 0 rfl) ?_
    refine z_iconst F dX1_readTableColumns_24 ?_
    refine z_icmp_lt (tgt := 33) F dX1_readTableColumns_25 (by decide) zv_15 ⟨by decide, by decide⟩ (fun c_16 => ?_) (fun c_16 => ?_)
    · refine z_iconst F dX1_readTableColumns_33 ?_
      have hfin : sTc b n h = (2, h, 0) := by
        unfold sTc
        repeat (first | with_reducible rfl | refine ite_y (by omega) ?_ | refine ite_n (by omega) ?_ | exact pr_e (by omega) (by omega) (by omega))
      exact g_iret F hr hlk hH hS hz ⟨by decide, by decide⟩ ⟨rfl, rfl, rfl, rfl, rfl, hv, hp, pf, by first | omega | rfl | (dsimp only; omega), by (try dsimp only); rw [hfin]; first | done | omega | rfl, by (try dsimp only); rw [hfin]; exact hP, by (try dsimp only); first | exact pIm_n (by omega) | (rw [hfin]; (try dsimp only); exact pIm_y (by first | omega | rfl)) | exact pIm_y (by omega), by (try dsimp only); omega⟩ dX1_readTableColumns_34
    · refine lv_iload_n F.1 F.2.1 dX1_readTableColumns_28 rfl (lv_at hl 0 rfl) ?_
      refine z_iconst F dX1_readTableColumns_29 ?_
      refine z_icmp_le (tgt := 35) F dX1_readTableColumns_30 (by decide) zv_15 ⟨by decide, by decide⟩ (fun c_17 => ?_) (fun c_17 => ?_)
      · refine lv_aload_n F.1 F.2.1 dX1_readTableColumns_35 rfl (lv_at hl 1 rfl) ?_
        refine g_getR (ci := 1) (k := 2) F hH rfl (by decide) iX1 hp.1 (by decide) rfl (b := ln) hp.2.2.2.1 k29 dX1_readTableColumns_36 ?_
        refine lv_iload_n F.1 F.2.1 dX1_readTableColumns_39 rfl (lv_at hl 0 rfl) ?_
        refine g_putI (ci := 0) (k := 2) F hH hS rfl (by decide) iX0 hp.2.2.2.2.1 (by decide) tyX0 tyX0_ok nmX0 rfl rfl rfl k136 dX1_readTableColumns_40 (fun H locs hH hS => ?_)
        obtain ⟨I_18, eI_18⟩ : ∃ qQ, qQ = gup2 I ln 2 (iI (v_15)) := ⟨_, rfl⟩
        rw [← eI_18] at hH
        have kI_18 : ∀ b, b ≠ ln → I_18 b = I b := fun b hb => by rw [eI_18]; exact funext fun j => gup2_a _ _ hb
        have hP := pH_ln hv hp hP kI_18
        have w_19 : (I_18 ln 2).toInt = v_15 := by rw [eI_18, gup2_s]; exact iI_val ⟨by omega, by omega⟩
        have hp2 : pS g gh R I_18 a q ln := pS_ln hv hp kI_18
        have hv : gInv g gh R AR I_18 AI := by rw [eI_18]; exact gInv_line2 hv hp.2.2.2.2.1 (by omega) (by omega) (pS_col hp)
        have hp := hp2
        have pf : pF a ln I I_18 := pF_t pf (by rw [eI_18]; exact pF_ln (by decide))
        have w_19_k : ∀ j, j ≠ 2 → I_18 ln j = I ln j := fun j hj => by rw [eI_18]; exact gup2_k _ _ hj
        have u_20q : (I_18 q 1).toInt = (I q 1).toInt := by rw [kI_18 q (gO_ne hp.2.2.1 hp.2.2.2.2.1 (by decide))]
        have u_20_0 : (I_18 ln 0).toInt = (I ln 0).toInt := by rw [w_19_k 0 (by decide)]
        have u_20_8 : (I_18 ln 8).toInt = (I ln 8).toInt := by rw [w_19_k 8 (by decide)]
        have u_21 : (I_18 ln 3).toInt = (I ln 3).toInt := by rw [w_19_k 3 (by decide)]
        have u_22 : (I_18 ln 4).toInt = (I ln 4).toInt := by rw [w_19_k 4 (by decide)]
        have u_23 : (I_18 ln 5).toInt = (I ln 5).toInt := by rw [w_19_k 5 (by decide)]
        have u_24 : (I_18 ln 6).toInt = (I ln 6).toInt := by rw [w_19_k 6 (by decide)]
        have u_25 : (I_18 ln 9).toInt = (I ln 9).toInt := by rw [w_19_k 9 (by decide)]
        have u_26 : (I_18 ln 10).toInt = (I ln 10).toInt := by rw [w_19_k 10 (by decide)]
        have u_27 : (I_18 ln 11).toInt = (I ln 11).toInt := by rw [w_19_k 11 (by decide)]
        have u_28 : (I_18 ln 12).toInt = (I ln 12).toInt := by rw [w_19_k 12 (by decide)]
        refine lv_aload_n F.1 F.2.1 dX1_readTableColumns_43 rfl (lv_at hl 1 rfl) ?_
        have hv0 := hv
        refine g_callv (g_runV (As := []) (rest := []) (ci := 1) F hl.1 hH hS hz (c_X1_stepg l g gh q b n tl nr nt cl h I_18 R J AI AJ AR a hv hp.1 (by first | exact hp.2.2.2.2.2.2.2 | exact hh | omega) hP (by first | exact hp.2.2.1 | exact hq) (by omega)) (cwV 0 F.2.2.2.2.1 gX1_readTableColumns_X1_step rfl rfl rfl hdX1_step ⟨Nat.le_of_ble_eq_true rfl, Nat.le_of_ble_eq_true rfl⟩) hp.1 (by decide) rfl rfl rfl (Nat.le_of_ble_eq_true rfl) dX1_readTableColumns_44 ⟨Nat.zero_le _, Nat.zero_le _⟩) hS (fun I_29 R_30 J_31 AI_32 AJ_33 AR_34 H locs hp_35 hH hS => ?_)
        dsimp only at hp_35
        obtain ⟨rfl, rfl, rfl, rfl, rfl, hv, fs, hs, hP⟩ := hp_35
        have hP : pH gh AR I_29 J AI AJ a q b n tl nr nt cl (h + 1) := hP
        obtain ⟨hp, pfq, fls⟩ := pS_step hv0 hp fs hs
        have pf := pF_t pf pfq
        have u_36q : (I_29 q 1).toInt = (I_18 q 1).toInt := by rw [pF_q hp pfq]
        have u_36_0 : (I_29 ln 0).toInt = (I_18 ln 0).toInt := by rw [fls]
        have u_36_8 : (I_29 ln 8).toInt = (I_18 ln 8).toInt := by rw [fls]
        have u_37 : (I_29 ln 2).toInt = (I_18 ln 2).toInt := by rw [fls]
        have u_38 : (I_29 ln 3).toInt = (I_18 ln 3).toInt := by rw [fls]
        have u_39 : (I_29 ln 4).toInt = (I_18 ln 4).toInt := by rw [fls]
        have u_40 : (I_29 ln 5).toInt = (I_18 ln 5).toInt := by rw [fls]
        have u_41 : (I_29 ln 6).toInt = (I_18 ln 6).toInt := by rw [fls]
        have u_42 : (I_29 ln 9).toInt = (I_18 ln 9).toInt := by rw [fls]
        have u_43 : (I_29 ln 10).toInt = (I_18 ln 10).toInt := by rw [fls]
        have u_44 : (I_29 ln 11).toInt = (I_18 ln 11).toInt := by rw [fls]
        have u_45 : (I_29 ln 12).toInt = (I_18 ln 12).toInt := by rw [fls]
        refine z_iconst F dX1_readTableColumns_47 ?_
        have hfin : sTc b n h = (0, h + 1, pV b n h) := by
          unfold sTc
          repeat (first | with_reducible rfl | refine ite_y (by omega) ?_ | refine ite_n (by omega) ?_ | exact pr_e (by omega) (by omega) (by omega))
        exact g_iret F hr hlk hH hS hz ⟨by decide, by decide⟩ ⟨rfl, rfl, rfl, rfl, rfl, hv, hp, pf, by first | omega | rfl | (dsimp only; omega), by (try dsimp only); rw [hfin]; first | done | omega | rfl, by (try dsimp only); rw [hfin]; exact hP, by (try dsimp only); first | exact pIm_n (by omega) | (rw [hfin]; (try dsimp only); exact pIm_y (by first | omega | rfl)) | exact pIm_y (by omega), by (try dsimp only); omega⟩ dX1_readTableColumns_48
      · refine z_iconst F dX1_readTableColumns_33 ?_
        have hfin : sTc b n h = (2, h, 0) := by
          unfold sTc
          repeat (first | with_reducible rfl | refine ite_y (by omega) ?_ | refine ite_n (by omega) ?_ | exact pr_e (by omega) (by omega) (by omega))
        exact g_iret F hr hlk hH hS hz ⟨by decide, by decide⟩ ⟨rfl, rfl, rfl, rfl, rfl, hv, hp, pf, by first | omega | rfl | (dsimp only; omega), by (try dsimp only); rw [hfin]; first | done | omega | rfl, by (try dsimp only); rw [hfin]; exact hP, by (try dsimp only); first | exact pIm_n (by omega) | (rw [hfin]; (try dsimp only); exact pIm_y (by first | omega | rfl)) | exact pIm_y (by omega), by (try dsimp only); omega⟩ dX1_readTableColumns_34
  · have t_46 := tIz_0 q_10 (by omega)
    refine z_iconst F dX1_readTableColumns_8 ?_
    have hfin : sTc b n h = (1, h, 0) := by
      unfold sTc
      repeat (first | with_reducible rfl | refine ite_y (by omega) ?_ | refine ite_n (by omega) ?_ | exact pr_e (by omega) (by omega) (by omega))
    exact g_iret F hr hlk hH hS hz ⟨by decide, by decide⟩ ⟨rfl, rfl, rfl, rfl, rfl, hv, hp, pf, by first | omega | rfl | (dsimp only; omega), by (try dsimp only); rw [hfin]; first | done | omega | rfl, by (try dsimp only); rw [hfin]; exact hP, by (try dsimp only); first | exact pIm_n (by omega) | (rw [hfin]; (try dsimp only); exact pIm_y (by first | omega | rfl)) | exact pIm_y (by omega), by (try dsimp only); omega⟩ dX1_readTableColumns_9
