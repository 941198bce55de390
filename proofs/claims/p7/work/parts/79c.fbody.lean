def rmX1_readSelectf : Room := { frames := 4, cells := 0, slots := 0, locals := 89 }
set_option maxHeartbeats 4000000 in
set_option maxRecDepth 100000 in
/-- a select -/
theorem c_X1_readSelectf (l : Launch) (g : gG) (gh : gGh) (q ln : Nat) (b : tTx) (n : Nat) (tl : Int) (nr : Nat) (nt : Nat → Nat) (cl : Nat → Int) (h : Nat) (I : gI) (R : gR) (J : gJ) (AI : gI) (AJ : gJ) (AR : gR) (a : Nat) (hv : gInv g gh R AR I AI) (hp : pS g gh R I a q ln) (hk : (I ln 0).toInt = 1) (hP : pH gh AR I J AI AJ a q b n tl nr nt cl h) (hk8 : (I ln 8).toInt = 0) : gMet l g yX1_readSelect wsX1_readSelect rmX1_readSelectf [.ref a] (I, R, J, AI, AJ, AR) (gQi g (fun (z : Int) (w : gS) => R = w.2.1 ∧ J = w.2.2.1 ∧ AJ = w.2.2.2.2.1 ∧ AR = w.2.2.2.2.2 ∧ (gInv g gh R AR (w.1) (w.2.2.2.1)) ∧ (pS g gh R (w.1) a q ln) ∧ (pF a ln I (w.1)) ∧ (0 ≤ z ∧ z ≤ 4) ∧ (z = (sSel b n nr nt cl h).1) ∧ (pH gh AR (w.1) J (w.2.2.2.1) AJ a q b n tl nr nt cl (sSel b n nr nt cl h).2.1) ∧ (pIm z (((w.1) ln 2).toInt) ((sSel b n nr nt cl h).2.2)))) := by
  refine gStart (cc := cX1_readSelect) (maxL := 2) (ret := (some (.int))) (by decide) rfl (Nat.le_of_ble_eq_true rfl) ?_
  intro p e s m below meth c ls F hr hlk hH hz hS hl
  have hl : lv_has ls 2 [(0, .ref a)] := hl
  have hS : va_S (gA g) s.heap s.heap [] := hS
  obtain ⟨H, hHe⟩ : ∃ H : Heap, H = s.heap := ⟨_, rfl⟩
  obtain ⟨locs, hlo⟩ : ∃ k : List Loc, k = [] := ⟨_, rfl⟩
  have hH : gH g I R J AI AJ AR H := by rw [hHe]; exact hH
  have hS : va_S (gA g) s.heap H locs := by rw [hHe, hlo]; exact hS
  suffices hw : W p l e rmX1_readSelectf s m ([.ref a] : List Value).toArray below meth c H locs 0 0 (MQ below (gQi g (fun (z : Int) (w : gS) => R = w.2.1 ∧ J = w.2.2.1 ∧ AJ = w.2.2.2.2.1 ∧ AR = w.2.2.2.2.2 ∧ (gInv g gh R AR (w.1) (w.2.2.2.1)) ∧ (pS g gh R (w.1) a q ln) ∧ (pF a ln I (w.1)) ∧ (0 ≤ z ∧ z ≤ 4) ∧ (z = (sSel b n nr nt cl h).1) ∧ (pH gh AR (w.1) J (w.2.2.2.1) AJ a q b n tl nr nt cl (sSel b n nr nt cl h).2.1) ∧ (pIm z (((w.1) ln 2).toInt) ((sSel b n nr nt cl h).2.2)))) ([.ref a] : List Value).toArray s 0 0 (gA g)) (F0 m 0 ls []) by
    rw [hHe, hlo] at hw; exact hw
  clear hHe hlo
  have pf : pF a ln I I := pF_r
  have iX1 : ∀ w ∈ u_ws RX1 TX1 4, w ∈ wsX1_readSelect := (by decide +kernel)
  have iX0 : ∀ w ∈ u_ws RX0 TX0 15, w ∈ wsX1_readSelect := (by decide +kernel)
  have k29 : Cond.fieldLink RX1 29 (TX1 2).1 (TX1 2).2.1 (TX1 2).2.2.1 ∈ wsX1_readSelect := List.mem_of_getElem? (i := 1) rfl
  have k143 : Cond.fieldLink RX1 143 (TX0 5).1 (TX0 5).2.1 (TX0 5).2.2.1 ∈ wsX1_readSelect := List.mem_of_getElem? (i := 2) rfl
  have k136 : Cond.fieldLink RX1 136 (TX0 2).1 (TX0 2).2.1 (TX0 2).2.2.1 ∈ wsX1_readSelect := List.mem_of_getElem? (i := 3) rfl
  refine lv_aload_n F.1 F.2.1 dX1_readSelect_0 rfl (lv_at hl 0 rfl) ?_
  refine g_calli (g_runV (As := []) (rest := []) (ci := 1) F hl.1 hH hS hz (c_X1_readFirstf l g gh q ln b n tl nr nt cl h I R J AI AJ AR a hv hp (by omega) hP) (cwV 0 F.2.2.2.2.1 gX1_readSelect_X1_readFirst rfl rfl rfl hdX1_readFirst ⟨Nat.le_of_ble_eq_true rfl, Nat.le_of_ble_eq_true rfl⟩) hp.1 (by decide) rfl rfl rfl (Nat.le_of_ble_eq_true rfl) dX1_readSelect_1 ⟨Nat.zero_le _, Nat.zero_le _⟩) hS (fun v_7 I_1 R_2 J_3 AI_4 AJ_5 AR_6 H locs zv_7 hp_8 hH hS => ?_)
  dsimp only at hp_8
  obtain ⟨r_9, er_9⟩ : ∃ qQ : pR, qQ = sRl b n nr nt cl h := ⟨_, rfl⟩
  rw [← er_9] at hp_8
  obtain ⟨rfl, rfl, rfl, rfl, rfl, hv, hp, pfq, k8q, q_10, q_11, hP, q_12, q_13⟩ := hp_8
  have pf := pF_t pf pfq
  have u_14q : (I_1 q 1).toInt = (I q 1).toInt := by rw [pF_q hp pfq]
  have u_14_0 : (I_1 ln 0).toInt = (I ln 0).toInt := by rw [pfq.2]
  have u_14_8 : (I_1 ln 8).toInt = (I ln 8).toInt := by rw [k8q]
  refine lv_istore_n (lv' := [(1, .int (iI v_7)), (0, .ref a)]) F.1 F.2.1 dX1_readSelect_4 rfl hl (by decide) rfl (fun ls hl => ?_)
  refine lv_iload_n F.1 F.2.1 dX1_readSelect_5 rfl (lv_at hl 0 rfl) ?_
  refine z_if_ne (tgt := 16) F dX1_readSelect_6 (by decide) zv_7 (fun c_15 => ?_) (fun c_15 => ?_)
  · refine lv_iload_n F.1 F.2.1 dX1_readSelect_16 rfl (lv_at hl 0 rfl) ?_
    refine z_if_ne (tgt := 25) F dX1_readSelect_17 (by decide) zv_7 (fun c_16 => ?_) (fun c_16 => ?_)
    · refine lv_aload_n F.1 F.2.1 dX1_readSelect_25 rfl (lv_at hl 1 rfl) ?_
      refine g_getR (ci := 1) (k := 2) F hH rfl (by decide) iX1 hp.1 (by decide) rfl (b := ln) hp.2.2.2.1 k29 dX1_readSelect_26 ?_
      refine lv_aload_n F.1 F.2.1 dX1_readSelect_29 rfl (lv_at hl 1 rfl) ?_
      refine g_getR (ci := 1) (k := 2) F hH rfl (by decide) iX1 hp.1 (by decide) rfl (b := ln) hp.2.2.2.1 k29 dX1_readSelect_30 ?_
      refine g_getI (ci := 0) (k := 5) F hH rfl (by decide) iX0 hp.2.2.2.2.1 (by decide) rfl k143 dX1_readSelect_33 ?_
      have b_17 := gI_line hv hp.2.2.2.2.1
      unfold vLineI at b_17
      refine g_putI (ci := 0) (k := 2) F hH hS rfl (by decide) iX0 hp.2.2.2.2.1 (by decide) tyX0 tyX0_ok nmX0 rfl rfl rfl k136 dX1_readSelect_36 (fun H locs hH hS => ?_)
      obtain ⟨I_18, eI_18⟩ : ∃ qQ, qQ = gup2 I_1 ln 2 (iI ((I_1 ln 5).toInt)) := ⟨_, rfl⟩
      rw [← eI_18] at hH
      have kI_18 : ∀ b, b ≠ ln → I_18 b = I_1 b := fun b hb => by rw [eI_18]; exact funext fun j => gup2_a _ _ hb
      have hP := pH_ln hv hp hP kI_18
      have w_19 : (I_18 ln 2).toInt = (I_1 ln 5).toInt := by rw [eI_18, gup2_s]; exact iI_val ⟨by omega, by omega⟩
      have hp2 : pS g gh R I_18 a q ln := pS_ln hv hp kI_18
      have hv : gInv g gh R AR I_18 AI := by rw [eI_18]; exact gInv_line2 hv hp.2.2.2.2.1 (by omega) (by omega) (pS_col hp)
      have hp := hp2
      have pf : pF a ln I I_18 := pF_t pf (by rw [eI_18]; exact pF_ln (by decide))
      have w_19_k : ∀ j, j ≠ 2 → I_18 ln j = I_1 ln j := fun j hj => by rw [eI_18]; exact gup2_k _ _ hj
      have u_20q : (I_18 q 1).toInt = (I_1 q 1).toInt := by rw [kI_18 q (gO_ne hp.2.2.1 hp.2.2.2.2.1 (by decide))]
      have u_20_0 : (I_18 ln 0).toInt = (I_1 ln 0).toInt := by rw [w_19_k 0 (by decide)]
      have u_20_8 : (I_18 ln 8).toInt = (I_1 ln 8).toInt := by rw [w_19_k 8 (by decide)]
      have u_21 : (I_18 ln 5).toInt = (I_1 ln 5).toInt := by rw [w_19_k 5 (by decide)]
      have u_22 : (I_18 ln 6).toInt = (I_1 ln 6).toInt := by rw [w_19_k 6 (by decide)]
      have u_23 : (I_18 ln 9).toInt = (I_1 ln 9).toInt := by rw [w_19_k 9 (by decide)]
      have u_24 : (I_18 ln 10).toInt = (I_1 ln 10).toInt := by rw [w_19_k 10 (by decide)]
      refine lv_iload_n F.1 F.2.1 dX1_readSelect_39 rfl (lv_at hl 0 rfl) ?_
      have hfin : sSel b n nr nt cl h = r_9 := by
        unfold sSel
        repeat (first | with_reducible rfl | refine ite_y (by omega) ?_ | refine ite_n (by omega) ?_ | exact er_9.symm | exact thn_x er_9 (by omega) | exact pr_e (by omega) (by omega) (by omega))
      exact g_iret F hr hlk hH hS hz zv_7 ⟨rfl, rfl, rfl, rfl, hv, hp, pf, by first | omega | rfl | (dsimp only; omega), by (try dsimp only); rw [hfin]; first | done | omega | rfl, by (try dsimp only); rw [hfin]; exact hP, by (try dsimp only); first | exact pIm_n (by omega) | (rw [hfin]; (try dsimp only); exact pIm_y (by first | omega | rfl)) | exact pIm_y (by omega) | (rw [hfin]; (try dsimp only); exact fun h9 => by have q9 := q_13 h9; (try dsimp only at q9); omega)⟩ dX1_readSelect_40
    · exact absurd trivial (by omega)
  · have t_25 := q_13 (by omega)
    refine lv_aload_n F.1 F.2.1 dX1_readSelect_9 rfl (lv_at hl 1 rfl) ?_
    refine z_bipush F dX1_readSelect_10 (by decide) ?_
    refine g_calli (g_runV (As := [.int (iI 10)]) (rest := []) (ci := 1) F hl.1 hH hS hz (c_X1_takeWordf l g gh q ln b n tl nr nt cl r_9.2.1 I_1 R J AI AJ AR a 10 ⟨by decide, by decide⟩ hv hp hP) (cwV 1 F.2.2.2.2.1 gX1_readSelect_X1_takeWord rfl rfl rfl hdX1_takeWord ⟨Nat.le_of_ble_eq_true rfl, Nat.le_of_ble_eq_true rfl⟩) hp.1 (by decide) rfl rfl rfl (Nat.le_of_ble_eq_true rfl) dX1_readSelect_12 ⟨Nat.zero_le _, Nat.zero_le _⟩) hS (fun v_32 I_26 R_27 J_28 AI_29 AJ_30 AR_31 H locs zv_32 hp_33 hH hS => ?_)
    dsimp only at hp_33
    obtain ⟨r_34, er_34⟩ : ∃ qQ : pR, qQ = sTw b n 10 r_9.2.1 := ⟨_, rfl⟩
    rw [← er_34] at hp_33
    obtain ⟨rfl, rfl, rfl, rfl, rfl, hv, hp, pfq, flq, q_35, q_36, hP⟩ := hp_33
    have pf := pF_t pf pfq
    have u_37q : (I_26 q 1).toInt = (I_1 q 1).toInt := by rw [pF_q hp pfq]
    have u_37_0 : (I_26 ln 0).toInt = (I_1 ln 0).toInt := by rw [pfq.2]
    have u_37_8 : (I_26 ln 8).toInt = (I_1 ln 8).toInt := by rw [flq]
    have u_38 : (I_26 ln 2).toInt = (I_1 ln 2).toInt := by rw [flq]
    have u_39 : (I_26 ln 5).toInt = (I_1 ln 5).toInt := by rw [flq]
    have u_40 : (I_26 ln 6).toInt = (I_1 ln 6).toInt := by rw [flq]
    have u_41 : (I_26 ln 9).toInt = (I_1 ln 9).toInt := by rw [flq]
    have u_42 : (I_26 ln 10).toInt = (I_1 ln 10).toInt := by rw [flq]
    refine lv_istore_n (lv' := [(1, .int (iI v_32)), (0, .ref a)]) F.1 F.2.1 dX1_readSelect_15 rfl hl (by decide) rfl (fun ls hl => ?_)
    refine lv_iload_n F.1 F.2.1 dX1_readSelect_16 rfl (lv_at hl 0 rfl) ?_
    refine z_if_ne (tgt := 25) F dX1_readSelect_17 (by decide) zv_32 (fun c_43 => ?_) (fun c_43 => ?_)
    · refine lv_aload_n F.1 F.2.1 dX1_readSelect_25 rfl (lv_at hl 1 rfl) ?_
      refine g_getR (ci := 1) (k := 2) F hH rfl (by decide) iX1 hp.1 (by decide) rfl (b := ln) hp.2.2.2.1 k29 dX1_readSelect_26 ?_
      refine lv_aload_n F.1 F.2.1 dX1_readSelect_29 rfl (lv_at hl 1 rfl) ?_
      refine g_getR (ci := 1) (k := 2) F hH rfl (by decide) iX1 hp.1 (by decide) rfl (b := ln) hp.2.2.2.1 k29 dX1_readSelect_30 ?_
      refine g_getI (ci := 0) (k := 5) F hH rfl (by decide) iX0 hp.2.2.2.2.1 (by decide) rfl k143 dX1_readSelect_33 ?_
      have b_44 := gI_line hv hp.2.2.2.2.1
      unfold vLineI at b_44
      refine g_putI (ci := 0) (k := 2) F hH hS rfl (by decide) iX0 hp.2.2.2.2.1 (by decide) tyX0 tyX0_ok nmX0 rfl rfl rfl k136 dX1_readSelect_36 (fun H locs hH hS => ?_)
      obtain ⟨I_45, eI_45⟩ : ∃ qQ, qQ = gup2 I_26 ln 2 (iI ((I_26 ln 5).toInt)) := ⟨_, rfl⟩
      rw [← eI_45] at hH
      have kI_45 : ∀ b, b ≠ ln → I_45 b = I_26 b := fun b hb => by rw [eI_45]; exact funext fun j => gup2_a _ _ hb
      have hP := pH_ln hv hp hP kI_45
      have w_46 : (I_45 ln 2).toInt = (I_26 ln 5).toInt := by rw [eI_45, gup2_s]; exact iI_val ⟨by omega, by omega⟩
      have hp2 : pS g gh R I_45 a q ln := pS_ln hv hp kI_45
      have hv : gInv g gh R AR I_45 AI := by rw [eI_45]; exact gInv_line2 hv hp.2.2.2.2.1 (by omega) (by omega) (pS_col hp)
      have hp := hp2
      have pf : pF a ln I I_45 := pF_t pf (by rw [eI_45]; exact pF_ln (by decide))
      have w_46_k : ∀ j, j ≠ 2 → I_45 ln j = I_26 ln j := fun j hj => by rw [eI_45]; exact gup2_k _ _ hj
      have u_47q : (I_45 q 1).toInt = (I_26 q 1).toInt := by rw [kI_45 q (gO_ne hp.2.2.1 hp.2.2.2.2.1 (by decide))]
      have u_47_0 : (I_45 ln 0).toInt = (I_26 ln 0).toInt := by rw [w_46_k 0 (by decide)]
      have u_47_8 : (I_45 ln 8).toInt = (I_26 ln 8).toInt := by rw [w_46_k 8 (by decide)]
      have u_48 : (I_45 ln 5).toInt = (I_26 ln 5).toInt := by rw [w_46_k 5 (by decide)]
      have u_49 : (I_45 ln 6).toInt = (I_26 ln 6).toInt := by rw [w_46_k 6 (by decide)]
      have u_50 : (I_45 ln 9).toInt = (I_26 ln 9).toInt := by rw [w_46_k 9 (by decide)]
      have u_51 : (I_45 ln 10).toInt = (I_26 ln 10).toInt := by rw [w_46_k 10 (by decide)]
      refine lv_iload_n F.1 F.2.1 dX1_readSelect_39 rfl (lv_at hl 0 rfl) ?_
      have hfin : sSel b n nr nt cl h = r_34 := by
        unfold sSel
        repeat (first | with_reducible rfl | refine ite_y (by omega) ?_ | refine ite_n (by omega) ?_ | exact er_34.symm | exact thn_x er_34 (by omega) | refine thn_y er_9 (by omega) ?_ | exact pr_e (by omega) (by omega) (by omega))
      exact g_iret F hr hlk hH hS hz zv_32 ⟨rfl, rfl, rfl, rfl, hv, hp, pf, by first | omega | rfl | (dsimp only; omega), by (try dsimp only); rw [hfin]; first | done | omega | rfl, by (try dsimp only); rw [hfin]; exact hP, by (try dsimp only); first | exact pIm_n (by omega) | (rw [hfin]; (try dsimp only); exact pIm_y (by first | omega | rfl)) | exact pIm_y (by omega)⟩ dX1_readSelect_40
    · refine lv_aload_n F.1 F.2.1 dX1_readSelect_20 rfl (lv_at hl 1 rfl) ?_
      refine g_calli (g_runV (As := []) (rest := []) (ci := 1) F hl.1 hH hS hz (c_X1_readTestsf l g gh q ln r_9.2.2 b n tl nr nt cl r_34.2.1 I_26 R J AI AJ AR a hv hp (by omega) hP (by omega) (by omega)) (cwV 0 F.2.2.2.2.1 gX1_readSelect_X1_readTests rfl rfl rfl hdX1_readTests ⟨Nat.le_of_ble_eq_true rfl, Nat.le_of_ble_eq_true rfl⟩) hp.1 (by decide) rfl rfl rfl (Nat.le_of_ble_eq_true rfl) dX1_readSelect_21 ⟨Nat.zero_le _, Nat.zero_le _⟩) hS (fun v_58 I_52 R_53 J_54 AI_55 AJ_56 AR_57 H locs zv_58 hp_59 hH hS => ?_)
      dsimp only at hp_59
      obtain ⟨r_60, er_60⟩ : ∃ qQ : pR, qQ = sTests b n r_9.2.2 9 0 r_34.2.1 := ⟨_, rfl⟩
      rw [← er_60] at hp_59
      obtain ⟨rfl, rfl, rfl, rfl, hv, hp, pfq, q_61, q_62, hP, q_63, q_64⟩ := hp_59
      have pf := pF_t pf pfq
      have u_65q : (I_52 q 1).toInt = (I_26 q 1).toInt := by rw [pF_q hp pfq]
      have u_65_0 : (I_52 ln 0).toInt = (I_26 ln 0).toInt := by rw [pfq.2]
      refine lv_istore_n (lv' := [(1, .int (iI v_58)), (0, .ref a)]) F.1 F.2.1 dX1_readSelect_24 rfl hl (by decide) rfl (fun ls hl => ?_)
      refine lv_aload_n F.1 F.2.1 dX1_readSelect_25 rfl (lv_at hl 1 rfl) ?_
      refine g_getR (ci := 1) (k := 2) F hH rfl (by decide) iX1 hp.1 (by decide) rfl (b := ln) hp.2.2.2.1 k29 dX1_readSelect_26 ?_
      refine lv_aload_n F.1 F.2.1 dX1_readSelect_29 rfl (lv_at hl 1 rfl) ?_
      refine g_getR (ci := 1) (k := 2) F hH rfl (by decide) iX1 hp.1 (by decide) rfl (b := ln) hp.2.2.2.1 k29 dX1_readSelect_30 ?_
      refine g_getI (ci := 0) (k := 5) F hH rfl (by decide) iX0 hp.2.2.2.2.1 (by decide) rfl k143 dX1_readSelect_33 ?_
      have b_66 := gI_line hv hp.2.2.2.2.1
      unfold vLineI at b_66
      refine g_putI (ci := 0) (k := 2) F hH hS rfl (by decide) iX0 hp.2.2.2.2.1 (by decide) tyX0 tyX0_ok nmX0 rfl rfl rfl k136 dX1_readSelect_36 (fun H locs hH hS => ?_)
      obtain ⟨I_67, eI_67⟩ : ∃ qQ, qQ = gup2 I_52 ln 2 (iI ((I_52 ln 5).toInt)) := ⟨_, rfl⟩
      rw [← eI_67] at hH
      have kI_67 : ∀ b, b ≠ ln → I_67 b = I_52 b := fun b hb => by rw [eI_67]; exact funext fun j => gup2_a _ _ hb
      have hP := pH_ln hv hp hP kI_67
      have w_68 : (I_67 ln 2).toInt = (I_52 ln 5).toInt := by rw [eI_67, gup2_s]; exact iI_val ⟨by omega, by omega⟩
      have hp2 : pS g gh R I_67 a q ln := pS_ln hv hp kI_67
      have hv : gInv g gh R AR I_67 AI_55 := by rw [eI_67]; exact gInv_line2 hv hp.2.2.2.2.1 (by omega) (by omega) (pS_col hp)
      have hp := hp2
      have pf : pF a ln I I_67 := pF_t pf (by rw [eI_67]; exact pF_ln (by decide))
      have w_68_k : ∀ j, j ≠ 2 → I_67 ln j = I_52 ln j := fun j hj => by rw [eI_67]; exact gup2_k _ _ hj
      have u_69q : (I_67 q 1).toInt = (I_52 q 1).toInt := by rw [kI_67 q (gO_ne hp.2.2.1 hp.2.2.2.2.1 (by decide))]
      have u_69_0 : (I_67 ln 0).toInt = (I_52 ln 0).toInt := by rw [w_68_k 0 (by decide)]
      have u_69_8 : (I_67 ln 8).toInt = (I_52 ln 8).toInt := by rw [w_68_k 8 (by decide)]
      have u_70 : (I_67 ln 5).toInt = (I_52 ln 5).toInt := by rw [w_68_k 5 (by decide)]
      have u_71 : (I_67 ln 6).toInt = (I_52 ln 6).toInt := by rw [w_68_k 6 (by decide)]
      have u_72 : (I_67 ln 9).toInt = (I_52 ln 9).toInt := by rw [w_68_k 9 (by decide)]
      have u_73 : (I_67 ln 10).toInt = (I_52 ln 10).toInt := by rw [w_68_k 10 (by decide)]
      refine lv_iload_n F.1 F.2.1 dX1_readSelect_39 rfl (lv_at hl 0 rfl) ?_
      have hfin : sSel b n nr nt cl h = r_60 := by
        unfold sSel
        repeat (first | with_reducible rfl | refine ite_y (by omega) ?_ | refine ite_n (by omega) ?_ | exact er_60.symm | exact thn_x er_60 (by omega) | refine thn_y er_9 (by omega) ?_ | refine thn_y er_34 (by omega) ?_ | exact pr_e (by omega) (by omega) (by omega))
      exact g_iret F hr hlk hH hS hz zv_58 ⟨rfl, rfl, rfl, rfl, hv, hp, pf, by first | omega | rfl | (dsimp only; omega), by (try dsimp only); rw [hfin]; first | done | omega | rfl, by (try dsimp only); rw [hfin]; exact hP, by (try dsimp only); first | exact pIm_n (by omega) | (rw [hfin]; (try dsimp only); exact pIm_y (by first | omega | rfl)) | exact pIm_y (by omega) | (rw [hfin]; (try dsimp only); exact fun h9 => by have q9 := q_64 h9; (try dsimp only at q9); omega)⟩ dX1_readSelect_40

def rmX1_readProjectf : Room := { frames := 4, cells := 0, slots := 0, locals := 90 }
set_option maxHeartbeats 4000000 in
set_option maxRecDepth 100000 in
/-- a project -/
theorem c_X1_readProjectf (l : Launch) (g : gG) (gh : gGh) (q ln : Nat) (b : tTx) (n : Nat) (tl : Int) (nr : Nat) (nt : Nat → Nat) (cl : Nat → Int) (h : Nat) (I : gI) (R : gR) (J : gJ) (AI : gI) (AJ : gJ) (AR : gR) (a : Nat) (hv : gInv g gh R AR I AI) (hp : pS g gh R I a q ln) (hk : (I ln 0).toInt = 2) (hP : pH gh AR I J AI AJ a q b n tl nr nt cl h) (hk8 : (I ln 8).toInt = 0) : gMet l g yX1_readProject wsX1_readProject rmX1_readProjectf [.ref a] (I, R, J, AI, AJ, AR) (gQi g (fun (z : Int) (w : gS) => R = w.2.1 ∧ J = w.2.2.1 ∧ AJ = w.2.2.2.2.1 ∧ AR = w.2.2.2.2.2 ∧ (gInv g gh R AR (w.1) (w.2.2.2.1)) ∧ (pS g gh R (w.1) a q ln) ∧ (pF a ln I (w.1)) ∧ (0 ≤ z ∧ z ≤ 4) ∧ (z = (sPrj b n nr nt cl h).1) ∧ (pH gh AR (w.1) J (w.2.2.2.1) AJ a q b n tl nr nt cl (sPrj b n nr nt cl h).2.1) ∧ (pIm z (((w.1) ln 2).toInt) ((sPrj b n nr nt cl h).2.2)))) := by
  refine gStart (cc := cX1_readProject) (maxL := 2) (ret := (some (.int))) (by decide) rfl (Nat.le_of_ble_eq_true rfl) ?_
  intro p e s m below meth c ls F hr hlk hH hz hS hl
  have hl : lv_has ls 2 [(0, .ref a)] := hl
  have hS : va_S (gA g) s.heap s.heap [] := hS
  obtain ⟨H, hHe⟩ : ∃ H : Heap, H = s.heap := ⟨_, rfl⟩
  obtain ⟨locs, hlo⟩ : ∃ k : List Loc, k = [] := ⟨_, rfl⟩
  have hH : gH g I R J AI AJ AR H := by rw [hHe]; exact hH
  have hS : va_S (gA g) s.heap H locs := by rw [hHe, hlo]; exact hS
  suffices hw : W p l e rmX1_readProjectf s m ([.ref a] : List Value).toArray below meth c H locs 0 0 (MQ below (gQi g (fun (z : Int) (w : gS) => R = w.2.1 ∧ J = w.2.2.1 ∧ AJ = w.2.2.2.2.1 ∧ AR = w.2.2.2.2.2 ∧ (gInv g gh R AR (w.1) (w.2.2.2.1)) ∧ (pS g gh R (w.1) a q ln) ∧ (pF a ln I (w.1)) ∧ (0 ≤ z ∧ z ≤ 4) ∧ (z = (sPrj b n nr nt cl h).1) ∧ (pH gh AR (w.1) J (w.2.2.2.1) AJ a q b n tl nr nt cl (sPrj b n nr nt cl h).2.1) ∧ (pIm z (((w.1) ln 2).toInt) ((sPrj b n nr nt cl h).2.2)))) ([.ref a] : List Value).toArray s 0 0 (gA g)) (F0 m 0 ls []) by
    rw [hHe, hlo] at hw; exact hw
  clear hHe hlo
  have pf : pF a ln I I := pF_r
  have iX1 : ∀ w ∈ u_ws RX1 TX1 4, w ∈ wsX1_readProject := (by decide +kernel)
  have iX0 : ∀ w ∈ u_ws RX0 TX0 15, w ∈ wsX1_readProject := (by decide +kernel)
  have k29 : Cond.fieldLink RX1 29 (TX1 2).1 (TX1 2).2.1 (TX1 2).2.2.1 ∈ wsX1_readProject := List.mem_of_getElem? (i := 1) rfl
  have k143 : Cond.fieldLink RX1 143 (TX0 5).1 (TX0 5).2.1 (TX0 5).2.2.1 ∈ wsX1_readProject := List.mem_of_getElem? (i := 2) rfl
  have k149 : Cond.fieldLink RX1 149 (TX0 8).1 (TX0 8).2.1 (TX0 8).2.2.1 ∈ wsX1_readProject := List.mem_of_getElem? (i := 3) rfl
  have k136 : Cond.fieldLink RX1 136 (TX0 2).1 (TX0 2).2.1 (TX0 2).2.2.1 ∈ wsX1_readProject := List.mem_of_getElem? (i := 4) rfl
  refine lv_aload_n F.1 F.2.1 dX1_readProject_0 rfl (lv_at hl 0 rfl) ?_
  refine g_calli (g_runV (As := []) (rest := []) (ci := 1) F hl.1 hH hS hz (c_X1_readFirstf l g gh q ln b n tl nr nt cl h I R J AI AJ AR a hv hp (by omega) hP) (cwV 0 F.2.2.2.2.1 gX1_readProject_X1_readFirst rfl rfl rfl hdX1_readFirst ⟨Nat.le_of_ble_eq_true rfl, Nat.le_of_ble_eq_true rfl⟩) hp.1 (by decide) rfl rfl rfl (Nat.le_of_ble_eq_true rfl) dX1_readProject_1 ⟨Nat.zero_le _, Nat.zero_le _⟩) hS (fun v_7 I_1 R_2 J_3 AI_4 AJ_5 AR_6 H locs zv_7 hp_8 hH hS => ?_)
  dsimp only at hp_8
  obtain ⟨r_9, er_9⟩ : ∃ qQ : pR, qQ = sRl b n nr nt cl h := ⟨_, rfl⟩
  rw [← er_9] at hp_8
  obtain ⟨rfl, rfl, rfl, rfl, rfl, hv, hp, pfq, k8q, q_10, q_11, hP, q_12, q_13⟩ := hp_8
  have pf := pF_t pf pfq
  have u_14q : (I_1 q 1).toInt = (I q 1).toInt := by rw [pF_q hp pfq]
  have u_14_0 : (I_1 ln 0).toInt = (I ln 0).toInt := by rw [pfq.2]
  have u_14_8 : (I_1 ln 8).toInt = (I ln 8).toInt := by rw [k8q]
  refine lv_istore_n (lv' := [(1, .int (iI v_7)), (0, .ref a)]) F.1 F.2.1 dX1_readProject_4 rfl hl (by decide) rfl (fun ls hl => ?_)
  refine lv_iload_n F.1 F.2.1 dX1_readProject_5 rfl (lv_at hl 0 rfl) ?_
  refine z_if_ne (tgt := 21) F dX1_readProject_6 (by decide) zv_7 (fun c_15 => ?_) (fun c_15 => ?_)
  · refine lv_aload_n F.1 F.2.1 dX1_readProject_21 rfl (lv_at hl 1 rfl) ?_
    refine g_getR (ci := 1) (k := 2) F hH rfl (by decide) iX1 hp.1 (by decide) rfl (b := ln) hp.2.2.2.1 k29 dX1_readProject_22 ?_
    refine lv_aload_n F.1 F.2.1 dX1_readProject_25 rfl (lv_at hl 1 rfl) ?_
    refine g_getR (ci := 1) (k := 2) F hH rfl (by decide) iX1 hp.1 (by decide) rfl (b := ln) hp.2.2.2.1 k29 dX1_readProject_26 ?_
    refine g_getI (ci := 0) (k := 8) F hH rfl (by decide) iX0 hp.2.2.2.2.1 (by decide) rfl k149 dX1_readProject_29 ?_
    have b_16 := gI_line hv hp.2.2.2.2.1
    unfold vLineI at b_16
    refine g_putI (ci := 0) (k := 2) F hH hS rfl (by decide) iX0 hp.2.2.2.2.1 (by decide) tyX0 tyX0_ok nmX0 rfl rfl rfl k136 dX1_readProject_32 (fun H locs hH hS => ?_)
    obtain ⟨I_17, eI_17⟩ : ∃ qQ, qQ = gup2 I_1 ln 2 (iI ((I_1 ln 8).toInt)) := ⟨_, rfl⟩
    rw [← eI_17] at hH
    have kI_17 : ∀ b, b ≠ ln → I_17 b = I_1 b := fun b hb => by rw [eI_17]; exact funext fun j => gup2_a _ _ hb
    have hP := pH_ln hv hp hP kI_17
    have w_18 : (I_17 ln 2).toInt = (I_1 ln 8).toInt := by rw [eI_17, gup2_s]; exact iI_val ⟨by omega, by omega⟩
    have hp2 : pS g gh R I_17 a q ln := pS_ln hv hp kI_17
    have hv : gInv g gh R AR I_17 AI := by rw [eI_17]; exact gInv_line2 hv hp.2.2.2.2.1 (by omega) (by omega) (pS_col hp)
    have hp := hp2
    have pf : pF a ln I I_17 := pF_t pf (by rw [eI_17]; exact pF_ln (by decide))
    have w_18_k : ∀ j, j ≠ 2 → I_17 ln j = I_1 ln j := fun j hj => by rw [eI_17]; exact gup2_k _ _ hj
    have u_19q : (I_17 q 1).toInt = (I_1 q 1).toInt := by rw [kI_17 q (gO_ne hp.2.2.1 hp.2.2.2.2.1 (by decide))]
    have u_19_0 : (I_17 ln 0).toInt = (I_1 ln 0).toInt := by rw [w_18_k 0 (by decide)]
    have u_19_8 : (I_17 ln 8).toInt = (I_1 ln 8).toInt := by rw [w_18_k 8 (by decide)]
    have u_20 : (I_17 ln 5).toInt = (I_1 ln 5).toInt := by rw [w_18_k 5 (by decide)]
    have u_21 : (I_17 ln 6).toInt = (I_1 ln 6).toInt := by rw [w_18_k 6 (by decide)]
    have u_22 : (I_17 ln 9).toInt = (I_1 ln 9).toInt := by rw [w_18_k 9 (by decide)]
    have u_23 : (I_17 ln 10).toInt = (I_1 ln 10).toInt := by rw [w_18_k 10 (by decide)]
    refine lv_iload_n F.1 F.2.1 dX1_readProject_35 rfl (lv_at hl 0 rfl) ?_
    have hfin : sPrj b n nr nt cl h = r_9 := by
      unfold sPrj
      repeat (first | with_reducible rfl | refine ite_y (by omega) ?_ | refine ite_n (by omega) ?_ | exact er_9.symm | exact thn_x er_9 (by omega) | exact pr_e (by omega) (by omega) (by omega))
    exact g_iret F hr hlk hH hS hz zv_7 ⟨rfl, rfl, rfl, rfl, hv, hp, pf, by first | omega | rfl | (dsimp only; omega), by (try dsimp only); rw [hfin]; first | done | omega | rfl, by (try dsimp only); rw [hfin]; exact hP, by (try dsimp only); first | exact pIm_n (by omega) | (rw [hfin]; (try dsimp only); exact pIm_y (by first | omega | rfl)) | exact pIm_y (by omega) | (rw [hfin]; (try dsimp only); exact fun h9 => by have q9 := q_13 h9; (try dsimp only at q9); omega)⟩ dX1_readProject_36
  · have t_24 := q_13 (by omega)
    refine lv_aload_n F.1 F.2.1 dX1_readProject_9 rfl (lv_at hl 1 rfl) ?_
    refine lv_aload_n F.1 F.2.1 dX1_readProject_10 rfl (lv_at hl 1 rfl) ?_
    refine g_getR (ci := 1) (k := 2) F hH rfl (by decide) iX1 hp.1 (by decide) rfl (b := ln) hp.2.2.2.1 k29 dX1_readProject_11 ?_
    refine g_getI (ci := 0) (k := 5) F hH rfl (by decide) iX0 hp.2.2.2.2.1 (by decide) rfl k143 dX1_readProject_14 ?_
    have b_25 := gI_line hv hp.2.2.2.2.1
    unfold vLineI at b_25
    refine g_calli (g_runV (As := [.int (iI ((I_1 ln 5).toInt))]) (rest := []) (ci := 1) F hl.1 hH hS hz (c_X1_readTermsf l g gh q ln b n tl nr nt cl r_9.2.1 I_1 R J AI AJ AR a ((I_1 ln 5).toInt) (zr_t _) hv hp (by omega) hP (by omega)) (cwV 1 F.2.2.2.2.1 gX1_readProject_X1_readTerms rfl rfl rfl hdX1_readTerms ⟨Nat.le_of_ble_eq_true rfl, Nat.le_of_ble_eq_true rfl⟩) hp.1 (by decide) rfl rfl rfl (Nat.le_of_ble_eq_true rfl) dX1_readProject_17 ⟨Nat.zero_le _, Nat.zero_le _⟩) hS (fun v_32 I_26 R_27 J_28 AI_29 AJ_30 AR_31 H locs zv_32 hp_33 hH hS => ?_)
    dsimp only at hp_33
    rw [show (I_1 ln 5).toInt = r_9.2.2 by omega] at hp_33
    obtain ⟨r_34, er_34⟩ : ∃ qQ : pR, qQ = sTerms b n r_9.2.2 5 0 r_9.2.1 := ⟨_, rfl⟩
    rw [← er_34] at hp_33
    obtain ⟨rfl, rfl, rfl, rfl, hv, hp, pfq, q_35, q_36, hP, q_37, q_38⟩ := hp_33
    have pf := pF_t pf pfq
    have u_39q : (I_26 q 1).toInt = (I_1 q 1).toInt := by rw [pF_q hp pfq]
    have u_39_0 : (I_26 ln 0).toInt = (I_1 ln 0).toInt := by rw [pfq.2]
    refine lv_istore_n (lv' := [(1, .int (iI v_32)), (0, .ref a)]) F.1 F.2.1 dX1_readProject_20 rfl hl (by decide) rfl (fun ls hl => ?_)
    refine lv_aload_n F.1 F.2.1 dX1_readProject_21 rfl (lv_at hl 1 rfl) ?_
    refine g_getR (ci := 1) (k := 2) F hH rfl (by decide) iX1 hp.1 (by decide) rfl (b := ln) hp.2.2.2.1 k29 dX1_readProject_22 ?_
    refine lv_aload_n F.1 F.2.1 dX1_readProject_25 rfl (lv_at hl 1 rfl) ?_
    refine g_getR (ci := 1) (k := 2) F hH rfl (by decide) iX1 hp.1 (by decide) rfl (b := ln) hp.2.2.2.1 k29 dX1_readProject_26 ?_
    refine g_getI (ci := 0) (k := 8) F hH rfl (by decide) iX0 hp.2.2.2.2.1 (by decide) rfl k149 dX1_readProject_29 ?_
    have b_40 := gI_line hv hp.2.2.2.2.1
    unfold vLineI at b_40
    refine g_putI (ci := 0) (k := 2) F hH hS rfl (by decide) iX0 hp.2.2.2.2.1 (by decide) tyX0 tyX0_ok nmX0 rfl rfl rfl k136 dX1_readProject_32 (fun H locs hH hS => ?_)
    obtain ⟨I_41, eI_41⟩ : ∃ qQ, qQ = gup2 I_26 ln 2 (iI ((I_26 ln 8).toInt)) := ⟨_, rfl⟩
    rw [← eI_41] at hH
    have kI_41 : ∀ b, b ≠ ln → I_41 b = I_26 b := fun b hb => by rw [eI_41]; exact funext fun j => gup2_a _ _ hb
    have hP := pH_ln hv hp hP kI_41
    have w_42 : (I_41 ln 2).toInt = (I_26 ln 8).toInt := by rw [eI_41, gup2_s]; exact iI_val ⟨by omega, by omega⟩
    have hp2 : pS g gh R I_41 a q ln := pS_ln hv hp kI_41
    have hv : gInv g gh R AR I_41 AI_29 := by rw [eI_41]; exact gInv_line2 hv hp.2.2.2.2.1 (by omega) (by omega) (pS_col hp)
    have hp := hp2
    have pf : pF a ln I I_41 := pF_t pf (by rw [eI_41]; exact pF_ln (by decide))
    have w_42_k : ∀ j, j ≠ 2 → I_41 ln j = I_26 ln j := fun j hj => by rw [eI_41]; exact gup2_k _ _ hj
    have u_43q : (I_41 q 1).toInt = (I_26 q 1).toInt := by rw [kI_41 q (gO_ne hp.2.2.1 hp.2.2.2.2.1 (by decide))]
    have u_43_0 : (I_41 ln 0).toInt = (I_26 ln 0).toInt := by rw [w_42_k 0 (by decide)]
    have u_43_8 : (I_41 ln 8).toInt = (I_26 ln 8).toInt := by rw [w_42_k 8 (by decide)]
    have u_44 : (I_41 ln 5).toInt = (I_26 ln 5).toInt := by rw [w_42_k 5 (by decide)]
    have u_45 : (I_41 ln 6).toInt = (I_26 ln 6).toInt := by rw [w_42_k 6 (by decide)]
    have u_46 : (I_41 ln 9).toInt = (I_26 ln 9).toInt := by rw [w_42_k 9 (by decide)]
    have u_47 : (I_41 ln 10).toInt = (I_26 ln 10).toInt := by rw [w_42_k 10 (by decide)]
    refine lv_iload_n F.1 F.2.1 dX1_readProject_35 rfl (lv_at hl 0 rfl) ?_
    have hfin : sPrj b n nr nt cl h = r_34 := by
      unfold sPrj
      repeat (first | with_reducible rfl | refine ite_y (by omega) ?_ | refine ite_n (by omega) ?_ | exact er_34.symm | exact thn_x er_34 (by omega) | refine thn_y er_9 (by omega) ?_ | exact pr_e (by omega) (by omega) (by omega))
    exact g_iret F hr hlk hH hS hz zv_32 ⟨rfl, rfl, rfl, rfl, hv, hp, pf, by first | omega | rfl | (dsimp only; omega), by (try dsimp only); rw [hfin]; first | done | omega | rfl, by (try dsimp only); rw [hfin]; exact hP, by (try dsimp only); first | exact pIm_n (by omega) | (rw [hfin]; (try dsimp only); exact pIm_y (by first | omega | rfl)) | exact pIm_y (by omega) | (rw [hfin]; (try dsimp only); exact fun h9 => by have q9 := q_38 h9; (try dsimp only at q9); omega)⟩ dX1_readProject_36

def rmX1_readJoinf : Room := { frames := 4, cells := 0, slots := 0, locals := 86 }
set_option maxHeartbeats 4000000 in
set_option maxRecDepth 100000 in
/-- a join -/
theorem c_X1_readJoinf (l : Launch) (g : gG) (gh : gGh) (q ln : Nat) (b : tTx) (n : Nat) (tl : Int) (nr : Nat) (nt : Nat → Nat) (cl : Nat → Int) (h : Nat) (I : gI) (R : gR) (J : gJ) (AI : gI) (AJ : gJ) (AR : gR) (a : Nat) (hv : gInv g gh R AR I AI) (hp : pS g gh R I a q ln) (hk : (I ln 0).toInt = 3) (hP : pH gh AR I J AI AJ a q b n tl nr nt cl h) (hk8 : (I ln 8).toInt = 0) : gMet l g yX1_readJoin wsX1_readJoin rmX1_readJoinf [.ref a] (I, R, J, AI, AJ, AR) (gQi g (fun (z : Int) (w : gS) => R = w.2.1 ∧ J = w.2.2.1 ∧ AJ = w.2.2.2.2.1 ∧ AR = w.2.2.2.2.2 ∧ (gInv g gh R AR (w.1) (w.2.2.2.1)) ∧ (pS g gh R (w.1) a q ln) ∧ (pF a ln I (w.1)) ∧ (0 ≤ z ∧ z ≤ 4) ∧ (z = (sJoi b n nr nt cl h).1) ∧ (pH gh AR (w.1) J (w.2.2.2.1) AJ a q b n tl nr nt cl (sJoi b n nr nt cl h).2.1) ∧ (pIm z (((w.1) ln 2).toInt) ((sJoi b n nr nt cl h).2.2)))) := by
  refine gStart (cc := cX1_readJoin) (maxL := 2) (ret := (some (.int))) (by decide) rfl (Nat.le_of_ble_eq_true rfl) ?_
  intro p e s m below meth c ls F hr hlk hH hz hS hl
  have hl : lv_has ls 2 [(0, .ref a)] := hl
  have hS : va_S (gA g) s.heap s.heap [] := hS
  obtain ⟨H, hHe⟩ : ∃ H : Heap, H = s.heap := ⟨_, rfl⟩
  obtain ⟨locs, hlo⟩ : ∃ k : List Loc, k = [] := ⟨_, rfl⟩
  have hH : gH g I R J AI AJ AR H := by rw [hHe]; exact hH
  have hS : va_S (gA g) s.heap H locs := by rw [hHe, hlo]; exact hS
  suffices hw : W p l e rmX1_readJoinf s m ([.ref a] : List Value).toArray below meth c H locs 0 0 (MQ below (gQi g (fun (z : Int) (w : gS) => R = w.2.1 ∧ J = w.2.2.1 ∧ AJ = w.2.2.2.2.1 ∧ AR = w.2.2.2.2.2 ∧ (gInv g gh R AR (w.1) (w.2.2.2.1)) ∧ (pS g gh R (w.1) a q ln) ∧ (pF a ln I (w.1)) ∧ (0 ≤ z ∧ z ≤ 4) ∧ (z = (sJoi b n nr nt cl h).1) ∧ (pH gh AR (w.1) J (w.2.2.2.1) AJ a q b n tl nr nt cl (sJoi b n nr nt cl h).2.1) ∧ (pIm z (((w.1) ln 2).toInt) ((sJoi b n nr nt cl h).2.2)))) ([.ref a] : List Value).toArray s 0 0 (gA g)) (F0 m 0 ls []) by
    rw [hHe, hlo] at hw; exact hw
  clear hHe hlo
  have pf : pF a ln I I := pF_r
  have iX1 : ∀ w ∈ u_ws RX1 TX1 4, w ∈ wsX1_readJoin := (by decide +kernel)
  have iX0 : ∀ w ∈ u_ws RX0 TX0 15, w ∈ wsX1_readJoin := (by decide +kernel)
  have k29 : Cond.fieldLink RX1 29 (TX1 2).1 (TX1 2).2.1 (TX1 2).2.2.1 ∈ wsX1_readJoin := List.mem_of_getElem? (i := 1) rfl
  have k136 : Cond.fieldLink RX1 136 (TX0 2).1 (TX0 2).2.1 (TX0 2).2.2.1 ∈ wsX1_readJoin := List.mem_of_getElem? (i := 2) rfl
  refine lv_aload_n F.1 F.2.1 dX1_readJoin_0 rfl (lv_at hl 0 rfl) ?_
  refine g_calli (g_runV (As := []) (rest := []) (ci := 1) F hl.1 hH hS hz (c_X1_readFirstf l g gh q ln b n tl nr nt cl h I R J AI AJ AR a hv hp (by omega) hP) (cwV 0 F.2.2.2.2.1 gX1_readJoin_X1_readFirst rfl rfl rfl hdX1_readFirst ⟨Nat.le_of_ble_eq_true rfl, Nat.le_of_ble_eq_true rfl⟩) hp.1 (by decide) rfl rfl rfl (Nat.le_of_ble_eq_true rfl) dX1_readJoin_1 ⟨Nat.zero_le _, Nat.zero_le _⟩) hS (fun v_7 I_1 R_2 J_3 AI_4 AJ_5 AR_6 H locs zv_7 hp_8 hH hS => ?_)
  dsimp only at hp_8
  obtain ⟨r_9, er_9⟩ : ∃ qQ : pR, qQ = sRl b n nr nt cl h := ⟨_, rfl⟩
  rw [← er_9] at hp_8
  obtain ⟨rfl, rfl, rfl, rfl, rfl, hv, hp, pfq, k8q, q_10, q_11, hP, q_12, q_13⟩ := hp_8
  have pf := pF_t pf pfq
  have u_14q : (I_1 q 1).toInt = (I q 1).toInt := by rw [pF_q hp pfq]
  have u_14_0 : (I_1 ln 0).toInt = (I ln 0).toInt := by rw [pfq.2]
  have u_14_8 : (I_1 ln 8).toInt = (I ln 8).toInt := by rw [k8q]
  refine lv_istore_n (lv' := [(1, .int (iI v_7)), (0, .ref a)]) F.1 F.2.1 dX1_readJoin_4 rfl hl (by decide) rfl (fun ls hl => ?_)
  refine lv_iload_n F.1 F.2.1 dX1_readJoin_5 rfl (lv_at hl 0 rfl) ?_
  refine z_if_ne (tgt := 14) F dX1_readJoin_6 (by decide) zv_7 (fun c_15 => ?_) (fun c_15 => ?_)
  · refine lv_iload_n F.1 F.2.1 dX1_readJoin_14 rfl (lv_at hl 0 rfl) ?_
    refine z_if_ne (tgt := 25) F dX1_readJoin_15 (by decide) zv_7 (fun c_16 => ?_) (fun c_16 => ?_)
    · refine lv_iload_n F.1 F.2.1 dX1_readJoin_25 rfl (lv_at hl 0 rfl) ?_
      refine z_if_ne (tgt := 34) F dX1_readJoin_26 (by decide) zv_7 (fun c_17 => ?_) (fun c_17 => ?_)
      · refine lv_aload_n F.1 F.2.1 dX1_readJoin_34 rfl (lv_at hl 1 rfl) ?_
        refine g_getR (ci := 1) (k := 2) F hH rfl (by decide) iX1 hp.1 (by decide) rfl (b := ln) hp.2.2.2.1 k29 dX1_readJoin_35 ?_
        refine lv_aload_n F.1 F.2.1 dX1_readJoin_38 rfl (lv_at hl 1 rfl) ?_
        refine g_getR (ci := 1) (k := 2) F hH rfl (by decide) iX1 hp.1 (by decide) rfl (b := ln) hp.2.2.2.1 k29 dX1_readJoin_39 ?_
        have b_18 := gI_line hv hp.2.2.2.2.1
        unfold vLineI at b_18
        refine g_calli (g_runV (As := []) (rest := [.ref ln]) (ci := 0) F hl.1 hH hS hz (c_X0_columnsOfJoinf l g gh ([]) I_1 R J AI AJ AR ln hv hp.2.2.2.2.1 (pCn_0 (by omega))) (cwV 0 F.2.2.2.2.1 gX1_readJoin_X0_columnsOfJoin rfl rfl rfl hdX0_columnsOfJoin ⟨Nat.le_of_ble_eq_true rfl, Nat.le_of_ble_eq_true rfl⟩) hp.2.2.2.2.1 (by decide) rfl rfl rfl (Nat.le_of_ble_eq_true rfl) dX1_readJoin_42 ⟨Nat.zero_le _, Nat.zero_le _⟩) hS (fun v_25 I_19 R_20 J_21 AI_22 AJ_23 AR_24 H locs zv_25 hp_26 hH hS => ?_)
        dsimp only at hp_26
        obtain ⟨rfl, rfl, rfl, rfl, rfl, rfl, q_27, qj⟩ := hp_26
        refine g_putI (ci := 0) (k := 2) F hH hS rfl (by decide) iX0 hp.2.2.2.2.1 (by decide) tyX0 tyX0_ok nmX0 rfl rfl rfl k136 dX1_readJoin_45 (fun H locs hH hS => ?_)
        obtain ⟨I_28, eI_28⟩ : ∃ qQ, qQ = gup2 I_1 ln 2 (iI (v_25)) := ⟨_, rfl⟩
        rw [← eI_28] at hH
        have kI_28 : ∀ b, b ≠ ln → I_28 b = I_1 b := fun b hb => by rw [eI_28]; exact funext fun j => gup2_a _ _ hb
        have hP := pH_ln hv hp hP kI_28
        have w_29 : (I_28 ln 2).toInt = v_25 := by rw [eI_28, gup2_s]; exact iI_val ⟨by omega, by omega⟩
        have hp2 : pS g gh R I_28 a q ln := pS_ln hv hp kI_28
        have hv : gInv g gh R AR I_28 AI := by rw [eI_28]; exact gInv_line2 hv hp.2.2.2.2.1 (by omega) (by omega) (pS_col hp)
        have hp := hp2
        have pf : pF a ln I I_28 := pF_t pf (by rw [eI_28]; exact pF_ln (by decide))
        have w_29_k : ∀ j, j ≠ 2 → I_28 ln j = I_1 ln j := fun j hj => by rw [eI_28]; exact gup2_k _ _ hj
        have u_30q : (I_28 q 1).toInt = (I_1 q 1).toInt := by rw [kI_28 q (gO_ne hp.2.2.1 hp.2.2.2.2.1 (by decide))]
        have u_30_0 : (I_28 ln 0).toInt = (I_1 ln 0).toInt := by rw [w_29_k 0 (by decide)]
        have u_30_8 : (I_28 ln 8).toInt = (I_1 ln 8).toInt := by rw [w_29_k 8 (by decide)]
        have u_31 : (I_28 ln 5).toInt = (I_1 ln 5).toInt := by rw [w_29_k 5 (by decide)]
        have u_32 : (I_28 ln 6).toInt = (I_1 ln 6).toInt := by rw [w_29_k 6 (by decide)]
        have u_33 : (I_28 ln 9).toInt = (I_1 ln 9).toInt := by rw [w_29_k 9 (by decide)]
        have u_34 : (I_28 ln 10).toInt = (I_1 ln 10).toInt := by rw [w_29_k 10 (by decide)]
        refine lv_iload_n F.1 F.2.1 dX1_readJoin_48 rfl (lv_at hl 0 rfl) ?_
        have hfin : sJoi b n nr nt cl h = r_9 := by
          unfold sJoi
          repeat (first | with_reducible rfl | refine ite_y (by omega) ?_ | refine ite_n (by omega) ?_ | exact er_9.symm | exact thn_x er_9 (by omega) | exact pr_e (by omega) (by omega) (by omega))
        exact g_iret F hr hlk hH hS hz zv_7 ⟨rfl, rfl, rfl, rfl, hv, hp, pf, by first | omega | rfl | (dsimp only; omega), by (try dsimp only); rw [hfin]; first | done | omega | rfl, by (try dsimp only); rw [hfin]; exact hP, by (try dsimp only); first | exact pIm_n (by omega) | (rw [hfin]; exact fun h => by have q9 := hjz h; omega)⟩ dX1_readJoin_49
      · exact absurd trivial (by omega)
    · exact absurd trivial (by omega)
  · have t_35 := q_13 (by omega)
    refine lv_aload_n F.1 F.2.1 dX1_readJoin_9 rfl (lv_at hl 1 rfl) ?_
    refine g_calli (g_runV (As := []) (rest := []) (ci := 1) F hl.1 hH hS hz (c_X1_readSecondf l g gh q ln b n tl nr nt cl r_9.2.1 I_1 R J AI AJ AR a hv hp (by omega) hP) (cwV 0 F.2.2.2.2.1 gX1_readJoin_X1_readSecond rfl rfl rfl hdX1_readSecond ⟨Nat.le_of_ble_eq_true rfl, Nat.le_of_ble_eq_true rfl⟩) hp.1 (by decide) rfl rfl rfl (Nat.le_of_ble_eq_true rfl) dX1_readJoin_10 ⟨Nat.zero_le _, Nat.zero_le _⟩) hS (fun v_42 I_36 R_37 J_38 AI_39 AJ_40 AR_41 H locs zv_42 hp_43 hH hS => ?_)
    dsimp only at hp_43
    obtain ⟨r_44, er_44⟩ : ∃ qQ : pR, qQ = sRl b n nr nt cl r_9.2.1 := ⟨_, rfl⟩
    rw [← er_44] at hp_43
    obtain ⟨rfl, rfl, rfl, rfl, rfl, hv, hp, pfq, k8q, q_45, q_46, hP, q_47, q_48⟩ := hp_43
    have pf := pF_t pf pfq
    have u_49q : (I_36 q 1).toInt = (I_1 q 1).toInt := by rw [pF_q hp pfq]
    have u_49_0 : (I_36 ln 0).toInt = (I_1 ln 0).toInt := by rw [pfq.2]
    have u_49_8 : (I_36 ln 8).toInt = (I_1 ln 8).toInt := by rw [k8q]
    refine lv_istore_n (lv' := [(1, .int (iI v_42)), (0, .ref a)]) F.1 F.2.1 dX1_readJoin_13 rfl hl (by decide) rfl (fun ls hl => ?_)
    refine lv_iload_n F.1 F.2.1 dX1_readJoin_14 rfl (lv_at hl 0 rfl) ?_
    refine z_if_ne (tgt := 25) F dX1_readJoin_15 (by decide) zv_42 (fun c_50 => ?_) (fun c_50 => ?_)
    · refine lv_iload_n F.1 F.2.1 dX1_readJoin_25 rfl (lv_at hl 0 rfl) ?_
      refine z_if_ne (tgt := 34) F dX1_readJoin_26 (by decide) zv_42 (fun c_51 => ?_) (fun c_51 => ?_)
      · refine lv_aload_n F.1 F.2.1 dX1_readJoin_34 rfl (lv_at hl 1 rfl) ?_
        refine g_getR (ci := 1) (k := 2) F hH rfl (by decide) iX1 hp.1 (by decide) rfl (b := ln) hp.2.2.2.1 k29 dX1_readJoin_35 ?_
        refine lv_aload_n F.1 F.2.1 dX1_readJoin_38 rfl (lv_at hl 1 rfl) ?_
        refine g_getR (ci := 1) (k := 2) F hH rfl (by decide) iX1 hp.1 (by decide) rfl (b := ln) hp.2.2.2.1 k29 dX1_readJoin_39 ?_
        have b_52 := gI_line hv hp.2.2.2.2.1
        unfold vLineI at b_52
        refine g_calli (g_runV (As := []) (rest := [.ref ln]) (ci := 0) F hl.1 hH hS hz (c_X0_columnsOfJoinf l g gh ([]) I_36 R J AI AJ AR ln hv hp.2.2.2.2.1 (pCn_0 (by omega))) (cwV 0 F.2.2.2.2.1 gX1_readJoin_X0_columnsOfJoin rfl rfl rfl hdX0_columnsOfJoin ⟨Nat.le_of_ble_eq_true rfl, Nat.le_of_ble_eq_true rfl⟩) hp.2.2.2.2.1 (by decide) rfl rfl rfl (Nat.le_of_ble_eq_true rfl) dX1_readJoin_42 ⟨Nat.zero_le _, Nat.zero_le _⟩) hS (fun v_59 I_53 R_54 J_55 AI_56 AJ_57 AR_58 H locs zv_59 hp_60 hH hS => ?_)
        dsimp only at hp_60
        obtain ⟨rfl, rfl, rfl, rfl, rfl, rfl, q_61, qj⟩ := hp_60
        refine g_putI (ci := 0) (k := 2) F hH hS rfl (by decide) iX0 hp.2.2.2.2.1 (by decide) tyX0 tyX0_ok nmX0 rfl rfl rfl k136 dX1_readJoin_45 (fun H locs hH hS => ?_)
        obtain ⟨I_62, eI_62⟩ : ∃ qQ, qQ = gup2 I_36 ln 2 (iI (v_59)) := ⟨_, rfl⟩
        rw [← eI_62] at hH
        have kI_62 : ∀ b, b ≠ ln → I_62 b = I_36 b := fun b hb => by rw [eI_62]; exact funext fun j => gup2_a _ _ hb
        have hP := pH_ln hv hp hP kI_62
        have w_63 : (I_62 ln 2).toInt = v_59 := by rw [eI_62, gup2_s]; exact iI_val ⟨by omega, by omega⟩
        have hp2 : pS g gh R I_62 a q ln := pS_ln hv hp kI_62
        have hv : gInv g gh R AR I_62 AI := by rw [eI_62]; exact gInv_line2 hv hp.2.2.2.2.1 (by omega) (by omega) (pS_col hp)
        have hp := hp2
        have pf : pF a ln I I_62 := pF_t pf (by rw [eI_62]; exact pF_ln (by decide))
        have w_63_k : ∀ j, j ≠ 2 → I_62 ln j = I_36 ln j := fun j hj => by rw [eI_62]; exact gup2_k _ _ hj
        have u_64q : (I_62 q 1).toInt = (I_36 q 1).toInt := by rw [kI_62 q (gO_ne hp.2.2.1 hp.2.2.2.2.1 (by decide))]
        have u_64_0 : (I_62 ln 0).toInt = (I_36 ln 0).toInt := by rw [w_63_k 0 (by decide)]
        have u_64_8 : (I_62 ln 8).toInt = (I_36 ln 8).toInt := by rw [w_63_k 8 (by decide)]
        have u_65 : (I_62 ln 5).toInt = (I_36 ln 5).toInt := by rw [w_63_k 5 (by decide)]
        have u_66 : (I_62 ln 6).toInt = (I_36 ln 6).toInt := by rw [w_63_k 6 (by decide)]
        have u_67 : (I_62 ln 9).toInt = (I_36 ln 9).toInt := by rw [w_63_k 9 (by decide)]
        have u_68 : (I_62 ln 10).toInt = (I_36 ln 10).toInt := by rw [w_63_k 10 (by decide)]
        refine lv_iload_n F.1 F.2.1 dX1_readJoin_48 rfl (lv_at hl 0 rfl) ?_
        have hfin : sJoi b n nr nt cl h = r_44 := by
          unfold sJoi
          repeat (first | with_reducible rfl | refine ite_y (by omega) ?_ | refine ite_n (by omega) ?_ | exact er_44.symm | exact thn_x er_44 (by omega) | refine thn_y er_9 (by omega) ?_ | exact pr_e (by omega) (by omega) (by omega))
        exact g_iret F hr hlk hH hS hz zv_42 ⟨rfl, rfl, rfl, rfl, hv, hp, pf, by first | omega | rfl | (dsimp only; omega), by (try dsimp only); rw [hfin]; first | done | omega | rfl, by (try dsimp only); rw [hfin]; exact hP, by (try dsimp only); first | exact pIm_n (by omega) | (rw [hfin]; exact fun h => by have q9 := hjz h; omega)⟩ dX1_readJoin_49
      · exact absurd trivial (by omega)
    · have t_69 := q_48 (by omega)
      refine lv_aload_n F.1 F.2.1 dX1_readJoin_18 rfl (lv_at hl 1 rfl) ?_
      refine z_bipush F dX1_readJoin_19 (by decide) ?_
      refine g_calli (g_runV (As := [.int (iI 12)]) (rest := []) (ci := 1) F hl.1 hH hS hz (c_X1_takeWordf l g gh q ln b n tl nr nt cl r_44.2.1 I_36 R J AI AJ AR a 12 ⟨by decide, by decide⟩ hv hp hP) (cwV 1 F.2.2.2.2.1 gX1_readJoin_X1_takeWord rfl rfl rfl hdX1_takeWord ⟨Nat.le_of_ble_eq_true rfl, Nat.le_of_ble_eq_true rfl⟩) hp.1 (by decide) rfl rfl rfl (Nat.le_of_ble_eq_true rfl) dX1_readJoin_21 ⟨Nat.zero_le _, Nat.zero_le _⟩) hS (fun v_76 I_70 R_71 J_72 AI_73 AJ_74 AR_75 H locs zv_76 hp_77 hH hS => ?_)
      dsimp only at hp_77
      obtain ⟨r_78, er_78⟩ : ∃ qQ : pR, qQ = sTw b n 12 r_44.2.1 := ⟨_, rfl⟩
      rw [← er_78] at hp_77
      obtain ⟨rfl, rfl, rfl, rfl, rfl, hv, hp, pfq, flq, q_79, q_80, hP⟩ := hp_77
      have pf := pF_t pf pfq
      have u_81q : (I_70 q 1).toInt = (I_36 q 1).toInt := by rw [pF_q hp pfq]
      have u_81_0 : (I_70 ln 0).toInt = (I_36 ln 0).toInt := by rw [pfq.2]
      have u_81_8 : (I_70 ln 8).toInt = (I_36 ln 8).toInt := by rw [flq]
      have u_82 : (I_70 ln 2).toInt = (I_36 ln 2).toInt := by rw [flq]
      have u_83 : (I_70 ln 5).toInt = (I_36 ln 5).toInt := by rw [flq]
      have u_84 : (I_70 ln 6).toInt = (I_36 ln 6).toInt := by rw [flq]
      have u_85 : (I_70 ln 9).toInt = (I_36 ln 9).toInt := by rw [flq]
      have u_86 : (I_70 ln 10).toInt = (I_36 ln 10).toInt := by rw [flq]
      refine lv_istore_n (lv' := [(1, .int (iI v_76)), (0, .ref a)]) F.1 F.2.1 dX1_readJoin_24 rfl hl (by decide) rfl (fun ls hl => ?_)
      refine lv_iload_n F.1 F.2.1 dX1_readJoin_25 rfl (lv_at hl 0 rfl) ?_
      refine z_if_ne (tgt := 34) F dX1_readJoin_26 (by decide) zv_76 (fun c_87 => ?_) (fun c_87 => ?_)
      · refine lv_aload_n F.1 F.2.1 dX1_readJoin_34 rfl (lv_at hl 1 rfl) ?_
        refine g_getR (ci := 1) (k := 2) F hH rfl (by decide) iX1 hp.1 (by decide) rfl (b := ln) hp.2.2.2.1 k29 dX1_readJoin_35 ?_
        refine lv_aload_n F.1 F.2.1 dX1_readJoin_38 rfl (lv_at hl 1 rfl) ?_
        refine g_getR (ci := 1) (k := 2) F hH rfl (by decide) iX1 hp.1 (by decide) rfl (b := ln) hp.2.2.2.1 k29 dX1_readJoin_39 ?_
        have b_88 := gI_line hv hp.2.2.2.2.1
        unfold vLineI at b_88
        refine g_calli (g_runV (As := []) (rest := [.ref ln]) (ci := 0) F hl.1 hH hS hz (c_X0_columnsOfJoinf l g gh ([]) I_70 R J AI AJ AR ln hv hp.2.2.2.2.1 (pCn_0 (by omega))) (cwV 0 F.2.2.2.2.1 gX1_readJoin_X0_columnsOfJoin rfl rfl rfl hdX0_columnsOfJoin ⟨Nat.le_of_ble_eq_true rfl, Nat.le_of_ble_eq_true rfl⟩) hp.2.2.2.2.1 (by decide) rfl rfl rfl (Nat.le_of_ble_eq_true rfl) dX1_readJoin_42 ⟨Nat.zero_le _, Nat.zero_le _⟩) hS (fun v_95 I_89 R_90 J_91 AI_92 AJ_93 AR_94 H locs zv_95 hp_96 hH hS => ?_)
        dsimp only at hp_96
        obtain ⟨rfl, rfl, rfl, rfl, rfl, rfl, q_97, qj⟩ := hp_96
        refine g_putI (ci := 0) (k := 2) F hH hS rfl (by decide) iX0 hp.2.2.2.2.1 (by decide) tyX0 tyX0_ok nmX0 rfl rfl rfl k136 dX1_readJoin_45 (fun H locs hH hS => ?_)
        obtain ⟨I_98, eI_98⟩ : ∃ qQ, qQ = gup2 I_70 ln 2 (iI (v_95)) := ⟨_, rfl⟩
        rw [← eI_98] at hH
        have kI_98 : ∀ b, b ≠ ln → I_98 b = I_70 b := fun b hb => by rw [eI_98]; exact funext fun j => gup2_a _ _ hb
        have hP := pH_ln hv hp hP kI_98
        have w_99 : (I_98 ln 2).toInt = v_95 := by rw [eI_98, gup2_s]; exact iI_val ⟨by omega, by omega⟩
        have hp2 : pS g gh R I_98 a q ln := pS_ln hv hp kI_98
        have hv : gInv g gh R AR I_98 AI := by rw [eI_98]; exact gInv_line2 hv hp.2.2.2.2.1 (by omega) (by omega) (pS_col hp)
        have hp := hp2
        have pf : pF a ln I I_98 := pF_t pf (by rw [eI_98]; exact pF_ln (by decide))
        have w_99_k : ∀ j, j ≠ 2 → I_98 ln j = I_70 ln j := fun j hj => by rw [eI_98]; exact gup2_k _ _ hj
        have u_100q : (I_98 q 1).toInt = (I_70 q 1).toInt := by rw [kI_98 q (gO_ne hp.2.2.1 hp.2.2.2.2.1 (by decide))]
        have u_100_0 : (I_98 ln 0).toInt = (I_70 ln 0).toInt := by rw [w_99_k 0 (by decide)]
        have u_100_8 : (I_98 ln 8).toInt = (I_70 ln 8).toInt := by rw [w_99_k 8 (by decide)]
        have u_101 : (I_98 ln 5).toInt = (I_70 ln 5).toInt := by rw [w_99_k 5 (by decide)]
        have u_102 : (I_98 ln 6).toInt = (I_70 ln 6).toInt := by rw [w_99_k 6 (by decide)]
        have u_103 : (I_98 ln 9).toInt = (I_70 ln 9).toInt := by rw [w_99_k 9 (by decide)]
        have u_104 : (I_98 ln 10).toInt = (I_70 ln 10).toInt := by rw [w_99_k 10 (by decide)]
        refine lv_iload_n F.1 F.2.1 dX1_readJoin_48 rfl (lv_at hl 0 rfl) ?_
        have hfin : sJoi b n nr nt cl h = r_78 := by
          unfold sJoi
          repeat (first | with_reducible rfl | refine ite_y (by omega) ?_ | refine ite_n (by omega) ?_ | exact er_78.symm | exact thn_x er_78 (by omega) | refine thn_y er_9 (by omega) ?_ | refine thn_y er_44 (by omega) ?_ | exact pr_e (by omega) (by omega) (by omega))
        exact g_iret F hr hlk hH hS hz zv_76 ⟨rfl, rfl, rfl, rfl, hv, hp, pf, by first | omega | rfl | (dsimp only; omega), by (try dsimp only); rw [hfin]; first | done | omega | rfl, by (try dsimp only); rw [hfin]; exact hP, by (try dsimp only); first | exact pIm_n (by omega) | (rw [hfin]; exact fun h => by have q9 := hjz h; omega)⟩ dX1_readJoin_49
      · refine lv_aload_n F.1 F.2.1 dX1_readJoin_29 rfl (lv_at hl 1 rfl) ?_
        refine g_calli (g_runV (As := []) (rest := []) (ci := 1) F hl.1 hH hS hz (c_X1_readPairsf l g gh q ln r_9.2.2 r_44.2.2 b n tl nr nt cl r_78.2.1 I_70 R J AI AJ AR a hv hp (by omega) hP (by omega) (by omega) (by omega)) (cwV 0 F.2.2.2.2.1 gX1_readJoin_X1_readPairs rfl rfl rfl hdX1_readPairs ⟨Nat.le_of_ble_eq_true rfl, Nat.le_of_ble_eq_true rfl⟩) hp.1 (by decide) rfl rfl rfl (Nat.le_of_ble_eq_true rfl) dX1_readJoin_30 ⟨Nat.zero_le _, Nat.zero_le _⟩) hS (fun v_111 I_105 R_106 J_107 AI_108 AJ_109 AR_110 H locs zv_111 hp_112 hH hS => ?_)
        dsimp only at hp_112
        obtain ⟨r_113, er_113⟩ : ∃ qQ : pR, qQ = sPairs b n r_9.2.2 r_44.2.2 5 0 [] r_78.2.1 := ⟨_, rfl⟩
        rw [← er_113] at hp_112
        obtain ⟨rfl, rfl, rfl, rfl, hv, hp, pfq, q_114, q_115, hP, q_116, hLE⟩ := hp_112
        obtain ⟨L, hL, hLx⟩ := hLE
        have pf := pF_t pf pfq
        have u_117q : (I_105 q 1).toInt = (I_70 q 1).toInt := by rw [pF_q hp pfq]
        have u_117_0 : (I_105 ln 0).toInt = (I_70 ln 0).toInt := by rw [pfq.2]
        refine lv_istore_n (lv' := [(1, .int (iI v_111)), (0, .ref a)]) F.1 F.2.1 dX1_readJoin_33 rfl hl (by decide) rfl (fun ls hl => ?_)
        refine lv_aload_n F.1 F.2.1 dX1_readJoin_34 rfl (lv_at hl 1 rfl) ?_
        refine g_getR (ci := 1) (k := 2) F hH rfl (by decide) iX1 hp.1 (by decide) rfl (b := ln) hp.2.2.2.1 k29 dX1_readJoin_35 ?_
        refine lv_aload_n F.1 F.2.1 dX1_readJoin_38 rfl (lv_at hl 1 rfl) ?_
        refine g_getR (ci := 1) (k := 2) F hH rfl (by decide) iX1 hp.1 (by decide) rfl (b := ln) hp.2.2.2.1 k29 dX1_readJoin_39 ?_
        have b_118 := gI_line hv hp.2.2.2.2.1
        unfold vLineI at b_118
        refine g_calli (g_runV (As := []) (rest := [.ref ln]) (ci := 0) F hl.1 hH hS hz (c_X0_columnsOfJoinf l g gh L I_105 R J AI_108 AJ AR ln hv hp.2.2.2.2.1 hL) (cwV 0 F.2.2.2.2.1 gX1_readJoin_X0_columnsOfJoin rfl rfl rfl hdX0_columnsOfJoin ⟨Nat.le_of_ble_eq_true rfl, Nat.le_of_ble_eq_true rfl⟩) hp.2.2.2.2.1 (by decide) rfl rfl rfl (Nat.le_of_ble_eq_true rfl) dX1_readJoin_42 ⟨Nat.zero_le _, Nat.zero_le _⟩) hS (fun v_125 I_119 R_120 J_121 AI_122 AJ_123 AR_124 H locs zv_125 hp_126 hH hS => ?_)
        dsimp only at hp_126
        obtain ⟨rfl, rfl, rfl, rfl, rfl, rfl, q_127, qj⟩ := hp_126
        have hjz : pIm v_111 (v_125) (r_113.2.2) := fun h => by rw [qj, show (I_105 ln 6).toInt = r_44.2.2 by omega, hLx h]; omega
        refine g_putI (ci := 0) (k := 2) F hH hS rfl (by decide) iX0 hp.2.2.2.2.1 (by decide) tyX0 tyX0_ok nmX0 rfl rfl rfl k136 dX1_readJoin_45 (fun H locs hH hS => ?_)
        obtain ⟨I_128, eI_128⟩ : ∃ qQ, qQ = gup2 I_105 ln 2 (iI (v_125)) := ⟨_, rfl⟩
        rw [← eI_128] at hH
        have kI_128 : ∀ b, b ≠ ln → I_128 b = I_105 b := fun b hb => by rw [eI_128]; exact funext fun j => gup2_a _ _ hb
        have hP := pH_ln hv hp hP kI_128
        have w_129 : (I_128 ln 2).toInt = v_125 := by rw [eI_128, gup2_s]; exact iI_val ⟨by omega, by omega⟩
        have hp2 : pS g gh R I_128 a q ln := pS_ln hv hp kI_128
        have hv : gInv g gh R AR I_128 AI_108 := by rw [eI_128]; exact gInv_line2 hv hp.2.2.2.2.1 (by omega) (by omega) (pS_col hp)
        have hp := hp2
        have pf : pF a ln I I_128 := pF_t pf (by rw [eI_128]; exact pF_ln (by decide))
        have w_129_k : ∀ j, j ≠ 2 → I_128 ln j = I_105 ln j := fun j hj => by rw [eI_128]; exact gup2_k _ _ hj
        have u_130q : (I_128 q 1).toInt = (I_105 q 1).toInt := by rw [kI_128 q (gO_ne hp.2.2.1 hp.2.2.2.2.1 (by decide))]
        have u_130_0 : (I_128 ln 0).toInt = (I_105 ln 0).toInt := by rw [w_129_k 0 (by decide)]
        have u_130_8 : (I_128 ln 8).toInt = (I_105 ln 8).toInt := by rw [w_129_k 8 (by decide)]
        have u_131 : (I_128 ln 5).toInt = (I_105 ln 5).toInt := by rw [w_129_k 5 (by decide)]
        have u_132 : (I_128 ln 6).toInt = (I_105 ln 6).toInt := by rw [w_129_k 6 (by decide)]
        have u_133 : (I_128 ln 9).toInt = (I_105 ln 9).toInt := by rw [w_129_k 9 (by decide)]
        have u_134 : (I_128 ln 10).toInt = (I_105 ln 10).toInt := by rw [w_129_k 10 (by decide)]
        refine lv_iload_n F.1 F.2.1 dX1_readJoin_48 rfl (lv_at hl 0 rfl) ?_
        have hfin : sJoi b n nr nt cl h = r_113 := by
          unfold sJoi
          repeat (first | with_reducible rfl | refine ite_y (by omega) ?_ | refine ite_n (by omega) ?_ | exact er_113.symm | exact thn_x er_113 (by omega) | refine thn_y er_9 (by omega) ?_ | refine thn_y er_44 (by omega) ?_ | refine thn_y er_78 (by omega) ?_ | exact pr_e (by omega) (by omega) (by omega))
        exact g_iret F hr hlk hH hS hz zv_111 ⟨rfl, rfl, rfl, rfl, hv, hp, pf, by first | omega | rfl | (dsimp only; omega), by (try dsimp only); rw [hfin]; first | done | omega | rfl, by (try dsimp only); rw [hfin]; exact hP, by (try dsimp only); first | exact pIm_n (by omega) | (rw [hfin]; exact fun h => by have q9 := hjz h; omega)⟩ dX1_readJoin_49

def rmX1_readDistinctf : Room := { frames := 4, cells := 0, slots := 0, locals := 83 }
set_option maxHeartbeats 4000000 in
set_option maxRecDepth 100000 in
/-- a distinct -/
theorem c_X1_readDistinctf (l : Launch) (g : gG) (gh : gGh) (q ln : Nat) (b : tTx) (n : Nat) (tl : Int) (nr : Nat) (nt : Nat → Nat) (cl : Nat → Int) (h : Nat) (I : gI) (R : gR) (J : gJ) (AI : gI) (AJ : gJ) (AR : gR) (a : Nat) (hv : gInv g gh R AR I AI) (hp : pS g gh R I a q ln) (hk0 : (I ln 0).toInt ≠ 0) (hP : pH gh AR I J AI AJ a q b n tl nr nt cl h) : gMet l g yX1_readDistinct wsX1_readDistinct rmX1_readDistinctf [.ref a] (I, R, J, AI, AJ, AR) (gQi g (fun (z : Int) (w : gS) => R = w.2.1 ∧ J = w.2.2.1 ∧ AI = w.2.2.2.1 ∧ AJ = w.2.2.2.2.1 ∧ AR = w.2.2.2.2.2 ∧ (gInv g gh R AR (w.1) AI) ∧ (pS g gh R (w.1) a q ln) ∧ (pF a ln I (w.1)) ∧ (0 ≤ z ∧ z ≤ 4) ∧ (z = (sRl b n nr nt cl h).1) ∧ (pH gh AR (w.1) J AI AJ a q b n tl nr nt cl (sRl b n nr nt cl h).2.1) ∧ (pIm z (((w.1) ln 2).toInt) ((sRl b n nr nt cl h).2.2)))) := by
  refine gStart (cc := cX1_readDistinct) (maxL := 2) (ret := (some (.int))) (by decide) rfl (Nat.le_of_ble_eq_true rfl) ?_
  intro p e s m below meth c ls F hr hlk hH hz hS hl
  have hl : lv_has ls 2 [(0, .ref a)] := hl
  have hS : va_S (gA g) s.heap s.heap [] := hS
  obtain ⟨H, hHe⟩ : ∃ H : Heap, H = s.heap := ⟨_, rfl⟩
  obtain ⟨locs, hlo⟩ : ∃ k : List Loc, k = [] := ⟨_, rfl⟩
  have hH : gH g I R J AI AJ AR H := by rw [hHe]; exact hH
  have hS : va_S (gA g) s.heap H locs := by rw [hHe, hlo]; exact hS
  suffices hw : W p l e rmX1_readDistinctf s m ([.ref a] : List Value).toArray below meth c H locs 0 0 (MQ below (gQi g (fun (z : Int) (w : gS) => R = w.2.1 ∧ J = w.2.2.1 ∧ AI = w.2.2.2.1 ∧ AJ = w.2.2.2.2.1 ∧ AR = w.2.2.2.2.2 ∧ (gInv g gh R AR (w.1) AI) ∧ (pS g gh R (w.1) a q ln) ∧ (pF a ln I (w.1)) ∧ (0 ≤ z ∧ z ≤ 4) ∧ (z = (sRl b n nr nt cl h).1) ∧ (pH gh AR (w.1) J AI AJ a q b n tl nr nt cl (sRl b n nr nt cl h).2.1) ∧ (pIm z (((w.1) ln 2).toInt) ((sRl b n nr nt cl h).2.2)))) ([.ref a] : List Value).toArray s 0 0 (gA g)) (F0 m 0 ls []) by
    rw [hHe, hlo] at hw; exact hw
  clear hHe hlo
  have pf : pF a ln I I := pF_r
  have iX1 : ∀ w ∈ u_ws RX1 TX1 4, w ∈ wsX1_readDistinct := (by decide +kernel)
  have iX0 : ∀ w ∈ u_ws RX0 TX0 15, w ∈ wsX1_readDistinct := (by decide +kernel)
  have k29 : Cond.fieldLink RX1 29 (TX1 2).1 (TX1 2).2.1 (TX1 2).2.2.1 ∈ wsX1_readDistinct := List.mem_of_getElem? (i := 1) rfl
  have k143 : Cond.fieldLink RX1 143 (TX0 5).1 (TX0 5).2.1 (TX0 5).2.2.1 ∈ wsX1_readDistinct := List.mem_of_getElem? (i := 2) rfl
  have k136 : Cond.fieldLink RX1 136 (TX0 2).1 (TX0 2).2.1 (TX0 2).2.2.1 ∈ wsX1_readDistinct := List.mem_of_getElem? (i := 3) rfl
  refine lv_aload_n F.1 F.2.1 dX1_readDistinct_0 rfl (lv_at hl 0 rfl) ?_
  refine g_calli (g_runV (As := []) (rest := []) (ci := 1) F hl.1 hH hS hz (c_X1_readFirstf l g gh q ln b n tl nr nt cl h I R J AI AJ AR a hv hp (by omega) hP) (cwV 0 F.2.2.2.2.1 gX1_readDistinct_X1_readFirst rfl rfl rfl hdX1_readFirst ⟨Nat.le_of_ble_eq_true rfl, Nat.le_of_ble_eq_true rfl⟩) hp.1 (by decide) rfl rfl rfl (Nat.le_of_ble_eq_true rfl) dX1_readDistinct_1 ⟨Nat.zero_le _, Nat.zero_le _⟩) hS (fun v_7 I_1 R_2 J_3 AI_4 AJ_5 AR_6 H locs zv_7 hp_8 hH hS => ?_)
  dsimp only at hp_8
  obtain ⟨r_9, er_9⟩ : ∃ qQ : pR, qQ = sRl b n nr nt cl h := ⟨_, rfl⟩
  rw [← er_9] at hp_8
  obtain ⟨rfl, rfl, rfl, rfl, rfl, hv, hp, pfq, k8q, q_10, q_11, hP, q_12, hd5⟩ := hp_8
  have pf := pF_t pf pfq
  have u_13q : (I_1 q 1).toInt = (I q 1).toInt := by rw [pF_q hp pfq]
  have u_13_0 : (I_1 ln 0).toInt = (I ln 0).toInt := by rw [pfq.2]
  have u_13_8 : (I_1 ln 8).toInt = (I ln 8).toInt := by rw [k8q]
  refine lv_istore_n (lv' := [(1, .int (iI v_7)), (0, .ref a)]) F.1 F.2.1 dX1_readDistinct_4 rfl hl (by decide) rfl (fun ls hl => ?_)
  refine lv_aload_n F.1 F.2.1 dX1_readDistinct_5 rfl (lv_at hl 1 rfl) ?_
  refine g_getR (ci := 1) (k := 2) F hH rfl (by decide) iX1 hp.1 (by decide) rfl (b := ln) hp.2.2.2.1 k29 dX1_readDistinct_6 ?_
  refine lv_aload_n F.1 F.2.1 dX1_readDistinct_9 rfl (lv_at hl 1 rfl) ?_
  refine g_getR (ci := 1) (k := 2) F hH rfl (by decide) iX1 hp.1 (by decide) rfl (b := ln) hp.2.2.2.1 k29 dX1_readDistinct_10 ?_
  refine g_getI (ci := 0) (k := 5) F hH rfl (by decide) iX0 hp.2.2.2.2.1 (by decide) rfl k143 dX1_readDistinct_13 ?_
  have b_14 := gI_line hv hp.2.2.2.2.1
  unfold vLineI at b_14
  refine g_putI (ci := 0) (k := 2) F hH hS rfl (by decide) iX0 hp.2.2.2.2.1 (by decide) tyX0 tyX0_ok nmX0 rfl rfl rfl k136 dX1_readDistinct_16 (fun H locs hH hS => ?_)
  obtain ⟨I_15, eI_15⟩ : ∃ qQ, qQ = gup2 I_1 ln 2 (iI ((I_1 ln 5).toInt)) := ⟨_, rfl⟩
  rw [← eI_15] at hH
  have kI_15 : ∀ b, b ≠ ln → I_15 b = I_1 b := fun b hb => by rw [eI_15]; exact funext fun j => gup2_a _ _ hb
  have hP := pH_ln hv hp hP kI_15
  have w_16 : (I_15 ln 2).toInt = (I_1 ln 5).toInt := by rw [eI_15, gup2_s]; exact iI_val ⟨by omega, by omega⟩
  have hp2 : pS g gh R I_15 a q ln := pS_ln hv hp kI_15
  have hv : gInv g gh R AR I_15 AI := by rw [eI_15]; exact gInv_line2 hv hp.2.2.2.2.1 (by omega) (by omega) (pS_col hp)
  have hp := hp2
  have pf : pF a ln I I_15 := pF_t pf (by rw [eI_15]; exact pF_ln (by decide))
  have w_16_k : ∀ j, j ≠ 2 → I_15 ln j = I_1 ln j := fun j hj => by rw [eI_15]; exact gup2_k _ _ hj
  have u_17q : (I_15 q 1).toInt = (I_1 q 1).toInt := by rw [kI_15 q (gO_ne hp.2.2.1 hp.2.2.2.2.1 (by decide))]
  have u_17_0 : (I_15 ln 0).toInt = (I_1 ln 0).toInt := by rw [w_16_k 0 (by decide)]
  have u_17_8 : (I_15 ln 8).toInt = (I_1 ln 8).toInt := by rw [w_16_k 8 (by decide)]
  have u_18 : (I_15 ln 5).toInt = (I_1 ln 5).toInt := by rw [w_16_k 5 (by decide)]
  have u_19 : (I_15 ln 6).toInt = (I_1 ln 6).toInt := by rw [w_16_k 6 (by decide)]
  have u_20 : (I_15 ln 9).toInt = (I_1 ln 9).toInt := by rw [w_16_k 9 (by decide)]
  have u_21 : (I_15 ln 10).toInt = (I_1 ln 10).toInt := by rw [w_16_k 10 (by decide)]
  refine lv_iload_n F.1 F.2.1 dX1_readDistinct_19 rfl (lv_at hl 0 rfl) ?_
  have hfin : sRl b n nr nt cl h = r_9 := by
    unfold sRl
    repeat (first | with_reducible rfl | refine ite_y (by omega) ?_ | refine ite_n (by omega) ?_ | exact er_9.symm | exact thn_x er_9 (by omega) | exact pr_e (by omega) (by omega) (by omega))
  exact g_iret F hr hlk hH hS hz zv_7 ⟨rfl, rfl, rfl, rfl, rfl, hv, hp, pf, by first | omega | rfl | (dsimp only; omega), by (try dsimp only); rw [hfin]; first | done | omega | rfl, by (try dsimp only); rw [hfin]; exact hP, by (try dsimp only); rw [hfin]; exact fun h => by have q9 := hd5 h; omega⟩ dX1_readDistinct_20

def rmX1_readTwoAlikef : Room := { frames := 4, cells := 0, slots := 0, locals := 83 }
set_option maxHeartbeats 4000000 in
set_option maxRecDepth 100000 in
/-- a union or minus -/
theorem c_X1_readTwoAlikef (l : Launch) (g : gG) (gh : gGh) (q ln : Nat) (b : tTx) (n : Nat) (tl : Int) (nr : Nat) (nt : Nat → Nat) (cl : Nat → Int) (h : Nat) (I : gI) (R : gR) (J : gJ) (AI : gI) (AJ : gJ) (AR : gR) (a : Nat) (hv : gInv g gh R AR I AI) (hp : pS g gh R I a q ln) (hk0 : (I ln 0).toInt ≠ 0) (hP : pH gh AR I J AI AJ a q b n tl nr nt cl h) : gMet l g yX1_readTwoAlike wsX1_readTwoAlike rmX1_readTwoAlikef [.ref a] (I, R, J, AI, AJ, AR) (gQi g (fun (z : Int) (w : gS) => R = w.2.1 ∧ J = w.2.2.1 ∧ AI = w.2.2.2.1 ∧ AJ = w.2.2.2.2.1 ∧ AR = w.2.2.2.2.2 ∧ (gInv g gh R AR (w.1) AI) ∧ (pS g gh R (w.1) a q ln) ∧ (pF a ln I (w.1)) ∧ (0 ≤ z ∧ z ≤ 5) ∧ (z = (sTwo b n nr nt cl h).1) ∧ (pH gh AR (w.1) J AI AJ a q b n tl nr nt cl (sTwo b n nr nt cl h).2.1) ∧ (pIm z (((w.1) ln 2).toInt) ((sTwo b n nr nt cl h).2.2)))) := by
  refine gStart (cc := cX1_readTwoAlike) (maxL := 3) (ret := (some (.int))) (by decide) rfl (Nat.le_of_ble_eq_true rfl) ?_
  intro p e s m below meth c ls F hr hlk hH hz hS hl
  have hl : lv_has ls 3 [(0, .ref a)] := hl
  have hS : va_S (gA g) s.heap s.heap [] := hS
  obtain ⟨H, hHe⟩ : ∃ H : Heap, H = s.heap := ⟨_, rfl⟩
  obtain ⟨locs, hlo⟩ : ∃ k : List Loc, k = [] := ⟨_, rfl⟩
  have hH : gH g I R J AI AJ AR H := by rw [hHe]; exact hH
  have hS : va_S (gA g) s.heap H locs := by rw [hHe, hlo]; exact hS
  suffices hw : W p l e rmX1_readTwoAlikef s m ([.ref a] : List Value).toArray below meth c H locs 0 0 (MQ below (gQi g (fun (z : Int) (w : gS) => R = w.2.1 ∧ J = w.2.2.1 ∧ AI = w.2.2.2.1 ∧ AJ = w.2.2.2.2.1 ∧ AR = w.2.2.2.2.2 ∧ (gInv g gh R AR (w.1) AI) ∧ (pS g gh R (w.1) a q ln) ∧ (pF a ln I (w.1)) ∧ (0 ≤ z ∧ z ≤ 5) ∧ (z = (sTwo b n nr nt cl h).1) ∧ (pH gh AR (w.1) J AI AJ a q b n tl nr nt cl (sTwo b n nr nt cl h).2.1) ∧ (pIm z (((w.1) ln 2).toInt) ((sTwo b n nr nt cl h).2.2)))) ([.ref a] : List Value).toArray s 0 0 (gA g)) (F0 m 0 ls []) by
    rw [hHe, hlo] at hw; exact hw
  clear hHe hlo
  have pf : pF a ln I I := pF_r
  have iX5 : ∀ w ∈ u_ws RX5 TX5 5, w ∈ wsX1_readTwoAlike := (by decide +kernel)
  have iX2 : ∀ w ∈ u_ws RX2 TX2 3, w ∈ wsX1_readTwoAlike := (by decide +kernel)
  have iX1 : ∀ w ∈ u_ws RX1 TX1 4, w ∈ wsX1_readTwoAlike := (by decide +kernel)
  have iX0 : ∀ w ∈ u_ws RX0 TX0 15, w ∈ wsX1_readTwoAlike := (by decide +kernel)
  have k21 : Cond.fieldLink RX1 21 (TX1 1).1 (TX1 1).2.1 (TX1 1).2.2.1 ∈ wsX1_readTwoAlike := List.mem_of_getElem? (i := 1) rfl
  have k12 : Cond.fieldLink RX1 12 (TX1 0).1 (TX1 0).2.1 (TX1 0).2.2.1 ∈ wsX1_readTwoAlike := List.mem_of_getElem? (i := 2) rfl
  have k93 : Cond.fieldLink RX1 93 (TX5 3).1 (TX5 3).2.1 (TX5 3).2.2.1 ∈ wsX1_readTwoAlike := List.mem_of_getElem? (i := 3) rfl
  have k44 : Cond.fieldLink RX1 44 (TX1 3).1 (TX1 3).2.1 (TX1 3).2.2.1 ∈ wsX1_readTwoAlike := List.mem_of_getElem? (i := 4) rfl
  have k25 : Cond.fieldLink RX1 25 (TX2 0).1 (TX2 0).2.1 (TX2 0).2.2.1 ∈ wsX1_readTwoAlike := List.mem_of_getElem? (i := 5) rfl
  have k136 : Cond.fieldLink RX1 136 (TX0 2).1 (TX0 2).2.1 (TX0 2).2.2.1 ∈ wsX1_readTwoAlike := List.mem_of_getElem? (i := 6) rfl
  have k29 : Cond.fieldLink RX1 29 (TX1 2).1 (TX1 2).2.1 (TX1 2).2.2.1 ∈ wsX1_readTwoAlike := List.mem_of_getElem? (i := 7) rfl
  have k143 : Cond.fieldLink RX1 143 (TX0 5).1 (TX0 5).2.1 (TX0 5).2.2.1 ∈ wsX1_readTwoAlike := List.mem_of_getElem? (i := 8) rfl
  refine lv_aload_n F.1 F.2.1 dX1_readTwoAlike_0 rfl (lv_at hl 0 rfl) ?_
  refine g_calli (g_runV (As := []) (rest := []) (ci := 1) F hl.1 hH hS hz (c_X1_readFirstf l g gh q ln b n tl nr nt cl h I R J AI AJ AR a hv hp (by omega) hP) (cwV 0 F.2.2.2.2.1 gX1_readTwoAlike_X1_readFirst rfl rfl rfl hdX1_readFirst ⟨Nat.le_of_ble_eq_true rfl, Nat.le_of_ble_eq_true rfl⟩) hp.1 (by decide) rfl rfl rfl (Nat.le_of_ble_eq_true rfl) dX1_readTwoAlike_1 ⟨Nat.zero_le _, Nat.zero_le _⟩) hS (fun v_7 I_1 R_2 J_3 AI_4 AJ_5 AR_6 H locs zv_7 hp_8 hH hS => ?_)
  dsimp only at hp_8
  obtain ⟨r_9, er_9⟩ : ∃ qQ : pR, qQ = sRl b n nr nt cl h := ⟨_, rfl⟩
  rw [← er_9] at hp_8
  obtain ⟨rfl, rfl, rfl, rfl, rfl, hv, hp, pfq, k8q, q_10, q_11, hP, q_12, q_13⟩ := hp_8
  have pf := pF_t pf pfq
  have u_14q : (I_1 q 1).toInt = (I q 1).toInt := by rw [pF_q hp pfq]
  have u_14_0 : (I_1 ln 0).toInt = (I ln 0).toInt := by rw [pfq.2]
  have u_14_8 : (I_1 ln 8).toInt = (I ln 8).toInt := by rw [k8q]
  refine lv_istore_n (lv' := [(1, .int (iI v_7)), (0, .ref a)]) F.1 F.2.1 dX1_readTwoAlike_4 rfl hl (by decide) rfl (fun ls hl => ?_)
  refine lv_iload_n F.1 F.2.1 dX1_readTwoAlike_5 rfl (lv_at hl 0 rfl) ?_
  refine z_if_ne (tgt := 14) F dX1_readTwoAlike_6 (by decide) zv_7 (fun c_15 => ?_) (fun c_15 => ?_)
  · refine lv_iload_n F.1 F.2.1 dX1_readTwoAlike_14 rfl (lv_at hl 0 rfl) ?_
    refine z_if_eq (tgt := 20) F dX1_readTwoAlike_15 (by decide) zv_7 (fun c_16 => ?_) (fun c_16 => ?_)
    · exact absurd trivial (by omega)
    · refine lv_iload_n F.1 F.2.1 dX1_readTwoAlike_18 rfl (lv_at hl 0 rfl) ?_
      have hfin : sTwo b n nr nt cl h = r_9 := by
        unfold sTwo
        repeat (first | with_reducible rfl | refine ite_y (by omega) ?_ | refine ite_n (by omega) ?_ | exact er_9.symm | exact thn_x er_9 (by omega) | exact pr_e (by omega) (by omega) (by omega))
      exact g_iret F hr hlk hH hS hz zv_7 ⟨rfl, rfl, rfl, rfl, rfl, hv, hp, pf, by first | omega | rfl | (dsimp only; omega), by (try dsimp only); rw [hfin]; first | done | omega | rfl, by (try dsimp only); rw [hfin]; exact hP, by (try dsimp only); first | exact pIm_n (by omega) | (rw [hfin]; (try dsimp only); exact pIm_y (by first | omega | rfl)) | exact pIm_y (by omega) | (rw [hfin]; (try dsimp only); exact fun h9 => by have q9 := q_13 h9; (try dsimp only at q9); omega)⟩ dX1_readTwoAlike_19
  · have t_17 := q_13 (by omega)
    refine lv_aload_n F.1 F.2.1 dX1_readTwoAlike_9 rfl (lv_at hl 1 rfl) ?_
    refine g_calli (g_runV (As := []) (rest := []) (ci := 1) F hl.1 hH hS hz (c_X1_seeRelationf l g gh q ln b n tl nr nt cl r_9.2.1 I_1 R J AI AJ AR a hv hp hP) (cwV 0 F.2.2.2.2.1 gX1_readTwoAlike_X1_seeRelation rfl rfl rfl hdX1_seeRelation ⟨Nat.le_of_ble_eq_true rfl, Nat.le_of_ble_eq_true rfl⟩) hp.1 (by decide) rfl rfl rfl (Nat.le_of_ble_eq_true rfl) dX1_readTwoAlike_10 ⟨Nat.zero_le _, Nat.zero_le _⟩) hS (fun v_24 I_18 R_19 J_20 AI_21 AJ_22 AR_23 H locs zv_24 hp_25 hH hS => ?_)
    dsimp only at hp_25
    obtain ⟨rfl, rfl, rfl, rfl, rfl, rfl, qz, qs, qf⟩ := hp_25
    refine lv_istore_n (lv' := [(1, .int (iI v_24)), (0, .ref a)]) F.1 F.2.1 dX1_readTwoAlike_13 rfl hl (by decide) rfl (fun ls hl => ?_)
    refine lv_iload_n F.1 F.2.1 dX1_readTwoAlike_14 rfl (lv_at hl 0 rfl) ?_
    refine z_if_eq (tgt := 20) F dX1_readTwoAlike_15 (by decide) zv_24 (fun c_26 => ?_) (fun c_26 => ?_)
    · refine lv_aload_n F.1 F.2.1 dX1_readTwoAlike_20 rfl (lv_at hl 1 rfl) ?_
      refine g_getR (ci := 1) (k := 1) F hH rfl (by decide) iX1 hp.1 (by decide) rfl (b := q) hp.2.1 k21 dX1_readTwoAlike_21 ?_
      refine lv_aload_n F.1 F.2.1 dX1_readTwoAlike_24 rfl (lv_at hl 1 rfl) ?_
      refine g_getR (ci := 1) (k := 0) F hH rfl (by decide) iX1 hp.1 (by decide) rfl (b := gh 22 0) (gR_pr0 hv hp.1).1 k12 dX1_readTwoAlike_25 ?_
      obtain ⟨r_27a, r_27b⟩ := gR_tk3 hv (gR_pr0 hv hp.1).2
      refine g_getR (ci := 5) (k := 3) F hH rfl (by decide) iX5 (gR_pr0 hv hp.1).2 (by decide) rfl (b := gh 27 0) r_27a k93 dX1_readTwoAlike_28 ?_
      refine lv_aload_n F.1 F.2.1 dX1_readTwoAlike_31 rfl (lv_at hl 1 rfl) ?_
      refine g_getI (ci := 1) (k := 3) F hH rfl (by decide) iX1 hp.1 (by decide) rfl k44 dX1_readTwoAlike_32 ?_
      have b_28h := hp.2.2.2.2.2.2.2
      have b_28 := gI_pr hv hp.1
      have b_28t := gI_tk hv (gR_pr0 hv hp.1).2
      have hx35 : 0 ≤ ((I_1 a 3).toInt) ∧ ((I_1 a 3).toInt) < ((901 : Nat) : Int) ∧ ((I_1 a 3).toInt) ≤ 2147483647 := ⟨by omega, by omega, by omega⟩
      refine g_lald F hH r_27b hx35.1 hx35.2.1 hx35.2.2 dX1_readTwoAlike_35 ?_
      refine lv_topl (fun j_29 ej_29 => ?_)
      have ejn := ej_29
      have b_30 := gI_plan hv hp.2.2.1
      refine g_calli (g_runV (As := [.long j_29]) (rest := []) (ci := 2) F hl.1 hH hS hz (c_X2_relationOf l g gh I_1 R J AI AJ AR q j_29 hv hp.2.2.1) (cwV 1 F.2.2.2.2.1 gX1_readTwoAlike_X2_relationOf rfl rfl rfl hdX2_relationOf ⟨Nat.le_of_ble_eq_true rfl, Nat.le_of_ble_eq_true rfl⟩) hp.2.2.1 (by decide) rfl rfl rfl (Nat.le_of_ble_eq_true rfl) dX1_readTwoAlike_36 ⟨Nat.zero_le _, Nat.zero_le _⟩) hS (fun v_37 I_31 R_32 J_33 AI_34 AJ_35 AR_36 H locs zv_37 hp_38 hH hS => ?_)
      dsimp only at hp_38
      obtain ⟨rfl, rfl, rfl, rfl, rfl, rfl, qr⟩ := hp_38
      have hfd : v_37 = pFd b n nt nr (r_9.2.1) := pH_fd hv hp.2.2.1 hP ejn qr
      have hvr : 0 ≤ v_37 ∧ v_37 < (I_1 q 1).toInt := by
        rcases qr with ⟨h, h2⟩ | ⟨h1, h2, b, h3, h4⟩
        · obtain ⟨j, b, hj, hb, hJ⟩ := qs (by omega)
          exact absurd (hJ.trans ejn.symm) (h2 j hj b hb)
        · exact ⟨h1, h2⟩
      clear qs qr
      refine lv_istore_n (lv' := [(2, .int (iI v_37)), (1, .int (iI v_24)), (0, .ref a)]) F.1 F.2.1 dX1_readTwoAlike_39 rfl hl (by decide) rfl (fun ls hl => ?_)
      refine lv_aload_n F.1 F.2.1 dX1_readTwoAlike_40 rfl (lv_at hl 2 rfl) ?_
      refine g_getR (ci := 1) (k := 1) F hH rfl (by decide) iX1 hp.1 (by decide) rfl (b := q) hp.2.1 k21 dX1_readTwoAlike_41 ?_
      obtain ⟨r_39a, r_39b⟩ := gR_lines hv hp.2.2.1
      refine g_getR (ci := 2) (k := 0) F hH rfl (by decide) iX2 hp.2.2.1 (by decide) rfl (b := gh 6 q) r_39a k25 dX1_readTwoAlike_44 ?_
      refine lv_iload_n F.1 F.2.1 dX1_readTwoAlike_47 rfl (lv_at hl 0 rfl) ?_
      have hx48 : 0 ≤ v_37 ∧ v_37 < ((16 : Nat) : Int) ∧ v_37 ≤ 2147483647 := ⟨by omega, by omega, by omega⟩
      obtain ⟨y_40, y_40a, y_40b, y_40c, y_40d⟩ := gA_lines hv hp.2.2.1 (z := v_37) (by omega) (by omega)
      refine g_aldL F hH r_39b hx48.1 hx48.2.1 hx48.2.2 (b := y_40) y_40a dX1_readTwoAlike_48 ?_
      have hcl : (I_1 y_40 2).toInt = cF b n nr nt cl (r_9.2.1) := (pH_c hP (by omega) (by omega) y_40a).trans (by unfold cF; rw [hfd])
      have hrf : pRf b n nt nr (r_9.2.1) = 0 := by omega
      refine g_getI (ci := 0) (k := 2) F hH rfl (by decide) iX0 y_40b (by decide) rfl k136 dX1_readTwoAlike_49 ?_
      have b_41 := gI_line hv y_40b
      unfold vLineI at b_41
      refine lv_aload_n F.1 F.2.1 dX1_readTwoAlike_52 rfl (lv_at hl 2 rfl) ?_
      refine g_getR (ci := 1) (k := 2) F hH rfl (by decide) iX1 hp.1 (by decide) rfl (b := ln) hp.2.2.2.1 k29 dX1_readTwoAlike_53 ?_
      refine g_getI (ci := 0) (k := 5) F hH rfl (by decide) iX0 hp.2.2.2.2.1 (by decide) rfl k143 dX1_readTwoAlike_56 ?_
      have b_42 := gI_line hv hp.2.2.2.2.1
      unfold vLineI at b_42
      refine z_icmp_eq (tgt := 64) F dX1_readTwoAlike_59 (by decide) (zr_t _) (zr_t _) (fun c_43 => ?_) (fun c_43 => ?_)
      · refine lv_aload_n F.1 F.2.1 dX1_readTwoAlike_64 rfl (lv_at hl 2 rfl) ?_
        refine g_getR (ci := 1) (k := 2) F hH rfl (by decide) iX1 hp.1 (by decide) rfl (b := ln) hp.2.2.2.1 k29 dX1_readTwoAlike_65 ?_
        refine lv_aload_n F.1 F.2.1 dX1_readTwoAlike_68 rfl (lv_at hl 2 rfl) ?_
        refine g_getR (ci := 1) (k := 2) F hH rfl (by decide) iX1 hp.1 (by decide) rfl (b := ln) hp.2.2.2.1 k29 dX1_readTwoAlike_69 ?_
        refine g_getI (ci := 0) (k := 5) F hH rfl (by decide) iX0 hp.2.2.2.2.1 (by decide) rfl k143 dX1_readTwoAlike_72 ?_
        refine g_putI (ci := 0) (k := 2) F hH hS rfl (by decide) iX0 hp.2.2.2.2.1 (by decide) tyX0 tyX0_ok nmX0 rfl rfl rfl k136 dX1_readTwoAlike_75 (fun H locs hH hS => ?_)
        obtain ⟨I_44, eI_44⟩ : ∃ qQ, qQ = gup2 I_1 ln 2 (iI ((I_1 ln 5).toInt)) := ⟨_, rfl⟩
        rw [← eI_44] at hH
        have kI_44 : ∀ b, b ≠ ln → I_44 b = I_1 b := fun b hb => by rw [eI_44]; exact funext fun j => gup2_a _ _ hb
        have hP := pH_ln hv hp hP kI_44
        have w_45 : (I_44 ln 2).toInt = (I_1 ln 5).toInt := by rw [eI_44, gup2_s]; exact iI_val ⟨by omega, by omega⟩
        have hp2 : pS g gh R I_44 a q ln := pS_ln hv hp kI_44
        have hv : gInv g gh R AR I_44 AI := by rw [eI_44]; exact gInv_line2 hv hp.2.2.2.2.1 (by omega) (by omega) (pS_col hp)
        have hp := hp2
        have pf : pF a ln I I_44 := pF_t pf (by rw [eI_44]; exact pF_ln (by decide))
        have w_45_k : ∀ j, j ≠ 2 → I_44 ln j = I_1 ln j := fun j hj => by rw [eI_44]; exact gup2_k _ _ hj
        have u_46q : (I_44 q 1).toInt = (I_1 q 1).toInt := by rw [kI_44 q (gO_ne hp.2.2.1 hp.2.2.2.2.1 (by decide))]
        have u_46_0 : (I_44 ln 0).toInt = (I_1 ln 0).toInt := by rw [w_45_k 0 (by decide)]
        have u_46_8 : (I_44 ln 8).toInt = (I_1 ln 8).toInt := by rw [w_45_k 8 (by decide)]
        have u_47 : (I_44 ln 5).toInt = (I_1 ln 5).toInt := by rw [w_45_k 5 (by decide)]
        have u_48 : (I_44 ln 6).toInt = (I_1 ln 6).toInt := by rw [w_45_k 6 (by decide)]
        have u_49 : (I_44 ln 9).toInt = (I_1 ln 9).toInt := by rw [w_45_k 9 (by decide)]
        have u_50 : (I_44 ln 10).toInt = (I_1 ln 10).toInt := by rw [w_45_k 10 (by decide)]
        refine lv_aload_n F.1 F.2.1 dX1_readTwoAlike_78 rfl (lv_at hl 2 rfl) ?_
        refine g_calli (g_runV (As := []) (rest := []) (ci := 1) F hl.1 hH hS hz (c_X1_readSecondf l g gh q ln b n tl nr nt cl r_9.2.1 I_44 R J AI AJ AR a hv hp (by omega) hP) (cwV 0 F.2.2.2.2.1 gX1_readTwoAlike_X1_readSecond rfl rfl rfl hdX1_readSecond ⟨Nat.le_of_ble_eq_true rfl, Nat.le_of_ble_eq_true rfl⟩) hp.1 (by decide) rfl rfl rfl (Nat.le_of_ble_eq_true rfl) dX1_readTwoAlike_79 ⟨Nat.zero_le _, Nat.zero_le _⟩) hS (fun v_57 I_51 R_52 J_53 AI_54 AJ_55 AR_56 H locs zv_57 hp_58 hH hS => ?_)
        dsimp only at hp_58
        obtain ⟨r_59, er_59⟩ : ∃ qQ : pR, qQ = sRl b n nr nt cl r_9.2.1 := ⟨_, rfl⟩
        rw [← er_59] at hp_58
        obtain ⟨rfl, rfl, rfl, rfl, rfl, hv, hp, pfq, k8q, q_60, q_61, hP, q_62, q_63⟩ := hp_58
        have pf := pF_t pf pfq
        have u_64q : (I_51 q 1).toInt = (I_44 q 1).toInt := by rw [pF_q hp pfq]
        have u_64_0 : (I_51 ln 0).toInt = (I_44 ln 0).toInt := by rw [pfq.2]
        have u_64_8 : (I_51 ln 8).toInt = (I_44 ln 8).toInt := by rw [k8q]
        have hr2 : r_59 = (0, r_9.2.1 + 1, cF b n nr nt cl (r_9.2.1)) := by rw [er_59]; exact ite_y (by omega) rfl
        have hfin : sTwo b n nr nt cl h = (r_59.1, r_59.2.1, r_9.2.2) := by
          rw [hr2]; unfold sTwo
          exact thn_y er_9 (by omega) (ite_y (by omega) (ite_y (by omega) rfl))
        exact g_iret F hr hlk hH hS hz zv_57 ⟨rfl, rfl, rfl, rfl, rfl, hv, hp, pf, by first | omega | rfl | (dsimp only; omega), by (try dsimp only); rw [hfin]; first | done | omega | rfl, by (try dsimp only); rw [hfin]; exact hP, by (try dsimp only); first | exact pIm_n (by omega) | (rw [hfin]; (try dsimp only); exact pIm_y (by first | omega | rfl)) | exact pIm_y (by omega) | (rw [hfin]; (try dsimp only); exact fun h9 => by have q9 := q_63 h9; (try dsimp only at q9); omega)⟩ dX1_readTwoAlike_82
      · refine z_iconst F dX1_readTwoAlike_62 ?_
        have hfin : sTwo b n nr nt cl h = (5, r_9.2.1, 0) := by
          unfold sTwo
          repeat (first | with_reducible rfl | refine ite_y (by omega) ?_ | refine ite_n (by omega) ?_ | refine thn_y er_9 (by omega) ?_ | exact pr_e (by omega) (by omega) (by omega))
        exact g_iret F hr hlk hH hS hz ⟨by decide, by decide⟩ ⟨rfl, rfl, rfl, rfl, rfl, hv, hp, pf, by first | omega | rfl | (dsimp only; omega), by (try dsimp only); rw [hfin]; first | done | omega | rfl, by (try dsimp only); rw [hfin]; exact hP, by (try dsimp only); first | exact pIm_n (by omega) | (rw [hfin]; (try dsimp only); exact pIm_y (by first | omega | rfl)) | exact pIm_y (by omega)⟩ dX1_readTwoAlike_63
    · refine lv_iload_n F.1 F.2.1 dX1_readTwoAlike_18 rfl (lv_at hl 0 rfl) ?_
      have hfin : sTwo b n nr nt cl h = (v_24, r_9.2.1, 0) := by
        unfold sTwo
        repeat (first | with_reducible rfl | refine ite_y (by omega) ?_ | refine ite_n (by omega) ?_ | refine thn_y er_9 (by omega) ?_ | exact pr_e (by omega) (by omega) (by omega))
      exact g_iret F hr hlk hH hS hz zv_24 ⟨rfl, rfl, rfl, rfl, rfl, hv, hp, pf, by first | omega | rfl | (dsimp only; omega), by (try dsimp only); rw [hfin]; first | done | omega | rfl, by (try dsimp only); rw [hfin]; exact hP, by (try dsimp only); first | exact pIm_n (by omega) | (rw [hfin]; (try dsimp only); exact pIm_y (by first | omega | rfl)) | exact pIm_y (by omega)⟩ dX1_readTwoAlike_19

def rmX1_readGroupf : Room := { frames := 4, cells := 0, slots := 0, locals := 86 }
set_option maxHeartbeats 4000000 in
set_option maxRecDepth 100000 in
/-- a group -/
theorem c_X1_readGroupf (l : Launch) (g : gG) (gh : gGh) (q ln : Nat) (b : tTx) (n : Nat) (tl : Int) (nr : Nat) (nt : Nat → Nat) (cl : Nat → Int) (h : Nat) (I : gI) (R : gR) (J : gJ) (AI : gI) (AJ : gJ) (AR : gR) (a : Nat) (hv : gInv g gh R AR I AI) (hp : pS g gh R I a q ln) (hk : (I ln 0).toInt = 7) (hP : pH gh AR I J AI AJ a q b n tl nr nt cl h) (hk8 : (I ln 8).toInt = 0) : gMet l g yX1_readGroup wsX1_readGroup rmX1_readGroupf [.ref a] (I, R, J, AI, AJ, AR) (gQi g (fun (z : Int) (w : gS) => R = w.2.1 ∧ J = w.2.2.1 ∧ AJ = w.2.2.2.2.1 ∧ AR = w.2.2.2.2.2 ∧ (gInv g gh R AR (w.1) (w.2.2.2.1)) ∧ (pS g gh R (w.1) a q ln) ∧ (pF a ln I (w.1)) ∧ (0 ≤ z ∧ z ≤ 4) ∧ (z = (sGrp b n nr nt cl h).1) ∧ (pH gh AR (w.1) J (w.2.2.2.1) AJ a q b n tl nr nt cl (sGrp b n nr nt cl h).2.1) ∧ (pIm z (((w.1) ln 2).toInt) ((sGrp b n nr nt cl h).2.2)))) := by
  refine gStart (cc := cX1_readGroup) (maxL := 2) (ret := (some (.int))) (by decide) rfl (Nat.le_of_ble_eq_true rfl) ?_
  intro p e s m below meth c ls F hr hlk hH hz hS hl
  have hl : lv_has ls 2 [(0, .ref a)] := hl
  have hS : va_S (gA g) s.heap s.heap [] := hS
  obtain ⟨H, hHe⟩ : ∃ H : Heap, H = s.heap := ⟨_, rfl⟩
  obtain ⟨locs, hlo⟩ : ∃ k : List Loc, k = [] := ⟨_, rfl⟩
  have hH : gH g I R J AI AJ AR H := by rw [hHe]; exact hH
  have hS : va_S (gA g) s.heap H locs := by rw [hHe, hlo]; exact hS
  suffices hw : W p l e rmX1_readGroupf s m ([.ref a] : List Value).toArray below meth c H locs 0 0 (MQ below (gQi g (fun (z : Int) (w : gS) => R = w.2.1 ∧ J = w.2.2.1 ∧ AJ = w.2.2.2.2.1 ∧ AR = w.2.2.2.2.2 ∧ (gInv g gh R AR (w.1) (w.2.2.2.1)) ∧ (pS g gh R (w.1) a q ln) ∧ (pF a ln I (w.1)) ∧ (0 ≤ z ∧ z ≤ 4) ∧ (z = (sGrp b n nr nt cl h).1) ∧ (pH gh AR (w.1) J (w.2.2.2.1) AJ a q b n tl nr nt cl (sGrp b n nr nt cl h).2.1) ∧ (pIm z (((w.1) ln 2).toInt) ((sGrp b n nr nt cl h).2.2)))) ([.ref a] : List Value).toArray s 0 0 (gA g)) (F0 m 0 ls []) by
    rw [hHe, hlo] at hw; exact hw
  clear hHe hlo
  have pf : pF a ln I I := pF_r
  have iX1 : ∀ w ∈ u_ws RX1 TX1 4, w ∈ wsX1_readGroup := (by decide +kernel)
  have iX0 : ∀ w ∈ u_ws RX0 TX0 15, w ∈ wsX1_readGroup := (by decide +kernel)
  have k29 : Cond.fieldLink RX1 29 (TX1 2).1 (TX1 2).2.1 (TX1 2).2.2.1 ∈ wsX1_readGroup := List.mem_of_getElem? (i := 1) rfl
  have k149 : Cond.fieldLink RX1 149 (TX0 8).1 (TX0 8).2.1 (TX0 8).2.2.1 ∈ wsX1_readGroup := List.mem_of_getElem? (i := 2) rfl
  have k136 : Cond.fieldLink RX1 136 (TX0 2).1 (TX0 2).2.1 (TX0 2).2.2.1 ∈ wsX1_readGroup := List.mem_of_getElem? (i := 3) rfl
  refine lv_aload_n F.1 F.2.1 dX1_readGroup_0 rfl (lv_at hl 0 rfl) ?_
  refine g_calli (g_runV (As := []) (rest := []) (ci := 1) F hl.1 hH hS hz (c_X1_readFirstf l g gh q ln b n tl nr nt cl h I R J AI AJ AR a hv hp (by omega) hP) (cwV 0 F.2.2.2.2.1 gX1_readGroup_X1_readFirst rfl rfl rfl hdX1_readFirst ⟨Nat.le_of_ble_eq_true rfl, Nat.le_of_ble_eq_true rfl⟩) hp.1 (by decide) rfl rfl rfl (Nat.le_of_ble_eq_true rfl) dX1_readGroup_1 ⟨Nat.zero_le _, Nat.zero_le _⟩) hS (fun v_7 I_1 R_2 J_3 AI_4 AJ_5 AR_6 H locs zv_7 hp_8 hH hS => ?_)
  dsimp only at hp_8
  obtain ⟨r_9, er_9⟩ : ∃ qQ : pR, qQ = sRl b n nr nt cl h := ⟨_, rfl⟩
  rw [← er_9] at hp_8
  obtain ⟨rfl, rfl, rfl, rfl, rfl, hv, hp, pfq, k8q, q_10, q_11, hP, q_12, q_13⟩ := hp_8
  have pf := pF_t pf pfq
  have u_14q : (I_1 q 1).toInt = (I q 1).toInt := by rw [pF_q hp pfq]
  have u_14_0 : (I_1 ln 0).toInt = (I ln 0).toInt := by rw [pfq.2]
  have u_14_8 : (I_1 ln 8).toInt = (I ln 8).toInt := by rw [k8q]
  refine lv_istore_n (lv' := [(1, .int (iI v_7)), (0, .ref a)]) F.1 F.2.1 dX1_readGroup_4 rfl hl (by decide) rfl (fun ls hl => ?_)
  refine lv_iload_n F.1 F.2.1 dX1_readGroup_5 rfl (lv_at hl 0 rfl) ?_
  refine z_if_ne (tgt := 16) F dX1_readGroup_6 (by decide) zv_7 (fun c_15 => ?_) (fun c_15 => ?_)
  · refine lv_iload_n F.1 F.2.1 dX1_readGroup_16 rfl (lv_at hl 0 rfl) ?_
    refine z_if_ne (tgt := 25) F dX1_readGroup_17 (by decide) zv_7 (fun c_16 => ?_) (fun c_16 => ?_)
    · refine lv_iload_n F.1 F.2.1 dX1_readGroup_25 rfl (lv_at hl 0 rfl) ?_
      refine z_if_ne (tgt := 34) F dX1_readGroup_26 (by decide) zv_7 (fun c_17 => ?_) (fun c_17 => ?_)
      · refine lv_aload_n F.1 F.2.1 dX1_readGroup_34 rfl (lv_at hl 1 rfl) ?_
        refine g_getR (ci := 1) (k := 2) F hH rfl (by decide) iX1 hp.1 (by decide) rfl (b := ln) hp.2.2.2.1 k29 dX1_readGroup_35 ?_
        refine lv_aload_n F.1 F.2.1 dX1_readGroup_38 rfl (lv_at hl 1 rfl) ?_
        refine g_getR (ci := 1) (k := 2) F hH rfl (by decide) iX1 hp.1 (by decide) rfl (b := ln) hp.2.2.2.1 k29 dX1_readGroup_39 ?_
        refine g_getI (ci := 0) (k := 8) F hH rfl (by decide) iX0 hp.2.2.2.2.1 (by decide) rfl k149 dX1_readGroup_42 ?_
        have b_18 := gI_line hv hp.2.2.2.2.1
        unfold vLineI at b_18
        refine z_iconst F dX1_readGroup_45 ?_
        refine z_iadd F dX1_readGroup_46 ?_
        refine g_putI (ci := 0) (k := 2) F hH hS rfl (by decide) iX0 hp.2.2.2.2.1 (by decide) tyX0 tyX0_ok nmX0 rfl rfl rfl k136 dX1_readGroup_47 (fun H locs hH hS => ?_)
        obtain ⟨I_19, eI_19⟩ : ∃ qQ, qQ = gup2 I_1 ln 2 (iI (((I_1 ln 8).toInt) + 1)) := ⟨_, rfl⟩
        rw [← eI_19] at hH
        have kI_19 : ∀ b, b ≠ ln → I_19 b = I_1 b := fun b hb => by rw [eI_19]; exact funext fun j => gup2_a _ _ hb
        have hP := pH_ln hv hp hP kI_19
        have w_20 : (I_19 ln 2).toInt = ((I_1 ln 8).toInt) + 1 := by rw [eI_19, gup2_s]; exact iI_val ⟨by omega, by omega⟩
        have hp2 : pS g gh R I_19 a q ln := pS_ln hv hp kI_19
        have hv : gInv g gh R AR I_19 AI := by rw [eI_19]; exact gInv_line2 hv hp.2.2.2.2.1 (by omega) (by omega) (pS_col hp)
        have hp := hp2
        have pf : pF a ln I I_19 := pF_t pf (by rw [eI_19]; exact pF_ln (by decide))
        have w_20_k : ∀ j, j ≠ 2 → I_19 ln j = I_1 ln j := fun j hj => by rw [eI_19]; exact gup2_k _ _ hj
        have u_21q : (I_19 q 1).toInt = (I_1 q 1).toInt := by rw [kI_19 q (gO_ne hp.2.2.1 hp.2.2.2.2.1 (by decide))]
        have u_21_0 : (I_19 ln 0).toInt = (I_1 ln 0).toInt := by rw [w_20_k 0 (by decide)]
        have u_21_8 : (I_19 ln 8).toInt = (I_1 ln 8).toInt := by rw [w_20_k 8 (by decide)]
        have u_22 : (I_19 ln 5).toInt = (I_1 ln 5).toInt := by rw [w_20_k 5 (by decide)]
        have u_23 : (I_19 ln 6).toInt = (I_1 ln 6).toInt := by rw [w_20_k 6 (by decide)]
        have u_24 : (I_19 ln 9).toInt = (I_1 ln 9).toInt := by rw [w_20_k 9 (by decide)]
        have u_25 : (I_19 ln 10).toInt = (I_1 ln 10).toInt := by rw [w_20_k 10 (by decide)]
        refine lv_iload_n F.1 F.2.1 dX1_readGroup_50 rfl (lv_at hl 0 rfl) ?_
        have hfin : sGrp b n nr nt cl h = r_9 := by
          unfold sGrp
          repeat (first | with_reducible rfl | refine ite_y (by omega) ?_ | refine ite_n (by omega) ?_ | exact er_9.symm | exact thn_x er_9 (by omega) | exact pr_e (by omega) (by omega) (by omega))
        exact g_iret F hr hlk hH hS hz zv_7 ⟨rfl, rfl, rfl, rfl, hv, hp, pf, by first | omega | rfl | (dsimp only; omega), by (try dsimp only); rw [hfin]; first | done | omega | rfl, by (try dsimp only); rw [hfin]; exact hP, by (try dsimp only); first | exact pIm_n (by omega) | (rw [hfin]; exact fun h => by have q9 := hx7 h; omega)⟩ dX1_readGroup_51
      · exact absurd trivial (by omega)
    · exact absurd trivial (by omega)
  · have t_26 := q_13 (by omega)
    refine lv_aload_n F.1 F.2.1 dX1_readGroup_9 rfl (lv_at hl 1 rfl) ?_
    refine z_bipush F dX1_readGroup_10 (by decide) ?_
    refine g_calli (g_runV (As := [.int (iI 13)]) (rest := []) (ci := 1) F hl.1 hH hS hz (c_X1_takeWordf l g gh q ln b n tl nr nt cl r_9.2.1 I_1 R J AI AJ AR a 13 ⟨by decide, by decide⟩ hv hp hP) (cwV 1 F.2.2.2.2.1 gX1_readGroup_X1_takeWord rfl rfl rfl hdX1_takeWord ⟨Nat.le_of_ble_eq_true rfl, Nat.le_of_ble_eq_true rfl⟩) hp.1 (by decide) rfl rfl rfl (Nat.le_of_ble_eq_true rfl) dX1_readGroup_12 ⟨Nat.zero_le _, Nat.zero_le _⟩) hS (fun v_33 I_27 R_28 J_29 AI_30 AJ_31 AR_32 H locs zv_33 hp_34 hH hS => ?_)
    dsimp only at hp_34
    obtain ⟨r_35, er_35⟩ : ∃ qQ : pR, qQ = sTw b n 13 r_9.2.1 := ⟨_, rfl⟩
    rw [← er_35] at hp_34
    obtain ⟨rfl, rfl, rfl, rfl, rfl, hv, hp, pfq, flq, q_36, q_37, hP⟩ := hp_34
    have pf := pF_t pf pfq
    have u_38q : (I_27 q 1).toInt = (I_1 q 1).toInt := by rw [pF_q hp pfq]
    have u_38_0 : (I_27 ln 0).toInt = (I_1 ln 0).toInt := by rw [pfq.2]
    have u_38_8 : (I_27 ln 8).toInt = (I_1 ln 8).toInt := by rw [flq]
    have u_39 : (I_27 ln 2).toInt = (I_1 ln 2).toInt := by rw [flq]
    have u_40 : (I_27 ln 5).toInt = (I_1 ln 5).toInt := by rw [flq]
    have u_41 : (I_27 ln 6).toInt = (I_1 ln 6).toInt := by rw [flq]
    have u_42 : (I_27 ln 9).toInt = (I_1 ln 9).toInt := by rw [flq]
    have u_43 : (I_27 ln 10).toInt = (I_1 ln 10).toInt := by rw [flq]
    refine lv_istore_n (lv' := [(1, .int (iI v_33)), (0, .ref a)]) F.1 F.2.1 dX1_readGroup_15 rfl hl (by decide) rfl (fun ls hl => ?_)
    refine lv_iload_n F.1 F.2.1 dX1_readGroup_16 rfl (lv_at hl 0 rfl) ?_
    refine z_if_ne (tgt := 25) F dX1_readGroup_17 (by decide) zv_33 (fun c_44 => ?_) (fun c_44 => ?_)
    · refine lv_iload_n F.1 F.2.1 dX1_readGroup_25 rfl (lv_at hl 0 rfl) ?_
      refine z_if_ne (tgt := 34) F dX1_readGroup_26 (by decide) zv_33 (fun c_45 => ?_) (fun c_45 => ?_)
      · refine lv_aload_n F.1 F.2.1 dX1_readGroup_34 rfl (lv_at hl 1 rfl) ?_
        refine g_getR (ci := 1) (k := 2) F hH rfl (by decide) iX1 hp.1 (by decide) rfl (b := ln) hp.2.2.2.1 k29 dX1_readGroup_35 ?_
        refine lv_aload_n F.1 F.2.1 dX1_readGroup_38 rfl (lv_at hl 1 rfl) ?_
        refine g_getR (ci := 1) (k := 2) F hH rfl (by decide) iX1 hp.1 (by decide) rfl (b := ln) hp.2.2.2.1 k29 dX1_readGroup_39 ?_
        refine g_getI (ci := 0) (k := 8) F hH rfl (by decide) iX0 hp.2.2.2.2.1 (by decide) rfl k149 dX1_readGroup_42 ?_
        have b_46 := gI_line hv hp.2.2.2.2.1
        unfold vLineI at b_46
        refine z_iconst F dX1_readGroup_45 ?_
        refine z_iadd F dX1_readGroup_46 ?_
        refine g_putI (ci := 0) (k := 2) F hH hS rfl (by decide) iX0 hp.2.2.2.2.1 (by decide) tyX0 tyX0_ok nmX0 rfl rfl rfl k136 dX1_readGroup_47 (fun H locs hH hS => ?_)
        obtain ⟨I_47, eI_47⟩ : ∃ qQ, qQ = gup2 I_27 ln 2 (iI (((I_27 ln 8).toInt) + 1)) := ⟨_, rfl⟩
        rw [← eI_47] at hH
        have kI_47 : ∀ b, b ≠ ln → I_47 b = I_27 b := fun b hb => by rw [eI_47]; exact funext fun j => gup2_a _ _ hb
        have hP := pH_ln hv hp hP kI_47
        have w_48 : (I_47 ln 2).toInt = ((I_27 ln 8).toInt) + 1 := by rw [eI_47, gup2_s]; exact iI_val ⟨by omega, by omega⟩
        have hp2 : pS g gh R I_47 a q ln := pS_ln hv hp kI_47
        have hv : gInv g gh R AR I_47 AI := by rw [eI_47]; exact gInv_line2 hv hp.2.2.2.2.1 (by omega) (by omega) (pS_col hp)
        have hp := hp2
        have pf : pF a ln I I_47 := pF_t pf (by rw [eI_47]; exact pF_ln (by decide))
        have w_48_k : ∀ j, j ≠ 2 → I_47 ln j = I_27 ln j := fun j hj => by rw [eI_47]; exact gup2_k _ _ hj
        have u_49q : (I_47 q 1).toInt = (I_27 q 1).toInt := by rw [kI_47 q (gO_ne hp.2.2.1 hp.2.2.2.2.1 (by decide))]
        have u_49_0 : (I_47 ln 0).toInt = (I_27 ln 0).toInt := by rw [w_48_k 0 (by decide)]
        have u_49_8 : (I_47 ln 8).toInt = (I_27 ln 8).toInt := by rw [w_48_k 8 (by decide)]
        have u_50 : (I_47 ln 5).toInt = (I_27 ln 5).toInt := by rw [w_48_k 5 (by decide)]
        have u_51 : (I_47 ln 6).toInt = (I_27 ln 6).toInt := by rw [w_48_k 6 (by decide)]
        have u_52 : (I_47 ln 9).toInt = (I_27 ln 9).toInt := by rw [w_48_k 9 (by decide)]
        have u_53 : (I_47 ln 10).toInt = (I_27 ln 10).toInt := by rw [w_48_k 10 (by decide)]
        refine lv_iload_n F.1 F.2.1 dX1_readGroup_50 rfl (lv_at hl 0 rfl) ?_
        have hfin : sGrp b n nr nt cl h = r_35 := by
          unfold sGrp
          repeat (first | with_reducible rfl | refine ite_y (by omega) ?_ | refine ite_n (by omega) ?_ | exact er_35.symm | exact thn_x er_35 (by omega) | refine thn_y er_9 (by omega) ?_ | exact pr_e (by omega) (by omega) (by omega))
        exact g_iret F hr hlk hH hS hz zv_33 ⟨rfl, rfl, rfl, rfl, hv, hp, pf, by first | omega | rfl | (dsimp only; omega), by (try dsimp only); rw [hfin]; first | done | omega | rfl, by (try dsimp only); rw [hfin]; exact hP, by (try dsimp only); first | exact pIm_n (by omega) | (rw [hfin]; exact fun h => by have q9 := hx7 h; omega)⟩ dX1_readGroup_51
      · exact absurd trivial (by omega)
    · refine lv_aload_n F.1 F.2.1 dX1_readGroup_20 rfl (lv_at hl 1 rfl) ?_
      refine g_calli (g_runV (As := []) (rest := []) (ci := 1) F hl.1 hH hS hz (c_X1_readByColumnsf l g gh q ln r_9.2.2 b n tl nr nt cl r_35.2.1 I_27 R J AI AJ AR a hv hp (by omega) hP (by omega) (by omega)) (cwV 0 F.2.2.2.2.1 gX1_readGroup_X1_readByColumns rfl rfl rfl hdX1_readByColumns ⟨Nat.le_of_ble_eq_true rfl, Nat.le_of_ble_eq_true rfl⟩) hp.1 (by decide) rfl rfl rfl (Nat.le_of_ble_eq_true rfl) dX1_readGroup_21 ⟨Nat.zero_le _, Nat.zero_le _⟩) hS (fun v_60 I_54 R_55 J_56 AI_57 AJ_58 AR_59 H locs zv_60 hp_61 hH hS => ?_)
      dsimp only at hp_61
      obtain ⟨r_62, er_62⟩ : ∃ qQ : pR, qQ = sBys b n r_9.2.2 4 0 [] r_35.2.1 := ⟨_, rfl⟩
      rw [← er_62] at hp_61
      obtain ⟨rfl, rfl, rfl, rfl, hv, hp, pfq, q_63, q_64, hP, q_65, q_66, q_67⟩ := hp_61
      have pf := pF_t pf pfq
      have u_68q : (I_54 q 1).toInt = (I_27 q 1).toInt := by rw [pF_q hp pfq]
      have u_68_0 : (I_54 ln 0).toInt = (I_27 ln 0).toInt := by rw [pfq.2]
      refine lv_istore_n (lv' := [(1, .int (iI v_60)), (0, .ref a)]) F.1 F.2.1 dX1_readGroup_24 rfl hl (by decide) rfl (fun ls hl => ?_)
      refine lv_iload_n F.1 F.2.1 dX1_readGroup_25 rfl (lv_at hl 0 rfl) ?_
      refine z_if_ne (tgt := 34) F dX1_readGroup_26 (by decide) zv_60 (fun c_69 => ?_) (fun c_69 => ?_)
      · refine lv_aload_n F.1 F.2.1 dX1_readGroup_34 rfl (lv_at hl 1 rfl) ?_
        refine g_getR (ci := 1) (k := 2) F hH rfl (by decide) iX1 hp.1 (by decide) rfl (b := ln) hp.2.2.2.1 k29 dX1_readGroup_35 ?_
        refine lv_aload_n F.1 F.2.1 dX1_readGroup_38 rfl (lv_at hl 1 rfl) ?_
        refine g_getR (ci := 1) (k := 2) F hH rfl (by decide) iX1 hp.1 (by decide) rfl (b := ln) hp.2.2.2.1 k29 dX1_readGroup_39 ?_
        refine g_getI (ci := 0) (k := 8) F hH rfl (by decide) iX0 hp.2.2.2.2.1 (by decide) rfl k149 dX1_readGroup_42 ?_
        have b_70 := gI_line hv hp.2.2.2.2.1
        unfold vLineI at b_70
        refine z_iconst F dX1_readGroup_45 ?_
        refine z_iadd F dX1_readGroup_46 ?_
        refine g_putI (ci := 0) (k := 2) F hH hS rfl (by decide) iX0 hp.2.2.2.2.1 (by decide) tyX0 tyX0_ok nmX0 rfl rfl rfl k136 dX1_readGroup_47 (fun H locs hH hS => ?_)
        obtain ⟨I_71, eI_71⟩ : ∃ qQ, qQ = gup2 I_54 ln 2 (iI (((I_54 ln 8).toInt) + 1)) := ⟨_, rfl⟩
        rw [← eI_71] at hH
        have kI_71 : ∀ b, b ≠ ln → I_71 b = I_54 b := fun b hb => by rw [eI_71]; exact funext fun j => gup2_a _ _ hb
        have hP := pH_ln hv hp hP kI_71
        have w_72 : (I_71 ln 2).toInt = ((I_54 ln 8).toInt) + 1 := by rw [eI_71, gup2_s]; exact iI_val ⟨by omega, by omega⟩
        have hp2 : pS g gh R I_71 a q ln := pS_ln hv hp kI_71
        have hv : gInv g gh R AR I_71 AI_57 := by rw [eI_71]; exact gInv_line2 hv hp.2.2.2.2.1 (by omega) (by omega) (pS_col hp)
        have hp := hp2
        have pf : pF a ln I I_71 := pF_t pf (by rw [eI_71]; exact pF_ln (by decide))
        have w_72_k : ∀ j, j ≠ 2 → I_71 ln j = I_54 ln j := fun j hj => by rw [eI_71]; exact gup2_k _ _ hj
        have u_73q : (I_71 q 1).toInt = (I_54 q 1).toInt := by rw [kI_71 q (gO_ne hp.2.2.1 hp.2.2.2.2.1 (by decide))]
        have u_73_0 : (I_71 ln 0).toInt = (I_54 ln 0).toInt := by rw [w_72_k 0 (by decide)]
        have u_73_8 : (I_71 ln 8).toInt = (I_54 ln 8).toInt := by rw [w_72_k 8 (by decide)]
        have u_74 : (I_71 ln 5).toInt = (I_54 ln 5).toInt := by rw [w_72_k 5 (by decide)]
        have u_75 : (I_71 ln 6).toInt = (I_54 ln 6).toInt := by rw [w_72_k 6 (by decide)]
        have u_76 : (I_71 ln 9).toInt = (I_54 ln 9).toInt := by rw [w_72_k 9 (by decide)]
        have u_77 : (I_71 ln 10).toInt = (I_54 ln 10).toInt := by rw [w_72_k 10 (by decide)]
        refine lv_iload_n F.1 F.2.1 dX1_readGroup_50 rfl (lv_at hl 0 rfl) ?_
        have hfin : sGrp b n nr nt cl h = r_62 := by
          unfold sGrp
          repeat (first | with_reducible rfl | refine ite_y (by omega) ?_ | refine ite_n (by omega) ?_ | exact er_62.symm | exact thn_x er_62 (by omega) | refine thn_y er_9 (by omega) ?_ | refine thn_y er_35 (by omega) ?_ | exact pr_e (by omega) (by omega) (by omega))
        exact g_iret F hr hlk hH hS hz zv_60 ⟨rfl, rfl, rfl, rfl, hv, hp, pf, by first | omega | rfl | (dsimp only; omega), by (try dsimp only); rw [hfin]; first | done | omega | rfl, by (try dsimp only); rw [hfin]; exact hP, by (try dsimp only); first | exact pIm_n (by omega) | (rw [hfin]; exact fun h => by have q9 := hx7 h; omega)⟩ dX1_readGroup_51
      · have t_78 := q_66 (by omega)
        refine lv_aload_n F.1 F.2.1 dX1_readGroup_29 rfl (lv_at hl 1 rfl) ?_
        refine g_calli (g_runV (As := []) (rest := []) (ci := 1) F hl.1 hH hS hz (c_X1_readFoldf l g gh q ln r_9.2.2 (r_62.2.2 + 1) b n tl nr nt cl r_62.2.1 I_54 R J AI_57 AJ AR a hv hp (by omega) hP (by omega)) (cwV 0 F.2.2.2.2.1 gX1_readGroup_X1_readFold rfl rfl rfl hdX1_readFold ⟨Nat.le_of_ble_eq_true rfl, Nat.le_of_ble_eq_true rfl⟩) hp.1 (by decide) rfl rfl rfl (Nat.le_of_ble_eq_true rfl) dX1_readGroup_30 ⟨Nat.zero_le _, Nat.zero_le _⟩) hS (fun v_85 I_79 R_80 J_81 AI_82 AJ_83 AR_84 H locs zv_85 hp_86 hH hS => ?_)
        dsimp only at hp_86
        obtain ⟨r_87, er_87⟩ : ∃ qQ : pR, qQ = sFo b n r_9.2.2 (r_62.2.2 + 1) r_62.2.1 := ⟨_, rfl⟩
        rw [← er_87] at hp_86
        obtain ⟨rfl, rfl, rfl, rfl, rfl, hv, hp, pfq, q_88, q_89, hP, q_90, hx7⟩ := hp_86
        have pf := pF_t pf pfq
        have u_91q : (I_79 q 1).toInt = (I_54 q 1).toInt := by rw [pF_q hp pfq]
        have u_91_0 : (I_79 ln 0).toInt = (I_54 ln 0).toInt := by rw [pfq.2]
        refine lv_istore_n (lv' := [(1, .int (iI v_85)), (0, .ref a)]) F.1 F.2.1 dX1_readGroup_33 rfl hl (by decide) rfl (fun ls hl => ?_)
        refine lv_aload_n F.1 F.2.1 dX1_readGroup_34 rfl (lv_at hl 1 rfl) ?_
        refine g_getR (ci := 1) (k := 2) F hH rfl (by decide) iX1 hp.1 (by decide) rfl (b := ln) hp.2.2.2.1 k29 dX1_readGroup_35 ?_
        refine lv_aload_n F.1 F.2.1 dX1_readGroup_38 rfl (lv_at hl 1 rfl) ?_
        refine g_getR (ci := 1) (k := 2) F hH rfl (by decide) iX1 hp.1 (by decide) rfl (b := ln) hp.2.2.2.1 k29 dX1_readGroup_39 ?_
        refine g_getI (ci := 0) (k := 8) F hH rfl (by decide) iX0 hp.2.2.2.2.1 (by decide) rfl k149 dX1_readGroup_42 ?_
        have b_92 := gI_line hv hp.2.2.2.2.1
        unfold vLineI at b_92
        refine z_iconst F dX1_readGroup_45 ?_
        refine z_iadd F dX1_readGroup_46 ?_
        refine g_putI (ci := 0) (k := 2) F hH hS rfl (by decide) iX0 hp.2.2.2.2.1 (by decide) tyX0 tyX0_ok nmX0 rfl rfl rfl k136 dX1_readGroup_47 (fun H locs hH hS => ?_)
        obtain ⟨I_93, eI_93⟩ : ∃ qQ, qQ = gup2 I_79 ln 2 (iI (((I_79 ln 8).toInt) + 1)) := ⟨_, rfl⟩
        rw [← eI_93] at hH
        have kI_93 : ∀ b, b ≠ ln → I_93 b = I_79 b := fun b hb => by rw [eI_93]; exact funext fun j => gup2_a _ _ hb
        have hP := pH_ln hv hp hP kI_93
        have w_94 : (I_93 ln 2).toInt = ((I_79 ln 8).toInt) + 1 := by rw [eI_93, gup2_s]; exact iI_val ⟨by omega, by omega⟩
        have hp2 : pS g gh R I_93 a q ln := pS_ln hv hp kI_93
        have hv : gInv g gh R AR I_93 AI_57 := by rw [eI_93]; exact gInv_line2 hv hp.2.2.2.2.1 (by omega) (by omega) (pS_col hp)
        have hp := hp2
        have pf : pF a ln I I_93 := pF_t pf (by rw [eI_93]; exact pF_ln (by decide))
        have w_94_k : ∀ j, j ≠ 2 → I_93 ln j = I_79 ln j := fun j hj => by rw [eI_93]; exact gup2_k _ _ hj
        have u_95q : (I_93 q 1).toInt = (I_79 q 1).toInt := by rw [kI_93 q (gO_ne hp.2.2.1 hp.2.2.2.2.1 (by decide))]
        have u_95_0 : (I_93 ln 0).toInt = (I_79 ln 0).toInt := by rw [w_94_k 0 (by decide)]
        have u_95_8 : (I_93 ln 8).toInt = (I_79 ln 8).toInt := by rw [w_94_k 8 (by decide)]
        have u_96 : (I_93 ln 5).toInt = (I_79 ln 5).toInt := by rw [w_94_k 5 (by decide)]
        have u_97 : (I_93 ln 6).toInt = (I_79 ln 6).toInt := by rw [w_94_k 6 (by decide)]
        have u_98 : (I_93 ln 9).toInt = (I_79 ln 9).toInt := by rw [w_94_k 9 (by decide)]
        have u_99 : (I_93 ln 10).toInt = (I_79 ln 10).toInt := by rw [w_94_k 10 (by decide)]
        refine lv_iload_n F.1 F.2.1 dX1_readGroup_50 rfl (lv_at hl 0 rfl) ?_
        have hfin : sGrp b n nr nt cl h = r_87 := by
          unfold sGrp
          repeat (first | with_reducible rfl | refine ite_y (by omega) ?_ | refine ite_n (by omega) ?_ | exact er_87.symm | exact thn_x er_87 (by omega) | refine thn_y er_9 (by omega) ?_ | refine thn_y er_35 (by omega) ?_ | refine thn_y er_62 (by omega) ?_ | exact pr_e (by omega) (by omega) (by omega))
        exact g_iret F hr hlk hH hS hz zv_85 ⟨rfl, rfl, rfl, rfl, hv, hp, pf, by first | omega | rfl | (dsimp only; omega), by (try dsimp only); rw [hfin]; first | done | omega | rfl, by (try dsimp only); rw [hfin]; exact hP, by (try dsimp only); first | exact pIm_n (by omega) | (rw [hfin]; exact fun h => by have q9 := hx7 h; omega)⟩ dX1_readGroup_51

def rmX1_readRingf : Room := { frames := 4, cells := 0, slots := 0, locals := 90 }
set_option maxHeartbeats 4000000 in
set_option maxRecDepth 100000 in
/-- a ring -/
theorem c_X1_readRingf (l : Launch) (g : gG) (gh : gGh) (q ln : Nat) (b : tTx) (n : Nat) (tl : Int) (nr : Nat) (nt : Nat → Nat) (cl : Nat → Int) (h : Nat) (I : gI) (R : gR) (J : gJ) (AI : gI) (AJ : gJ) (AR : gR) (a : Nat) (hv : gInv g gh R AR I AI) (hp : pS g gh R I a q ln) (hk : (I ln 0).toInt = 8) (hP : pH gh AR I J AI AJ a q b n tl nr nt cl h) (hk8 : (I ln 8).toInt = 0) : gMet l g yX1_readRing wsX1_readRing rmX1_readRingf [.ref a] (I, R, J, AI, AJ, AR) (gQi g (fun (z : Int) (w : gS) => R = w.2.1 ∧ J = w.2.2.1 ∧ AJ = w.2.2.2.2.1 ∧ AR = w.2.2.2.2.2 ∧ (gInv g gh R AR (w.1) (w.2.2.2.1)) ∧ (pS g gh R (w.1) a q ln) ∧ (pF a ln I (w.1)) ∧ (0 ≤ z ∧ z ≤ 4) ∧ (z = (sRng b n nr nt cl h).1) ∧ (pH gh AR (w.1) J (w.2.2.2.1) AJ a q b n tl nr nt cl (sRng b n nr nt cl h).2.1) ∧ (pBz z ((w.1) ln) (sRng b n nr nt cl h).2.2))) := by
  refine gStart (cc := cX1_readRing) (maxL := 2) (ret := (some (.int))) (by decide) rfl (Nat.le_of_ble_eq_true rfl) ?_
  intro p e s m below meth c ls F hr hlk hH hz hS hl
  have hl : lv_has ls 2 [(0, .ref a)] := hl
  have hS : va_S (gA g) s.heap s.heap [] := hS
  obtain ⟨H, hHe⟩ : ∃ H : Heap, H = s.heap := ⟨_, rfl⟩
  obtain ⟨locs, hlo⟩ : ∃ k : List Loc, k = [] := ⟨_, rfl⟩
  have hH : gH g I R J AI AJ AR H := by rw [hHe]; exact hH
  have hS : va_S (gA g) s.heap H locs := by rw [hHe, hlo]; exact hS
  suffices hw : W p l e rmX1_readRingf s m ([.ref a] : List Value).toArray below meth c H locs 0 0 (MQ below (gQi g (fun (z : Int) (w : gS) => R = w.2.1 ∧ J = w.2.2.1 ∧ AJ = w.2.2.2.2.1 ∧ AR = w.2.2.2.2.2 ∧ (gInv g gh R AR (w.1) (w.2.2.2.1)) ∧ (pS g gh R (w.1) a q ln) ∧ (pF a ln I (w.1)) ∧ (0 ≤ z ∧ z ≤ 4) ∧ (z = (sRng b n nr nt cl h).1) ∧ (pH gh AR (w.1) J (w.2.2.2.1) AJ a q b n tl nr nt cl (sRng b n nr nt cl h).2.1) ∧ (pBz z ((w.1) ln) (sRng b n nr nt cl h).2.2))) ([.ref a] : List Value).toArray s 0 0 (gA g)) (F0 m 0 ls []) by
    rw [hHe, hlo] at hw; exact hw
  clear hHe hlo
  have pf : pF a ln I I := pF_r
  have iX1 : ∀ w ∈ u_ws RX1 TX1 4, w ∈ wsX1_readRing := (by decide +kernel)
  have iX0 : ∀ w ∈ u_ws RX0 TX0 15, w ∈ wsX1_readRing := (by decide +kernel)
  have k29 : Cond.fieldLink RX1 29 (TX1 2).1 (TX1 2).2.1 (TX1 2).2.2.1 ∈ wsX1_readRing := List.mem_of_getElem? (i := 1) rfl
  have k143 : Cond.fieldLink RX1 143 (TX0 5).1 (TX0 5).2.1 (TX0 5).2.2.1 ∈ wsX1_readRing := List.mem_of_getElem? (i := 2) rfl
  have k146 : Cond.fieldLink RX1 146 (TX0 6).1 (TX0 6).2.1 (TX0 6).2.2.1 ∈ wsX1_readRing := List.mem_of_getElem? (i := 3) rfl
  have k136 : Cond.fieldLink RX1 136 (TX0 2).1 (TX0 2).2.1 (TX0 2).2.2.1 ∈ wsX1_readRing := List.mem_of_getElem? (i := 4) rfl
  refine lv_aload_n F.1 F.2.1 dX1_readRing_0 rfl (lv_at hl 0 rfl) ?_
  refine g_calli (g_runV (As := []) (rest := []) (ci := 1) F hl.1 hH hS hz (c_X1_readFirstf l g gh q ln b n tl nr nt cl h I R J AI AJ AR a hv hp (by omega) hP) (cwV 0 F.2.2.2.2.1 gX1_readRing_X1_readFirst rfl rfl rfl hdX1_readFirst ⟨Nat.le_of_ble_eq_true rfl, Nat.le_of_ble_eq_true rfl⟩) hp.1 (by decide) rfl rfl rfl (Nat.le_of_ble_eq_true rfl) dX1_readRing_1 ⟨Nat.zero_le _, Nat.zero_le _⟩) hS (fun v_7 I_1 R_2 J_3 AI_4 AJ_5 AR_6 H locs zv_7 hp_8 hH hS => ?_)
  dsimp only at hp_8
  obtain ⟨r_9, er_9⟩ : ∃ qQ : pR, qQ = sRl b n nr nt cl h := ⟨_, rfl⟩
  rw [← er_9] at hp_8
  obtain ⟨rfl, rfl, rfl, rfl, rfl, hv, hp, pfq, k8q, q_10, q_11, hP, q_12, q_13⟩ := hp_8
  have pf := pF_t pf pfq
  have u_14q : (I_1 q 1).toInt = (I q 1).toInt := by rw [pF_q hp pfq]
  have u_14_0 : (I_1 ln 0).toInt = (I ln 0).toInt := by rw [pfq.2]
  have u_14_8 : (I_1 ln 8).toInt = (I ln 8).toInt := by rw [k8q]
  refine lv_istore_n (lv' := [(1, .int (iI v_7)), (0, .ref a)]) F.1 F.2.1 dX1_readRing_4 rfl hl (by decide) rfl (fun ls hl => ?_)
  refine lv_iload_n F.1 F.2.1 dX1_readRing_5 rfl (lv_at hl 0 rfl) ?_
  refine z_if_ne (tgt := 16) F dX1_readRing_6 (by decide) zv_7 (fun c_15 => ?_) (fun c_15 => ?_)
  · refine lv_iload_n F.1 F.2.1 dX1_readRing_16 rfl (lv_at hl 0 rfl) ?_
    refine z_if_ne (tgt := 25) F dX1_readRing_17 (by decide) zv_7 (fun c_16 => ?_) (fun c_16 => ?_)
    · refine lv_iload_n F.1 F.2.1 dX1_readRing_25 rfl (lv_at hl 0 rfl) ?_
      refine z_if_ne (tgt := 36) F dX1_readRing_26 (by decide) zv_7 (fun c_17 => ?_) (fun c_17 => ?_)
      · refine lv_iload_n F.1 F.2.1 dX1_readRing_36 rfl (lv_at hl 0 rfl) ?_
        refine z_if_ne (tgt := 46) F dX1_readRing_37 (by decide) zv_7 (fun c_18 => ?_) (fun c_18 => ?_)
        · refine lv_iload_n F.1 F.2.1 dX1_readRing_46 rfl (lv_at hl 0 rfl) ?_
          refine z_if_ne (tgt := 57) F dX1_readRing_47 (by decide) zv_7 (fun c_19 => ?_) (fun c_19 => ?_)
          · refine lv_iload_n F.1 F.2.1 dX1_readRing_57 rfl (lv_at hl 0 rfl) ?_
            refine z_if_ne (tgt := 81) F dX1_readRing_58 (by decide) zv_7 (fun c_20 => ?_) (fun c_20 => ?_)
            · refine lv_aload_n F.1 F.2.1 dX1_readRing_81 rfl (lv_at hl 1 rfl) ?_
              refine g_getR (ci := 1) (k := 2) F hH rfl (by decide) iX1 hp.1 (by decide) rfl (b := ln) hp.2.2.2.1 k29 dX1_readRing_82 ?_
              refine lv_aload_n F.1 F.2.1 dX1_readRing_85 rfl (lv_at hl 1 rfl) ?_
              refine g_getR (ci := 1) (k := 2) F hH rfl (by decide) iX1 hp.1 (by decide) rfl (b := ln) hp.2.2.2.1 k29 dX1_readRing_86 ?_
              refine g_getI (ci := 0) (k := 5) F hH rfl (by decide) iX0 hp.2.2.2.2.1 (by decide) rfl k143 dX1_readRing_89 ?_
              have b_21 := gI_line hv hp.2.2.2.2.1
              unfold vLineI at b_21
              refine g_putI (ci := 0) (k := 2) F hH hS rfl (by decide) iX0 hp.2.2.2.2.1 (by decide) tyX0 tyX0_ok nmX0 rfl rfl rfl k136 dX1_readRing_92 (fun H locs hH hS => ?_)
              obtain ⟨I_22, eI_22⟩ : ∃ qQ, qQ = gup2 I_1 ln 2 (iI ((I_1 ln 5).toInt)) := ⟨_, rfl⟩
              rw [← eI_22] at hH
              have kI_22 : ∀ b, b ≠ ln → I_22 b = I_1 b := fun b hb => by rw [eI_22]; exact funext fun j => gup2_a _ _ hb
              have hP := pH_ln hv hp hP kI_22
              have w_23 : (I_22 ln 2).toInt = (I_1 ln 5).toInt := by rw [eI_22, gup2_s]; exact iI_val ⟨by omega, by omega⟩
              have hp2 : pS g gh R I_22 a q ln := pS_ln hv hp kI_22
              have hv : gInv g gh R AR I_22 AI := by rw [eI_22]; exact gInv_line2 hv hp.2.2.2.2.1 (by omega) (by omega) (pS_col hp)
              have hp := hp2
              have pf : pF a ln I I_22 := pF_t pf (by rw [eI_22]; exact pF_ln (by decide))
              have w_23_k : ∀ j, j ≠ 2 → I_22 ln j = I_1 ln j := fun j hj => by rw [eI_22]; exact gup2_k _ _ hj
              have u_24q : (I_22 q 1).toInt = (I_1 q 1).toInt := by rw [kI_22 q (gO_ne hp.2.2.1 hp.2.2.2.2.1 (by decide))]
              have u_24_0 : (I_22 ln 0).toInt = (I_1 ln 0).toInt := by rw [w_23_k 0 (by decide)]
              have u_24_8 : (I_22 ln 8).toInt = (I_1 ln 8).toInt := by rw [w_23_k 8 (by decide)]
              have u_25 : (I_22 ln 5).toInt = (I_1 ln 5).toInt := by rw [w_23_k 5 (by decide)]
              have u_26 : (I_22 ln 6).toInt = (I_1 ln 6).toInt := by rw [w_23_k 6 (by decide)]
              have u_27 : (I_22 ln 9).toInt = (I_1 ln 9).toInt := by rw [w_23_k 9 (by decide)]
              have u_28 : (I_22 ln 10).toInt = (I_1 ln 10).toInt := by rw [w_23_k 10 (by decide)]
              refine lv_iload_n F.1 F.2.1 dX1_readRing_95 rfl (lv_at hl 0 rfl) ?_
              have hfin : sRng b n nr nt cl h = r_9 := by
                unfold sRng
                repeat (first | with_reducible rfl | refine ite_y (by omega) ?_ | refine ite_n (by omega) ?_ | exact er_9.symm | exact thn_x er_9 (by omega) | exact pr_e (by omega) (by omega) (by omega))
              exact g_iret F hr hlk hH hS hz zv_7 ⟨rfl, rfl, rfl, rfl, hv, hp, pf, by first | omega | rfl | (dsimp only; omega), by (try dsimp only); rw [hfin]; first | done | omega | rfl, by (try dsimp only); rw [hfin]; exact hP, by (try dsimp only); exact (fun h => absurd h (by omega))⟩ dX1_readRing_96
            · exact absurd trivial (by omega)
          · exact absurd trivial (by omega)
        · exact absurd trivial (by omega)
      · exact absurd trivial (by omega)
    · exact absurd trivial (by omega)
  · have t_29 := q_13 (by omega)
    refine lv_aload_n F.1 F.2.1 dX1_readRing_9 rfl (lv_at hl 1 rfl) ?_
    refine z_bipush F dX1_readRing_10 (by decide) ?_
    refine g_calli (g_runV (As := [.int (iI 14)]) (rest := []) (ci := 1) F hl.1 hH hS hz (c_X1_takeWordf l g gh q ln b n tl nr nt cl r_9.2.1 I_1 R J AI AJ AR a 14 ⟨by decide, by decide⟩ hv hp hP) (cwV 1 F.2.2.2.2.1 gX1_readRing_X1_takeWord rfl rfl rfl hdX1_takeWord ⟨Nat.le_of_ble_eq_true rfl, Nat.le_of_ble_eq_true rfl⟩) hp.1 (by decide) rfl rfl rfl (Nat.le_of_ble_eq_true rfl) dX1_readRing_12 ⟨Nat.zero_le _, Nat.zero_le _⟩) hS (fun v_36 I_30 R_31 J_32 AI_33 AJ_34 AR_35 H locs zv_36 hp_37 hH hS => ?_)
    dsimp only at hp_37
    obtain ⟨r_38, er_38⟩ : ∃ qQ : pR, qQ = sTw b n 14 r_9.2.1 := ⟨_, rfl⟩
    rw [← er_38] at hp_37
    obtain ⟨rfl, rfl, rfl, rfl, rfl, hv, hp, pfq, flq, q_39, q_40, hP⟩ := hp_37
    have pf := pF_t pf pfq
    have u_41q : (I_30 q 1).toInt = (I_1 q 1).toInt := by rw [pF_q hp pfq]
    have u_41_0 : (I_30 ln 0).toInt = (I_1 ln 0).toInt := by rw [pfq.2]
    have u_41_8 : (I_30 ln 8).toInt = (I_1 ln 8).toInt := by rw [flq]
    have u_42 : (I_30 ln 2).toInt = (I_1 ln 2).toInt := by rw [flq]
    have u_43 : (I_30 ln 5).toInt = (I_1 ln 5).toInt := by rw [flq]
    have u_44 : (I_30 ln 6).toInt = (I_1 ln 6).toInt := by rw [flq]
    have u_45 : (I_30 ln 9).toInt = (I_1 ln 9).toInt := by rw [flq]
    have u_46 : (I_30 ln 10).toInt = (I_1 ln 10).toInt := by rw [flq]
    refine lv_istore_n (lv' := [(1, .int (iI v_36)), (0, .ref a)]) F.1 F.2.1 dX1_readRing_15 rfl hl (by decide) rfl (fun ls hl => ?_)
    refine lv_iload_n F.1 F.2.1 dX1_readRing_16 rfl (lv_at hl 0 rfl) ?_
    refine z_if_ne (tgt := 25) F dX1_readRing_17 (by decide) zv_36 (fun c_47 => ?_) (fun c_47 => ?_)
    · refine lv_iload_n F.1 F.2.1 dX1_readRing_25 rfl (lv_at hl 0 rfl) ?_
      refine z_if_ne (tgt := 36) F dX1_readRing_26 (by decide) zv_36 (fun c_48 => ?_) (fun c_48 => ?_)
      · refine lv_iload_n F.1 F.2.1 dX1_readRing_36 rfl (lv_at hl 0 rfl) ?_
        refine z_if_ne (tgt := 46) F dX1_readRing_37 (by decide) zv_36 (fun c_49 => ?_) (fun c_49 => ?_)
        · refine lv_iload_n F.1 F.2.1 dX1_readRing_46 rfl (lv_at hl 0 rfl) ?_
          refine z_if_ne (tgt := 57) F dX1_readRing_47 (by decide) zv_36 (fun c_50 => ?_) (fun c_50 => ?_)
          · refine lv_iload_n F.1 F.2.1 dX1_readRing_57 rfl (lv_at hl 0 rfl) ?_
            refine z_if_ne (tgt := 81) F dX1_readRing_58 (by decide) zv_36 (fun c_51 => ?_) (fun c_51 => ?_)
            · refine lv_aload_n F.1 F.2.1 dX1_readRing_81 rfl (lv_at hl 1 rfl) ?_
              refine g_getR (ci := 1) (k := 2) F hH rfl (by decide) iX1 hp.1 (by decide) rfl (b := ln) hp.2.2.2.1 k29 dX1_readRing_82 ?_
              refine lv_aload_n F.1 F.2.1 dX1_readRing_85 rfl (lv_at hl 1 rfl) ?_
              refine g_getR (ci := 1) (k := 2) F hH rfl (by decide) iX1 hp.1 (by decide) rfl (b := ln) hp.2.2.2.1 k29 dX1_readRing_86 ?_
              refine g_getI (ci := 0) (k := 5) F hH rfl (by decide) iX0 hp.2.2.2.2.1 (by decide) rfl k143 dX1_readRing_89 ?_
              have b_52 := gI_line hv hp.2.2.2.2.1
              unfold vLineI at b_52
              refine g_putI (ci := 0) (k := 2) F hH hS rfl (by decide) iX0 hp.2.2.2.2.1 (by decide) tyX0 tyX0_ok nmX0 rfl rfl rfl k136 dX1_readRing_92 (fun H locs hH hS => ?_)
              obtain ⟨I_53, eI_53⟩ : ∃ qQ, qQ = gup2 I_30 ln 2 (iI ((I_30 ln 5).toInt)) := ⟨_, rfl⟩
              rw [← eI_53] at hH
              have kI_53 : ∀ b, b ≠ ln → I_53 b = I_30 b := fun b hb => by rw [eI_53]; exact funext fun j => gup2_a _ _ hb
              have hP := pH_ln hv hp hP kI_53
              have w_54 : (I_53 ln 2).toInt = (I_30 ln 5).toInt := by rw [eI_53, gup2_s]; exact iI_val ⟨by omega, by omega⟩
              have hp2 : pS g gh R I_53 a q ln := pS_ln hv hp kI_53
              have hv : gInv g gh R AR I_53 AI := by rw [eI_53]; exact gInv_line2 hv hp.2.2.2.2.1 (by omega) (by omega) (pS_col hp)
              have hp := hp2
              have pf : pF a ln I I_53 := pF_t pf (by rw [eI_53]; exact pF_ln (by decide))
              have w_54_k : ∀ j, j ≠ 2 → I_53 ln j = I_30 ln j := fun j hj => by rw [eI_53]; exact gup2_k _ _ hj
              have u_55q : (I_53 q 1).toInt = (I_30 q 1).toInt := by rw [kI_53 q (gO_ne hp.2.2.1 hp.2.2.2.2.1 (by decide))]
              have u_55_0 : (I_53 ln 0).toInt = (I_30 ln 0).toInt := by rw [w_54_k 0 (by decide)]
              have u_55_8 : (I_53 ln 8).toInt = (I_30 ln 8).toInt := by rw [w_54_k 8 (by decide)]
              have u_56 : (I_53 ln 5).toInt = (I_30 ln 5).toInt := by rw [w_54_k 5 (by decide)]
              have u_57 : (I_53 ln 6).toInt = (I_30 ln 6).toInt := by rw [w_54_k 6 (by decide)]
              have u_58 : (I_53 ln 9).toInt = (I_30 ln 9).toInt := by rw [w_54_k 9 (by decide)]
              have u_59 : (I_53 ln 10).toInt = (I_30 ln 10).toInt := by rw [w_54_k 10 (by decide)]
              refine lv_iload_n F.1 F.2.1 dX1_readRing_95 rfl (lv_at hl 0 rfl) ?_
              have hfin : sRng b n nr nt cl h = r_38 := by
                unfold sRng
                repeat (first | with_reducible rfl | refine ite_y (by omega) ?_ | refine ite_n (by omega) ?_ | exact er_38.symm | exact thn_x er_38 (by omega) | refine thn_y er_9 (by omega) ?_ | exact pr_e (by omega) (by omega) (by omega))
              exact g_iret F hr hlk hH hS hz zv_36 ⟨rfl, rfl, rfl, rfl, hv, hp, pf, by first | omega | rfl | (dsimp only; omega), by (try dsimp only); rw [hfin]; first | done | omega | rfl, by (try dsimp only); rw [hfin]; exact hP, by (try dsimp only); exact (fun h => absurd h (by omega))⟩ dX1_readRing_96
            · exact absurd trivial (by omega)
          · exact absurd trivial (by omega)
        · exact absurd trivial (by omega)
      · exact absurd trivial (by omega)
    · refine lv_aload_n F.1 F.2.1 dX1_readRing_20 rfl (lv_at hl 1 rfl) ?_
      refine g_calli (g_runV (As := []) (rest := []) (ci := 1) F hl.1 hH hS hz (c_X1_readSecondf l g gh q ln b n tl nr nt cl r_38.2.1 I_30 R J AI AJ AR a hv hp (by omega) hP) (cwV 0 F.2.2.2.2.1 gX1_readRing_X1_readSecond rfl rfl rfl hdX1_readSecond ⟨Nat.le_of_ble_eq_true rfl, Nat.le_of_ble_eq_true rfl⟩) hp.1 (by decide) rfl rfl rfl (Nat.le_of_ble_eq_true rfl) dX1_readRing_21 ⟨Nat.zero_le _, Nat.zero_le _⟩) hS (fun v_66 I_60 R_61 J_62 AI_63 AJ_64 AR_65 H locs zv_66 hp_67 hH hS => ?_)
      dsimp only at hp_67
      obtain ⟨r_68, er_68⟩ : ∃ qQ : pR, qQ = sRl b n nr nt cl r_38.2.1 := ⟨_, rfl⟩
      rw [← er_68] at hp_67
      obtain ⟨rfl, rfl, rfl, rfl, rfl, hv, hp, pfq, k8q, q_69, q_70, hP, q_71, q_72⟩ := hp_67
      have pf := pF_t pf pfq
      have u_73q : (I_60 q 1).toInt = (I_30 q 1).toInt := by rw [pF_q hp pfq]
      have u_73_0 : (I_60 ln 0).toInt = (I_30 ln 0).toInt := by rw [pfq.2]
      have u_73_8 : (I_60 ln 8).toInt = (I_30 ln 8).toInt := by rw [k8q]
      refine lv_istore_n (lv' := [(1, .int (iI v_66)), (0, .ref a)]) F.1 F.2.1 dX1_readRing_24 rfl hl (by decide) rfl (fun ls hl => ?_)
      refine lv_iload_n F.1 F.2.1 dX1_readRing_25 rfl (lv_at hl 0 rfl) ?_
      refine z_if_ne (tgt := 36) F dX1_readRing_26 (by decide) zv_66 (fun c_74 => ?_) (fun c_74 => ?_)
      · refine lv_iload_n F.1 F.2.1 dX1_readRing_36 rfl (lv_at hl 0 rfl) ?_
        refine z_if_ne (tgt := 46) F dX1_readRing_37 (by decide) zv_66 (fun c_75 => ?_) (fun c_75 => ?_)
        · refine lv_iload_n F.1 F.2.1 dX1_readRing_46 rfl (lv_at hl 0 rfl) ?_
          refine z_if_ne (tgt := 57) F dX1_readRing_47 (by decide) zv_66 (fun c_76 => ?_) (fun c_76 => ?_)
          · refine lv_iload_n F.1 F.2.1 dX1_readRing_57 rfl (lv_at hl 0 rfl) ?_
            refine z_if_ne (tgt := 81) F dX1_readRing_58 (by decide) zv_66 (fun c_77 => ?_) (fun c_77 => ?_)
            · refine lv_aload_n F.1 F.2.1 dX1_readRing_81 rfl (lv_at hl 1 rfl) ?_
              refine g_getR (ci := 1) (k := 2) F hH rfl (by decide) iX1 hp.1 (by decide) rfl (b := ln) hp.2.2.2.1 k29 dX1_readRing_82 ?_
              refine lv_aload_n F.1 F.2.1 dX1_readRing_85 rfl (lv_at hl 1 rfl) ?_
              refine g_getR (ci := 1) (k := 2) F hH rfl (by decide) iX1 hp.1 (by decide) rfl (b := ln) hp.2.2.2.1 k29 dX1_readRing_86 ?_
              refine g_getI (ci := 0) (k := 5) F hH rfl (by decide) iX0 hp.2.2.2.2.1 (by decide) rfl k143 dX1_readRing_89 ?_
              have b_78 := gI_line hv hp.2.2.2.2.1
              unfold vLineI at b_78
              refine g_putI (ci := 0) (k := 2) F hH hS rfl (by decide) iX0 hp.2.2.2.2.1 (by decide) tyX0 tyX0_ok nmX0 rfl rfl rfl k136 dX1_readRing_92 (fun H locs hH hS => ?_)
              obtain ⟨I_79, eI_79⟩ : ∃ qQ, qQ = gup2 I_60 ln 2 (iI ((I_60 ln 5).toInt)) := ⟨_, rfl⟩
              rw [← eI_79] at hH
              have kI_79 : ∀ b, b ≠ ln → I_79 b = I_60 b := fun b hb => by rw [eI_79]; exact funext fun j => gup2_a _ _ hb
              have hP := pH_ln hv hp hP kI_79
              have w_80 : (I_79 ln 2).toInt = (I_60 ln 5).toInt := by rw [eI_79, gup2_s]; exact iI_val ⟨by omega, by omega⟩
              have hp2 : pS g gh R I_79 a q ln := pS_ln hv hp kI_79
              have hv : gInv g gh R AR I_79 AI := by rw [eI_79]; exact gInv_line2 hv hp.2.2.2.2.1 (by omega) (by omega) (pS_col hp)
              have hp := hp2
              have pf : pF a ln I I_79 := pF_t pf (by rw [eI_79]; exact pF_ln (by decide))
              have w_80_k : ∀ j, j ≠ 2 → I_79 ln j = I_60 ln j := fun j hj => by rw [eI_79]; exact gup2_k _ _ hj
              have u_81q : (I_79 q 1).toInt = (I_60 q 1).toInt := by rw [kI_79 q (gO_ne hp.2.2.1 hp.2.2.2.2.1 (by decide))]
              have u_81_0 : (I_79 ln 0).toInt = (I_60 ln 0).toInt := by rw [w_80_k 0 (by decide)]
              have u_81_8 : (I_79 ln 8).toInt = (I_60 ln 8).toInt := by rw [w_80_k 8 (by decide)]
              have u_82 : (I_79 ln 5).toInt = (I_60 ln 5).toInt := by rw [w_80_k 5 (by decide)]
              have u_83 : (I_79 ln 6).toInt = (I_60 ln 6).toInt := by rw [w_80_k 6 (by decide)]
              have u_84 : (I_79 ln 9).toInt = (I_60 ln 9).toInt := by rw [w_80_k 9 (by decide)]
              have u_85 : (I_79 ln 10).toInt = (I_60 ln 10).toInt := by rw [w_80_k 10 (by decide)]
              refine lv_iload_n F.1 F.2.1 dX1_readRing_95 rfl (lv_at hl 0 rfl) ?_
              have hfin : sRng b n nr nt cl h = r_68 := by
                unfold sRng
                repeat (first | with_reducible rfl | refine ite_y (by omega) ?_ | refine ite_n (by omega) ?_ | exact er_68.symm | exact thn_x er_68 (by omega) | refine thn_y er_9 (by omega) ?_ | refine thn_y er_38 (by omega) ?_ | exact pr_e (by omega) (by omega) (by omega))
              exact g_iret F hr hlk hH hS hz zv_66 ⟨rfl, rfl, rfl, rfl, hv, hp, pf, by first | omega | rfl | (dsimp only; omega), by (try dsimp only); rw [hfin]; first | done | omega | rfl, by (try dsimp only); rw [hfin]; exact hP, by (try dsimp only); exact (fun h => absurd h (by omega))⟩ dX1_readRing_96
            · exact absurd trivial (by omega)
          · exact absurd trivial (by omega)
        · exact absurd trivial (by omega)
      · have t_86 := q_72 (by omega)
        refine lv_aload_n F.1 F.2.1 dX1_readRing_29 rfl (lv_at hl 1 rfl) ?_
        refine z_bipush F dX1_readRing_30 (by decide) ?_
        refine g_calli (g_runV (As := [.int (iI 12)]) (rest := []) (ci := 1) F hl.1 hH hS hz (c_X1_takeWordf l g gh q ln b n tl nr nt cl r_68.2.1 I_60 R J AI AJ AR a 12 ⟨by decide, by decide⟩ hv hp hP) (cwV 1 F.2.2.2.2.1 gX1_readRing_X1_takeWord rfl rfl rfl hdX1_takeWord ⟨Nat.le_of_ble_eq_true rfl, Nat.le_of_ble_eq_true rfl⟩) hp.1 (by decide) rfl rfl rfl (Nat.le_of_ble_eq_true rfl) dX1_readRing_32 ⟨Nat.zero_le _, Nat.zero_le _⟩) hS (fun v_93 I_87 R_88 J_89 AI_90 AJ_91 AR_92 H locs zv_93 hp_94 hH hS => ?_)
        dsimp only at hp_94
        obtain ⟨r_95, er_95⟩ : ∃ qQ : pR, qQ = sTw b n 12 r_68.2.1 := ⟨_, rfl⟩
        rw [← er_95] at hp_94
        obtain ⟨rfl, rfl, rfl, rfl, rfl, hv, hp, pfq, flq, q_96, q_97, hP⟩ := hp_94
        have pf := pF_t pf pfq
        have u_98q : (I_87 q 1).toInt = (I_60 q 1).toInt := by rw [pF_q hp pfq]
        have u_98_0 : (I_87 ln 0).toInt = (I_60 ln 0).toInt := by rw [pfq.2]
        have u_98_8 : (I_87 ln 8).toInt = (I_60 ln 8).toInt := by rw [flq]
        have u_99 : (I_87 ln 2).toInt = (I_60 ln 2).toInt := by rw [flq]
        have u_100 : (I_87 ln 5).toInt = (I_60 ln 5).toInt := by rw [flq]
        have u_101 : (I_87 ln 6).toInt = (I_60 ln 6).toInt := by rw [flq]
        have u_102 : (I_87 ln 9).toInt = (I_60 ln 9).toInt := by rw [flq]
        have u_103 : (I_87 ln 10).toInt = (I_60 ln 10).toInt := by rw [flq]
        refine lv_istore_n (lv' := [(1, .int (iI v_93)), (0, .ref a)]) F.1 F.2.1 dX1_readRing_35 rfl hl (by decide) rfl (fun ls hl => ?_)
        refine lv_iload_n F.1 F.2.1 dX1_readRing_36 rfl (lv_at hl 0 rfl) ?_
        refine z_if_ne (tgt := 46) F dX1_readRing_37 (by decide) zv_93 (fun c_104 => ?_) (fun c_104 => ?_)
        · refine lv_iload_n F.1 F.2.1 dX1_readRing_46 rfl (lv_at hl 0 rfl) ?_
          refine z_if_ne (tgt := 57) F dX1_readRing_47 (by decide) zv_93 (fun c_105 => ?_) (fun c_105 => ?_)
          · refine lv_iload_n F.1 F.2.1 dX1_readRing_57 rfl (lv_at hl 0 rfl) ?_
            refine z_if_ne (tgt := 81) F dX1_readRing_58 (by decide) zv_93 (fun c_106 => ?_) (fun c_106 => ?_)
            · refine lv_aload_n F.1 F.2.1 dX1_readRing_81 rfl (lv_at hl 1 rfl) ?_
              refine g_getR (ci := 1) (k := 2) F hH rfl (by decide) iX1 hp.1 (by decide) rfl (b := ln) hp.2.2.2.1 k29 dX1_readRing_82 ?_
              refine lv_aload_n F.1 F.2.1 dX1_readRing_85 rfl (lv_at hl 1 rfl) ?_
              refine g_getR (ci := 1) (k := 2) F hH rfl (by decide) iX1 hp.1 (by decide) rfl (b := ln) hp.2.2.2.1 k29 dX1_readRing_86 ?_
              refine g_getI (ci := 0) (k := 5) F hH rfl (by decide) iX0 hp.2.2.2.2.1 (by decide) rfl k143 dX1_readRing_89 ?_
              have b_107 := gI_line hv hp.2.2.2.2.1
              unfold vLineI at b_107
              refine g_putI (ci := 0) (k := 2) F hH hS rfl (by decide) iX0 hp.2.2.2.2.1 (by decide) tyX0 tyX0_ok nmX0 rfl rfl rfl k136 dX1_readRing_92 (fun H locs hH hS => ?_)
              obtain ⟨I_108, eI_108⟩ : ∃ qQ, qQ = gup2 I_87 ln 2 (iI ((I_87 ln 5).toInt)) := ⟨_, rfl⟩
              rw [← eI_108] at hH
              have kI_108 : ∀ b, b ≠ ln → I_108 b = I_87 b := fun b hb => by rw [eI_108]; exact funext fun j => gup2_a _ _ hb
              have hP := pH_ln hv hp hP kI_108
              have w_109 : (I_108 ln 2).toInt = (I_87 ln 5).toInt := by rw [eI_108, gup2_s]; exact iI_val ⟨by omega, by omega⟩
              have hp2 : pS g gh R I_108 a q ln := pS_ln hv hp kI_108
              have hv : gInv g gh R AR I_108 AI := by rw [eI_108]; exact gInv_line2 hv hp.2.2.2.2.1 (by omega) (by omega) (pS_col hp)
              have hp := hp2
              have pf : pF a ln I I_108 := pF_t pf (by rw [eI_108]; exact pF_ln (by decide))
              have w_109_k : ∀ j, j ≠ 2 → I_108 ln j = I_87 ln j := fun j hj => by rw [eI_108]; exact gup2_k _ _ hj
              have u_110q : (I_108 q 1).toInt = (I_87 q 1).toInt := by rw [kI_108 q (gO_ne hp.2.2.1 hp.2.2.2.2.1 (by decide))]
              have u_110_0 : (I_108 ln 0).toInt = (I_87 ln 0).toInt := by rw [w_109_k 0 (by decide)]
              have u_110_8 : (I_108 ln 8).toInt = (I_87 ln 8).toInt := by rw [w_109_k 8 (by decide)]
              have u_111 : (I_108 ln 5).toInt = (I_87 ln 5).toInt := by rw [w_109_k 5 (by decide)]
              have u_112 : (I_108 ln 6).toInt = (I_87 ln 6).toInt := by rw [w_109_k 6 (by decide)]
              have u_113 : (I_108 ln 9).toInt = (I_87 ln 9).toInt := by rw [w_109_k 9 (by decide)]
              have u_114 : (I_108 ln 10).toInt = (I_87 ln 10).toInt := by rw [w_109_k 10 (by decide)]
              refine lv_iload_n F.1 F.2.1 dX1_readRing_95 rfl (lv_at hl 0 rfl) ?_
              have hfin : sRng b n nr nt cl h = r_95 := by
                unfold sRng
                repeat (first | with_reducible rfl | refine ite_y (by omega) ?_ | refine ite_n (by omega) ?_ | exact er_95.symm | exact thn_x er_95 (by omega) | refine thn_y er_9 (by omega) ?_ | refine thn_y er_38 (by omega) ?_ | refine thn_y er_68 (by omega) ?_ | exact pr_e (by omega) (by omega) (by omega))
              exact g_iret F hr hlk hH hS hz zv_93 ⟨rfl, rfl, rfl, rfl, hv, hp, pf, by first | omega | rfl | (dsimp only; omega), by (try dsimp only); rw [hfin]; first | done | omega | rfl, by (try dsimp only); rw [hfin]; exact hP, by (try dsimp only); exact (fun h => absurd h (by omega))⟩ dX1_readRing_96
            · exact absurd trivial (by omega)
          · exact absurd trivial (by omega)
        · refine lv_aload_n F.1 F.2.1 dX1_readRing_40 rfl (lv_at hl 1 rfl) ?_
          refine z_iconst F dX1_readRing_41 ?_
          refine g_calli (g_runV (As := [.int (iI 1)]) (rest := []) (ci := 1) F hl.1 hH hS hz (c_X1_readPairf l g gh q ln r_9.2.2 r_68.2.2 0 b n tl nr nt cl r_95.2.1 I_87 R J AI AJ AR a 1 ⟨by decide, by decide⟩ hv hp hP (by omega) (by omega) (by omega)) (cwV 1 F.2.2.2.2.1 gX1_readRing_X1_readPair rfl rfl rfl hdX1_readPair ⟨Nat.le_of_ble_eq_true rfl, Nat.le_of_ble_eq_true rfl⟩) hp.1 (by decide) rfl rfl rfl (Nat.le_of_ble_eq_true rfl) dX1_readRing_42 ⟨Nat.zero_le _, Nat.zero_le _⟩) hS (fun v_121 I_115 R_116 J_117 AI_118 AJ_119 AR_120 H locs zv_121 hp_122 hH hS => ?_)
          dsimp only at hp_122
          obtain ⟨r_123, er_123⟩ : ∃ qQ : pR, qQ = sPair b n r_9.2.2 r_68.2.2 0 1 r_95.2.1 := ⟨_, rfl⟩
          rw [← er_123] at hp_122
          obtain ⟨rfl, rfl, rfl, rfl, rfl, hv, hp, pfq, k8q, q_124, q_125, q_126, hP, q_127, q_128⟩ := hp_122
          have pf := pF_t pf pfq
          have u_129q : (I_115 q 1).toInt = (I_87 q 1).toInt := by rw [pF_q hp pfq]
          have u_129_0 : (I_115 ln 0).toInt = (I_87 ln 0).toInt := by rw [pfq.2]
          have u_129_8 : (I_115 ln 8).toInt = (I_87 ln 8).toInt := by rw [k8q]
          refine lv_istore_n (lv' := [(1, .int (iI v_121)), (0, .ref a)]) F.1 F.2.1 dX1_readRing_45 rfl hl (by decide) rfl (fun ls hl => ?_)
          refine lv_iload_n F.1 F.2.1 dX1_readRing_46 rfl (lv_at hl 0 rfl) ?_
          refine z_if_ne (tgt := 57) F dX1_readRing_47 (by decide) zv_121 (fun c_130 => ?_) (fun c_130 => ?_)
          · refine lv_iload_n F.1 F.2.1 dX1_readRing_57 rfl (lv_at hl 0 rfl) ?_
            refine z_if_ne (tgt := 81) F dX1_readRing_58 (by decide) zv_121 (fun c_131 => ?_) (fun c_131 => ?_)
            · refine lv_aload_n F.1 F.2.1 dX1_readRing_81 rfl (lv_at hl 1 rfl) ?_
              refine g_getR (ci := 1) (k := 2) F hH rfl (by decide) iX1 hp.1 (by decide) rfl (b := ln) hp.2.2.2.1 k29 dX1_readRing_82 ?_
              refine lv_aload_n F.1 F.2.1 dX1_readRing_85 rfl (lv_at hl 1 rfl) ?_
              refine g_getR (ci := 1) (k := 2) F hH rfl (by decide) iX1 hp.1 (by decide) rfl (b := ln) hp.2.2.2.1 k29 dX1_readRing_86 ?_
              refine g_getI (ci := 0) (k := 5) F hH rfl (by decide) iX0 hp.2.2.2.2.1 (by decide) rfl k143 dX1_readRing_89 ?_
              have b_132 := gI_line hv hp.2.2.2.2.1
              unfold vLineI at b_132
              refine g_putI (ci := 0) (k := 2) F hH hS rfl (by decide) iX0 hp.2.2.2.2.1 (by decide) tyX0 tyX0_ok nmX0 rfl rfl rfl k136 dX1_readRing_92 (fun H locs hH hS => ?_)
              obtain ⟨I_133, eI_133⟩ : ∃ qQ, qQ = gup2 I_115 ln 2 (iI ((I_115 ln 5).toInt)) := ⟨_, rfl⟩
              rw [← eI_133] at hH
              have kI_133 : ∀ b, b ≠ ln → I_133 b = I_115 b := fun b hb => by rw [eI_133]; exact funext fun j => gup2_a _ _ hb
              have hP := pH_ln hv hp hP kI_133
              have w_134 : (I_133 ln 2).toInt = (I_115 ln 5).toInt := by rw [eI_133, gup2_s]; exact iI_val ⟨by omega, by omega⟩
              have hp2 : pS g gh R I_133 a q ln := pS_ln hv hp kI_133
              have hv : gInv g gh R AR I_133 AI := by rw [eI_133]; exact gInv_line2 hv hp.2.2.2.2.1 (by omega) (by omega) (pS_col hp)
              have hp := hp2
              have pf : pF a ln I I_133 := pF_t pf (by rw [eI_133]; exact pF_ln (by decide))
              have w_134_k : ∀ j, j ≠ 2 → I_133 ln j = I_115 ln j := fun j hj => by rw [eI_133]; exact gup2_k _ _ hj
              have u_135q : (I_133 q 1).toInt = (I_115 q 1).toInt := by rw [kI_133 q (gO_ne hp.2.2.1 hp.2.2.2.2.1 (by decide))]
              have u_135_0 : (I_133 ln 0).toInt = (I_115 ln 0).toInt := by rw [w_134_k 0 (by decide)]
              have u_135_8 : (I_133 ln 8).toInt = (I_115 ln 8).toInt := by rw [w_134_k 8 (by decide)]
              have u_136 : (I_133 ln 5).toInt = (I_115 ln 5).toInt := by rw [w_134_k 5 (by decide)]
              have u_137 : (I_133 ln 6).toInt = (I_115 ln 6).toInt := by rw [w_134_k 6 (by decide)]
              have u_138 : (I_133 ln 9).toInt = (I_115 ln 9).toInt := by rw [w_134_k 9 (by decide)]
              have u_139 : (I_133 ln 10).toInt = (I_115 ln 10).toInt := by rw [w_134_k 10 (by decide)]
              refine lv_iload_n F.1 F.2.1 dX1_readRing_95 rfl (lv_at hl 0 rfl) ?_
              have hfin : sRng b n nr nt cl h = r_123 := by
                unfold sRng
                repeat (first | with_reducible rfl | refine ite_y (by omega) ?_ | refine ite_n (by omega) ?_ | exact er_123.symm | exact thn_x er_123 (by omega) | refine thn_y er_9 (by omega) ?_ | refine thn_y er_38 (by omega) ?_ | refine thn_y er_68 (by omega) ?_ | refine thn_y er_95 (by omega) ?_ | exact pr_e (by omega) (by omega) (by omega))
              exact g_iret F hr hlk hH hS hz zv_121 ⟨rfl, rfl, rfl, rfl, hv, hp, pf, by first | omega | rfl | (dsimp only; omega), by (try dsimp only); rw [hfin]; first | done | omega | rfl, by (try dsimp only); rw [hfin]; exact hP, by (try dsimp only); exact (fun h => absurd h (by omega))⟩ dX1_readRing_96
            · exact absurd trivial (by omega)
          · have t_140 := q_128 (by omega)
            refine lv_aload_n F.1 F.2.1 dX1_readRing_50 rfl (lv_at hl 1 rfl) ?_
            refine z_bipush F dX1_readRing_51 (by decide) ?_
            refine g_calli (g_runV (As := [.int (iI 15)]) (rest := []) (ci := 1) F hl.1 hH hS hz (c_X1_takeWordf l g gh q ln b n tl nr nt cl r_123.2.1 I_115 R J AI AJ AR a 15 ⟨by decide, by decide⟩ hv hp hP) (cwV 1 F.2.2.2.2.1 gX1_readRing_X1_takeWord rfl rfl rfl hdX1_takeWord ⟨Nat.le_of_ble_eq_true rfl, Nat.le_of_ble_eq_true rfl⟩) hp.1 (by decide) rfl rfl rfl (Nat.le_of_ble_eq_true rfl) dX1_readRing_53 ⟨Nat.zero_le _, Nat.zero_le _⟩) hS (fun v_147 I_141 R_142 J_143 AI_144 AJ_145 AR_146 H locs zv_147 hp_148 hH hS => ?_)
            dsimp only at hp_148
            obtain ⟨r_149, er_149⟩ : ∃ qQ : pR, qQ = sTw b n 15 r_123.2.1 := ⟨_, rfl⟩
            rw [← er_149] at hp_148
            obtain ⟨rfl, rfl, rfl, rfl, rfl, hv, hp, pfq, flq, q_150, q_151, hP⟩ := hp_148
            have pf := pF_t pf pfq
            have u_152q : (I_141 q 1).toInt = (I_115 q 1).toInt := by rw [pF_q hp pfq]
            have u_152_0 : (I_141 ln 0).toInt = (I_115 ln 0).toInt := by rw [pfq.2]
            have u_152_8 : (I_141 ln 8).toInt = (I_115 ln 8).toInt := by rw [flq]
            have u_153 : (I_141 ln 2).toInt = (I_115 ln 2).toInt := by rw [flq]
            have u_154 : (I_141 ln 5).toInt = (I_115 ln 5).toInt := by rw [flq]
            have u_155 : (I_141 ln 6).toInt = (I_115 ln 6).toInt := by rw [flq]
            have u_156 : (I_141 ln 9).toInt = (I_115 ln 9).toInt := by rw [flq]
            have u_157 : (I_141 ln 10).toInt = (I_115 ln 10).toInt := by rw [flq]
            refine lv_istore_n (lv' := [(1, .int (iI v_147)), (0, .ref a)]) F.1 F.2.1 dX1_readRing_56 rfl hl (by decide) rfl (fun ls hl => ?_)
            refine lv_iload_n F.1 F.2.1 dX1_readRing_57 rfl (lv_at hl 0 rfl) ?_
            refine z_if_ne (tgt := 81) F dX1_readRing_58 (by decide) zv_147 (fun c_158 => ?_) (fun c_158 => ?_)
            · refine lv_aload_n F.1 F.2.1 dX1_readRing_81 rfl (lv_at hl 1 rfl) ?_
              refine g_getR (ci := 1) (k := 2) F hH rfl (by decide) iX1 hp.1 (by decide) rfl (b := ln) hp.2.2.2.1 k29 dX1_readRing_82 ?_
              refine lv_aload_n F.1 F.2.1 dX1_readRing_85 rfl (lv_at hl 1 rfl) ?_
              refine g_getR (ci := 1) (k := 2) F hH rfl (by decide) iX1 hp.1 (by decide) rfl (b := ln) hp.2.2.2.1 k29 dX1_readRing_86 ?_
              refine g_getI (ci := 0) (k := 5) F hH rfl (by decide) iX0 hp.2.2.2.2.1 (by decide) rfl k143 dX1_readRing_89 ?_
              have b_159 := gI_line hv hp.2.2.2.2.1
              unfold vLineI at b_159
              refine g_putI (ci := 0) (k := 2) F hH hS rfl (by decide) iX0 hp.2.2.2.2.1 (by decide) tyX0 tyX0_ok nmX0 rfl rfl rfl k136 dX1_readRing_92 (fun H locs hH hS => ?_)
              obtain ⟨I_160, eI_160⟩ : ∃ qQ, qQ = gup2 I_141 ln 2 (iI ((I_141 ln 5).toInt)) := ⟨_, rfl⟩
              rw [← eI_160] at hH
              have kI_160 : ∀ b, b ≠ ln → I_160 b = I_141 b := fun b hb => by rw [eI_160]; exact funext fun j => gup2_a _ _ hb
              have hP := pH_ln hv hp hP kI_160
              have w_161 : (I_160 ln 2).toInt = (I_141 ln 5).toInt := by rw [eI_160, gup2_s]; exact iI_val ⟨by omega, by omega⟩
              have hp2 : pS g gh R I_160 a q ln := pS_ln hv hp kI_160
              have hv : gInv g gh R AR I_160 AI := by rw [eI_160]; exact gInv_line2 hv hp.2.2.2.2.1 (by omega) (by omega) (pS_col hp)
              have hp := hp2
              have pf : pF a ln I I_160 := pF_t pf (by rw [eI_160]; exact pF_ln (by decide))
              have w_161_k : ∀ j, j ≠ 2 → I_160 ln j = I_141 ln j := fun j hj => by rw [eI_160]; exact gup2_k _ _ hj
              have u_162q : (I_160 q 1).toInt = (I_141 q 1).toInt := by rw [kI_160 q (gO_ne hp.2.2.1 hp.2.2.2.2.1 (by decide))]
              have u_162_0 : (I_160 ln 0).toInt = (I_141 ln 0).toInt := by rw [w_161_k 0 (by decide)]
              have u_162_8 : (I_160 ln 8).toInt = (I_141 ln 8).toInt := by rw [w_161_k 8 (by decide)]
              have u_163 : (I_160 ln 5).toInt = (I_141 ln 5).toInt := by rw [w_161_k 5 (by decide)]
              have u_164 : (I_160 ln 6).toInt = (I_141 ln 6).toInt := by rw [w_161_k 6 (by decide)]
              have u_165 : (I_160 ln 9).toInt = (I_141 ln 9).toInt := by rw [w_161_k 9 (by decide)]
              have u_166 : (I_160 ln 10).toInt = (I_141 ln 10).toInt := by rw [w_161_k 10 (by decide)]
              refine lv_iload_n F.1 F.2.1 dX1_readRing_95 rfl (lv_at hl 0 rfl) ?_
              have hfin : sRng b n nr nt cl h = r_149 := by
                unfold sRng
                repeat (first | with_reducible rfl | refine ite_y (by omega) ?_ | refine ite_n (by omega) ?_ | exact er_149.symm | exact thn_x er_149 (by omega) | refine thn_y er_9 (by omega) ?_ | refine thn_y er_38 (by omega) ?_ | refine thn_y er_68 (by omega) ?_ | refine thn_y er_95 (by omega) ?_ | refine thn_y er_123 (by omega) ?_ | exact pr_e (by omega) (by omega) (by omega))
              exact g_iret F hr hlk hH hS hz zv_147 ⟨rfl, rfl, rfl, rfl, hv, hp, pf, by first | omega | rfl | (dsimp only; omega), by (try dsimp only); rw [hfin]; first | done | omega | rfl, by (try dsimp only); rw [hfin]; exact hP, by (try dsimp only); exact (fun h => absurd h (by omega))⟩ dX1_readRing_96
            · refine lv_aload_n F.1 F.2.1 dX1_readRing_61 rfl (lv_at hl 1 rfl) ?_
              refine lv_aload_n F.1 F.2.1 dX1_readRing_62 rfl (lv_at hl 1 rfl) ?_
              refine g_getR (ci := 1) (k := 2) F hH rfl (by decide) iX1 hp.1 (by decide) rfl (b := ln) hp.2.2.2.1 k29 dX1_readRing_63 ?_
              refine g_getI (ci := 0) (k := 5) F hH rfl (by decide) iX0 hp.2.2.2.2.1 (by decide) rfl k143 dX1_readRing_66 ?_
              have b_167 := gI_line hv hp.2.2.2.2.1
              unfold vLineI at b_167
              refine lv_aload_n F.1 F.2.1 dX1_readRing_69 rfl (lv_at hl 1 rfl) ?_
              refine g_getR (ci := 1) (k := 2) F hH rfl (by decide) iX1 hp.1 (by decide) rfl (b := ln) hp.2.2.2.1 k29 dX1_readRing_70 ?_
              refine g_getI (ci := 0) (k := 6) F hH rfl (by decide) iX0 hp.2.2.2.2.1 (by decide) rfl k146 dX1_readRing_73 ?_
              refine z_iadd F dX1_readRing_76 ?_
              refine g_calli (g_runV (As := [.int (iI (((I_141 ln 5).toInt) + ((I_141 ln 6).toInt)))]) (rest := []) (ci := 1) F hl.1 hH hS hz (c_X1_readTermsf l g gh q ln b n tl nr nt cl r_149.2.1 I_141 R J AI AJ AR a (((I_141 ln 5).toInt) + ((I_141 ln 6).toInt)) ⟨by omega, by omega⟩ hv hp (by omega) hP (by omega)) (cwV 1 F.2.2.2.2.1 gX1_readRing_X1_readTerms rfl rfl rfl hdX1_readTerms ⟨Nat.le_of_ble_eq_true rfl, Nat.le_of_ble_eq_true rfl⟩) hp.1 (by decide) rfl rfl rfl (Nat.le_of_ble_eq_true rfl) dX1_readRing_77 ⟨Nat.zero_le _, Nat.zero_le _⟩) hS (fun v_174 I_168 R_169 J_170 AI_171 AJ_172 AR_173 H locs zv_174 hp_175 hH hS => ?_)
              dsimp only at hp_175
              rw [show ((I_141 ln 5).toInt) + ((I_141 ln 6).toInt) = r_9.2.2 + r_68.2.2 by omega] at hp_175
              obtain ⟨r_176, er_176⟩ : ∃ qQ : pR, qQ = sTerms b n (r_9.2.2 + r_68.2.2) 5 0 r_149.2.1 := ⟨_, rfl⟩
              rw [← er_176] at hp_175
              obtain ⟨rfl, rfl, rfl, rfl, hv, hp, pfq, q_177, q_178, hP, q_179, hx8⟩ := hp_175
              have pf := pF_t pf pfq
              have u_180q : (I_168 q 1).toInt = (I_141 q 1).toInt := by rw [pF_q hp pfq]
              have u_180_0 : (I_168 ln 0).toInt = (I_141 ln 0).toInt := by rw [pfq.2]
              refine lv_istore_n (lv' := [(1, .int (iI v_174)), (0, .ref a)]) F.1 F.2.1 dX1_readRing_80 rfl hl (by decide) rfl (fun ls hl => ?_)
              refine lv_aload_n F.1 F.2.1 dX1_readRing_81 rfl (lv_at hl 1 rfl) ?_
              refine g_getR (ci := 1) (k := 2) F hH rfl (by decide) iX1 hp.1 (by decide) rfl (b := ln) hp.2.2.2.1 k29 dX1_readRing_82 ?_
              refine lv_aload_n F.1 F.2.1 dX1_readRing_85 rfl (lv_at hl 1 rfl) ?_
              refine g_getR (ci := 1) (k := 2) F hH rfl (by decide) iX1 hp.1 (by decide) rfl (b := ln) hp.2.2.2.1 k29 dX1_readRing_86 ?_
              refine g_getI (ci := 0) (k := 5) F hH rfl (by decide) iX0 hp.2.2.2.2.1 (by decide) rfl k143 dX1_readRing_89 ?_
              have b_181 := gI_line hv hp.2.2.2.2.1
              unfold vLineI at b_181
              refine g_putI (ci := 0) (k := 2) F hH hS rfl (by decide) iX0 hp.2.2.2.2.1 (by decide) tyX0 tyX0_ok nmX0 rfl rfl rfl k136 dX1_readRing_92 (fun H locs hH hS => ?_)
              obtain ⟨I_182, eI_182⟩ : ∃ qQ, qQ = gup2 I_168 ln 2 (iI ((I_168 ln 5).toInt)) := ⟨_, rfl⟩
              rw [← eI_182] at hH
              have kI_182 : ∀ b, b ≠ ln → I_182 b = I_168 b := fun b hb => by rw [eI_182]; exact funext fun j => gup2_a _ _ hb
              have hP := pH_ln hv hp hP kI_182
              have w_183 : (I_182 ln 2).toInt = (I_168 ln 5).toInt := by rw [eI_182, gup2_s]; exact iI_val ⟨by omega, by omega⟩
              have hp2 : pS g gh R I_182 a q ln := pS_ln hv hp kI_182
              have hv : gInv g gh R AR I_182 AI_171 := by rw [eI_182]; exact gInv_line2 hv hp.2.2.2.2.1 (by omega) (by omega) (pS_col hp)
              have hp := hp2
              have pf : pF a ln I I_182 := pF_t pf (by rw [eI_182]; exact pF_ln (by decide))
              have w_183_k : ∀ j, j ≠ 2 → I_182 ln j = I_168 ln j := fun j hj => by rw [eI_182]; exact gup2_k _ _ hj
              have u_184q : (I_182 q 1).toInt = (I_168 q 1).toInt := by rw [kI_182 q (gO_ne hp.2.2.1 hp.2.2.2.2.1 (by decide))]
              have u_184_0 : (I_182 ln 0).toInt = (I_168 ln 0).toInt := by rw [w_183_k 0 (by decide)]
              have u_184_8 : (I_182 ln 8).toInt = (I_168 ln 8).toInt := by rw [w_183_k 8 (by decide)]
              have u_185 : (I_182 ln 5).toInt = (I_168 ln 5).toInt := by rw [w_183_k 5 (by decide)]
              have u_186 : (I_182 ln 6).toInt = (I_168 ln 6).toInt := by rw [w_183_k 6 (by decide)]
              have u_187 : (I_182 ln 9).toInt = (I_168 ln 9).toInt := by rw [w_183_k 9 (by decide)]
              have u_188 : (I_182 ln 10).toInt = (I_168 ln 10).toInt := by rw [w_183_k 10 (by decide)]
              refine lv_iload_n F.1 F.2.1 dX1_readRing_95 rfl (lv_at hl 0 rfl) ?_
              have hfz : v_174 = 0 → sRng b n nr nt cl h = (0, r_176.2.1, rX r_9.2.2 r_68.2.2 r_176.2.2) := fun h => by unfold sRng; exact thn_y er_9 (by omega) (thn_y er_38 (by omega) (thn_y er_68 (by omega) (thn_y er_95 (by omega) (thn_y er_123 (by omega) (thn_y er_149 (by omega) (thn_y er_176 (by omega) rfl))))))
              have hfn : v_174 ≠ 0 → sRng b n nr nt cl h = r_176 := fun h => by unfold sRng; exact thn_y er_9 (by omega) (thn_y er_38 (by omega) (thn_y er_68 (by omega) (thn_y er_95 (by omega) (thn_y er_123 (by omega) (thn_y er_149 (by omega) (thn_x er_176 (by omega)))))))
              have hfin : (sRng b n nr nt cl h).1 = r_176.1 ∧ (sRng b n nr nt cl h).2.1 = r_176.2.1 := by
                by_cases h : v_174 = 0
                · rw [hfz h]; exact ⟨by (try dsimp only); omega, rfl⟩
                · rw [hfn h]; exact ⟨rfl, rfl⟩
              exact g_iret F hr hlk hH hS hz zv_174 ⟨rfl, rfl, rfl, rfl, hv, hp, pf, by first | omega | rfl | (dsimp only; omega), by (try dsimp only); rw [hfin.1]; omega, by (try dsimp only); rw [hfin.2]; exact hP, by (try dsimp only); first | exact (fun h => absurd h (by omega)) | exact (fun h => by
        have q9 := hx8 h
        rw [hfz h]
        show pB _ (rX r_9.2.2 r_68.2.2 r_176.2.2)
        unfold pB rX
        refine Or.inr ⟨by omega, by omega, ?_⟩
        by_cases w9 : r_9.2.2 + r_68.2.2 ≤ 4 ∧ r_176.2.2 = r_9.2.2
        · rw [if_pos w9]; exact Or.inl ⟨by omega, by omega, by omega⟩
        · rw [if_neg w9]; exact Or.inr ⟨by omega, rfl⟩)⟩ dX1_readRing_96

def rmX1_readTableColumnsf : Room := { frames := 1, cells := 0, slots := 0, locals := 21 }
set_option maxHeartbeats 4000000 in
set_option maxRecDepth 100000 in
/-- the columns of a table -/
theorem c_X1_readTableColumnsf (l : Launch) (g : gG) (gh : gGh) (q ln : Nat) (b : tTx) (n : Nat) (tl : Int) (nr : Nat) (nt : Nat → Nat) (cl : Nat → Int) (h : Nat) (I : gI) (R : gR) (J : gJ) (AI : gI) (AJ : gJ) (AR : gR) (a : Nat) (hv : gInv g gh R AR I AI) (hp : pS g gh R I a q ln) (hP : pH gh AR I J AI AJ a q b n tl nr nt cl h) : gMet l g yX1_readTableColumns wsX1_readTableColumns rmX1_readTableColumnsf [.ref a] (I, R, J, AI, AJ, AR) (gQi g (fun (z : Int) (w : gS) => R = w.2.1 ∧ J = w.2.2.1 ∧ AI = w.2.2.2.1 ∧ AJ = w.2.2.2.2.1 ∧ AR = w.2.2.2.2.2 ∧ (gInv g gh R AR (w.1) AI) ∧ (pS g gh R (w.1) a q ln) ∧ (pF a ln I (w.1)) ∧ (0 ≤ z ∧ z ≤ 4) ∧ (z = (sTc b n h).1) ∧ (pH gh AR (w.1) J AI AJ a q b n tl nr nt cl (sTc b n h).2.1) ∧ (pIm z (((w.1) ln 2).toInt) ((sTc b n h).2.2)))) := by
  refine gStart (cc := cX1_readTableColumns) (maxL := 2) (ret := (some (.int))) (by decide) rfl (Nat.le_of_ble_eq_true rfl) ?_
  intro p e s m below meth c ls F hr hlk hH hz hS hl
  have hl : lv_has ls 2 [(0, .ref a)] := hl
  have hS : va_S (gA g) s.heap s.heap [] := hS
  obtain ⟨H, hHe⟩ : ∃ H : Heap, H = s.heap := ⟨_, rfl⟩
  obtain ⟨locs, hlo⟩ : ∃ k : List Loc, k = [] := ⟨_, rfl⟩
  have hH : gH g I R J AI AJ AR H := by rw [hHe]; exact hH
  have hS : va_S (gA g) s.heap H locs := by rw [hHe, hlo]; exact hS
  suffices hw : W p l e rmX1_readTableColumnsf s m ([.ref a] : List Value).toArray below meth c H locs 0 0 (MQ below (gQi g (fun (z : Int) (w : gS) => R = w.2.1 ∧ J = w.2.2.1 ∧ AI = w.2.2.2.1 ∧ AJ = w.2.2.2.2.1 ∧ AR = w.2.2.2.2.2 ∧ (gInv g gh R AR (w.1) AI) ∧ (pS g gh R (w.1) a q ln) ∧ (pF a ln I (w.1)) ∧ (0 ≤ z ∧ z ≤ 4) ∧ (z = (sTc b n h).1) ∧ (pH gh AR (w.1) J AI AJ a q b n tl nr nt cl (sTc b n h).2.1) ∧ (pIm z (((w.1) ln 2).toInt) ((sTc b n h).2.2)))) ([.ref a] : List Value).toArray s 0 0 (gA g)) (F0 m 0 ls []) by
    rw [hHe, hlo] at hw; exact hw
  clear hHe hlo
  have pf : pF a ln I I := pF_r
  have iX5 : ∀ w ∈ u_ws RX5 TX5 5, w ∈ wsX1_readTableColumns := (by decide +kernel)
  have iX1 : ∀ w ∈ u_ws RX1 TX1 4, w ∈ wsX1_readTableColumns := (by decide +kernel)
  have iX0 : ∀ w ∈ u_ws RX0 TX0 15, w ∈ wsX1_readTableColumns := (by decide +kernel)
  have k12 : Cond.fieldLink RX1 12 (TX1 0).1 (TX1 0).2.1 (TX1 0).2.2.1 ∈ wsX1_readTableColumns := List.mem_of_getElem? (i := 1) rfl
  have k71 : Cond.fieldLink RX1 71 (TX5 2).1 (TX5 2).2.1 (TX5 2).2.2.1 ∈ wsX1_readTableColumns := List.mem_of_getElem? (i := 2) rfl
  have k44 : Cond.fieldLink RX1 44 (TX1 3).1 (TX1 3).2.1 (TX1 3).2.2.1 ∈ wsX1_readTableColumns := List.mem_of_getElem? (i := 3) rfl
  have k29 : Cond.fieldLink RX1 29 (TX1 2).1 (TX1 2).2.1 (TX1 2).2.2.1 ∈ wsX1_readTableColumns := List.mem_of_getElem? (i := 4) rfl
  have k136 : Cond.fieldLink RX1 136 (TX0 2).1 (TX0 2).2.1 (TX0 2).2.2.1 ∈ wsX1_readTableColumns := List.mem_of_getElem? (i := 5) rfl
  refine lv_aload_n F.1 F.2.1 dX1_readTableColumns_0 rfl (lv_at hl 0 rfl) ?_
  refine z_iconst F dX1_readTableColumns_1 ?_
  refine g_calli (g_runV (As := [.int (iI 4)]) (rest := []) (ci := 1) F hl.1 hH hS hz (c_X1_isKindf l g gh q b n tl nr nt cl h I R J AI AJ AR a 4 ⟨by decide, by decide⟩ hv hp.1 (by first | exact hp.2.2.2.2.2.2.2 | exact hh | omega) hP) (cwV 1 F.2.2.2.2.1 gX1_readTableColumns_X1_isKind rfl rfl rfl hdX1_isKind ⟨Nat.le_of_ble_eq_true rfl, Nat.le_of_ble_eq_true rfl⟩) hp.1 (by decide) rfl rfl rfl (Nat.le_of_ble_eq_true rfl) dX1_readTableColumns_2 ⟨Nat.zero_le _, Nat.zero_le _⟩) hS (fun v_7 I_1 R_2 J_3 AI_4 AJ_5 AR_6 H locs zv_7 hp_8 hH hS => ?_)
  dsimp only at hp_8
  obtain ⟨rfl, rfl, rfl, rfl, rfl, rfl, q_9, q_10⟩ := hp_8
  refine z_if_ne (tgt := 10) F dX1_readTableColumns_5 (by decide) zv_7 (fun c_11 => ?_) (fun c_11 => ?_)
  · have t_12 := tIz_1 q_10 (by omega)
    refine lv_aload_n F.1 F.2.1 dX1_readTableColumns_10 rfl (lv_at hl 0 rfl) ?_
    refine g_getR (ci := 1) (k := 0) F hH rfl (by decide) iX1 hp.1 (by decide) rfl (b := gh 22 0) (gR_pr0 hv hp.1).1 k12 dX1_readTableColumns_11 ?_
    obtain ⟨r_13a, r_13b⟩ := gR_tk2 hv (gR_pr0 hv hp.1).2
    refine g_getR (ci := 5) (k := 2) F hH rfl (by decide) iX5 (gR_pr0 hv hp.1).2 (by decide) rfl (b := gh 26 0) r_13a k71 dX1_readTableColumns_14 ?_
    refine lv_aload_n F.1 F.2.1 dX1_readTableColumns_17 rfl (lv_at hl 0 rfl) ?_
    refine g_getI (ci := 1) (k := 3) F hH rfl (by decide) iX1 hp.1 (by decide) rfl k44 dX1_readTableColumns_18 ?_
    have b_14h := hp.2.2.2.2.2.2.2
    have b_14 := gI_pr hv hp.1
    have b_14t := gI_tk hv (gR_pr0 hv hp.1).2
    have hx21 : 0 ≤ ((I a 3).toInt) ∧ ((I a 3).toInt) < ((901 : Nat) : Int) ∧ ((I a 3).toInt) ≤ 2147483647 := ⟨by omega, by omega, by omega⟩
    refine g_iald F hH r_13b hx21.1 hx21.2.1 hx21.2.2 dX1_readTableColumns_21 ?_
    refine z_name (fun v_15 ev_15 => ?_)
    have zv_15 : zr v_15 := by rw [ev_15]; exact zr_t _
    have t21 : v_15 = pV b n (h) := by rw [ev_15]; exact pH_V hP
    refine lv_istore_n (lv' := [(1, .int (iI v_15)), (0, .ref a)]) F.1 F.2.1 dX1_readTableColumns_22 rfl hl (by decide) rfl (fun ls hl => ?_)
    refine lv_iload_n F.1 F.2.1 dX1_readTableColumns_23 rfl (lv_at hl 0 rfl) ?_
    refine z_iconst F dX1_readTableColumns_24 ?_
    refine z_icmp_lt (tgt := 33) F dX1_readTableColumns_25 (by decide) zv_15 ⟨by decide, by decide⟩ (fun c_16 => ?_) (fun c_16 => ?_)
    · refine z_iconst F dX1_readTableColumns_33 ?_
      have hfin : sTc b n h = (2, h, 0) := by
        unfold sTc
        repeat (first | with_reducible rfl | refine ite_y (by omega) ?_ | refine ite_n (by omega) ?_ | exact pr_e (by omega) (by omega) (by omega))
      exact g_iret F hr hlk hH hS hz ⟨by decide, by decide⟩ ⟨rfl, rfl, rfl, rfl, rfl, hv, hp, pf, by first | omega | rfl | (dsimp only; omega), by (try dsimp only); rw [hfin]; first | done | omega | rfl, by (try dsimp only); rw [hfin]; exact hP, by (try dsimp only); first | exact pIm_n (by omega) | (rw [hfin]; (try dsimp only); exact pIm_y (by first | omega | rfl)) | exact pIm_y (by omega)⟩ dX1_readTableColumns_34
    · refine lv_iload_n F.1 F.2.1 dX1_readTableColumns_28 rfl (lv_at hl 0 rfl) ?_
      refine z_iconst F dX1_readTableColumns_29 ?_
      refine z_icmp_le (tgt := 35) F dX1_readTableColumns_30 (by decide) zv_15 ⟨by decide, by decide⟩ (fun c_17 => ?_) (fun c_17 => ?_)
      · refine lv_aload_n F.1 F.2.1 dX1_readTableColumns_35 rfl (lv_at hl 1 rfl) ?_
        refine g_getR (ci := 1) (k := 2) F hH rfl (by decide) iX1 hp.1 (by decide) rfl (b := ln) hp.2.2.2.1 k29 dX1_readTableColumns_36 ?_
        refine lv_iload_n F.1 F.2.1 dX1_readTableColumns_39 rfl (lv_at hl 0 rfl) ?_
        refine g_putI (ci := 0) (k := 2) F hH hS rfl (by decide) iX0 hp.2.2.2.2.1 (by decide) tyX0 tyX0_ok nmX0 rfl rfl rfl k136 dX1_readTableColumns_40 (fun H locs hH hS => ?_)
        obtain ⟨I_18, eI_18⟩ : ∃ qQ, qQ = gup2 I ln 2 (iI (v_15)) := ⟨_, rfl⟩
        rw [← eI_18] at hH
        have kI_18 : ∀ b, b ≠ ln → I_18 b = I b := fun b hb => by rw [eI_18]; exact funext fun j => gup2_a _ _ hb
        have hP := pH_ln hv hp hP kI_18
        have w_19 : (I_18 ln 2).toInt = v_15 := by rw [eI_18, gup2_s]; exact iI_val ⟨by omega, by omega⟩
        have hp2 : pS g gh R I_18 a q ln := pS_ln hv hp kI_18
        have hv : gInv g gh R AR I_18 AI := by rw [eI_18]; exact gInv_line2 hv hp.2.2.2.2.1 (by omega) (by omega) (pS_col hp)
        have hp := hp2
        have pf : pF a ln I I_18 := pF_t pf (by rw [eI_18]; exact pF_ln (by decide))
        have w_19_k : ∀ j, j ≠ 2 → I_18 ln j = I ln j := fun j hj => by rw [eI_18]; exact gup2_k _ _ hj
        have u_20q : (I_18 q 1).toInt = (I q 1).toInt := by rw [kI_18 q (gO_ne hp.2.2.1 hp.2.2.2.2.1 (by decide))]
        have u_20_0 : (I_18 ln 0).toInt = (I ln 0).toInt := by rw [w_19_k 0 (by decide)]
        have u_20_8 : (I_18 ln 8).toInt = (I ln 8).toInt := by rw [w_19_k 8 (by decide)]
        have u_21 : (I_18 ln 5).toInt = (I ln 5).toInt := by rw [w_19_k 5 (by decide)]
        have u_22 : (I_18 ln 6).toInt = (I ln 6).toInt := by rw [w_19_k 6 (by decide)]
        have u_23 : (I_18 ln 9).toInt = (I ln 9).toInt := by rw [w_19_k 9 (by decide)]
        have u_24 : (I_18 ln 10).toInt = (I ln 10).toInt := by rw [w_19_k 10 (by decide)]
        refine lv_aload_n F.1 F.2.1 dX1_readTableColumns_43 rfl (lv_at hl 1 rfl) ?_
        have hv0 := hv
        refine g_callv (g_runV (As := []) (rest := []) (ci := 1) F hl.1 hH hS hz (c_X1_stepf l g gh q b n tl nr nt cl h I_18 R J AI AJ AR a hv hp.1 (by first | exact hp.2.2.2.2.2.2.2 | exact hh | omega) hP (by first | exact hp.2.2.1 | exact hq) (by omega)) (cwV 0 F.2.2.2.2.1 gX1_readTableColumns_X1_step rfl rfl rfl hdX1_step ⟨Nat.le_of_ble_eq_true rfl, Nat.le_of_ble_eq_true rfl⟩) hp.1 (by decide) rfl rfl rfl (Nat.le_of_ble_eq_true rfl) dX1_readTableColumns_44 ⟨Nat.zero_le _, Nat.zero_le _⟩) hS (fun I_25 R_26 J_27 AI_28 AJ_29 AR_30 H locs hp_31 hH hS => ?_)
        dsimp only at hp_31
        obtain ⟨rfl, rfl, rfl, rfl, rfl, hv, fs, hs, hP⟩ := hp_31
        have hP : pH gh AR I_25 J AI AJ a q b n tl nr nt cl (h + 1) := hP
        obtain ⟨hp, pfq, fls⟩ := pS_step hv0 hp fs hs
        have pf := pF_t pf pfq
        have u_32q : (I_25 q 1).toInt = (I_18 q 1).toInt := by rw [pF_q hp pfq]
        have u_32_0 : (I_25 ln 0).toInt = (I_18 ln 0).toInt := by rw [fls]
        have u_32_8 : (I_25 ln 8).toInt = (I_18 ln 8).toInt := by rw [fls]
        have u_33 : (I_25 ln 2).toInt = (I_18 ln 2).toInt := by rw [fls]
        have u_34 : (I_25 ln 5).toInt = (I_18 ln 5).toInt := by rw [fls]
        have u_35 : (I_25 ln 6).toInt = (I_18 ln 6).toInt := by rw [fls]
        have u_36 : (I_25 ln 9).toInt = (I_18 ln 9).toInt := by rw [fls]
        have u_37 : (I_25 ln 10).toInt = (I_18 ln 10).toInt := by rw [fls]
        refine z_iconst F dX1_readTableColumns_47 ?_
        have hfin : sTc b n h = (0, h + 1, pV b n h) := by
          unfold sTc
          repeat (first | with_reducible rfl | refine ite_y (by omega) ?_ | refine ite_n (by omega) ?_ | exact pr_e (by omega) (by omega) (by omega))
        exact g_iret F hr hlk hH hS hz ⟨by decide, by decide⟩ ⟨rfl, rfl, rfl, rfl, rfl, hv, hp, pf, by first | omega | rfl | (dsimp only; omega), by (try dsimp only); rw [hfin]; first | done | omega | rfl, by (try dsimp only); rw [hfin]; exact hP, by (try dsimp only); first | exact pIm_n (by omega) | (rw [hfin]; (try dsimp only); exact pIm_y (by first | omega | rfl)) | exact pIm_y (by omega)⟩ dX1_readTableColumns_48
      · refine z_iconst F dX1_readTableColumns_33 ?_
        have hfin : sTc b n h = (2, h, 0) := by
          unfold sTc
          repeat (first | with_reducible rfl | refine ite_y (by omega) ?_ | refine ite_n (by omega) ?_ | exact pr_e (by omega) (by omega) (by omega))
        exact g_iret F hr hlk hH hS hz ⟨by decide, by decide⟩ ⟨rfl, rfl, rfl, rfl, rfl, hv, hp, pf, by first | omega | rfl | (dsimp only; omega), by (try dsimp only); rw [hfin]; first | done | omega | rfl, by (try dsimp only); rw [hfin]; exact hP, by (try dsimp only); first | exact pIm_n (by omega) | (rw [hfin]; (try dsimp only); exact pIm_y (by first | omega | rfl)) | exact pIm_y (by omega)⟩ dX1_readTableColumns_34
  · have t_38 := tIz_0 q_10 (by omega)
    refine z_iconst F dX1_readTableColumns_8 ?_
    have hfin : sTc b n h = (1, h, 0) := by
      unfold sTc
      repeat (first | with_reducible rfl | refine ite_y (by omega) ?_ | refine ite_n (by omega) ?_ | exact pr_e (by omega) (by omega) (by omega))
    exact g_iret F hr hlk hH hS hz ⟨by decide, by decide⟩ ⟨rfl, rfl, rfl, rfl, rfl, hv, hp, pf, by first | omega | rfl | (dsimp only; omega), by (try dsimp only); rw [hfin]; first | done | omega | rfl, by (try dsimp only); rw [hfin]; exact hP, by (try dsimp only); first | exact pIm_n (by omega) | (rw [hfin]; (try dsimp only); exact pIm_y (by first | omega | rfl)) | exact pIm_y (by omega)⟩ dX1_readTableColumns_9
