def rmX1_readTestf : Room := { frames := 2, cells := 0, slots := 0, locals := 42 }
set_option maxHeartbeats 4000000 in
set_option maxRecDepth 100000 in
/-- a test -/
theorem c_X1_readTestf (l : Launch) (g : gG) (gh : gGh) (q ln : Nat) (c5 k8 : Int) (b : tTx) (n : Nat) (tl : Int) (nr : Nat) (nt : Nat → Nat) (cl : Nat → Int) (h : Nat) (I : gI) (R : gR) (J : gJ) (AI : gI) (AJ : gJ) (AR : gR) (a : Nat) (hv : gInv g gh R AR I AI) (hp : pS g gh R I a q ln) (hk : (I ln 0).toInt = 1) (hP : pH gh AR I J AI AJ a q b n tl nr nt cl h) (hc5 : (I ln 5).toInt = c5) (hk8 : (I ln 8).toInt = k8) : gMet l g yX1_readTest wsX1_readTest rmX1_readTestf [.ref a] (I, R, J, AI, AJ, AR) (gQi g (fun (z : Int) (w : gS) => R = w.2.1 ∧ J = w.2.2.1 ∧ AJ = w.2.2.2.2.1 ∧ AR = w.2.2.2.2.2 ∧ (gInv g gh R AR (w.1) (w.2.2.2.1)) ∧ (pS g gh R (w.1) a q ln) ∧ (pF a ln I (w.1)) ∧ (0 ≤ z ∧ z ≤ 4) ∧ (z = (sTest b n c5 k8 h).1) ∧ (pH gh AR (w.1) J (w.2.2.2.1) AJ a q b n tl nr nt cl (sTest b n c5 k8 h).2.1) ∧ (((w.1) ln 5).toInt = (I ln 5).toInt ∧ ((w.1) ln 6).toInt = (I ln 6).toInt) ∧ (pIm z (((w.1) ln 8).toInt) (k8 + 1)))) := by
  refine gStart (cc := cX1_readTest) (maxL := 6) (ret := (some (.int))) (by decide) rfl (Nat.le_of_ble_eq_true rfl) ?_
  intro p e s m below meth c ls F hr hlk hH hz hS hl
  have hl : lv_has ls 6 [(0, .ref a)] := hl
  have hS : va_S (gA g) s.heap s.heap [] := hS
  obtain ⟨H, hHe⟩ : ∃ H : Heap, H = s.heap := ⟨_, rfl⟩
  obtain ⟨locs, hlo⟩ : ∃ k : List Loc, k = [] := ⟨_, rfl⟩
  have hH : gH g I R J AI AJ AR H := by rw [hHe]; exact hH
  have hS : va_S (gA g) s.heap H locs := by rw [hHe, hlo]; exact hS
  suffices hw : W p l e rmX1_readTestf s m ([.ref a] : List Value).toArray below meth c H locs 0 0 (MQ below (gQi g (fun (z : Int) (w : gS) => R = w.2.1 ∧ J = w.2.2.1 ∧ AJ = w.2.2.2.2.1 ∧ AR = w.2.2.2.2.2 ∧ (gInv g gh R AR (w.1) (w.2.2.2.1)) ∧ (pS g gh R (w.1) a q ln) ∧ (pF a ln I (w.1)) ∧ (0 ≤ z ∧ z ≤ 4) ∧ (z = (sTest b n c5 k8 h).1) ∧ (pH gh AR (w.1) J (w.2.2.2.1) AJ a q b n tl nr nt cl (sTest b n c5 k8 h).2.1) ∧ (((w.1) ln 5).toInt = (I ln 5).toInt ∧ ((w.1) ln 6).toInt = (I ln 6).toInt) ∧ (pIm z (((w.1) ln 8).toInt) (k8 + 1)))) ([.ref a] : List Value).toArray s 0 0 (gA g)) (F0 m 0 ls []) by
    rw [hHe, hlo] at hw; exact hw
  clear hHe hlo
  have pf : pF a ln I I := pF_r
  have iX5 : ∀ w ∈ u_ws RX5 TX5 5, w ∈ wsX1_readTest := (by decide +kernel)
  have iX1 : ∀ w ∈ u_ws RX1 TX1 4, w ∈ wsX1_readTest := (by decide +kernel)
  have iX0 : ∀ w ∈ u_ws RX0 TX0 15, w ∈ wsX1_readTest := (by decide +kernel)
  have k29 : Cond.fieldLink RX1 29 (TX1 2).1 (TX1 2).2.1 (TX1 2).2.2.1 ∈ wsX1_readTest := List.mem_of_getElem? (i := 1) rfl
  have k143 : Cond.fieldLink RX1 143 (TX0 5).1 (TX0 5).2.1 (TX0 5).2.2.1 ∈ wsX1_readTest := List.mem_of_getElem? (i := 2) rfl
  have k149 : Cond.fieldLink RX1 149 (TX0 8).1 (TX0 8).2.1 (TX0 8).2.2.1 ∈ wsX1_readTest := List.mem_of_getElem? (i := 3) rfl
  have k12 : Cond.fieldLink RX1 12 (TX1 0).1 (TX1 0).2.1 (TX1 0).2.2.1 ∈ wsX1_readTest := List.mem_of_getElem? (i := 4) rfl
  have k71 : Cond.fieldLink RX1 71 (TX5 2).1 (TX5 2).2.1 (TX5 2).2.2.1 ∈ wsX1_readTest := List.mem_of_getElem? (i := 5) rfl
  have k44 : Cond.fieldLink RX1 44 (TX1 3).1 (TX1 3).2.1 (TX1 3).2.2.1 ∈ wsX1_readTest := List.mem_of_getElem? (i := 6) rfl
  have k47 : Cond.fieldLink RX1 47 (TX5 0).1 (TX5 0).2.1 (TX5 0).2.2.1 ∈ wsX1_readTest := List.mem_of_getElem? (i := 7) rfl
  refine lv_aload_n F.1 F.2.1 dX1_readTest_0 rfl (lv_at hl 0 rfl) ?_
  refine lv_aload_n F.1 F.2.1 dX1_readTest_1 rfl (lv_at hl 0 rfl) ?_
  refine g_getR (ci := 1) (k := 2) F hH rfl (by decide) iX1 hp.1 (by decide) rfl (b := ln) hp.2.2.2.1 k29 dX1_readTest_2 ?_
  refine g_getI (ci := 0) (k := 5) F hH rfl (by decide) iX0 hp.2.2.2.2.1 (by decide) rfl k143 dX1_readTest_5 ?_
  have b_1 := gI_line hv hp.2.2.2.2.1
  unfold vLineI at b_1
  refine g_calli (g_runV (As := [.int (iI ((I ln 5).toInt))]) (rest := []) (ci := 1) F hl.1 hH hS hz (c_X1_seeColumnf l g gh q b n tl nr nt cl h I R J AI AJ AR a ((I ln 5).toInt) (zr_t _) hv hp.1 (by first | exact hp.2.2.2.2.2.2.2 | exact hh | omega) hP) (cwV 1 F.2.2.2.2.1 gX1_readTest_X1_seeColumn rfl rfl rfl hdX1_seeColumn ⟨Nat.le_of_ble_eq_true rfl, Nat.le_of_ble_eq_true rfl⟩) hp.1 (by decide) rfl rfl rfl (Nat.le_of_ble_eq_true rfl) dX1_readTest_8 ⟨Nat.zero_le _, Nat.zero_le _⟩) hS (fun v_8 I_2 R_3 J_4 AI_5 AJ_6 AR_7 H locs zv_8 hp_9 hH hS => ?_)
  dsimp only at hp_9
  rw [show (I ln 5).toInt = c5 by omega] at hp_9
  obtain ⟨rfl, rfl, rfl, rfl, rfl, rfl, s1, s2, s3⟩ := hp_9
  refine lv_istore_n (lv' := [(1, .int (iI v_8)), (0, .ref a)]) F.1 F.2.1 dX1_readTest_11 rfl hl (by decide) rfl (fun ls hl => ?_)
  refine lv_iload_n F.1 F.2.1 dX1_readTest_12 rfl (lv_at hl 0 rfl) ?_
  refine z_if_eq (tgt := 18) F dX1_readTest_13 (by decide) zv_8 (fun c_10 => ?_) (fun c_10 => ?_)
  · have t_11 := pCf_0 (b := b) (n := n) (c := c5) (h := h) (by omega)
    refine lv_aload_n F.1 F.2.1 dX1_readTest_18 rfl (lv_at hl 1 rfl) ?_
    refine g_getR (ci := 1) (k := 2) F hH rfl (by decide) iX1 hp.1 (by decide) rfl (b := ln) hp.2.2.2.1 k29 dX1_readTest_19 ?_
    refine g_getI (ci := 0) (k := 8) F hH rfl (by decide) iX0 hp.2.2.2.2.1 (by decide) rfl k149 dX1_readTest_22 ?_
    refine z_bipush F dX1_readTest_25 (by decide) ?_
    refine z_icmp_lt (tgt := 32) F dX1_readTest_27 (by decide) (zr_t _) ⟨by decide, by decide⟩ (fun c_12 => ?_) (fun c_12 => ?_)
    · refine lv_aload_n F.1 F.2.1 dX1_readTest_32 rfl (lv_at hl 1 rfl) ?_
      refine g_getR (ci := 1) (k := 0) F hH rfl (by decide) iX1 hp.1 (by decide) rfl (b := gh 22 0) (gR_pr0 hv hp.1).1 k12 dX1_readTest_33 ?_
      obtain ⟨r_13a, r_13b⟩ := gR_tk2 hv (gR_pr0 hv hp.1).2
      refine g_getR (ci := 5) (k := 2) F hH rfl (by decide) iX5 (gR_pr0 hv hp.1).2 (by decide) rfl (b := gh 26 0) r_13a k71 dX1_readTest_36 ?_
      refine lv_aload_n F.1 F.2.1 dX1_readTest_39 rfl (lv_at hl 1 rfl) ?_
      refine g_getI (ci := 1) (k := 3) F hH rfl (by decide) iX1 hp.1 (by decide) rfl k44 dX1_readTest_40 ?_
      have b_14h := hp.2.2.2.2.2.2.2
      have b_14 := gI_pr hv hp.1
      have b_14t := gI_tk hv (gR_pr0 hv hp.1).2
      have hx43 : 0 ≤ ((I a 3).toInt) ∧ ((I a 3).toInt) < ((901 : Nat) : Int) ∧ ((I a 3).toInt) ≤ 2147483647 := ⟨by omega, by omega, by omega⟩
      refine g_iald F hH r_13b hx43.1 hx43.2.1 hx43.2.2 dX1_readTest_43 ?_
      refine z_name (fun v_15 ev_15 => ?_)
      have zv_15 : zr v_15 := by rw [ev_15]; exact zr_t _
      have t43 : v_15 = pV b n (h) := by rw [ev_15]; exact pH_V hP
      refine lv_istore_n (lv' := [(2, .int (iI v_15)), (1, .int (iI v_8)), (0, .ref a)]) F.1 F.2.1 dX1_readTest_44 rfl hl (by decide) rfl (fun ls hl => ?_)
      refine lv_aload_n F.1 F.2.1 dX1_readTest_45 rfl (lv_at hl 2 rfl) ?_
      have hv0 := hv
      refine g_callv (g_runV (As := []) (rest := []) (ci := 1) F hl.1 hH hS hz (c_X1_stepf l g gh q b n tl nr nt cl h I R J AI AJ AR a hv hp.1 (by first | exact hp.2.2.2.2.2.2.2 | exact hh | omega) hP (by first | exact hp.2.2.1 | exact hq) (by omega)) (cwV 0 F.2.2.2.2.1 gX1_readTest_X1_step rfl rfl rfl hdX1_step ⟨Nat.le_of_ble_eq_true rfl, Nat.le_of_ble_eq_true rfl⟩) hp.1 (by decide) rfl rfl rfl (Nat.le_of_ble_eq_true rfl) dX1_readTest_46 ⟨Nat.zero_le _, Nat.zero_le _⟩) hS (fun I_16 R_17 J_18 AI_19 AJ_20 AR_21 H locs hp_22 hH hS => ?_)
      dsimp only at hp_22
      obtain ⟨rfl, rfl, rfl, rfl, rfl, hv, fs, hs, hP⟩ := hp_22
      have hP : pH gh AR I_16 J AI AJ a q b n tl nr nt cl (h + 1) := hP
      obtain ⟨hp, pfq, fls⟩ := pS_step hv0 hp fs hs
      have pf := pF_t pf pfq
      have u_23q : (I_16 q 1).toInt = (I q 1).toInt := by rw [pF_q hp pfq]
      have u_23_0 : (I_16 ln 0).toInt = (I ln 0).toInt := by rw [fls]
      have u_23_8 : (I_16 ln 8).toInt = (I ln 8).toInt := by rw [fls]
      have u_24 : (I_16 ln 2).toInt = (I ln 2).toInt := by rw [fls]
      have u_25 : (I_16 ln 5).toInt = (I ln 5).toInt := by rw [fls]
      have u_26 : (I_16 ln 6).toInt = (I ln 6).toInt := by rw [fls]
      have u_27 : (I_16 ln 9).toInt = (I ln 9).toInt := by rw [fls]
      have u_28 : (I_16 ln 10).toInt = (I ln 10).toInt := by rw [fls]
      refine lv_aload_n F.1 F.2.1 dX1_readTest_49 rfl (lv_at hl 2 rfl) ?_
      refine g_getR (ci := 1) (k := 0) F hH rfl (by decide) iX1 hp.1 (by decide) rfl (b := gh 22 0) (gR_pr0 hv hp.1).1 k12 dX1_readTest_50 ?_
      obtain ⟨r_29a, r_29b⟩ := gR_tk0 hv (gR_pr0 hv hp.1).2
      refine g_getR (ci := 5) (k := 0) F hH rfl (by decide) iX5 (gR_pr0 hv hp.1).2 (by decide) rfl (b := gh 24 0) r_29a k47 dX1_readTest_53 ?_
      refine lv_aload_n F.1 F.2.1 dX1_readTest_56 rfl (lv_at hl 2 rfl) ?_
      refine g_getI (ci := 1) (k := 3) F hH rfl (by decide) iX1 hp.1 (by decide) rfl k44 dX1_readTest_57 ?_
      have b_30h := hp.2.2.2.2.2.2.2
      have b_30 := gI_pr hv hp.1
      have b_30t := gI_tk hv (gR_pr0 hv hp.1).2
      have hx60 : 0 ≤ ((I_16 a 3).toInt) ∧ ((I_16 a 3).toInt) < ((901 : Nat) : Int) ∧ ((I_16 a 3).toInt) ≤ 2147483647 := ⟨by omega, by omega, by omega⟩
      refine g_iald F hH r_29b hx60.1 hx60.2.1 hx60.2.2 dX1_readTest_60 ?_
      refine z_name (fun v_31 ev_31 => ?_)
      have zv_31 : zr v_31 := by rw [ev_31]; exact zr_t _
      have t60 : v_31 = pK b n (h + 1) := by rw [ev_31]; exact pH_K hP
      refine lv_istore_n (lv' := [(3, .int (iI v_31)), (2, .int (iI v_15)), (1, .int (iI v_8)), (0, .ref a)]) F.1 F.2.1 dX1_readTest_61 rfl hl (by decide) rfl (fun ls hl => ?_)
      refine lv_iload_n F.1 F.2.1 dX1_readTest_62 rfl (lv_at hl 0 rfl) ?_
      refine z_bipush F dX1_readTest_63 (by decide) ?_
      refine z_icmp_eq (tgt := 82) F dX1_readTest_65 (by decide) zv_31 ⟨by decide, by decide⟩ (fun c_32 => ?_) (fun c_32 => ?_)
      · refine lv_aload_n F.1 F.2.1 dX1_readTest_82 rfl (lv_at hl 3 rfl) ?_
        have hv0 := hv
        refine g_callv (g_runV (As := []) (rest := []) (ci := 1) F hl.1 hH hS hz (c_X1_stepf l g gh q b n tl nr nt cl (h + 1) I_16 R J AI AJ AR a hv hp.1 (by first | exact hp.2.2.2.2.2.2.2 | exact hh | omega) hP (by first | exact hp.2.2.1 | exact hq) (by omega)) (cwV 0 F.2.2.2.2.1 gX1_readTest_X1_step rfl rfl rfl hdX1_step ⟨Nat.le_of_ble_eq_true rfl, Nat.le_of_ble_eq_true rfl⟩) hp.1 (by decide) rfl rfl rfl (Nat.le_of_ble_eq_true rfl) dX1_readTest_83 ⟨Nat.zero_le _, Nat.zero_le _⟩) hS (fun I_33 R_34 J_35 AI_36 AJ_37 AR_38 H locs hp_39 hH hS => ?_)
        dsimp only at hp_39
        obtain ⟨rfl, rfl, rfl, rfl, rfl, hv, fs, hs, hP⟩ := hp_39
        have hP : pH gh AR I_33 J AI AJ a q b n tl nr nt cl (h + 2) := hP
        obtain ⟨hp, pfq, fls⟩ := pS_step hv0 hp fs hs
        have pf := pF_t pf pfq
        have u_40q : (I_33 q 1).toInt = (I_16 q 1).toInt := by rw [pF_q hp pfq]
        have u_40_0 : (I_33 ln 0).toInt = (I_16 ln 0).toInt := by rw [fls]
        have u_40_8 : (I_33 ln 8).toInt = (I_16 ln 8).toInt := by rw [fls]
        have u_41 : (I_33 ln 2).toInt = (I_16 ln 2).toInt := by rw [fls]
        have u_42 : (I_33 ln 5).toInt = (I_16 ln 5).toInt := by rw [fls]
        have u_43 : (I_33 ln 6).toInt = (I_16 ln 6).toInt := by rw [fls]
        have u_44 : (I_33 ln 9).toInt = (I_16 ln 9).toInt := by rw [fls]
        have u_45 : (I_33 ln 10).toInt = (I_16 ln 10).toInt := by rw [fls]
        refine lv_aload_n F.1 F.2.1 dX1_readTest_86 rfl (lv_at hl 3 rfl) ?_
        refine z_iconst F dX1_readTest_87 ?_
        refine g_calli (g_runV (As := [.int (iI 4)]) (rest := []) (ci := 1) F hl.1 hH hS hz (c_X1_isKindf l g gh q b n tl nr nt cl (h + 2) I_33 R J AI AJ AR a 4 ⟨by decide, by decide⟩ hv hp.1 (by first | exact hp.2.2.2.2.2.2.2 | exact hh | omega) hP) (cwV 1 F.2.2.2.2.1 gX1_readTest_X1_isKind rfl rfl rfl hdX1_isKind ⟨Nat.le_of_ble_eq_true rfl, Nat.le_of_ble_eq_true rfl⟩) hp.1 (by decide) rfl rfl rfl (Nat.le_of_ble_eq_true rfl) dX1_readTest_88 ⟨Nat.zero_le _, Nat.zero_le _⟩) hS (fun v_52 I_46 R_47 J_48 AI_49 AJ_50 AR_51 H locs zv_52 hp_53 hH hS => ?_)
        dsimp only at hp_53
        obtain ⟨rfl, rfl, rfl, rfl, rfl, rfl, q_54, q_55⟩ := hp_53
        refine lv_istore (lv' := [(4, .int (iI v_52)), (3, .int (iI v_31)), (2, .int (iI v_15)), (1, .int (iI v_8)), (0, .ref a)]) F.1 F.2.1 dX1_readTest_91 hl (by decide) rfl (fun ls hl => ?_)
        refine lv_iload F.1 F.2.1 dX1_readTest_93 (lv_at hl 0 rfl) ?_
        refine z_if_eq (tgt := 102) F dX1_readTest_95 (by decide) zv_52 (fun c_56 => ?_) (fun c_56 => ?_)
        · have t_57 := tIz_0 q_55 (by omega)
          refine lv_aload_n F.1 F.2.1 dX1_readTest_102 rfl (lv_at hl 4 rfl) ?_
          refine lv_aload_n F.1 F.2.1 dX1_readTest_103 rfl (lv_at hl 4 rfl) ?_
          refine g_getR (ci := 1) (k := 2) F hH rfl (by decide) iX1 hp.1 (by decide) rfl (b := ln) hp.2.2.2.1 k29 dX1_readTest_104 ?_
          refine g_getI (ci := 0) (k := 5) F hH rfl (by decide) iX0 hp.2.2.2.2.1 (by decide) rfl k143 dX1_readTest_107 ?_
          have b_58 := gI_line hv hp.2.2.2.2.1
          unfold vLineI at b_58
          refine g_calli (g_runV (As := [.int (iI ((I_33 ln 5).toInt))]) (rest := []) (ci := 1) F hl.1 hH hS hz (c_X1_seeColumnf l g gh q b n tl nr nt cl (h + 2) I_33 R J AI AJ AR a ((I_33 ln 5).toInt) (zr_t _) hv hp.1 (by first | exact hp.2.2.2.2.2.2.2 | exact hh | omega) hP) (cwV 1 F.2.2.2.2.1 gX1_readTest_X1_seeColumn rfl rfl rfl hdX1_seeColumn ⟨Nat.le_of_ble_eq_true rfl, Nat.le_of_ble_eq_true rfl⟩) hp.1 (by decide) rfl rfl rfl (Nat.le_of_ble_eq_true rfl) dX1_readTest_110 ⟨Nat.zero_le _, Nat.zero_le _⟩) hS (fun v_65 I_59 R_60 J_61 AI_62 AJ_63 AR_64 H locs zv_65 hp_66 hH hS => ?_)
          dsimp only at hp_66
          rw [show (I_33 ln 5).toInt = c5 by omega] at hp_66
          obtain ⟨rfl, rfl, rfl, rfl, rfl, rfl, t1, t2, t3⟩ := hp_66
          refine lv_istore_n (lv' := [(1, .int (iI v_65)), (4, .int (iI v_52)), (3, .int (iI v_31)), (2, .int (iI v_15)), (0, .ref a)]) F.1 F.2.1 dX1_readTest_113 rfl hl (by decide) rfl (fun ls hl => ?_)
          refine lv_iload_n F.1 F.2.1 dX1_readTest_114 rfl (lv_at hl 0 rfl) ?_
          refine z_if_eq (tgt := 120) F dX1_readTest_115 (by decide) zv_65 (fun c_67 => ?_) (fun c_67 => ?_)
          · have t_68 := pCf_0 (b := b) (n := n) (c := c5) (h := h + 2) (by omega)
            refine lv_aload_n F.1 F.2.1 dX1_readTest_120 rfl (lv_at hl 4 rfl) ?_
            refine g_getR (ci := 1) (k := 0) F hH rfl (by decide) iX1 hp.1 (by decide) rfl (b := gh 22 0) (gR_pr0 hv hp.1).1 k12 dX1_readTest_121 ?_
            refine g_getR (ci := 5) (k := 2) F hH rfl (by decide) iX5 (gR_pr0 hv hp.1).2 (by decide) rfl (b := gh 26 0) r_13a k71 dX1_readTest_124 ?_
            refine lv_aload_n F.1 F.2.1 dX1_readTest_127 rfl (lv_at hl 4 rfl) ?_
            refine g_getI (ci := 1) (k := 3) F hH rfl (by decide) iX1 hp.1 (by decide) rfl k44 dX1_readTest_128 ?_
            have b_69h := hp.2.2.2.2.2.2.2
            have b_69 := gI_pr hv hp.1
            have b_69t := gI_tk hv (gR_pr0 hv hp.1).2
            have hx131 : 0 ≤ ((I_33 a 3).toInt) ∧ ((I_33 a 3).toInt) < ((901 : Nat) : Int) ∧ ((I_33 a 3).toInt) ≤ 2147483647 := ⟨by omega, by omega, by omega⟩
            refine g_iald F hH r_13b hx131.1 hx131.2.1 hx131.2.2 dX1_readTest_131 ?_
            refine z_name (fun v_70 ev_70 => ?_)
            have zv_70 : zr v_70 := by rw [ev_70]; exact zr_t _
            have t131 : v_70 = pV b n (h + 2) := by rw [ev_70]; exact pH_V hP
            refine lv_istore (lv' := [(5, .int (iI v_70)), (1, .int (iI v_65)), (4, .int (iI v_52)), (3, .int (iI v_31)), (2, .int (iI v_15)), (0, .ref a)]) F.1 F.2.1 dX1_readTest_132 hl (by decide) rfl (fun ls hl => ?_)
            refine lv_aload_n F.1 F.2.1 dX1_readTest_134 rfl (lv_at hl 5 rfl) ?_
            refine g_getR (ci := 1) (k := 2) F hH rfl (by decide) iX1 hp.1 (by decide) rfl (b := ln) hp.2.2.2.1 k29 dX1_readTest_135 ?_
            refine lv_iload_n F.1 F.2.1 dX1_readTest_138 rfl (lv_at hl 4 rfl) ?_
            refine lv_iload_n F.1 F.2.1 dX1_readTest_139 rfl (lv_at hl 3 rfl) ?_
            refine lv_iload F.1 F.2.1 dX1_readTest_140 (lv_at hl 2 rfl) ?_
            refine z_if_eq (tgt := 149) F dX1_readTest_142 (by decide) zv_52 (fun c_71 => ?_) (fun c_71 => ?_)
            · have t_72 := tIz_0 q_55 (by omega)
              refine lv_iload F.1 F.2.1 dX1_readTest_149 (lv_at hl 0 rfl) ?_
              refine lv_iload F.1 F.2.1 dX1_readTest_151 (lv_at hl 0 rfl) ?_
              have hp0 := hp
              have hv0 := hv
              refine g_callv (g_runV (As := [.int (iI v_15), .int (iI v_31), .int (iI v_70), .int (iI v_70)]) (rest := []) (ci := 0) F hl.1 hH hS hz (c_X0_addTestf l g gh I_33 R J AI AJ AR ln v_15 v_31 v_70 v_70 zv_15 zv_31 zv_70 zv_70 hv hp.2.2.2.2.1 (by omega) (by omega) (by omega) (by omega)) (cwV 4 F.2.2.2.2.1 gX1_readTest_X0_addTest rfl rfl rfl hdX0_addTest ⟨Nat.le_of_ble_eq_true rfl, Nat.le_of_ble_eq_true rfl⟩) hp.2.2.2.2.1 (by decide) rfl rfl rfl (Nat.le_of_ble_eq_true rfl) dX1_readTest_153 ⟨Nat.zero_le _, Nat.zero_le _⟩) hS (fun I_73 R_74 J_75 AI_76 AJ_77 AR_78 H locs hp_79 hH hS => ?_)
              dsimp only at hp_79
              obtain ⟨rfl, rfl, rfl, rfl, hv, fI, fA, f0, f8, fk⟩ := hp_79
              have hp := pS_ln hv0 hp fI
              have pf := pF_t pf (pF_o fI f0)
              have u_80q : (I_73 q 1).toInt = (I_33 q 1).toInt := by rw [fI q (gO_ne hp.2.2.1 hp.2.2.2.2.1 (by decide))]
              have u_80_0 : (I_73 ln 0).toInt = (I_33 ln 0).toInt := by rw [f0]
              have hP := pH_ai hv hp.1 hp.2.2.2.2.1 (pH_ln hv0 hp0 hP fI) fA
              have u_81 : (I_73 ln 2).toInt = (I_33 ln 2).toInt := by rw [fk 2 (by decide)]
              have u_82 : (I_73 ln 5).toInt = (I_33 ln 5).toInt := by rw [fk 5 (by decide)]
              have u_83 : (I_73 ln 6).toInt = (I_33 ln 6).toInt := by rw [fk 6 (by decide)]
              have u_84 : (I_73 ln 9).toInt = (I_33 ln 9).toInt := by rw [fk 9 (by decide)]
              have u_85 : (I_73 ln 10).toInt = (I_33 ln 10).toInt := by rw [fk 10 (by decide)]
              have hP : pH gh AR I_73 J AI_76 AJ a q b n tl nr nt cl (h + 2) := hP
              refine lv_aload_n F.1 F.2.1 dX1_readTest_156 rfl (lv_at hl 5 rfl) ?_
              have hv0 := hv
              refine g_callv (g_runV (As := []) (rest := []) (ci := 1) F hl.1 hH hS hz (c_X1_stepf l g gh q b n tl nr nt cl (h + 2) I_73 R J AI_76 AJ AR a hv hp.1 (by first | exact hp.2.2.2.2.2.2.2 | exact hh | omega) hP (by first | exact hp.2.2.1 | exact hq) (by omega)) (cwV 0 F.2.2.2.2.1 gX1_readTest_X1_step rfl rfl rfl hdX1_step ⟨Nat.le_of_ble_eq_true rfl, Nat.le_of_ble_eq_true rfl⟩) hp.1 (by decide) rfl rfl rfl (Nat.le_of_ble_eq_true rfl) dX1_readTest_157 ⟨Nat.zero_le _, Nat.zero_le _⟩) hS (fun I_86 R_87 J_88 AI_89 AJ_90 AR_91 H locs hp_92 hH hS => ?_)
              dsimp only at hp_92
              obtain ⟨rfl, rfl, rfl, rfl, rfl, hv, fs, hs, hP⟩ := hp_92
              have hP : pH gh AR I_86 J AI_76 AJ a q b n tl nr nt cl (h + 3) := hP
              obtain ⟨hp, pfq, fls⟩ := pS_step hv0 hp fs hs
              have pf := pF_t pf pfq
              have u_93q : (I_86 q 1).toInt = (I_73 q 1).toInt := by rw [pF_q hp pfq]
              have u_93_0 : (I_86 ln 0).toInt = (I_73 ln 0).toInt := by rw [fls]
              have u_93_8 : (I_86 ln 8).toInt = (I_73 ln 8).toInt := by rw [fls]
              have u_94 : (I_86 ln 2).toInt = (I_73 ln 2).toInt := by rw [fls]
              have u_95 : (I_86 ln 5).toInt = (I_73 ln 5).toInt := by rw [fls]
              have u_96 : (I_86 ln 6).toInt = (I_73 ln 6).toInt := by rw [fls]
              have u_97 : (I_86 ln 9).toInt = (I_73 ln 9).toInt := by rw [fls]
              have u_98 : (I_86 ln 10).toInt = (I_73 ln 10).toInt := by rw [fls]
              refine z_iconst F dX1_readTest_160 ?_
              have hfin : sTest b n c5 k8 h = (0, h + 3, 0) := by
                unfold sTest
                repeat (first | with_reducible rfl | refine ite_y (by omega) ?_ | refine ite_n (by omega) ?_ | exact pr_e (by omega) (by omega) (by omega))
              exact g_iret F hr hlk hH hS hz ⟨by decide, by decide⟩ ⟨rfl, rfl, rfl, rfl, hv, hp, pf, by first | omega | rfl | (dsimp only; omega), by (try dsimp only); rw [hfin]; first | done | omega | rfl, by (try dsimp only); rw [hfin]; exact hP, by (try dsimp only); omega, by (try dsimp only); first | exact pIm_n (by omega) | (rw [hfin]; (try dsimp only); exact pIm_y (by first | omega | rfl)) | exact pIm_y (by omega)⟩ dX1_readTest_161
            · exact absurd trivial (by omega)
          · refine lv_iload_n F.1 F.2.1 dX1_readTest_118 rfl (lv_at hl 0 rfl) ?_
            have hfin : sTest b n c5 k8 h = (v_65, h + 2, 0) := by
              unfold sTest
              repeat (first | with_reducible rfl | refine ite_y (by omega) ?_ | refine ite_n (by omega) ?_ | exact pr_e (by omega) (by omega) (by omega))
            exact g_iret F hr hlk hH hS hz zv_65 ⟨rfl, rfl, rfl, rfl, hv, hp, pf, by first | omega | rfl | (dsimp only; omega), by (try dsimp only); rw [hfin]; first | done | omega | rfl, by (try dsimp only); rw [hfin]; exact hP, by (try dsimp only); omega, by (try dsimp only); first | exact pIm_n (by omega) | (rw [hfin]; (try dsimp only); exact pIm_y (by first | omega | rfl)) | exact pIm_y (by omega)⟩ dX1_readTest_119
        · have t_99 := tIz_1 q_55 (by omega)
          refine z_iconst F dX1_readTest_98 ?_
          refine z_goto (tgt := 113) F dX1_readTest_99 (by decide) ?_
          refine lv_istore_n (lv' := [(1, .int (iI 0)), (4, .int (iI v_52)), (3, .int (iI v_31)), (2, .int (iI v_15)), (0, .ref a)]) F.1 F.2.1 dX1_readTest_113 rfl hl (by decide) rfl (fun ls hl => ?_)
          refine lv_iload_n F.1 F.2.1 dX1_readTest_114 rfl (lv_at hl 0 rfl) ?_
          refine z_if_eq (tgt := 120) F dX1_readTest_115 (by decide) ⟨by decide, by decide⟩ (fun c_100 => ?_) (fun c_100 => ?_)
          · refine lv_aload_n F.1 F.2.1 dX1_readTest_120 rfl (lv_at hl 4 rfl) ?_
            refine g_getR (ci := 1) (k := 0) F hH rfl (by decide) iX1 hp.1 (by decide) rfl (b := gh 22 0) (gR_pr0 hv hp.1).1 k12 dX1_readTest_121 ?_
            refine g_getR (ci := 5) (k := 2) F hH rfl (by decide) iX5 (gR_pr0 hv hp.1).2 (by decide) rfl (b := gh 26 0) r_13a k71 dX1_readTest_124 ?_
            refine lv_aload_n F.1 F.2.1 dX1_readTest_127 rfl (lv_at hl 4 rfl) ?_
            refine g_getI (ci := 1) (k := 3) F hH rfl (by decide) iX1 hp.1 (by decide) rfl k44 dX1_readTest_128 ?_
            have b_101h := hp.2.2.2.2.2.2.2
            have b_101 := gI_pr hv hp.1
            have b_101t := gI_tk hv (gR_pr0 hv hp.1).2
            have hx131 : 0 ≤ ((I_33 a 3).toInt) ∧ ((I_33 a 3).toInt) < ((901 : Nat) : Int) ∧ ((I_33 a 3).toInt) ≤ 2147483647 := ⟨by omega, by omega, by omega⟩
            refine g_iald F hH r_13b hx131.1 hx131.2.1 hx131.2.2 dX1_readTest_131 ?_
            refine z_name (fun v_102 ev_102 => ?_)
            have zv_102 : zr v_102 := by rw [ev_102]; exact zr_t _
            have t131 : v_102 = pV b n (h + 2) := by rw [ev_102]; exact pH_V hP
            refine lv_istore (lv' := [(5, .int (iI v_102)), (1, .int (iI 0)), (4, .int (iI v_52)), (3, .int (iI v_31)), (2, .int (iI v_15)), (0, .ref a)]) F.1 F.2.1 dX1_readTest_132 hl (by decide) rfl (fun ls hl => ?_)
            refine lv_aload_n F.1 F.2.1 dX1_readTest_134 rfl (lv_at hl 5 rfl) ?_
            refine g_getR (ci := 1) (k := 2) F hH rfl (by decide) iX1 hp.1 (by decide) rfl (b := ln) hp.2.2.2.1 k29 dX1_readTest_135 ?_
            refine lv_iload_n F.1 F.2.1 dX1_readTest_138 rfl (lv_at hl 4 rfl) ?_
            refine lv_iload_n F.1 F.2.1 dX1_readTest_139 rfl (lv_at hl 3 rfl) ?_
            refine lv_iload F.1 F.2.1 dX1_readTest_140 (lv_at hl 2 rfl) ?_
            refine z_if_eq (tgt := 149) F dX1_readTest_142 (by decide) zv_52 (fun c_103 => ?_) (fun c_103 => ?_)
            · exact absurd trivial (by omega)
            · have t_104 := tIz_1 q_55 (by omega)
              refine z_iconst F dX1_readTest_145 ?_
              refine z_goto (tgt := 151) F dX1_readTest_146 (by decide) ?_
              refine lv_iload F.1 F.2.1 dX1_readTest_151 (lv_at hl 0 rfl) ?_
              have hp0 := hp
              have hv0 := hv
              have b_105 := gI_line hv hp.2.2.2.2.1
              unfold vLineI at b_105
              refine g_callv (g_runV (As := [.int (iI v_15), .int (iI v_31), .int (iI ((-1))), .int (iI v_102)]) (rest := []) (ci := 0) F hl.1 hH hS hz (c_X0_addTestf l g gh I_33 R J AI AJ AR ln v_15 v_31 (-1) v_102 zv_15 zv_31 ⟨by decide, by decide⟩ zv_102 hv hp.2.2.2.2.1 (by omega) (by omega) (by omega) (by omega)) (cwV 4 F.2.2.2.2.1 gX1_readTest_X0_addTest rfl rfl rfl hdX0_addTest ⟨Nat.le_of_ble_eq_true rfl, Nat.le_of_ble_eq_true rfl⟩) hp.2.2.2.2.1 (by decide) rfl rfl rfl (Nat.le_of_ble_eq_true rfl) dX1_readTest_153 ⟨Nat.zero_le _, Nat.zero_le _⟩) hS (fun I_106 R_107 J_108 AI_109 AJ_110 AR_111 H locs hp_112 hH hS => ?_)
              dsimp only at hp_112
              obtain ⟨rfl, rfl, rfl, rfl, hv, fI, fA, f0, f8, fk⟩ := hp_112
              have hp := pS_ln hv0 hp fI
              have pf := pF_t pf (pF_o fI f0)
              have u_113q : (I_106 q 1).toInt = (I_33 q 1).toInt := by rw [fI q (gO_ne hp.2.2.1 hp.2.2.2.2.1 (by decide))]
              have u_113_0 : (I_106 ln 0).toInt = (I_33 ln 0).toInt := by rw [f0]
              have hP := pH_ai hv hp.1 hp.2.2.2.2.1 (pH_ln hv0 hp0 hP fI) fA
              have u_114 : (I_106 ln 2).toInt = (I_33 ln 2).toInt := by rw [fk 2 (by decide)]
              have u_115 : (I_106 ln 5).toInt = (I_33 ln 5).toInt := by rw [fk 5 (by decide)]
              have u_116 : (I_106 ln 6).toInt = (I_33 ln 6).toInt := by rw [fk 6 (by decide)]
              have u_117 : (I_106 ln 9).toInt = (I_33 ln 9).toInt := by rw [fk 9 (by decide)]
              have u_118 : (I_106 ln 10).toInt = (I_33 ln 10).toInt := by rw [fk 10 (by decide)]
              have hP : pH gh AR I_106 J AI_109 AJ a q b n tl nr nt cl (h + 2) := hP
              refine lv_aload_n F.1 F.2.1 dX1_readTest_156 rfl (lv_at hl 5 rfl) ?_
              have hv0 := hv
              refine g_callv (g_runV (As := []) (rest := []) (ci := 1) F hl.1 hH hS hz (c_X1_stepf l g gh q b n tl nr nt cl (h + 2) I_106 R J AI_109 AJ AR a hv hp.1 (by first | exact hp.2.2.2.2.2.2.2 | exact hh | omega) hP (by first | exact hp.2.2.1 | exact hq) (by omega)) (cwV 0 F.2.2.2.2.1 gX1_readTest_X1_step rfl rfl rfl hdX1_step ⟨Nat.le_of_ble_eq_true rfl, Nat.le_of_ble_eq_true rfl⟩) hp.1 (by decide) rfl rfl rfl (Nat.le_of_ble_eq_true rfl) dX1_readTest_157 ⟨Nat.zero_le _, Nat.zero_le _⟩) hS (fun I_119 R_120 J_121 AI_122 AJ_123 AR_124 H locs hp_125 hH hS => ?_)
              dsimp only at hp_125
              obtain ⟨rfl, rfl, rfl, rfl, rfl, hv, fs, hs, hP⟩ := hp_125
              have hP : pH gh AR I_119 J AI_109 AJ a q b n tl nr nt cl (h + 3) := hP
              obtain ⟨hp, pfq, fls⟩ := pS_step hv0 hp fs hs
              have pf := pF_t pf pfq
              have u_126q : (I_119 q 1).toInt = (I_106 q 1).toInt := by rw [pF_q hp pfq]
              have u_126_0 : (I_119 ln 0).toInt = (I_106 ln 0).toInt := by rw [fls]
              have u_126_8 : (I_119 ln 8).toInt = (I_106 ln 8).toInt := by rw [fls]
              have u_127 : (I_119 ln 2).toInt = (I_106 ln 2).toInt := by rw [fls]
              have u_128 : (I_119 ln 5).toInt = (I_106 ln 5).toInt := by rw [fls]
              have u_129 : (I_119 ln 6).toInt = (I_106 ln 6).toInt := by rw [fls]
              have u_130 : (I_119 ln 9).toInt = (I_106 ln 9).toInt := by rw [fls]
              have u_131 : (I_119 ln 10).toInt = (I_106 ln 10).toInt := by rw [fls]
              refine z_iconst F dX1_readTest_160 ?_
              have hfin : sTest b n c5 k8 h = (0, h + 3, 0) := by
                unfold sTest
                repeat (first | with_reducible rfl | refine ite_y (by omega) ?_ | refine ite_n (by omega) ?_ | exact pr_e (by omega) (by omega) (by omega))
              exact g_iret F hr hlk hH hS hz ⟨by decide, by decide⟩ ⟨rfl, rfl, rfl, rfl, hv, hp, pf, by first | omega | rfl | (dsimp only; omega), by (try dsimp only); rw [hfin]; first | done | omega | rfl, by (try dsimp only); rw [hfin]; exact hP, by (try dsimp only); omega, by (try dsimp only); first | exact pIm_n (by omega) | (rw [hfin]; (try dsimp only); exact pIm_y (by first | omega | rfl)) | exact pIm_y (by omega)⟩ dX1_readTest_161
          · exact absurd trivial (by omega)
      · refine lv_iload_n F.1 F.2.1 dX1_readTest_68 rfl (lv_at hl 0 rfl) ?_
        refine z_bipush F dX1_readTest_69 (by decide) ?_
        refine z_icmp_eq (tgt := 82) F dX1_readTest_71 (by decide) zv_31 ⟨by decide, by decide⟩ (fun c_132 => ?_) (fun c_132 => ?_)
        · refine lv_aload_n F.1 F.2.1 dX1_readTest_82 rfl (lv_at hl 3 rfl) ?_
          have hv0 := hv
          refine g_callv (g_runV (As := []) (rest := []) (ci := 1) F hl.1 hH hS hz (c_X1_stepf l g gh q b n tl nr nt cl (h + 1) I_16 R J AI AJ AR a hv hp.1 (by first | exact hp.2.2.2.2.2.2.2 | exact hh | omega) hP (by first | exact hp.2.2.1 | exact hq) (by omega)) (cwV 0 F.2.2.2.2.1 gX1_readTest_X1_step rfl rfl rfl hdX1_step ⟨Nat.le_of_ble_eq_true rfl, Nat.le_of_ble_eq_true rfl⟩) hp.1 (by decide) rfl rfl rfl (Nat.le_of_ble_eq_true rfl) dX1_readTest_83 ⟨Nat.zero_le _, Nat.zero_le _⟩) hS (fun I_133 R_134 J_135 AI_136 AJ_137 AR_138 H locs hp_139 hH hS => ?_)
          dsimp only at hp_139
          obtain ⟨rfl, rfl, rfl, rfl, rfl, hv, fs, hs, hP⟩ := hp_139
          have hP : pH gh AR I_133 J AI AJ a q b n tl nr nt cl (h + 2) := hP
          obtain ⟨hp, pfq, fls⟩ := pS_step hv0 hp fs hs
          have pf := pF_t pf pfq
          have u_140q : (I_133 q 1).toInt = (I_16 q 1).toInt := by rw [pF_q hp pfq]
          have u_140_0 : (I_133 ln 0).toInt = (I_16 ln 0).toInt := by rw [fls]
          have u_140_8 : (I_133 ln 8).toInt = (I_16 ln 8).toInt := by rw [fls]
          have u_141 : (I_133 ln 2).toInt = (I_16 ln 2).toInt := by rw [fls]
          have u_142 : (I_133 ln 5).toInt = (I_16 ln 5).toInt := by rw [fls]
          have u_143 : (I_133 ln 6).toInt = (I_16 ln 6).toInt := by rw [fls]
          have u_144 : (I_133 ln 9).toInt = (I_16 ln 9).toInt := by rw [fls]
          have u_145 : (I_133 ln 10).toInt = (I_16 ln 10).toInt := by rw [fls]
          refine lv_aload_n F.1 F.2.1 dX1_readTest_86 rfl (lv_at hl 3 rfl) ?_
          refine z_iconst F dX1_readTest_87 ?_
          refine g_calli (g_runV (As := [.int (iI 4)]) (rest := []) (ci := 1) F hl.1 hH hS hz (c_X1_isKindf l g gh q b n tl nr nt cl (h + 2) I_133 R J AI AJ AR a 4 ⟨by decide, by decide⟩ hv hp.1 (by first | exact hp.2.2.2.2.2.2.2 | exact hh | omega) hP) (cwV 1 F.2.2.2.2.1 gX1_readTest_X1_isKind rfl rfl rfl hdX1_isKind ⟨Nat.le_of_ble_eq_true rfl, Nat.le_of_ble_eq_true rfl⟩) hp.1 (by decide) rfl rfl rfl (Nat.le_of_ble_eq_true rfl) dX1_readTest_88 ⟨Nat.zero_le _, Nat.zero_le _⟩) hS (fun v_152 I_146 R_147 J_148 AI_149 AJ_150 AR_151 H locs zv_152 hp_153 hH hS => ?_)
          dsimp only at hp_153
          obtain ⟨rfl, rfl, rfl, rfl, rfl, rfl, q_154, q_155⟩ := hp_153
          refine lv_istore (lv' := [(4, .int (iI v_152)), (3, .int (iI v_31)), (2, .int (iI v_15)), (1, .int (iI v_8)), (0, .ref a)]) F.1 F.2.1 dX1_readTest_91 hl (by decide) rfl (fun ls hl => ?_)
          refine lv_iload F.1 F.2.1 dX1_readTest_93 (lv_at hl 0 rfl) ?_
          refine z_if_eq (tgt := 102) F dX1_readTest_95 (by decide) zv_152 (fun c_156 => ?_) (fun c_156 => ?_)
          · have t_157 := tIz_0 q_155 (by omega)
            refine lv_aload_n F.1 F.2.1 dX1_readTest_102 rfl (lv_at hl 4 rfl) ?_
            refine lv_aload_n F.1 F.2.1 dX1_readTest_103 rfl (lv_at hl 4 rfl) ?_
            refine g_getR (ci := 1) (k := 2) F hH rfl (by decide) iX1 hp.1 (by decide) rfl (b := ln) hp.2.2.2.1 k29 dX1_readTest_104 ?_
            refine g_getI (ci := 0) (k := 5) F hH rfl (by decide) iX0 hp.2.2.2.2.1 (by decide) rfl k143 dX1_readTest_107 ?_
            have b_158 := gI_line hv hp.2.2.2.2.1
            unfold vLineI at b_158
            refine g_calli (g_runV (As := [.int (iI ((I_133 ln 5).toInt))]) (rest := []) (ci := 1) F hl.1 hH hS hz (c_X1_seeColumnf l g gh q b n tl nr nt cl (h + 2) I_133 R J AI AJ AR a ((I_133 ln 5).toInt) (zr_t _) hv hp.1 (by first | exact hp.2.2.2.2.2.2.2 | exact hh | omega) hP) (cwV 1 F.2.2.2.2.1 gX1_readTest_X1_seeColumn rfl rfl rfl hdX1_seeColumn ⟨Nat.le_of_ble_eq_true rfl, Nat.le_of_ble_eq_true rfl⟩) hp.1 (by decide) rfl rfl rfl (Nat.le_of_ble_eq_true rfl) dX1_readTest_110 ⟨Nat.zero_le _, Nat.zero_le _⟩) hS (fun v_165 I_159 R_160 J_161 AI_162 AJ_163 AR_164 H locs zv_165 hp_166 hH hS => ?_)
            dsimp only at hp_166
            rw [show (I_133 ln 5).toInt = c5 by omega] at hp_166
            obtain ⟨rfl, rfl, rfl, rfl, rfl, rfl, t1, t2, t3⟩ := hp_166
            refine lv_istore_n (lv' := [(1, .int (iI v_165)), (4, .int (iI v_152)), (3, .int (iI v_31)), (2, .int (iI v_15)), (0, .ref a)]) F.1 F.2.1 dX1_readTest_113 rfl hl (by decide) rfl (fun ls hl => ?_)
            refine lv_iload_n F.1 F.2.1 dX1_readTest_114 rfl (lv_at hl 0 rfl) ?_
            refine z_if_eq (tgt := 120) F dX1_readTest_115 (by decide) zv_165 (fun c_167 => ?_) (fun c_167 => ?_)
            · have t_168 := pCf_0 (b := b) (n := n) (c := c5) (h := h + 2) (by omega)
              refine lv_aload_n F.1 F.2.1 dX1_readTest_120 rfl (lv_at hl 4 rfl) ?_
              refine g_getR (ci := 1) (k := 0) F hH rfl (by decide) iX1 hp.1 (by decide) rfl (b := gh 22 0) (gR_pr0 hv hp.1).1 k12 dX1_readTest_121 ?_
              refine g_getR (ci := 5) (k := 2) F hH rfl (by decide) iX5 (gR_pr0 hv hp.1).2 (by decide) rfl (b := gh 26 0) r_13a k71 dX1_readTest_124 ?_
              refine lv_aload_n F.1 F.2.1 dX1_readTest_127 rfl (lv_at hl 4 rfl) ?_
              refine g_getI (ci := 1) (k := 3) F hH rfl (by decide) iX1 hp.1 (by decide) rfl k44 dX1_readTest_128 ?_
              have b_169h := hp.2.2.2.2.2.2.2
              have b_169 := gI_pr hv hp.1
              have b_169t := gI_tk hv (gR_pr0 hv hp.1).2
              have hx131 : 0 ≤ ((I_133 a 3).toInt) ∧ ((I_133 a 3).toInt) < ((901 : Nat) : Int) ∧ ((I_133 a 3).toInt) ≤ 2147483647 := ⟨by omega, by omega, by omega⟩
              refine g_iald F hH r_13b hx131.1 hx131.2.1 hx131.2.2 dX1_readTest_131 ?_
              refine z_name (fun v_170 ev_170 => ?_)
              have zv_170 : zr v_170 := by rw [ev_170]; exact zr_t _
              have t131 : v_170 = pV b n (h + 2) := by rw [ev_170]; exact pH_V hP
              refine lv_istore (lv' := [(5, .int (iI v_170)), (1, .int (iI v_165)), (4, .int (iI v_152)), (3, .int (iI v_31)), (2, .int (iI v_15)), (0, .ref a)]) F.1 F.2.1 dX1_readTest_132 hl (by decide) rfl (fun ls hl => ?_)
              refine lv_aload_n F.1 F.2.1 dX1_readTest_134 rfl (lv_at hl 5 rfl) ?_
              refine g_getR (ci := 1) (k := 2) F hH rfl (by decide) iX1 hp.1 (by decide) rfl (b := ln) hp.2.2.2.1 k29 dX1_readTest_135 ?_
              refine lv_iload_n F.1 F.2.1 dX1_readTest_138 rfl (lv_at hl 4 rfl) ?_
              refine lv_iload_n F.1 F.2.1 dX1_readTest_139 rfl (lv_at hl 3 rfl) ?_
              refine lv_iload F.1 F.2.1 dX1_readTest_140 (lv_at hl 2 rfl) ?_
              refine z_if_eq (tgt := 149) F dX1_readTest_142 (by decide) zv_152 (fun c_171 => ?_) (fun c_171 => ?_)
              · have t_172 := tIz_0 q_155 (by omega)
                refine lv_iload F.1 F.2.1 dX1_readTest_149 (lv_at hl 0 rfl) ?_
                refine lv_iload F.1 F.2.1 dX1_readTest_151 (lv_at hl 0 rfl) ?_
                have hp0 := hp
                have hv0 := hv
                refine g_callv (g_runV (As := [.int (iI v_15), .int (iI v_31), .int (iI v_170), .int (iI v_170)]) (rest := []) (ci := 0) F hl.1 hH hS hz (c_X0_addTestf l g gh I_133 R J AI AJ AR ln v_15 v_31 v_170 v_170 zv_15 zv_31 zv_170 zv_170 hv hp.2.2.2.2.1 (by omega) (by omega) (by omega) (by omega)) (cwV 4 F.2.2.2.2.1 gX1_readTest_X0_addTest rfl rfl rfl hdX0_addTest ⟨Nat.le_of_ble_eq_true rfl, Nat.le_of_ble_eq_true rfl⟩) hp.2.2.2.2.1 (by decide) rfl rfl rfl (Nat.le_of_ble_eq_true rfl) dX1_readTest_153 ⟨Nat.zero_le _, Nat.zero_le _⟩) hS (fun I_173 R_174 J_175 AI_176 AJ_177 AR_178 H locs hp_179 hH hS => ?_)
                dsimp only at hp_179
                obtain ⟨rfl, rfl, rfl, rfl, hv, fI, fA, f0, f8, fk⟩ := hp_179
                have hp := pS_ln hv0 hp fI
                have pf := pF_t pf (pF_o fI f0)
                have u_180q : (I_173 q 1).toInt = (I_133 q 1).toInt := by rw [fI q (gO_ne hp.2.2.1 hp.2.2.2.2.1 (by decide))]
                have u_180_0 : (I_173 ln 0).toInt = (I_133 ln 0).toInt := by rw [f0]
                have hP := pH_ai hv hp.1 hp.2.2.2.2.1 (pH_ln hv0 hp0 hP fI) fA
                have u_181 : (I_173 ln 2).toInt = (I_133 ln 2).toInt := by rw [fk 2 (by decide)]
                have u_182 : (I_173 ln 5).toInt = (I_133 ln 5).toInt := by rw [fk 5 (by decide)]
                have u_183 : (I_173 ln 6).toInt = (I_133 ln 6).toInt := by rw [fk 6 (by decide)]
                have u_184 : (I_173 ln 9).toInt = (I_133 ln 9).toInt := by rw [fk 9 (by decide)]
                have u_185 : (I_173 ln 10).toInt = (I_133 ln 10).toInt := by rw [fk 10 (by decide)]
                have hP : pH gh AR I_173 J AI_176 AJ a q b n tl nr nt cl (h + 2) := hP
                refine lv_aload_n F.1 F.2.1 dX1_readTest_156 rfl (lv_at hl 5 rfl) ?_
                have hv0 := hv
                refine g_callv (g_runV (As := []) (rest := []) (ci := 1) F hl.1 hH hS hz (c_X1_stepf l g gh q b n tl nr nt cl (h + 2) I_173 R J AI_176 AJ AR a hv hp.1 (by first | exact hp.2.2.2.2.2.2.2 | exact hh | omega) hP (by first | exact hp.2.2.1 | exact hq) (by omega)) (cwV 0 F.2.2.2.2.1 gX1_readTest_X1_step rfl rfl rfl hdX1_step ⟨Nat.le_of_ble_eq_true rfl, Nat.le_of_ble_eq_true rfl⟩) hp.1 (by decide) rfl rfl rfl (Nat.le_of_ble_eq_true rfl) dX1_readTest_157 ⟨Nat.zero_le _, Nat.zero_le _⟩) hS (fun I_186 R_187 J_188 AI_189 AJ_190 AR_191 H locs hp_192 hH hS => ?_)
                dsimp only at hp_192
                obtain ⟨rfl, rfl, rfl, rfl, rfl, hv, fs, hs, hP⟩ := hp_192
                have hP : pH gh AR I_186 J AI_176 AJ a q b n tl nr nt cl (h + 3) := hP
                obtain ⟨hp, pfq, fls⟩ := pS_step hv0 hp fs hs
                have pf := pF_t pf pfq
                have u_193q : (I_186 q 1).toInt = (I_173 q 1).toInt := by rw [pF_q hp pfq]
                have u_193_0 : (I_186 ln 0).toInt = (I_173 ln 0).toInt := by rw [fls]
                have u_193_8 : (I_186 ln 8).toInt = (I_173 ln 8).toInt := by rw [fls]
                have u_194 : (I_186 ln 2).toInt = (I_173 ln 2).toInt := by rw [fls]
                have u_195 : (I_186 ln 5).toInt = (I_173 ln 5).toInt := by rw [fls]
                have u_196 : (I_186 ln 6).toInt = (I_173 ln 6).toInt := by rw [fls]
                have u_197 : (I_186 ln 9).toInt = (I_173 ln 9).toInt := by rw [fls]
                have u_198 : (I_186 ln 10).toInt = (I_173 ln 10).toInt := by rw [fls]
                refine z_iconst F dX1_readTest_160 ?_
                have hfin : sTest b n c5 k8 h = (0, h + 3, 0) := by
                  unfold sTest
                  repeat (first | with_reducible rfl | refine ite_y (by omega) ?_ | refine ite_n (by omega) ?_ | exact pr_e (by omega) (by omega) (by omega))
                exact g_iret F hr hlk hH hS hz ⟨by decide, by decide⟩ ⟨rfl, rfl, rfl, rfl, hv, hp, pf, by first | omega | rfl | (dsimp only; omega), by (try dsimp only); rw [hfin]; first | done | omega | rfl, by (try dsimp only); rw [hfin]; exact hP, by (try dsimp only); omega, by (try dsimp only); first | exact pIm_n (by omega) | (rw [hfin]; (try dsimp only); exact pIm_y (by first | omega | rfl)) | exact pIm_y (by omega)⟩ dX1_readTest_161
              · exact absurd trivial (by omega)
            · refine lv_iload_n F.1 F.2.1 dX1_readTest_118 rfl (lv_at hl 0 rfl) ?_
              have hfin : sTest b n c5 k8 h = (v_165, h + 2, 0) := by
                unfold sTest
                repeat (first | with_reducible rfl | refine ite_y (by omega) ?_ | refine ite_n (by omega) ?_ | exact pr_e (by omega) (by omega) (by omega))
              exact g_iret F hr hlk hH hS hz zv_165 ⟨rfl, rfl, rfl, rfl, hv, hp, pf, by first | omega | rfl | (dsimp only; omega), by (try dsimp only); rw [hfin]; first | done | omega | rfl, by (try dsimp only); rw [hfin]; exact hP, by (try dsimp only); omega, by (try dsimp only); first | exact pIm_n (by omega) | (rw [hfin]; (try dsimp only); exact pIm_y (by first | omega | rfl)) | exact pIm_y (by omega)⟩ dX1_readTest_119
          · have t_199 := tIz_1 q_155 (by omega)
            refine z_iconst F dX1_readTest_98 ?_
            refine z_goto (tgt := 113) F dX1_readTest_99 (by decide) ?_
            refine lv_istore_n (lv' := [(1, .int (iI 0)), (4, .int (iI v_152)), (3, .int (iI v_31)), (2, .int (iI v_15)), (0, .ref a)]) F.1 F.2.1 dX1_readTest_113 rfl hl (by decide) rfl (fun ls hl => ?_)
            refine lv_iload_n F.1 F.2.1 dX1_readTest_114 rfl (lv_at hl 0 rfl) ?_
            refine z_if_eq (tgt := 120) F dX1_readTest_115 (by decide) ⟨by decide, by decide⟩ (fun c_200 => ?_) (fun c_200 => ?_)
            · refine lv_aload_n F.1 F.2.1 dX1_readTest_120 rfl (lv_at hl 4 rfl) ?_
              refine g_getR (ci := 1) (k := 0) F hH rfl (by decide) iX1 hp.1 (by decide) rfl (b := gh 22 0) (gR_pr0 hv hp.1).1 k12 dX1_readTest_121 ?_
              refine g_getR (ci := 5) (k := 2) F hH rfl (by decide) iX5 (gR_pr0 hv hp.1).2 (by decide) rfl (b := gh 26 0) r_13a k71 dX1_readTest_124 ?_
              refine lv_aload_n F.1 F.2.1 dX1_readTest_127 rfl (lv_at hl 4 rfl) ?_
              refine g_getI (ci := 1) (k := 3) F hH rfl (by decide) iX1 hp.1 (by decide) rfl k44 dX1_readTest_128 ?_
              have b_201h := hp.2.2.2.2.2.2.2
              have b_201 := gI_pr hv hp.1
              have b_201t := gI_tk hv (gR_pr0 hv hp.1).2
              have hx131 : 0 ≤ ((I_133 a 3).toInt) ∧ ((I_133 a 3).toInt) < ((901 : Nat) : Int) ∧ ((I_133 a 3).toInt) ≤ 2147483647 := ⟨by omega, by omega, by omega⟩
              refine g_iald F hH r_13b hx131.1 hx131.2.1 hx131.2.2 dX1_readTest_131 ?_
              refine z_name (fun v_202 ev_202 => ?_)
              have zv_202 : zr v_202 := by rw [ev_202]; exact zr_t _
              have t131 : v_202 = pV b n (h + 2) := by rw [ev_202]; exact pH_V hP
              refine lv_istore (lv' := [(5, .int (iI v_202)), (1, .int (iI 0)), (4, .int (iI v_152)), (3, .int (iI v_31)), (2, .int (iI v_15)), (0, .ref a)]) F.1 F.2.1 dX1_readTest_132 hl (by decide) rfl (fun ls hl => ?_)
              refine lv_aload_n F.1 F.2.1 dX1_readTest_134 rfl (lv_at hl 5 rfl) ?_
              refine g_getR (ci := 1) (k := 2) F hH rfl (by decide) iX1 hp.1 (by decide) rfl (b := ln) hp.2.2.2.1 k29 dX1_readTest_135 ?_
              refine lv_iload_n F.1 F.2.1 dX1_readTest_138 rfl (lv_at hl 4 rfl) ?_
              refine lv_iload_n F.1 F.2.1 dX1_readTest_139 rfl (lv_at hl 3 rfl) ?_
              refine lv_iload F.1 F.2.1 dX1_readTest_140 (lv_at hl 2 rfl) ?_
              refine z_if_eq (tgt := 149) F dX1_readTest_142 (by decide) zv_152 (fun c_203 => ?_) (fun c_203 => ?_)
              · exact absurd trivial (by omega)
              · have t_204 := tIz_1 q_155 (by omega)
                refine z_iconst F dX1_readTest_145 ?_
                refine z_goto (tgt := 151) F dX1_readTest_146 (by decide) ?_
                refine lv_iload F.1 F.2.1 dX1_readTest_151 (lv_at hl 0 rfl) ?_
                have hp0 := hp
                have hv0 := hv
                have b_205 := gI_line hv hp.2.2.2.2.1
                unfold vLineI at b_205
                refine g_callv (g_runV (As := [.int (iI v_15), .int (iI v_31), .int (iI ((-1))), .int (iI v_202)]) (rest := []) (ci := 0) F hl.1 hH hS hz (c_X0_addTestf l g gh I_133 R J AI AJ AR ln v_15 v_31 (-1) v_202 zv_15 zv_31 ⟨by decide, by decide⟩ zv_202 hv hp.2.2.2.2.1 (by omega) (by omega) (by omega) (by omega)) (cwV 4 F.2.2.2.2.1 gX1_readTest_X0_addTest rfl rfl rfl hdX0_addTest ⟨Nat.le_of_ble_eq_true rfl, Nat.le_of_ble_eq_true rfl⟩) hp.2.2.2.2.1 (by decide) rfl rfl rfl (Nat.le_of_ble_eq_true rfl) dX1_readTest_153 ⟨Nat.zero_le _, Nat.zero_le _⟩) hS (fun I_206 R_207 J_208 AI_209 AJ_210 AR_211 H locs hp_212 hH hS => ?_)
                dsimp only at hp_212
                obtain ⟨rfl, rfl, rfl, rfl, hv, fI, fA, f0, f8, fk⟩ := hp_212
                have hp := pS_ln hv0 hp fI
                have pf := pF_t pf (pF_o fI f0)
                have u_213q : (I_206 q 1).toInt = (I_133 q 1).toInt := by rw [fI q (gO_ne hp.2.2.1 hp.2.2.2.2.1 (by decide))]
                have u_213_0 : (I_206 ln 0).toInt = (I_133 ln 0).toInt := by rw [f0]
                have hP := pH_ai hv hp.1 hp.2.2.2.2.1 (pH_ln hv0 hp0 hP fI) fA
                have u_214 : (I_206 ln 2).toInt = (I_133 ln 2).toInt := by rw [fk 2 (by decide)]
                have u_215 : (I_206 ln 5).toInt = (I_133 ln 5).toInt := by rw [fk 5 (by decide)]
                have u_216 : (I_206 ln 6).toInt = (I_133 ln 6).toInt := by rw [fk 6 (by decide)]
                have u_217 : (I_206 ln 9).toInt = (I_133 ln 9).toInt := by rw [fk 9 (by decide)]
                have u_218 : (I_206 ln 10).toInt = (I_133 ln 10).toInt := by rw [fk 10 (by decide)]
                have hP : pH gh AR I_206 J AI_209 AJ a q b n tl nr nt cl (h + 2) := hP
                refine lv_aload_n F.1 F.2.1 dX1_readTest_156 rfl (lv_at hl 5 rfl) ?_
                have hv0 := hv
                refine g_callv (g_runV (As := []) (rest := []) (ci := 1) F hl.1 hH hS hz (c_X1_stepf l g gh q b n tl nr nt cl (h + 2) I_206 R J AI_209 AJ AR a hv hp.1 (by first | exact hp.2.2.2.2.2.2.2 | exact hh | omega) hP (by first | exact hp.2.2.1 | exact hq) (by omega)) (cwV 0 F.2.2.2.2.1 gX1_readTest_X1_step rfl rfl rfl hdX1_step ⟨Nat.le_of_ble_eq_true rfl, Nat.le_of_ble_eq_true rfl⟩) hp.1 (by decide) rfl rfl rfl (Nat.le_of_ble_eq_true rfl) dX1_readTest_157 ⟨Nat.zero_le _, Nat.zero_le _⟩) hS (fun I_219 R_220 J_221 AI_222 AJ_223 AR_224 H locs hp_225 hH hS => ?_)
                dsimp only at hp_225
                obtain ⟨rfl, rfl, rfl, rfl, rfl, hv, fs, hs, hP⟩ := hp_225
                have hP : pH gh AR I_219 J AI_209 AJ a q b n tl nr nt cl (h + 3) := hP
                obtain ⟨hp, pfq, fls⟩ := pS_step hv0 hp fs hs
                have pf := pF_t pf pfq
                have u_226q : (I_219 q 1).toInt = (I_206 q 1).toInt := by rw [pF_q hp pfq]
                have u_226_0 : (I_219 ln 0).toInt = (I_206 ln 0).toInt := by rw [fls]
                have u_226_8 : (I_219 ln 8).toInt = (I_206 ln 8).toInt := by rw [fls]
                have u_227 : (I_219 ln 2).toInt = (I_206 ln 2).toInt := by rw [fls]
                have u_228 : (I_219 ln 5).toInt = (I_206 ln 5).toInt := by rw [fls]
                have u_229 : (I_219 ln 6).toInt = (I_206 ln 6).toInt := by rw [fls]
                have u_230 : (I_219 ln 9).toInt = (I_206 ln 9).toInt := by rw [fls]
                have u_231 : (I_219 ln 10).toInt = (I_206 ln 10).toInt := by rw [fls]
                refine z_iconst F dX1_readTest_160 ?_
                have hfin : sTest b n c5 k8 h = (0, h + 3, 0) := by
                  unfold sTest
                  repeat (first | with_reducible rfl | refine ite_y (by omega) ?_ | refine ite_n (by omega) ?_ | exact pr_e (by omega) (by omega) (by omega))
                exact g_iret F hr hlk hH hS hz ⟨by decide, by decide⟩ ⟨rfl, rfl, rfl, rfl, hv, hp, pf, by first | omega | rfl | (dsimp only; omega), by (try dsimp only); rw [hfin]; first | done | omega | rfl, by (try dsimp only); rw [hfin]; exact hP, by (try dsimp only); omega, by (try dsimp only); first | exact pIm_n (by omega) | (rw [hfin]; (try dsimp only); exact pIm_y (by first | omega | rfl)) | exact pIm_y (by omega)⟩ dX1_readTest_161
            · exact absurd trivial (by omega)
        · refine lv_iload_n F.1 F.2.1 dX1_readTest_74 rfl (lv_at hl 0 rfl) ?_
          refine z_bipush F dX1_readTest_75 (by decide) ?_
          refine z_icmp_eq (tgt := 82) F dX1_readTest_77 (by decide) zv_31 ⟨by decide, by decide⟩ (fun c_232 => ?_) (fun c_232 => ?_)
          · refine lv_aload_n F.1 F.2.1 dX1_readTest_82 rfl (lv_at hl 3 rfl) ?_
            have hv0 := hv
            refine g_callv (g_runV (As := []) (rest := []) (ci := 1) F hl.1 hH hS hz (c_X1_stepf l g gh q b n tl nr nt cl (h + 1) I_16 R J AI AJ AR a hv hp.1 (by first | exact hp.2.2.2.2.2.2.2 | exact hh | omega) hP (by first | exact hp.2.2.1 | exact hq) (by omega)) (cwV 0 F.2.2.2.2.1 gX1_readTest_X1_step rfl rfl rfl hdX1_step ⟨Nat.le_of_ble_eq_true rfl, Nat.le_of_ble_eq_true rfl⟩) hp.1 (by decide) rfl rfl rfl (Nat.le_of_ble_eq_true rfl) dX1_readTest_83 ⟨Nat.zero_le _, Nat.zero_le _⟩) hS (fun I_233 R_234 J_235 AI_236 AJ_237 AR_238 H locs hp_239 hH hS => ?_)
            dsimp only at hp_239
            obtain ⟨rfl, rfl, rfl, rfl, rfl, hv, fs, hs, hP⟩ := hp_239
            have hP : pH gh AR I_233 J AI AJ a q b n tl nr nt cl (h + 2) := hP
            obtain ⟨hp, pfq, fls⟩ := pS_step hv0 hp fs hs
            have pf := pF_t pf pfq
            have u_240q : (I_233 q 1).toInt = (I_16 q 1).toInt := by rw [pF_q hp pfq]
            have u_240_0 : (I_233 ln 0).toInt = (I_16 ln 0).toInt := by rw [fls]
            have u_240_8 : (I_233 ln 8).toInt = (I_16 ln 8).toInt := by rw [fls]
            have u_241 : (I_233 ln 2).toInt = (I_16 ln 2).toInt := by rw [fls]
            have u_242 : (I_233 ln 5).toInt = (I_16 ln 5).toInt := by rw [fls]
            have u_243 : (I_233 ln 6).toInt = (I_16 ln 6).toInt := by rw [fls]
            have u_244 : (I_233 ln 9).toInt = (I_16 ln 9).toInt := by rw [fls]
            have u_245 : (I_233 ln 10).toInt = (I_16 ln 10).toInt := by rw [fls]
            refine lv_aload_n F.1 F.2.1 dX1_readTest_86 rfl (lv_at hl 3 rfl) ?_
            refine z_iconst F dX1_readTest_87 ?_
            refine g_calli (g_runV (As := [.int (iI 4)]) (rest := []) (ci := 1) F hl.1 hH hS hz (c_X1_isKindf l g gh q b n tl nr nt cl (h + 2) I_233 R J AI AJ AR a 4 ⟨by decide, by decide⟩ hv hp.1 (by first | exact hp.2.2.2.2.2.2.2 | exact hh | omega) hP) (cwV 1 F.2.2.2.2.1 gX1_readTest_X1_isKind rfl rfl rfl hdX1_isKind ⟨Nat.le_of_ble_eq_true rfl, Nat.le_of_ble_eq_true rfl⟩) hp.1 (by decide) rfl rfl rfl (Nat.le_of_ble_eq_true rfl) dX1_readTest_88 ⟨Nat.zero_le _, Nat.zero_le _⟩) hS (fun v_252 I_246 R_247 J_248 AI_249 AJ_250 AR_251 H locs zv_252 hp_253 hH hS => ?_)
            dsimp only at hp_253
            obtain ⟨rfl, rfl, rfl, rfl, rfl, rfl, q_254, q_255⟩ := hp_253
            refine lv_istore (lv' := [(4, .int (iI v_252)), (3, .int (iI v_31)), (2, .int (iI v_15)), (1, .int (iI v_8)), (0, .ref a)]) F.1 F.2.1 dX1_readTest_91 hl (by decide) rfl (fun ls hl => ?_)
            refine lv_iload F.1 F.2.1 dX1_readTest_93 (lv_at hl 0 rfl) ?_
            refine z_if_eq (tgt := 102) F dX1_readTest_95 (by decide) zv_252 (fun c_256 => ?_) (fun c_256 => ?_)
            · have t_257 := tIz_0 q_255 (by omega)
              refine lv_aload_n F.1 F.2.1 dX1_readTest_102 rfl (lv_at hl 4 rfl) ?_
              refine lv_aload_n F.1 F.2.1 dX1_readTest_103 rfl (lv_at hl 4 rfl) ?_
              refine g_getR (ci := 1) (k := 2) F hH rfl (by decide) iX1 hp.1 (by decide) rfl (b := ln) hp.2.2.2.1 k29 dX1_readTest_104 ?_
              refine g_getI (ci := 0) (k := 5) F hH rfl (by decide) iX0 hp.2.2.2.2.1 (by decide) rfl k143 dX1_readTest_107 ?_
              have b_258 := gI_line hv hp.2.2.2.2.1
              unfold vLineI at b_258
              refine g_calli (g_runV (As := [.int (iI ((I_233 ln 5).toInt))]) (rest := []) (ci := 1) F hl.1 hH hS hz (c_X1_seeColumnf l g gh q b n tl nr nt cl (h + 2) I_233 R J AI AJ AR a ((I_233 ln 5).toInt) (zr_t _) hv hp.1 (by first | exact hp.2.2.2.2.2.2.2 | exact hh | omega) hP) (cwV 1 F.2.2.2.2.1 gX1_readTest_X1_seeColumn rfl rfl rfl hdX1_seeColumn ⟨Nat.le_of_ble_eq_true rfl, Nat.le_of_ble_eq_true rfl⟩) hp.1 (by decide) rfl rfl rfl (Nat.le_of_ble_eq_true rfl) dX1_readTest_110 ⟨Nat.zero_le _, Nat.zero_le _⟩) hS (fun v_265 I_259 R_260 J_261 AI_262 AJ_263 AR_264 H locs zv_265 hp_266 hH hS => ?_)
              dsimp only at hp_266
              rw [show (I_233 ln 5).toInt = c5 by omega] at hp_266
              obtain ⟨rfl, rfl, rfl, rfl, rfl, rfl, t1, t2, t3⟩ := hp_266
              refine lv_istore_n (lv' := [(1, .int (iI v_265)), (4, .int (iI v_252)), (3, .int (iI v_31)), (2, .int (iI v_15)), (0, .ref a)]) F.1 F.2.1 dX1_readTest_113 rfl hl (by decide) rfl (fun ls hl => ?_)
              refine lv_iload_n F.1 F.2.1 dX1_readTest_114 rfl (lv_at hl 0 rfl) ?_
              refine z_if_eq (tgt := 120) F dX1_readTest_115 (by decide) zv_265 (fun c_267 => ?_) (fun c_267 => ?_)
              · have t_268 := pCf_0 (b := b) (n := n) (c := c5) (h := h + 2) (by omega)
                refine lv_aload_n F.1 F.2.1 dX1_readTest_120 rfl (lv_at hl 4 rfl) ?_
                refine g_getR (ci := 1) (k := 0) F hH rfl (by decide) iX1 hp.1 (by decide) rfl (b := gh 22 0) (gR_pr0 hv hp.1).1 k12 dX1_readTest_121 ?_
                refine g_getR (ci := 5) (k := 2) F hH rfl (by decide) iX5 (gR_pr0 hv hp.1).2 (by decide) rfl (b := gh 26 0) r_13a k71 dX1_readTest_124 ?_
                refine lv_aload_n F.1 F.2.1 dX1_readTest_127 rfl (lv_at hl 4 rfl) ?_
                refine g_getI (ci := 1) (k := 3) F hH rfl (by decide) iX1 hp.1 (by decide) rfl k44 dX1_readTest_128 ?_
                have b_269h := hp.2.2.2.2.2.2.2
                have b_269 := gI_pr hv hp.1
                have b_269t := gI_tk hv (gR_pr0 hv hp.1).2
                have hx131 : 0 ≤ ((I_233 a 3).toInt) ∧ ((I_233 a 3).toInt) < ((901 : Nat) : Int) ∧ ((I_233 a 3).toInt) ≤ 2147483647 := ⟨by omega, by omega, by omega⟩
                refine g_iald F hH r_13b hx131.1 hx131.2.1 hx131.2.2 dX1_readTest_131 ?_
                refine z_name (fun v_270 ev_270 => ?_)
                have zv_270 : zr v_270 := by rw [ev_270]; exact zr_t _
                have t131 : v_270 = pV b n (h + 2) := by rw [ev_270]; exact pH_V hP
                refine lv_istore (lv' := [(5, .int (iI v_270)), (1, .int (iI v_265)), (4, .int (iI v_252)), (3, .int (iI v_31)), (2, .int (iI v_15)), (0, .ref a)]) F.1 F.2.1 dX1_readTest_132 hl (by decide) rfl (fun ls hl => ?_)
                refine lv_aload_n F.1 F.2.1 dX1_readTest_134 rfl (lv_at hl 5 rfl) ?_
                refine g_getR (ci := 1) (k := 2) F hH rfl (by decide) iX1 hp.1 (by decide) rfl (b := ln) hp.2.2.2.1 k29 dX1_readTest_135 ?_
                refine lv_iload_n F.1 F.2.1 dX1_readTest_138 rfl (lv_at hl 4 rfl) ?_
                refine lv_iload_n F.1 F.2.1 dX1_readTest_139 rfl (lv_at hl 3 rfl) ?_
                refine lv_iload F.1 F.2.1 dX1_readTest_140 (lv_at hl 2 rfl) ?_
                refine z_if_eq (tgt := 149) F dX1_readTest_142 (by decide) zv_252 (fun c_271 => ?_) (fun c_271 => ?_)
                · have t_272 := tIz_0 q_255 (by omega)
                  refine lv_iload F.1 F.2.1 dX1_readTest_149 (lv_at hl 0 rfl) ?_
                  refine lv_iload F.1 F.2.1 dX1_readTest_151 (lv_at hl 0 rfl) ?_
                  have hp0 := hp
                  have hv0 := hv
                  refine g_callv (g_runV (As := [.int (iI v_15), .int (iI v_31), .int (iI v_270), .int (iI v_270)]) (rest := []) (ci := 0) F hl.1 hH hS hz (c_X0_addTestf l g gh I_233 R J AI AJ AR ln v_15 v_31 v_270 v_270 zv_15 zv_31 zv_270 zv_270 hv hp.2.2.2.2.1 (by omega) (by omega) (by omega) (by omega)) (cwV 4 F.2.2.2.2.1 gX1_readTest_X0_addTest rfl rfl rfl hdX0_addTest ⟨Nat.le_of_ble_eq_true rfl, Nat.le_of_ble_eq_true rfl⟩) hp.2.2.2.2.1 (by decide) rfl rfl rfl (Nat.le_of_ble_eq_true rfl) dX1_readTest_153 ⟨Nat.zero_le _, Nat.zero_le _⟩) hS (fun I_273 R_274 J_275 AI_276 AJ_277 AR_278 H locs hp_279 hH hS => ?_)
                  dsimp only at hp_279
                  obtain ⟨rfl, rfl, rfl, rfl, hv, fI, fA, f0, f8, fk⟩ := hp_279
                  have hp := pS_ln hv0 hp fI
                  have pf := pF_t pf (pF_o fI f0)
                  have u_280q : (I_273 q 1).toInt = (I_233 q 1).toInt := by rw [fI q (gO_ne hp.2.2.1 hp.2.2.2.2.1 (by decide))]
                  have u_280_0 : (I_273 ln 0).toInt = (I_233 ln 0).toInt := by rw [f0]
                  have hP := pH_ai hv hp.1 hp.2.2.2.2.1 (pH_ln hv0 hp0 hP fI) fA
                  have u_281 : (I_273 ln 2).toInt = (I_233 ln 2).toInt := by rw [fk 2 (by decide)]
                  have u_282 : (I_273 ln 5).toInt = (I_233 ln 5).toInt := by rw [fk 5 (by decide)]
                  have u_283 : (I_273 ln 6).toInt = (I_233 ln 6).toInt := by rw [fk 6 (by decide)]
                  have u_284 : (I_273 ln 9).toInt = (I_233 ln 9).toInt := by rw [fk 9 (by decide)]
                  have u_285 : (I_273 ln 10).toInt = (I_233 ln 10).toInt := by rw [fk 10 (by decide)]
                  have hP : pH gh AR I_273 J AI_276 AJ a q b n tl nr nt cl (h + 2) := hP
                  refine lv_aload_n F.1 F.2.1 dX1_readTest_156 rfl (lv_at hl 5 rfl) ?_
                  have hv0 := hv
                  refine g_callv (g_runV (As := []) (rest := []) (ci := 1) F hl.1 hH hS hz (c_X1_stepf l g gh q b n tl nr nt cl (h + 2) I_273 R J AI_276 AJ AR a hv hp.1 (by first | exact hp.2.2.2.2.2.2.2 | exact hh | omega) hP (by first | exact hp.2.2.1 | exact hq) (by omega)) (cwV 0 F.2.2.2.2.1 gX1_readTest_X1_step rfl rfl rfl hdX1_step ⟨Nat.le_of_ble_eq_true rfl, Nat.le_of_ble_eq_true rfl⟩) hp.1 (by decide) rfl rfl rfl (Nat.le_of_ble_eq_true rfl) dX1_readTest_157 ⟨Nat.zero_le _, Nat.zero_le _⟩) hS (fun I_286 R_287 J_288 AI_289 AJ_290 AR_291 H locs hp_292 hH hS => ?_)
                  dsimp only at hp_292
                  obtain ⟨rfl, rfl, rfl, rfl, rfl, hv, fs, hs, hP⟩ := hp_292
                  have hP : pH gh AR I_286 J AI_276 AJ a q b n tl nr nt cl (h + 3) := hP
                  obtain ⟨hp, pfq, fls⟩ := pS_step hv0 hp fs hs
                  have pf := pF_t pf pfq
                  have u_293q : (I_286 q 1).toInt = (I_273 q 1).toInt := by rw [pF_q hp pfq]
                  have u_293_0 : (I_286 ln 0).toInt = (I_273 ln 0).toInt := by rw [fls]
                  have u_293_8 : (I_286 ln 8).toInt = (I_273 ln 8).toInt := by rw [fls]
                  have u_294 : (I_286 ln 2).toInt = (I_273 ln 2).toInt := by rw [fls]
                  have u_295 : (I_286 ln 5).toInt = (I_273 ln 5).toInt := by rw [fls]
                  have u_296 : (I_286 ln 6).toInt = (I_273 ln 6).toInt := by rw [fls]
                  have u_297 : (I_286 ln 9).toInt = (I_273 ln 9).toInt := by rw [fls]
                  have u_298 : (I_286 ln 10).toInt = (I_273 ln 10).toInt := by rw [fls]
                  refine z_iconst F dX1_readTest_160 ?_
                  have hfin : sTest b n c5 k8 h = (0, h + 3, 0) := by
                    unfold sTest
                    repeat (first | with_reducible rfl | refine ite_y (by omega) ?_ | refine ite_n (by omega) ?_ | exact pr_e (by omega) (by omega) (by omega))
                  exact g_iret F hr hlk hH hS hz ⟨by decide, by decide⟩ ⟨rfl, rfl, rfl, rfl, hv, hp, pf, by first | omega | rfl | (dsimp only; omega), by (try dsimp only); rw [hfin]; first | done | omega | rfl, by (try dsimp only); rw [hfin]; exact hP, by (try dsimp only); omega, by (try dsimp only); first | exact pIm_n (by omega) | (rw [hfin]; (try dsimp only); exact pIm_y (by first | omega | rfl)) | exact pIm_y (by omega)⟩ dX1_readTest_161
                · exact absurd trivial (by omega)
              · refine lv_iload_n F.1 F.2.1 dX1_readTest_118 rfl (lv_at hl 0 rfl) ?_
                have hfin : sTest b n c5 k8 h = (v_265, h + 2, 0) := by
                  unfold sTest
                  repeat (first | with_reducible rfl | refine ite_y (by omega) ?_ | refine ite_n (by omega) ?_ | exact pr_e (by omega) (by omega) (by omega))
                exact g_iret F hr hlk hH hS hz zv_265 ⟨rfl, rfl, rfl, rfl, hv, hp, pf, by first | omega | rfl | (dsimp only; omega), by (try dsimp only); rw [hfin]; first | done | omega | rfl, by (try dsimp only); rw [hfin]; exact hP, by (try dsimp only); omega, by (try dsimp only); first | exact pIm_n (by omega) | (rw [hfin]; (try dsimp only); exact pIm_y (by first | omega | rfl)) | exact pIm_y (by omega)⟩ dX1_readTest_119
            · have t_299 := tIz_1 q_255 (by omega)
              refine z_iconst F dX1_readTest_98 ?_
              refine z_goto (tgt := 113) F dX1_readTest_99 (by decide) ?_
              refine lv_istore_n (lv' := [(1, .int (iI 0)), (4, .int (iI v_252)), (3, .int (iI v_31)), (2, .int (iI v_15)), (0, .ref a)]) F.1 F.2.1 dX1_readTest_113 rfl hl (by decide) rfl (fun ls hl => ?_)
              refine lv_iload_n F.1 F.2.1 dX1_readTest_114 rfl (lv_at hl 0 rfl) ?_
              refine z_if_eq (tgt := 120) F dX1_readTest_115 (by decide) ⟨by decide, by decide⟩ (fun c_300 => ?_) (fun c_300 => ?_)
              · refine lv_aload_n F.1 F.2.1 dX1_readTest_120 rfl (lv_at hl 4 rfl) ?_
                refine g_getR (ci := 1) (k := 0) F hH rfl (by decide) iX1 hp.1 (by decide) rfl (b := gh 22 0) (gR_pr0 hv hp.1).1 k12 dX1_readTest_121 ?_
                refine g_getR (ci := 5) (k := 2) F hH rfl (by decide) iX5 (gR_pr0 hv hp.1).2 (by decide) rfl (b := gh 26 0) r_13a k71 dX1_readTest_124 ?_
                refine lv_aload_n F.1 F.2.1 dX1_readTest_127 rfl (lv_at hl 4 rfl) ?_
                refine g_getI (ci := 1) (k := 3) F hH rfl (by decide) iX1 hp.1 (by decide) rfl k44 dX1_readTest_128 ?_
                have b_301h := hp.2.2.2.2.2.2.2
                have b_301 := gI_pr hv hp.1
                have b_301t := gI_tk hv (gR_pr0 hv hp.1).2
                have hx131 : 0 ≤ ((I_233 a 3).toInt) ∧ ((I_233 a 3).toInt) < ((901 : Nat) : Int) ∧ ((I_233 a 3).toInt) ≤ 2147483647 := ⟨by omega, by omega, by omega⟩
                refine g_iald F hH r_13b hx131.1 hx131.2.1 hx131.2.2 dX1_readTest_131 ?_
                refine z_name (fun v_302 ev_302 => ?_)
                have zv_302 : zr v_302 := by rw [ev_302]; exact zr_t _
                have t131 : v_302 = pV b n (h + 2) := by rw [ev_302]; exact pH_V hP
                refine lv_istore (lv' := [(5, .int (iI v_302)), (1, .int (iI 0)), (4, .int (iI v_252)), (3, .int (iI v_31)), (2, .int (iI v_15)), (0, .ref a)]) F.1 F.2.1 dX1_readTest_132 hl (by decide) rfl (fun ls hl => ?_)
                refine lv_aload_n F.1 F.2.1 dX1_readTest_134 rfl (lv_at hl 5 rfl) ?_
                refine g_getR (ci := 1) (k := 2) F hH rfl (by decide) iX1 hp.1 (by decide) rfl (b := ln) hp.2.2.2.1 k29 dX1_readTest_135 ?_
                refine lv_iload_n F.1 F.2.1 dX1_readTest_138 rfl (lv_at hl 4 rfl) ?_
                refine lv_iload_n F.1 F.2.1 dX1_readTest_139 rfl (lv_at hl 3 rfl) ?_
                refine lv_iload F.1 F.2.1 dX1_readTest_140 (lv_at hl 2 rfl) ?_
                refine z_if_eq (tgt := 149) F dX1_readTest_142 (by decide) zv_252 (fun c_303 => ?_) (fun c_303 => ?_)
                · exact absurd trivial (by omega)
                · have t_304 := tIz_1 q_255 (by omega)
                  refine z_iconst F dX1_readTest_145 ?_
                  refine z_goto (tgt := 151) F dX1_readTest_146 (by decide) ?_
                  refine lv_iload F.1 F.2.1 dX1_readTest_151 (lv_at hl 0 rfl) ?_
                  have hp0 := hp
                  have hv0 := hv
                  have b_305 := gI_line hv hp.2.2.2.2.1
                  unfold vLineI at b_305
                  refine g_callv (g_runV (As := [.int (iI v_15), .int (iI v_31), .int (iI ((-1))), .int (iI v_302)]) (rest := []) (ci := 0) F hl.1 hH hS hz (c_X0_addTestf l g gh I_233 R J AI AJ AR ln v_15 v_31 (-1) v_302 zv_15 zv_31 ⟨by decide, by decide⟩ zv_302 hv hp.2.2.2.2.1 (by omega) (by omega) (by omega) (by omega)) (cwV 4 F.2.2.2.2.1 gX1_readTest_X0_addTest rfl rfl rfl hdX0_addTest ⟨Nat.le_of_ble_eq_true rfl, Nat.le_of_ble_eq_true rfl⟩) hp.2.2.2.2.1 (by decide) rfl rfl rfl (Nat.le_of_ble_eq_true rfl) dX1_readTest_153 ⟨Nat.zero_le _, Nat.zero_le _⟩) hS (fun I_306 R_307 J_308 AI_309 AJ_310 AR_311 H locs hp_312 hH hS => ?_)
                  dsimp only at hp_312
                  obtain ⟨rfl, rfl, rfl, rfl, hv, fI, fA, f0, f8, fk⟩ := hp_312
                  have hp := pS_ln hv0 hp fI
                  have pf := pF_t pf (pF_o fI f0)
                  have u_313q : (I_306 q 1).toInt = (I_233 q 1).toInt := by rw [fI q (gO_ne hp.2.2.1 hp.2.2.2.2.1 (by decide))]
                  have u_313_0 : (I_306 ln 0).toInt = (I_233 ln 0).toInt := by rw [f0]
                  have hP := pH_ai hv hp.1 hp.2.2.2.2.1 (pH_ln hv0 hp0 hP fI) fA
                  have u_314 : (I_306 ln 2).toInt = (I_233 ln 2).toInt := by rw [fk 2 (by decide)]
                  have u_315 : (I_306 ln 5).toInt = (I_233 ln 5).toInt := by rw [fk 5 (by decide)]
                  have u_316 : (I_306 ln 6).toInt = (I_233 ln 6).toInt := by rw [fk 6 (by decide)]
                  have u_317 : (I_306 ln 9).toInt = (I_233 ln 9).toInt := by rw [fk 9 (by decide)]
                  have u_318 : (I_306 ln 10).toInt = (I_233 ln 10).toInt := by rw [fk 10 (by decide)]
                  have hP : pH gh AR I_306 J AI_309 AJ a q b n tl nr nt cl (h + 2) := hP
                  refine lv_aload_n F.1 F.2.1 dX1_readTest_156 rfl (lv_at hl 5 rfl) ?_
                  have hv0 := hv
                  refine g_callv (g_runV (As := []) (rest := []) (ci := 1) F hl.1 hH hS hz (c_X1_stepf l g gh q b n tl nr nt cl (h + 2) I_306 R J AI_309 AJ AR a hv hp.1 (by first | exact hp.2.2.2.2.2.2.2 | exact hh | omega) hP (by first | exact hp.2.2.1 | exact hq) (by omega)) (cwV 0 F.2.2.2.2.1 gX1_readTest_X1_step rfl rfl rfl hdX1_step ⟨Nat.le_of_ble_eq_true rfl, Nat.le_of_ble_eq_true rfl⟩) hp.1 (by decide) rfl rfl rfl (Nat.le_of_ble_eq_true rfl) dX1_readTest_157 ⟨Nat.zero_le _, Nat.zero_le _⟩) hS (fun I_319 R_320 J_321 AI_322 AJ_323 AR_324 H locs hp_325 hH hS => ?_)
                  dsimp only at hp_325
                  obtain ⟨rfl, rfl, rfl, rfl, rfl, hv, fs, hs, hP⟩ := hp_325
                  have hP : pH gh AR I_319 J AI_309 AJ a q b n tl nr nt cl (h + 3) := hP
                  obtain ⟨hp, pfq, fls⟩ := pS_step hv0 hp fs hs
                  have pf := pF_t pf pfq
                  have u_326q : (I_319 q 1).toInt = (I_306 q 1).toInt := by rw [pF_q hp pfq]
                  have u_326_0 : (I_319 ln 0).toInt = (I_306 ln 0).toInt := by rw [fls]
                  have u_326_8 : (I_319 ln 8).toInt = (I_306 ln 8).toInt := by rw [fls]
                  have u_327 : (I_319 ln 2).toInt = (I_306 ln 2).toInt := by rw [fls]
                  have u_328 : (I_319 ln 5).toInt = (I_306 ln 5).toInt := by rw [fls]
                  have u_329 : (I_319 ln 6).toInt = (I_306 ln 6).toInt := by rw [fls]
                  have u_330 : (I_319 ln 9).toInt = (I_306 ln 9).toInt := by rw [fls]
                  have u_331 : (I_319 ln 10).toInt = (I_306 ln 10).toInt := by rw [fls]
                  refine z_iconst F dX1_readTest_160 ?_
                  have hfin : sTest b n c5 k8 h = (0, h + 3, 0) := by
                    unfold sTest
                    repeat (first | with_reducible rfl | refine ite_y (by omega) ?_ | refine ite_n (by omega) ?_ | exact pr_e (by omega) (by omega) (by omega))
                  exact g_iret F hr hlk hH hS hz ⟨by decide, by decide⟩ ⟨rfl, rfl, rfl, rfl, hv, hp, pf, by first | omega | rfl | (dsimp only; omega), by (try dsimp only); rw [hfin]; first | done | omega | rfl, by (try dsimp only); rw [hfin]; exact hP, by (try dsimp only); omega, by (try dsimp only); first | exact pIm_n (by omega) | (rw [hfin]; (try dsimp only); exact pIm_y (by first | omega | rfl)) | exact pIm_y (by omega)⟩ dX1_readTest_161
              · exact absurd trivial (by omega)
          · refine z_iconst F dX1_readTest_80 ?_
            have hfin : sTest b n c5 k8 h = (1, h + 1, 0) := by
              unfold sTest
              repeat (first | with_reducible rfl | refine ite_y (by omega) ?_ | refine ite_n (by omega) ?_ | exact pr_e (by omega) (by omega) (by omega))
            exact g_iret F hr hlk hH hS hz ⟨by decide, by decide⟩ ⟨rfl, rfl, rfl, rfl, hv, hp, pf, by first | omega | rfl | (dsimp only; omega), by (try dsimp only); rw [hfin]; first | done | omega | rfl, by (try dsimp only); rw [hfin]; exact hP, by (try dsimp only); omega, by (try dsimp only); first | exact pIm_n (by omega) | (rw [hfin]; (try dsimp only); exact pIm_y (by first | omega | rfl)) | exact pIm_y (by omega)⟩ dX1_readTest_81
    · refine z_iconst F dX1_readTest_30 ?_
      have hfin : sTest b n c5 k8 h = (4, h, 0) := by
        unfold sTest
        repeat (first | with_reducible rfl | refine ite_y (by omega) ?_ | refine ite_n (by omega) ?_ | exact pr_e (by omega) (by omega) (by omega))
      exact g_iret F hr hlk hH hS hz ⟨by decide, by decide⟩ ⟨rfl, rfl, rfl, rfl, hv, hp, pf, by first | omega | rfl | (dsimp only; omega), by (try dsimp only); rw [hfin]; first | done | omega | rfl, by (try dsimp only); rw [hfin]; exact hP, by (try dsimp only); omega, by (try dsimp only); first | exact pIm_n (by omega) | (rw [hfin]; (try dsimp only); exact pIm_y (by first | omega | rfl)) | exact pIm_y (by omega)⟩ dX1_readTest_31
  · refine lv_iload_n F.1 F.2.1 dX1_readTest_16 rfl (lv_at hl 0 rfl) ?_
    have hfin : sTest b n c5 k8 h = (v_8, h, 0) := by
      unfold sTest
      repeat (first | with_reducible rfl | refine ite_y (by omega) ?_ | refine ite_n (by omega) ?_ | exact pr_e (by omega) (by omega) (by omega))
    exact g_iret F hr hlk hH hS hz zv_8 ⟨rfl, rfl, rfl, rfl, hv, hp, pf, by first | omega | rfl | (dsimp only; omega), by (try dsimp only); rw [hfin]; first | done | omega | rfl, by (try dsimp only); rw [hfin]; exact hP, by (try dsimp only); omega, by (try dsimp only); first | exact pIm_n (by omega) | (rw [hfin]; (try dsimp only); exact pIm_y (by first | omega | rfl)) | exact pIm_y (by omega)⟩ dX1_readTest_17

def rmX1_readTestsf : Room := { frames := 3, cells := 0, slots := 0, locals := 67 }
set_option maxHeartbeats 4000000 in
set_option maxRecDepth 100000 in
/-- the tests -/
theorem c_X1_readTestsf (l : Launch) (g : gG) (gh : gGh) (q ln : Nat) (c5 : Int) (b : tTx) (n : Nat) (tl : Int) (nr : Nat) (nt : Nat → Nat) (cl : Nat → Int) (h : Nat) (I : gI) (R : gR) (J : gJ) (AI : gI) (AJ : gJ) (AR : gR) (a : Nat) (hv : gInv g gh R AR I AI) (hp : pS g gh R I a q ln) (hk : (I ln 0).toInt = 1) (hP : pH gh AR I J AI AJ a q b n tl nr nt cl h) (hc5 : (I ln 5).toInt = c5) (hk8 : (I ln 8).toInt = 0) : gMet l g yX1_readTests wsX1_readTests rmX1_readTestsf [.ref a] (I, R, J, AI, AJ, AR) (gQi g (fun (z : Int) (w : gS) => R = w.2.1 ∧ J = w.2.2.1 ∧ AJ = w.2.2.2.2.1 ∧ AR = w.2.2.2.2.2 ∧ (gInv g gh R AR (w.1) (w.2.2.2.1)) ∧ (pS g gh R (w.1) a q ln) ∧ (pF a ln I (w.1)) ∧ (0 ≤ z ∧ z ≤ 4) ∧ (z = (sTests b n c5 9 0 h).1) ∧ (pH gh AR (w.1) J (w.2.2.2.1) AJ a q b n tl nr nt cl (sTests b n c5 9 0 h).2.1) ∧ (((w.1) ln 5).toInt = (I ln 5).toInt) ∧ (pIm z ((sTests b n c5 9 0 h).2.2) (c5)))) := by
  refine gStart (cc := cX1_readTests) (maxL := 3) (ret := (some (.int))) (by decide) rfl (Nat.le_of_ble_eq_true rfl) ?_
  intro p e s m below meth c ls F hr hlk hH hz hS hl
  have hl : lv_has ls 3 [(0, .ref a)] := hl
  have hS : va_S (gA g) s.heap s.heap [] := hS
  obtain ⟨H, hHe⟩ : ∃ H : Heap, H = s.heap := ⟨_, rfl⟩
  obtain ⟨locs, hlo⟩ : ∃ k : List Loc, k = [] := ⟨_, rfl⟩
  have hH : gH g I R J AI AJ AR H := by rw [hHe]; exact hH
  have hS : va_S (gA g) s.heap H locs := by rw [hHe, hlo]; exact hS
  suffices hw : W p l e rmX1_readTestsf s m ([.ref a] : List Value).toArray below meth c H locs 0 0 (MQ below (gQi g (fun (z : Int) (w : gS) => R = w.2.1 ∧ J = w.2.2.1 ∧ AJ = w.2.2.2.2.1 ∧ AR = w.2.2.2.2.2 ∧ (gInv g gh R AR (w.1) (w.2.2.2.1)) ∧ (pS g gh R (w.1) a q ln) ∧ (pF a ln I (w.1)) ∧ (0 ≤ z ∧ z ≤ 4) ∧ (z = (sTests b n c5 9 0 h).1) ∧ (pH gh AR (w.1) J (w.2.2.2.1) AJ a q b n tl nr nt cl (sTests b n c5 9 0 h).2.1) ∧ (((w.1) ln 5).toInt = (I ln 5).toInt) ∧ (pIm z ((sTests b n c5 9 0 h).2.2) (c5)))) ([.ref a] : List Value).toArray s 0 0 (gA g)) (F0 m 0 ls []) by
    rw [hHe, hlo] at hw; exact hw
  clear hHe hlo
  have pf : pF a ln I I := pF_r
  refine z_iconst F dX1_readTests_0 ?_
  refine lv_istore_n (lv' := [(1, .int (iI 0)), (0, .ref a)]) F.1 F.2.1 dX1_readTests_1 rfl hl (by decide) rfl (fun ls hl => ?_)
  have cut_2_2 : ∀ (NN : Nat) (i : Int) (I_1 : gI) (AI_2 : gI) (H : Heap) (locs : List Loc) (ls : Array Slot), zr i → (gInv g gh R AR I_1 AI_2) → (pS g gh R I_1 a q ln) → (pF a ln I I_1) → ((I_1 ln 0).toInt = 1) → (0 ≤ i ∧ i ≤ 9) → (pH gh AR I_1 J AI_2 AJ a q b n tl nr nt cl (I_1 a 3).toInt.toNat) → (sTests b n c5 9 0 h = sTests b n c5 (9 - i).toNat i (I_1 a 3).toInt.toNat) → ((I_1 ln 8).toInt = i ∧ (I_1 ln 5).toInt = c5 ∧ (I_1 ln 6).toInt = (I ln 6).toInt) → (9 - i) < ((NN : Nat) : Int) → gH g I_1 R J AI_2 AJ AR H → va_S (gA g) s.heap H locs → lv_has ls 3 [(1, .int (iI i)), (0, .ref a)] → W p l e rmX1_readTestsf s m ([.ref a] : List Value).toArray below meth c H locs 0 0 (MQ below (gQi g (fun (z : Int) (w : gS) => R = w.2.1 ∧ J = w.2.2.1 ∧ AJ = w.2.2.2.2.1 ∧ AR = w.2.2.2.2.2 ∧ (gInv g gh R AR (w.1) (w.2.2.2.1)) ∧ (pS g gh R (w.1) a q ln) ∧ (pF a ln I (w.1)) ∧ (0 ≤ z ∧ z ≤ 4) ∧ (z = (sTests b n c5 9 0 h).1) ∧ (pH gh AR (w.1) J (w.2.2.2.1) AJ a q b n tl nr nt cl (sTests b n c5 9 0 h).2.1) ∧ (((w.1) ln 5).toInt = (I ln 5).toInt) ∧ (pIm z ((sTests b n c5 9 0 h).2.2) (c5)))) ([.ref a] : List Value).toArray s 0 0 (gA g)) (F0 m 2 ls []) := by
    intro NN2
    induction NN2 with
    | zero =>
      intro i I_1 AI_2 H locs ls zi hv hp pf hk hi hP hsq hk8l hm2 hH hS hl
      exact absurd hm2 (by omega)
    | succ NN2 ih2 =>
      intro i I_1 AI_2 H locs ls zi hv hp pf hk hi hP hsq hk8l hm2 hH hS hl
      obtain ⟨hc, ehc⟩ : ∃ x, x = (I_1 a 3).toInt.toNat := ⟨_, rfl⟩
      rw [← ehc] at hP hsq
      refine lv_iload_n F.1 F.2.1 dX1_readTests_2 rfl (lv_at hl 0 rfl) ?_
      refine z_bipush F dX1_readTests_3 (by decide) ?_
      refine z_icmp_gt (tgt := 38) F dX1_readTests_5 (by decide) zi ⟨by decide, by decide⟩ (fun c_4 => ?_) (fun c_4 => ?_)
      · refine z_iconst F dX1_readTests_38 ?_
        have hfin : sTests b n c5 9 0 h = (4, hc, 0) := sTests_z hsq (by omega)
        exact g_iret F hr hlk hH hS hz ⟨by decide, by decide⟩ ⟨rfl, rfl, rfl, rfl, hv, hp, pf, by first | omega | rfl | (dsimp only; omega), by (try dsimp only); rw [hfin]; first | done | omega | rfl, by (try dsimp only); rw [hfin]; exact hP, by (try dsimp only); omega, by (try dsimp only); first | exact pIm_n (by omega) | (rw [hfin]; (try dsimp only); exact pIm_y (by first | omega | rfl)) | exact pIm_y (by omega)⟩ dX1_readTests_39
      · refine lv_aload_n F.1 F.2.1 dX1_readTests_8 rfl (lv_at hl 1 rfl) ?_
        refine g_calli (g_runV (As := []) (rest := []) (ci := 1) F hl.1 hH hS hz (c_X1_readTestf l g gh q ln c5 i b n tl nr nt cl hc I_1 R J AI_2 AJ AR a hv hp (by omega) hP (by omega) (by omega)) (cwV 0 F.2.2.2.2.1 gX1_readTests_X1_readTest rfl rfl rfl hdX1_readTest ⟨Nat.le_of_ble_eq_true rfl, Nat.le_of_ble_eq_true rfl⟩) hp.1 (by decide) rfl rfl rfl (Nat.le_of_ble_eq_true rfl) dX1_readTests_9 ⟨Nat.zero_le _, Nat.zero_le _⟩) hS (fun v_11 I_5 R_6 J_7 AI_8 AJ_9 AR_10 H locs zv_11 hp_12 hH hS => ?_)
        dsimp only at hp_12
        obtain ⟨r_13, er_13⟩ : ∃ qQ : pR, qQ = sTest b n c5 i hc := ⟨_, rfl⟩
        rw [← er_13] at hp_12
        obtain ⟨rfl, rfl, rfl, rfl, hv, hp, pfq, q_14, q_15, hP, q_16, q_17⟩ := hp_12
        have pf := pF_t pf pfq
        have u_18q : (I_5 q 1).toInt = (I_1 q 1).toInt := by rw [pF_q hp pfq]
        have u_18_0 : (I_5 ln 0).toInt = (I_1 ln 0).toInt := by rw [pfq.2]
        refine lv_istore_n (lv' := [(2, .int (iI v_11)), (1, .int (iI i)), (0, .ref a)]) F.1 F.2.1 dX1_readTests_12 rfl hl (by decide) rfl (fun ls hl => ?_)
        refine lv_iload_n F.1 F.2.1 dX1_readTests_13 rfl (lv_at hl 0 rfl) ?_
        refine z_if_ne (tgt := 26) F dX1_readTests_14 (by decide) zv_11 (fun c_19 => ?_) (fun c_19 => ?_)
        · refine lv_iload_n F.1 F.2.1 dX1_readTests_26 rfl (lv_at hl 0 rfl) ?_
          have hfin : sTests b n c5 9 0 h = r_13 := sTests_no hsq (f := (8 - i).toNat) (by omega) er_13 (by omega)
          exact g_iret F hr hlk hH hS hz zv_11 ⟨rfl, rfl, rfl, rfl, hv, hp, pf, by first | omega | rfl | (dsimp only; omega), by (try dsimp only); rw [hfin]; first | done | omega | rfl, by (try dsimp only); rw [hfin]; exact hP, by (try dsimp only); omega, by (try dsimp only); first | exact pIm_n (by omega) | (rw [hfin]; (try dsimp only); exact pIm_y (by first | omega | rfl)) | exact pIm_y (by omega) | (rw [hfin]; (try dsimp only); exact fun h9 => by have q9 := q_17 h9; (try dsimp only at q9); omega)⟩ dX1_readTests_27
        · have t_20 := q_17 (by omega)
          refine lv_aload_n F.1 F.2.1 dX1_readTests_17 rfl (lv_at hl 2 rfl) ?_
          refine z_bipush F dX1_readTests_18 (by decide) ?_
          refine g_calli (g_runV (As := [.int (iI 11)]) (rest := []) (ci := 1) F hl.1 hH hS hz (c_X1_isWordf l g gh q b n tl nr nt cl r_13.2.1 I_5 R J AI_8 AJ AR a 11 ⟨by decide, by decide⟩ hv hp.1 (by first | exact hp.2.2.2.2.2.2.2 | exact hh | omega) hP) (cwV 1 F.2.2.2.2.1 gX1_readTests_X1_isWord rfl rfl rfl hdX1_isWord ⟨Nat.le_of_ble_eq_true rfl, Nat.le_of_ble_eq_true rfl⟩) hp.1 (by decide) rfl rfl rfl (Nat.le_of_ble_eq_true rfl) dX1_readTests_20 ⟨Nat.zero_le _, Nat.zero_le _⟩) hS (fun v_27 I_21 R_22 J_23 AI_24 AJ_25 AR_26 H locs zv_27 hp_28 hH hS => ?_)
          dsimp only at hp_28
          obtain ⟨rfl, rfl, rfl, rfl, rfl, rfl, q_29, q_30⟩ := hp_28
          refine z_if_ne (tgt := 28) F dX1_readTests_23 (by decide) zv_27 (fun c_31 => ?_) (fun c_31 => ?_)
          · have t_32 := tIz_1 q_30 (by omega)
            refine lv_aload_n F.1 F.2.1 dX1_readTests_28 rfl (lv_at hl 2 rfl) ?_
            have hv0 := hv
            refine g_callv (g_runV (As := []) (rest := []) (ci := 1) F hl.1 hH hS hz (c_X1_stepf l g gh q b n tl nr nt cl r_13.2.1 I_5 R J AI_8 AJ AR a hv hp.1 (by first | exact hp.2.2.2.2.2.2.2 | exact hh | omega) hP (by first | exact hp.2.2.1 | exact hq) (by omega)) (cwV 0 F.2.2.2.2.1 gX1_readTests_X1_step rfl rfl rfl hdX1_step ⟨Nat.le_of_ble_eq_true rfl, Nat.le_of_ble_eq_true rfl⟩) hp.1 (by decide) rfl rfl rfl (Nat.le_of_ble_eq_true rfl) dX1_readTests_29 ⟨Nat.zero_le _, Nat.zero_le _⟩) hS (fun I_33 R_34 J_35 AI_36 AJ_37 AR_38 H locs hp_39 hH hS => ?_)
            dsimp only at hp_39
            obtain ⟨rfl, rfl, rfl, rfl, rfl, hv, fs, hs, hP⟩ := hp_39
            have hP : pH gh AR I_33 J AI_8 AJ a q b n tl nr nt cl (r_13.2.1 + 1) := hP
            obtain ⟨hp, pfq, fls⟩ := pS_step hv0 hp fs hs
            have pf := pF_t pf pfq
            have u_40q : (I_33 q 1).toInt = (I_5 q 1).toInt := by rw [pF_q hp pfq]
            have u_40_0 : (I_33 ln 0).toInt = (I_5 ln 0).toInt := by rw [fls]
            have u_40_8 : (I_33 ln 8).toInt = (I_5 ln 8).toInt := by rw [fls]
            have u_41 : (I_33 ln 2).toInt = (I_5 ln 2).toInt := by rw [fls]
            have u_42 : (I_33 ln 5).toInt = (I_5 ln 5).toInt := by rw [fls]
            have u_43 : (I_33 ln 6).toInt = (I_5 ln 6).toInt := by rw [fls]
            have u_44 : (I_33 ln 9).toInt = (I_5 ln 9).toInt := by rw [fls]
            have u_45 : (I_33 ln 10).toInt = (I_5 ln 10).toInt := by rw [fls]
            have hsq := sTests_go hsq (f := (8 - i).toNat) (by omega) er_13 (by omega) (by omega)
            refine z_iinc (lv' := [(1, .int (iI (i + 1))), (2, .int (iI v_11)), (0, .ref a)]) F dX1_readTests_32 hl (k := 1) rfl (by decide) rfl (fun ls hl => ?_)
            refine z_goto (tgt := 2) F dX1_readTests_35 (by decide) ?_
            exact ih2 (i + 1) I_33 AI_8 H locs ls ⟨by omega, by omega⟩ hv hp pf (by omega) (by omega) (by rw [pH_n hP]; exact hP) (by rw [pH_n hP, show (9 - (i + 1)).toNat = (8 - i).toNat by omega]; exact hsq) (by omega) (by omega) hH hS (lv_sub hl [0, 2] rfl)
          · have t_46 := tIz_0 q_30 (by omega)
            refine lv_iload_n F.1 F.2.1 dX1_readTests_26 rfl (lv_at hl 0 rfl) ?_
            have hfin : sTests b n c5 9 0 h = (0, r_13.2.1, c5) := sTests_st hsq (f := (8 - i).toNat) (by omega) er_13 (by omega) (by omega)
            exact g_iret F hr hlk hH hS hz zv_11 ⟨rfl, rfl, rfl, rfl, hv, hp, pf, by first | omega | rfl | (dsimp only; omega), by (try dsimp only); rw [hfin]; first | done | omega | rfl, by (try dsimp only); rw [hfin]; exact hP, by (try dsimp only); omega, by (try dsimp only); first | exact pIm_n (by omega) | (rw [hfin]; (try dsimp only); exact pIm_y (by first | omega | rfl)) | exact pIm_y (by omega) | (rw [hfin]; (try dsimp only); exact fun h9 => by have q9 := q_17 h9; (try dsimp only at q9); omega)⟩ dX1_readTests_27
  exact cut_2_2 (((9 - 0) + 1 : Int).toNat) 0 I AI H locs ls ⟨by decide, by decide⟩ hv hp pf (by omega) (by omega) (by rw [pH_n hP]; exact hP) (by rw [pH_n hP]; rfl) (by omega) (by omega) hH hS (lv_sub hl [0, 1] rfl)

def rmX1_readTermf : Room := { frames := 2, cells := 0, slots := 0, locals := 42 }
set_option maxHeartbeats 4000000 in
set_option maxRecDepth 100000 in
/-- a term -/
theorem c_X1_readTermf (l : Launch) (g : gG) (gh : gGh) (q ln : Nat) (k8 : Int) (b : tTx) (n : Nat) (tl : Int) (nr : Nat) (nt : Nat → Nat) (cl : Nat → Int) (h : Nat) (I : gI) (R : gR) (J : gJ) (AI : gI) (AJ : gJ) (AR : gR) (a : Nat) (cols : Int) (zcols : zr cols) (hv : gInv g gh R AR I AI) (hp : pS g gh R I a q ln) (hk : (I ln 0).toInt = 2 ∨ (I ln 0).toInt = 8) (hP : pH gh AR I J AI AJ a q b n tl nr nt cl h) (hk8 : (I ln 8).toInt = k8) : gMet l g yX1_readTerm wsX1_readTerm rmX1_readTermf [.ref a, .int (iI cols)] (I, R, J, AI, AJ, AR) (gQi g (fun (z : Int) (w : gS) => R = w.2.1 ∧ J = w.2.2.1 ∧ AJ = w.2.2.2.2.1 ∧ AR = w.2.2.2.2.2 ∧ (gInv g gh R AR (w.1) (w.2.2.2.1)) ∧ (pS g gh R (w.1) a q ln) ∧ (pF a ln I (w.1)) ∧ (0 ≤ z ∧ z ≤ 4) ∧ (z = (sTerm b n cols k8 h).1) ∧ (pH gh AR (w.1) J (w.2.2.2.1) AJ a q b n tl nr nt cl (sTerm b n cols k8 h).2.1) ∧ (((w.1) ln 5).toInt = (I ln 5).toInt ∧ ((w.1) ln 6).toInt = (I ln 6).toInt) ∧ (pIm z (((w.1) ln 8).toInt) (k8 + 1)))) := by
  refine gStart (cc := cX1_readTerm) (maxL := 6) (ret := (some (.int))) (by decide) rfl (Nat.le_of_ble_eq_true rfl) ?_
  intro p e s m below meth c ls F hr hlk hH hz hS hl
  have hl : lv_has ls 6 [(0, .ref a), (1, .int (iI cols))] := hl
  have hS : va_S (gA g) s.heap s.heap [] := hS
  obtain ⟨H, hHe⟩ : ∃ H : Heap, H = s.heap := ⟨_, rfl⟩
  obtain ⟨locs, hlo⟩ : ∃ k : List Loc, k = [] := ⟨_, rfl⟩
  have hH : gH g I R J AI AJ AR H := by rw [hHe]; exact hH
  have hS : va_S (gA g) s.heap H locs := by rw [hHe, hlo]; exact hS
  suffices hw : W p l e rmX1_readTermf s m ([.ref a, .int (iI cols)] : List Value).toArray below meth c H locs 0 0 (MQ below (gQi g (fun (z : Int) (w : gS) => R = w.2.1 ∧ J = w.2.2.1 ∧ AJ = w.2.2.2.2.1 ∧ AR = w.2.2.2.2.2 ∧ (gInv g gh R AR (w.1) (w.2.2.2.1)) ∧ (pS g gh R (w.1) a q ln) ∧ (pF a ln I (w.1)) ∧ (0 ≤ z ∧ z ≤ 4) ∧ (z = (sTerm b n cols k8 h).1) ∧ (pH gh AR (w.1) J (w.2.2.2.1) AJ a q b n tl nr nt cl (sTerm b n cols k8 h).2.1) ∧ (((w.1) ln 5).toInt = (I ln 5).toInt ∧ ((w.1) ln 6).toInt = (I ln 6).toInt) ∧ (pIm z (((w.1) ln 8).toInt) (k8 + 1)))) ([.ref a, .int (iI cols)] : List Value).toArray s 0 0 (gA g)) (F0 m 0 ls []) by
    rw [hHe, hlo] at hw; exact hw
  clear hHe hlo
  have pf : pF a ln I I := pF_r
  have iX5 : ∀ w ∈ u_ws RX5 TX5 5, w ∈ wsX1_readTerm := (by decide +kernel)
  have iX1 : ∀ w ∈ u_ws RX1 TX1 4, w ∈ wsX1_readTerm := (by decide +kernel)
  have iX0 : ∀ w ∈ u_ws RX0 TX0 15, w ∈ wsX1_readTerm := (by decide +kernel)
  have k29 : Cond.fieldLink RX1 29 (TX1 2).1 (TX1 2).2.1 (TX1 2).2.2.1 ∈ wsX1_readTerm := List.mem_of_getElem? (i := 1) rfl
  have k149 : Cond.fieldLink RX1 149 (TX0 8).1 (TX0 8).2.1 (TX0 8).2.2.1 ∈ wsX1_readTerm := List.mem_of_getElem? (i := 2) rfl
  have k12 : Cond.fieldLink RX1 12 (TX1 0).1 (TX1 0).2.1 (TX1 0).2.2.1 ∈ wsX1_readTerm := List.mem_of_getElem? (i := 3) rfl
  have k71 : Cond.fieldLink RX1 71 (TX5 2).1 (TX5 2).2.1 (TX5 2).2.2.1 ∈ wsX1_readTerm := List.mem_of_getElem? (i := 4) rfl
  have k44 : Cond.fieldLink RX1 44 (TX1 3).1 (TX1 3).2.1 (TX1 3).2.2.1 ∈ wsX1_readTerm := List.mem_of_getElem? (i := 5) rfl
  have k47 : Cond.fieldLink RX1 47 (TX5 0).1 (TX5 0).2.1 (TX5 0).2.2.1 ∈ wsX1_readTerm := List.mem_of_getElem? (i := 6) rfl
  refine lv_aload_n F.1 F.2.1 dX1_readTerm_0 rfl (lv_at hl 0 rfl) ?_
  refine z_iconst F dX1_readTerm_1 ?_
  refine g_calli (g_runV (As := [.int (iI 4)]) (rest := []) (ci := 1) F hl.1 hH hS hz (c_X1_isKindf l g gh q b n tl nr nt cl h I R J AI AJ AR a 4 ⟨by decide, by decide⟩ hv hp.1 (by first | exact hp.2.2.2.2.2.2.2 | exact hh | omega) hP) (cwV 1 F.2.2.2.2.1 gX1_readTerm_X1_isKind rfl rfl rfl hdX1_isKind ⟨Nat.le_of_ble_eq_true rfl, Nat.le_of_ble_eq_true rfl⟩) hp.1 (by decide) rfl rfl rfl (Nat.le_of_ble_eq_true rfl) dX1_readTerm_2 ⟨Nat.zero_le _, Nat.zero_le _⟩) hS (fun v_7 I_1 R_2 J_3 AI_4 AJ_5 AR_6 H locs zv_7 hp_8 hH hS => ?_)
  dsimp only at hp_8
  obtain ⟨rfl, rfl, rfl, rfl, rfl, rfl, q_9, q_10⟩ := hp_8
  refine lv_istore_n (lv' := [(2, .int (iI v_7)), (0, .ref a), (1, .int (iI cols))]) F.1 F.2.1 dX1_readTerm_5 rfl hl (by decide) rfl (fun ls hl => ?_)
  refine lv_iload_n F.1 F.2.1 dX1_readTerm_6 rfl (lv_at hl 0 rfl) ?_
  refine z_if_eq (tgt := 14) F dX1_readTerm_7 (by decide) zv_7 (fun c_11 => ?_) (fun c_11 => ?_)
  · have t_12 := tIz_0 q_10 (by omega)
    refine lv_aload_n F.1 F.2.1 dX1_readTerm_14 rfl (lv_at hl 1 rfl) ?_
    refine lv_iload_n F.1 F.2.1 dX1_readTerm_15 rfl (lv_at hl 2 rfl) ?_
    refine g_calli (g_runV (As := [.int (iI cols)]) (rest := []) (ci := 1) F hl.1 hH hS hz (c_X1_seeColumnf l g gh q b n tl nr nt cl h I R J AI AJ AR a cols zcols hv hp.1 (by first | exact hp.2.2.2.2.2.2.2 | exact hh | omega) hP) (cwV 1 F.2.2.2.2.1 gX1_readTerm_X1_seeColumn rfl rfl rfl hdX1_seeColumn ⟨Nat.le_of_ble_eq_true rfl, Nat.le_of_ble_eq_true rfl⟩) hp.1 (by decide) rfl rfl rfl (Nat.le_of_ble_eq_true rfl) dX1_readTerm_16 ⟨Nat.zero_le _, Nat.zero_le _⟩) hS (fun v_19 I_13 R_14 J_15 AI_16 AJ_17 AR_18 H locs zv_19 hp_20 hH hS => ?_)
    dsimp only at hp_20
    obtain ⟨rfl, rfl, rfl, rfl, rfl, rfl, s1, s2, s3⟩ := hp_20
    refine lv_istore_n (lv' := [(3, .int (iI v_19)), (2, .int (iI v_7)), (0, .ref a), (1, .int (iI cols))]) F.1 F.2.1 dX1_readTerm_19 rfl hl (by decide) rfl (fun ls hl => ?_)
    refine lv_iload_n F.1 F.2.1 dX1_readTerm_20 rfl (lv_at hl 0 rfl) ?_
    refine z_if_eq (tgt := 26) F dX1_readTerm_21 (by decide) zv_19 (fun c_21 => ?_) (fun c_21 => ?_)
    · have t_22 := pCf_0 (b := b) (n := n) (c := cols) (h := h) (by omega)
      refine lv_aload_n F.1 F.2.1 dX1_readTerm_26 rfl (lv_at hl 2 rfl) ?_
      refine g_getR (ci := 1) (k := 2) F hH rfl (by decide) iX1 hp.1 (by decide) rfl (b := ln) hp.2.2.2.1 k29 dX1_readTerm_27 ?_
      refine g_getI (ci := 0) (k := 8) F hH rfl (by decide) iX0 hp.2.2.2.2.1 (by decide) rfl k149 dX1_readTerm_30 ?_
      have b_23 := gI_line hv hp.2.2.2.2.1
      unfold vLineI at b_23
      refine z_iconst F dX1_readTerm_33 ?_
      refine z_icmp_lt (tgt := 39) F dX1_readTerm_34 (by decide) (zr_t _) ⟨by decide, by decide⟩ (fun c_24 => ?_) (fun c_24 => ?_)
      · refine lv_aload_n F.1 F.2.1 dX1_readTerm_39 rfl (lv_at hl 2 rfl) ?_
        refine g_getR (ci := 1) (k := 0) F hH rfl (by decide) iX1 hp.1 (by decide) rfl (b := gh 22 0) (gR_pr0 hv hp.1).1 k12 dX1_readTerm_40 ?_
        obtain ⟨r_25a, r_25b⟩ := gR_tk2 hv (gR_pr0 hv hp.1).2
        refine g_getR (ci := 5) (k := 2) F hH rfl (by decide) iX5 (gR_pr0 hv hp.1).2 (by decide) rfl (b := gh 26 0) r_25a k71 dX1_readTerm_43 ?_
        refine lv_aload_n F.1 F.2.1 dX1_readTerm_46 rfl (lv_at hl 2 rfl) ?_
        refine g_getI (ci := 1) (k := 3) F hH rfl (by decide) iX1 hp.1 (by decide) rfl k44 dX1_readTerm_47 ?_
        have b_26h := hp.2.2.2.2.2.2.2
        have b_26 := gI_pr hv hp.1
        have b_26t := gI_tk hv (gR_pr0 hv hp.1).2
        have hx50 : 0 ≤ ((I a 3).toInt) ∧ ((I a 3).toInt) < ((901 : Nat) : Int) ∧ ((I a 3).toInt) ≤ 2147483647 := ⟨by omega, by omega, by omega⟩
        refine g_iald F hH r_25b hx50.1 hx50.2.1 hx50.2.2 dX1_readTerm_50 ?_
        refine z_name (fun v_27 ev_27 => ?_)
        have zv_27 : zr v_27 := by rw [ev_27]; exact zr_t _
        have t50 : v_27 = pV b n (h) := by rw [ev_27]; exact pH_V hP
        refine lv_istore (lv' := [(4, .int (iI v_27)), (3, .int (iI v_19)), (2, .int (iI v_7)), (0, .ref a), (1, .int (iI cols))]) F.1 F.2.1 dX1_readTerm_51 hl (by decide) rfl (fun ls hl => ?_)
        refine lv_aload_n F.1 F.2.1 dX1_readTerm_53 rfl (lv_at hl 3 rfl) ?_
        have hv0 := hv
        refine g_callv (g_runV (As := []) (rest := []) (ci := 1) F hl.1 hH hS hz (c_X1_stepf l g gh q b n tl nr nt cl h I R J AI AJ AR a hv hp.1 (by first | exact hp.2.2.2.2.2.2.2 | exact hh | omega) hP (by first | exact hp.2.2.1 | exact hq) (by omega)) (cwV 0 F.2.2.2.2.1 gX1_readTerm_X1_step rfl rfl rfl hdX1_step ⟨Nat.le_of_ble_eq_true rfl, Nat.le_of_ble_eq_true rfl⟩) hp.1 (by decide) rfl rfl rfl (Nat.le_of_ble_eq_true rfl) dX1_readTerm_54 ⟨Nat.zero_le _, Nat.zero_le _⟩) hS (fun I_28 R_29 J_30 AI_31 AJ_32 AR_33 H locs hp_34 hH hS => ?_)
        dsimp only at hp_34
        obtain ⟨rfl, rfl, rfl, rfl, rfl, hv, fs, hs, hP⟩ := hp_34
        have hP : pH gh AR I_28 J AI AJ a q b n tl nr nt cl (h + 1) := hP
        obtain ⟨hp, pfq, fls⟩ := pS_step hv0 hp fs hs
        have pf := pF_t pf pfq
        have u_35q : (I_28 q 1).toInt = (I q 1).toInt := by rw [pF_q hp pfq]
        have u_35_0 : (I_28 ln 0).toInt = (I ln 0).toInt := by rw [fls]
        have u_35_8 : (I_28 ln 8).toInt = (I ln 8).toInt := by rw [fls]
        have u_36 : (I_28 ln 2).toInt = (I ln 2).toInt := by rw [fls]
        have u_37 : (I_28 ln 5).toInt = (I ln 5).toInt := by rw [fls]
        have u_38 : (I_28 ln 6).toInt = (I ln 6).toInt := by rw [fls]
        have u_39 : (I_28 ln 9).toInt = (I ln 9).toInt := by rw [fls]
        have u_40 : (I_28 ln 10).toInt = (I ln 10).toInt := by rw [fls]
        refine lv_iload_n F.1 F.2.1 dX1_readTerm_57 rfl (lv_at hl 2 rfl) ?_
        refine z_if_eq (tgt := 73) F dX1_readTerm_58 (by decide) zv_7 (fun c_41 => ?_) (fun c_41 => ?_)
        · have t_42 := tIz_0 q_10 (by omega)
          refine lv_aload_n F.1 F.2.1 dX1_readTerm_73 rfl (lv_at hl 3 rfl) ?_
          refine g_getR (ci := 1) (k := 0) F hH rfl (by decide) iX1 hp.1 (by decide) rfl (b := gh 22 0) (gR_pr0 hv hp.1).1 k12 dX1_readTerm_74 ?_
          obtain ⟨r_43a, r_43b⟩ := gR_tk0 hv (gR_pr0 hv hp.1).2
          refine g_getR (ci := 5) (k := 0) F hH rfl (by decide) iX5 (gR_pr0 hv hp.1).2 (by decide) rfl (b := gh 24 0) r_43a k47 dX1_readTerm_77 ?_
          refine lv_aload_n F.1 F.2.1 dX1_readTerm_80 rfl (lv_at hl 3 rfl) ?_
          refine g_getI (ci := 1) (k := 3) F hH rfl (by decide) iX1 hp.1 (by decide) rfl k44 dX1_readTerm_81 ?_
          have b_44h := hp.2.2.2.2.2.2.2
          have b_44 := gI_pr hv hp.1
          have b_44t := gI_tk hv (gR_pr0 hv hp.1).2
          have hx84 : 0 ≤ ((I_28 a 3).toInt) ∧ ((I_28 a 3).toInt) < ((901 : Nat) : Int) ∧ ((I_28 a 3).toInt) ≤ 2147483647 := ⟨by omega, by omega, by omega⟩
          refine g_iald F hH r_43b hx84.1 hx84.2.1 hx84.2.2 dX1_readTerm_84 ?_
          refine z_name (fun v_45 ev_45 => ?_)
          have zv_45 : zr v_45 := by rw [ev_45]; exact zr_t _
          have t84 : v_45 = pK b n (h + 1) := by rw [ev_45]; exact pH_K hP
          refine lv_istore (lv' := [(5, .int (iI v_45)), (4, .int (iI v_27)), (3, .int (iI v_19)), (2, .int (iI v_7)), (0, .ref a), (1, .int (iI cols))]) F.1 F.2.1 dX1_readTerm_85 hl (by decide) rfl (fun ls hl => ?_)
          refine lv_iload F.1 F.2.1 dX1_readTerm_87 (lv_at hl 0 rfl) ?_
          refine z_bipush F dX1_readTerm_89 (by decide) ?_
          refine z_icmp_eq (tgt := 113) F dX1_readTerm_91 (by decide) zv_45 ⟨by decide, by decide⟩ (fun c_46 => ?_) (fun c_46 => ?_)
          · refine lv_aload_n F.1 F.2.1 dX1_readTerm_113 rfl (lv_at hl 4 rfl) ?_
            have hv0 := hv
            refine g_callv (g_runV (As := []) (rest := []) (ci := 1) F hl.1 hH hS hz (c_X1_stepf l g gh q b n tl nr nt cl (h + 1) I_28 R J AI AJ AR a hv hp.1 (by first | exact hp.2.2.2.2.2.2.2 | exact hh | omega) hP (by first | exact hp.2.2.1 | exact hq) (by omega)) (cwV 0 F.2.2.2.2.1 gX1_readTerm_X1_step rfl rfl rfl hdX1_step ⟨Nat.le_of_ble_eq_true rfl, Nat.le_of_ble_eq_true rfl⟩) hp.1 (by decide) rfl rfl rfl (Nat.le_of_ble_eq_true rfl) dX1_readTerm_114 ⟨Nat.zero_le _, Nat.zero_le _⟩) hS (fun I_47 R_48 J_49 AI_50 AJ_51 AR_52 H locs hp_53 hH hS => ?_)
            dsimp only at hp_53
            obtain ⟨rfl, rfl, rfl, rfl, rfl, hv, fs, hs, hP⟩ := hp_53
            have hP : pH gh AR I_47 J AI AJ a q b n tl nr nt cl (h + 2) := hP
            obtain ⟨hp, pfq, fls⟩ := pS_step hv0 hp fs hs
            have pf := pF_t pf pfq
            have u_54q : (I_47 q 1).toInt = (I_28 q 1).toInt := by rw [pF_q hp pfq]
            have u_54_0 : (I_47 ln 0).toInt = (I_28 ln 0).toInt := by rw [fls]
            have u_54_8 : (I_47 ln 8).toInt = (I_28 ln 8).toInt := by rw [fls]
            have u_55 : (I_47 ln 2).toInt = (I_28 ln 2).toInt := by rw [fls]
            have u_56 : (I_47 ln 5).toInt = (I_28 ln 5).toInt := by rw [fls]
            have u_57 : (I_47 ln 6).toInt = (I_28 ln 6).toInt := by rw [fls]
            have u_58 : (I_47 ln 9).toInt = (I_28 ln 9).toInt := by rw [fls]
            have u_59 : (I_47 ln 10).toInt = (I_28 ln 10).toInt := by rw [fls]
            refine lv_aload_n F.1 F.2.1 dX1_readTerm_117 rfl (lv_at hl 4 rfl) ?_
            refine z_iconst F dX1_readTerm_118 ?_
            refine g_calli (g_runV (As := [.int (iI 4)]) (rest := []) (ci := 1) F hl.1 hH hS hz (c_X1_isKindf l g gh q b n tl nr nt cl (h + 2) I_47 R J AI AJ AR a 4 ⟨by decide, by decide⟩ hv hp.1 (by first | exact hp.2.2.2.2.2.2.2 | exact hh | omega) hP) (cwV 1 F.2.2.2.2.1 gX1_readTerm_X1_isKind rfl rfl rfl hdX1_isKind ⟨Nat.le_of_ble_eq_true rfl, Nat.le_of_ble_eq_true rfl⟩) hp.1 (by decide) rfl rfl rfl (Nat.le_of_ble_eq_true rfl) dX1_readTerm_119 ⟨Nat.zero_le _, Nat.zero_le _⟩) hS (fun v_66 I_60 R_61 J_62 AI_63 AJ_64 AR_65 H locs zv_66 hp_67 hH hS => ?_)
            dsimp only at hp_67
            obtain ⟨rfl, rfl, rfl, rfl, rfl, rfl, q_68, q_69⟩ := hp_67
            refine z_if_ne (tgt := 127) F dX1_readTerm_122 (by decide) zv_66 (fun c_70 => ?_) (fun c_70 => ?_)
            · have t_71 := tIz_1 q_69 (by omega)
              refine lv_aload_n F.1 F.2.1 dX1_readTerm_127 rfl (lv_at hl 4 rfl) ?_
              refine g_getR (ci := 1) (k := 2) F hH rfl (by decide) iX1 hp.1 (by decide) rfl (b := ln) hp.2.2.2.1 k29 dX1_readTerm_128 ?_
              refine lv_iload F.1 F.2.1 dX1_readTerm_131 (lv_at hl 1 rfl) ?_
              refine lv_iload F.1 F.2.1 dX1_readTerm_133 (lv_at hl 0 rfl) ?_
              refine z_bipush F dX1_readTerm_135 (by decide) ?_
              refine z_icmp_ne (tgt := 155) F dX1_readTerm_137 (by decide) zv_45 ⟨by decide, by decide⟩ (fun c_72 => ?_) (fun c_72 => ?_)
              · exact absurd trivial (by omega)
              · refine lv_aload_n F.1 F.2.1 dX1_readTerm_140 rfl (lv_at hl 4 rfl) ?_
                refine g_getR (ci := 1) (k := 0) F hH rfl (by decide) iX1 hp.1 (by decide) rfl (b := gh 22 0) (gR_pr0 hv hp.1).1 k12 dX1_readTerm_141 ?_
                refine g_getR (ci := 5) (k := 2) F hH rfl (by decide) iX5 (gR_pr0 hv hp.1).2 (by decide) rfl (b := gh 26 0) r_25a k71 dX1_readTerm_144 ?_
                refine lv_aload_n F.1 F.2.1 dX1_readTerm_147 rfl (lv_at hl 4 rfl) ?_
                refine g_getI (ci := 1) (k := 3) F hH rfl (by decide) iX1 hp.1 (by decide) rfl k44 dX1_readTerm_148 ?_
                have b_73h := hp.2.2.2.2.2.2.2
                have b_73 := gI_pr hv hp.1
                have b_73t := gI_tk hv (gR_pr0 hv hp.1).2
                have hx151 : 0 ≤ ((I_47 a 3).toInt) ∧ ((I_47 a 3).toInt) < ((901 : Nat) : Int) ∧ ((I_47 a 3).toInt) ≤ 2147483647 := ⟨by omega, by omega, by omega⟩
                refine g_iald F hH r_25b hx151.1 hx151.2.1 hx151.2.2 dX1_readTerm_151 ?_
                refine z_name (fun v_74 ev_74 => ?_)
                have zv_74 : zr v_74 := by rw [ev_74]; exact zr_t _
                have t151 : v_74 = pV b n (h + 2) := by rw [ev_74]; exact pH_V hP
                refine z_goto (tgt := 168) F dX1_readTerm_152 (by decide) ?_
                have hp0 := hp
                have hv0 := hv
                have b_75 := gI_line hv hp.2.2.2.2.1
                unfold vLineI at b_75
                refine g_callv (g_runV (As := [.int (iI v_27), .int (iI v_74)]) (rest := []) (ci := 0) F hl.1 hH hS hz (c_X0_addTwof l g gh I_47 R J AI AJ AR ln v_27 v_74 zv_27 zv_74 hv hp.2.2.2.2.1 (by omega) (by omega) (by omega) (fun h => by omega)) (cwV 2 F.2.2.2.2.1 gX1_readTerm_X0_addTwo rfl rfl rfl hdX0_addTwo ⟨Nat.le_of_ble_eq_true rfl, Nat.le_of_ble_eq_true rfl⟩) hp.2.2.2.2.1 (by decide) rfl rfl rfl (Nat.le_of_ble_eq_true rfl) dX1_readTerm_168 ⟨Nat.zero_le _, Nat.zero_le _⟩) hS (fun I_76 R_77 J_78 AI_79 AJ_80 AR_81 H locs hp_82 hH hS => ?_)
                dsimp only at hp_82
                obtain ⟨rfl, rfl, rfl, rfl, hv, fI, fA, f0, f8, fk, fz, fw⟩ := hp_82
                have hp := pS_ln hv0 hp fI
                have pf := pF_t pf (pF_o fI f0)
                have u_83q : (I_76 q 1).toInt = (I_47 q 1).toInt := by rw [fI q (gO_ne hp.2.2.1 hp.2.2.2.2.1 (by decide))]
                have u_83_0 : (I_76 ln 0).toInt = (I_47 ln 0).toInt := by rw [f0]
                have hP := pH_ai hv hp.1 hp.2.2.2.2.1 (pH_ln hv0 hp0 hP fI) fA
                have u_84 : (I_76 ln 2).toInt = (I_47 ln 2).toInt := by rw [fk 2 (by decide)]
                have u_85 : (I_76 ln 5).toInt = (I_47 ln 5).toInt := by rw [fk 5 (by decide)]
                have u_86 : (I_76 ln 6).toInt = (I_47 ln 6).toInt := by rw [fk 6 (by decide)]
                have u_87 : (I_76 ln 9).toInt = (I_47 ln 9).toInt := by rw [fk 9 (by decide)]
                have u_88 : (I_76 ln 10).toInt = (I_47 ln 10).toInt := by rw [fk 10 (by decide)]
                have hP : pH gh AR I_76 J AI_79 AJ a q b n tl nr nt cl (h + 2) := hP
                refine lv_aload_n F.1 F.2.1 dX1_readTerm_171 rfl (lv_at hl 4 rfl) ?_
                have hv0 := hv
                refine g_callv (g_runV (As := []) (rest := []) (ci := 1) F hl.1 hH hS hz (c_X1_stepf l g gh q b n tl nr nt cl (h + 2) I_76 R J AI_79 AJ AR a hv hp.1 (by first | exact hp.2.2.2.2.2.2.2 | exact hh | omega) hP (by first | exact hp.2.2.1 | exact hq) (by omega)) (cwV 0 F.2.2.2.2.1 gX1_readTerm_X1_step rfl rfl rfl hdX1_step ⟨Nat.le_of_ble_eq_true rfl, Nat.le_of_ble_eq_true rfl⟩) hp.1 (by decide) rfl rfl rfl (Nat.le_of_ble_eq_true rfl) dX1_readTerm_172 ⟨Nat.zero_le _, Nat.zero_le _⟩) hS (fun I_89 R_90 J_91 AI_92 AJ_93 AR_94 H locs hp_95 hH hS => ?_)
                dsimp only at hp_95
                obtain ⟨rfl, rfl, rfl, rfl, rfl, hv, fs, hs, hP⟩ := hp_95
                have hP : pH gh AR I_89 J AI_79 AJ a q b n tl nr nt cl (h + 3) := hP
                obtain ⟨hp, pfq, fls⟩ := pS_step hv0 hp fs hs
                have pf := pF_t pf pfq
                have u_96q : (I_89 q 1).toInt = (I_76 q 1).toInt := by rw [pF_q hp pfq]
                have u_96_0 : (I_89 ln 0).toInt = (I_76 ln 0).toInt := by rw [fls]
                have u_96_8 : (I_89 ln 8).toInt = (I_76 ln 8).toInt := by rw [fls]
                have u_97 : (I_89 ln 2).toInt = (I_76 ln 2).toInt := by rw [fls]
                have u_98 : (I_89 ln 5).toInt = (I_76 ln 5).toInt := by rw [fls]
                have u_99 : (I_89 ln 6).toInt = (I_76 ln 6).toInt := by rw [fls]
                have u_100 : (I_89 ln 9).toInt = (I_76 ln 9).toInt := by rw [fls]
                have u_101 : (I_89 ln 10).toInt = (I_76 ln 10).toInt := by rw [fls]
                refine z_iconst F dX1_readTerm_175 ?_
                have hfin : sTerm b n cols k8 h = (0, h + 3, 0) := by
                  unfold sTerm
                  repeat (first | with_reducible rfl | refine ite_y (by omega) ?_ | refine ite_n (by omega) ?_ | exact pr_e (by omega) (by omega) (by omega))
                exact g_iret F hr hlk hH hS hz ⟨by decide, by decide⟩ ⟨rfl, rfl, rfl, rfl, hv, hp, pf, by first | omega | rfl | (dsimp only; omega), by (try dsimp only); rw [hfin]; first | done | omega | rfl, by (try dsimp only); rw [hfin]; exact hP, by (try dsimp only); omega, by (try dsimp only); first | exact pIm_n (by omega) | (rw [hfin]; (try dsimp only); exact pIm_y (by first | omega | rfl)) | exact pIm_y (by omega)⟩ dX1_readTerm_176
            · have t_102 := tIz_0 q_69 (by omega)
              refine z_iconst F dX1_readTerm_125 ?_
              have hfin : sTerm b n cols k8 h = (1, h + 2, 0) := by
                unfold sTerm
                repeat (first | with_reducible rfl | refine ite_y (by omega) ?_ | refine ite_n (by omega) ?_ | exact pr_e (by omega) (by omega) (by omega))
              exact g_iret F hr hlk hH hS hz ⟨by decide, by decide⟩ ⟨rfl, rfl, rfl, rfl, hv, hp, pf, by first | omega | rfl | (dsimp only; omega), by (try dsimp only); rw [hfin]; first | done | omega | rfl, by (try dsimp only); rw [hfin]; exact hP, by (try dsimp only); omega, by (try dsimp only); first | exact pIm_n (by omega) | (rw [hfin]; (try dsimp only); exact pIm_y (by first | omega | rfl)) | exact pIm_y (by omega)⟩ dX1_readTerm_126
          · refine lv_iload F.1 F.2.1 dX1_readTerm_94 (lv_at hl 0 rfl) ?_
            refine z_bipush F dX1_readTerm_96 (by decide) ?_
            refine z_icmp_eq (tgt := 113) F dX1_readTerm_98 (by decide) zv_45 ⟨by decide, by decide⟩ (fun c_103 => ?_) (fun c_103 => ?_)
            · refine lv_aload_n F.1 F.2.1 dX1_readTerm_113 rfl (lv_at hl 4 rfl) ?_
              have hv0 := hv
              refine g_callv (g_runV (As := []) (rest := []) (ci := 1) F hl.1 hH hS hz (c_X1_stepf l g gh q b n tl nr nt cl (h + 1) I_28 R J AI AJ AR a hv hp.1 (by first | exact hp.2.2.2.2.2.2.2 | exact hh | omega) hP (by first | exact hp.2.2.1 | exact hq) (by omega)) (cwV 0 F.2.2.2.2.1 gX1_readTerm_X1_step rfl rfl rfl hdX1_step ⟨Nat.le_of_ble_eq_true rfl, Nat.le_of_ble_eq_true rfl⟩) hp.1 (by decide) rfl rfl rfl (Nat.le_of_ble_eq_true rfl) dX1_readTerm_114 ⟨Nat.zero_le _, Nat.zero_le _⟩) hS (fun I_104 R_105 J_106 AI_107 AJ_108 AR_109 H locs hp_110 hH hS => ?_)
              dsimp only at hp_110
              obtain ⟨rfl, rfl, rfl, rfl, rfl, hv, fs, hs, hP⟩ := hp_110
              have hP : pH gh AR I_104 J AI AJ a q b n tl nr nt cl (h + 2) := hP
              obtain ⟨hp, pfq, fls⟩ := pS_step hv0 hp fs hs
              have pf := pF_t pf pfq
              have u_111q : (I_104 q 1).toInt = (I_28 q 1).toInt := by rw [pF_q hp pfq]
              have u_111_0 : (I_104 ln 0).toInt = (I_28 ln 0).toInt := by rw [fls]
              have u_111_8 : (I_104 ln 8).toInt = (I_28 ln 8).toInt := by rw [fls]
              have u_112 : (I_104 ln 2).toInt = (I_28 ln 2).toInt := by rw [fls]
              have u_113 : (I_104 ln 5).toInt = (I_28 ln 5).toInt := by rw [fls]
              have u_114 : (I_104 ln 6).toInt = (I_28 ln 6).toInt := by rw [fls]
              have u_115 : (I_104 ln 9).toInt = (I_28 ln 9).toInt := by rw [fls]
              have u_116 : (I_104 ln 10).toInt = (I_28 ln 10).toInt := by rw [fls]
              refine lv_aload_n F.1 F.2.1 dX1_readTerm_117 rfl (lv_at hl 4 rfl) ?_
              refine z_iconst F dX1_readTerm_118 ?_
              refine g_calli (g_runV (As := [.int (iI 4)]) (rest := []) (ci := 1) F hl.1 hH hS hz (c_X1_isKindf l g gh q b n tl nr nt cl (h + 2) I_104 R J AI AJ AR a 4 ⟨by decide, by decide⟩ hv hp.1 (by first | exact hp.2.2.2.2.2.2.2 | exact hh | omega) hP) (cwV 1 F.2.2.2.2.1 gX1_readTerm_X1_isKind rfl rfl rfl hdX1_isKind ⟨Nat.le_of_ble_eq_true rfl, Nat.le_of_ble_eq_true rfl⟩) hp.1 (by decide) rfl rfl rfl (Nat.le_of_ble_eq_true rfl) dX1_readTerm_119 ⟨Nat.zero_le _, Nat.zero_le _⟩) hS (fun v_123 I_117 R_118 J_119 AI_120 AJ_121 AR_122 H locs zv_123 hp_124 hH hS => ?_)
              dsimp only at hp_124
              obtain ⟨rfl, rfl, rfl, rfl, rfl, rfl, q_125, q_126⟩ := hp_124
              refine z_if_ne (tgt := 127) F dX1_readTerm_122 (by decide) zv_123 (fun c_127 => ?_) (fun c_127 => ?_)
              · have t_128 := tIz_1 q_126 (by omega)
                refine lv_aload_n F.1 F.2.1 dX1_readTerm_127 rfl (lv_at hl 4 rfl) ?_
                refine g_getR (ci := 1) (k := 2) F hH rfl (by decide) iX1 hp.1 (by decide) rfl (b := ln) hp.2.2.2.1 k29 dX1_readTerm_128 ?_
                refine lv_iload F.1 F.2.1 dX1_readTerm_131 (lv_at hl 1 rfl) ?_
                refine lv_iload F.1 F.2.1 dX1_readTerm_133 (lv_at hl 0 rfl) ?_
                refine z_bipush F dX1_readTerm_135 (by decide) ?_
                refine z_icmp_ne (tgt := 155) F dX1_readTerm_137 (by decide) zv_45 ⟨by decide, by decide⟩ (fun c_129 => ?_) (fun c_129 => ?_)
                · refine lv_aload_n F.1 F.2.1 dX1_readTerm_155 rfl (lv_at hl 4 rfl) ?_
                  refine g_getR (ci := 1) (k := 0) F hH rfl (by decide) iX1 hp.1 (by decide) rfl (b := gh 22 0) (gR_pr0 hv hp.1).1 k12 dX1_readTerm_156 ?_
                  refine g_getR (ci := 5) (k := 2) F hH rfl (by decide) iX5 (gR_pr0 hv hp.1).2 (by decide) rfl (b := gh 26 0) r_25a k71 dX1_readTerm_159 ?_
                  refine lv_aload_n F.1 F.2.1 dX1_readTerm_162 rfl (lv_at hl 4 rfl) ?_
                  refine g_getI (ci := 1) (k := 3) F hH rfl (by decide) iX1 hp.1 (by decide) rfl k44 dX1_readTerm_163 ?_
                  have b_130h := hp.2.2.2.2.2.2.2
                  have b_130 := gI_pr hv hp.1
                  have b_130t := gI_tk hv (gR_pr0 hv hp.1).2
                  have hx166 : 0 ≤ ((I_104 a 3).toInt) ∧ ((I_104 a 3).toInt) < ((901 : Nat) : Int) ∧ ((I_104 a 3).toInt) ≤ 2147483647 := ⟨by omega, by omega, by omega⟩
                  refine g_iald F hH r_25b hx166.1 hx166.2.1 hx166.2.2 dX1_readTerm_166 ?_
                  refine z_name (fun v_131 ev_131 => ?_)
                  have zv_131 : zr v_131 := by rw [ev_131]; exact zr_t _
                  have t166 : v_131 = pV b n (h + 2) := by rw [ev_131]; exact pH_V hP
                  refine z_ineg F dX1_readTerm_167 ?_
                  refine z_norm (fun v_132 zv_132 ev_132 => ?_)
                  have hp0 := hp
                  have hv0 := hv
                  have b_133 := gI_line hv hp.2.2.2.2.1
                  unfold vLineI at b_133
                  refine g_callv (g_runV (As := [.int (iI v_27), .int (iI v_132)]) (rest := []) (ci := 0) F hl.1 hH hS hz (c_X0_addTwof l g gh I_104 R J AI AJ AR ln v_27 v_132 zv_27 zv_132 hv hp.2.2.2.2.1 (by omega) (by omega) (by omega) (fun h => by omega)) (cwV 2 F.2.2.2.2.1 gX1_readTerm_X0_addTwo rfl rfl rfl hdX0_addTwo ⟨Nat.le_of_ble_eq_true rfl, Nat.le_of_ble_eq_true rfl⟩) hp.2.2.2.2.1 (by decide) rfl rfl rfl (Nat.le_of_ble_eq_true rfl) dX1_readTerm_168 ⟨Nat.zero_le _, Nat.zero_le _⟩) hS (fun I_134 R_135 J_136 AI_137 AJ_138 AR_139 H locs hp_140 hH hS => ?_)
                  dsimp only at hp_140
                  obtain ⟨rfl, rfl, rfl, rfl, hv, fI, fA, f0, f8, fk, fz, fw⟩ := hp_140
                  have hp := pS_ln hv0 hp fI
                  have pf := pF_t pf (pF_o fI f0)
                  have u_141q : (I_134 q 1).toInt = (I_104 q 1).toInt := by rw [fI q (gO_ne hp.2.2.1 hp.2.2.2.2.1 (by decide))]
                  have u_141_0 : (I_134 ln 0).toInt = (I_104 ln 0).toInt := by rw [f0]
                  have hP := pH_ai hv hp.1 hp.2.2.2.2.1 (pH_ln hv0 hp0 hP fI) fA
                  have u_142 : (I_134 ln 2).toInt = (I_104 ln 2).toInt := by rw [fk 2 (by decide)]
                  have u_143 : (I_134 ln 5).toInt = (I_104 ln 5).toInt := by rw [fk 5 (by decide)]
                  have u_144 : (I_134 ln 6).toInt = (I_104 ln 6).toInt := by rw [fk 6 (by decide)]
                  have u_145 : (I_134 ln 9).toInt = (I_104 ln 9).toInt := by rw [fk 9 (by decide)]
                  have u_146 : (I_134 ln 10).toInt = (I_104 ln 10).toInt := by rw [fk 10 (by decide)]
                  have hP : pH gh AR I_134 J AI_137 AJ a q b n tl nr nt cl (h + 2) := hP
                  refine lv_aload_n F.1 F.2.1 dX1_readTerm_171 rfl (lv_at hl 4 rfl) ?_
                  have hv0 := hv
                  refine g_callv (g_runV (As := []) (rest := []) (ci := 1) F hl.1 hH hS hz (c_X1_stepf l g gh q b n tl nr nt cl (h + 2) I_134 R J AI_137 AJ AR a hv hp.1 (by first | exact hp.2.2.2.2.2.2.2 | exact hh | omega) hP (by first | exact hp.2.2.1 | exact hq) (by omega)) (cwV 0 F.2.2.2.2.1 gX1_readTerm_X1_step rfl rfl rfl hdX1_step ⟨Nat.le_of_ble_eq_true rfl, Nat.le_of_ble_eq_true rfl⟩) hp.1 (by decide) rfl rfl rfl (Nat.le_of_ble_eq_true rfl) dX1_readTerm_172 ⟨Nat.zero_le _, Nat.zero_le _⟩) hS (fun I_147 R_148 J_149 AI_150 AJ_151 AR_152 H locs hp_153 hH hS => ?_)
                  dsimp only at hp_153
                  obtain ⟨rfl, rfl, rfl, rfl, rfl, hv, fs, hs, hP⟩ := hp_153
                  have hP : pH gh AR I_147 J AI_137 AJ a q b n tl nr nt cl (h + 3) := hP
                  obtain ⟨hp, pfq, fls⟩ := pS_step hv0 hp fs hs
                  have pf := pF_t pf pfq
                  have u_154q : (I_147 q 1).toInt = (I_134 q 1).toInt := by rw [pF_q hp pfq]
                  have u_154_0 : (I_147 ln 0).toInt = (I_134 ln 0).toInt := by rw [fls]
                  have u_154_8 : (I_147 ln 8).toInt = (I_134 ln 8).toInt := by rw [fls]
                  have u_155 : (I_147 ln 2).toInt = (I_134 ln 2).toInt := by rw [fls]
                  have u_156 : (I_147 ln 5).toInt = (I_134 ln 5).toInt := by rw [fls]
                  have u_157 : (I_147 ln 6).toInt = (I_134 ln 6).toInt := by rw [fls]
                  have u_158 : (I_147 ln 9).toInt = (I_134 ln 9).toInt := by rw [fls]
                  have u_159 : (I_147 ln 10).toInt = (I_134 ln 10).toInt := by rw [fls]
                  refine z_iconst F dX1_readTerm_175 ?_
                  have hfin : sTerm b n cols k8 h = (0, h + 3, 0) := by
                    unfold sTerm
                    repeat (first | with_reducible rfl | refine ite_y (by omega) ?_ | refine ite_n (by omega) ?_ | exact pr_e (by omega) (by omega) (by omega))
                  exact g_iret F hr hlk hH hS hz ⟨by decide, by decide⟩ ⟨rfl, rfl, rfl, rfl, hv, hp, pf, by first | omega | rfl | (dsimp only; omega), by (try dsimp only); rw [hfin]; first | done | omega | rfl, by (try dsimp only); rw [hfin]; exact hP, by (try dsimp only); omega, by (try dsimp only); first | exact pIm_n (by omega) | (rw [hfin]; (try dsimp only); exact pIm_y (by first | omega | rfl)) | exact pIm_y (by omega)⟩ dX1_readTerm_176
                · exact absurd trivial (by omega)
              · have t_160 := tIz_0 q_126 (by omega)
                refine z_iconst F dX1_readTerm_125 ?_
                have hfin : sTerm b n cols k8 h = (1, h + 2, 0) := by
                  unfold sTerm
                  repeat (first | with_reducible rfl | refine ite_y (by omega) ?_ | refine ite_n (by omega) ?_ | exact pr_e (by omega) (by omega) (by omega))
                exact g_iret F hr hlk hH hS hz ⟨by decide, by decide⟩ ⟨rfl, rfl, rfl, rfl, hv, hp, pf, by first | omega | rfl | (dsimp only; omega), by (try dsimp only); rw [hfin]; first | done | omega | rfl, by (try dsimp only); rw [hfin]; exact hP, by (try dsimp only); omega, by (try dsimp only); first | exact pIm_n (by omega) | (rw [hfin]; (try dsimp only); exact pIm_y (by first | omega | rfl)) | exact pIm_y (by omega)⟩ dX1_readTerm_126
            · refine lv_aload_n F.1 F.2.1 dX1_readTerm_101 rfl (lv_at hl 4 rfl) ?_
              refine g_getR (ci := 1) (k := 2) F hH rfl (by decide) iX1 hp.1 (by decide) rfl (b := ln) hp.2.2.2.1 k29 dX1_readTerm_102 ?_
              refine lv_iload F.1 F.2.1 dX1_readTerm_105 (lv_at hl 1 rfl) ?_
              refine z_iconst F dX1_readTerm_107 ?_
              have hp0 := hp
              have hv0 := hv
              have b_161 := gI_line hv hp.2.2.2.2.1
              unfold vLineI at b_161
              refine g_callv (g_runV (As := [.int (iI v_27), .int (iI 0)]) (rest := []) (ci := 0) F hl.1 hH hS hz (c_X0_addTwof l g gh I_28 R J AI AJ AR ln v_27 0 zv_27 ⟨by decide, by decide⟩ hv hp.2.2.2.2.1 (by omega) (by omega) (by omega) (fun h => by omega)) (cwV 2 F.2.2.2.2.1 gX1_readTerm_X0_addTwo rfl rfl rfl hdX0_addTwo ⟨Nat.le_of_ble_eq_true rfl, Nat.le_of_ble_eq_true rfl⟩) hp.2.2.2.2.1 (by decide) rfl rfl rfl (Nat.le_of_ble_eq_true rfl) dX1_readTerm_108 ⟨Nat.zero_le _, Nat.zero_le _⟩) hS (fun I_162 R_163 J_164 AI_165 AJ_166 AR_167 H locs hp_168 hH hS => ?_)
              dsimp only at hp_168
              obtain ⟨rfl, rfl, rfl, rfl, hv, fI, fA, f0, f8, fk, fz, fw⟩ := hp_168
              have hp := pS_ln hv0 hp fI
              have pf := pF_t pf (pF_o fI f0)
              have u_169q : (I_162 q 1).toInt = (I_28 q 1).toInt := by rw [fI q (gO_ne hp.2.2.1 hp.2.2.2.2.1 (by decide))]
              have u_169_0 : (I_162 ln 0).toInt = (I_28 ln 0).toInt := by rw [f0]
              have hP := pH_ai hv hp.1 hp.2.2.2.2.1 (pH_ln hv0 hp0 hP fI) fA
              have u_170 : (I_162 ln 2).toInt = (I_28 ln 2).toInt := by rw [fk 2 (by decide)]
              have u_171 : (I_162 ln 5).toInt = (I_28 ln 5).toInt := by rw [fk 5 (by decide)]
              have u_172 : (I_162 ln 6).toInt = (I_28 ln 6).toInt := by rw [fk 6 (by decide)]
              have u_173 : (I_162 ln 9).toInt = (I_28 ln 9).toInt := by rw [fk 9 (by decide)]
              have u_174 : (I_162 ln 10).toInt = (I_28 ln 10).toInt := by rw [fk 10 (by decide)]
              have hP : pH gh AR I_162 J AI_165 AJ a q b n tl nr nt cl (h + 1) := hP
              refine z_iconst F dX1_readTerm_111 ?_
              have hfin : sTerm b n cols k8 h = (0, h + 1, 0) := by
                unfold sTerm
                repeat (first | with_reducible rfl | refine ite_y (by omega) ?_ | refine ite_n (by omega) ?_ | exact pr_e (by omega) (by omega) (by omega))
              exact g_iret F hr hlk hH hS hz ⟨by decide, by decide⟩ ⟨rfl, rfl, rfl, rfl, hv, hp, pf, by first | omega | rfl | (dsimp only; omega), by (try dsimp only); rw [hfin]; first | done | omega | rfl, by (try dsimp only); rw [hfin]; exact hP, by (try dsimp only); omega, by (try dsimp only); first | exact pIm_n (by omega) | (rw [hfin]; (try dsimp only); exact pIm_y (by first | omega | rfl)) | exact pIm_y (by omega)⟩ dX1_readTerm_112
        · exact absurd trivial (by omega)
      · refine z_iconst F dX1_readTerm_37 ?_
        have hfin : sTerm b n cols k8 h = (4, h, 0) := by
          unfold sTerm
          repeat (first | with_reducible rfl | refine ite_y (by omega) ?_ | refine ite_n (by omega) ?_ | exact pr_e (by omega) (by omega) (by omega))
        exact g_iret F hr hlk hH hS hz ⟨by decide, by decide⟩ ⟨rfl, rfl, rfl, rfl, hv, hp, pf, by first | omega | rfl | (dsimp only; omega), by (try dsimp only); rw [hfin]; first | done | omega | rfl, by (try dsimp only); rw [hfin]; exact hP, by (try dsimp only); omega, by (try dsimp only); first | exact pIm_n (by omega) | (rw [hfin]; (try dsimp only); exact pIm_y (by first | omega | rfl)) | exact pIm_y (by omega)⟩ dX1_readTerm_38
    · refine lv_iload_n F.1 F.2.1 dX1_readTerm_24 rfl (lv_at hl 0 rfl) ?_
      have hfin : sTerm b n cols k8 h = (v_19, h, 0) := by
        unfold sTerm
        repeat (first | with_reducible rfl | refine ite_y (by omega) ?_ | refine ite_n (by omega) ?_ | exact pr_e (by omega) (by omega) (by omega))
      exact g_iret F hr hlk hH hS hz zv_19 ⟨rfl, rfl, rfl, rfl, hv, hp, pf, by first | omega | rfl | (dsimp only; omega), by (try dsimp only); rw [hfin]; first | done | omega | rfl, by (try dsimp only); rw [hfin]; exact hP, by (try dsimp only); omega, by (try dsimp only); first | exact pIm_n (by omega) | (rw [hfin]; (try dsimp only); exact pIm_y (by first | omega | rfl)) | exact pIm_y (by omega)⟩ dX1_readTerm_25
  · have t_175 := tIz_1 q_10 (by omega)
    refine z_iconst F dX1_readTerm_10 ?_
    refine z_goto (tgt := 19) F dX1_readTerm_11 (by decide) ?_
    refine lv_istore_n (lv' := [(3, .int (iI 0)), (2, .int (iI v_7)), (0, .ref a), (1, .int (iI cols))]) F.1 F.2.1 dX1_readTerm_19 rfl hl (by decide) rfl (fun ls hl => ?_)
    refine lv_iload_n F.1 F.2.1 dX1_readTerm_20 rfl (lv_at hl 0 rfl) ?_
    refine z_if_eq (tgt := 26) F dX1_readTerm_21 (by decide) ⟨by decide, by decide⟩ (fun c_176 => ?_) (fun c_176 => ?_)
    · refine lv_aload_n F.1 F.2.1 dX1_readTerm_26 rfl (lv_at hl 2 rfl) ?_
      refine g_getR (ci := 1) (k := 2) F hH rfl (by decide) iX1 hp.1 (by decide) rfl (b := ln) hp.2.2.2.1 k29 dX1_readTerm_27 ?_
      refine g_getI (ci := 0) (k := 8) F hH rfl (by decide) iX0 hp.2.2.2.2.1 (by decide) rfl k149 dX1_readTerm_30 ?_
      have b_177 := gI_line hv hp.2.2.2.2.1
      unfold vLineI at b_177
      refine z_iconst F dX1_readTerm_33 ?_
      refine z_icmp_lt (tgt := 39) F dX1_readTerm_34 (by decide) (zr_t _) ⟨by decide, by decide⟩ (fun c_178 => ?_) (fun c_178 => ?_)
      · refine lv_aload_n F.1 F.2.1 dX1_readTerm_39 rfl (lv_at hl 2 rfl) ?_
        refine g_getR (ci := 1) (k := 0) F hH rfl (by decide) iX1 hp.1 (by decide) rfl (b := gh 22 0) (gR_pr0 hv hp.1).1 k12 dX1_readTerm_40 ?_
        obtain ⟨r_179a, r_179b⟩ := gR_tk2 hv (gR_pr0 hv hp.1).2
        refine g_getR (ci := 5) (k := 2) F hH rfl (by decide) iX5 (gR_pr0 hv hp.1).2 (by decide) rfl (b := gh 26 0) r_179a k71 dX1_readTerm_43 ?_
        refine lv_aload_n F.1 F.2.1 dX1_readTerm_46 rfl (lv_at hl 2 rfl) ?_
        refine g_getI (ci := 1) (k := 3) F hH rfl (by decide) iX1 hp.1 (by decide) rfl k44 dX1_readTerm_47 ?_
        have b_180h := hp.2.2.2.2.2.2.2
        have b_180 := gI_pr hv hp.1
        have b_180t := gI_tk hv (gR_pr0 hv hp.1).2
        have hx50 : 0 ≤ ((I a 3).toInt) ∧ ((I a 3).toInt) < ((901 : Nat) : Int) ∧ ((I a 3).toInt) ≤ 2147483647 := ⟨by omega, by omega, by omega⟩
        refine g_iald F hH r_179b hx50.1 hx50.2.1 hx50.2.2 dX1_readTerm_50 ?_
        refine z_name (fun v_181 ev_181 => ?_)
        have zv_181 : zr v_181 := by rw [ev_181]; exact zr_t _
        have t50 : v_181 = pV b n (h) := by rw [ev_181]; exact pH_V hP
        refine lv_istore (lv' := [(4, .int (iI v_181)), (3, .int (iI 0)), (2, .int (iI v_7)), (0, .ref a), (1, .int (iI cols))]) F.1 F.2.1 dX1_readTerm_51 hl (by decide) rfl (fun ls hl => ?_)
        refine lv_aload_n F.1 F.2.1 dX1_readTerm_53 rfl (lv_at hl 3 rfl) ?_
        have hv0 := hv
        refine g_callv (g_runV (As := []) (rest := []) (ci := 1) F hl.1 hH hS hz (c_X1_stepf l g gh q b n tl nr nt cl h I R J AI AJ AR a hv hp.1 (by first | exact hp.2.2.2.2.2.2.2 | exact hh | omega) hP (by first | exact hp.2.2.1 | exact hq) (by omega)) (cwV 0 F.2.2.2.2.1 gX1_readTerm_X1_step rfl rfl rfl hdX1_step ⟨Nat.le_of_ble_eq_true rfl, Nat.le_of_ble_eq_true rfl⟩) hp.1 (by decide) rfl rfl rfl (Nat.le_of_ble_eq_true rfl) dX1_readTerm_54 ⟨Nat.zero_le _, Nat.zero_le _⟩) hS (fun I_182 R_183 J_184 AI_185 AJ_186 AR_187 H locs hp_188 hH hS => ?_)
        dsimp only at hp_188
        obtain ⟨rfl, rfl, rfl, rfl, rfl, hv, fs, hs, hP⟩ := hp_188
        have hP : pH gh AR I_182 J AI AJ a q b n tl nr nt cl (h + 1) := hP
        obtain ⟨hp, pfq, fls⟩ := pS_step hv0 hp fs hs
        have pf := pF_t pf pfq
        have u_189q : (I_182 q 1).toInt = (I q 1).toInt := by rw [pF_q hp pfq]
        have u_189_0 : (I_182 ln 0).toInt = (I ln 0).toInt := by rw [fls]
        have u_189_8 : (I_182 ln 8).toInt = (I ln 8).toInt := by rw [fls]
        have u_190 : (I_182 ln 2).toInt = (I ln 2).toInt := by rw [fls]
        have u_191 : (I_182 ln 5).toInt = (I ln 5).toInt := by rw [fls]
        have u_192 : (I_182 ln 6).toInt = (I ln 6).toInt := by rw [fls]
        have u_193 : (I_182 ln 9).toInt = (I ln 9).toInt := by rw [fls]
        have u_194 : (I_182 ln 10).toInt = (I ln 10).toInt := by rw [fls]
        refine lv_iload_n F.1 F.2.1 dX1_readTerm_57 rfl (lv_at hl 2 rfl) ?_
        refine z_if_eq (tgt := 73) F dX1_readTerm_58 (by decide) zv_7 (fun c_195 => ?_) (fun c_195 => ?_)
        · exact absurd trivial (by omega)
        · have t_196 := tIz_1 q_10 (by omega)
          refine lv_aload_n F.1 F.2.1 dX1_readTerm_61 rfl (lv_at hl 3 rfl) ?_
          refine g_getR (ci := 1) (k := 2) F hH rfl (by decide) iX1 hp.1 (by decide) rfl (b := ln) hp.2.2.2.1 k29 dX1_readTerm_62 ?_
          refine z_iconst F dX1_readTerm_65 ?_
          refine lv_iload F.1 F.2.1 dX1_readTerm_66 (lv_at hl 0 rfl) ?_
          have hp0 := hp
          have hv0 := hv
          have b_197 := gI_line hv hp.2.2.2.2.1
          unfold vLineI at b_197
          refine g_callv (g_runV (As := [.int (iI ((-1))), .int (iI v_181)]) (rest := []) (ci := 0) F hl.1 hH hS hz (c_X0_addTwof l g gh I_182 R J AI AJ AR ln (-1) v_181 ⟨by decide, by decide⟩ zv_181 hv hp.2.2.2.2.1 (by omega) (by omega) (by omega) (fun h => by omega)) (cwV 2 F.2.2.2.2.1 gX1_readTerm_X0_addTwo rfl rfl rfl hdX0_addTwo ⟨Nat.le_of_ble_eq_true rfl, Nat.le_of_ble_eq_true rfl⟩) hp.2.2.2.2.1 (by decide) rfl rfl rfl (Nat.le_of_ble_eq_true rfl) dX1_readTerm_68 ⟨Nat.zero_le _, Nat.zero_le _⟩) hS (fun I_198 R_199 J_200 AI_201 AJ_202 AR_203 H locs hp_204 hH hS => ?_)
          dsimp only at hp_204
          obtain ⟨rfl, rfl, rfl, rfl, hv, fI, fA, f0, f8, fk, fz, fw⟩ := hp_204
          have hp := pS_ln hv0 hp fI
          have pf := pF_t pf (pF_o fI f0)
          have u_205q : (I_198 q 1).toInt = (I_182 q 1).toInt := by rw [fI q (gO_ne hp.2.2.1 hp.2.2.2.2.1 (by decide))]
          have u_205_0 : (I_198 ln 0).toInt = (I_182 ln 0).toInt := by rw [f0]
          have hP := pH_ai hv hp.1 hp.2.2.2.2.1 (pH_ln hv0 hp0 hP fI) fA
          have u_206 : (I_198 ln 2).toInt = (I_182 ln 2).toInt := by rw [fk 2 (by decide)]
          have u_207 : (I_198 ln 5).toInt = (I_182 ln 5).toInt := by rw [fk 5 (by decide)]
          have u_208 : (I_198 ln 6).toInt = (I_182 ln 6).toInt := by rw [fk 6 (by decide)]
          have u_209 : (I_198 ln 9).toInt = (I_182 ln 9).toInt := by rw [fk 9 (by decide)]
          have u_210 : (I_198 ln 10).toInt = (I_182 ln 10).toInt := by rw [fk 10 (by decide)]
          have hP : pH gh AR I_198 J AI_201 AJ a q b n tl nr nt cl (h + 1) := hP
          refine z_iconst F dX1_readTerm_71 ?_
          have hfin : sTerm b n cols k8 h = (0, h + 1, 0) := by
            unfold sTerm
            repeat (first | with_reducible rfl | refine ite_y (by omega) ?_ | refine ite_n (by omega) ?_ | exact pr_e (by omega) (by omega) (by omega))
          exact g_iret F hr hlk hH hS hz ⟨by decide, by decide⟩ ⟨rfl, rfl, rfl, rfl, hv, hp, pf, by first | omega | rfl | (dsimp only; omega), by (try dsimp only); rw [hfin]; first | done | omega | rfl, by (try dsimp only); rw [hfin]; exact hP, by (try dsimp only); omega, by (try dsimp only); first | exact pIm_n (by omega) | (rw [hfin]; (try dsimp only); exact pIm_y (by first | omega | rfl)) | exact pIm_y (by omega)⟩ dX1_readTerm_72
      · refine z_iconst F dX1_readTerm_37 ?_
        have hfin : sTerm b n cols k8 h = (4, h, 0) := by
          unfold sTerm
          repeat (first | with_reducible rfl | refine ite_y (by omega) ?_ | refine ite_n (by omega) ?_ | exact pr_e (by omega) (by omega) (by omega))
        exact g_iret F hr hlk hH hS hz ⟨by decide, by decide⟩ ⟨rfl, rfl, rfl, rfl, hv, hp, pf, by first | omega | rfl | (dsimp only; omega), by (try dsimp only); rw [hfin]; first | done | omega | rfl, by (try dsimp only); rw [hfin]; exact hP, by (try dsimp only); omega, by (try dsimp only); first | exact pIm_n (by omega) | (rw [hfin]; (try dsimp only); exact pIm_y (by first | omega | rfl)) | exact pIm_y (by omega)⟩ dX1_readTerm_38
    · exact absurd trivial (by omega)

def rmX1_readTermsf : Room := { frames := 3, cells := 0, slots := 0, locals := 67 }
set_option maxHeartbeats 4000000 in
set_option maxRecDepth 100000 in
/-- the terms -/
theorem c_X1_readTermsf (l : Launch) (g : gG) (gh : gGh) (q ln : Nat) (b : tTx) (n : Nat) (tl : Int) (nr : Nat) (nt : Nat → Nat) (cl : Nat → Int) (h : Nat) (I : gI) (R : gR) (J : gJ) (AI : gI) (AJ : gJ) (AR : gR) (a : Nat) (cols : Int) (zcols : zr cols) (hv : gInv g gh R AR I AI) (hp : pS g gh R I a q ln) (hk : (I ln 0).toInt = 2 ∨ (I ln 0).toInt = 8) (hP : pH gh AR I J AI AJ a q b n tl nr nt cl h) (hk8 : (I ln 8).toInt = 0) : gMet l g yX1_readTerms wsX1_readTerms rmX1_readTermsf [.ref a, .int (iI cols)] (I, R, J, AI, AJ, AR) (gQi g (fun (z : Int) (w : gS) => R = w.2.1 ∧ J = w.2.2.1 ∧ AJ = w.2.2.2.2.1 ∧ AR = w.2.2.2.2.2 ∧ (gInv g gh R AR (w.1) (w.2.2.2.1)) ∧ (pS g gh R (w.1) a q ln) ∧ (pF a ln I (w.1)) ∧ (0 ≤ z ∧ z ≤ 4) ∧ (z = (sTerms b n cols 5 0 h).1) ∧ (pH gh AR (w.1) J (w.2.2.2.1) AJ a q b n tl nr nt cl (sTerms b n cols 5 0 h).2.1) ∧ (((w.1) ln 5).toInt = (I ln 5).toInt ∧ ((w.1) ln 6).toInt = (I ln 6).toInt) ∧ (pIm z (((w.1) ln 8).toInt) ((sTerms b n cols 5 0 h).2.2)))) := by
  refine gStart (cc := cX1_readTerms) (maxL := 4) (ret := (some (.int))) (by decide) rfl (Nat.le_of_ble_eq_true rfl) ?_
  intro p e s m below meth c ls F hr hlk hH hz hS hl
  have hl : lv_has ls 4 [(0, .ref a), (1, .int (iI cols))] := hl
  have hS : va_S (gA g) s.heap s.heap [] := hS
  obtain ⟨H, hHe⟩ : ∃ H : Heap, H = s.heap := ⟨_, rfl⟩
  obtain ⟨locs, hlo⟩ : ∃ k : List Loc, k = [] := ⟨_, rfl⟩
  have hH : gH g I R J AI AJ AR H := by rw [hHe]; exact hH
  have hS : va_S (gA g) s.heap H locs := by rw [hHe, hlo]; exact hS
  suffices hw : W p l e rmX1_readTermsf s m ([.ref a, .int (iI cols)] : List Value).toArray below meth c H locs 0 0 (MQ below (gQi g (fun (z : Int) (w : gS) => R = w.2.1 ∧ J = w.2.2.1 ∧ AJ = w.2.2.2.2.1 ∧ AR = w.2.2.2.2.2 ∧ (gInv g gh R AR (w.1) (w.2.2.2.1)) ∧ (pS g gh R (w.1) a q ln) ∧ (pF a ln I (w.1)) ∧ (0 ≤ z ∧ z ≤ 4) ∧ (z = (sTerms b n cols 5 0 h).1) ∧ (pH gh AR (w.1) J (w.2.2.2.1) AJ a q b n tl nr nt cl (sTerms b n cols 5 0 h).2.1) ∧ (((w.1) ln 5).toInt = (I ln 5).toInt ∧ ((w.1) ln 6).toInt = (I ln 6).toInt) ∧ (pIm z (((w.1) ln 8).toInt) ((sTerms b n cols 5 0 h).2.2)))) ([.ref a, .int (iI cols)] : List Value).toArray s 0 0 (gA g)) (F0 m 0 ls []) by
    rw [hHe, hlo] at hw; exact hw
  clear hHe hlo
  have pf : pF a ln I I := pF_r
  refine z_iconst F dX1_readTerms_0 ?_
  refine lv_istore_n (lv' := [(2, .int (iI 0)), (0, .ref a), (1, .int (iI cols))]) F.1 F.2.1 dX1_readTerms_1 rfl hl (by decide) rfl (fun ls hl => ?_)
  have cut_2_2 : ∀ (NN : Nat) (i : Int) (I_1 : gI) (AI_2 : gI) (H : Heap) (locs : List Loc) (ls : Array Slot), zr i → (gInv g gh R AR I_1 AI_2) → (pS g gh R I_1 a q ln) → (pF a ln I I_1) → ((I_1 ln 0).toInt = 2 ∨ (I_1 ln 0).toInt = 8) → (0 ≤ i ∧ i ≤ 5) → (pH gh AR I_1 J AI_2 AJ a q b n tl nr nt cl (I_1 a 3).toInt.toNat) → (sTerms b n cols 5 0 h = sTerms b n cols (5 - i).toNat i (I_1 a 3).toInt.toNat) → ((I_1 ln 8).toInt = i ∧ (I_1 ln 5).toInt = (I ln 5).toInt ∧ (I_1 ln 6).toInt = (I ln 6).toInt) → (5 - i) < ((NN : Nat) : Int) → gH g I_1 R J AI_2 AJ AR H → va_S (gA g) s.heap H locs → lv_has ls 4 [(2, .int (iI i)), (0, .ref a), (1, .int (iI cols))] → W p l e rmX1_readTermsf s m ([.ref a, .int (iI cols)] : List Value).toArray below meth c H locs 0 0 (MQ below (gQi g (fun (z : Int) (w : gS) => R = w.2.1 ∧ J = w.2.2.1 ∧ AJ = w.2.2.2.2.1 ∧ AR = w.2.2.2.2.2 ∧ (gInv g gh R AR (w.1) (w.2.2.2.1)) ∧ (pS g gh R (w.1) a q ln) ∧ (pF a ln I (w.1)) ∧ (0 ≤ z ∧ z ≤ 4) ∧ (z = (sTerms b n cols 5 0 h).1) ∧ (pH gh AR (w.1) J (w.2.2.2.1) AJ a q b n tl nr nt cl (sTerms b n cols 5 0 h).2.1) ∧ (((w.1) ln 5).toInt = (I ln 5).toInt ∧ ((w.1) ln 6).toInt = (I ln 6).toInt) ∧ (pIm z (((w.1) ln 8).toInt) ((sTerms b n cols 5 0 h).2.2)))) ([.ref a, .int (iI cols)] : List Value).toArray s 0 0 (gA g)) (F0 m 2 ls []) := by
    intro NN2
    induction NN2 with
    | zero =>
      intro i I_1 AI_2 H locs ls zi hv hp pf hk hi hP hsq hk8l hm2 hH hS hl
      exact absurd hm2 (by omega)
    | succ NN2 ih2 =>
      intro i I_1 AI_2 H locs ls zi hv hp pf hk hi hP hsq hk8l hm2 hH hS hl
      obtain ⟨hc, ehc⟩ : ∃ x, x = (I_1 a 3).toInt.toNat := ⟨_, rfl⟩
      rw [← ehc] at hP hsq
      refine lv_iload_n F.1 F.2.1 dX1_readTerms_2 rfl (lv_at hl 0 rfl) ?_
      refine z_iconst F dX1_readTerms_3 ?_
      refine z_icmp_gt (tgt := 38) F dX1_readTerms_4 (by decide) zi ⟨by decide, by decide⟩ (fun c_4 => ?_) (fun c_4 => ?_)
      · refine z_iconst F dX1_readTerms_38 ?_
        have hfin : sTerms b n cols 5 0 h = (4, hc, 0) := sTerms_z hsq (by omega)
        exact g_iret F hr hlk hH hS hz ⟨by decide, by decide⟩ ⟨rfl, rfl, rfl, rfl, hv, hp, pf, by first | omega | rfl | (dsimp only; omega), by (try dsimp only); rw [hfin]; first | done | omega | rfl, by (try dsimp only); rw [hfin]; exact hP, by (try dsimp only); omega, by (try dsimp only); first | exact pIm_n (by omega) | (rw [hfin]; (try dsimp only); exact pIm_y (by first | omega | rfl)) | exact pIm_y (by omega)⟩ dX1_readTerms_39
      · refine lv_aload_n F.1 F.2.1 dX1_readTerms_7 rfl (lv_at hl 1 rfl) ?_
        refine lv_iload_n F.1 F.2.1 dX1_readTerms_8 rfl (lv_at hl 2 rfl) ?_
        refine g_calli (g_runV (As := [.int (iI cols)]) (rest := []) (ci := 1) F hl.1 hH hS hz (c_X1_readTermf l g gh q ln i b n tl nr nt cl hc I_1 R J AI_2 AJ AR a cols zcols hv hp (by omega) hP (by omega)) (cwV 1 F.2.2.2.2.1 gX1_readTerms_X1_readTerm rfl rfl rfl hdX1_readTerm ⟨Nat.le_of_ble_eq_true rfl, Nat.le_of_ble_eq_true rfl⟩) hp.1 (by decide) rfl rfl rfl (Nat.le_of_ble_eq_true rfl) dX1_readTerms_9 ⟨Nat.zero_le _, Nat.zero_le _⟩) hS (fun v_11 I_5 R_6 J_7 AI_8 AJ_9 AR_10 H locs zv_11 hp_12 hH hS => ?_)
        dsimp only at hp_12
        obtain ⟨r_13, er_13⟩ : ∃ qQ : pR, qQ = sTerm b n cols i hc := ⟨_, rfl⟩
        rw [← er_13] at hp_12
        obtain ⟨rfl, rfl, rfl, rfl, hv, hp, pfq, q_14, q_15, hP, q_16, q_17⟩ := hp_12
        have pf := pF_t pf pfq
        have u_18q : (I_5 q 1).toInt = (I_1 q 1).toInt := by rw [pF_q hp pfq]
        have u_18_0 : (I_5 ln 0).toInt = (I_1 ln 0).toInt := by rw [pfq.2]
        refine lv_istore_n (lv' := [(3, .int (iI v_11)), (2, .int (iI i)), (0, .ref a), (1, .int (iI cols))]) F.1 F.2.1 dX1_readTerms_12 rfl hl (by decide) rfl (fun ls hl => ?_)
        refine lv_iload_n F.1 F.2.1 dX1_readTerms_13 rfl (lv_at hl 0 rfl) ?_
        refine z_if_ne (tgt := 26) F dX1_readTerms_14 (by decide) zv_11 (fun c_19 => ?_) (fun c_19 => ?_)
        · refine lv_iload_n F.1 F.2.1 dX1_readTerms_26 rfl (lv_at hl 0 rfl) ?_
          have hfin : sTerms b n cols 5 0 h = r_13 := sTerms_no hsq (f := (4 - i).toNat) (by omega) er_13 (by omega)
          exact g_iret F hr hlk hH hS hz zv_11 ⟨rfl, rfl, rfl, rfl, hv, hp, pf, by first | omega | rfl | (dsimp only; omega), by (try dsimp only); rw [hfin]; first | done | omega | rfl, by (try dsimp only); rw [hfin]; exact hP, by (try dsimp only); omega, by (try dsimp only); first | exact pIm_n (by omega) | (rw [hfin]; (try dsimp only); exact pIm_y (by first | omega | rfl)) | exact pIm_y (by omega) | (rw [hfin]; (try dsimp only); exact fun h9 => by have q9 := q_17 h9; (try dsimp only at q9); omega)⟩ dX1_readTerms_27
        · have t_20 := q_17 (by omega)
          refine lv_aload_n F.1 F.2.1 dX1_readTerms_17 rfl (lv_at hl 2 rfl) ?_
          refine z_bipush F dX1_readTerms_18 (by decide) ?_
          refine g_calli (g_runV (As := [.int (iI 44)]) (rest := []) (ci := 1) F hl.1 hH hS hz (c_X1_isKindf l g gh q b n tl nr nt cl r_13.2.1 I_5 R J AI_8 AJ AR a 44 ⟨by decide, by decide⟩ hv hp.1 (by first | exact hp.2.2.2.2.2.2.2 | exact hh | omega) hP) (cwV 1 F.2.2.2.2.1 gX1_readTerms_X1_isKind rfl rfl rfl hdX1_isKind ⟨Nat.le_of_ble_eq_true rfl, Nat.le_of_ble_eq_true rfl⟩) hp.1 (by decide) rfl rfl rfl (Nat.le_of_ble_eq_true rfl) dX1_readTerms_20 ⟨Nat.zero_le _, Nat.zero_le _⟩) hS (fun v_27 I_21 R_22 J_23 AI_24 AJ_25 AR_26 H locs zv_27 hp_28 hH hS => ?_)
          dsimp only at hp_28
          obtain ⟨rfl, rfl, rfl, rfl, rfl, rfl, q_29, q_30⟩ := hp_28
          refine z_if_ne (tgt := 28) F dX1_readTerms_23 (by decide) zv_27 (fun c_31 => ?_) (fun c_31 => ?_)
          · have t_32 := tIz_1 q_30 (by omega)
            refine lv_aload_n F.1 F.2.1 dX1_readTerms_28 rfl (lv_at hl 2 rfl) ?_
            have hv0 := hv
            refine g_callv (g_runV (As := []) (rest := []) (ci := 1) F hl.1 hH hS hz (c_X1_stepf l g gh q b n tl nr nt cl r_13.2.1 I_5 R J AI_8 AJ AR a hv hp.1 (by first | exact hp.2.2.2.2.2.2.2 | exact hh | omega) hP (by first | exact hp.2.2.1 | exact hq) (by omega)) (cwV 0 F.2.2.2.2.1 gX1_readTerms_X1_step rfl rfl rfl hdX1_step ⟨Nat.le_of_ble_eq_true rfl, Nat.le_of_ble_eq_true rfl⟩) hp.1 (by decide) rfl rfl rfl (Nat.le_of_ble_eq_true rfl) dX1_readTerms_29 ⟨Nat.zero_le _, Nat.zero_le _⟩) hS (fun I_33 R_34 J_35 AI_36 AJ_37 AR_38 H locs hp_39 hH hS => ?_)
            dsimp only at hp_39
            obtain ⟨rfl, rfl, rfl, rfl, rfl, hv, fs, hs, hP⟩ := hp_39
            have hP : pH gh AR I_33 J AI_8 AJ a q b n tl nr nt cl (r_13.2.1 + 1) := hP
            obtain ⟨hp, pfq, fls⟩ := pS_step hv0 hp fs hs
            have pf := pF_t pf pfq
            have u_40q : (I_33 q 1).toInt = (I_5 q 1).toInt := by rw [pF_q hp pfq]
            have u_40_0 : (I_33 ln 0).toInt = (I_5 ln 0).toInt := by rw [fls]
            have u_40_8 : (I_33 ln 8).toInt = (I_5 ln 8).toInt := by rw [fls]
            have u_41 : (I_33 ln 2).toInt = (I_5 ln 2).toInt := by rw [fls]
            have u_42 : (I_33 ln 5).toInt = (I_5 ln 5).toInt := by rw [fls]
            have u_43 : (I_33 ln 6).toInt = (I_5 ln 6).toInt := by rw [fls]
            have u_44 : (I_33 ln 9).toInt = (I_5 ln 9).toInt := by rw [fls]
            have u_45 : (I_33 ln 10).toInt = (I_5 ln 10).toInt := by rw [fls]
            have hsq := sTerms_go hsq (f := (4 - i).toNat) (by omega) er_13 (by omega) (by omega)
            refine z_iinc (lv' := [(2, .int (iI (i + 1))), (3, .int (iI v_11)), (0, .ref a), (1, .int (iI cols))]) F dX1_readTerms_32 hl (k := 1) rfl (by decide) rfl (fun ls hl => ?_)
            refine z_goto (tgt := 2) F dX1_readTerms_35 (by decide) ?_
            exact ih2 (i + 1) I_33 AI_8 H locs ls ⟨by omega, by omega⟩ hv hp pf (by omega) (by omega) (by rw [pH_n hP]; exact hP) (by rw [pH_n hP, show (5 - (i + 1)).toNat = (4 - i).toNat by omega]; exact hsq) (by omega) (by omega) hH hS (lv_sub hl [0, 2, 3] rfl)
          · have t_46 := tIz_0 q_30 (by omega)
            refine lv_iload_n F.1 F.2.1 dX1_readTerms_26 rfl (lv_at hl 0 rfl) ?_
            have hfin : sTerms b n cols 5 0 h = (0, r_13.2.1, i + 1) := sTerms_st hsq (f := (4 - i).toNat) (by omega) er_13 (by omega) (by omega)
            exact g_iret F hr hlk hH hS hz zv_11 ⟨rfl, rfl, rfl, rfl, hv, hp, pf, by first | omega | rfl | (dsimp only; omega), by (try dsimp only); rw [hfin]; first | done | omega | rfl, by (try dsimp only); rw [hfin]; exact hP, by (try dsimp only); omega, by (try dsimp only); first | exact pIm_n (by omega) | (rw [hfin]; (try dsimp only); exact pIm_y (by first | omega | rfl)) | exact pIm_y (by omega) | (rw [hfin]; (try dsimp only); exact fun h9 => by have q9 := q_17 h9; (try dsimp only at q9); omega)⟩ dX1_readTerms_27
  exact cut_2_2 (((5 - 0) + 1 : Int).toNat) 0 I AI H locs ls ⟨by decide, by decide⟩ hv hp pf (by omega) (by omega) (by rw [pH_n hP]; exact hP) (by rw [pH_n hP]; rfl) (by omega) (by omega) hH hS (lv_sub hl [0, 1, 2] rfl)

def rmX1_readPairf : Room := { frames := 2, cells := 0, slots := 0, locals := 42 }
set_option maxHeartbeats 4000000 in
set_option maxRecDepth 100000 in
/-- a pair -/
theorem c_X1_readPairf (l : Launch) (g : gG) (gh : gGh) (q ln : Nat) (c5 c6 k8 : Int) (b : tTx) (n : Nat) (tl : Int) (nr : Nat) (nt : Nat → Nat) (cl : Nat → Int) (h : Nat) (I : gI) (R : gR) (J : gJ) (AI : gI) (AJ : gJ) (AR : gR) (a : Nat) (lim : Int) (zlim : zr lim) (hv : gInv g gh R AR I AI) (hp : pS g gh R I a q ln) (hP : pH gh AR I J AI AJ a q b n tl nr nt cl h) (hc5 : (I ln 5).toInt = c5) (hc6 : (I ln 6).toInt = c6) (hk8 : (I ln 8).toInt = k8) : gMet l g yX1_readPair wsX1_readPair rmX1_readPairf [.ref a, .int (iI lim)] (I, R, J, AI, AJ, AR) (gQi g (fun (z : Int) (w : gS) => R = w.2.1 ∧ J = w.2.2.1 ∧ AI = w.2.2.2.1 ∧ AJ = w.2.2.2.2.1 ∧ AR = w.2.2.2.2.2 ∧ (gInv g gh R AR (w.1) AI) ∧ (pS g gh R (w.1) a q ln) ∧ (pF a ln I (w.1)) ∧ (((w.1) ln 8).toInt = (I ln 8).toInt) ∧ (z = 0 → (I ln 8).toInt < lim) ∧ (0 ≤ z ∧ z ≤ 4) ∧ (z = (sPair b n c5 c6 k8 lim h).1) ∧ (pH gh AR (w.1) J AI AJ a q b n tl nr nt cl (sPair b n c5 c6 k8 lim h).2.1) ∧ (((w.1) ln 5).toInt = (I ln 5).toInt ∧ ((w.1) ln 6).toInt = (I ln 6).toInt) ∧ (pIm z (((w.1) ln 10).toInt) ((sPair b n c5 c6 k8 lim h).2.2)))) := by
  refine gStart (cc := cX1_readPair) (maxL := 3) (ret := (some (.int))) (by decide) rfl (Nat.le_of_ble_eq_true rfl) ?_
  intro p e s m below meth c ls F hr hlk hH hz hS hl
  have hl : lv_has ls 3 [(0, .ref a), (1, .int (iI lim))] := hl
  have hS : va_S (gA g) s.heap s.heap [] := hS
  obtain ⟨H, hHe⟩ : ∃ H : Heap, H = s.heap := ⟨_, rfl⟩
  obtain ⟨locs, hlo⟩ : ∃ k : List Loc, k = [] := ⟨_, rfl⟩
  have hH : gH g I R J AI AJ AR H := by rw [hHe]; exact hH
  have hS : va_S (gA g) s.heap H locs := by rw [hHe, hlo]; exact hS
  suffices hw : W p l e rmX1_readPairf s m ([.ref a, .int (iI lim)] : List Value).toArray below meth c H locs 0 0 (MQ below (gQi g (fun (z : Int) (w : gS) => R = w.2.1 ∧ J = w.2.2.1 ∧ AI = w.2.2.2.1 ∧ AJ = w.2.2.2.2.1 ∧ AR = w.2.2.2.2.2 ∧ (gInv g gh R AR (w.1) AI) ∧ (pS g gh R (w.1) a q ln) ∧ (pF a ln I (w.1)) ∧ (((w.1) ln 8).toInt = (I ln 8).toInt) ∧ (z = 0 → (I ln 8).toInt < lim) ∧ (0 ≤ z ∧ z ≤ 4) ∧ (z = (sPair b n c5 c6 k8 lim h).1) ∧ (pH gh AR (w.1) J AI AJ a q b n tl nr nt cl (sPair b n c5 c6 k8 lim h).2.1) ∧ (((w.1) ln 5).toInt = (I ln 5).toInt ∧ ((w.1) ln 6).toInt = (I ln 6).toInt) ∧ (pIm z (((w.1) ln 10).toInt) ((sPair b n c5 c6 k8 lim h).2.2)))) ([.ref a, .int (iI lim)] : List Value).toArray s 0 0 (gA g)) (F0 m 0 ls []) by
    rw [hHe, hlo] at hw; exact hw
  clear hHe hlo
  have pf : pF a ln I I := pF_r
  have iX5 : ∀ w ∈ u_ws RX5 TX5 5, w ∈ wsX1_readPair := (by decide +kernel)
  have iX1 : ∀ w ∈ u_ws RX1 TX1 4, w ∈ wsX1_readPair := (by decide +kernel)
  have iX0 : ∀ w ∈ u_ws RX0 TX0 15, w ∈ wsX1_readPair := (by decide +kernel)
  have k29 : Cond.fieldLink RX1 29 (TX1 2).1 (TX1 2).2.1 (TX1 2).2.2.1 ∈ wsX1_readPair := List.mem_of_getElem? (i := 1) rfl
  have k143 : Cond.fieldLink RX1 143 (TX0 5).1 (TX0 5).2.1 (TX0 5).2.2.1 ∈ wsX1_readPair := List.mem_of_getElem? (i := 2) rfl
  have k149 : Cond.fieldLink RX1 149 (TX0 8).1 (TX0 8).2.1 (TX0 8).2.2.1 ∈ wsX1_readPair := List.mem_of_getElem? (i := 3) rfl
  have k12 : Cond.fieldLink RX1 12 (TX1 0).1 (TX1 0).2.1 (TX1 0).2.2.1 ∈ wsX1_readPair := List.mem_of_getElem? (i := 4) rfl
  have k71 : Cond.fieldLink RX1 71 (TX5 2).1 (TX5 2).2.1 (TX5 2).2.2.1 ∈ wsX1_readPair := List.mem_of_getElem? (i := 5) rfl
  have k44 : Cond.fieldLink RX1 44 (TX1 3).1 (TX1 3).2.1 (TX1 3).2.2.1 ∈ wsX1_readPair := List.mem_of_getElem? (i := 6) rfl
  have k202 : Cond.fieldLink RX1 202 (TX0 9).1 (TX0 9).2.1 (TX0 9).2.2.1 ∈ wsX1_readPair := List.mem_of_getElem? (i := 7) rfl
  have k146 : Cond.fieldLink RX1 146 (TX0 6).1 (TX0 6).2.1 (TX0 6).2.2.1 ∈ wsX1_readPair := List.mem_of_getElem? (i := 8) rfl
  have k205 : Cond.fieldLink RX1 205 (TX0 10).1 (TX0 10).2.1 (TX0 10).2.2.1 ∈ wsX1_readPair := List.mem_of_getElem? (i := 9) rfl
  refine lv_aload_n F.1 F.2.1 dX1_readPair_0 rfl (lv_at hl 0 rfl) ?_
  refine lv_aload_n F.1 F.2.1 dX1_readPair_1 rfl (lv_at hl 0 rfl) ?_
  refine g_getR (ci := 1) (k := 2) F hH rfl (by decide) iX1 hp.1 (by decide) rfl (b := ln) hp.2.2.2.1 k29 dX1_readPair_2 ?_
  refine g_getI (ci := 0) (k := 5) F hH rfl (by decide) iX0 hp.2.2.2.2.1 (by decide) rfl k143 dX1_readPair_5 ?_
  have b_1 := gI_line hv hp.2.2.2.2.1
  unfold vLineI at b_1
  refine g_calli (g_runV (As := [.int (iI ((I ln 5).toInt))]) (rest := []) (ci := 1) F hl.1 hH hS hz (c_X1_seeColumnf l g gh q b n tl nr nt cl h I R J AI AJ AR a ((I ln 5).toInt) (zr_t _) hv hp.1 (by first | exact hp.2.2.2.2.2.2.2 | exact hh | omega) hP) (cwV 1 F.2.2.2.2.1 gX1_readPair_X1_seeColumn rfl rfl rfl hdX1_seeColumn ⟨Nat.le_of_ble_eq_true rfl, Nat.le_of_ble_eq_true rfl⟩) hp.1 (by decide) rfl rfl rfl (Nat.le_of_ble_eq_true rfl) dX1_readPair_8 ⟨Nat.zero_le _, Nat.zero_le _⟩) hS (fun v_8 I_2 R_3 J_4 AI_5 AJ_6 AR_7 H locs zv_8 hp_9 hH hS => ?_)
  dsimp only at hp_9
  rw [show (I ln 5).toInt = c5 by omega] at hp_9
  obtain ⟨rfl, rfl, rfl, rfl, rfl, rfl, s1, s2, s3⟩ := hp_9
  refine lv_istore_n (lv' := [(2, .int (iI v_8)), (0, .ref a), (1, .int (iI lim))]) F.1 F.2.1 dX1_readPair_11 rfl hl (by decide) rfl (fun ls hl => ?_)
  refine lv_iload_n F.1 F.2.1 dX1_readPair_12 rfl (lv_at hl 0 rfl) ?_
  refine z_if_eq (tgt := 18) F dX1_readPair_13 (by decide) zv_8 (fun c_10 => ?_) (fun c_10 => ?_)
  · have t_11 := pCf_0 (b := b) (n := n) (c := c5) (h := h) (by omega)
    refine lv_aload_n F.1 F.2.1 dX1_readPair_18 rfl (lv_at hl 1 rfl) ?_
    refine g_getR (ci := 1) (k := 2) F hH rfl (by decide) iX1 hp.1 (by decide) rfl (b := ln) hp.2.2.2.1 k29 dX1_readPair_19 ?_
    refine g_getI (ci := 0) (k := 8) F hH rfl (by decide) iX0 hp.2.2.2.2.1 (by decide) rfl k149 dX1_readPair_22 ?_
    refine lv_iload_n F.1 F.2.1 dX1_readPair_25 rfl (lv_at hl 2 rfl) ?_
    refine z_icmp_lt (tgt := 31) F dX1_readPair_26 (by decide) (zr_t _) zlim (fun c_12 => ?_) (fun c_12 => ?_)
    · refine lv_aload_n F.1 F.2.1 dX1_readPair_31 rfl (lv_at hl 1 rfl) ?_
      refine g_getR (ci := 1) (k := 2) F hH rfl (by decide) iX1 hp.1 (by decide) rfl (b := ln) hp.2.2.2.1 k29 dX1_readPair_32 ?_
      refine lv_aload_n F.1 F.2.1 dX1_readPair_35 rfl (lv_at hl 1 rfl) ?_
      refine g_getR (ci := 1) (k := 0) F hH rfl (by decide) iX1 hp.1 (by decide) rfl (b := gh 22 0) (gR_pr0 hv hp.1).1 k12 dX1_readPair_36 ?_
      obtain ⟨r_13a, r_13b⟩ := gR_tk2 hv (gR_pr0 hv hp.1).2
      refine g_getR (ci := 5) (k := 2) F hH rfl (by decide) iX5 (gR_pr0 hv hp.1).2 (by decide) rfl (b := gh 26 0) r_13a k71 dX1_readPair_39 ?_
      refine lv_aload_n F.1 F.2.1 dX1_readPair_42 rfl (lv_at hl 1 rfl) ?_
      refine g_getI (ci := 1) (k := 3) F hH rfl (by decide) iX1 hp.1 (by decide) rfl k44 dX1_readPair_43 ?_
      have b_14h := hp.2.2.2.2.2.2.2
      have b_14 := gI_pr hv hp.1
      have b_14t := gI_tk hv (gR_pr0 hv hp.1).2
      have hx46 : 0 ≤ ((I a 3).toInt) ∧ ((I a 3).toInt) < ((901 : Nat) : Int) ∧ ((I a 3).toInt) ≤ 2147483647 := ⟨by omega, by omega, by omega⟩
      refine g_iald F hH r_13b hx46.1 hx46.2.1 hx46.2.2 dX1_readPair_46 ?_
      refine z_name (fun v_15 ev_15 => ?_)
      have zv_15 : zr v_15 := by rw [ev_15]; exact zr_t _
      have t46 : v_15 = pV b n (h) := by rw [ev_15]; exact pH_V hP
      refine g_putI (ci := 0) (k := 9) F hH hS rfl (by decide) iX0 hp.2.2.2.2.1 (by decide) tyX0 tyX0_ok nmX0 rfl rfl rfl k202 dX1_readPair_47 (fun H locs hH hS => ?_)
      obtain ⟨I_16, eI_16⟩ : ∃ qQ, qQ = gup2 I ln 9 (iI (v_15)) := ⟨_, rfl⟩
      rw [← eI_16] at hH
      have kI_16 : ∀ b, b ≠ ln → I_16 b = I b := fun b hb => by rw [eI_16]; exact funext fun j => gup2_a _ _ hb
      have hP := pH_ln hv hp hP kI_16
      have w_17 : (I_16 ln 9).toInt = v_15 := by rw [eI_16, gup2_s]; exact iI_val ⟨by omega, by omega⟩
      have hp2 : pS g gh R I_16 a q ln := pS_ln hv hp kI_16
      have hv : gInv g gh R AR I_16 AI := by rw [eI_16]; exact gInv_line9 hv hp.2.2.2.2.1 (by omega) (by omega)
      have hp := hp2
      have pf : pF a ln I I_16 := pF_t pf (by rw [eI_16]; exact pF_ln (by decide))
      have w_17_k : ∀ j, j ≠ 9 → I_16 ln j = I ln j := fun j hj => by rw [eI_16]; exact gup2_k _ _ hj
      have u_18q : (I_16 q 1).toInt = (I q 1).toInt := by rw [kI_16 q (gO_ne hp.2.2.1 hp.2.2.2.2.1 (by decide))]
      have u_18_0 : (I_16 ln 0).toInt = (I ln 0).toInt := by rw [w_17_k 0 (by decide)]
      have u_18_8 : (I_16 ln 8).toInt = (I ln 8).toInt := by rw [w_17_k 8 (by decide)]
      have u_19 : (I_16 ln 2).toInt = (I ln 2).toInt := by rw [w_17_k 2 (by decide)]
      have u_20 : (I_16 ln 5).toInt = (I ln 5).toInt := by rw [w_17_k 5 (by decide)]
      have u_21 : (I_16 ln 6).toInt = (I ln 6).toInt := by rw [w_17_k 6 (by decide)]
      have u_22 : (I_16 ln 10).toInt = (I ln 10).toInt := by rw [w_17_k 10 (by decide)]
      refine lv_aload_n F.1 F.2.1 dX1_readPair_50 rfl (lv_at hl 1 rfl) ?_
      have hv0 := hv
      refine g_callv (g_runV (As := []) (rest := []) (ci := 1) F hl.1 hH hS hz (c_X1_stepf l g gh q b n tl nr nt cl h I_16 R J AI AJ AR a hv hp.1 (by first | exact hp.2.2.2.2.2.2.2 | exact hh | omega) hP (by first | exact hp.2.2.1 | exact hq) (by omega)) (cwV 0 F.2.2.2.2.1 gX1_readPair_X1_step rfl rfl rfl hdX1_step ⟨Nat.le_of_ble_eq_true rfl, Nat.le_of_ble_eq_true rfl⟩) hp.1 (by decide) rfl rfl rfl (Nat.le_of_ble_eq_true rfl) dX1_readPair_51 ⟨Nat.zero_le _, Nat.zero_le _⟩) hS (fun I_23 R_24 J_25 AI_26 AJ_27 AR_28 H locs hp_29 hH hS => ?_)
      dsimp only at hp_29
      obtain ⟨rfl, rfl, rfl, rfl, rfl, hv, fs, hs, hP⟩ := hp_29
      have hP : pH gh AR I_23 J AI AJ a q b n tl nr nt cl (h + 1) := hP
      obtain ⟨hp, pfq, fls⟩ := pS_step hv0 hp fs hs
      have pf := pF_t pf pfq
      have u_30q : (I_23 q 1).toInt = (I_16 q 1).toInt := by rw [pF_q hp pfq]
      have u_30_0 : (I_23 ln 0).toInt = (I_16 ln 0).toInt := by rw [fls]
      have u_30_8 : (I_23 ln 8).toInt = (I_16 ln 8).toInt := by rw [fls]
      have u_31 : (I_23 ln 2).toInt = (I_16 ln 2).toInt := by rw [fls]
      have u_32 : (I_23 ln 5).toInt = (I_16 ln 5).toInt := by rw [fls]
      have u_33 : (I_23 ln 6).toInt = (I_16 ln 6).toInt := by rw [fls]
      have u_34 : (I_23 ln 9).toInt = (I_16 ln 9).toInt := by rw [fls]
      have u_35 : (I_23 ln 10).toInt = (I_16 ln 10).toInt := by rw [fls]
      refine lv_aload_n F.1 F.2.1 dX1_readPair_54 rfl (lv_at hl 1 rfl) ?_
      refine z_bipush F dX1_readPair_55 (by decide) ?_
      refine g_calli (g_runV (As := [.int (iI 61)]) (rest := []) (ci := 1) F hl.1 hH hS hz (c_X1_takeKindf l g gh q ln b n tl nr nt cl (h + 1) I_23 R J AI AJ AR a 61 ⟨by decide, by decide⟩ hv hp hP (by omega)) (cwV 1 F.2.2.2.2.1 gX1_readPair_X1_takeKind rfl rfl rfl hdX1_takeKind ⟨Nat.le_of_ble_eq_true rfl, Nat.le_of_ble_eq_true rfl⟩) hp.1 (by decide) rfl rfl rfl (Nat.le_of_ble_eq_true rfl) dX1_readPair_57 ⟨Nat.zero_le _, Nat.zero_le _⟩) hS (fun v_42 I_36 R_37 J_38 AI_39 AJ_40 AR_41 H locs zv_42 hp_43 hH hS => ?_)
      dsimp only at hp_43
      obtain ⟨r_44, er_44⟩ : ∃ qQ : pR, qQ = sTk b n 61 (h + 1) := ⟨_, rfl⟩
      rw [← er_44] at hp_43
      obtain ⟨rfl, rfl, rfl, rfl, rfl, hv, hp, pfq, flq, q_45, q_46, hP⟩ := hp_43
      have pf := pF_t pf pfq
      have u_47q : (I_36 q 1).toInt = (I_23 q 1).toInt := by rw [pF_q hp pfq]
      have u_47_0 : (I_36 ln 0).toInt = (I_23 ln 0).toInt := by rw [pfq.2]
      have u_47_8 : (I_36 ln 8).toInt = (I_23 ln 8).toInt := by rw [flq]
      have u_48 : (I_36 ln 2).toInt = (I_23 ln 2).toInt := by rw [flq]
      have u_49 : (I_36 ln 5).toInt = (I_23 ln 5).toInt := by rw [flq]
      have u_50 : (I_36 ln 6).toInt = (I_23 ln 6).toInt := by rw [flq]
      have u_51 : (I_36 ln 9).toInt = (I_23 ln 9).toInt := by rw [flq]
      have u_52 : (I_36 ln 10).toInt = (I_23 ln 10).toInt := by rw [flq]
      refine lv_istore_n (lv' := [(2, .int (iI v_42)), (0, .ref a), (1, .int (iI lim))]) F.1 F.2.1 dX1_readPair_60 rfl hl (by decide) rfl (fun ls hl => ?_)
      refine lv_iload_n F.1 F.2.1 dX1_readPair_61 rfl (lv_at hl 0 rfl) ?_
      refine z_if_ne (tgt := 77) F dX1_readPair_62 (by decide) zv_42 (fun c_53 => ?_) (fun c_53 => ?_)
      · refine lv_iload_n F.1 F.2.1 dX1_readPair_77 rfl (lv_at hl 0 rfl) ?_
        refine z_if_ne (tgt := 104) F dX1_readPair_78 (by decide) zv_42 (fun c_54 => ?_) (fun c_54 => ?_)
        · refine lv_iload_n F.1 F.2.1 dX1_readPair_104 rfl (lv_at hl 0 rfl) ?_
          have hfin : sPair b n c5 c6 k8 lim h = r_44 := by
            unfold sPair
            repeat (first | with_reducible rfl | refine ite_y (by omega) ?_ | refine ite_n (by omega) ?_ | exact er_44.symm | exact thn_x er_44 (by omega) | exact pr_e (by omega) (by omega) (by omega))
          exact g_iret F hr hlk hH hS hz zv_42 ⟨rfl, rfl, rfl, rfl, rfl, hv, hp, pf, by first | omega | rfl | (dsimp only; omega), fun _ => by omega, by first | omega | rfl | (dsimp only; omega), by (try dsimp only); rw [hfin]; first | done | omega | rfl, by (try dsimp only); rw [hfin]; exact hP, by (try dsimp only); omega, by (try dsimp only); first | exact pIm_n (by omega) | (rw [hfin]; (try dsimp only); exact pIm_y (by first | omega | rfl)) | exact pIm_y (by omega)⟩ dX1_readPair_105
        · exact absurd trivial (by omega)
      · refine lv_aload_n F.1 F.2.1 dX1_readPair_65 rfl (lv_at hl 1 rfl) ?_
        refine lv_aload_n F.1 F.2.1 dX1_readPair_66 rfl (lv_at hl 1 rfl) ?_
        refine g_getR (ci := 1) (k := 2) F hH rfl (by decide) iX1 hp.1 (by decide) rfl (b := ln) hp.2.2.2.1 k29 dX1_readPair_67 ?_
        refine g_getI (ci := 0) (k := 6) F hH rfl (by decide) iX0 hp.2.2.2.2.1 (by decide) rfl k146 dX1_readPair_70 ?_
        have b_55 := gI_line hv hp.2.2.2.2.1
        unfold vLineI at b_55
        refine g_calli (g_runV (As := [.int (iI ((I_36 ln 6).toInt))]) (rest := []) (ci := 1) F hl.1 hH hS hz (c_X1_seeColumnf l g gh q b n tl nr nt cl r_44.2.1 I_36 R J AI AJ AR a ((I_36 ln 6).toInt) (zr_t _) hv hp.1 (by first | exact hp.2.2.2.2.2.2.2 | exact hh | omega) hP) (cwV 1 F.2.2.2.2.1 gX1_readPair_X1_seeColumn rfl rfl rfl hdX1_seeColumn ⟨Nat.le_of_ble_eq_true rfl, Nat.le_of_ble_eq_true rfl⟩) hp.1 (by decide) rfl rfl rfl (Nat.le_of_ble_eq_true rfl) dX1_readPair_73 ⟨Nat.zero_le _, Nat.zero_le _⟩) hS (fun v_62 I_56 R_57 J_58 AI_59 AJ_60 AR_61 H locs zv_62 hp_63 hH hS => ?_)
        dsimp only at hp_63
        rw [show (I_36 ln 6).toInt = c6 by omega] at hp_63
        obtain ⟨rfl, rfl, rfl, rfl, rfl, rfl, t1, t2, t3⟩ := hp_63
        refine lv_istore_n (lv' := [(2, .int (iI v_62)), (0, .ref a), (1, .int (iI lim))]) F.1 F.2.1 dX1_readPair_76 rfl hl (by decide) rfl (fun ls hl => ?_)
        refine lv_iload_n F.1 F.2.1 dX1_readPair_77 rfl (lv_at hl 0 rfl) ?_
        refine z_if_ne (tgt := 104) F dX1_readPair_78 (by decide) zv_62 (fun c_64 => ?_) (fun c_64 => ?_)
        · refine lv_iload_n F.1 F.2.1 dX1_readPair_104 rfl (lv_at hl 0 rfl) ?_
          have hfin : sPair b n c5 c6 k8 lim h = (v_62, r_44.2.1, 0) := by
            unfold sPair
            repeat (first | with_reducible rfl | refine ite_y (by omega) ?_ | refine ite_n (by omega) ?_ | refine thn_y er_44 (by omega) ?_ | exact pr_e (by omega) (by omega) (by omega))
          exact g_iret F hr hlk hH hS hz zv_62 ⟨rfl, rfl, rfl, rfl, rfl, hv, hp, pf, by first | omega | rfl | (dsimp only; omega), fun _ => by omega, by first | omega | rfl | (dsimp only; omega), by (try dsimp only); rw [hfin]; first | done | omega | rfl, by (try dsimp only); rw [hfin]; exact hP, by (try dsimp only); omega, by (try dsimp only); first | exact pIm_n (by omega) | (rw [hfin]; (try dsimp only); exact pIm_y (by first | omega | rfl)) | exact pIm_y (by omega)⟩ dX1_readPair_105
        · have t_65 := pCf_0 (b := b) (n := n) (c := c6) (h := r_44.2.1) (by omega)
          refine lv_aload_n F.1 F.2.1 dX1_readPair_81 rfl (lv_at hl 1 rfl) ?_
          refine g_getR (ci := 1) (k := 2) F hH rfl (by decide) iX1 hp.1 (by decide) rfl (b := ln) hp.2.2.2.1 k29 dX1_readPair_82 ?_
          refine lv_aload_n F.1 F.2.1 dX1_readPair_85 rfl (lv_at hl 1 rfl) ?_
          refine g_getR (ci := 1) (k := 0) F hH rfl (by decide) iX1 hp.1 (by decide) rfl (b := gh 22 0) (gR_pr0 hv hp.1).1 k12 dX1_readPair_86 ?_
          refine g_getR (ci := 5) (k := 2) F hH rfl (by decide) iX5 (gR_pr0 hv hp.1).2 (by decide) rfl (b := gh 26 0) r_13a k71 dX1_readPair_89 ?_
          refine lv_aload_n F.1 F.2.1 dX1_readPair_92 rfl (lv_at hl 1 rfl) ?_
          refine g_getI (ci := 1) (k := 3) F hH rfl (by decide) iX1 hp.1 (by decide) rfl k44 dX1_readPair_93 ?_
          have b_66h := hp.2.2.2.2.2.2.2
          have b_66 := gI_pr hv hp.1
          have b_66t := gI_tk hv (gR_pr0 hv hp.1).2
          have hx96 : 0 ≤ ((I_36 a 3).toInt) ∧ ((I_36 a 3).toInt) < ((901 : Nat) : Int) ∧ ((I_36 a 3).toInt) ≤ 2147483647 := ⟨by omega, by omega, by omega⟩
          refine g_iald F hH r_13b hx96.1 hx96.2.1 hx96.2.2 dX1_readPair_96 ?_
          refine z_name (fun v_67 ev_67 => ?_)
          have zv_67 : zr v_67 := by rw [ev_67]; exact zr_t _
          have t96 : v_67 = pV b n (r_44.2.1) := by rw [ev_67]; exact pH_V hP
          refine g_putI (ci := 0) (k := 10) F hH hS rfl (by decide) iX0 hp.2.2.2.2.1 (by decide) tyX0 tyX0_ok nmX0 rfl rfl rfl k205 dX1_readPair_97 (fun H locs hH hS => ?_)
          obtain ⟨I_68, eI_68⟩ : ∃ qQ, qQ = gup2 I_36 ln 10 (iI (v_67)) := ⟨_, rfl⟩
          rw [← eI_68] at hH
          have kI_68 : ∀ b, b ≠ ln → I_68 b = I_36 b := fun b hb => by rw [eI_68]; exact funext fun j => gup2_a _ _ hb
          have hP := pH_ln hv hp hP kI_68
          have w_69 : (I_68 ln 10).toInt = v_67 := by rw [eI_68, gup2_s]; exact iI_val ⟨by omega, by omega⟩
          have hp2 : pS g gh R I_68 a q ln := pS_ln hv hp kI_68
          have hv : gInv g gh R AR I_68 AI := by rw [eI_68]; exact gInv_line10 hv hp.2.2.2.2.1 (by omega) (by omega)
          have hp := hp2
          have pf : pF a ln I I_68 := pF_t pf (by rw [eI_68]; exact pF_ln (by decide))
          have w_69_k : ∀ j, j ≠ 10 → I_68 ln j = I_36 ln j := fun j hj => by rw [eI_68]; exact gup2_k _ _ hj
          have u_70q : (I_68 q 1).toInt = (I_36 q 1).toInt := by rw [kI_68 q (gO_ne hp.2.2.1 hp.2.2.2.2.1 (by decide))]
          have u_70_0 : (I_68 ln 0).toInt = (I_36 ln 0).toInt := by rw [w_69_k 0 (by decide)]
          have u_70_8 : (I_68 ln 8).toInt = (I_36 ln 8).toInt := by rw [w_69_k 8 (by decide)]
          have u_71 : (I_68 ln 2).toInt = (I_36 ln 2).toInt := by rw [w_69_k 2 (by decide)]
          have u_72 : (I_68 ln 5).toInt = (I_36 ln 5).toInt := by rw [w_69_k 5 (by decide)]
          have u_73 : (I_68 ln 6).toInt = (I_36 ln 6).toInt := by rw [w_69_k 6 (by decide)]
          have u_74 : (I_68 ln 9).toInt = (I_36 ln 9).toInt := by rw [w_69_k 9 (by decide)]
          refine lv_aload_n F.1 F.2.1 dX1_readPair_100 rfl (lv_at hl 1 rfl) ?_
          have hv0 := hv
          refine g_callv (g_runV (As := []) (rest := []) (ci := 1) F hl.1 hH hS hz (c_X1_stepf l g gh q b n tl nr nt cl r_44.2.1 I_68 R J AI AJ AR a hv hp.1 (by first | exact hp.2.2.2.2.2.2.2 | exact hh | omega) hP (by first | exact hp.2.2.1 | exact hq) (by omega)) (cwV 0 F.2.2.2.2.1 gX1_readPair_X1_step rfl rfl rfl hdX1_step ⟨Nat.le_of_ble_eq_true rfl, Nat.le_of_ble_eq_true rfl⟩) hp.1 (by decide) rfl rfl rfl (Nat.le_of_ble_eq_true rfl) dX1_readPair_101 ⟨Nat.zero_le _, Nat.zero_le _⟩) hS (fun I_75 R_76 J_77 AI_78 AJ_79 AR_80 H locs hp_81 hH hS => ?_)
          dsimp only at hp_81
          obtain ⟨rfl, rfl, rfl, rfl, rfl, hv, fs, hs, hP⟩ := hp_81
          have hP : pH gh AR I_75 J AI AJ a q b n tl nr nt cl (r_44.2.1 + 1) := hP
          obtain ⟨hp, pfq, fls⟩ := pS_step hv0 hp fs hs
          have pf := pF_t pf pfq
          have u_82q : (I_75 q 1).toInt = (I_68 q 1).toInt := by rw [pF_q hp pfq]
          have u_82_0 : (I_75 ln 0).toInt = (I_68 ln 0).toInt := by rw [fls]
          have u_82_8 : (I_75 ln 8).toInt = (I_68 ln 8).toInt := by rw [fls]
          have u_83 : (I_75 ln 2).toInt = (I_68 ln 2).toInt := by rw [fls]
          have u_84 : (I_75 ln 5).toInt = (I_68 ln 5).toInt := by rw [fls]
          have u_85 : (I_75 ln 6).toInt = (I_68 ln 6).toInt := by rw [fls]
          have u_86 : (I_75 ln 9).toInt = (I_68 ln 9).toInt := by rw [fls]
          have u_87 : (I_75 ln 10).toInt = (I_68 ln 10).toInt := by rw [fls]
          refine lv_iload_n F.1 F.2.1 dX1_readPair_104 rfl (lv_at hl 0 rfl) ?_
          have hfin : sPair b n c5 c6 k8 lim h = (v_62, r_44.2.1 + 1, pV b n (r_44.2.1)) := by
            unfold sPair
            repeat (first | with_reducible rfl | refine ite_y (by omega) ?_ | refine ite_n (by omega) ?_ | refine thn_y er_44 (by omega) ?_ | exact pr_e (by omega) (by omega) (by omega))
          exact g_iret F hr hlk hH hS hz zv_62 ⟨rfl, rfl, rfl, rfl, rfl, hv, hp, pf, by first | omega | rfl | (dsimp only; omega), fun _ => by omega, by first | omega | rfl | (dsimp only; omega), by (try dsimp only); rw [hfin]; first | done | omega | rfl, by (try dsimp only); rw [hfin]; exact hP, by (try dsimp only); omega, by (try dsimp only); first | exact pIm_n (by omega) | (rw [hfin]; (try dsimp only); exact pIm_y (by first | omega | rfl)) | exact pIm_y (by omega)⟩ dX1_readPair_105
    · refine z_iconst F dX1_readPair_29 ?_
      have hfin : sPair b n c5 c6 k8 lim h = (4, h, 0) := by
        unfold sPair
        repeat (first | with_reducible rfl | refine ite_y (by omega) ?_ | refine ite_n (by omega) ?_ | exact pr_e (by omega) (by omega) (by omega))
      exact g_iret F hr hlk hH hS hz ⟨by decide, by decide⟩ ⟨rfl, rfl, rfl, rfl, rfl, hv, hp, pf, by first | omega | rfl | (dsimp only; omega), fun h => absurd h (by omega), by first | omega | rfl | (dsimp only; omega), by (try dsimp only); rw [hfin]; first | done | omega | rfl, by (try dsimp only); rw [hfin]; exact hP, by (try dsimp only); omega, by (try dsimp only); first | exact pIm_n (by omega) | (rw [hfin]; (try dsimp only); exact pIm_y (by first | omega | rfl)) | exact pIm_y (by omega)⟩ dX1_readPair_30
  · refine lv_iload_n F.1 F.2.1 dX1_readPair_16 rfl (lv_at hl 0 rfl) ?_
    have hfin : sPair b n c5 c6 k8 lim h = (v_8, h, 0) := by
      unfold sPair
      repeat (first | with_reducible rfl | refine ite_y (by omega) ?_ | refine ite_n (by omega) ?_ | exact pr_e (by omega) (by omega) (by omega))
    exact g_iret F hr hlk hH hS hz zv_8 ⟨rfl, rfl, rfl, rfl, rfl, hv, hp, pf, by first | omega | rfl | (dsimp only; omega), fun h => absurd h (by omega), by first | omega | rfl | (dsimp only; omega), by (try dsimp only); rw [hfin]; first | done | omega | rfl, by (try dsimp only); rw [hfin]; exact hP, by (try dsimp only); omega, by (try dsimp only); first | exact pIm_n (by omega) | (rw [hfin]; (try dsimp only); exact pIm_y (by first | omega | rfl)) | exact pIm_y (by omega)⟩ dX1_readPair_17

def rmX1_readPairsf : Room := { frames := 3, cells := 0, slots := 0, locals := 64 }
set_option maxHeartbeats 4000000 in
set_option maxRecDepth 100000 in
/-- the pairs -/
theorem c_X1_readPairsf (l : Launch) (g : gG) (gh : gGh) (q ln : Nat) (c5 c6 : Int) (b : tTx) (n : Nat) (tl : Int) (nr : Nat) (nt : Nat → Nat) (cl : Nat → Int) (h : Nat) (I : gI) (R : gR) (J : gJ) (AI : gI) (AJ : gJ) (AR : gR) (a : Nat) (hv : gInv g gh R AR I AI) (hp : pS g gh R I a q ln) (hk : (I ln 0).toInt = 3) (hP : pH gh AR I J AI AJ a q b n tl nr nt cl h) (hc5 : (I ln 5).toInt = c5) (hc6 : (I ln 6).toInt = c6) (hk8 : (I ln 8).toInt = 0) : gMet l g yX1_readPairs wsX1_readPairs rmX1_readPairsf [.ref a] (I, R, J, AI, AJ, AR) (gQi g (fun (z : Int) (w : gS) => R = w.2.1 ∧ J = w.2.2.1 ∧ AJ = w.2.2.2.2.1 ∧ AR = w.2.2.2.2.2 ∧ (gInv g gh R AR (w.1) (w.2.2.2.1)) ∧ (pS g gh R (w.1) a q ln) ∧ (pF a ln I (w.1)) ∧ (0 ≤ z ∧ z ≤ 4) ∧ (z = (sPairs b n c5 c6 5 0 [] h).1) ∧ (pH gh AR (w.1) J (w.2.2.2.1) AJ a q b n tl nr nt cl (sPairs b n c5 c6 5 0 [] h).2.1) ∧ (((w.1) ln 5).toInt = (I ln 5).toInt ∧ ((w.1) ln 6).toInt = (I ln 6).toInt) ∧ (∃ L : List Int, pCn ((w.2.2.2.1) (gh 3 ln)) ((w.1) ln 8).toInt L ∧ pIm z ((sPairs b n c5 c6 5 0 [] h).2.2) (c5 + jC L c6.toNat)))) := by
  refine gStart (cc := cX1_readPairs) (maxL := 3) (ret := (some (.int))) (by decide) rfl (Nat.le_of_ble_eq_true rfl) ?_
  intro p e s m below meth c ls F hr hlk hH hz hS hl
  have hl : lv_has ls 3 [(0, .ref a)] := hl
  have hS : va_S (gA g) s.heap s.heap [] := hS
  obtain ⟨H, hHe⟩ : ∃ H : Heap, H = s.heap := ⟨_, rfl⟩
  obtain ⟨locs, hlo⟩ : ∃ k : List Loc, k = [] := ⟨_, rfl⟩
  have hH : gH g I R J AI AJ AR H := by rw [hHe]; exact hH
  have hS : va_S (gA g) s.heap H locs := by rw [hHe, hlo]; exact hS
  suffices hw : W p l e rmX1_readPairsf s m ([.ref a] : List Value).toArray below meth c H locs 0 0 (MQ below (gQi g (fun (z : Int) (w : gS) => R = w.2.1 ∧ J = w.2.2.1 ∧ AJ = w.2.2.2.2.1 ∧ AR = w.2.2.2.2.2 ∧ (gInv g gh R AR (w.1) (w.2.2.2.1)) ∧ (pS g gh R (w.1) a q ln) ∧ (pF a ln I (w.1)) ∧ (0 ≤ z ∧ z ≤ 4) ∧ (z = (sPairs b n c5 c6 5 0 [] h).1) ∧ (pH gh AR (w.1) J (w.2.2.2.1) AJ a q b n tl nr nt cl (sPairs b n c5 c6 5 0 [] h).2.1) ∧ (((w.1) ln 5).toInt = (I ln 5).toInt ∧ ((w.1) ln 6).toInt = (I ln 6).toInt) ∧ (∃ L : List Int, pCn ((w.2.2.2.1) (gh 3 ln)) ((w.1) ln 8).toInt L ∧ pIm z ((sPairs b n c5 c6 5 0 [] h).2.2) (c5 + jC L c6.toNat)))) ([.ref a] : List Value).toArray s 0 0 (gA g)) (F0 m 0 ls []) by
    rw [hHe, hlo] at hw; exact hw
  clear hHe hlo
  have pf : pF a ln I I := pF_r
  have iX1 : ∀ w ∈ u_ws RX1 TX1 4, w ∈ wsX1_readPairs := (by decide +kernel)
  have iX0 : ∀ w ∈ u_ws RX0 TX0 15, w ∈ wsX1_readPairs := (by decide +kernel)
  have k29 : Cond.fieldLink RX1 29 (TX1 2).1 (TX1 2).2.1 (TX1 2).2.2.1 ∈ wsX1_readPairs := List.mem_of_getElem? (i := 1) rfl
  have k202 : Cond.fieldLink RX1 202 (TX0 9).1 (TX0 9).2.1 (TX0 9).2.2.1 ∈ wsX1_readPairs := List.mem_of_getElem? (i := 2) rfl
  have k205 : Cond.fieldLink RX1 205 (TX0 10).1 (TX0 10).2.1 (TX0 10).2.2.1 ∈ wsX1_readPairs := List.mem_of_getElem? (i := 3) rfl
  refine z_iconst F dX1_readPairs_0 ?_
  refine lv_istore_n (lv' := [(1, .int (iI 0)), (0, .ref a)]) F.1 F.2.1 dX1_readPairs_1 rfl hl (by decide) rfl (fun ls hl => ?_)
  have cut_2_2 : ∀ (NN : Nat) (i : Int) (I_1 : gI) (AI_2 : gI) (H : Heap) (locs : List Loc) (ls : Array Slot), zr i → (gInv g gh R AR I_1 AI_2) → (pS g gh R I_1 a q ln) → (pF a ln I I_1) → ((I_1 ln 0).toInt = 3) → (0 ≤ i ∧ i ≤ 5) → (pH gh AR I_1 J AI_2 AJ a q b n tl nr nt cl (I_1 a 3).toInt.toNat) → (∃ L : List Int, sPairs b n c5 c6 5 0 [] h = sPairs b n c5 c6 (5 - i).toNat i L (I_1 a 3).toInt.toNat ∧ pCn (AI_2 (gh 3 ln)) i L) → ((I_1 ln 8).toInt = i ∧ (I_1 ln 5).toInt = c5 ∧ (I_1 ln 6).toInt = (I ln 6).toInt) → (5 - i) < ((NN : Nat) : Int) → gH g I_1 R J AI_2 AJ AR H → va_S (gA g) s.heap H locs → lv_has ls 3 [(1, .int (iI i)), (0, .ref a)] → W p l e rmX1_readPairsf s m ([.ref a] : List Value).toArray below meth c H locs 0 0 (MQ below (gQi g (fun (z : Int) (w : gS) => R = w.2.1 ∧ J = w.2.2.1 ∧ AJ = w.2.2.2.2.1 ∧ AR = w.2.2.2.2.2 ∧ (gInv g gh R AR (w.1) (w.2.2.2.1)) ∧ (pS g gh R (w.1) a q ln) ∧ (pF a ln I (w.1)) ∧ (0 ≤ z ∧ z ≤ 4) ∧ (z = (sPairs b n c5 c6 5 0 [] h).1) ∧ (pH gh AR (w.1) J (w.2.2.2.1) AJ a q b n tl nr nt cl (sPairs b n c5 c6 5 0 [] h).2.1) ∧ (((w.1) ln 5).toInt = (I ln 5).toInt ∧ ((w.1) ln 6).toInt = (I ln 6).toInt) ∧ (∃ L : List Int, pCn ((w.2.2.2.1) (gh 3 ln)) ((w.1) ln 8).toInt L ∧ pIm z ((sPairs b n c5 c6 5 0 [] h).2.2) (c5 + jC L c6.toNat)))) ([.ref a] : List Value).toArray s 0 0 (gA g)) (F0 m 2 ls []) := by
    intro NN2
    induction NN2 with
    | zero =>
      intro i I_1 AI_2 H locs ls zi hv hp pf hk hi hP hLL hk8l hm2 hH hS hl
      exact absurd hm2 (by omega)
    | succ NN2 ih2 =>
      intro i I_1 AI_2 H locs ls zi hv hp pf hk hi hP hLL hk8l hm2 hH hS hl
      obtain ⟨hc, ehc⟩ : ∃ x, x = (I_1 a 3).toInt.toNat := ⟨_, rfl⟩
      rw [← ehc] at hP hLL
      obtain ⟨L, hsq, hcn⟩ := hLL
      refine lv_iload_n F.1 F.2.1 dX1_readPairs_2 rfl (lv_at hl 0 rfl) ?_
      refine z_iconst F dX1_readPairs_3 ?_
      refine z_icmp_gt (tgt := 61) F dX1_readPairs_4 (by decide) zi ⟨by decide, by decide⟩ (fun c_4 => ?_) (fun c_4 => ?_)
      · refine z_iconst F dX1_readPairs_61 ?_
        have hfin : sPairs b n c5 c6 5 0 [] h = (4, hc, 0) := sPairs_z hsq (by omega)
        exact g_iret F hr hlk hH hS hz ⟨by decide, by decide⟩ ⟨rfl, rfl, rfl, rfl, hv, hp, pf, by first | omega | rfl | (dsimp only; omega), by (try dsimp only); rw [hfin]; first | done | omega | rfl, by (try dsimp only); rw [hfin]; exact hP, by (try dsimp only); omega, by (try dsimp only); first | exact ⟨L, by rw [show (I_1 ln 8).toInt = i by omega]; exact hcn, pIm_n (by omega)⟩ | exact ⟨_, by rw [show (I_1 ln 8).toInt = i + 1 by omega]; exact hcn, by rw [hfin]; exact pIm_y rfl⟩⟩ dX1_readPairs_62
      · refine lv_aload_n F.1 F.2.1 dX1_readPairs_7 rfl (lv_at hl 1 rfl) ?_
        refine z_iconst F dX1_readPairs_8 ?_
        refine g_calli (g_runV (As := [.int (iI 4)]) (rest := []) (ci := 1) F hl.1 hH hS hz (c_X1_readPairf l g gh q ln c5 c6 i b n tl nr nt cl hc I_1 R J AI_2 AJ AR a 4 ⟨by decide, by decide⟩ hv hp hP (by omega) (by omega) (by omega)) (cwV 1 F.2.2.2.2.1 gX1_readPairs_X1_readPair rfl rfl rfl hdX1_readPair ⟨Nat.le_of_ble_eq_true rfl, Nat.le_of_ble_eq_true rfl⟩) hp.1 (by decide) rfl rfl rfl (Nat.le_of_ble_eq_true rfl) dX1_readPairs_9 ⟨Nat.zero_le _, Nat.zero_le _⟩) hS (fun v_11 I_5 R_6 J_7 AI_8 AJ_9 AR_10 H locs zv_11 hp_12 hH hS => ?_)
        dsimp only at hp_12
        obtain ⟨r_13, er_13⟩ : ∃ qQ : pR, qQ = sPair b n c5 c6 i 4 hc := ⟨_, rfl⟩
        rw [← er_13] at hp_12
        obtain ⟨rfl, rfl, rfl, rfl, rfl, hv, hp, pfq, k8q, q_14, q_15, q_16, hP, q_17, q_18⟩ := hp_12
        have pf := pF_t pf pfq
        have u_19q : (I_5 q 1).toInt = (I_1 q 1).toInt := by rw [pF_q hp pfq]
        have u_19_0 : (I_5 ln 0).toInt = (I_1 ln 0).toInt := by rw [pfq.2]
        have u_19_8 : (I_5 ln 8).toInt = (I_1 ln 8).toInt := by rw [k8q]
        refine lv_istore_n (lv' := [(2, .int (iI v_11)), (1, .int (iI i)), (0, .ref a)]) F.1 F.2.1 dX1_readPairs_12 rfl hl (by decide) rfl (fun ls hl => ?_)
        refine lv_iload_n F.1 F.2.1 dX1_readPairs_13 rfl (lv_at hl 0 rfl) ?_
        refine z_if_eq (tgt := 19) F dX1_readPairs_14 (by decide) zv_11 (fun c_20 => ?_) (fun c_20 => ?_)
        · have t_21 := q_18 (by omega)
          refine lv_aload_n F.1 F.2.1 dX1_readPairs_19 rfl (lv_at hl 2 rfl) ?_
          refine g_getR (ci := 1) (k := 2) F hH rfl (by decide) iX1 hp.1 (by decide) rfl (b := ln) hp.2.2.2.1 k29 dX1_readPairs_20 ?_
          refine lv_aload_n F.1 F.2.1 dX1_readPairs_23 rfl (lv_at hl 2 rfl) ?_
          refine g_getR (ci := 1) (k := 2) F hH rfl (by decide) iX1 hp.1 (by decide) rfl (b := ln) hp.2.2.2.1 k29 dX1_readPairs_24 ?_
          refine g_getI (ci := 0) (k := 9) F hH rfl (by decide) iX0 hp.2.2.2.2.1 (by decide) rfl k202 dX1_readPairs_27 ?_
          have b_22 := gI_line hv hp.2.2.2.2.1
          unfold vLineI at b_22
          refine lv_aload_n F.1 F.2.1 dX1_readPairs_30 rfl (lv_at hl 2 rfl) ?_
          refine g_getR (ci := 1) (k := 2) F hH rfl (by decide) iX1 hp.1 (by decide) rfl (b := ln) hp.2.2.2.1 k29 dX1_readPairs_31 ?_
          refine g_getI (ci := 0) (k := 10) F hH rfl (by decide) iX0 hp.2.2.2.2.1 (by decide) rfl k205 dX1_readPairs_34 ?_
          have hp0 := hp
          have hv0 := hv
          refine g_callv (g_runV (As := [.int (iI ((I_5 ln 9).toInt)), .int (iI ((I_5 ln 10).toInt))]) (rest := []) (ci := 0) F hl.1 hH hS hz (c_X0_addTwof l g gh I_5 R J AI_2 AJ AR ln ((I_5 ln 9).toInt) ((I_5 ln 10).toInt) (zr_t _) (zr_t _) hv hp.2.2.2.2.1 (by omega) (by omega) (by omega) (fun h => by omega)) (cwV 2 F.2.2.2.2.1 gX1_readPairs_X0_addTwo rfl rfl rfl hdX0_addTwo ⟨Nat.le_of_ble_eq_true rfl, Nat.le_of_ble_eq_true rfl⟩) hp.2.2.2.2.1 (by decide) rfl rfl rfl (Nat.le_of_ble_eq_true rfl) dX1_readPairs_37 ⟨Nat.zero_le _, Nat.zero_le _⟩) hS (fun I_23 R_24 J_25 AI_26 AJ_27 AR_28 H locs hp_29 hH hS => ?_)
          dsimp only at hp_29
          obtain ⟨rfl, rfl, rfl, rfl, hv, fI, fA, f0, f8, fk, fz, fw⟩ := hp_29
          have hp := pS_ln hv0 hp fI
          have pf := pF_t pf (pF_o fI f0)
          have u_30q : (I_23 q 1).toInt = (I_5 q 1).toInt := by rw [fI q (gO_ne hp.2.2.1 hp.2.2.2.2.1 (by decide))]
          have u_30_0 : (I_23 ln 0).toInt = (I_5 ln 0).toInt := by rw [f0]
          have hP := pH_ai hv hp.1 hp.2.2.2.2.1 (pH_ln hv0 hp0 hP fI) fA
          have u_31 : (I_23 ln 2).toInt = (I_5 ln 2).toInt := by rw [fk 2 (by decide)]
          have u_32 : (I_23 ln 5).toInt = (I_5 ln 5).toInt := by rw [fk 5 (by decide)]
          have u_33 : (I_23 ln 6).toInt = (I_5 ln 6).toInt := by rw [fk 6 (by decide)]
          have u_34 : (I_23 ln 9).toInt = (I_5 ln 9).toInt := by rw [fk 9 (by decide)]
          have u_35 : (I_23 ln 10).toInt = (I_5 ln 10).toInt := by rw [fk 10 (by decide)]
          have hP : pH gh AR I_23 J AI_26 AJ a q b n tl nr nt cl r_13.2.1 := hP
          have hcn : pCn (AI_26 (gh 3 ln)) (i + 1) (r_13.2.2 :: L) := by rw [show i + 1 = i + 1 from rfl]; exact pCn_s (k := i) hcn (by omega) (by rw [show i = (I_5 ln 8).toInt by omega]; exact fz) (by rw [show i = (I_5 ln 8).toInt by omega, fw]; omega)
          refine lv_aload_n F.1 F.2.1 dX1_readPairs_40 rfl (lv_at hl 2 rfl) ?_
          refine z_bipush F dX1_readPairs_41 (by decide) ?_
          refine g_calli (g_runV (As := [.int (iI 44)]) (rest := []) (ci := 1) F hl.1 hH hS hz (c_X1_isKindf l g gh q b n tl nr nt cl r_13.2.1 I_23 R J AI_26 AJ AR a 44 ⟨by decide, by decide⟩ hv hp.1 (by first | exact hp.2.2.2.2.2.2.2 | exact hh | omega) hP) (cwV 1 F.2.2.2.2.1 gX1_readPairs_X1_isKind rfl rfl rfl hdX1_isKind ⟨Nat.le_of_ble_eq_true rfl, Nat.le_of_ble_eq_true rfl⟩) hp.1 (by decide) rfl rfl rfl (Nat.le_of_ble_eq_true rfl) dX1_readPairs_43 ⟨Nat.zero_le _, Nat.zero_le _⟩) hS (fun v_42 I_36 R_37 J_38 AI_39 AJ_40 AR_41 H locs zv_42 hp_43 hH hS => ?_)
          dsimp only at hp_43
          obtain ⟨rfl, rfl, rfl, rfl, rfl, rfl, q_44, q_45⟩ := hp_43
          refine z_if_ne (tgt := 51) F dX1_readPairs_46 (by decide) zv_42 (fun c_46 => ?_) (fun c_46 => ?_)
          · have t_47 := tIz_1 q_45 (by omega)
            refine lv_aload_n F.1 F.2.1 dX1_readPairs_51 rfl (lv_at hl 2 rfl) ?_
            have hv0 := hv
            refine g_callv (g_runV (As := []) (rest := []) (ci := 1) F hl.1 hH hS hz (c_X1_stepf l g gh q b n tl nr nt cl r_13.2.1 I_23 R J AI_26 AJ AR a hv hp.1 (by first | exact hp.2.2.2.2.2.2.2 | exact hh | omega) hP (by first | exact hp.2.2.1 | exact hq) (by omega)) (cwV 0 F.2.2.2.2.1 gX1_readPairs_X1_step rfl rfl rfl hdX1_step ⟨Nat.le_of_ble_eq_true rfl, Nat.le_of_ble_eq_true rfl⟩) hp.1 (by decide) rfl rfl rfl (Nat.le_of_ble_eq_true rfl) dX1_readPairs_52 ⟨Nat.zero_le _, Nat.zero_le _⟩) hS (fun I_48 R_49 J_50 AI_51 AJ_52 AR_53 H locs hp_54 hH hS => ?_)
            dsimp only at hp_54
            obtain ⟨rfl, rfl, rfl, rfl, rfl, hv, fs, hs, hP⟩ := hp_54
            have hP : pH gh AR I_48 J AI_26 AJ a q b n tl nr nt cl (r_13.2.1 + 1) := hP
            obtain ⟨hp, pfq, fls⟩ := pS_step hv0 hp fs hs
            have pf := pF_t pf pfq
            have u_55q : (I_48 q 1).toInt = (I_23 q 1).toInt := by rw [pF_q hp pfq]
            have u_55_0 : (I_48 ln 0).toInt = (I_23 ln 0).toInt := by rw [fls]
            have u_55_8 : (I_48 ln 8).toInt = (I_23 ln 8).toInt := by rw [fls]
            have u_56 : (I_48 ln 2).toInt = (I_23 ln 2).toInt := by rw [fls]
            have u_57 : (I_48 ln 5).toInt = (I_23 ln 5).toInt := by rw [fls]
            have u_58 : (I_48 ln 6).toInt = (I_23 ln 6).toInt := by rw [fls]
            have u_59 : (I_48 ln 9).toInt = (I_23 ln 9).toInt := by rw [fls]
            have u_60 : (I_48 ln 10).toInt = (I_23 ln 10).toInt := by rw [fls]
            have hsq := sPairs_go hsq (f := (4 - i).toNat) (by omega) er_13 (by omega) (by omega)
            refine z_iinc (lv' := [(1, .int (iI (i + 1))), (2, .int (iI v_11)), (0, .ref a)]) F dX1_readPairs_55 hl (k := 1) rfl (by decide) rfl (fun ls hl => ?_)
            refine z_goto (tgt := 2) F dX1_readPairs_58 (by decide) ?_
            exact ih2 (i + 1) I_48 AI_26 H locs ls ⟨by omega, by omega⟩ hv hp pf (by omega) (by omega) (by rw [pH_n hP]; exact hP) ⟨r_13.2.2 :: L, by rw [pH_n hP, show (5 - (i + 1)).toNat = (4 - i).toNat by omega]; exact hsq, hcn⟩ (by omega) (by omega) hH hS (lv_sub hl [0, 2] rfl)
          · have t_61 := tIz_0 q_45 (by omega)
            refine z_iconst F dX1_readPairs_49 ?_
            have hfin : sPairs b n c5 c6 5 0 [] h = (0, r_13.2.1, c5 + jC (r_13.2.2 :: L) c6.toNat) := sPairs_st hsq (f := (4 - i).toNat) (by omega) er_13 (by omega) (by omega)
            exact g_iret F hr hlk hH hS hz ⟨by decide, by decide⟩ ⟨rfl, rfl, rfl, rfl, hv, hp, pf, by first | omega | rfl | (dsimp only; omega), by (try dsimp only); rw [hfin]; first | done | omega | rfl, by (try dsimp only); rw [hfin]; exact hP, by (try dsimp only); omega, by (try dsimp only); first | exact ⟨L, by rw [show (I_23 ln 8).toInt = i by omega]; exact hcn, pIm_n (by omega)⟩ | exact ⟨_, by rw [show (I_23 ln 8).toInt = i + 1 by omega]; exact hcn, by rw [hfin]; exact pIm_y rfl⟩⟩ dX1_readPairs_50
        · refine lv_iload_n F.1 F.2.1 dX1_readPairs_17 rfl (lv_at hl 0 rfl) ?_
          have hfin : sPairs b n c5 c6 5 0 [] h = r_13 := sPairs_no hsq (f := (4 - i).toNat) (by omega) er_13 (by omega)
          exact g_iret F hr hlk hH hS hz zv_11 ⟨rfl, rfl, rfl, rfl, hv, hp, pf, by first | omega | rfl | (dsimp only; omega), by (try dsimp only); rw [hfin]; first | done | omega | rfl, by (try dsimp only); rw [hfin]; exact hP, by (try dsimp only); omega, by (try dsimp only); first | exact ⟨L, by rw [show (I_5 ln 8).toInt = i by omega]; exact hcn, pIm_n (by omega)⟩ | exact ⟨_, by rw [show (I_5 ln 8).toInt = i + 1 by omega]; exact hcn, by rw [hfin]; exact pIm_y rfl⟩⟩ dX1_readPairs_18
  exact cut_2_2 (((5 - 0) + 1 : Int).toNat) 0 I AI H locs ls ⟨by decide, by decide⟩ hv hp pf (by omega) (by omega) (by rw [pH_n hP]; exact hP) ⟨[], by rw [pH_n hP]; rfl, pCn_0 (by omega)⟩ (by omega) (by omega) hH hS (lv_sub hl [0, 1] rfl)

def rmX1_readByColumnf : Room := { frames := 2, cells := 0, slots := 0, locals := 42 }
set_option maxHeartbeats 4000000 in
set_option maxRecDepth 100000 in
/-- a column of a group -/
theorem c_X1_readByColumnf (l : Launch) (g : gG) (gh : gGh) (q ln : Nat) (c5 k8 : Int) (L : List Int) (b : tTx) (n : Nat) (tl : Int) (nr : Nat) (nt : Nat → Nat) (cl : Nat → Int) (h : Nat) (I : gI) (R : gR) (J : gJ) (AI : gI) (AJ : gJ) (AR : gR) (a : Nat) (hv : gInv g gh R AR I AI) (hp : pS g gh R I a q ln) (hk : (I ln 0).toInt = 7) (hP : pH gh AR I J AI AJ a q b n tl nr nt cl h) (hc5 : (I ln 5).toInt = c5) (hk8 : (I ln 8).toInt = k8) (hcn : pBn (AI (gh 3 ln)) k8 L) : gMet l g yX1_readByColumn wsX1_readByColumn rmX1_readByColumnf [.ref a] (I, R, J, AI, AJ, AR) (gQi g (fun (z : Int) (w : gS) => R = w.2.1 ∧ J = w.2.2.1 ∧ AJ = w.2.2.2.2.1 ∧ AR = w.2.2.2.2.2 ∧ (gInv g gh R AR (w.1) (w.2.2.2.1)) ∧ (pS g gh R (w.1) a q ln) ∧ (pF a ln I (w.1)) ∧ (0 ≤ z ∧ z ≤ 4) ∧ (z = (sBy b n c5 k8 L h).1) ∧ (pH gh AR (w.1) J (w.2.2.2.1) AJ a q b n tl nr nt cl (sBy b n c5 k8 L h).2.1) ∧ (((w.1) ln 5).toInt = (I ln 5).toInt ∧ ((w.1) ln 6).toInt = (I ln 6).toInt) ∧ (pIm z (((w.1) ln 8).toInt) (k8 + 1)) ∧ (z ≠ 0 ∨ pBn ((w.2.2.2.1) (gh 3 ln)) (k8 + 1) ((sBy b n c5 k8 L h).2.2 :: L)) ∧ (z = 0 ∨ (w.2.2.2.1) (gh 3 ln) = AI (gh 3 ln) ∧ ((w.1) ln 8).toInt = k8))) := by
  refine gStart (cc := cX1_readByColumn) (maxL := 3) (ret := (some (.int))) (by decide) rfl (Nat.le_of_ble_eq_true rfl) ?_
  intro p e s m below meth c ls F hr hlk hH hz hS hl
  have hl : lv_has ls 3 [(0, .ref a)] := hl
  have hS : va_S (gA g) s.heap s.heap [] := hS
  obtain ⟨H, hHe⟩ : ∃ H : Heap, H = s.heap := ⟨_, rfl⟩
  obtain ⟨locs, hlo⟩ : ∃ k : List Loc, k = [] := ⟨_, rfl⟩
  have hH : gH g I R J AI AJ AR H := by rw [hHe]; exact hH
  have hS : va_S (gA g) s.heap H locs := by rw [hHe, hlo]; exact hS
  suffices hw : W p l e rmX1_readByColumnf s m ([.ref a] : List Value).toArray below meth c H locs 0 0 (MQ below (gQi g (fun (z : Int) (w : gS) => R = w.2.1 ∧ J = w.2.2.1 ∧ AJ = w.2.2.2.2.1 ∧ AR = w.2.2.2.2.2 ∧ (gInv g gh R AR (w.1) (w.2.2.2.1)) ∧ (pS g gh R (w.1) a q ln) ∧ (pF a ln I (w.1)) ∧ (0 ≤ z ∧ z ≤ 4) ∧ (z = (sBy b n c5 k8 L h).1) ∧ (pH gh AR (w.1) J (w.2.2.2.1) AJ a q b n tl nr nt cl (sBy b n c5 k8 L h).2.1) ∧ (((w.1) ln 5).toInt = (I ln 5).toInt ∧ ((w.1) ln 6).toInt = (I ln 6).toInt) ∧ (pIm z (((w.1) ln 8).toInt) (k8 + 1)) ∧ (z ≠ 0 ∨ pBn ((w.2.2.2.1) (gh 3 ln)) (k8 + 1) ((sBy b n c5 k8 L h).2.2 :: L)) ∧ (z = 0 ∨ (w.2.2.2.1) (gh 3 ln) = AI (gh 3 ln) ∧ ((w.1) ln 8).toInt = k8))) ([.ref a] : List Value).toArray s 0 0 (gA g)) (F0 m 0 ls []) by
    rw [hHe, hlo] at hw; exact hw
  clear hHe hlo
  have pf : pF a ln I I := pF_r
  have iX5 : ∀ w ∈ u_ws RX5 TX5 5, w ∈ wsX1_readByColumn := (by decide +kernel)
  have iX1 : ∀ w ∈ u_ws RX1 TX1 4, w ∈ wsX1_readByColumn := (by decide +kernel)
  have iX0 : ∀ w ∈ u_ws RX0 TX0 15, w ∈ wsX1_readByColumn := (by decide +kernel)
  have k29 : Cond.fieldLink RX1 29 (TX1 2).1 (TX1 2).2.1 (TX1 2).2.2.1 ∈ wsX1_readByColumn := List.mem_of_getElem? (i := 1) rfl
  have k143 : Cond.fieldLink RX1 143 (TX0 5).1 (TX0 5).2.1 (TX0 5).2.2.1 ∈ wsX1_readByColumn := List.mem_of_getElem? (i := 2) rfl
  have k12 : Cond.fieldLink RX1 12 (TX1 0).1 (TX1 0).2.1 (TX1 0).2.2.1 ∈ wsX1_readByColumn := List.mem_of_getElem? (i := 3) rfl
  have k71 : Cond.fieldLink RX1 71 (TX5 2).1 (TX5 2).2.1 (TX5 2).2.2.1 ∈ wsX1_readByColumn := List.mem_of_getElem? (i := 4) rfl
  have k44 : Cond.fieldLink RX1 44 (TX1 3).1 (TX1 3).2.1 (TX1 3).2.2.1 ∈ wsX1_readByColumn := List.mem_of_getElem? (i := 5) rfl
  have k149 : Cond.fieldLink RX1 149 (TX0 8).1 (TX0 8).2.1 (TX0 8).2.2.1 ∈ wsX1_readByColumn := List.mem_of_getElem? (i := 6) rfl
  refine lv_aload_n F.1 F.2.1 dX1_readByColumn_0 rfl (lv_at hl 0 rfl) ?_
  refine lv_aload_n F.1 F.2.1 dX1_readByColumn_1 rfl (lv_at hl 0 rfl) ?_
  refine g_getR (ci := 1) (k := 2) F hH rfl (by decide) iX1 hp.1 (by decide) rfl (b := ln) hp.2.2.2.1 k29 dX1_readByColumn_2 ?_
  refine g_getI (ci := 0) (k := 5) F hH rfl (by decide) iX0 hp.2.2.2.2.1 (by decide) rfl k143 dX1_readByColumn_5 ?_
  have b_1 := gI_line hv hp.2.2.2.2.1
  unfold vLineI at b_1
  refine g_calli (g_runV (As := [.int (iI ((I ln 5).toInt))]) (rest := []) (ci := 1) F hl.1 hH hS hz (c_X1_seeColumnf l g gh q b n tl nr nt cl h I R J AI AJ AR a ((I ln 5).toInt) (zr_t _) hv hp.1 (by first | exact hp.2.2.2.2.2.2.2 | exact hh | omega) hP) (cwV 1 F.2.2.2.2.1 gX1_readByColumn_X1_seeColumn rfl rfl rfl hdX1_seeColumn ⟨Nat.le_of_ble_eq_true rfl, Nat.le_of_ble_eq_true rfl⟩) hp.1 (by decide) rfl rfl rfl (Nat.le_of_ble_eq_true rfl) dX1_readByColumn_8 ⟨Nat.zero_le _, Nat.zero_le _⟩) hS (fun v_8 I_2 R_3 J_4 AI_5 AJ_6 AR_7 H locs zv_8 hp_9 hH hS => ?_)
  dsimp only at hp_9
  rw [show (I ln 5).toInt = c5 by omega] at hp_9
  obtain ⟨rfl, rfl, rfl, rfl, rfl, rfl, s1, s2, s3⟩ := hp_9
  refine lv_istore_n (lv' := [(1, .int (iI v_8)), (0, .ref a)]) F.1 F.2.1 dX1_readByColumn_11 rfl hl (by decide) rfl (fun ls hl => ?_)
  refine lv_iload_n F.1 F.2.1 dX1_readByColumn_12 rfl (lv_at hl 0 rfl) ?_
  refine z_if_eq (tgt := 18) F dX1_readByColumn_13 (by decide) zv_8 (fun c_10 => ?_) (fun c_10 => ?_)
  · have t_11 := pCf_0 (b := b) (n := n) (c := c5) (h := h) (by omega)
    refine lv_aload_n F.1 F.2.1 dX1_readByColumn_18 rfl (lv_at hl 1 rfl) ?_
    refine g_getR (ci := 1) (k := 0) F hH rfl (by decide) iX1 hp.1 (by decide) rfl (b := gh 22 0) (gR_pr0 hv hp.1).1 k12 dX1_readByColumn_19 ?_
    obtain ⟨r_12a, r_12b⟩ := gR_tk2 hv (gR_pr0 hv hp.1).2
    refine g_getR (ci := 5) (k := 2) F hH rfl (by decide) iX5 (gR_pr0 hv hp.1).2 (by decide) rfl (b := gh 26 0) r_12a k71 dX1_readByColumn_22 ?_
    refine lv_aload_n F.1 F.2.1 dX1_readByColumn_25 rfl (lv_at hl 1 rfl) ?_
    refine g_getI (ci := 1) (k := 3) F hH rfl (by decide) iX1 hp.1 (by decide) rfl k44 dX1_readByColumn_26 ?_
    have b_13h := hp.2.2.2.2.2.2.2
    have b_13 := gI_pr hv hp.1
    have b_13t := gI_tk hv (gR_pr0 hv hp.1).2
    have hx29 : 0 ≤ ((I a 3).toInt) ∧ ((I a 3).toInt) < ((901 : Nat) : Int) ∧ ((I a 3).toInt) ≤ 2147483647 := ⟨by omega, by omega, by omega⟩
    refine g_iald F hH r_12b hx29.1 hx29.2.1 hx29.2.2 dX1_readByColumn_29 ?_
    refine z_name (fun v_14 ev_14 => ?_)
    have zv_14 : zr v_14 := by rw [ev_14]; exact zr_t _
    have t29 : v_14 = pV b n (h) := by rw [ev_14]; exact pH_V hP
    refine lv_istore_n (lv' := [(2, .int (iI v_14)), (1, .int (iI v_8)), (0, .ref a)]) F.1 F.2.1 dX1_readByColumn_30 rfl hl (by decide) rfl (fun ls hl => ?_)
    refine lv_aload_n F.1 F.2.1 dX1_readByColumn_31 rfl (lv_at hl 2 rfl) ?_
    refine g_getR (ci := 1) (k := 2) F hH rfl (by decide) iX1 hp.1 (by decide) rfl (b := ln) hp.2.2.2.1 k29 dX1_readByColumn_32 ?_
    refine lv_iload_n F.1 F.2.1 dX1_readByColumn_35 rfl (lv_at hl 0 rfl) ?_
    refine g_calli (g_runV (As := [.int (iI v_14)]) (rest := []) (ci := 0) F hl.1 hH hS hz (c_X0_hasColumnf l g gh I R J AI AJ AR ln v_14 zv_14 hv hp.2.2.2.2.1) (cwV 1 F.2.2.2.2.1 gX1_readByColumn_X0_hasColumn rfl rfl rfl hdX0_hasColumn ⟨Nat.le_of_ble_eq_true rfl, Nat.le_of_ble_eq_true rfl⟩) hp.2.2.2.2.1 (by decide) rfl rfl rfl (Nat.le_of_ble_eq_true rfl) dX1_readByColumn_36 ⟨Nat.zero_le _, Nat.zero_le _⟩) hS (fun v_21 I_15 R_16 J_17 AI_18 AJ_19 AR_20 H locs zv_21 hp_22 hH hS => ?_)
    dsimp only at hp_22
    obtain ⟨rfl, rfl, rfl, rfl, rfl, rfl, q_23, q36⟩ := hp_22
    refine z_if_eq (tgt := 44) F dX1_readByColumn_39 (by decide) zv_21 (fun c_24 => ?_) (fun c_24 => ?_)
    · have t_25 := tIz_0 q36 (by omega)
      have hmem : ¬ pV b n h ∈ L := fun hh => tIz_0 q36 (by omega) (by rw [hk8, t29]; exact (hcn _).mpr hh)
      refine lv_aload_n F.1 F.2.1 dX1_readByColumn_44 rfl (lv_at hl 2 rfl) ?_
      refine g_getR (ci := 1) (k := 2) F hH rfl (by decide) iX1 hp.1 (by decide) rfl (b := ln) hp.2.2.2.1 k29 dX1_readByColumn_45 ?_
      refine g_getI (ci := 0) (k := 8) F hH rfl (by decide) iX0 hp.2.2.2.2.1 (by decide) rfl k149 dX1_readByColumn_48 ?_
      refine z_iconst F dX1_readByColumn_51 ?_
      refine z_icmp_lt (tgt := 57) F dX1_readByColumn_52 (by decide) (zr_t _) ⟨by decide, by decide⟩ (fun c_26 => ?_) (fun c_26 => ?_)
      · refine lv_aload_n F.1 F.2.1 dX1_readByColumn_57 rfl (lv_at hl 2 rfl) ?_
        refine g_getR (ci := 1) (k := 2) F hH rfl (by decide) iX1 hp.1 (by decide) rfl (b := ln) hp.2.2.2.1 k29 dX1_readByColumn_58 ?_
        refine lv_iload_n F.1 F.2.1 dX1_readByColumn_61 rfl (lv_at hl 0 rfl) ?_
        have hp0 := hp
        have hv0 := hv
        refine g_callv (g_runV (As := [.int (iI v_14)]) (rest := []) (ci := 0) F hl.1 hH hS hz (c_X0_addColumnf l g gh I R J AI AJ AR ln v_14 zv_14 hv hp.2.2.2.2.1 (by omega) (by omega) (by omega)) (cwV 1 F.2.2.2.2.1 gX1_readByColumn_X0_addColumn rfl rfl rfl hdX0_addColumn ⟨Nat.le_of_ble_eq_true rfl, Nat.le_of_ble_eq_true rfl⟩) hp.2.2.2.2.1 (by decide) rfl rfl rfl (Nat.le_of_ble_eq_true rfl) dX1_readByColumn_62 ⟨Nat.zero_le _, Nat.zero_le _⟩) hS (fun I_27 R_28 J_29 AI_30 AJ_31 AR_32 H locs hp_33 hH hS => ?_)
        dsimp only at hp_33
        obtain ⟨rfl, rfl, rfl, rfl, hv, fI, fA, f0, f8, fk, fz, fw⟩ := hp_33
        have hp := pS_ln hv0 hp fI
        have pf := pF_t pf (pF_o fI f0)
        have u_34q : (I_27 q 1).toInt = (I q 1).toInt := by rw [fI q (gO_ne hp.2.2.1 hp.2.2.2.2.1 (by decide))]
        have u_34_0 : (I_27 ln 0).toInt = (I ln 0).toInt := by rw [f0]
        have hP := pH_ai hv hp.1 hp.2.2.2.2.1 (pH_ln hv0 hp0 hP fI) fA
        have u_35 : (I_27 ln 2).toInt = (I ln 2).toInt := by rw [fk 2 (by decide)]
        have u_36 : (I_27 ln 5).toInt = (I ln 5).toInt := by rw [fk 5 (by decide)]
        have u_37 : (I_27 ln 6).toInt = (I ln 6).toInt := by rw [fk 6 (by decide)]
        have u_38 : (I_27 ln 9).toInt = (I ln 9).toInt := by rw [fk 9 (by decide)]
        have u_39 : (I_27 ln 10).toInt = (I ln 10).toInt := by rw [fk 10 (by decide)]
        have hP : pH gh AR I_27 J AI_30 AJ a q b n tl nr nt cl h := hP
        have hcn : pBn (AI_30 (gh 3 ln)) (k8 + 1) (pV b n h :: L) := pBn_s (k := k8) hcn (by omega) (by rw [show k8 = (I ln 8).toInt by omega]; exact fz) (by rw [show k8 = (I ln 8).toInt by omega, fw]; omega)
        refine lv_aload_n F.1 F.2.1 dX1_readByColumn_65 rfl (lv_at hl 2 rfl) ?_
        have hv0 := hv
        refine g_callv (g_runV (As := []) (rest := []) (ci := 1) F hl.1 hH hS hz (c_X1_stepf l g gh q b n tl nr nt cl h I_27 R J AI_30 AJ AR a hv hp.1 (by first | exact hp.2.2.2.2.2.2.2 | exact hh | omega) hP (by first | exact hp.2.2.1 | exact hq) (by omega)) (cwV 0 F.2.2.2.2.1 gX1_readByColumn_X1_step rfl rfl rfl hdX1_step ⟨Nat.le_of_ble_eq_true rfl, Nat.le_of_ble_eq_true rfl⟩) hp.1 (by decide) rfl rfl rfl (Nat.le_of_ble_eq_true rfl) dX1_readByColumn_66 ⟨Nat.zero_le _, Nat.zero_le _⟩) hS (fun I_40 R_41 J_42 AI_43 AJ_44 AR_45 H locs hp_46 hH hS => ?_)
        dsimp only at hp_46
        obtain ⟨rfl, rfl, rfl, rfl, rfl, hv, fs, hs, hP⟩ := hp_46
        have hP : pH gh AR I_40 J AI_30 AJ a q b n tl nr nt cl (h + 1) := hP
        obtain ⟨hp, pfq, fls⟩ := pS_step hv0 hp fs hs
        have pf := pF_t pf pfq
        have u_47q : (I_40 q 1).toInt = (I_27 q 1).toInt := by rw [pF_q hp pfq]
        have u_47_0 : (I_40 ln 0).toInt = (I_27 ln 0).toInt := by rw [fls]
        have u_47_8 : (I_40 ln 8).toInt = (I_27 ln 8).toInt := by rw [fls]
        have u_48 : (I_40 ln 2).toInt = (I_27 ln 2).toInt := by rw [fls]
        have u_49 : (I_40 ln 5).toInt = (I_27 ln 5).toInt := by rw [fls]
        have u_50 : (I_40 ln 6).toInt = (I_27 ln 6).toInt := by rw [fls]
        have u_51 : (I_40 ln 9).toInt = (I_27 ln 9).toInt := by rw [fls]
        have u_52 : (I_40 ln 10).toInt = (I_27 ln 10).toInt := by rw [fls]
        refine z_iconst F dX1_readByColumn_69 ?_
        have hfin : sBy b n c5 k8 L h = (0, h + 1, pV b n h) := by
          unfold sBy
          repeat (first | with_reducible rfl | refine ite_y (by omega) ?_ | refine ite_n (by omega) ?_ | refine ite_y hmem ?_ | refine ite_n hmem ?_ | exact pr_e (by omega) (by omega) (by omega))
        exact g_iret F hr hlk hH hS hz ⟨by decide, by decide⟩ ⟨rfl, rfl, rfl, rfl, hv, hp, pf, by first | omega | rfl | (dsimp only; omega), by (try dsimp only); rw [hfin]; first | done | omega | rfl, by (try dsimp only); rw [hfin]; exact hP, by (try dsimp only); omega, by (try dsimp only); first | exact pIm_n (by omega) | (rw [hfin]; (try dsimp only); exact pIm_y (by first | omega | rfl)) | exact pIm_y (by omega), by (try dsimp only); first | exact Or.inl (by omega) | exact Or.inr (by rw [hfin]; exact hcn), by (try dsimp only); first | exact Or.inl (by omega) | exact Or.inr ⟨rfl, by omega⟩⟩ dX1_readByColumn_70
      · refine z_iconst F dX1_readByColumn_55 ?_
        have hfin : sBy b n c5 k8 L h = (4, h, 0) := by
          unfold sBy
          repeat (first | with_reducible rfl | refine ite_y (by omega) ?_ | refine ite_n (by omega) ?_ | refine ite_y hmem ?_ | refine ite_n hmem ?_ | exact pr_e (by omega) (by omega) (by omega))
        exact g_iret F hr hlk hH hS hz ⟨by decide, by decide⟩ ⟨rfl, rfl, rfl, rfl, hv, hp, pf, by first | omega | rfl | (dsimp only; omega), by (try dsimp only); rw [hfin]; first | done | omega | rfl, by (try dsimp only); rw [hfin]; exact hP, by (try dsimp only); omega, by (try dsimp only); first | exact pIm_n (by omega) | (rw [hfin]; (try dsimp only); exact pIm_y (by first | omega | rfl)) | exact pIm_y (by omega), by (try dsimp only); first | exact Or.inl (by omega) | exact Or.inr (by rw [hfin]; exact hcn), by (try dsimp only); first | exact Or.inl (by omega) | exact Or.inr ⟨rfl, by omega⟩⟩ dX1_readByColumn_56
    · have t_53 := tIz_1 q36 (by omega)
      have hmem : pV b n h ∈ L := (hcn _).mp (by rw [← hk8, ← t29]; exact tIz_1 q36 (by omega))
      refine z_iconst F dX1_readByColumn_42 ?_
      have hfin : sBy b n c5 k8 L h = (2, h, 0) := by
        unfold sBy
        repeat (first | with_reducible rfl | refine ite_y (by omega) ?_ | refine ite_n (by omega) ?_ | refine ite_y hmem ?_ | refine ite_n hmem ?_ | exact pr_e (by omega) (by omega) (by omega))
      exact g_iret F hr hlk hH hS hz ⟨by decide, by decide⟩ ⟨rfl, rfl, rfl, rfl, hv, hp, pf, by first | omega | rfl | (dsimp only; omega), by (try dsimp only); rw [hfin]; first | done | omega | rfl, by (try dsimp only); rw [hfin]; exact hP, by (try dsimp only); omega, by (try dsimp only); first | exact pIm_n (by omega) | (rw [hfin]; (try dsimp only); exact pIm_y (by first | omega | rfl)) | exact pIm_y (by omega), by (try dsimp only); first | exact Or.inl (by omega) | exact Or.inr (by rw [hfin]; exact hcn), by (try dsimp only); first | exact Or.inl (by omega) | exact Or.inr ⟨rfl, by omega⟩⟩ dX1_readByColumn_43
  · refine lv_iload_n F.1 F.2.1 dX1_readByColumn_16 rfl (lv_at hl 0 rfl) ?_
    have hfin : sBy b n c5 k8 L h = (v_8, h, 0) := by
      unfold sBy
      repeat (first | with_reducible rfl | refine ite_y (by omega) ?_ | refine ite_n (by omega) ?_ | refine ite_y hmem ?_ | refine ite_n hmem ?_ | exact pr_e (by omega) (by omega) (by omega))
    exact g_iret F hr hlk hH hS hz zv_8 ⟨rfl, rfl, rfl, rfl, hv, hp, pf, by first | omega | rfl | (dsimp only; omega), by (try dsimp only); rw [hfin]; first | done | omega | rfl, by (try dsimp only); rw [hfin]; exact hP, by (try dsimp only); omega, by (try dsimp only); first | exact pIm_n (by omega) | (rw [hfin]; (try dsimp only); exact pIm_y (by first | omega | rfl)) | exact pIm_y (by omega), by (try dsimp only); first | exact Or.inl (by omega) | exact Or.inr (by rw [hfin]; exact hcn), by (try dsimp only); first | exact Or.inl (by omega) | exact Or.inr ⟨rfl, by omega⟩⟩ dX1_readByColumn_17

def rmX1_readByColumnsf : Room := { frames := 3, cells := 0, slots := 0, locals := 64 }
set_option maxHeartbeats 4000000 in
set_option maxRecDepth 100000 in
/-- the columns of a group -/
theorem c_X1_readByColumnsf (l : Launch) (g : gG) (gh : gGh) (q ln : Nat) (c5 : Int) (b : tTx) (n : Nat) (tl : Int) (nr : Nat) (nt : Nat → Nat) (cl : Nat → Int) (h : Nat) (I : gI) (R : gR) (J : gJ) (AI : gI) (AJ : gJ) (AR : gR) (a : Nat) (hv : gInv g gh R AR I AI) (hp : pS g gh R I a q ln) (hk : (I ln 0).toInt = 7) (hP : pH gh AR I J AI AJ a q b n tl nr nt cl h) (hc5 : (I ln 5).toInt = c5) (hk8 : (I ln 8).toInt = 0) : gMet l g yX1_readByColumns wsX1_readByColumns rmX1_readByColumnsf [.ref a] (I, R, J, AI, AJ, AR) (gQi g (fun (z : Int) (w : gS) => R = w.2.1 ∧ J = w.2.2.1 ∧ AJ = w.2.2.2.2.1 ∧ AR = w.2.2.2.2.2 ∧ (gInv g gh R AR (w.1) (w.2.2.2.1)) ∧ (pS g gh R (w.1) a q ln) ∧ (pF a ln I (w.1)) ∧ (0 ≤ z ∧ z ≤ 4) ∧ (z = (sBys b n c5 4 0 [] h).1) ∧ (pH gh AR (w.1) J (w.2.2.2.1) AJ a q b n tl nr nt cl (sBys b n c5 4 0 [] h).2.1) ∧ (((w.1) ln 5).toInt = (I ln 5).toInt ∧ ((w.1) ln 6).toInt = (I ln 6).toInt) ∧ (pIm z (((w.1) ln 8).toInt) ((sBys b n c5 4 0 [] h).2.2)) ∧ (True))) := by
  refine gStart (cc := cX1_readByColumns) (maxL := 3) (ret := (some (.int))) (by decide) rfl (Nat.le_of_ble_eq_true rfl) ?_
  intro p e s m below meth c ls F hr hlk hH hz hS hl
  have hl : lv_has ls 3 [(0, .ref a)] := hl
  have hS : va_S (gA g) s.heap s.heap [] := hS
  obtain ⟨H, hHe⟩ : ∃ H : Heap, H = s.heap := ⟨_, rfl⟩
  obtain ⟨locs, hlo⟩ : ∃ k : List Loc, k = [] := ⟨_, rfl⟩
  have hH : gH g I R J AI AJ AR H := by rw [hHe]; exact hH
  have hS : va_S (gA g) s.heap H locs := by rw [hHe, hlo]; exact hS
  suffices hw : W p l e rmX1_readByColumnsf s m ([.ref a] : List Value).toArray below meth c H locs 0 0 (MQ below (gQi g (fun (z : Int) (w : gS) => R = w.2.1 ∧ J = w.2.2.1 ∧ AJ = w.2.2.2.2.1 ∧ AR = w.2.2.2.2.2 ∧ (gInv g gh R AR (w.1) (w.2.2.2.1)) ∧ (pS g gh R (w.1) a q ln) ∧ (pF a ln I (w.1)) ∧ (0 ≤ z ∧ z ≤ 4) ∧ (z = (sBys b n c5 4 0 [] h).1) ∧ (pH gh AR (w.1) J (w.2.2.2.1) AJ a q b n tl nr nt cl (sBys b n c5 4 0 [] h).2.1) ∧ (((w.1) ln 5).toInt = (I ln 5).toInt ∧ ((w.1) ln 6).toInt = (I ln 6).toInt) ∧ (pIm z (((w.1) ln 8).toInt) ((sBys b n c5 4 0 [] h).2.2)) ∧ (True))) ([.ref a] : List Value).toArray s 0 0 (gA g)) (F0 m 0 ls []) by
    rw [hHe, hlo] at hw; exact hw
  clear hHe hlo
  have pf : pF a ln I I := pF_r
  refine z_iconst F dX1_readByColumns_0 ?_
  refine lv_istore_n (lv' := [(1, .int (iI 0)), (0, .ref a)]) F.1 F.2.1 dX1_readByColumns_1 rfl hl (by decide) rfl (fun ls hl => ?_)
  have cut_2_2 : ∀ (NN : Nat) (i : Int) (I_1 : gI) (AI_2 : gI) (H : Heap) (locs : List Loc) (ls : Array Slot), zr i → (gInv g gh R AR I_1 AI_2) → (pS g gh R I_1 a q ln) → (pF a ln I I_1) → ((I_1 ln 0).toInt = 7) → (0 ≤ i ∧ i ≤ 4) → (pH gh AR I_1 J AI_2 AJ a q b n tl nr nt cl (I_1 a 3).toInt.toNat) → (∃ L : List Int, sBys b n c5 4 0 [] h = sBys b n c5 (4 - i).toNat i L (I_1 a 3).toInt.toNat ∧ pBn (AI_2 (gh 3 ln)) i L) → ((I_1 ln 8).toInt = i ∧ (I_1 ln 5).toInt = c5 ∧ (I_1 ln 6).toInt = (I ln 6).toInt) → (4 - i) < ((NN : Nat) : Int) → gH g I_1 R J AI_2 AJ AR H → va_S (gA g) s.heap H locs → lv_has ls 3 [(1, .int (iI i)), (0, .ref a)] → W p l e rmX1_readByColumnsf s m ([.ref a] : List Value).toArray below meth c H locs 0 0 (MQ below (gQi g (fun (z : Int) (w : gS) => R = w.2.1 ∧ J = w.2.2.1 ∧ AJ = w.2.2.2.2.1 ∧ AR = w.2.2.2.2.2 ∧ (gInv g gh R AR (w.1) (w.2.2.2.1)) ∧ (pS g gh R (w.1) a q ln) ∧ (pF a ln I (w.1)) ∧ (0 ≤ z ∧ z ≤ 4) ∧ (z = (sBys b n c5 4 0 [] h).1) ∧ (pH gh AR (w.1) J (w.2.2.2.1) AJ a q b n tl nr nt cl (sBys b n c5 4 0 [] h).2.1) ∧ (((w.1) ln 5).toInt = (I ln 5).toInt ∧ ((w.1) ln 6).toInt = (I ln 6).toInt) ∧ (pIm z (((w.1) ln 8).toInt) ((sBys b n c5 4 0 [] h).2.2)) ∧ (True))) ([.ref a] : List Value).toArray s 0 0 (gA g)) (F0 m 2 ls []) := by
    intro NN2
    induction NN2 with
    | zero =>
      intro i I_1 AI_2 H locs ls zi hv hp pf hk hi hP hLL hk8l hm2 hH hS hl
      exact absurd hm2 (by omega)
    | succ NN2 ih2 =>
      intro i I_1 AI_2 H locs ls zi hv hp pf hk hi hP hLL hk8l hm2 hH hS hl
      obtain ⟨hc, ehc⟩ : ∃ x, x = (I_1 a 3).toInt.toNat := ⟨_, rfl⟩
      rw [← ehc] at hP hLL
      obtain ⟨L, hsq, hcn⟩ := hLL
      refine lv_iload_n F.1 F.2.1 dX1_readByColumns_2 rfl (lv_at hl 0 rfl) ?_
      refine z_iconst F dX1_readByColumns_3 ?_
      refine z_icmp_gt (tgt := 37) F dX1_readByColumns_4 (by decide) zi ⟨by decide, by decide⟩ (fun c_4 => ?_) (fun c_4 => ?_)
      · refine z_iconst F dX1_readByColumns_37 ?_
        have hfin : sBys b n c5 4 0 [] h = (4, hc, 0) := sBys_z hsq (by omega)
        exact g_iret F hr hlk hH hS hz ⟨by decide, by decide⟩ ⟨rfl, rfl, rfl, rfl, hv, hp, pf, by first | omega | rfl | (dsimp only; omega), by (try dsimp only); rw [hfin]; first | done | omega | rfl, by (try dsimp only); rw [hfin]; exact hP, by (try dsimp only); omega, by (try dsimp only); first | exact pIm_n (by omega) | (rw [hfin]; (try dsimp only); exact pIm_y (by first | omega | rfl)) | exact pIm_y (by omega), trivial⟩ dX1_readByColumns_38
      · refine lv_aload_n F.1 F.2.1 dX1_readByColumns_7 rfl (lv_at hl 1 rfl) ?_
        refine g_calli (g_runV (As := []) (rest := []) (ci := 1) F hl.1 hH hS hz (c_X1_readByColumnf l g gh q ln c5 i L b n tl nr nt cl hc I_1 R J AI_2 AJ AR a hv hp (by omega) hP (by omega) (by omega) hcn) (cwV 0 F.2.2.2.2.1 gX1_readByColumns_X1_readByColumn rfl rfl rfl hdX1_readByColumn ⟨Nat.le_of_ble_eq_true rfl, Nat.le_of_ble_eq_true rfl⟩) hp.1 (by decide) rfl rfl rfl (Nat.le_of_ble_eq_true rfl) dX1_readByColumns_8 ⟨Nat.zero_le _, Nat.zero_le _⟩) hS (fun v_11 I_5 R_6 J_7 AI_8 AJ_9 AR_10 H locs zv_11 hp_12 hH hS => ?_)
        dsimp only at hp_12
        obtain ⟨r_13, er_13⟩ : ∃ qQ : pR, qQ = sBy b n c5 i L hc := ⟨_, rfl⟩
        rw [← er_13] at hp_12
        obtain ⟨rfl, rfl, rfl, rfl, hv, hp, pfq, q_14, q_15, hP, q_16, q_17, qcn, qkn⟩ := hp_12
        have pf := pF_t pf pfq
        have u_18q : (I_5 q 1).toInt = (I_1 q 1).toInt := by rw [pF_q hp pfq]
        have u_18_0 : (I_5 ln 0).toInt = (I_1 ln 0).toInt := by rw [pfq.2]
        refine lv_istore_n (lv' := [(2, .int (iI v_11)), (1, .int (iI i)), (0, .ref a)]) F.1 F.2.1 dX1_readByColumns_11 rfl hl (by decide) rfl (fun ls hl => ?_)
        refine lv_iload_n F.1 F.2.1 dX1_readByColumns_12 rfl (lv_at hl 0 rfl) ?_
        refine z_if_ne (tgt := 25) F dX1_readByColumns_13 (by decide) zv_11 (fun c_19 => ?_) (fun c_19 => ?_)
        · refine lv_iload_n F.1 F.2.1 dX1_readByColumns_25 rfl (lv_at hl 0 rfl) ?_
          have hfin : sBys b n c5 4 0 [] h = r_13 := sBys_no hsq (f := (3 - i).toNat) (by omega) er_13 (by omega)
          exact g_iret F hr hlk hH hS hz zv_11 ⟨rfl, rfl, rfl, rfl, hv, hp, pf, by first | omega | rfl | (dsimp only; omega), by (try dsimp only); rw [hfin]; first | done | omega | rfl, by (try dsimp only); rw [hfin]; exact hP, by (try dsimp only); omega, by (try dsimp only); first | exact pIm_n (by omega) | (rw [hfin]; (try dsimp only); exact pIm_y (by first | omega | rfl)) | exact pIm_y (by omega) | (rw [hfin]; (try dsimp only); exact fun h9 => by have q9 := q_17 h9; (try dsimp only at q9); omega), trivial⟩ dX1_readByColumns_26
        · have t_20 := q_17 (by omega)
          have hcn := qcn.resolve_left (fun h => h (by omega))
          refine lv_aload_n F.1 F.2.1 dX1_readByColumns_16 rfl (lv_at hl 2 rfl) ?_
          refine z_bipush F dX1_readByColumns_17 (by decide) ?_
          refine g_calli (g_runV (As := [.int (iI 44)]) (rest := []) (ci := 1) F hl.1 hH hS hz (c_X1_isKindf l g gh q b n tl nr nt cl r_13.2.1 I_5 R J AI_8 AJ AR a 44 ⟨by decide, by decide⟩ hv hp.1 (by first | exact hp.2.2.2.2.2.2.2 | exact hh | omega) hP) (cwV 1 F.2.2.2.2.1 gX1_readByColumns_X1_isKind rfl rfl rfl hdX1_isKind ⟨Nat.le_of_ble_eq_true rfl, Nat.le_of_ble_eq_true rfl⟩) hp.1 (by decide) rfl rfl rfl (Nat.le_of_ble_eq_true rfl) dX1_readByColumns_19 ⟨Nat.zero_le _, Nat.zero_le _⟩) hS (fun v_27 I_21 R_22 J_23 AI_24 AJ_25 AR_26 H locs zv_27 hp_28 hH hS => ?_)
          dsimp only at hp_28
          obtain ⟨rfl, rfl, rfl, rfl, rfl, rfl, q_29, q_30⟩ := hp_28
          refine z_if_ne (tgt := 27) F dX1_readByColumns_22 (by decide) zv_27 (fun c_31 => ?_) (fun c_31 => ?_)
          · have t_32 := tIz_1 q_30 (by omega)
            refine lv_aload_n F.1 F.2.1 dX1_readByColumns_27 rfl (lv_at hl 2 rfl) ?_
            have hv0 := hv
            refine g_callv (g_runV (As := []) (rest := []) (ci := 1) F hl.1 hH hS hz (c_X1_stepf l g gh q b n tl nr nt cl r_13.2.1 I_5 R J AI_8 AJ AR a hv hp.1 (by first | exact hp.2.2.2.2.2.2.2 | exact hh | omega) hP (by first | exact hp.2.2.1 | exact hq) (by omega)) (cwV 0 F.2.2.2.2.1 gX1_readByColumns_X1_step rfl rfl rfl hdX1_step ⟨Nat.le_of_ble_eq_true rfl, Nat.le_of_ble_eq_true rfl⟩) hp.1 (by decide) rfl rfl rfl (Nat.le_of_ble_eq_true rfl) dX1_readByColumns_28 ⟨Nat.zero_le _, Nat.zero_le _⟩) hS (fun I_33 R_34 J_35 AI_36 AJ_37 AR_38 H locs hp_39 hH hS => ?_)
            dsimp only at hp_39
            obtain ⟨rfl, rfl, rfl, rfl, rfl, hv, fs, hs, hP⟩ := hp_39
            have hP : pH gh AR I_33 J AI_8 AJ a q b n tl nr nt cl (r_13.2.1 + 1) := hP
            obtain ⟨hp, pfq, fls⟩ := pS_step hv0 hp fs hs
            have pf := pF_t pf pfq
            have u_40q : (I_33 q 1).toInt = (I_5 q 1).toInt := by rw [pF_q hp pfq]
            have u_40_0 : (I_33 ln 0).toInt = (I_5 ln 0).toInt := by rw [fls]
            have u_40_8 : (I_33 ln 8).toInt = (I_5 ln 8).toInt := by rw [fls]
            have u_41 : (I_33 ln 2).toInt = (I_5 ln 2).toInt := by rw [fls]
            have u_42 : (I_33 ln 5).toInt = (I_5 ln 5).toInt := by rw [fls]
            have u_43 : (I_33 ln 6).toInt = (I_5 ln 6).toInt := by rw [fls]
            have u_44 : (I_33 ln 9).toInt = (I_5 ln 9).toInt := by rw [fls]
            have u_45 : (I_33 ln 10).toInt = (I_5 ln 10).toInt := by rw [fls]
            have hsq := sBys_go hsq (f := (3 - i).toNat) (by omega) er_13 (by omega) (by omega)
            refine z_iinc (lv' := [(1, .int (iI (i + 1))), (2, .int (iI v_11)), (0, .ref a)]) F dX1_readByColumns_31 hl (k := 1) rfl (by decide) rfl (fun ls hl => ?_)
            refine z_goto (tgt := 2) F dX1_readByColumns_34 (by decide) ?_
            exact ih2 (i + 1) I_33 AI_8 H locs ls ⟨by omega, by omega⟩ hv hp pf (by omega) (by omega) (by rw [pH_n hP]; exact hP) ⟨r_13.2.2 :: L, by rw [pH_n hP, show (4 - (i + 1)).toNat = (3 - i).toNat by omega]; exact hsq, hcn⟩ (by omega) (by omega) hH hS (lv_sub hl [0, 2] rfl)
          · have t_46 := tIz_0 q_30 (by omega)
            refine lv_iload_n F.1 F.2.1 dX1_readByColumns_25 rfl (lv_at hl 0 rfl) ?_
            have hfin : sBys b n c5 4 0 [] h = (0, r_13.2.1, i + 1) := sBys_st hsq (f := (3 - i).toNat) (by omega) er_13 (by omega) (by omega)
            exact g_iret F hr hlk hH hS hz zv_11 ⟨rfl, rfl, rfl, rfl, hv, hp, pf, by first | omega | rfl | (dsimp only; omega), by (try dsimp only); rw [hfin]; first | done | omega | rfl, by (try dsimp only); rw [hfin]; exact hP, by (try dsimp only); omega, by (try dsimp only); first | exact pIm_n (by omega) | (rw [hfin]; (try dsimp only); exact pIm_y (by first | omega | rfl)) | exact pIm_y (by omega) | (rw [hfin]; (try dsimp only); exact fun h9 => by have q9 := q_17 h9; (try dsimp only at q9); omega), trivial⟩ dX1_readByColumns_26
  exact cut_2_2 (((4 - 0) + 1 : Int).toNat) 0 I AI H locs ls ⟨by decide, by decide⟩ hv hp pf (by omega) (by omega) (by rw [pH_n hP]; exact hP) ⟨[], by rw [pH_n hP]; rfl, pBn_0 (by omega)⟩ (by omega) (by omega) hH hS (lv_sub hl [0, 1] rfl)

def rmX1_readFoldf : Room := { frames := 2, cells := 0, slots := 0, locals := 42 }
set_option maxHeartbeats 4000000 in
set_option maxRecDepth 100000 in
/-- the fold of a group -/
theorem c_X1_readFoldf (l : Launch) (g : gG) (gh : gGh) (q ln : Nat) (c5 x7 : Int) (b : tTx) (n : Nat) (tl : Int) (nr : Nat) (nt : Nat → Nat) (cl : Nat → Int) (h : Nat) (I : gI) (R : gR) (J : gJ) (AI : gI) (AJ : gJ) (AR : gR) (a : Nat) (hv : gInv g gh R AR I AI) (hp : pS g gh R I a q ln) (hk : (I ln 0).toInt = 7) (hP : pH gh AR I J AI AJ a q b n tl nr nt cl h) (hc5 : (I ln 5).toInt = c5) : gMet l g yX1_readFold wsX1_readFold rmX1_readFoldf [.ref a] (I, R, J, AI, AJ, AR) (gQi g (fun (z : Int) (w : gS) => R = w.2.1 ∧ J = w.2.2.1 ∧ AI = w.2.2.2.1 ∧ AJ = w.2.2.2.2.1 ∧ AR = w.2.2.2.2.2 ∧ (gInv g gh R AR (w.1) AI) ∧ (pS g gh R (w.1) a q ln) ∧ (pF a ln I (w.1)) ∧ (0 ≤ z ∧ z ≤ 4) ∧ (z = (sFo b n c5 x7 h).1) ∧ (pH gh AR (w.1) J AI AJ a q b n tl nr nt cl (sFo b n c5 x7 h).2.1) ∧ (((w.1) ln 5).toInt = (I ln 5).toInt ∧ ((w.1) ln 8).toInt = (I ln 8).toInt) ∧ (pIm z ((sFo b n c5 x7 h).2.2) (x7)))) := by
  refine gStart (cc := cX1_readFold) (maxL := 3) (ret := (some (.int))) (by decide) rfl (Nat.le_of_ble_eq_true rfl) ?_
  intro p e s m below meth c ls F hr hlk hH hz hS hl
  have hl : lv_has ls 3 [(0, .ref a)] := hl
  have hS : va_S (gA g) s.heap s.heap [] := hS
  obtain ⟨H, hHe⟩ : ∃ H : Heap, H = s.heap := ⟨_, rfl⟩
  obtain ⟨locs, hlo⟩ : ∃ k : List Loc, k = [] := ⟨_, rfl⟩
  have hH : gH g I R J AI AJ AR H := by rw [hHe]; exact hH
  have hS : va_S (gA g) s.heap H locs := by rw [hHe, hlo]; exact hS
  suffices hw : W p l e rmX1_readFoldf s m ([.ref a] : List Value).toArray below meth c H locs 0 0 (MQ below (gQi g (fun (z : Int) (w : gS) => R = w.2.1 ∧ J = w.2.2.1 ∧ AI = w.2.2.2.1 ∧ AJ = w.2.2.2.2.1 ∧ AR = w.2.2.2.2.2 ∧ (gInv g gh R AR (w.1) AI) ∧ (pS g gh R (w.1) a q ln) ∧ (pF a ln I (w.1)) ∧ (0 ≤ z ∧ z ≤ 4) ∧ (z = (sFo b n c5 x7 h).1) ∧ (pH gh AR (w.1) J AI AJ a q b n tl nr nt cl (sFo b n c5 x7 h).2.1) ∧ (((w.1) ln 5).toInt = (I ln 5).toInt ∧ ((w.1) ln 8).toInt = (I ln 8).toInt) ∧ (pIm z ((sFo b n c5 x7 h).2.2) (x7)))) ([.ref a] : List Value).toArray s 0 0 (gA g)) (F0 m 0 ls []) by
    rw [hHe, hlo] at hw; exact hw
  clear hHe hlo
  have pf : pF a ln I I := pF_r
  have iX5 : ∀ w ∈ u_ws RX5 TX5 5, w ∈ wsX1_readFold := (by decide +kernel)
  have iX1 : ∀ w ∈ u_ws RX1 TX1 4, w ∈ wsX1_readFold := (by decide +kernel)
  have iX0 : ∀ w ∈ u_ws RX0 TX0 15, w ∈ wsX1_readFold := (by decide +kernel)
  have k12 : Cond.fieldLink RX1 12 (TX1 0).1 (TX1 0).2.1 (TX1 0).2.2.1 ∈ wsX1_readFold := List.mem_of_getElem? (i := 1) rfl
  have k71 : Cond.fieldLink RX1 71 (TX5 2).1 (TX5 2).2.1 (TX5 2).2.2.1 ∈ wsX1_readFold := List.mem_of_getElem? (i := 2) rfl
  have k44 : Cond.fieldLink RX1 44 (TX1 3).1 (TX1 3).2.1 (TX1 3).2.2.1 ∈ wsX1_readFold := List.mem_of_getElem? (i := 3) rfl
  have k29 : Cond.fieldLink RX1 29 (TX1 2).1 (TX1 2).2.1 (TX1 2).2.2.1 ∈ wsX1_readFold := List.mem_of_getElem? (i := 4) rfl
  have k223 : Cond.fieldLink RX1 223 (TX0 11).1 (TX0 11).2.1 (TX0 11).2.2.1 ∈ wsX1_readFold := List.mem_of_getElem? (i := 5) rfl
  have k226 : Cond.fieldLink RX1 226 (TX0 12).1 (TX0 12).2.1 (TX0 12).2.2.1 ∈ wsX1_readFold := List.mem_of_getElem? (i := 6) rfl
  have k143 : Cond.fieldLink RX1 143 (TX0 5).1 (TX0 5).2.1 (TX0 5).2.2.1 ∈ wsX1_readFold := List.mem_of_getElem? (i := 7) rfl
  refine lv_aload_n F.1 F.2.1 dX1_readFold_0 rfl (lv_at hl 0 rfl) ?_
  refine g_getR (ci := 1) (k := 0) F hH rfl (by decide) iX1 hp.1 (by decide) rfl (b := gh 22 0) (gR_pr0 hv hp.1).1 k12 dX1_readFold_1 ?_
  obtain ⟨r_1a, r_1b⟩ := gR_tk2 hv (gR_pr0 hv hp.1).2
  refine g_getR (ci := 5) (k := 2) F hH rfl (by decide) iX5 (gR_pr0 hv hp.1).2 (by decide) rfl (b := gh 26 0) r_1a k71 dX1_readFold_4 ?_
  refine lv_aload_n F.1 F.2.1 dX1_readFold_7 rfl (lv_at hl 0 rfl) ?_
  refine g_getI (ci := 1) (k := 3) F hH rfl (by decide) iX1 hp.1 (by decide) rfl k44 dX1_readFold_8 ?_
  have b_2h := hp.2.2.2.2.2.2.2
  have b_2 := gI_pr hv hp.1
  have b_2t := gI_tk hv (gR_pr0 hv hp.1).2
  have hx11 : 0 ≤ ((I a 3).toInt) ∧ ((I a 3).toInt) < ((901 : Nat) : Int) ∧ ((I a 3).toInt) ≤ 2147483647 := ⟨by omega, by omega, by omega⟩
  refine g_iald F hH r_1b hx11.1 hx11.2.1 hx11.2.2 dX1_readFold_11 ?_
  refine z_name (fun v_3 ev_3 => ?_)
  have zv_3 : zr v_3 := by rw [ev_3]; exact zr_t _
  have t11 : v_3 = pV b n (h) := by rw [ev_3]; exact pH_V hP
  refine lv_istore_n (lv' := [(1, .int (iI v_3)), (0, .ref a)]) F.1 F.2.1 dX1_readFold_12 rfl hl (by decide) rfl (fun ls hl => ?_)
  refine lv_aload_n F.1 F.2.1 dX1_readFold_13 rfl (lv_at hl 1 rfl) ?_
  refine z_iconst F dX1_readFold_14 ?_
  refine g_calli (g_runV (As := [.int (iI 3)]) (rest := []) (ci := 1) F hl.1 hH hS hz (c_X1_isKindf l g gh q b n tl nr nt cl h I R J AI AJ AR a 3 ⟨by decide, by decide⟩ hv hp.1 (by first | exact hp.2.2.2.2.2.2.2 | exact hh | omega) hP) (cwV 1 F.2.2.2.2.1 gX1_readFold_X1_isKind rfl rfl rfl hdX1_isKind ⟨Nat.le_of_ble_eq_true rfl, Nat.le_of_ble_eq_true rfl⟩) hp.1 (by decide) rfl rfl rfl (Nat.le_of_ble_eq_true rfl) dX1_readFold_15 ⟨Nat.zero_le _, Nat.zero_le _⟩) hS (fun v_10 I_4 R_5 J_6 AI_7 AJ_8 AR_9 H locs zv_10 hp_11 hH hS => ?_)
  dsimp only at hp_11
  obtain ⟨rfl, rfl, rfl, rfl, rfl, rfl, q_12, q_13⟩ := hp_11
  refine z_if_eq (tgt := 33) F dX1_readFold_18 (by decide) zv_10 (fun c_14 => ?_) (fun c_14 => ?_)
  · have t_15 := tIz_0 q_13 (by omega)
    refine z_iconst F dX1_readFold_33 ?_
    have hfin : sFo b n c5 x7 h = (1, h, 0) := by
      unfold sFo
      repeat (first | with_reducible rfl | refine ite_y (by omega) ?_ | refine ite_n (by omega) ?_ | exact pr_e (by omega) (by omega) (by omega))
    exact g_iret F hr hlk hH hS hz ⟨by decide, by decide⟩ ⟨rfl, rfl, rfl, rfl, rfl, hv, hp, pf, by first | omega | rfl | (dsimp only; omega), by (try dsimp only); rw [hfin]; first | done | omega | rfl, by (try dsimp only); rw [hfin]; exact hP, by (try dsimp only); omega, by (try dsimp only); first | exact pIm_n (by omega) | (rw [hfin]; (try dsimp only); exact pIm_y (by first | omega | rfl)) | exact pIm_y (by omega)⟩ dX1_readFold_34
  · have t_16 := tIz_1 q_13 (by omega)
    refine lv_iload_n F.1 F.2.1 dX1_readFold_21 rfl (lv_at hl 0 rfl) ?_
    refine z_bipush F dX1_readFold_22 (by decide) ?_
    refine z_icmp_lt (tgt := 33) F dX1_readFold_24 (by decide) zv_3 ⟨by decide, by decide⟩ (fun c_17 => ?_) (fun c_17 => ?_)
    · refine z_iconst F dX1_readFold_33 ?_
      have hfin : sFo b n c5 x7 h = (1, h, 0) := by
        unfold sFo
        repeat (first | with_reducible rfl | refine ite_y (by omega) ?_ | refine ite_n (by omega) ?_ | exact pr_e (by omega) (by omega) (by omega))
      exact g_iret F hr hlk hH hS hz ⟨by decide, by decide⟩ ⟨rfl, rfl, rfl, rfl, rfl, hv, hp, pf, by first | omega | rfl | (dsimp only; omega), by (try dsimp only); rw [hfin]; first | done | omega | rfl, by (try dsimp only); rw [hfin]; exact hP, by (try dsimp only); omega, by (try dsimp only); first | exact pIm_n (by omega) | (rw [hfin]; (try dsimp only); exact pIm_y (by first | omega | rfl)) | exact pIm_y (by omega)⟩ dX1_readFold_34
    · refine lv_iload_n F.1 F.2.1 dX1_readFold_27 rfl (lv_at hl 0 rfl) ?_
      refine z_bipush F dX1_readFold_28 (by decide) ?_
      refine z_icmp_le (tgt := 35) F dX1_readFold_30 (by decide) zv_3 ⟨by decide, by decide⟩ (fun c_18 => ?_) (fun c_18 => ?_)
      · refine lv_aload_n F.1 F.2.1 dX1_readFold_35 rfl (lv_at hl 1 rfl) ?_
        refine g_getR (ci := 1) (k := 2) F hH rfl (by decide) iX1 hp.1 (by decide) rfl (b := ln) hp.2.2.2.1 k29 dX1_readFold_36 ?_
        refine lv_iload_n F.1 F.2.1 dX1_readFold_39 rfl (lv_at hl 0 rfl) ?_
        refine g_putI (ci := 0) (k := 11) F hH hS rfl (by decide) iX0 hp.2.2.2.2.1 (by decide) tyX0 tyX0_ok nmX0 rfl rfl rfl k223 dX1_readFold_40 (fun H locs hH hS => ?_)
        obtain ⟨I_19, eI_19⟩ : ∃ qQ, qQ = gup2 I ln 11 (iI (v_3)) := ⟨_, rfl⟩
        rw [← eI_19] at hH
        have kI_19 : ∀ b, b ≠ ln → I_19 b = I b := fun b hb => by rw [eI_19]; exact funext fun j => gup2_a _ _ hb
        have hP := pH_ln hv hp hP kI_19
        have hp2 : pS g gh R I_19 a q ln := pS_ln hv hp kI_19
        have hv : gInv g gh R AR I_19 AI := by rw [eI_19]; exact gInv_line11 hv hp.2.2.2.2.1
        have hp := hp2
        have pf : pF a ln I I_19 := pF_t pf (by rw [eI_19]; exact pF_ln (by decide))
        have w_20_k : ∀ j, j ≠ 11 → I_19 ln j = I ln j := fun j hj => by rw [eI_19]; exact gup2_k _ _ hj
        have u_21q : (I_19 q 1).toInt = (I q 1).toInt := by rw [kI_19 q (gO_ne hp.2.2.1 hp.2.2.2.2.1 (by decide))]
        have u_21_0 : (I_19 ln 0).toInt = (I ln 0).toInt := by rw [w_20_k 0 (by decide)]
        have u_21_8 : (I_19 ln 8).toInt = (I ln 8).toInt := by rw [w_20_k 8 (by decide)]
        have u_22 : (I_19 ln 2).toInt = (I ln 2).toInt := by rw [w_20_k 2 (by decide)]
        have u_23 : (I_19 ln 5).toInt = (I ln 5).toInt := by rw [w_20_k 5 (by decide)]
        have u_24 : (I_19 ln 6).toInt = (I ln 6).toInt := by rw [w_20_k 6 (by decide)]
        have u_25 : (I_19 ln 9).toInt = (I ln 9).toInt := by rw [w_20_k 9 (by decide)]
        have u_26 : (I_19 ln 10).toInt = (I ln 10).toInt := by rw [w_20_k 10 (by decide)]
        refine lv_aload_n F.1 F.2.1 dX1_readFold_43 rfl (lv_at hl 1 rfl) ?_
        refine g_getR (ci := 1) (k := 2) F hH rfl (by decide) iX1 hp.1 (by decide) rfl (b := ln) hp.2.2.2.1 k29 dX1_readFold_44 ?_
        refine z_iconst F dX1_readFold_47 ?_
        refine g_putI (ci := 0) (k := 12) F hH hS rfl (by decide) iX0 hp.2.2.2.2.1 (by decide) tyX0 tyX0_ok nmX0 rfl rfl rfl k226 dX1_readFold_48 (fun H locs hH hS => ?_)
        obtain ⟨I_27, eI_27⟩ : ∃ qQ, qQ = gup2 I_19 ln 12 (iI (0)) := ⟨_, rfl⟩
        rw [← eI_27] at hH
        have kI_27 : ∀ b, b ≠ ln → I_27 b = I_19 b := fun b hb => by rw [eI_27]; exact funext fun j => gup2_a _ _ hb
        have hP := pH_ln hv hp hP kI_27
        have w_28 : (I_27 ln 12).toInt = 0 := by rw [eI_27, gup2_s]; exact iI_val ⟨by omega, by omega⟩
        have hp2 : pS g gh R I_27 a q ln := pS_ln hv hp kI_27
        have hv : gInv g gh R AR I_27 AI := by rw [eI_27]; exact gInv_line12 hv hp.2.2.2.2.1 (by omega) (by omega)
        have hp := hp2
        have pf : pF a ln I I_27 := pF_t pf (by rw [eI_27]; exact pF_ln (by decide))
        have w_28_k : ∀ j, j ≠ 12 → I_27 ln j = I_19 ln j := fun j hj => by rw [eI_27]; exact gup2_k _ _ hj
        have u_29q : (I_27 q 1).toInt = (I_19 q 1).toInt := by rw [kI_27 q (gO_ne hp.2.2.1 hp.2.2.2.2.1 (by decide))]
        have u_29_0 : (I_27 ln 0).toInt = (I_19 ln 0).toInt := by rw [w_28_k 0 (by decide)]
        have u_29_8 : (I_27 ln 8).toInt = (I_19 ln 8).toInt := by rw [w_28_k 8 (by decide)]
        have u_30 : (I_27 ln 2).toInt = (I_19 ln 2).toInt := by rw [w_28_k 2 (by decide)]
        have u_31 : (I_27 ln 5).toInt = (I_19 ln 5).toInt := by rw [w_28_k 5 (by decide)]
        have u_32 : (I_27 ln 6).toInt = (I_19 ln 6).toInt := by rw [w_28_k 6 (by decide)]
        have u_33 : (I_27 ln 9).toInt = (I_19 ln 9).toInt := by rw [w_28_k 9 (by decide)]
        have u_34 : (I_27 ln 10).toInt = (I_19 ln 10).toInt := by rw [w_28_k 10 (by decide)]
        refine lv_aload_n F.1 F.2.1 dX1_readFold_51 rfl (lv_at hl 1 rfl) ?_
        have hv0 := hv
        refine g_callv (g_runV (As := []) (rest := []) (ci := 1) F hl.1 hH hS hz (c_X1_stepf l g gh q b n tl nr nt cl h I_27 R J AI AJ AR a hv hp.1 (by first | exact hp.2.2.2.2.2.2.2 | exact hh | omega) hP (by first | exact hp.2.2.1 | exact hq) (by omega)) (cwV 0 F.2.2.2.2.1 gX1_readFold_X1_step rfl rfl rfl hdX1_step ⟨Nat.le_of_ble_eq_true rfl, Nat.le_of_ble_eq_true rfl⟩) hp.1 (by decide) rfl rfl rfl (Nat.le_of_ble_eq_true rfl) dX1_readFold_52 ⟨Nat.zero_le _, Nat.zero_le _⟩) hS (fun I_35 R_36 J_37 AI_38 AJ_39 AR_40 H locs hp_41 hH hS => ?_)
        dsimp only at hp_41
        obtain ⟨rfl, rfl, rfl, rfl, rfl, hv, fs, hs, hP⟩ := hp_41
        have hP : pH gh AR I_35 J AI AJ a q b n tl nr nt cl (h + 1) := hP
        obtain ⟨hp, pfq, fls⟩ := pS_step hv0 hp fs hs
        have pf := pF_t pf pfq
        have u_42q : (I_35 q 1).toInt = (I_27 q 1).toInt := by rw [pF_q hp pfq]
        have u_42_0 : (I_35 ln 0).toInt = (I_27 ln 0).toInt := by rw [fls]
        have u_42_8 : (I_35 ln 8).toInt = (I_27 ln 8).toInt := by rw [fls]
        have u_43 : (I_35 ln 2).toInt = (I_27 ln 2).toInt := by rw [fls]
        have u_44 : (I_35 ln 5).toInt = (I_27 ln 5).toInt := by rw [fls]
        have u_45 : (I_35 ln 6).toInt = (I_27 ln 6).toInt := by rw [fls]
        have u_46 : (I_35 ln 9).toInt = (I_27 ln 9).toInt := by rw [fls]
        have u_47 : (I_35 ln 10).toInt = (I_27 ln 10).toInt := by rw [fls]
        refine lv_iload_n F.1 F.2.1 dX1_readFold_55 rfl (lv_at hl 0 rfl) ?_
        refine z_bipush F dX1_readFold_56 (by decide) ?_
        refine z_icmp_ne (tgt := 63) F dX1_readFold_58 (by decide) zv_3 ⟨by decide, by decide⟩ (fun c_48 => ?_) (fun c_48 => ?_)
        · refine lv_aload_n F.1 F.2.1 dX1_readFold_63 rfl (lv_at hl 1 rfl) ?_
          refine lv_aload_n F.1 F.2.1 dX1_readFold_64 rfl (lv_at hl 1 rfl) ?_
          refine g_getR (ci := 1) (k := 2) F hH rfl (by decide) iX1 hp.1 (by decide) rfl (b := ln) hp.2.2.2.1 k29 dX1_readFold_65 ?_
          refine g_getI (ci := 0) (k := 5) F hH rfl (by decide) iX0 hp.2.2.2.2.1 (by decide) rfl k143 dX1_readFold_68 ?_
          have b_49 := gI_line hv hp.2.2.2.2.1
          unfold vLineI at b_49
          refine g_calli (g_runV (As := [.int (iI ((I_35 ln 5).toInt))]) (rest := []) (ci := 1) F hl.1 hH hS hz (c_X1_seeColumnf l g gh q b n tl nr nt cl (h + 1) I_35 R J AI AJ AR a ((I_35 ln 5).toInt) (zr_t _) hv hp.1 (by first | exact hp.2.2.2.2.2.2.2 | exact hh | omega) hP) (cwV 1 F.2.2.2.2.1 gX1_readFold_X1_seeColumn rfl rfl rfl hdX1_seeColumn ⟨Nat.le_of_ble_eq_true rfl, Nat.le_of_ble_eq_true rfl⟩) hp.1 (by decide) rfl rfl rfl (Nat.le_of_ble_eq_true rfl) dX1_readFold_71 ⟨Nat.zero_le _, Nat.zero_le _⟩) hS (fun v_56 I_50 R_51 J_52 AI_53 AJ_54 AR_55 H locs zv_56 hp_57 hH hS => ?_)
          dsimp only at hp_57
          rw [show (I_35 ln 5).toInt = c5 by omega] at hp_57
          obtain ⟨rfl, rfl, rfl, rfl, rfl, rfl, s1, s2, s3⟩ := hp_57
          refine lv_istore_n (lv' := [(2, .int (iI v_56)), (1, .int (iI v_3)), (0, .ref a)]) F.1 F.2.1 dX1_readFold_74 rfl hl (by decide) rfl (fun ls hl => ?_)
          refine lv_iload_n F.1 F.2.1 dX1_readFold_75 rfl (lv_at hl 0 rfl) ?_
          refine z_if_ne (tgt := 102) F dX1_readFold_76 (by decide) zv_56 (fun c_58 => ?_) (fun c_58 => ?_)
          · refine lv_iload_n F.1 F.2.1 dX1_readFold_102 rfl (lv_at hl 0 rfl) ?_
            have hfin : sFo b n c5 x7 h = (v_56, h + 1, 0) := by
              unfold sFo
              repeat (first | with_reducible rfl | refine ite_y (by omega) ?_ | refine ite_n (by omega) ?_ | exact pr_e (by omega) (by omega) (by omega))
            exact g_iret F hr hlk hH hS hz zv_56 ⟨rfl, rfl, rfl, rfl, rfl, hv, hp, pf, by first | omega | rfl | (dsimp only; omega), by (try dsimp only); rw [hfin]; first | done | omega | rfl, by (try dsimp only); rw [hfin]; exact hP, by (try dsimp only); omega, by (try dsimp only); first | exact pIm_n (by omega) | (rw [hfin]; (try dsimp only); exact pIm_y (by first | omega | rfl)) | exact pIm_y (by omega)⟩ dX1_readFold_103
          · have t_59 := pCf_0 (b := b) (n := n) (c := c5) (h := h + 1) (by omega)
            refine lv_aload_n F.1 F.2.1 dX1_readFold_79 rfl (lv_at hl 2 rfl) ?_
            refine g_getR (ci := 1) (k := 2) F hH rfl (by decide) iX1 hp.1 (by decide) rfl (b := ln) hp.2.2.2.1 k29 dX1_readFold_80 ?_
            refine lv_aload_n F.1 F.2.1 dX1_readFold_83 rfl (lv_at hl 2 rfl) ?_
            refine g_getR (ci := 1) (k := 0) F hH rfl (by decide) iX1 hp.1 (by decide) rfl (b := gh 22 0) (gR_pr0 hv hp.1).1 k12 dX1_readFold_84 ?_
            refine g_getR (ci := 5) (k := 2) F hH rfl (by decide) iX5 (gR_pr0 hv hp.1).2 (by decide) rfl (b := gh 26 0) r_1a k71 dX1_readFold_87 ?_
            refine lv_aload_n F.1 F.2.1 dX1_readFold_90 rfl (lv_at hl 2 rfl) ?_
            refine g_getI (ci := 1) (k := 3) F hH rfl (by decide) iX1 hp.1 (by decide) rfl k44 dX1_readFold_91 ?_
            have b_60h := hp.2.2.2.2.2.2.2
            have b_60 := gI_pr hv hp.1
            have b_60t := gI_tk hv (gR_pr0 hv hp.1).2
            have hx94 : 0 ≤ ((I_35 a 3).toInt) ∧ ((I_35 a 3).toInt) < ((901 : Nat) : Int) ∧ ((I_35 a 3).toInt) ≤ 2147483647 := ⟨by omega, by omega, by omega⟩
            refine g_iald F hH r_1b hx94.1 hx94.2.1 hx94.2.2 dX1_readFold_94 ?_
            refine z_name (fun v_61 ev_61 => ?_)
            have zv_61 : zr v_61 := by rw [ev_61]; exact zr_t _
            have t94 : v_61 = pV b n (h + 1) := by rw [ev_61]; exact pH_V hP
            refine g_putI (ci := 0) (k := 12) F hH hS rfl (by decide) iX0 hp.2.2.2.2.1 (by decide) tyX0 tyX0_ok nmX0 rfl rfl rfl k226 dX1_readFold_95 (fun H locs hH hS => ?_)
            obtain ⟨I_62, eI_62⟩ : ∃ qQ, qQ = gup2 I_35 ln 12 (iI (v_61)) := ⟨_, rfl⟩
            rw [← eI_62] at hH
            have kI_62 : ∀ b, b ≠ ln → I_62 b = I_35 b := fun b hb => by rw [eI_62]; exact funext fun j => gup2_a _ _ hb
            have hP := pH_ln hv hp hP kI_62
            have w_63 : (I_62 ln 12).toInt = v_61 := by rw [eI_62, gup2_s]; exact iI_val ⟨by omega, by omega⟩
            have hp2 : pS g gh R I_62 a q ln := pS_ln hv hp kI_62
            have hv : gInv g gh R AR I_62 AI := by rw [eI_62]; exact gInv_line12 hv hp.2.2.2.2.1 (by omega) (by omega)
            have hp := hp2
            have pf : pF a ln I I_62 := pF_t pf (by rw [eI_62]; exact pF_ln (by decide))
            have w_63_k : ∀ j, j ≠ 12 → I_62 ln j = I_35 ln j := fun j hj => by rw [eI_62]; exact gup2_k _ _ hj
            have u_64q : (I_62 q 1).toInt = (I_35 q 1).toInt := by rw [kI_62 q (gO_ne hp.2.2.1 hp.2.2.2.2.1 (by decide))]
            have u_64_0 : (I_62 ln 0).toInt = (I_35 ln 0).toInt := by rw [w_63_k 0 (by decide)]
            have u_64_8 : (I_62 ln 8).toInt = (I_35 ln 8).toInt := by rw [w_63_k 8 (by decide)]
            have u_65 : (I_62 ln 2).toInt = (I_35 ln 2).toInt := by rw [w_63_k 2 (by decide)]
            have u_66 : (I_62 ln 5).toInt = (I_35 ln 5).toInt := by rw [w_63_k 5 (by decide)]
            have u_67 : (I_62 ln 6).toInt = (I_35 ln 6).toInt := by rw [w_63_k 6 (by decide)]
            have u_68 : (I_62 ln 9).toInt = (I_35 ln 9).toInt := by rw [w_63_k 9 (by decide)]
            have u_69 : (I_62 ln 10).toInt = (I_35 ln 10).toInt := by rw [w_63_k 10 (by decide)]
            refine lv_aload_n F.1 F.2.1 dX1_readFold_98 rfl (lv_at hl 2 rfl) ?_
            have hv0 := hv
            refine g_callv (g_runV (As := []) (rest := []) (ci := 1) F hl.1 hH hS hz (c_X1_stepf l g gh q b n tl nr nt cl (h + 1) I_62 R J AI AJ AR a hv hp.1 (by first | exact hp.2.2.2.2.2.2.2 | exact hh | omega) hP (by first | exact hp.2.2.1 | exact hq) (by omega)) (cwV 0 F.2.2.2.2.1 gX1_readFold_X1_step rfl rfl rfl hdX1_step ⟨Nat.le_of_ble_eq_true rfl, Nat.le_of_ble_eq_true rfl⟩) hp.1 (by decide) rfl rfl rfl (Nat.le_of_ble_eq_true rfl) dX1_readFold_99 ⟨Nat.zero_le _, Nat.zero_le _⟩) hS (fun I_70 R_71 J_72 AI_73 AJ_74 AR_75 H locs hp_76 hH hS => ?_)
            dsimp only at hp_76
            obtain ⟨rfl, rfl, rfl, rfl, rfl, hv, fs, hs, hP⟩ := hp_76
            have hP : pH gh AR I_70 J AI AJ a q b n tl nr nt cl (h + 2) := hP
            obtain ⟨hp, pfq, fls⟩ := pS_step hv0 hp fs hs
            have pf := pF_t pf pfq
            have u_77q : (I_70 q 1).toInt = (I_62 q 1).toInt := by rw [pF_q hp pfq]
            have u_77_0 : (I_70 ln 0).toInt = (I_62 ln 0).toInt := by rw [fls]
            have u_77_8 : (I_70 ln 8).toInt = (I_62 ln 8).toInt := by rw [fls]
            have u_78 : (I_70 ln 2).toInt = (I_62 ln 2).toInt := by rw [fls]
            have u_79 : (I_70 ln 5).toInt = (I_62 ln 5).toInt := by rw [fls]
            have u_80 : (I_70 ln 6).toInt = (I_62 ln 6).toInt := by rw [fls]
            have u_81 : (I_70 ln 9).toInt = (I_62 ln 9).toInt := by rw [fls]
            have u_82 : (I_70 ln 10).toInt = (I_62 ln 10).toInt := by rw [fls]
            refine lv_iload_n F.1 F.2.1 dX1_readFold_102 rfl (lv_at hl 0 rfl) ?_
            have hfin : sFo b n c5 x7 h = (v_56, h + 2, x7) := by
              unfold sFo
              repeat (first | with_reducible rfl | refine ite_y (by omega) ?_ | refine ite_n (by omega) ?_ | exact pr_e (by omega) (by omega) (by omega))
            exact g_iret F hr hlk hH hS hz zv_56 ⟨rfl, rfl, rfl, rfl, rfl, hv, hp, pf, by first | omega | rfl | (dsimp only; omega), by (try dsimp only); rw [hfin]; first | done | omega | rfl, by (try dsimp only); rw [hfin]; exact hP, by (try dsimp only); omega, by (try dsimp only); first | exact pIm_n (by omega) | (rw [hfin]; (try dsimp only); exact pIm_y (by first | omega | rfl)) | exact pIm_y (by omega)⟩ dX1_readFold_103
        · refine z_iconst F dX1_readFold_61 ?_
          have hfin : sFo b n c5 x7 h = (0, h + 1, x7) := by
            unfold sFo
            repeat (first | with_reducible rfl | refine ite_y (by omega) ?_ | refine ite_n (by omega) ?_ | exact pr_e (by omega) (by omega) (by omega))
          exact g_iret F hr hlk hH hS hz ⟨by decide, by decide⟩ ⟨rfl, rfl, rfl, rfl, rfl, hv, hp, pf, by first | omega | rfl | (dsimp only; omega), by (try dsimp only); rw [hfin]; first | done | omega | rfl, by (try dsimp only); rw [hfin]; exact hP, by (try dsimp only); omega, by (try dsimp only); first | exact pIm_n (by omega) | (rw [hfin]; (try dsimp only); exact pIm_y (by first | omega | rfl)) | exact pIm_y (by omega)⟩ dX1_readFold_62
      · refine z_iconst F dX1_readFold_33 ?_
        have hfin : sFo b n c5 x7 h = (1, h, 0) := by
          unfold sFo
          repeat (first | with_reducible rfl | refine ite_y (by omega) ?_ | refine ite_n (by omega) ?_ | exact pr_e (by omega) (by omega) (by omega))
        exact g_iret F hr hlk hH hS hz ⟨by decide, by decide⟩ ⟨rfl, rfl, rfl, rfl, rfl, hv, hp, pf, by first | omega | rfl | (dsimp only; omega), by (try dsimp only); rw [hfin]; first | done | omega | rfl, by (try dsimp only); rw [hfin]; exact hP, by (try dsimp only); omega, by (try dsimp only); first | exact pIm_n (by omega) | (rw [hfin]; (try dsimp only); exact pIm_y (by first | omega | rfl)) | exact pIm_y (by omega)⟩ dX1_readFold_34
