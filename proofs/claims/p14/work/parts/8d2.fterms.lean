def rmX1_readTestg : Room := { frames := 2, cells := 0, slots := 0, locals := 42 }
set_option maxHeartbeats 4000000 in
set_option maxRecDepth 100000 in
/-- a test -/
theorem c_X1_readTestg (l : Launch) (g : gG) (gh : gGh) (q ln : Nat) (c5 k8 : Int) (b : tTx) (n : Nat) (tl : Int) (nr : Nat) (nt : Nat → Nat) (cl : Nat → Int) (h : Nat) (I : gI) (R : gR) (J : gJ) (AI : gI) (AJ : gJ) (AR : gR) (a : Nat) (hv : gInv g gh R AR I AI) (hp : pS g gh R I a q ln) (hk : (I ln 0).toInt = 1) (hP : pH gh AR I J AI AJ a q b n tl nr nt cl h) (hc5 : (I ln 5).toInt = c5) (hk8 : (I ln 8).toInt = k8) : gMet l g yX1_readTest wsX1_readTest rmX1_readTestg [.ref a] (I, R, J, AI, AJ, AR) (gQi g (fun (z : Int) (w : gS) => R = w.2.1 ∧ J = w.2.2.1 ∧ AJ = w.2.2.2.2.1 ∧ AR = w.2.2.2.2.2 ∧ (gInv g gh R AR (w.1) (w.2.2.2.1)) ∧ (pS g gh R (w.1) a q ln) ∧ (pF a ln I (w.1)) ∧ (0 ≤ z ∧ z ≤ 4) ∧ (z = (sTest b n c5 k8 h).1) ∧ (pH gh AR (w.1) J (w.2.2.2.1) AJ a q b n tl nr nt cl (sTest b n c5 k8 h).2.1) ∧ (((w.1) ln 5).toInt = (I ln 5).toInt ∧ ((w.1) ln 6).toInt = (I ln 6).toInt ∧ ((w.1) ln 3).toInt = (I ln 3).toInt ∧ ((w.1) ln 4).toInt = (I ln 4).toInt ∧ ((w.1) ln 9).toInt = (I ln 9).toInt ∧ ((w.1) ln 10).toInt = (I ln 10).toInt ∧ ((w.1) ln 11).toInt = (I ln 11).toInt ∧ ((w.1) ln 12).toInt = (I ln 12).toInt) ∧ (pIm z (((w.1) ln 8).toInt) (k8 + 1)) ∧ (∀ b, b ≠ gh 3 ln → (w.2.2.2.1) b = AI b) ∧ (zIf z (qTest b n ((w.2.2.2.1) (gh 3 ln)) k8.toNat h)) ∧ (∀ j : Nat, (j : Int) < 4 * k8 → (w.2.2.2.1) (gh 3 ln) j = AI (gh 3 ln) j))) := by
  refine gStart (cc := cX1_readTest) (maxL := 6) (ret := (some (.int))) (by decide) rfl (Nat.le_of_ble_eq_true rfl) ?_
  intro p e s m below meth c ls F hr hlk hH hz hS hl
  have hl : lv_has ls 6 [(0, .ref a)] := hl
  have hS : va_S (gA g) s.heap s.heap [] := hS
  obtain ⟨H, hHe⟩ : ∃ H : Heap, H = s.heap := ⟨_, rfl⟩
  obtain ⟨locs, hlo⟩ : ∃ k : List Loc, k = [] := ⟨_, rfl⟩
  have hH : gH g I R J AI AJ AR H := by rw [hHe]; exact hH
  have hS : va_S (gA g) s.heap H locs := by rw [hHe, hlo]; exact hS
  suffices hw : W p l e rmX1_readTestg s m ([.ref a] : List Value).toArray below meth c H locs 0 0 (MQ below (gQi g (fun (z : Int) (w : gS) => R = w.2.1 ∧ J = w.2.2.1 ∧ AJ = w.2.2.2.2.1 ∧ AR = w.2.2.2.2.2 ∧ (gInv g gh R AR (w.1) (w.2.2.2.1)) ∧ (pS g gh R (w.1) a q ln) ∧ (pF a ln I (w.1)) ∧ (0 ≤ z ∧ z ≤ 4) ∧ (z = (sTest b n c5 k8 h).1) ∧ (pH gh AR (w.1) J (w.2.2.2.1) AJ a q b n tl nr nt cl (sTest b n c5 k8 h).2.1) ∧ (((w.1) ln 5).toInt = (I ln 5).toInt ∧ ((w.1) ln 6).toInt = (I ln 6).toInt ∧ ((w.1) ln 3).toInt = (I ln 3).toInt ∧ ((w.1) ln 4).toInt = (I ln 4).toInt ∧ ((w.1) ln 9).toInt = (I ln 9).toInt ∧ ((w.1) ln 10).toInt = (I ln 10).toInt ∧ ((w.1) ln 11).toInt = (I ln 11).toInt ∧ ((w.1) ln 12).toInt = (I ln 12).toInt) ∧ (pIm z (((w.1) ln 8).toInt) (k8 + 1)) ∧ (∀ b, b ≠ gh 3 ln → (w.2.2.2.1) b = AI b) ∧ (zIf z (qTest b n ((w.2.2.2.1) (gh 3 ln)) k8.toNat h)) ∧ (∀ j : Nat, (j : Int) < 4 * k8 → (w.2.2.2.1) (gh 3 ln) j = AI (gh 3 ln) j))) ([.ref a] : List Value).toArray s 0 0 (gA g)) (F0 m 0 ls []) by
    rw [hHe, hlo] at hw; exact hw
  clear hHe hlo
  have pf : pF a ln I I := pF_r
  have iX5 : ∀ w ∈ u_ws RX5 TX5 5, w ∈ wsX1_readTest := (by decide +kernel)
  have iX1 : ∀ w ∈ u_ws RX1 TX1 4, w ∈ wsX1_readTest := (by decide +kernel)
  have iX0 : ∀ w ∈ u_ws RX0 TX0 15, w ∈ wsX1_readTest := (by decide +kernel)
  have k29 : Cond.fieldLink RX1 29 (TX1 2).1 (TX1 2).2.1 (TX1 2).2.2.1 ∈ wsX1_readTest := List.mem_of_getElem? (i := 1) rfl
  have k143 : Cond.fieldLink RX1 143 (TX0 5).1 (TX0 5).2.1 (TX0 5).2.2.1 ∈ wsX1_readTest := List.mem_of_getElem? (i := 2) rfl
  have k149 : Cond.fieldLink RX1 149 (TX0 8).1 (TX0 8).2.1 (TX0 8).2.2.1 ∈ wsX1_readTest := List.mem_of_getElem? (i := 3) rfl
  have k12 : Cond.fieldLink RX1 12 (TX1 0).1 (TX1 0).2.1 (TX1 0).2.2.1 ∈ wsX1_readTest := List.mem_of_getElem? (i := 4) rfl
  have k71 : Cond.fieldLink RX1 71 (TX5 2).1 (TX5 2).2.1 (TX5 2).2.2.1 ∈ wsX1_readTest := List.mem_of_getElem? (i := 5) rfl
  have k44 : Cond.fieldLink RX1 44 (TX1 3).1 (TX1 3).2.1 (TX1 3).2.2.1 ∈ wsX1_readTest := List.mem_of_getElem? (i := 6) rfl
  have k47 : Cond.fieldLink RX1 47 (TX5 0).1 (TX5 0).2.1 (TX5 0).2.2.1 ∈ wsX1_readTest := List.mem_of_getElem? (i := 7) rfl
  refine lv_aload_n F.1 F.2.1 dX1_readTest_0 rfl (lv_at hl 0 rfl) ?_
  refine lv_aload_n F.1 F.2.1 dX1_readTest_1 rfl (lv_at hl 0 rfl) ?_
  refine g_getR (ci := 1) (k := 2) F hH rfl (by decide) iX1 hp.1 (by decide) rfl (b := ln) hp.2.2.2.1 k29 dX1_readTest_2 ?_
  refine g_getI (ci := 0) (k := 5) F hH rfl (by decide) iX0 hp.2.2.2.2.1 (by decide) rfl k143 dX1_readTest_5 ?_
  have b_1 := gI_line hv hp.2.2.2.2.1
  unfold vLineI at b_1
  refine g_calli (g_runV (As := [.int (iI ((I ln 5).toInt))]) (rest := []) (ci := 1) F hl.1 hH hS hz (c_X1_seeColumng l g gh q b n tl nr nt cl h I R J AI AJ AR a ((I ln 5).toInt) (zr_t _) hv hp.1 (by first | exact hp.2.2.2.2.2.2.2 | exact hh | omega) hP) (cwV 1 F.2.2.2.2.1 gX1_readTest_X1_seeColumn rfl rfl rfl hdX1_seeColumn ⟨Nat.le_of_ble_eq_true rfl, Nat.le_of_ble_eq_true rfl⟩) hp.1 (by decide) rfl rfl rfl (Nat.le_of_ble_eq_true rfl) dX1_readTest_8 ⟨Nat.zero_le _, Nat.zero_le _⟩) hS (fun v_8 I_2 R_3 J_4 AI_5 AJ_6 AR_7 H locs zv_8 hp_9 hH hS => ?_)
  dsimp only at hp_9
  rw [show (I ln 5).toInt = c5 by omega] at hp_9
  obtain ⟨rfl, rfl, rfl, rfl, rfl, rfl, s1, s2, s3⟩ := hp_9
  refine lv_istore_n (lv' := [(1, .int (iI v_8)), (0, .ref a)]) F.1 F.2.1 dX1_readTest_11 rfl hl (by decide) rfl (fun ls hl => ?_)
  refine lv_iload_n F.1 F.2.1 dX1_readTest_12 rfl (lv_at hl 0 rfl) ?_
  refine z_if_eq (tgt := 18) F dX1_readTest_13 (by decide) zv_8 (fun c_10 => ?_) (fun c_10 => ?_)
  · have t_11 := pCf_0 (b := b) (n := n) (c := c5) (h := h) (by omega)
    refine lv_aload_n F.1 F.2.1 dX1_readTest_18 rfl (lv_at hl 1 rfl) ?_
    refine g_getR (ci := 1) (k := 2) F hH rfl (by decide) iX1 hp.1 (by decide) rfl (b := ln) hp.2.2.2.1 k29 dX1_readTest_19 ?_
    refine g_getI (ci := 0) (k := 8) F hH rfl (by decide) iX0 hp.2.2.2.2.1 (by decide) rfl k149 dX1_readTest_22 ?_
    refine z_bipush F dX1_readTest_25 (by decide) ?_
    refine z_icmp_lt (tgt := 32) F dX1_readTest_27 (by decide) (zr_t _) ⟨by decide, by decide⟩ (fun c_12 => ?_) (fun c_12 => ?_)
    · refine lv_aload_n F.1 F.2.1 dX1_readTest_32 rfl (lv_at hl 1 rfl) ?_
      refine g_getR (ci := 1) (k := 0) F hH rfl (by decide) iX1 hp.1 (by decide) rfl (b := gh 22 0) (gR_pr0 hv hp.1).1 k12 dX1_readTest_33 ?_
      obtain ⟨r_13a, r_13b⟩ := gR_tk2 hv (gR_pr0 hv hp.1).2
      refine g_getR (ci := 5) (k := 2) F hH rfl (by decide) iX5 (gR_pr0 hv hp.1).2 (by decide) rfl (b := gh 26 0) r_13a k71 dX1_readTest_36 ?_
      refine lv_aload_n F.1 F.2.1 dX1_readTest_39 rfl (lv_at hl 1 rfl) ?_
      refine g_getI (ci := 1) (k := 3) F hH rfl (by decide) iX1 hp.1 (by decide) rfl k44 dX1_readTest_40 ?_
      have b_14h := hp.2.2.2.2.2.2.2
      have b_14 := gI_pr hv hp.1
      have b_14t := gI_tk hv (gR_pr0 hv hp.1).2
      have hx43 : 0 ≤ ((I a 3).toInt) ∧ ((I a 3).toInt) < ((901 : Nat) : Int) ∧ ((I a 3).toInt) ≤ 2147483647 := ⟨by omega, by omega, by omega⟩
      refine g_iald F hH r_13b hx43.1 hx43.2.1 hx43.2.2 dX1_readTest_43 ?_
      refine z_name (fun v_15 ev_15 => ?_)
      have zv_15 : zr v_15 := by rw [ev_15]; exact zr_t _
      have t43 : v_15 = pV b n (h) := by rw [ev_15]; exact pH_V hP
      refine lv_istore_n (lv' := [(2, .int (iI v_15)), (1, .int (iI v_8)), (0, .ref a)]) F.1 F.2.1 dX1_readTest_44 rfl hl (by decide) rfl (fun ls hl => ?_)
      refine lv_aload_n F.1 F.2.1 dX1_readTest_45 rfl (lv_at hl 2 rfl) ?_
      have hv0 := hv
      refine g_callv (g_runV (As := []) (rest := []) (ci := 1) F hl.1 hH hS hz (c_X1_stepg l g gh q b n tl nr nt cl h I R J AI AJ AR a hv hp.1 (by first | exact hp.2.2.2.2.2.2.2 | exact hh | omega) hP (by first | exact hp.2.2.1 | exact hq) (by omega)) (cwV 0 F.2.2.2.2.1 gX1_readTest_X1_step rfl rfl rfl hdX1_step ⟨Nat.le_of_ble_eq_true rfl, Nat.le_of_ble_eq_true rfl⟩) hp.1 (by decide) rfl rfl rfl (Nat.le_of_ble_eq_true rfl) dX1_readTest_46 ⟨Nat.zero_le _, Nat.zero_le _⟩) hS (fun I_16 R_17 J_18 AI_19 AJ_20 AR_21 H locs hp_22 hH hS => ?_)
      dsimp only at hp_22
      obtain ⟨rfl, rfl, rfl, rfl, rfl, hv, fs, hs, hP⟩ := hp_22
      have hP : pH gh AR I_16 J AI AJ a q b n tl nr nt cl (h + 1) := hP
      obtain ⟨hp, pfq, fls⟩ := pS_step hv0 hp fs hs
      have pf := pF_t pf pfq
      have u_23q : (I_16 q 1).toInt = (I q 1).toInt := by rw [pF_q hp pfq]
      have u_23_0 : (I_16 ln 0).toInt = (I ln 0).toInt := by rw [fls]
      have u_23_8 : (I_16 ln 8).toInt = (I ln 8).toInt := by rw [fls]
      have u_24 : (I_16 ln 2).toInt = (I ln 2).toInt := by rw [fls]
      have u_25 : (I_16 ln 3).toInt = (I ln 3).toInt := by rw [fls]
      have u_26 : (I_16 ln 4).toInt = (I ln 4).toInt := by rw [fls]
      have u_27 : (I_16 ln 5).toInt = (I ln 5).toInt := by rw [fls]
      have u_28 : (I_16 ln 6).toInt = (I ln 6).toInt := by rw [fls]
      have u_29 : (I_16 ln 9).toInt = (I ln 9).toInt := by rw [fls]
      have u_30 : (I_16 ln 10).toInt = (I ln 10).toInt := by rw [fls]
      have u_31 : (I_16 ln 11).toInt = (I ln 11).toInt := by rw [fls]
      have u_32 : (I_16 ln 12).toInt = (I ln 12).toInt := by rw [fls]
      refine lv_aload_n F.1 F.2.1 dX1_readTest_49 rfl (lv_at hl 2 rfl) ?_
      refine g_getR (ci := 1) (k := 0) F hH rfl (by decide) iX1 hp.1 (by decide) rfl (b := gh 22 0) (gR_pr0 hv hp.1).1 k12 dX1_readTest_50 ?_
      obtain ⟨r_33a, r_33b⟩ := gR_tk0 hv (gR_pr0 hv hp.1).2
      refine g_getR (ci := 5) (k := 0) F hH rfl (by decide) iX5 (gR_pr0 hv hp.1).2 (by decide) rfl (b := gh 24 0) r_33a k47 dX1_readTest_53 ?_
      refine lv_aload_n F.1 F.2.1 dX1_readTest_56 rfl (lv_at hl 2 rfl) ?_
      refine g_getI (ci := 1) (k := 3) F hH rfl (by decide) iX1 hp.1 (by decide) rfl k44 dX1_readTest_57 ?_
      have b_34h := hp.2.2.2.2.2.2.2
      have b_34 := gI_pr hv hp.1
      have b_34t := gI_tk hv (gR_pr0 hv hp.1).2
      have hx60 : 0 ≤ ((I_16 a 3).toInt) ∧ ((I_16 a 3).toInt) < ((901 : Nat) : Int) ∧ ((I_16 a 3).toInt) ≤ 2147483647 := ⟨by omega, by omega, by omega⟩
      refine g_iald F hH r_33b hx60.1 hx60.2.1 hx60.2.2 dX1_readTest_60 ?_
      refine z_name (fun v_35 ev_35 => ?_)
      have zv_35 : zr v_35 := by rw [ev_35]; exact zr_t _
      have t60 : v_35 = pK b n (h + 1) := by rw [ev_35]; exact pH_K hP
      refine lv_istore_n (lv' := [(3, .int (iI v_35)), (2, .int (iI v_15)), (1, .int (iI v_8)), (0, .ref a)]) F.1 F.2.1 dX1_readTest_61 rfl hl (by decide) rfl (fun ls hl => ?_)
      refine lv_iload_n F.1 F.2.1 dX1_readTest_62 rfl (lv_at hl 0 rfl) ?_
      refine z_bipush F dX1_readTest_63 (by decide) ?_
      refine z_icmp_eq (tgt := 82) F dX1_readTest_65 (by decide) zv_35 ⟨by decide, by decide⟩ (fun c_36 => ?_) (fun c_36 => ?_)
      · refine lv_aload_n F.1 F.2.1 dX1_readTest_82 rfl (lv_at hl 3 rfl) ?_
        have hv0 := hv
        refine g_callv (g_runV (As := []) (rest := []) (ci := 1) F hl.1 hH hS hz (c_X1_stepg l g gh q b n tl nr nt cl (h + 1) I_16 R J AI AJ AR a hv hp.1 (by first | exact hp.2.2.2.2.2.2.2 | exact hh | omega) hP (by first | exact hp.2.2.1 | exact hq) (by omega)) (cwV 0 F.2.2.2.2.1 gX1_readTest_X1_step rfl rfl rfl hdX1_step ⟨Nat.le_of_ble_eq_true rfl, Nat.le_of_ble_eq_true rfl⟩) hp.1 (by decide) rfl rfl rfl (Nat.le_of_ble_eq_true rfl) dX1_readTest_83 ⟨Nat.zero_le _, Nat.zero_le _⟩) hS (fun I_37 R_38 J_39 AI_40 AJ_41 AR_42 H locs hp_43 hH hS => ?_)
        dsimp only at hp_43
        obtain ⟨rfl, rfl, rfl, rfl, rfl, hv, fs, hs, hP⟩ := hp_43
        have hP : pH gh AR I_37 J AI AJ a q b n tl nr nt cl (h + 2) := hP
        obtain ⟨hp, pfq, fls⟩ := pS_step hv0 hp fs hs
        have pf := pF_t pf pfq
        have u_44q : (I_37 q 1).toInt = (I_16 q 1).toInt := by rw [pF_q hp pfq]
        have u_44_0 : (I_37 ln 0).toInt = (I_16 ln 0).toInt := by rw [fls]
        have u_44_8 : (I_37 ln 8).toInt = (I_16 ln 8).toInt := by rw [fls]
        have u_45 : (I_37 ln 2).toInt = (I_16 ln 2).toInt := by rw [fls]
        have u_46 : (I_37 ln 3).toInt = (I_16 ln 3).toInt := by rw [fls]
        have u_47 : (I_37 ln 4).toInt = (I_16 ln 4).toInt := by rw [fls]
        have u_48 : (I_37 ln 5).toInt = (I_16 ln 5).toInt := by rw [fls]
        have u_49 : (I_37 ln 6).toInt = (I_16 ln 6).toInt := by rw [fls]
        have u_50 : (I_37 ln 9).toInt = (I_16 ln 9).toInt := by rw [fls]
        have u_51 : (I_37 ln 10).toInt = (I_16 ln 10).toInt := by rw [fls]
        have u_52 : (I_37 ln 11).toInt = (I_16 ln 11).toInt := by rw [fls]
        have u_53 : (I_37 ln 12).toInt = (I_16 ln 12).toInt := by rw [fls]
        refine lv_aload_n F.1 F.2.1 dX1_readTest_86 rfl (lv_at hl 3 rfl) ?_
        refine z_iconst F dX1_readTest_87 ?_
        refine g_calli (g_runV (As := [.int (iI 4)]) (rest := []) (ci := 1) F hl.1 hH hS hz (c_X1_isKindg l g gh q b n tl nr nt cl (h + 2) I_37 R J AI AJ AR a 4 ⟨by decide, by decide⟩ hv hp.1 (by first | exact hp.2.2.2.2.2.2.2 | exact hh | omega) hP) (cwV 1 F.2.2.2.2.1 gX1_readTest_X1_isKind rfl rfl rfl hdX1_isKind ⟨Nat.le_of_ble_eq_true rfl, Nat.le_of_ble_eq_true rfl⟩) hp.1 (by decide) rfl rfl rfl (Nat.le_of_ble_eq_true rfl) dX1_readTest_88 ⟨Nat.zero_le _, Nat.zero_le _⟩) hS (fun v_60 I_54 R_55 J_56 AI_57 AJ_58 AR_59 H locs zv_60 hp_61 hH hS => ?_)
        dsimp only at hp_61
        obtain ⟨rfl, rfl, rfl, rfl, rfl, rfl, q_62, q_63⟩ := hp_61
        refine lv_istore (lv' := [(4, .int (iI v_60)), (3, .int (iI v_35)), (2, .int (iI v_15)), (1, .int (iI v_8)), (0, .ref a)]) F.1 F.2.1 dX1_readTest_91 hl (by decide) rfl (fun ls hl => ?_)
        refine lv_iload F.1 F.2.1 dX1_readTest_93 (lv_at hl 0 rfl) ?_
        refine z_if_eq (tgt := 102) F dX1_readTest_95 (by decide) zv_60 (fun c_64 => ?_) (fun c_64 => ?_)
        · have t_65 := tIz_0 q_63 (by omega)
          refine lv_aload_n F.1 F.2.1 dX1_readTest_102 rfl (lv_at hl 4 rfl) ?_
          refine lv_aload_n F.1 F.2.1 dX1_readTest_103 rfl (lv_at hl 4 rfl) ?_
          refine g_getR (ci := 1) (k := 2) F hH rfl (by decide) iX1 hp.1 (by decide) rfl (b := ln) hp.2.2.2.1 k29 dX1_readTest_104 ?_
          refine g_getI (ci := 0) (k := 5) F hH rfl (by decide) iX0 hp.2.2.2.2.1 (by decide) rfl k143 dX1_readTest_107 ?_
          have b_66 := gI_line hv hp.2.2.2.2.1
          unfold vLineI at b_66
          refine g_calli (g_runV (As := [.int (iI ((I_37 ln 5).toInt))]) (rest := []) (ci := 1) F hl.1 hH hS hz (c_X1_seeColumng l g gh q b n tl nr nt cl (h + 2) I_37 R J AI AJ AR a ((I_37 ln 5).toInt) (zr_t _) hv hp.1 (by first | exact hp.2.2.2.2.2.2.2 | exact hh | omega) hP) (cwV 1 F.2.2.2.2.1 gX1_readTest_X1_seeColumn rfl rfl rfl hdX1_seeColumn ⟨Nat.le_of_ble_eq_true rfl, Nat.le_of_ble_eq_true rfl⟩) hp.1 (by decide) rfl rfl rfl (Nat.le_of_ble_eq_true rfl) dX1_readTest_110 ⟨Nat.zero_le _, Nat.zero_le _⟩) hS (fun v_73 I_67 R_68 J_69 AI_70 AJ_71 AR_72 H locs zv_73 hp_74 hH hS => ?_)
          dsimp only at hp_74
          rw [show (I_37 ln 5).toInt = c5 by omega] at hp_74
          obtain ⟨rfl, rfl, rfl, rfl, rfl, rfl, t1, t2, t3⟩ := hp_74
          refine lv_istore_n (lv' := [(1, .int (iI v_73)), (4, .int (iI v_60)), (3, .int (iI v_35)), (2, .int (iI v_15)), (0, .ref a)]) F.1 F.2.1 dX1_readTest_113 rfl hl (by decide) rfl (fun ls hl => ?_)
          refine lv_iload_n F.1 F.2.1 dX1_readTest_114 rfl (lv_at hl 0 rfl) ?_
          refine z_if_eq (tgt := 120) F dX1_readTest_115 (by decide) zv_73 (fun c_75 => ?_) (fun c_75 => ?_)
          · have t_76 := pCf_0 (b := b) (n := n) (c := c5) (h := h + 2) (by omega)
            refine lv_aload_n F.1 F.2.1 dX1_readTest_120 rfl (lv_at hl 4 rfl) ?_
            refine g_getR (ci := 1) (k := 0) F hH rfl (by decide) iX1 hp.1 (by decide) rfl (b := gh 22 0) (gR_pr0 hv hp.1).1 k12 dX1_readTest_121 ?_
            refine g_getR (ci := 5) (k := 2) F hH rfl (by decide) iX5 (gR_pr0 hv hp.1).2 (by decide) rfl (b := gh 26 0) r_13a k71 dX1_readTest_124 ?_
            refine lv_aload_n F.1 F.2.1 dX1_readTest_127 rfl (lv_at hl 4 rfl) ?_
            refine g_getI (ci := 1) (k := 3) F hH rfl (by decide) iX1 hp.1 (by decide) rfl k44 dX1_readTest_128 ?_
            have b_77h := hp.2.2.2.2.2.2.2
            have b_77 := gI_pr hv hp.1
            have b_77t := gI_tk hv (gR_pr0 hv hp.1).2
            have hx131 : 0 ≤ ((I_37 a 3).toInt) ∧ ((I_37 a 3).toInt) < ((901 : Nat) : Int) ∧ ((I_37 a 3).toInt) ≤ 2147483647 := ⟨by omega, by omega, by omega⟩
            refine g_iald F hH r_13b hx131.1 hx131.2.1 hx131.2.2 dX1_readTest_131 ?_
            refine z_name (fun v_78 ev_78 => ?_)
            have zv_78 : zr v_78 := by rw [ev_78]; exact zr_t _
            have t131 : v_78 = pV b n (h + 2) := by rw [ev_78]; exact pH_V hP
            refine lv_istore (lv' := [(5, .int (iI v_78)), (1, .int (iI v_73)), (4, .int (iI v_60)), (3, .int (iI v_35)), (2, .int (iI v_15)), (0, .ref a)]) F.1 F.2.1 dX1_readTest_132 hl (by decide) rfl (fun ls hl => ?_)
            refine lv_aload_n F.1 F.2.1 dX1_readTest_134 rfl (lv_at hl 5 rfl) ?_
            refine g_getR (ci := 1) (k := 2) F hH rfl (by decide) iX1 hp.1 (by decide) rfl (b := ln) hp.2.2.2.1 k29 dX1_readTest_135 ?_
            refine lv_iload_n F.1 F.2.1 dX1_readTest_138 rfl (lv_at hl 4 rfl) ?_
            refine lv_iload_n F.1 F.2.1 dX1_readTest_139 rfl (lv_at hl 3 rfl) ?_
            refine lv_iload F.1 F.2.1 dX1_readTest_140 (lv_at hl 2 rfl) ?_
            refine z_if_eq (tgt := 149) F dX1_readTest_142 (by decide) zv_60 (fun c_79 => ?_) (fun c_79 => ?_)
            · have t_80 := tIz_0 q_63 (by omega)
              refine lv_iload F.1 F.2.1 dX1_readTest_149 (lv_at hl 0 rfl) ?_
              refine lv_iload F.1 F.2.1 dX1_readTest_151 (lv_at hl 0 rfl) ?_
              have hp0 := hp
              have hv0 := hv
              refine g_callv (g_runV (As := [.int (iI v_15), .int (iI v_35), .int (iI v_78), .int (iI v_78)]) (rest := []) (ci := 0) F hl.1 hH hS hz (c_X0_addTestg l g gh I_37 R J AI AJ AR ln v_15 v_35 v_78 v_78 zv_15 zv_35 zv_78 zv_78 hv hp.2.2.2.2.1 (by omega) (by omega) (by omega) (by omega)) (cwV 4 F.2.2.2.2.1 gX1_readTest_X0_addTest rfl rfl rfl hdX0_addTest ⟨Nat.le_of_ble_eq_true rfl, Nat.le_of_ble_eq_true rfl⟩) hp.2.2.2.2.1 (by decide) rfl rfl rfl (Nat.le_of_ble_eq_true rfl) dX1_readTest_153 ⟨Nat.zero_le _, Nat.zero_le _⟩) hS (fun I_81 R_82 J_83 AI_84 AJ_85 AR_86 H locs hp_87 hH hS => ?_)
              dsimp only at hp_87
              obtain ⟨rfl, rfl, rfl, rfl, hv, fI, fA, f0, f8, fk, fz, fv0, fv1, fv2, fv3⟩ := hp_87
              have hp := pS_ln hv0 hp fI
              have pf := pF_t pf (pF_o fI f0)
              have u_88q : (I_81 q 1).toInt = (I_37 q 1).toInt := by rw [fI q (gO_ne hp.2.2.1 hp.2.2.2.2.1 (by decide))]
              have u_88_0 : (I_81 ln 0).toInt = (I_37 ln 0).toInt := by rw [f0]
              have hP := pH_ai hv hp.1 hp.2.2.2.2.1 (pH_ln hv0 hp0 hP fI) fA
              have u_89 : (I_81 ln 2).toInt = (I_37 ln 2).toInt := by rw [fk 2 (by decide)]
              have u_90 : (I_81 ln 3).toInt = (I_37 ln 3).toInt := by rw [fk 3 (by decide)]
              have u_91 : (I_81 ln 4).toInt = (I_37 ln 4).toInt := by rw [fk 4 (by decide)]
              have u_92 : (I_81 ln 5).toInt = (I_37 ln 5).toInt := by rw [fk 5 (by decide)]
              have u_93 : (I_81 ln 6).toInt = (I_37 ln 6).toInt := by rw [fk 6 (by decide)]
              have u_94 : (I_81 ln 9).toInt = (I_37 ln 9).toInt := by rw [fk 9 (by decide)]
              have u_95 : (I_81 ln 10).toInt = (I_37 ln 10).toInt := by rw [fk 10 (by decide)]
              have u_96 : (I_81 ln 11).toInt = (I_37 ln 11).toInt := by rw [fk 11 (by decide)]
              have u_97 : (I_81 ln 12).toInt = (I_37 ln 12).toInt := by rw [fk 12 (by decide)]
              have hP : pH gh AR I_81 J AI_84 AJ a q b n tl nr nt cl (h + 2) := hP
              have hct : qTest b n (AI_84 (gh 3 ln)) k8.toNat h := ⟨by rw [show 4 * k8.toNat = (4 * (I_37 ln 8).toInt + 0).toNat by omega, fv0]; omega, by rw [show 4 * k8.toNat + 1 = (4 * (I_37 ln 8).toInt + 1).toNat by omega, fv1]; omega, by rw [show 4 * k8.toNat + 2 = (4 * (I_37 ln 8).toInt + 2).toNat by omega, fv2]; first | rw [if_pos (by omega)] | (rw [if_neg (by omega)]; omega), by rw [show 4 * k8.toNat + 3 = (4 * (I_37 ln 8).toInt + 3).toNat by omega, fv3]; omega⟩
              have hfz : ∀ j : Nat, (j : Int) < 4 * k8 → AI_84 (gh 3 ln) j = AI (gh 3 ln) j := fun j hj => fz j (by omega)
              refine lv_aload_n F.1 F.2.1 dX1_readTest_156 rfl (lv_at hl 5 rfl) ?_
              have hv0 := hv
              refine g_callv (g_runV (As := []) (rest := []) (ci := 1) F hl.1 hH hS hz (c_X1_stepg l g gh q b n tl nr nt cl (h + 2) I_81 R J AI_84 AJ AR a hv hp.1 (by first | exact hp.2.2.2.2.2.2.2 | exact hh | omega) hP (by first | exact hp.2.2.1 | exact hq) (by omega)) (cwV 0 F.2.2.2.2.1 gX1_readTest_X1_step rfl rfl rfl hdX1_step ⟨Nat.le_of_ble_eq_true rfl, Nat.le_of_ble_eq_true rfl⟩) hp.1 (by decide) rfl rfl rfl (Nat.le_of_ble_eq_true rfl) dX1_readTest_157 ⟨Nat.zero_le _, Nat.zero_le _⟩) hS (fun I_98 R_99 J_100 AI_101 AJ_102 AR_103 H locs hp_104 hH hS => ?_)
              dsimp only at hp_104
              obtain ⟨rfl, rfl, rfl, rfl, rfl, hv, fs, hs, hP⟩ := hp_104
              have hP : pH gh AR I_98 J AI_84 AJ a q b n tl nr nt cl (h + 3) := hP
              obtain ⟨hp, pfq, fls⟩ := pS_step hv0 hp fs hs
              have pf := pF_t pf pfq
              have u_105q : (I_98 q 1).toInt = (I_81 q 1).toInt := by rw [pF_q hp pfq]
              have u_105_0 : (I_98 ln 0).toInt = (I_81 ln 0).toInt := by rw [fls]
              have u_105_8 : (I_98 ln 8).toInt = (I_81 ln 8).toInt := by rw [fls]
              have u_106 : (I_98 ln 2).toInt = (I_81 ln 2).toInt := by rw [fls]
              have u_107 : (I_98 ln 3).toInt = (I_81 ln 3).toInt := by rw [fls]
              have u_108 : (I_98 ln 4).toInt = (I_81 ln 4).toInt := by rw [fls]
              have u_109 : (I_98 ln 5).toInt = (I_81 ln 5).toInt := by rw [fls]
              have u_110 : (I_98 ln 6).toInt = (I_81 ln 6).toInt := by rw [fls]
              have u_111 : (I_98 ln 9).toInt = (I_81 ln 9).toInt := by rw [fls]
              have u_112 : (I_98 ln 10).toInt = (I_81 ln 10).toInt := by rw [fls]
              have u_113 : (I_98 ln 11).toInt = (I_81 ln 11).toInt := by rw [fls]
              have u_114 : (I_98 ln 12).toInt = (I_81 ln 12).toInt := by rw [fls]
              refine z_iconst F dX1_readTest_160 ?_
              have hfin : sTest b n c5 k8 h = (0, h + 3, 0) := by
                unfold sTest
                repeat (first | with_reducible rfl | refine ite_y (by omega) ?_ | refine ite_n (by omega) ?_ | exact pr_e (by omega) (by omega) (by omega))
              exact g_iret F hr hlk hH hS hz ⟨by decide, by decide⟩ ⟨rfl, rfl, rfl, rfl, hv, hp, pf, by first | omega | rfl | (dsimp only; omega), by (try dsimp only); rw [hfin]; first | done | omega | rfl, by (try dsimp only); rw [hfin]; exact hP, by (try dsimp only); omega, by (try dsimp only); first | exact pIm_n (by omega) | (rw [hfin]; (try dsimp only); exact pIm_y (by first | omega | rfl)) | exact pIm_y (by omega), fun b hb => fA b hb, by (try dsimp only); first | exact zIf_n (by omega) | exact zIf_y hct, by (try dsimp only); first | exact hfz | exact (fun _ _ => rfl)⟩ dX1_readTest_161
            · exact absurd trivial (by omega)
          · refine lv_iload_n F.1 F.2.1 dX1_readTest_118 rfl (lv_at hl 0 rfl) ?_
            have hfin : sTest b n c5 k8 h = (v_73, h + 2, 0) := by
              unfold sTest
              repeat (first | with_reducible rfl | refine ite_y (by omega) ?_ | refine ite_n (by omega) ?_ | exact pr_e (by omega) (by omega) (by omega))
            exact g_iret F hr hlk hH hS hz zv_73 ⟨rfl, rfl, rfl, rfl, hv, hp, pf, by first | omega | rfl | (dsimp only; omega), by (try dsimp only); rw [hfin]; first | done | omega | rfl, by (try dsimp only); rw [hfin]; exact hP, by (try dsimp only); omega, by (try dsimp only); first | exact pIm_n (by omega) | (rw [hfin]; (try dsimp only); exact pIm_y (by first | omega | rfl)) | exact pIm_y (by omega), fun _ _ => rfl, by (try dsimp only); first | exact zIf_n (by omega) | exact zIf_y hct, by (try dsimp only); first | exact hfz | exact (fun _ _ => rfl)⟩ dX1_readTest_119
        · have t_115 := tIz_1 q_63 (by omega)
          refine z_iconst F dX1_readTest_98 ?_
          refine z_goto (tgt := 113) F dX1_readTest_99 (by decide) ?_
          refine lv_istore_n (lv' := [(1, .int (iI 0)), (4, .int (iI v_60)), (3, .int (iI v_35)), (2, .int (iI v_15)), (0, .ref a)]) F.1 F.2.1 dX1_readTest_113 rfl hl (by decide) rfl (fun ls hl => ?_)
          refine lv_iload_n F.1 F.2.1 dX1_readTest_114 rfl (lv_at hl 0 rfl) ?_
          refine z_if_eq (tgt := 120) F dX1_readTest_115 (by decide) ⟨by decide, by decide⟩ (fun c_116 => ?_) (fun c_116 => ?_)
          · refine lv_aload_n F.1 F.2.1 dX1_readTest_120 rfl (lv_at hl 4 rfl) ?_
            refine g_getR (ci := 1) (k := 0) F hH rfl (by decide) iX1 hp.1 (by decide) rfl (b := gh 22 0) (gR_pr0 hv hp.1).1 k12 dX1_readTest_121 ?_
            refine g_getR (ci := 5) (k := 2) F hH rfl (by decide) iX5 (gR_pr0 hv hp.1).2 (by decide) rfl (b := gh 26 0) r_13a k71 dX1_readTest_124 ?_
            refine lv_aload_n F.1 F.2.1 dX1_readTest_127 rfl (lv_at hl 4 rfl) ?_
            refine g_getI (ci := 1) (k := 3) F hH rfl (by decide) iX1 hp.1 (by decide) rfl k44 dX1_readTest_128 ?_
            have b_117h := hp.2.2.2.2.2.2.2
            have b_117 := gI_pr hv hp.1
            have b_117t := gI_tk hv (gR_pr0 hv hp.1).2
            have hx131 : 0 ≤ ((I_37 a 3).toInt) ∧ ((I_37 a 3).toInt) < ((901 : Nat) : Int) ∧ ((I_37 a 3).toInt) ≤ 2147483647 := ⟨by omega, by omega, by omega⟩
            refine g_iald F hH r_13b hx131.1 hx131.2.1 hx131.2.2 dX1_readTest_131 ?_
            refine z_name (fun v_118 ev_118 => ?_)
            have zv_118 : zr v_118 := by rw [ev_118]; exact zr_t _
            have t131 : v_118 = pV b n (h + 2) := by rw [ev_118]; exact pH_V hP
            refine lv_istore (lv' := [(5, .int (iI v_118)), (1, .int (iI 0)), (4, .int (iI v_60)), (3, .int (iI v_35)), (2, .int (iI v_15)), (0, .ref a)]) F.1 F.2.1 dX1_readTest_132 hl (by decide) rfl (fun ls hl => ?_)
            refine lv_aload_n F.1 F.2.1 dX1_readTest_134 rfl (lv_at hl 5 rfl) ?_
            refine g_getR (ci := 1) (k := 2) F hH rfl (by decide) iX1 hp.1 (by decide) rfl (b := ln) hp.2.2.2.1 k29 dX1_readTest_135 ?_
            refine lv_iload_n F.1 F.2.1 dX1_readTest_138 rfl (lv_at hl 4 rfl) ?_
            refine lv_iload_n F.1 F.2.1 dX1_readTest_139 rfl (lv_at hl 3 rfl) ?_
            refine lv_iload F.1 F.2.1 dX1_readTest_140 (lv_at hl 2 rfl) ?_
            refine z_if_eq (tgt := 149) F dX1_readTest_142 (by decide) zv_60 (fun c_119 => ?_) (fun c_119 => ?_)
            · exact absurd trivial (by omega)
            · have t_120 := tIz_1 q_63 (by omega)
              refine z_iconst F dX1_readTest_145 ?_
              refine z_goto (tgt := 151) F dX1_readTest_146 (by decide) ?_
              refine lv_iload F.1 F.2.1 dX1_readTest_151 (lv_at hl 0 rfl) ?_
              have hp0 := hp
              have hv0 := hv
              have b_121 := gI_line hv hp.2.2.2.2.1
              unfold vLineI at b_121
              refine g_callv (g_runV (As := [.int (iI v_15), .int (iI v_35), .int (iI ((-1))), .int (iI v_118)]) (rest := []) (ci := 0) F hl.1 hH hS hz (c_X0_addTestg l g gh I_37 R J AI AJ AR ln v_15 v_35 (-1) v_118 zv_15 zv_35 ⟨by decide, by decide⟩ zv_118 hv hp.2.2.2.2.1 (by omega) (by omega) (by omega) (by omega)) (cwV 4 F.2.2.2.2.1 gX1_readTest_X0_addTest rfl rfl rfl hdX0_addTest ⟨Nat.le_of_ble_eq_true rfl, Nat.le_of_ble_eq_true rfl⟩) hp.2.2.2.2.1 (by decide) rfl rfl rfl (Nat.le_of_ble_eq_true rfl) dX1_readTest_153 ⟨Nat.zero_le _, Nat.zero_le _⟩) hS (fun I_122 R_123 J_124 AI_125 AJ_126 AR_127 H locs hp_128 hH hS => ?_)
              dsimp only at hp_128
              obtain ⟨rfl, rfl, rfl, rfl, hv, fI, fA, f0, f8, fk, fz, fv0, fv1, fv2, fv3⟩ := hp_128
              have hp := pS_ln hv0 hp fI
              have pf := pF_t pf (pF_o fI f0)
              have u_129q : (I_122 q 1).toInt = (I_37 q 1).toInt := by rw [fI q (gO_ne hp.2.2.1 hp.2.2.2.2.1 (by decide))]
              have u_129_0 : (I_122 ln 0).toInt = (I_37 ln 0).toInt := by rw [f0]
              have hP := pH_ai hv hp.1 hp.2.2.2.2.1 (pH_ln hv0 hp0 hP fI) fA
              have u_130 : (I_122 ln 2).toInt = (I_37 ln 2).toInt := by rw [fk 2 (by decide)]
              have u_131 : (I_122 ln 3).toInt = (I_37 ln 3).toInt := by rw [fk 3 (by decide)]
              have u_132 : (I_122 ln 4).toInt = (I_37 ln 4).toInt := by rw [fk 4 (by decide)]
              have u_133 : (I_122 ln 5).toInt = (I_37 ln 5).toInt := by rw [fk 5 (by decide)]
              have u_134 : (I_122 ln 6).toInt = (I_37 ln 6).toInt := by rw [fk 6 (by decide)]
              have u_135 : (I_122 ln 9).toInt = (I_37 ln 9).toInt := by rw [fk 9 (by decide)]
              have u_136 : (I_122 ln 10).toInt = (I_37 ln 10).toInt := by rw [fk 10 (by decide)]
              have u_137 : (I_122 ln 11).toInt = (I_37 ln 11).toInt := by rw [fk 11 (by decide)]
              have u_138 : (I_122 ln 12).toInt = (I_37 ln 12).toInt := by rw [fk 12 (by decide)]
              have hP : pH gh AR I_122 J AI_125 AJ a q b n tl nr nt cl (h + 2) := hP
              have hct : qTest b n (AI_125 (gh 3 ln)) k8.toNat h := ⟨by rw [show 4 * k8.toNat = (4 * (I_37 ln 8).toInt + 0).toNat by omega, fv0]; omega, by rw [show 4 * k8.toNat + 1 = (4 * (I_37 ln 8).toInt + 1).toNat by omega, fv1]; omega, by rw [show 4 * k8.toNat + 2 = (4 * (I_37 ln 8).toInt + 2).toNat by omega, fv2]; first | rw [if_pos (by omega)] | (rw [if_neg (by omega)]; omega), by rw [show 4 * k8.toNat + 3 = (4 * (I_37 ln 8).toInt + 3).toNat by omega, fv3]; omega⟩
              have hfz : ∀ j : Nat, (j : Int) < 4 * k8 → AI_125 (gh 3 ln) j = AI (gh 3 ln) j := fun j hj => fz j (by omega)
              refine lv_aload_n F.1 F.2.1 dX1_readTest_156 rfl (lv_at hl 5 rfl) ?_
              have hv0 := hv
              refine g_callv (g_runV (As := []) (rest := []) (ci := 1) F hl.1 hH hS hz (c_X1_stepg l g gh q b n tl nr nt cl (h + 2) I_122 R J AI_125 AJ AR a hv hp.1 (by first | exact hp.2.2.2.2.2.2.2 | exact hh | omega) hP (by first | exact hp.2.2.1 | exact hq) (by omega)) (cwV 0 F.2.2.2.2.1 gX1_readTest_X1_step rfl rfl rfl hdX1_step ⟨Nat.le_of_ble_eq_true rfl, Nat.le_of_ble_eq_true rfl⟩) hp.1 (by decide) rfl rfl rfl (Nat.le_of_ble_eq_true rfl) dX1_readTest_157 ⟨Nat.zero_le _, Nat.zero_le _⟩) hS (fun I_139 R_140 J_141 AI_142 AJ_143 AR_144 H locs hp_145 hH hS => ?_)
              dsimp only at hp_145
              obtain ⟨rfl, rfl, rfl, rfl, rfl, hv, fs, hs, hP⟩ := hp_145
              have hP : pH gh AR I_139 J AI_125 AJ a q b n tl nr nt cl (h + 3) := hP
              obtain ⟨hp, pfq, fls⟩ := pS_step hv0 hp fs hs
              have pf := pF_t pf pfq
              have u_146q : (I_139 q 1).toInt = (I_122 q 1).toInt := by rw [pF_q hp pfq]
              have u_146_0 : (I_139 ln 0).toInt = (I_122 ln 0).toInt := by rw [fls]
              have u_146_8 : (I_139 ln 8).toInt = (I_122 ln 8).toInt := by rw [fls]
              have u_147 : (I_139 ln 2).toInt = (I_122 ln 2).toInt := by rw [fls]
              have u_148 : (I_139 ln 3).toInt = (I_122 ln 3).toInt := by rw [fls]
              have u_149 : (I_139 ln 4).toInt = (I_122 ln 4).toInt := by rw [fls]
              have u_150 : (I_139 ln 5).toInt = (I_122 ln 5).toInt := by rw [fls]
              have u_151 : (I_139 ln 6).toInt = (I_122 ln 6).toInt := by rw [fls]
              have u_152 : (I_139 ln 9).toInt = (I_122 ln 9).toInt := by rw [fls]
              have u_153 : (I_139 ln 10).toInt = (I_122 ln 10).toInt := by rw [fls]
              have u_154 : (I_139 ln 11).toInt = (I_122 ln 11).toInt := by rw [fls]
              have u_155 : (I_139 ln 12).toInt = (I_122 ln 12).toInt := by rw [fls]
              refine z_iconst F dX1_readTest_160 ?_
              have hfin : sTest b n c5 k8 h = (0, h + 3, 0) := by
                unfold sTest
                repeat (first | with_reducible rfl | refine ite_y (by omega) ?_ | refine ite_n (by omega) ?_ | exact pr_e (by omega) (by omega) (by omega))
              exact g_iret F hr hlk hH hS hz ⟨by decide, by decide⟩ ⟨rfl, rfl, rfl, rfl, hv, hp, pf, by first | omega | rfl | (dsimp only; omega), by (try dsimp only); rw [hfin]; first | done | omega | rfl, by (try dsimp only); rw [hfin]; exact hP, by (try dsimp only); omega, by (try dsimp only); first | exact pIm_n (by omega) | (rw [hfin]; (try dsimp only); exact pIm_y (by first | omega | rfl)) | exact pIm_y (by omega), fun b hb => fA b hb, by (try dsimp only); first | exact zIf_n (by omega) | exact zIf_y hct, by (try dsimp only); first | exact hfz | exact (fun _ _ => rfl)⟩ dX1_readTest_161
          · exact absurd trivial (by omega)
      · refine lv_iload_n F.1 F.2.1 dX1_readTest_68 rfl (lv_at hl 0 rfl) ?_
        refine z_bipush F dX1_readTest_69 (by decide) ?_
        refine z_icmp_eq (tgt := 82) F dX1_readTest_71 (by decide) zv_35 ⟨by decide, by decide⟩ (fun c_156 => ?_) (fun c_156 => ?_)
        · refine lv_aload_n F.1 F.2.1 dX1_readTest_82 rfl (lv_at hl 3 rfl) ?_
          have hv0 := hv
          refine g_callv (g_runV (As := []) (rest := []) (ci := 1) F hl.1 hH hS hz (c_X1_stepg l g gh q b n tl nr nt cl (h + 1) I_16 R J AI AJ AR a hv hp.1 (by first | exact hp.2.2.2.2.2.2.2 | exact hh | omega) hP (by first | exact hp.2.2.1 | exact hq) (by omega)) (cwV 0 F.2.2.2.2.1 gX1_readTest_X1_step rfl rfl rfl hdX1_step ⟨Nat.le_of_ble_eq_true rfl, Nat.le_of_ble_eq_true rfl⟩) hp.1 (by decide) rfl rfl rfl (Nat.le_of_ble_eq_true rfl) dX1_readTest_83 ⟨Nat.zero_le _, Nat.zero_le _⟩) hS (fun I_157 R_158 J_159 AI_160 AJ_161 AR_162 H locs hp_163 hH hS => ?_)
          dsimp only at hp_163
          obtain ⟨rfl, rfl, rfl, rfl, rfl, hv, fs, hs, hP⟩ := hp_163
          have hP : pH gh AR I_157 J AI AJ a q b n tl nr nt cl (h + 2) := hP
          obtain ⟨hp, pfq, fls⟩ := pS_step hv0 hp fs hs
          have pf := pF_t pf pfq
          have u_164q : (I_157 q 1).toInt = (I_16 q 1).toInt := by rw [pF_q hp pfq]
          have u_164_0 : (I_157 ln 0).toInt = (I_16 ln 0).toInt := by rw [fls]
          have u_164_8 : (I_157 ln 8).toInt = (I_16 ln 8).toInt := by rw [fls]
          have u_165 : (I_157 ln 2).toInt = (I_16 ln 2).toInt := by rw [fls]
          have u_166 : (I_157 ln 3).toInt = (I_16 ln 3).toInt := by rw [fls]
          have u_167 : (I_157 ln 4).toInt = (I_16 ln 4).toInt := by rw [fls]
          have u_168 : (I_157 ln 5).toInt = (I_16 ln 5).toInt := by rw [fls]
          have u_169 : (I_157 ln 6).toInt = (I_16 ln 6).toInt := by rw [fls]
          have u_170 : (I_157 ln 9).toInt = (I_16 ln 9).toInt := by rw [fls]
          have u_171 : (I_157 ln 10).toInt = (I_16 ln 10).toInt := by rw [fls]
          have u_172 : (I_157 ln 11).toInt = (I_16 ln 11).toInt := by rw [fls]
          have u_173 : (I_157 ln 12).toInt = (I_16 ln 12).toInt := by rw [fls]
          refine lv_aload_n F.1 F.2.1 dX1_readTest_86 rfl (lv_at hl 3 rfl) ?_
          refine z_iconst F dX1_readTest_87 ?_
          refine g_calli (g_runV (As := [.int (iI 4)]) (rest := []) (ci := 1) F hl.1 hH hS hz (c_X1_isKindg l g gh q b n tl nr nt cl (h + 2) I_157 R J AI AJ AR a 4 ⟨by decide, by decide⟩ hv hp.1 (by first | exact hp.2.2.2.2.2.2.2 | exact hh | omega) hP) (cwV 1 F.2.2.2.2.1 gX1_readTest_X1_isKind rfl rfl rfl hdX1_isKind ⟨Nat.le_of_ble_eq_true rfl, Nat.le_of_ble_eq_true rfl⟩) hp.1 (by decide) rfl rfl rfl (Nat.le_of_ble_eq_true rfl) dX1_readTest_88 ⟨Nat.zero_le _, Nat.zero_le _⟩) hS (fun v_180 I_174 R_175 J_176 AI_177 AJ_178 AR_179 H locs zv_180 hp_181 hH hS => ?_)
          dsimp only at hp_181
          obtain ⟨rfl, rfl, rfl, rfl, rfl, rfl, q_182, q_183⟩ := hp_181
          refine lv_istore (lv' := [(4, .int (iI v_180)), (3, .int (iI v_35)), (2, .int (iI v_15)), (1, .int (iI v_8)), (0, .ref a)]) F.1 F.2.1 dX1_readTest_91 hl (by decide) rfl (fun ls hl => ?_)
          refine lv_iload F.1 F.2.1 dX1_readTest_93 (lv_at hl 0 rfl) ?_
          refine z_if_eq (tgt := 102) F dX1_readTest_95 (by decide) zv_180 (fun c_184 => ?_) (fun c_184 => ?_)
          · have t_185 := tIz_0 q_183 (by omega)
            refine lv_aload_n F.1 F.2.1 dX1_readTest_102 rfl (lv_at hl 4 rfl) ?_
            refine lv_aload_n F.1 F.2.1 dX1_readTest_103 rfl (lv_at hl 4 rfl) ?_
            refine g_getR (ci := 1) (k := 2) F hH rfl (by decide) iX1 hp.1 (by decide) rfl (b := ln) hp.2.2.2.1 k29 dX1_readTest_104 ?_
            refine g_getI (ci := 0) (k := 5) F hH rfl (by decide) iX0 hp.2.2.2.2.1 (by decide) rfl k143 dX1_readTest_107 ?_
            have b_186 := gI_line hv hp.2.2.2.2.1
            unfold vLineI at b_186
            refine g_calli (g_runV (As := [.int (iI ((I_157 ln 5).toInt))]) (rest := []) (ci := 1) F hl.1 hH hS hz (c_X1_seeColumng l g gh q b n tl nr nt cl (h + 2) I_157 R J AI AJ AR a ((I_157 ln 5).toInt) (zr_t _) hv hp.1 (by first | exact hp.2.2.2.2.2.2.2 | exact hh | omega) hP) (cwV 1 F.2.2.2.2.1 gX1_readTest_X1_seeColumn rfl rfl rfl hdX1_seeColumn ⟨Nat.le_of_ble_eq_true rfl, Nat.le_of_ble_eq_true rfl⟩) hp.1 (by decide) rfl rfl rfl (Nat.le_of_ble_eq_true rfl) dX1_readTest_110 ⟨Nat.zero_le _, Nat.zero_le _⟩) hS (fun v_193 I_187 R_188 J_189 AI_190 AJ_191 AR_192 H locs zv_193 hp_194 hH hS => ?_)
            dsimp only at hp_194
            rw [show (I_157 ln 5).toInt = c5 by omega] at hp_194
            obtain ⟨rfl, rfl, rfl, rfl, rfl, rfl, t1, t2, t3⟩ := hp_194
            refine lv_istore_n (lv' := [(1, .int (iI v_193)), (4, .int (iI v_180)), (3, .int (iI v_35)), (2, .int (iI v_15)), (0, .ref a)]) F.1 F.2.1 dX1_readTest_113 rfl hl (by decide) rfl (fun ls hl => ?_)
            refine lv_iload_n F.1 F.2.1 dX1_readTest_114 rfl (lv_at hl 0 rfl) ?_
            refine z_if_eq (tgt := 120) F dX1_readTest_115 (by decide) zv_193 (fun c_195 => ?_) (fun c_195 => ?_)
            · have t_196 := pCf_0 (b := b) (n := n) (c := c5) (h := h + 2) (by omega)
              refine lv_aload_n F.1 F.2.1 dX1_readTest_120 rfl (lv_at hl 4 rfl) ?_
              refine g_getR (ci := 1) (k := 0) F hH rfl (by decide) iX1 hp.1 (by decide) rfl (b := gh 22 0) (gR_pr0 hv hp.1).1 k12 dX1_readTest_121 ?_
              refine g_getR (ci := 5) (k := 2) F hH rfl (by decide) iX5 (gR_pr0 hv hp.1).2 (by decide) rfl (b := gh 26 0) r_13a k71 dX1_readTest_124 ?_
              refine lv_aload_n F.1 F.2.1 dX1_readTest_127 rfl (lv_at hl 4 rfl) ?_
              refine g_getI (ci := 1) (k := 3) F hH rfl (by decide) iX1 hp.1 (by decide) rfl k44 dX1_readTest_128 ?_
              have b_197h := hp.2.2.2.2.2.2.2
              have b_197 := gI_pr hv hp.1
              have b_197t := gI_tk hv (gR_pr0 hv hp.1).2
              have hx131 : 0 ≤ ((I_157 a 3).toInt) ∧ ((I_157 a 3).toInt) < ((901 : Nat) : Int) ∧ ((I_157 a 3).toInt) ≤ 2147483647 := ⟨by omega, by omega, by omega⟩
              refine g_iald F hH r_13b hx131.1 hx131.2.1 hx131.2.2 dX1_readTest_131 ?_
              refine z_name (fun v_198 ev_198 => ?_)
              have zv_198 : zr v_198 := by rw [ev_198]; exact zr_t _
              have t131 : v_198 = pV b n (h + 2) := by rw [ev_198]; exact pH_V hP
              refine lv_istore (lv' := [(5, .int (iI v_198)), (1, .int (iI v_193)), (4, .int (iI v_180)), (3, .int (iI v_35)), (2, .int (iI v_15)), (0, .ref a)]) F.1 F.2.1 dX1_readTest_132 hl (by decide) rfl (fun ls hl => ?_)
              refine lv_aload_n F.1 F.2.1 dX1_readTest_134 rfl (lv_at hl 5 rfl) ?_
              refine g_getR (ci := 1) (k := 2) F hH rfl (by decide) iX1 hp.1 (by decide) rfl (b := ln) hp.2.2.2.1 k29 dX1_readTest_135 ?_
              refine lv_iload_n F.1 F.2.1 dX1_readTest_138 rfl (lv_at hl 4 rfl) ?_
              refine lv_iload_n F.1 F.2.1 dX1_readTest_139 rfl (lv_at hl 3 rfl) ?_
              refine lv_iload F.1 F.2.1 dX1_readTest_140 (lv_at hl 2 rfl) ?_
              refine z_if_eq (tgt := 149) F dX1_readTest_142 (by decide) zv_180 (fun c_199 => ?_) (fun c_199 => ?_)
              · have t_200 := tIz_0 q_183 (by omega)
                refine lv_iload F.1 F.2.1 dX1_readTest_149 (lv_at hl 0 rfl) ?_
                refine lv_iload F.1 F.2.1 dX1_readTest_151 (lv_at hl 0 rfl) ?_
                have hp0 := hp
                have hv0 := hv
                refine g_callv (g_runV (As := [.int (iI v_15), .int (iI v_35), .int (iI v_198), .int (iI v_198)]) (rest := []) (ci := 0) F hl.1 hH hS hz (c_X0_addTestg l g gh I_157 R J AI AJ AR ln v_15 v_35 v_198 v_198 zv_15 zv_35 zv_198 zv_198 hv hp.2.2.2.2.1 (by omega) (by omega) (by omega) (by omega)) (cwV 4 F.2.2.2.2.1 gX1_readTest_X0_addTest rfl rfl rfl hdX0_addTest ⟨Nat.le_of_ble_eq_true rfl, Nat.le_of_ble_eq_true rfl⟩) hp.2.2.2.2.1 (by decide) rfl rfl rfl (Nat.le_of_ble_eq_true rfl) dX1_readTest_153 ⟨Nat.zero_le _, Nat.zero_le _⟩) hS (fun I_201 R_202 J_203 AI_204 AJ_205 AR_206 H locs hp_207 hH hS => ?_)
                dsimp only at hp_207
                obtain ⟨rfl, rfl, rfl, rfl, hv, fI, fA, f0, f8, fk, fz, fv0, fv1, fv2, fv3⟩ := hp_207
                have hp := pS_ln hv0 hp fI
                have pf := pF_t pf (pF_o fI f0)
                have u_208q : (I_201 q 1).toInt = (I_157 q 1).toInt := by rw [fI q (gO_ne hp.2.2.1 hp.2.2.2.2.1 (by decide))]
                have u_208_0 : (I_201 ln 0).toInt = (I_157 ln 0).toInt := by rw [f0]
                have hP := pH_ai hv hp.1 hp.2.2.2.2.1 (pH_ln hv0 hp0 hP fI) fA
                have u_209 : (I_201 ln 2).toInt = (I_157 ln 2).toInt := by rw [fk 2 (by decide)]
                have u_210 : (I_201 ln 3).toInt = (I_157 ln 3).toInt := by rw [fk 3 (by decide)]
                have u_211 : (I_201 ln 4).toInt = (I_157 ln 4).toInt := by rw [fk 4 (by decide)]
                have u_212 : (I_201 ln 5).toInt = (I_157 ln 5).toInt := by rw [fk 5 (by decide)]
                have u_213 : (I_201 ln 6).toInt = (I_157 ln 6).toInt := by rw [fk 6 (by decide)]
                have u_214 : (I_201 ln 9).toInt = (I_157 ln 9).toInt := by rw [fk 9 (by decide)]
                have u_215 : (I_201 ln 10).toInt = (I_157 ln 10).toInt := by rw [fk 10 (by decide)]
                have u_216 : (I_201 ln 11).toInt = (I_157 ln 11).toInt := by rw [fk 11 (by decide)]
                have u_217 : (I_201 ln 12).toInt = (I_157 ln 12).toInt := by rw [fk 12 (by decide)]
                have hP : pH gh AR I_201 J AI_204 AJ a q b n tl nr nt cl (h + 2) := hP
                have hct : qTest b n (AI_204 (gh 3 ln)) k8.toNat h := ⟨by rw [show 4 * k8.toNat = (4 * (I_157 ln 8).toInt + 0).toNat by omega, fv0]; omega, by rw [show 4 * k8.toNat + 1 = (4 * (I_157 ln 8).toInt + 1).toNat by omega, fv1]; omega, by rw [show 4 * k8.toNat + 2 = (4 * (I_157 ln 8).toInt + 2).toNat by omega, fv2]; first | rw [if_pos (by omega)] | (rw [if_neg (by omega)]; omega), by rw [show 4 * k8.toNat + 3 = (4 * (I_157 ln 8).toInt + 3).toNat by omega, fv3]; omega⟩
                have hfz : ∀ j : Nat, (j : Int) < 4 * k8 → AI_204 (gh 3 ln) j = AI (gh 3 ln) j := fun j hj => fz j (by omega)
                refine lv_aload_n F.1 F.2.1 dX1_readTest_156 rfl (lv_at hl 5 rfl) ?_
                have hv0 := hv
                refine g_callv (g_runV (As := []) (rest := []) (ci := 1) F hl.1 hH hS hz (c_X1_stepg l g gh q b n tl nr nt cl (h + 2) I_201 R J AI_204 AJ AR a hv hp.1 (by first | exact hp.2.2.2.2.2.2.2 | exact hh | omega) hP (by first | exact hp.2.2.1 | exact hq) (by omega)) (cwV 0 F.2.2.2.2.1 gX1_readTest_X1_step rfl rfl rfl hdX1_step ⟨Nat.le_of_ble_eq_true rfl, Nat.le_of_ble_eq_true rfl⟩) hp.1 (by decide) rfl rfl rfl (Nat.le_of_ble_eq_true rfl) dX1_readTest_157 ⟨Nat.zero_le _, Nat.zero_le _⟩) hS (fun I_218 R_219 J_220 AI_221 AJ_222 AR_223 H locs hp_224 hH hS => ?_)
                dsimp only at hp_224
                obtain ⟨rfl, rfl, rfl, rfl, rfl, hv, fs, hs, hP⟩ := hp_224
                have hP : pH gh AR I_218 J AI_204 AJ a q b n tl nr nt cl (h + 3) := hP
                obtain ⟨hp, pfq, fls⟩ := pS_step hv0 hp fs hs
                have pf := pF_t pf pfq
                have u_225q : (I_218 q 1).toInt = (I_201 q 1).toInt := by rw [pF_q hp pfq]
                have u_225_0 : (I_218 ln 0).toInt = (I_201 ln 0).toInt := by rw [fls]
                have u_225_8 : (I_218 ln 8).toInt = (I_201 ln 8).toInt := by rw [fls]
                have u_226 : (I_218 ln 2).toInt = (I_201 ln 2).toInt := by rw [fls]
                have u_227 : (I_218 ln 3).toInt = (I_201 ln 3).toInt := by rw [fls]
                have u_228 : (I_218 ln 4).toInt = (I_201 ln 4).toInt := by rw [fls]
                have u_229 : (I_218 ln 5).toInt = (I_201 ln 5).toInt := by rw [fls]
                have u_230 : (I_218 ln 6).toInt = (I_201 ln 6).toInt := by rw [fls]
                have u_231 : (I_218 ln 9).toInt = (I_201 ln 9).toInt := by rw [fls]
                have u_232 : (I_218 ln 10).toInt = (I_201 ln 10).toInt := by rw [fls]
                have u_233 : (I_218 ln 11).toInt = (I_201 ln 11).toInt := by rw [fls]
                have u_234 : (I_218 ln 12).toInt = (I_201 ln 12).toInt := by rw [fls]
                refine z_iconst F dX1_readTest_160 ?_
                have hfin : sTest b n c5 k8 h = (0, h + 3, 0) := by
                  unfold sTest
                  repeat (first | with_reducible rfl | refine ite_y (by omega) ?_ | refine ite_n (by omega) ?_ | exact pr_e (by omega) (by omega) (by omega))
                exact g_iret F hr hlk hH hS hz ⟨by decide, by decide⟩ ⟨rfl, rfl, rfl, rfl, hv, hp, pf, by first | omega | rfl | (dsimp only; omega), by (try dsimp only); rw [hfin]; first | done | omega | rfl, by (try dsimp only); rw [hfin]; exact hP, by (try dsimp only); omega, by (try dsimp only); first | exact pIm_n (by omega) | (rw [hfin]; (try dsimp only); exact pIm_y (by first | omega | rfl)) | exact pIm_y (by omega), fun b hb => fA b hb, by (try dsimp only); first | exact zIf_n (by omega) | exact zIf_y hct, by (try dsimp only); first | exact hfz | exact (fun _ _ => rfl)⟩ dX1_readTest_161
              · exact absurd trivial (by omega)
            · refine lv_iload_n F.1 F.2.1 dX1_readTest_118 rfl (lv_at hl 0 rfl) ?_
              have hfin : sTest b n c5 k8 h = (v_193, h + 2, 0) := by
                unfold sTest
                repeat (first | with_reducible rfl | refine ite_y (by omega) ?_ | refine ite_n (by omega) ?_ | exact pr_e (by omega) (by omega) (by omega))
              exact g_iret F hr hlk hH hS hz zv_193 ⟨rfl, rfl, rfl, rfl, hv, hp, pf, by first | omega | rfl | (dsimp only; omega), by (try dsimp only); rw [hfin]; first | done | omega | rfl, by (try dsimp only); rw [hfin]; exact hP, by (try dsimp only); omega, by (try dsimp only); first | exact pIm_n (by omega) | (rw [hfin]; (try dsimp only); exact pIm_y (by first | omega | rfl)) | exact pIm_y (by omega), fun _ _ => rfl, by (try dsimp only); first | exact zIf_n (by omega) | exact zIf_y hct, by (try dsimp only); first | exact hfz | exact (fun _ _ => rfl)⟩ dX1_readTest_119
          · have t_235 := tIz_1 q_183 (by omega)
            refine z_iconst F dX1_readTest_98 ?_
            refine z_goto (tgt := 113) F dX1_readTest_99 (by decide) ?_
            refine lv_istore_n (lv' := [(1, .int (iI 0)), (4, .int (iI v_180)), (3, .int (iI v_35)), (2, .int (iI v_15)), (0, .ref a)]) F.1 F.2.1 dX1_readTest_113 rfl hl (by decide) rfl (fun ls hl => ?_)
            refine lv_iload_n F.1 F.2.1 dX1_readTest_114 rfl (lv_at hl 0 rfl) ?_
            refine z_if_eq (tgt := 120) F dX1_readTest_115 (by decide) ⟨by decide, by decide⟩ (fun c_236 => ?_) (fun c_236 => ?_)
            · refine lv_aload_n F.1 F.2.1 dX1_readTest_120 rfl (lv_at hl 4 rfl) ?_
              refine g_getR (ci := 1) (k := 0) F hH rfl (by decide) iX1 hp.1 (by decide) rfl (b := gh 22 0) (gR_pr0 hv hp.1).1 k12 dX1_readTest_121 ?_
              refine g_getR (ci := 5) (k := 2) F hH rfl (by decide) iX5 (gR_pr0 hv hp.1).2 (by decide) rfl (b := gh 26 0) r_13a k71 dX1_readTest_124 ?_
              refine lv_aload_n F.1 F.2.1 dX1_readTest_127 rfl (lv_at hl 4 rfl) ?_
              refine g_getI (ci := 1) (k := 3) F hH rfl (by decide) iX1 hp.1 (by decide) rfl k44 dX1_readTest_128 ?_
              have b_237h := hp.2.2.2.2.2.2.2
              have b_237 := gI_pr hv hp.1
              have b_237t := gI_tk hv (gR_pr0 hv hp.1).2
              have hx131 : 0 ≤ ((I_157 a 3).toInt) ∧ ((I_157 a 3).toInt) < ((901 : Nat) : Int) ∧ ((I_157 a 3).toInt) ≤ 2147483647 := ⟨by omega, by omega, by omega⟩
              refine g_iald F hH r_13b hx131.1 hx131.2.1 hx131.2.2 dX1_readTest_131 ?_
              refine z_name (fun v_238 ev_238 => ?_)
              have zv_238 : zr v_238 := by rw [ev_238]; exact zr_t _
              have t131 : v_238 = pV b n (h + 2) := by rw [ev_238]; exact pH_V hP
              refine lv_istore (lv' := [(5, .int (iI v_238)), (1, .int (iI 0)), (4, .int (iI v_180)), (3, .int (iI v_35)), (2, .int (iI v_15)), (0, .ref a)]) F.1 F.2.1 dX1_readTest_132 hl (by decide) rfl (fun ls hl => ?_)
              refine lv_aload_n F.1 F.2.1 dX1_readTest_134 rfl (lv_at hl 5 rfl) ?_
              refine g_getR (ci := 1) (k := 2) F hH rfl (by decide) iX1 hp.1 (by decide) rfl (b := ln) hp.2.2.2.1 k29 dX1_readTest_135 ?_
              refine lv_iload_n F.1 F.2.1 dX1_readTest_138 rfl (lv_at hl 4 rfl) ?_
              refine lv_iload_n F.1 F.2.1 dX1_readTest_139 rfl (lv_at hl 3 rfl) ?_
              refine lv_iload F.1 F.2.1 dX1_readTest_140 (lv_at hl 2 rfl) ?_
              refine z_if_eq (tgt := 149) F dX1_readTest_142 (by decide) zv_180 (fun c_239 => ?_) (fun c_239 => ?_)
              · exact absurd trivial (by omega)
              · have t_240 := tIz_1 q_183 (by omega)
                refine z_iconst F dX1_readTest_145 ?_
                refine z_goto (tgt := 151) F dX1_readTest_146 (by decide) ?_
                refine lv_iload F.1 F.2.1 dX1_readTest_151 (lv_at hl 0 rfl) ?_
                have hp0 := hp
                have hv0 := hv
                have b_241 := gI_line hv hp.2.2.2.2.1
                unfold vLineI at b_241
                refine g_callv (g_runV (As := [.int (iI v_15), .int (iI v_35), .int (iI ((-1))), .int (iI v_238)]) (rest := []) (ci := 0) F hl.1 hH hS hz (c_X0_addTestg l g gh I_157 R J AI AJ AR ln v_15 v_35 (-1) v_238 zv_15 zv_35 ⟨by decide, by decide⟩ zv_238 hv hp.2.2.2.2.1 (by omega) (by omega) (by omega) (by omega)) (cwV 4 F.2.2.2.2.1 gX1_readTest_X0_addTest rfl rfl rfl hdX0_addTest ⟨Nat.le_of_ble_eq_true rfl, Nat.le_of_ble_eq_true rfl⟩) hp.2.2.2.2.1 (by decide) rfl rfl rfl (Nat.le_of_ble_eq_true rfl) dX1_readTest_153 ⟨Nat.zero_le _, Nat.zero_le _⟩) hS (fun I_242 R_243 J_244 AI_245 AJ_246 AR_247 H locs hp_248 hH hS => ?_)
                dsimp only at hp_248
                obtain ⟨rfl, rfl, rfl, rfl, hv, fI, fA, f0, f8, fk, fz, fv0, fv1, fv2, fv3⟩ := hp_248
                have hp := pS_ln hv0 hp fI
                have pf := pF_t pf (pF_o fI f0)
                have u_249q : (I_242 q 1).toInt = (I_157 q 1).toInt := by rw [fI q (gO_ne hp.2.2.1 hp.2.2.2.2.1 (by decide))]
                have u_249_0 : (I_242 ln 0).toInt = (I_157 ln 0).toInt := by rw [f0]
                have hP := pH_ai hv hp.1 hp.2.2.2.2.1 (pH_ln hv0 hp0 hP fI) fA
                have u_250 : (I_242 ln 2).toInt = (I_157 ln 2).toInt := by rw [fk 2 (by decide)]
                have u_251 : (I_242 ln 3).toInt = (I_157 ln 3).toInt := by rw [fk 3 (by decide)]
                have u_252 : (I_242 ln 4).toInt = (I_157 ln 4).toInt := by rw [fk 4 (by decide)]
                have u_253 : (I_242 ln 5).toInt = (I_157 ln 5).toInt := by rw [fk 5 (by decide)]
                have u_254 : (I_242 ln 6).toInt = (I_157 ln 6).toInt := by rw [fk 6 (by decide)]
                have u_255 : (I_242 ln 9).toInt = (I_157 ln 9).toInt := by rw [fk 9 (by decide)]
                have u_256 : (I_242 ln 10).toInt = (I_157 ln 10).toInt := by rw [fk 10 (by decide)]
                have u_257 : (I_242 ln 11).toInt = (I_157 ln 11).toInt := by rw [fk 11 (by decide)]
                have u_258 : (I_242 ln 12).toInt = (I_157 ln 12).toInt := by rw [fk 12 (by decide)]
                have hP : pH gh AR I_242 J AI_245 AJ a q b n tl nr nt cl (h + 2) := hP
                have hct : qTest b n (AI_245 (gh 3 ln)) k8.toNat h := ⟨by rw [show 4 * k8.toNat = (4 * (I_157 ln 8).toInt + 0).toNat by omega, fv0]; omega, by rw [show 4 * k8.toNat + 1 = (4 * (I_157 ln 8).toInt + 1).toNat by omega, fv1]; omega, by rw [show 4 * k8.toNat + 2 = (4 * (I_157 ln 8).toInt + 2).toNat by omega, fv2]; first | rw [if_pos (by omega)] | (rw [if_neg (by omega)]; omega), by rw [show 4 * k8.toNat + 3 = (4 * (I_157 ln 8).toInt + 3).toNat by omega, fv3]; omega⟩
                have hfz : ∀ j : Nat, (j : Int) < 4 * k8 → AI_245 (gh 3 ln) j = AI (gh 3 ln) j := fun j hj => fz j (by omega)
                refine lv_aload_n F.1 F.2.1 dX1_readTest_156 rfl (lv_at hl 5 rfl) ?_
                have hv0 := hv
                refine g_callv (g_runV (As := []) (rest := []) (ci := 1) F hl.1 hH hS hz (c_X1_stepg l g gh q b n tl nr nt cl (h + 2) I_242 R J AI_245 AJ AR a hv hp.1 (by first | exact hp.2.2.2.2.2.2.2 | exact hh | omega) hP (by first | exact hp.2.2.1 | exact hq) (by omega)) (cwV 0 F.2.2.2.2.1 gX1_readTest_X1_step rfl rfl rfl hdX1_step ⟨Nat.le_of_ble_eq_true rfl, Nat.le_of_ble_eq_true rfl⟩) hp.1 (by decide) rfl rfl rfl (Nat.le_of_ble_eq_true rfl) dX1_readTest_157 ⟨Nat.zero_le _, Nat.zero_le _⟩) hS (fun I_259 R_260 J_261 AI_262 AJ_263 AR_264 H locs hp_265 hH hS => ?_)
                dsimp only at hp_265
                obtain ⟨rfl, rfl, rfl, rfl, rfl, hv, fs, hs, hP⟩ := hp_265
                have hP : pH gh AR I_259 J AI_245 AJ a q b n tl nr nt cl (h + 3) := hP
                obtain ⟨hp, pfq, fls⟩ := pS_step hv0 hp fs hs
                have pf := pF_t pf pfq
                have u_266q : (I_259 q 1).toInt = (I_242 q 1).toInt := by rw [pF_q hp pfq]
                have u_266_0 : (I_259 ln 0).toInt = (I_242 ln 0).toInt := by rw [fls]
                have u_266_8 : (I_259 ln 8).toInt = (I_242 ln 8).toInt := by rw [fls]
                have u_267 : (I_259 ln 2).toInt = (I_242 ln 2).toInt := by rw [fls]
                have u_268 : (I_259 ln 3).toInt = (I_242 ln 3).toInt := by rw [fls]
                have u_269 : (I_259 ln 4).toInt = (I_242 ln 4).toInt := by rw [fls]
                have u_270 : (I_259 ln 5).toInt = (I_242 ln 5).toInt := by rw [fls]
                have u_271 : (I_259 ln 6).toInt = (I_242 ln 6).toInt := by rw [fls]
                have u_272 : (I_259 ln 9).toInt = (I_242 ln 9).toInt := by rw [fls]
                have u_273 : (I_259 ln 10).toInt = (I_242 ln 10).toInt := by rw [fls]
                have u_274 : (I_259 ln 11).toInt = (I_242 ln 11).toInt := by rw [fls]
                have u_275 : (I_259 ln 12).toInt = (I_242 ln 12).toInt := by rw [fls]
                refine z_iconst F dX1_readTest_160 ?_
                have hfin : sTest b n c5 k8 h = (0, h + 3, 0) := by
                  unfold sTest
                  repeat (first | with_reducible rfl | refine ite_y (by omega) ?_ | refine ite_n (by omega) ?_ | exact pr_e (by omega) (by omega) (by omega))
                exact g_iret F hr hlk hH hS hz ⟨by decide, by decide⟩ ⟨rfl, rfl, rfl, rfl, hv, hp, pf, by first | omega | rfl | (dsimp only; omega), by (try dsimp only); rw [hfin]; first | done | omega | rfl, by (try dsimp only); rw [hfin]; exact hP, by (try dsimp only); omega, by (try dsimp only); first | exact pIm_n (by omega) | (rw [hfin]; (try dsimp only); exact pIm_y (by first | omega | rfl)) | exact pIm_y (by omega), fun b hb => fA b hb, by (try dsimp only); first | exact zIf_n (by omega) | exact zIf_y hct, by (try dsimp only); first | exact hfz | exact (fun _ _ => rfl)⟩ dX1_readTest_161
            · exact absurd trivial (by omega)
        · refine lv_iload_n F.1 F.2.1 dX1_readTest_74 rfl (lv_at hl 0 rfl) ?_
          refine z_bipush F dX1_readTest_75 (by decide) ?_
          refine z_icmp_eq (tgt := 82) F dX1_readTest_77 (by decide) zv_35 ⟨by decide, by decide⟩ (fun c_276 => ?_) (fun c_276 => ?_)
          · refine lv_aload_n F.1 F.2.1 dX1_readTest_82 rfl (lv_at hl 3 rfl) ?_
            have hv0 := hv
            refine g_callv (g_runV (As := []) (rest := []) (ci := 1) F hl.1 hH hS hz (c_X1_stepg l g gh q b n tl nr nt cl (h + 1) I_16 R J AI AJ AR a hv hp.1 (by first | exact hp.2.2.2.2.2.2.2 | exact hh | omega) hP (by first | exact hp.2.2.1 | exact hq) (by omega)) (cwV 0 F.2.2.2.2.1 gX1_readTest_X1_step rfl rfl rfl hdX1_step ⟨Nat.le_of_ble_eq_true rfl, Nat.le_of_ble_eq_true rfl⟩) hp.1 (by decide) rfl rfl rfl (Nat.le_of_ble_eq_true rfl) dX1_readTest_83 ⟨Nat.zero_le _, Nat.zero_le _⟩) hS (fun I_277 R_278 J_279 AI_280 AJ_281 AR_282 H locs hp_283 hH hS => ?_)
            dsimp only at hp_283
            obtain ⟨rfl, rfl, rfl, rfl, rfl, hv, fs, hs, hP⟩ := hp_283
            have hP : pH gh AR I_277 J AI AJ a q b n tl nr nt cl (h + 2) := hP
            obtain ⟨hp, pfq, fls⟩ := pS_step hv0 hp fs hs
            have pf := pF_t pf pfq
            have u_284q : (I_277 q 1).toInt = (I_16 q 1).toInt := by rw [pF_q hp pfq]
            have u_284_0 : (I_277 ln 0).toInt = (I_16 ln 0).toInt := by rw [fls]
            have u_284_8 : (I_277 ln 8).toInt = (I_16 ln 8).toInt := by rw [fls]
            have u_285 : (I_277 ln 2).toInt = (I_16 ln 2).toInt := by rw [fls]
            have u_286 : (I_277 ln 3).toInt = (I_16 ln 3).toInt := by rw [fls]
            have u_287 : (I_277 ln 4).toInt = (I_16 ln 4).toInt := by rw [fls]
            have u_288 : (I_277 ln 5).toInt = (I_16 ln 5).toInt := by rw [fls]
            have u_289 : (I_277 ln 6).toInt = (I_16 ln 6).toInt := by rw [fls]
            have u_290 : (I_277 ln 9).toInt = (I_16 ln 9).toInt := by rw [fls]
            have u_291 : (I_277 ln 10).toInt = (I_16 ln 10).toInt := by rw [fls]
            have u_292 : (I_277 ln 11).toInt = (I_16 ln 11).toInt := by rw [fls]
            have u_293 : (I_277 ln 12).toInt = (I_16 ln 12).toInt := by rw [fls]
            refine lv_aload_n F.1 F.2.1 dX1_readTest_86 rfl (lv_at hl 3 rfl) ?_
            refine z_iconst F dX1_readTest_87 ?_
            refine g_calli (g_runV (As := [.int (iI 4)]) (rest := []) (ci := 1) F hl.1 hH hS hz (c_X1_isKindg l g gh q b n tl nr nt cl (h + 2) I_277 R J AI AJ AR a 4 ⟨by decide, by decide⟩ hv hp.1 (by first | exact hp.2.2.2.2.2.2.2 | exact hh | omega) hP) (cwV 1 F.2.2.2.2.1 gX1_readTest_X1_isKind rfl rfl rfl hdX1_isKind ⟨Nat.le_of_ble_eq_true rfl, Nat.le_of_ble_eq_true rfl⟩) hp.1 (by decide) rfl rfl rfl (Nat.le_of_ble_eq_true rfl) dX1_readTest_88 ⟨Nat.zero_le _, Nat.zero_le _⟩) hS (fun v_300 I_294 R_295 J_296 AI_297 AJ_298 AR_299 H locs zv_300 hp_301 hH hS => ?_)
            dsimp only at hp_301
            obtain ⟨rfl, rfl, rfl, rfl, rfl, rfl, q_302, q_303⟩ := hp_301
            refine lv_istore (lv' := [(4, .int (iI v_300)), (3, .int (iI v_35)), (2, .int (iI v_15)), (1, .int (iI v_8)), (0, .ref a)]) F.1 F.2.1 dX1_readTest_91 hl (by decide) rfl (fun ls hl => ?_)
            refine lv_iload F.1 F.2.1 dX1_readTest_93 (lv_at hl 0 rfl) ?_
            refine z_if_eq (tgt := 102) F dX1_readTest_95 (by decide) zv_300 (fun c_304 => ?_) (fun c_304 => ?_)
            · have t_305 := tIz_0 q_303 (by omega)
              refine lv_aload_n F.1 F.2.1 dX1_readTest_102 rfl (lv_at hl 4 rfl) ?_
              refine lv_aload_n F.1 F.2.1 dX1_readTest_103 rfl (lv_at hl 4 rfl) ?_
              refine g_getR (ci := 1) (k := 2) F hH rfl (by decide) iX1 hp.1 (by decide) rfl (b := ln) hp.2.2.2.1 k29 dX1_readTest_104 ?_
              refine g_getI (ci := 0) (k := 5) F hH rfl (by decide) iX0 hp.2.2.2.2.1 (by decide) rfl k143 dX1_readTest_107 ?_
              have b_306 := gI_line hv hp.2.2.2.2.1
              unfold vLineI at b_306
              refine g_calli (g_runV (As := [.int (iI ((I_277 ln 5).toInt))]) (rest := []) (ci := 1) F hl.1 hH hS hz (c_X1_seeColumng l g gh q b n tl nr nt cl (h + 2) I_277 R J AI AJ AR a ((I_277 ln 5).toInt) (zr_t _) hv hp.1 (by first | exact hp.2.2.2.2.2.2.2 | exact hh | omega) hP) (cwV 1 F.2.2.2.2.1 gX1_readTest_X1_seeColumn rfl rfl rfl hdX1_seeColumn ⟨Nat.le_of_ble_eq_true rfl, Nat.le_of_ble_eq_true rfl⟩) hp.1 (by decide) rfl rfl rfl (Nat.le_of_ble_eq_true rfl) dX1_readTest_110 ⟨Nat.zero_le _, Nat.zero_le _⟩) hS (fun v_313 I_307 R_308 J_309 AI_310 AJ_311 AR_312 H locs zv_313 hp_314 hH hS => ?_)
              dsimp only at hp_314
              rw [show (I_277 ln 5).toInt = c5 by omega] at hp_314
              obtain ⟨rfl, rfl, rfl, rfl, rfl, rfl, t1, t2, t3⟩ := hp_314
              refine lv_istore_n (lv' := [(1, .int (iI v_313)), (4, .int (iI v_300)), (3, .int (iI v_35)), (2, .int (iI v_15)), (0, .ref a)]) F.1 F.2.1 dX1_readTest_113 rfl hl (by decide) rfl (fun ls hl => ?_)
              refine lv_iload_n F.1 F.2.1 dX1_readTest_114 rfl (lv_at hl 0 rfl) ?_
              refine z_if_eq (tgt := 120) F dX1_readTest_115 (by decide) zv_313 (fun c_315 => ?_) (fun c_315 => ?_)
              · have t_316 := pCf_0 (b := b) (n := n) (c := c5) (h := h + 2) (by omega)
                refine lv_aload_n F.1 F.2.1 dX1_readTest_120 rfl (lv_at hl 4 rfl) ?_
                refine g_getR (ci := 1) (k := 0) F hH rfl (by decide) iX1 hp.1 (by decide) rfl (b := gh 22 0) (gR_pr0 hv hp.1).1 k12 dX1_readTest_121 ?_
                refine g_getR (ci := 5) (k := 2) F hH rfl (by decide) iX5 (gR_pr0 hv hp.1).2 (by decide) rfl (b := gh 26 0) r_13a k71 dX1_readTest_124 ?_
                refine lv_aload_n F.1 F.2.1 dX1_readTest_127 rfl (lv_at hl 4 rfl) ?_
                refine g_getI (ci := 1) (k := 3) F hH rfl (by decide) iX1 hp.1 (by decide) rfl k44 dX1_readTest_128 ?_
                have b_317h := hp.2.2.2.2.2.2.2
                have b_317 := gI_pr hv hp.1
                have b_317t := gI_tk hv (gR_pr0 hv hp.1).2
                have hx131 : 0 ≤ ((I_277 a 3).toInt) ∧ ((I_277 a 3).toInt) < ((901 : Nat) : Int) ∧ ((I_277 a 3).toInt) ≤ 2147483647 := ⟨by omega, by omega, by omega⟩
                refine g_iald F hH r_13b hx131.1 hx131.2.1 hx131.2.2 dX1_readTest_131 ?_
                refine z_name (fun v_318 ev_318 => ?_)
                have zv_318 : zr v_318 := by rw [ev_318]; exact zr_t _
                have t131 : v_318 = pV b n (h + 2) := by rw [ev_318]; exact pH_V hP
                refine lv_istore (lv' := [(5, .int (iI v_318)), (1, .int (iI v_313)), (4, .int (iI v_300)), (3, .int (iI v_35)), (2, .int (iI v_15)), (0, .ref a)]) F.1 F.2.1 dX1_readTest_132 hl (by decide) rfl (fun ls hl => ?_)
                refine lv_aload_n F.1 F.2.1 dX1_readTest_134 rfl (lv_at hl 5 rfl) ?_
                refine g_getR (ci := 1) (k := 2) F hH rfl (by decide) iX1 hp.1 (by decide) rfl (b := ln) hp.2.2.2.1 k29 dX1_readTest_135 ?_
                refine lv_iload_n F.1 F.2.1 dX1_readTest_138 rfl (lv_at hl 4 rfl) ?_
                refine lv_iload_n F.1 F.2.1 dX1_readTest_139 rfl (lv_at hl 3 rfl) ?_
                refine lv_iload F.1 F.2.1 dX1_readTest_140 (lv_at hl 2 rfl) ?_
                refine z_if_eq (tgt := 149) F dX1_readTest_142 (by decide) zv_300 (fun c_319 => ?_) (fun c_319 => ?_)
                · have t_320 := tIz_0 q_303 (by omega)
                  refine lv_iload F.1 F.2.1 dX1_readTest_149 (lv_at hl 0 rfl) ?_
                  refine lv_iload F.1 F.2.1 dX1_readTest_151 (lv_at hl 0 rfl) ?_
                  have hp0 := hp
                  have hv0 := hv
                  refine g_callv (g_runV (As := [.int (iI v_15), .int (iI v_35), .int (iI v_318), .int (iI v_318)]) (rest := []) (ci := 0) F hl.1 hH hS hz (c_X0_addTestg l g gh I_277 R J AI AJ AR ln v_15 v_35 v_318 v_318 zv_15 zv_35 zv_318 zv_318 hv hp.2.2.2.2.1 (by omega) (by omega) (by omega) (by omega)) (cwV 4 F.2.2.2.2.1 gX1_readTest_X0_addTest rfl rfl rfl hdX0_addTest ⟨Nat.le_of_ble_eq_true rfl, Nat.le_of_ble_eq_true rfl⟩) hp.2.2.2.2.1 (by decide) rfl rfl rfl (Nat.le_of_ble_eq_true rfl) dX1_readTest_153 ⟨Nat.zero_le _, Nat.zero_le _⟩) hS (fun I_321 R_322 J_323 AI_324 AJ_325 AR_326 H locs hp_327 hH hS => ?_)
                  dsimp only at hp_327
                  obtain ⟨rfl, rfl, rfl, rfl, hv, fI, fA, f0, f8, fk, fz, fv0, fv1, fv2, fv3⟩ := hp_327
                  have hp := pS_ln hv0 hp fI
                  have pf := pF_t pf (pF_o fI f0)
                  have u_328q : (I_321 q 1).toInt = (I_277 q 1).toInt := by rw [fI q (gO_ne hp.2.2.1 hp.2.2.2.2.1 (by decide))]
                  have u_328_0 : (I_321 ln 0).toInt = (I_277 ln 0).toInt := by rw [f0]
                  have hP := pH_ai hv hp.1 hp.2.2.2.2.1 (pH_ln hv0 hp0 hP fI) fA
                  have u_329 : (I_321 ln 2).toInt = (I_277 ln 2).toInt := by rw [fk 2 (by decide)]
                  have u_330 : (I_321 ln 3).toInt = (I_277 ln 3).toInt := by rw [fk 3 (by decide)]
                  have u_331 : (I_321 ln 4).toInt = (I_277 ln 4).toInt := by rw [fk 4 (by decide)]
                  have u_332 : (I_321 ln 5).toInt = (I_277 ln 5).toInt := by rw [fk 5 (by decide)]
                  have u_333 : (I_321 ln 6).toInt = (I_277 ln 6).toInt := by rw [fk 6 (by decide)]
                  have u_334 : (I_321 ln 9).toInt = (I_277 ln 9).toInt := by rw [fk 9 (by decide)]
                  have u_335 : (I_321 ln 10).toInt = (I_277 ln 10).toInt := by rw [fk 10 (by decide)]
                  have u_336 : (I_321 ln 11).toInt = (I_277 ln 11).toInt := by rw [fk 11 (by decide)]
                  have u_337 : (I_321 ln 12).toInt = (I_277 ln 12).toInt := by rw [fk 12 (by decide)]
                  have hP : pH gh AR I_321 J AI_324 AJ a q b n tl nr nt cl (h + 2) := hP
                  have hct : qTest b n (AI_324 (gh 3 ln)) k8.toNat h := ⟨by rw [show 4 * k8.toNat = (4 * (I_277 ln 8).toInt + 0).toNat by omega, fv0]; omega, by rw [show 4 * k8.toNat + 1 = (4 * (I_277 ln 8).toInt + 1).toNat by omega, fv1]; omega, by rw [show 4 * k8.toNat + 2 = (4 * (I_277 ln 8).toInt + 2).toNat by omega, fv2]; first | rw [if_pos (by omega)] | (rw [if_neg (by omega)]; omega), by rw [show 4 * k8.toNat + 3 = (4 * (I_277 ln 8).toInt + 3).toNat by omega, fv3]; omega⟩
                  have hfz : ∀ j : Nat, (j : Int) < 4 * k8 → AI_324 (gh 3 ln) j = AI (gh 3 ln) j := fun j hj => fz j (by omega)
                  refine lv_aload_n F.1 F.2.1 dX1_readTest_156 rfl (lv_at hl 5 rfl) ?_
                  have hv0 := hv
                  refine g_callv (g_runV (As := []) (rest := []) (ci := 1) F hl.1 hH hS hz (c_X1_stepg l g gh q b n tl nr nt cl (h + 2) I_321 R J AI_324 AJ AR a hv hp.1 (by first | exact hp.2.2.2.2.2.2.2 | exact hh | omega) hP (by first | exact hp.2.2.1 | exact hq) (by omega)) (cwV 0 F.2.2.2.2.1 gX1_readTest_X1_step rfl rfl rfl hdX1_step ⟨Nat.le_of_ble_eq_true rfl, Nat.le_of_ble_eq_true rfl⟩) hp.1 (by decide) rfl rfl rfl (Nat.le_of_ble_eq_true rfl) dX1_readTest_157 ⟨Nat.zero_le _, Nat.zero_le _⟩) hS (fun I_338 R_339 J_340 AI_341 AJ_342 AR_343 H locs hp_344 hH hS => ?_)
                  dsimp only at hp_344
                  obtain ⟨rfl, rfl, rfl, rfl, rfl, hv, fs, hs, hP⟩ := hp_344
                  have hP : pH gh AR I_338 J AI_324 AJ a q b n tl nr nt cl (h + 3) := hP
                  obtain ⟨hp, pfq, fls⟩ := pS_step hv0 hp fs hs
                  have pf := pF_t pf pfq
                  have u_345q : (I_338 q 1).toInt = (I_321 q 1).toInt := by rw [pF_q hp pfq]
                  have u_345_0 : (I_338 ln 0).toInt = (I_321 ln 0).toInt := by rw [fls]
                  have u_345_8 : (I_338 ln 8).toInt = (I_321 ln 8).toInt := by rw [fls]
                  have u_346 : (I_338 ln 2).toInt = (I_321 ln 2).toInt := by rw [fls]
                  have u_347 : (I_338 ln 3).toInt = (I_321 ln 3).toInt := by rw [fls]
                  have u_348 : (I_338 ln 4).toInt = (I_321 ln 4).toInt := by rw [fls]
                  have u_349 : (I_338 ln 5).toInt = (I_321 ln 5).toInt := by rw [fls]
                  have u_350 : (I_338 ln 6).toInt = (I_321 ln 6).toInt := by rw [fls]
                  have u_351 : (I_338 ln 9).toInt = (I_321 ln 9).toInt := by rw [fls]
                  have u_352 : (I_338 ln 10).toInt = (I_321 ln 10).toInt := by rw [fls]
                  have u_353 : (I_338 ln 11).toInt = (I_321 ln 11).toInt := by rw [fls]
                  have u_354 : (I_338 ln 12).toInt = (I_321 ln 12).toInt := by rw [fls]
                  refine z_iconst F dX1_readTest_160 ?_
                  have hfin : sTest b n c5 k8 h = (0, h + 3, 0) := by
                    unfold sTest
                    repeat (first | with_reducible rfl | refine ite_y (by omega) ?_ | refine ite_n (by omega) ?_ | exact pr_e (by omega) (by omega) (by omega))
                  exact g_iret F hr hlk hH hS hz ⟨by decide, by decide⟩ ⟨rfl, rfl, rfl, rfl, hv, hp, pf, by first | omega | rfl | (dsimp only; omega), by (try dsimp only); rw [hfin]; first | done | omega | rfl, by (try dsimp only); rw [hfin]; exact hP, by (try dsimp only); omega, by (try dsimp only); first | exact pIm_n (by omega) | (rw [hfin]; (try dsimp only); exact pIm_y (by first | omega | rfl)) | exact pIm_y (by omega), fun b hb => fA b hb, by (try dsimp only); first | exact zIf_n (by omega) | exact zIf_y hct, by (try dsimp only); first | exact hfz | exact (fun _ _ => rfl)⟩ dX1_readTest_161
                · exact absurd trivial (by omega)
              · refine lv_iload_n F.1 F.2.1 dX1_readTest_118 rfl (lv_at hl 0 rfl) ?_
                have hfin : sTest b n c5 k8 h = (v_313, h + 2, 0) := by
                  unfold sTest
                  repeat (first | with_reducible rfl | refine ite_y (by omega) ?_ | refine ite_n (by omega) ?_ | exact pr_e (by omega) (by omega) (by omega))
                exact g_iret F hr hlk hH hS hz zv_313 ⟨rfl, rfl, rfl, rfl, hv, hp, pf, by first | omega | rfl | (dsimp only; omega), by (try dsimp only); rw [hfin]; first | done | omega | rfl, by (try dsimp only); rw [hfin]; exact hP, by (try dsimp only); omega, by (try dsimp only); first | exact pIm_n (by omega) | (rw [hfin]; (try dsimp only); exact pIm_y (by first | omega | rfl)) | exact pIm_y (by omega), fun _ _ => rfl, by (try dsimp only); first | exact zIf_n (by omega) | exact zIf_y hct, by (try dsimp only); first | exact hfz | exact (fun _ _ => rfl)⟩ dX1_readTest_119
            · have t_355 := tIz_1 q_303 (by omega)
              refine z_iconst F dX1_readTest_98 ?_
              refine z_goto (tgt := 113) F dX1_readTest_99 (by decide) ?_
              refine lv_istore_n (lv' := [(1, .int (iI 0)), (4, .int (iI v_300)), (3, .int (iI v_35)), (2, .int (iI v_15)), (0, .ref a)]) F.1 F.2.1 dX1_readTest_113 rfl hl (by decide) rfl (fun ls hl => ?_)
              refine lv_iload_n F.1 F.2.1 dX1_readTest_114 rfl (lv_at hl 0 rfl) ?_
              refine z_if_eq (tgt := 120) F dX1_readTest_115 (by decide) ⟨by decide, by decide⟩ (fun c_356 => ?_) (fun c_356 => ?_)
              · refine lv_aload_n F.1 F.2.1 dX1_readTest_120 rfl (lv_at hl 4 rfl) ?_
                refine g_getR (ci := 1) (k := 0) F hH rfl (by decide) iX1 hp.1 (by decide) rfl (b := gh 22 0) (gR_pr0 hv hp.1).1 k12 dX1_readTest_121 ?_
                refine g_getR (ci := 5) (k := 2) F hH rfl (by decide) iX5 (gR_pr0 hv hp.1).2 (by decide) rfl (b := gh 26 0) r_13a k71 dX1_readTest_124 ?_
                refine lv_aload_n F.1 F.2.1 dX1_readTest_127 rfl (lv_at hl 4 rfl) ?_
                refine g_getI (ci := 1) (k := 3) F hH rfl (by decide) iX1 hp.1 (by decide) rfl k44 dX1_readTest_128 ?_
                have b_357h := hp.2.2.2.2.2.2.2
                have b_357 := gI_pr hv hp.1
                have b_357t := gI_tk hv (gR_pr0 hv hp.1).2
                have hx131 : 0 ≤ ((I_277 a 3).toInt) ∧ ((I_277 a 3).toInt) < ((901 : Nat) : Int) ∧ ((I_277 a 3).toInt) ≤ 2147483647 := ⟨by omega, by omega, by omega⟩
                refine g_iald F hH r_13b hx131.1 hx131.2.1 hx131.2.2 dX1_readTest_131 ?_
                refine z_name (fun v_358 ev_358 => ?_)
                have zv_358 : zr v_358 := by rw [ev_358]; exact zr_t _
                have t131 : v_358 = pV b n (h + 2) := by rw [ev_358]; exact pH_V hP
                refine lv_istore (lv' := [(5, .int (iI v_358)), (1, .int (iI 0)), (4, .int (iI v_300)), (3, .int (iI v_35)), (2, .int (iI v_15)), (0, .ref a)]) F.1 F.2.1 dX1_readTest_132 hl (by decide) rfl (fun ls hl => ?_)
                refine lv_aload_n F.1 F.2.1 dX1_readTest_134 rfl (lv_at hl 5 rfl) ?_
                refine g_getR (ci := 1) (k := 2) F hH rfl (by decide) iX1 hp.1 (by decide) rfl (b := ln) hp.2.2.2.1 k29 dX1_readTest_135 ?_
                refine lv_iload_n F.1 F.2.1 dX1_readTest_138 rfl (lv_at hl 4 rfl) ?_
                refine lv_iload_n F.1 F.2.1 dX1_readTest_139 rfl (lv_at hl 3 rfl) ?_
                refine lv_iload F.1 F.2.1 dX1_readTest_140 (lv_at hl 2 rfl) ?_
                refine z_if_eq (tgt := 149) F dX1_readTest_142 (by decide) zv_300 (fun c_359 => ?_) (fun c_359 => ?_)
                · exact absurd trivial (by omega)
                · have t_360 := tIz_1 q_303 (by omega)
                  refine z_iconst F dX1_readTest_145 ?_
                  refine z_goto (tgt := 151) F dX1_readTest_146 (by decide) ?_
                  refine lv_iload F.1 F.2.1 dX1_readTest_151 (lv_at hl 0 rfl) ?_
                  have hp0 := hp
                  have hv0 := hv
                  have b_361 := gI_line hv hp.2.2.2.2.1
                  unfold vLineI at b_361
                  refine g_callv (g_runV (As := [.int (iI v_15), .int (iI v_35), .int (iI ((-1))), .int (iI v_358)]) (rest := []) (ci := 0) F hl.1 hH hS hz (c_X0_addTestg l g gh I_277 R J AI AJ AR ln v_15 v_35 (-1) v_358 zv_15 zv_35 ⟨by decide, by decide⟩ zv_358 hv hp.2.2.2.2.1 (by omega) (by omega) (by omega) (by omega)) (cwV 4 F.2.2.2.2.1 gX1_readTest_X0_addTest rfl rfl rfl hdX0_addTest ⟨Nat.le_of_ble_eq_true rfl, Nat.le_of_ble_eq_true rfl⟩) hp.2.2.2.2.1 (by decide) rfl rfl rfl (Nat.le_of_ble_eq_true rfl) dX1_readTest_153 ⟨Nat.zero_le _, Nat.zero_le _⟩) hS (fun I_362 R_363 J_364 AI_365 AJ_366 AR_367 H locs hp_368 hH hS => ?_)
                  dsimp only at hp_368
                  obtain ⟨rfl, rfl, rfl, rfl, hv, fI, fA, f0, f8, fk, fz, fv0, fv1, fv2, fv3⟩ := hp_368
                  have hp := pS_ln hv0 hp fI
                  have pf := pF_t pf (pF_o fI f0)
                  have u_369q : (I_362 q 1).toInt = (I_277 q 1).toInt := by rw [fI q (gO_ne hp.2.2.1 hp.2.2.2.2.1 (by decide))]
                  have u_369_0 : (I_362 ln 0).toInt = (I_277 ln 0).toInt := by rw [f0]
                  have hP := pH_ai hv hp.1 hp.2.2.2.2.1 (pH_ln hv0 hp0 hP fI) fA
                  have u_370 : (I_362 ln 2).toInt = (I_277 ln 2).toInt := by rw [fk 2 (by decide)]
                  have u_371 : (I_362 ln 3).toInt = (I_277 ln 3).toInt := by rw [fk 3 (by decide)]
                  have u_372 : (I_362 ln 4).toInt = (I_277 ln 4).toInt := by rw [fk 4 (by decide)]
                  have u_373 : (I_362 ln 5).toInt = (I_277 ln 5).toInt := by rw [fk 5 (by decide)]
                  have u_374 : (I_362 ln 6).toInt = (I_277 ln 6).toInt := by rw [fk 6 (by decide)]
                  have u_375 : (I_362 ln 9).toInt = (I_277 ln 9).toInt := by rw [fk 9 (by decide)]
                  have u_376 : (I_362 ln 10).toInt = (I_277 ln 10).toInt := by rw [fk 10 (by decide)]
                  have u_377 : (I_362 ln 11).toInt = (I_277 ln 11).toInt := by rw [fk 11 (by decide)]
                  have u_378 : (I_362 ln 12).toInt = (I_277 ln 12).toInt := by rw [fk 12 (by decide)]
                  have hP : pH gh AR I_362 J AI_365 AJ a q b n tl nr nt cl (h + 2) := hP
                  have hct : qTest b n (AI_365 (gh 3 ln)) k8.toNat h := ⟨by rw [show 4 * k8.toNat = (4 * (I_277 ln 8).toInt + 0).toNat by omega, fv0]; omega, by rw [show 4 * k8.toNat + 1 = (4 * (I_277 ln 8).toInt + 1).toNat by omega, fv1]; omega, by rw [show 4 * k8.toNat + 2 = (4 * (I_277 ln 8).toInt + 2).toNat by omega, fv2]; first | rw [if_pos (by omega)] | (rw [if_neg (by omega)]; omega), by rw [show 4 * k8.toNat + 3 = (4 * (I_277 ln 8).toInt + 3).toNat by omega, fv3]; omega⟩
                  have hfz : ∀ j : Nat, (j : Int) < 4 * k8 → AI_365 (gh 3 ln) j = AI (gh 3 ln) j := fun j hj => fz j (by omega)
                  refine lv_aload_n F.1 F.2.1 dX1_readTest_156 rfl (lv_at hl 5 rfl) ?_
                  have hv0 := hv
                  refine g_callv (g_runV (As := []) (rest := []) (ci := 1) F hl.1 hH hS hz (c_X1_stepg l g gh q b n tl nr nt cl (h + 2) I_362 R J AI_365 AJ AR a hv hp.1 (by first | exact hp.2.2.2.2.2.2.2 | exact hh | omega) hP (by first | exact hp.2.2.1 | exact hq) (by omega)) (cwV 0 F.2.2.2.2.1 gX1_readTest_X1_step rfl rfl rfl hdX1_step ⟨Nat.le_of_ble_eq_true rfl, Nat.le_of_ble_eq_true rfl⟩) hp.1 (by decide) rfl rfl rfl (Nat.le_of_ble_eq_true rfl) dX1_readTest_157 ⟨Nat.zero_le _, Nat.zero_le _⟩) hS (fun I_379 R_380 J_381 AI_382 AJ_383 AR_384 H locs hp_385 hH hS => ?_)
                  dsimp only at hp_385
                  obtain ⟨rfl, rfl, rfl, rfl, rfl, hv, fs, hs, hP⟩ := hp_385
                  have hP : pH gh AR I_379 J AI_365 AJ a q b n tl nr nt cl (h + 3) := hP
                  obtain ⟨hp, pfq, fls⟩ := pS_step hv0 hp fs hs
                  have pf := pF_t pf pfq
                  have u_386q : (I_379 q 1).toInt = (I_362 q 1).toInt := by rw [pF_q hp pfq]
                  have u_386_0 : (I_379 ln 0).toInt = (I_362 ln 0).toInt := by rw [fls]
                  have u_386_8 : (I_379 ln 8).toInt = (I_362 ln 8).toInt := by rw [fls]
                  have u_387 : (I_379 ln 2).toInt = (I_362 ln 2).toInt := by rw [fls]
                  have u_388 : (I_379 ln 3).toInt = (I_362 ln 3).toInt := by rw [fls]
                  have u_389 : (I_379 ln 4).toInt = (I_362 ln 4).toInt := by rw [fls]
                  have u_390 : (I_379 ln 5).toInt = (I_362 ln 5).toInt := by rw [fls]
                  have u_391 : (I_379 ln 6).toInt = (I_362 ln 6).toInt := by rw [fls]
                  have u_392 : (I_379 ln 9).toInt = (I_362 ln 9).toInt := by rw [fls]
                  have u_393 : (I_379 ln 10).toInt = (I_362 ln 10).toInt := by rw [fls]
                  have u_394 : (I_379 ln 11).toInt = (I_362 ln 11).toInt := by rw [fls]
                  have u_395 : (I_379 ln 12).toInt = (I_362 ln 12).toInt := by rw [fls]
                  refine z_iconst F dX1_readTest_160 ?_
                  have hfin : sTest b n c5 k8 h = (0, h + 3, 0) := by
                    unfold sTest
                    repeat (first | with_reducible rfl | refine ite_y (by omega) ?_ | refine ite_n (by omega) ?_ | exact pr_e (by omega) (by omega) (by omega))
                  exact g_iret F hr hlk hH hS hz ⟨by decide, by decide⟩ ⟨rfl, rfl, rfl, rfl, hv, hp, pf, by first | omega | rfl | (dsimp only; omega), by (try dsimp only); rw [hfin]; first | done | omega | rfl, by (try dsimp only); rw [hfin]; exact hP, by (try dsimp only); omega, by (try dsimp only); first | exact pIm_n (by omega) | (rw [hfin]; (try dsimp only); exact pIm_y (by first | omega | rfl)) | exact pIm_y (by omega), fun b hb => fA b hb, by (try dsimp only); first | exact zIf_n (by omega) | exact zIf_y hct, by (try dsimp only); first | exact hfz | exact (fun _ _ => rfl)⟩ dX1_readTest_161
              · exact absurd trivial (by omega)
          · refine z_iconst F dX1_readTest_80 ?_
            have hfin : sTest b n c5 k8 h = (1, h + 1, 0) := by
              unfold sTest
              repeat (first | with_reducible rfl | refine ite_y (by omega) ?_ | refine ite_n (by omega) ?_ | exact pr_e (by omega) (by omega) (by omega))
            exact g_iret F hr hlk hH hS hz ⟨by decide, by decide⟩ ⟨rfl, rfl, rfl, rfl, hv, hp, pf, by first | omega | rfl | (dsimp only; omega), by (try dsimp only); rw [hfin]; first | done | omega | rfl, by (try dsimp only); rw [hfin]; exact hP, by (try dsimp only); omega, by (try dsimp only); first | exact pIm_n (by omega) | (rw [hfin]; (try dsimp only); exact pIm_y (by first | omega | rfl)) | exact pIm_y (by omega), fun _ _ => rfl, by (try dsimp only); first | exact zIf_n (by omega) | exact zIf_y hct, by (try dsimp only); first | exact hfz | exact (fun _ _ => rfl)⟩ dX1_readTest_81
    · refine z_iconst F dX1_readTest_30 ?_
      have hfin : sTest b n c5 k8 h = (4, h, 0) := by
        unfold sTest
        repeat (first | with_reducible rfl | refine ite_y (by omega) ?_ | refine ite_n (by omega) ?_ | exact pr_e (by omega) (by omega) (by omega))
      exact g_iret F hr hlk hH hS hz ⟨by decide, by decide⟩ ⟨rfl, rfl, rfl, rfl, hv, hp, pf, by first | omega | rfl | (dsimp only; omega), by (try dsimp only); rw [hfin]; first | done | omega | rfl, by (try dsimp only); rw [hfin]; exact hP, by (try dsimp only); omega, by (try dsimp only); first | exact pIm_n (by omega) | (rw [hfin]; (try dsimp only); exact pIm_y (by first | omega | rfl)) | exact pIm_y (by omega), fun _ _ => rfl, by (try dsimp only); first | exact zIf_n (by omega) | exact zIf_y hct, by (try dsimp only); first | exact hfz | exact (fun _ _ => rfl)⟩ dX1_readTest_31
  · refine lv_iload_n F.1 F.2.1 dX1_readTest_16 rfl (lv_at hl 0 rfl) ?_
    have hfin : sTest b n c5 k8 h = (v_8, h, 0) := by
      unfold sTest
      repeat (first | with_reducible rfl | refine ite_y (by omega) ?_ | refine ite_n (by omega) ?_ | exact pr_e (by omega) (by omega) (by omega))
    exact g_iret F hr hlk hH hS hz zv_8 ⟨rfl, rfl, rfl, rfl, hv, hp, pf, by first | omega | rfl | (dsimp only; omega), by (try dsimp only); rw [hfin]; first | done | omega | rfl, by (try dsimp only); rw [hfin]; exact hP, by (try dsimp only); omega, by (try dsimp only); first | exact pIm_n (by omega) | (rw [hfin]; (try dsimp only); exact pIm_y (by first | omega | rfl)) | exact pIm_y (by omega), fun _ _ => rfl, by (try dsimp only); first | exact zIf_n (by omega) | exact zIf_y hct, by (try dsimp only); first | exact hfz | exact (fun _ _ => rfl)⟩ dX1_readTest_17

def rmX1_readTestsg : Room := { frames := 3, cells := 0, slots := 0, locals := 67 }
set_option maxHeartbeats 4000000 in
set_option maxRecDepth 100000 in
/-- the tests -/
theorem c_X1_readTestsg (l : Launch) (g : gG) (gh : gGh) (q ln : Nat) (c5 : Int) (b : tTx) (n : Nat) (tl : Int) (nr : Nat) (nt : Nat → Nat) (cl : Nat → Int) (h : Nat) (I : gI) (R : gR) (J : gJ) (AI : gI) (AJ : gJ) (AR : gR) (a : Nat) (hv : gInv g gh R AR I AI) (hp : pS g gh R I a q ln) (hk : (I ln 0).toInt = 1) (hP : pH gh AR I J AI AJ a q b n tl nr nt cl h) (hc5 : (I ln 5).toInt = c5) (hk8 : (I ln 8).toInt = 0) : gMet l g yX1_readTests wsX1_readTests rmX1_readTestsg [.ref a] (I, R, J, AI, AJ, AR) (gQi g (fun (z : Int) (w : gS) => R = w.2.1 ∧ J = w.2.2.1 ∧ AJ = w.2.2.2.2.1 ∧ AR = w.2.2.2.2.2 ∧ (gInv g gh R AR (w.1) (w.2.2.2.1)) ∧ (pS g gh R (w.1) a q ln) ∧ (pF a ln I (w.1)) ∧ (0 ≤ z ∧ z ≤ 4) ∧ (z = (sTests b n c5 9 0 h).1) ∧ (pH gh AR (w.1) J (w.2.2.2.1) AJ a q b n tl nr nt cl (sTests b n c5 9 0 h).2.1) ∧ (((w.1) ln 5).toInt = (I ln 5).toInt ∧ ((w.1) ln 3).toInt = (I ln 3).toInt ∧ ((w.1) ln 4).toInt = (I ln 4).toInt ∧ ((w.1) ln 9).toInt = (I ln 9).toInt ∧ ((w.1) ln 10).toInt = (I ln 10).toInt ∧ ((w.1) ln 11).toInt = (I ln 11).toInt ∧ ((w.1) ln 12).toInt = (I ln 12).toInt) ∧ (pIm z ((sTests b n c5 9 0 h).2.2) (c5)) ∧ (∀ b, b ≠ gh 3 ln → (w.2.2.2.1) b = AI b) ∧ (zIf z (((w.1) ln 8).toInt = ((iCnt nxT (spA b n) 9 h : Nat) : Int) ∧ qAll (qTest b n) nxT ((w.2.2.2.1) (gh 3 ln)) h ((w.1) ln 8).toInt)))) := by
  refine gStart (cc := cX1_readTests) (maxL := 3) (ret := (some (.int))) (by decide) rfl (Nat.le_of_ble_eq_true rfl) ?_
  intro p e s m below meth c ls F hr hlk hH hz hS hl
  have hl : lv_has ls 3 [(0, .ref a)] := hl
  have hS : va_S (gA g) s.heap s.heap [] := hS
  obtain ⟨H, hHe⟩ : ∃ H : Heap, H = s.heap := ⟨_, rfl⟩
  obtain ⟨locs, hlo⟩ : ∃ k : List Loc, k = [] := ⟨_, rfl⟩
  have hH : gH g I R J AI AJ AR H := by rw [hHe]; exact hH
  have hS : va_S (gA g) s.heap H locs := by rw [hHe, hlo]; exact hS
  suffices hw : W p l e rmX1_readTestsg s m ([.ref a] : List Value).toArray below meth c H locs 0 0 (MQ below (gQi g (fun (z : Int) (w : gS) => R = w.2.1 ∧ J = w.2.2.1 ∧ AJ = w.2.2.2.2.1 ∧ AR = w.2.2.2.2.2 ∧ (gInv g gh R AR (w.1) (w.2.2.2.1)) ∧ (pS g gh R (w.1) a q ln) ∧ (pF a ln I (w.1)) ∧ (0 ≤ z ∧ z ≤ 4) ∧ (z = (sTests b n c5 9 0 h).1) ∧ (pH gh AR (w.1) J (w.2.2.2.1) AJ a q b n tl nr nt cl (sTests b n c5 9 0 h).2.1) ∧ (((w.1) ln 5).toInt = (I ln 5).toInt ∧ ((w.1) ln 3).toInt = (I ln 3).toInt ∧ ((w.1) ln 4).toInt = (I ln 4).toInt ∧ ((w.1) ln 9).toInt = (I ln 9).toInt ∧ ((w.1) ln 10).toInt = (I ln 10).toInt ∧ ((w.1) ln 11).toInt = (I ln 11).toInt ∧ ((w.1) ln 12).toInt = (I ln 12).toInt) ∧ (pIm z ((sTests b n c5 9 0 h).2.2) (c5)) ∧ (∀ b, b ≠ gh 3 ln → (w.2.2.2.1) b = AI b) ∧ (zIf z (((w.1) ln 8).toInt = ((iCnt nxT (spA b n) 9 h : Nat) : Int) ∧ qAll (qTest b n) nxT ((w.2.2.2.1) (gh 3 ln)) h ((w.1) ln 8).toInt)))) ([.ref a] : List Value).toArray s 0 0 (gA g)) (F0 m 0 ls []) by
    rw [hHe, hlo] at hw; exact hw
  clear hHe hlo
  have pf : pF a ln I I := pF_r
  refine z_iconst F dX1_readTests_0 ?_
  refine lv_istore_n (lv' := [(1, .int (iI 0)), (0, .ref a)]) F.1 F.2.1 dX1_readTests_1 rfl hl (by decide) rfl (fun ls hl => ?_)
  have cut_2_2 : ∀ (NN : Nat) (i : Int) (I_1 : gI) (AI_2 : gI) (H : Heap) (locs : List Loc) (ls : Array Slot), zr i → (gInv g gh R AR I_1 AI_2) → (pS g gh R I_1 a q ln) → (pF a ln I I_1) → ((I_1 ln 0).toInt = 1) → (0 ≤ i ∧ i ≤ 9) → (pH gh AR I_1 J AI_2 AJ a q b n tl nr nt cl (I_1 a 3).toInt.toNat) → (sTests b n c5 9 0 h = sTests b n c5 (9 - i).toNat i (I_1 a 3).toInt.toNat) → ((I_1 ln 8).toInt = i ∧ (I_1 ln 5).toInt = c5 ∧ (I_1 ln 6).toInt = (I ln 6).toInt ∧ (I_1 ln 3).toInt = (I ln 3).toInt ∧ (I_1 ln 4).toInt = (I ln 4).toInt ∧ (I_1 ln 9).toInt = (I ln 9).toInt ∧ (I_1 ln 10).toInt = (I ln 10).toInt ∧ (I_1 ln 11).toInt = (I ln 11).toInt ∧ (I_1 ln 12).toInt = (I ln 12).toInt) → (∀ b, b ≠ gh 3 ln → AI_2 b = AI b) → (iL nxT (spA b n) 9 h i (I_1 a 3).toInt.toNat) → (qAll (qTest b n) nxT (AI_2 (gh 3 ln)) h i) → (9 - i) < ((NN : Nat) : Int) → gH g I_1 R J AI_2 AJ AR H → va_S (gA g) s.heap H locs → lv_has ls 3 [(1, .int (iI i)), (0, .ref a)] → W p l e rmX1_readTestsg s m ([.ref a] : List Value).toArray below meth c H locs 0 0 (MQ below (gQi g (fun (z : Int) (w : gS) => R = w.2.1 ∧ J = w.2.2.1 ∧ AJ = w.2.2.2.2.1 ∧ AR = w.2.2.2.2.2 ∧ (gInv g gh R AR (w.1) (w.2.2.2.1)) ∧ (pS g gh R (w.1) a q ln) ∧ (pF a ln I (w.1)) ∧ (0 ≤ z ∧ z ≤ 4) ∧ (z = (sTests b n c5 9 0 h).1) ∧ (pH gh AR (w.1) J (w.2.2.2.1) AJ a q b n tl nr nt cl (sTests b n c5 9 0 h).2.1) ∧ (((w.1) ln 5).toInt = (I ln 5).toInt ∧ ((w.1) ln 3).toInt = (I ln 3).toInt ∧ ((w.1) ln 4).toInt = (I ln 4).toInt ∧ ((w.1) ln 9).toInt = (I ln 9).toInt ∧ ((w.1) ln 10).toInt = (I ln 10).toInt ∧ ((w.1) ln 11).toInt = (I ln 11).toInt ∧ ((w.1) ln 12).toInt = (I ln 12).toInt) ∧ (pIm z ((sTests b n c5 9 0 h).2.2) (c5)) ∧ (∀ b, b ≠ gh 3 ln → (w.2.2.2.1) b = AI b) ∧ (zIf z (((w.1) ln 8).toInt = ((iCnt nxT (spA b n) 9 h : Nat) : Int) ∧ qAll (qTest b n) nxT ((w.2.2.2.1) (gh 3 ln)) h ((w.1) ln 8).toInt)))) ([.ref a] : List Value).toArray s 0 0 (gA g)) (F0 m 2 ls []) := by
    intro NN2
    induction NN2 with
    | zero =>
      intro i I_1 AI_2 H locs ls zi hv hp pf hk hi hP hsq hk8l fA9 hil hqa hm2 hH hS hl
      exact absurd hm2 (by omega)
    | succ NN2 ih2 =>
      intro i I_1 AI_2 H locs ls zi hv hp pf hk hi hP hsq hk8l fA9 hil hqa hm2 hH hS hl
      obtain ⟨hc, ehc⟩ : ∃ x, x = (I_1 a 3).toInt.toNat := ⟨_, rfl⟩
      rw [← ehc] at hP hsq
      rw [← ehc] at hil
      refine lv_iload_n F.1 F.2.1 dX1_readTests_2 rfl (lv_at hl 0 rfl) ?_
      refine z_bipush F dX1_readTests_3 (by decide) ?_
      refine z_icmp_gt (tgt := 38) F dX1_readTests_5 (by decide) zi ⟨by decide, by decide⟩ (fun c_4 => ?_) (fun c_4 => ?_)
      · refine z_iconst F dX1_readTests_38 ?_
        have hfin : sTests b n c5 9 0 h = (4, hc, 0) := sTests_z hsq (by omega)
        exact g_iret F hr hlk hH hS hz ⟨by decide, by decide⟩ ⟨rfl, rfl, rfl, rfl, hv, hp, pf, by first | omega | rfl | (dsimp only; omega), by (try dsimp only); rw [hfin]; first | done | omega | rfl, by (try dsimp only); rw [hfin]; exact hP, by (try dsimp only); omega, by (try dsimp only); first | exact pIm_n (by omega) | (rw [hfin]; (try dsimp only); exact pIm_y (by first | omega | rfl)) | exact pIm_y (by omega), fun b hb => fA9 b hb, by (try dsimp only); exact zIf_n (by omega)⟩ dX1_readTests_39
      · refine lv_aload_n F.1 F.2.1 dX1_readTests_8 rfl (lv_at hl 1 rfl) ?_
        refine g_calli (g_runV (As := []) (rest := []) (ci := 1) F hl.1 hH hS hz (c_X1_readTestg l g gh q ln c5 i b n tl nr nt cl hc I_1 R J AI_2 AJ AR a hv hp (by omega) hP (by omega) (by omega)) (cwV 0 F.2.2.2.2.1 gX1_readTests_X1_readTest rfl rfl rfl hdX1_readTest ⟨Nat.le_of_ble_eq_true rfl, Nat.le_of_ble_eq_true rfl⟩) hp.1 (by decide) rfl rfl rfl (Nat.le_of_ble_eq_true rfl) dX1_readTests_9 ⟨Nat.zero_le _, Nat.zero_le _⟩) hS (fun v_11 I_5 R_6 J_7 AI_8 AJ_9 AR_10 H locs zv_11 hp_12 hH hS => ?_)
        dsimp only at hp_12
        obtain ⟨r_13, er_13⟩ : ∃ qQ : pR, qQ = sTest b n c5 i hc := ⟨_, rfl⟩
        rw [← er_13] at hp_12
        obtain ⟨rfl, rfl, rfl, rfl, hv, hp, pfq, q_14, q_15, hP, q_16, q_17, fAq, ctq, fzq⟩ := hp_12
        have pf := pF_t pf pfq
        have u_18q : (I_5 q 1).toInt = (I_1 q 1).toInt := by rw [pF_q hp pfq]
        have u_18_0 : (I_5 ln 0).toInt = (I_1 ln 0).toInt := by rw [pfq.2]
        refine lv_istore_n (lv' := [(2, .int (iI v_11)), (1, .int (iI i)), (0, .ref a)]) F.1 F.2.1 dX1_readTests_12 rfl hl (by decide) rfl (fun ls hl => ?_)
        refine lv_iload_n F.1 F.2.1 dX1_readTests_13 rfl (lv_at hl 0 rfl) ?_
        refine z_if_ne (tgt := 26) F dX1_readTests_14 (by decide) zv_11 (fun c_19 => ?_) (fun c_19 => ?_)
        · refine lv_iload_n F.1 F.2.1 dX1_readTests_26 rfl (lv_at hl 0 rfl) ?_
          have hfin : sTests b n c5 9 0 h = r_13 := sTests_no hsq (f := (8 - i).toNat) (by omega) er_13 (by omega)
          exact g_iret F hr hlk hH hS hz zv_11 ⟨rfl, rfl, rfl, rfl, hv, hp, pf, by first | omega | rfl | (dsimp only; omega), by (try dsimp only); rw [hfin]; first | done | omega | rfl, by (try dsimp only); rw [hfin]; exact hP, by (try dsimp only); omega, by (try dsimp only); first | exact pIm_n (by omega) | (rw [hfin]; (try dsimp only); exact pIm_y (by first | omega | rfl)) | exact pIm_y (by omega) | (rw [hfin]; (try dsimp only); exact fun h9 => by have q9 := q_17 h9; (try dsimp only at q9); omega), fun b hb => (fAq b hb).trans (fA9 b hb), by (try dsimp only); exact zIf_n (by omega)⟩ dX1_readTests_27
        · have t_20 := q_17 (by omega)
          refine lv_aload_n F.1 F.2.1 dX1_readTests_17 rfl (lv_at hl 2 rfl) ?_
          refine z_bipush F dX1_readTests_18 (by decide) ?_
          refine g_calli (g_runV (As := [.int (iI 11)]) (rest := []) (ci := 1) F hl.1 hH hS hz (c_X1_isWordg l g gh q b n tl nr nt cl r_13.2.1 I_5 R J AI_8 AJ AR a 11 ⟨by decide, by decide⟩ hv hp.1 (by first | exact hp.2.2.2.2.2.2.2 | exact hh | omega) hP) (cwV 1 F.2.2.2.2.1 gX1_readTests_X1_isWord rfl rfl rfl hdX1_isWord ⟨Nat.le_of_ble_eq_true rfl, Nat.le_of_ble_eq_true rfl⟩) hp.1 (by decide) rfl rfl rfl (Nat.le_of_ble_eq_true rfl) dX1_readTests_20 ⟨Nat.zero_le _, Nat.zero_le _⟩) hS (fun v_27 I_21 R_22 J_23 AI_24 AJ_25 AR_26 H locs zv_27 hp_28 hH hS => ?_)
          dsimp only at hp_28
          obtain ⟨rfl, rfl, rfl, rfl, rfl, rfl, q_29, q_30⟩ := hp_28
          refine z_if_ne (tgt := 28) F dX1_readTests_23 (by decide) zv_27 (fun c_31 => ?_) (fun c_31 => ?_)
          · have t_32 := tIz_1 q_30 (by omega)
            refine lv_aload_n F.1 F.2.1 dX1_readTests_28 rfl (lv_at hl 2 rfl) ?_
            have hv0 := hv
            refine g_callv (g_runV (As := []) (rest := []) (ci := 1) F hl.1 hH hS hz (c_X1_stepg l g gh q b n tl nr nt cl r_13.2.1 I_5 R J AI_8 AJ AR a hv hp.1 (by first | exact hp.2.2.2.2.2.2.2 | exact hh | omega) hP (by first | exact hp.2.2.1 | exact hq) (by omega)) (cwV 0 F.2.2.2.2.1 gX1_readTests_X1_step rfl rfl rfl hdX1_step ⟨Nat.le_of_ble_eq_true rfl, Nat.le_of_ble_eq_true rfl⟩) hp.1 (by decide) rfl rfl rfl (Nat.le_of_ble_eq_true rfl) dX1_readTests_29 ⟨Nat.zero_le _, Nat.zero_le _⟩) hS (fun I_33 R_34 J_35 AI_36 AJ_37 AR_38 H locs hp_39 hH hS => ?_)
            dsimp only at hp_39
            obtain ⟨rfl, rfl, rfl, rfl, rfl, hv, fs, hs, hP⟩ := hp_39
            have hP : pH gh AR I_33 J AI_8 AJ a q b n tl nr nt cl (r_13.2.1 + 1) := hP
            obtain ⟨hp, pfq, fls⟩ := pS_step hv0 hp fs hs
            have pf := pF_t pf pfq
            have u_40q : (I_33 q 1).toInt = (I_5 q 1).toInt := by rw [pF_q hp pfq]
            have u_40_0 : (I_33 ln 0).toInt = (I_5 ln 0).toInt := by rw [fls]
            have u_40_8 : (I_33 ln 8).toInt = (I_5 ln 8).toInt := by rw [fls]
            have u_41 : (I_33 ln 2).toInt = (I_5 ln 2).toInt := by rw [fls]
            have u_42 : (I_33 ln 3).toInt = (I_5 ln 3).toInt := by rw [fls]
            have u_43 : (I_33 ln 4).toInt = (I_5 ln 4).toInt := by rw [fls]
            have u_44 : (I_33 ln 5).toInt = (I_5 ln 5).toInt := by rw [fls]
            have u_45 : (I_33 ln 6).toInt = (I_5 ln 6).toInt := by rw [fls]
            have u_46 : (I_33 ln 9).toInt = (I_5 ln 9).toInt := by rw [fls]
            have u_47 : (I_33 ln 10).toInt = (I_5 ln 10).toInt := by rw [fls]
            have u_48 : (I_33 ln 11).toInt = (I_5 ln 11).toInt := by rw [fls]
            have u_49 : (I_33 ln 12).toInt = (I_5 ln 12).toInt := by rw [fls]
            have hsq := sTests_go hsq (f := (8 - i).toNat) (by omega) er_13 (by omega) (by omega)
            have hnx := sTest_h er_13 (by omega)
            have hqa := qAll_s qTest_l hqa hil (fun j hj => fzq j (by omega)) (ctq (by omega))
            have hil := iL_go hil (by omega) hnx (by unfold spA; exact decide_eq_true (by omega))
            refine z_iinc (lv' := [(1, .int (iI (i + 1))), (2, .int (iI v_11)), (0, .ref a)]) F dX1_readTests_32 hl (k := 1) rfl (by decide) rfl (fun ls hl => ?_)
            refine z_goto (tgt := 2) F dX1_readTests_35 (by decide) ?_
            exact ih2 (i + 1) I_33 AI_8 H locs ls ⟨by omega, by omega⟩ hv hp pf (by omega) (by omega) (by rw [pH_n hP]; exact hP) (by rw [pH_n hP, show (9 - (i + 1)).toNat = (8 - i).toNat by omega]; exact hsq) (by omega) (fun b hb => (fAq b hb).trans (fA9 b hb)) (by rw [pH_n hP]; exact hil) hqa (by omega) hH hS (lv_sub hl [0, 2] rfl)
          · have t_50 := tIz_0 q_30 (by omega)
            refine lv_iload_n F.1 F.2.1 dX1_readTests_26 rfl (lv_at hl 0 rfl) ?_
            have hfin : sTests b n c5 9 0 h = (0, r_13.2.1, c5) := sTests_st hsq (f := (8 - i).toNat) (by omega) er_13 (by omega) (by omega)
            have hnx := sTest_h er_13 (by omega)
            have hqa := qAll_s qTest_l hqa hil (fun j hj => fzq j (by omega)) (ctq (by omega))
            have hcnt := iL_st hil (by omega) hnx (by unfold spA; exact fun e9 => absurd (of_decide_eq_true e9) (by omega))
            exact g_iret F hr hlk hH hS hz zv_11 ⟨rfl, rfl, rfl, rfl, hv, hp, pf, by first | omega | rfl | (dsimp only; omega), by (try dsimp only); rw [hfin]; first | done | omega | rfl, by (try dsimp only); rw [hfin]; exact hP, by (try dsimp only); omega, by (try dsimp only); first | exact pIm_n (by omega) | (rw [hfin]; (try dsimp only); exact pIm_y (by first | omega | rfl)) | exact pIm_y (by omega) | (rw [hfin]; (try dsimp only); exact fun h9 => by have q9 := q_17 h9; (try dsimp only at q9); omega), fun b hb => (fAq b hb).trans (fA9 b hb), by (try dsimp only); exact zIf_y ⟨by omega, by rw [show (I_5 ln 8).toInt = i + 1 by omega]; exact hqa⟩⟩ dX1_readTests_27
  exact cut_2_2 (((9 - 0) + 1 : Int).toNat) 0 I AI H locs ls ⟨by decide, by decide⟩ hv hp pf (by omega) (by omega) (by rw [pH_n hP]; exact hP) (by rw [pH_n hP]; rfl) (by omega) (fun _ _ => rfl) (by rw [pH_n hP]; exact iL_0) (qAll_0 (by omega)) (by omega) hH hS (lv_sub hl [0, 1] rfl)

def rmX1_readTermg : Room := { frames := 2, cells := 0, slots := 0, locals := 42 }
set_option maxHeartbeats 4000000 in
set_option maxRecDepth 100000 in
/-- a term -/
theorem c_X1_readTermg (l : Launch) (g : gG) (gh : gGh) (q ln : Nat) (k8 : Int) (b : tTx) (n : Nat) (tl : Int) (nr : Nat) (nt : Nat → Nat) (cl : Nat → Int) (h : Nat) (I : gI) (R : gR) (J : gJ) (AI : gI) (AJ : gJ) (AR : gR) (a : Nat) (cols : Int) (zcols : zr cols) (hv : gInv g gh R AR I AI) (hp : pS g gh R I a q ln) (hk : (I ln 0).toInt = 2 ∨ (I ln 0).toInt = 8) (hP : pH gh AR I J AI AJ a q b n tl nr nt cl h) (hk8 : (I ln 8).toInt = k8) : gMet l g yX1_readTerm wsX1_readTerm rmX1_readTermg [.ref a, .int (iI cols)] (I, R, J, AI, AJ, AR) (gQi g (fun (z : Int) (w : gS) => R = w.2.1 ∧ J = w.2.2.1 ∧ AJ = w.2.2.2.2.1 ∧ AR = w.2.2.2.2.2 ∧ (gInv g gh R AR (w.1) (w.2.2.2.1)) ∧ (pS g gh R (w.1) a q ln) ∧ (pF a ln I (w.1)) ∧ (0 ≤ z ∧ z ≤ 4) ∧ (z = (sTerm b n cols k8 h).1) ∧ (pH gh AR (w.1) J (w.2.2.2.1) AJ a q b n tl nr nt cl (sTerm b n cols k8 h).2.1) ∧ (((w.1) ln 5).toInt = (I ln 5).toInt ∧ ((w.1) ln 6).toInt = (I ln 6).toInt ∧ ((w.1) ln 3).toInt = (I ln 3).toInt ∧ ((w.1) ln 4).toInt = (I ln 4).toInt ∧ ((w.1) ln 9).toInt = (I ln 9).toInt ∧ ((w.1) ln 10).toInt = (I ln 10).toInt ∧ ((w.1) ln 11).toInt = (I ln 11).toInt ∧ ((w.1) ln 12).toInt = (I ln 12).toInt) ∧ (pIm z (((w.1) ln 8).toInt) (k8 + 1)) ∧ (∀ b, b ≠ gh 3 ln → (w.2.2.2.1) b = AI b) ∧ (zIf z (qTerm b n ((w.2.2.2.1) (gh 3 ln)) k8.toNat h)) ∧ (∀ j : Nat, (j : Int) < 2 * k8 → (w.2.2.2.1) (gh 3 ln) j = AI (gh 3 ln) j))) := by
  refine gStart (cc := cX1_readTerm) (maxL := 6) (ret := (some (.int))) (by decide) rfl (Nat.le_of_ble_eq_true rfl) ?_
  intro p e s m below meth c ls F hr hlk hH hz hS hl
  have hl : lv_has ls 6 [(0, .ref a), (1, .int (iI cols))] := hl
  have hS : va_S (gA g) s.heap s.heap [] := hS
  obtain ⟨H, hHe⟩ : ∃ H : Heap, H = s.heap := ⟨_, rfl⟩
  obtain ⟨locs, hlo⟩ : ∃ k : List Loc, k = [] := ⟨_, rfl⟩
  have hH : gH g I R J AI AJ AR H := by rw [hHe]; exact hH
  have hS : va_S (gA g) s.heap H locs := by rw [hHe, hlo]; exact hS
  suffices hw : W p l e rmX1_readTermg s m ([.ref a, .int (iI cols)] : List Value).toArray below meth c H locs 0 0 (MQ below (gQi g (fun (z : Int) (w : gS) => R = w.2.1 ∧ J = w.2.2.1 ∧ AJ = w.2.2.2.2.1 ∧ AR = w.2.2.2.2.2 ∧ (gInv g gh R AR (w.1) (w.2.2.2.1)) ∧ (pS g gh R (w.1) a q ln) ∧ (pF a ln I (w.1)) ∧ (0 ≤ z ∧ z ≤ 4) ∧ (z = (sTerm b n cols k8 h).1) ∧ (pH gh AR (w.1) J (w.2.2.2.1) AJ a q b n tl nr nt cl (sTerm b n cols k8 h).2.1) ∧ (((w.1) ln 5).toInt = (I ln 5).toInt ∧ ((w.1) ln 6).toInt = (I ln 6).toInt ∧ ((w.1) ln 3).toInt = (I ln 3).toInt ∧ ((w.1) ln 4).toInt = (I ln 4).toInt ∧ ((w.1) ln 9).toInt = (I ln 9).toInt ∧ ((w.1) ln 10).toInt = (I ln 10).toInt ∧ ((w.1) ln 11).toInt = (I ln 11).toInt ∧ ((w.1) ln 12).toInt = (I ln 12).toInt) ∧ (pIm z (((w.1) ln 8).toInt) (k8 + 1)) ∧ (∀ b, b ≠ gh 3 ln → (w.2.2.2.1) b = AI b) ∧ (zIf z (qTerm b n ((w.2.2.2.1) (gh 3 ln)) k8.toNat h)) ∧ (∀ j : Nat, (j : Int) < 2 * k8 → (w.2.2.2.1) (gh 3 ln) j = AI (gh 3 ln) j))) ([.ref a, .int (iI cols)] : List Value).toArray s 0 0 (gA g)) (F0 m 0 ls []) by
    rw [hHe, hlo] at hw; exact hw
  clear hHe hlo
  have pf : pF a ln I I := pF_r
  have iX5 : ∀ w ∈ u_ws RX5 TX5 5, w ∈ wsX1_readTerm := (by decide +kernel)
  have iX1 : ∀ w ∈ u_ws RX1 TX1 4, w ∈ wsX1_readTerm := (by decide +kernel)
  have iX0 : ∀ w ∈ u_ws RX0 TX0 15, w ∈ wsX1_readTerm := (by decide +kernel)
  have k29 : Cond.fieldLink RX1 29 (TX1 2).1 (TX1 2).2.1 (TX1 2).2.2.1 ∈ wsX1_readTerm := List.mem_of_getElem? (i := 1) rfl
  have k149 : Cond.fieldLink RX1 149 (TX0 8).1 (TX0 8).2.1 (TX0 8).2.2.1 ∈ wsX1_readTerm := List.mem_of_getElem? (i := 2) rfl
  have k12 : Cond.fieldLink RX1 12 (TX1 0).1 (TX1 0).2.1 (TX1 0).2.2.1 ∈ wsX1_readTerm := List.mem_of_getElem? (i := 3) rfl
  have k71 : Cond.fieldLink RX1 71 (TX5 2).1 (TX5 2).2.1 (TX5 2).2.2.1 ∈ wsX1_readTerm := List.mem_of_getElem? (i := 4) rfl
  have k44 : Cond.fieldLink RX1 44 (TX1 3).1 (TX1 3).2.1 (TX1 3).2.2.1 ∈ wsX1_readTerm := List.mem_of_getElem? (i := 5) rfl
  have k47 : Cond.fieldLink RX1 47 (TX5 0).1 (TX5 0).2.1 (TX5 0).2.2.1 ∈ wsX1_readTerm := List.mem_of_getElem? (i := 6) rfl
  refine lv_aload_n F.1 F.2.1 dX1_readTerm_0 rfl (lv_at hl 0 rfl) ?_
  refine z_iconst F dX1_readTerm_1 ?_
  refine g_calli (g_runV (As := [.int (iI 4)]) (rest := []) (ci := 1) F hl.1 hH hS hz (c_X1_isKindg l g gh q b n tl nr nt cl h I R J AI AJ AR a 4 ⟨by decide, by decide⟩ hv hp.1 (by first | exact hp.2.2.2.2.2.2.2 | exact hh | omega) hP) (cwV 1 F.2.2.2.2.1 gX1_readTerm_X1_isKind rfl rfl rfl hdX1_isKind ⟨Nat.le_of_ble_eq_true rfl, Nat.le_of_ble_eq_true rfl⟩) hp.1 (by decide) rfl rfl rfl (Nat.le_of_ble_eq_true rfl) dX1_readTerm_2 ⟨Nat.zero_le _, Nat.zero_le _⟩) hS (fun v_7 I_1 R_2 J_3 AI_4 AJ_5 AR_6 H locs zv_7 hp_8 hH hS => ?_)
  dsimp only at hp_8
  obtain ⟨rfl, rfl, rfl, rfl, rfl, rfl, q_9, q_10⟩ := hp_8
  refine lv_istore_n (lv' := [(2, .int (iI v_7)), (0, .ref a), (1, .int (iI cols))]) F.1 F.2.1 dX1_readTerm_5 rfl hl (by decide) rfl (fun ls hl => ?_)
  refine lv_iload_n F.1 F.2.1 dX1_readTerm_6 rfl (lv_at hl 0 rfl) ?_
  refine z_if_eq (tgt := 14) F dX1_readTerm_7 (by decide) zv_7 (fun c_11 => ?_) (fun c_11 => ?_)
  · have t_12 := tIz_0 q_10 (by omega)
    refine lv_aload_n F.1 F.2.1 dX1_readTerm_14 rfl (lv_at hl 1 rfl) ?_
    refine lv_iload_n F.1 F.2.1 dX1_readTerm_15 rfl (lv_at hl 2 rfl) ?_
    refine g_calli (g_runV (As := [.int (iI cols)]) (rest := []) (ci := 1) F hl.1 hH hS hz (c_X1_seeColumng l g gh q b n tl nr nt cl h I R J AI AJ AR a cols zcols hv hp.1 (by first | exact hp.2.2.2.2.2.2.2 | exact hh | omega) hP) (cwV 1 F.2.2.2.2.1 gX1_readTerm_X1_seeColumn rfl rfl rfl hdX1_seeColumn ⟨Nat.le_of_ble_eq_true rfl, Nat.le_of_ble_eq_true rfl⟩) hp.1 (by decide) rfl rfl rfl (Nat.le_of_ble_eq_true rfl) dX1_readTerm_16 ⟨Nat.zero_le _, Nat.zero_le _⟩) hS (fun v_19 I_13 R_14 J_15 AI_16 AJ_17 AR_18 H locs zv_19 hp_20 hH hS => ?_)
    dsimp only at hp_20
    obtain ⟨rfl, rfl, rfl, rfl, rfl, rfl, s1, s2, s3⟩ := hp_20
    refine lv_istore_n (lv' := [(3, .int (iI v_19)), (2, .int (iI v_7)), (0, .ref a), (1, .int (iI cols))]) F.1 F.2.1 dX1_readTerm_19 rfl hl (by decide) rfl (fun ls hl => ?_)
    refine lv_iload_n F.1 F.2.1 dX1_readTerm_20 rfl (lv_at hl 0 rfl) ?_
    refine z_if_eq (tgt := 26) F dX1_readTerm_21 (by decide) zv_19 (fun c_21 => ?_) (fun c_21 => ?_)
    · have t_22 := pCf_0 (b := b) (n := n) (c := cols) (h := h) (by omega)
      refine lv_aload_n F.1 F.2.1 dX1_readTerm_26 rfl (lv_at hl 2 rfl) ?_
      refine g_getR (ci := 1) (k := 2) F hH rfl (by decide) iX1 hp.1 (by decide) rfl (b := ln) hp.2.2.2.1 k29 dX1_readTerm_27 ?_
      refine g_getI (ci := 0) (k := 8) F hH rfl (by decide) iX0 hp.2.2.2.2.1 (by decide) rfl k149 dX1_readTerm_30 ?_
      have b_23 := gI_line hv hp.2.2.2.2.1
      unfold vLineI at b_23
      refine z_iconst F dX1_readTerm_33 ?_
      refine z_icmp_lt (tgt := 39) F dX1_readTerm_34 (by decide) (zr_t _) ⟨by decide, by decide⟩ (fun c_24 => ?_) (fun c_24 => ?_)
      · refine lv_aload_n F.1 F.2.1 dX1_readTerm_39 rfl (lv_at hl 2 rfl) ?_
        refine g_getR (ci := 1) (k := 0) F hH rfl (by decide) iX1 hp.1 (by decide) rfl (b := gh 22 0) (gR_pr0 hv hp.1).1 k12 dX1_readTerm_40 ?_
        obtain ⟨r_25a, r_25b⟩ := gR_tk2 hv (gR_pr0 hv hp.1).2
        refine g_getR (ci := 5) (k := 2) F hH rfl (by decide) iX5 (gR_pr0 hv hp.1).2 (by decide) rfl (b := gh 26 0) r_25a k71 dX1_readTerm_43 ?_
        refine lv_aload_n F.1 F.2.1 dX1_readTerm_46 rfl (lv_at hl 2 rfl) ?_
        refine g_getI (ci := 1) (k := 3) F hH rfl (by decide) iX1 hp.1 (by decide) rfl k44 dX1_readTerm_47 ?_
        have b_26h := hp.2.2.2.2.2.2.2
        have b_26 := gI_pr hv hp.1
        have b_26t := gI_tk hv (gR_pr0 hv hp.1).2
        have hx50 : 0 ≤ ((I a 3).toInt) ∧ ((I a 3).toInt) < ((901 : Nat) : Int) ∧ ((I a 3).toInt) ≤ 2147483647 := ⟨by omega, by omega, by omega⟩
        refine g_iald F hH r_25b hx50.1 hx50.2.1 hx50.2.2 dX1_readTerm_50 ?_
        refine z_name (fun v_27 ev_27 => ?_)
        have zv_27 : zr v_27 := by rw [ev_27]; exact zr_t _
        have t50 : v_27 = pV b n (h) := by rw [ev_27]; exact pH_V hP
        refine lv_istore (lv' := [(4, .int (iI v_27)), (3, .int (iI v_19)), (2, .int (iI v_7)), (0, .ref a), (1, .int (iI cols))]) F.1 F.2.1 dX1_readTerm_51 hl (by decide) rfl (fun ls hl => ?_)
        refine lv_aload_n F.1 F.2.1 dX1_readTerm_53 rfl (lv_at hl 3 rfl) ?_
        have hv0 := hv
        refine g_callv (g_runV (As := []) (rest := []) (ci := 1) F hl.1 hH hS hz (c_X1_stepg l g gh q b n tl nr nt cl h I R J AI AJ AR a hv hp.1 (by first | exact hp.2.2.2.2.2.2.2 | exact hh | omega) hP (by first | exact hp.2.2.1 | exact hq) (by omega)) (cwV 0 F.2.2.2.2.1 gX1_readTerm_X1_step rfl rfl rfl hdX1_step ⟨Nat.le_of_ble_eq_true rfl, Nat.le_of_ble_eq_true rfl⟩) hp.1 (by decide) rfl rfl rfl (Nat.le_of_ble_eq_true rfl) dX1_readTerm_54 ⟨Nat.zero_le _, Nat.zero_le _⟩) hS (fun I_28 R_29 J_30 AI_31 AJ_32 AR_33 H locs hp_34 hH hS => ?_)
        dsimp only at hp_34
        obtain ⟨rfl, rfl, rfl, rfl, rfl, hv, fs, hs, hP⟩ := hp_34
        have hP : pH gh AR I_28 J AI AJ a q b n tl nr nt cl (h + 1) := hP
        obtain ⟨hp, pfq, fls⟩ := pS_step hv0 hp fs hs
        have pf := pF_t pf pfq
        have u_35q : (I_28 q 1).toInt = (I q 1).toInt := by rw [pF_q hp pfq]
        have u_35_0 : (I_28 ln 0).toInt = (I ln 0).toInt := by rw [fls]
        have u_35_8 : (I_28 ln 8).toInt = (I ln 8).toInt := by rw [fls]
        have u_36 : (I_28 ln 2).toInt = (I ln 2).toInt := by rw [fls]
        have u_37 : (I_28 ln 3).toInt = (I ln 3).toInt := by rw [fls]
        have u_38 : (I_28 ln 4).toInt = (I ln 4).toInt := by rw [fls]
        have u_39 : (I_28 ln 5).toInt = (I ln 5).toInt := by rw [fls]
        have u_40 : (I_28 ln 6).toInt = (I ln 6).toInt := by rw [fls]
        have u_41 : (I_28 ln 9).toInt = (I ln 9).toInt := by rw [fls]
        have u_42 : (I_28 ln 10).toInt = (I ln 10).toInt := by rw [fls]
        have u_43 : (I_28 ln 11).toInt = (I ln 11).toInt := by rw [fls]
        have u_44 : (I_28 ln 12).toInt = (I ln 12).toInt := by rw [fls]
        refine lv_iload_n F.1 F.2.1 dX1_readTerm_57 rfl (lv_at hl 2 rfl) ?_
        refine z_if_eq (tgt := 73) F dX1_readTerm_58 (by decide) zv_7 (fun c_45 => ?_) (fun c_45 => ?_)
        · have t_46 := tIz_0 q_10 (by omega)
          refine lv_aload_n F.1 F.2.1 dX1_readTerm_73 rfl (lv_at hl 3 rfl) ?_
          refine g_getR (ci := 1) (k := 0) F hH rfl (by decide) iX1 hp.1 (by decide) rfl (b := gh 22 0) (gR_pr0 hv hp.1).1 k12 dX1_readTerm_74 ?_
          obtain ⟨r_47a, r_47b⟩ := gR_tk0 hv (gR_pr0 hv hp.1).2
          refine g_getR (ci := 5) (k := 0) F hH rfl (by decide) iX5 (gR_pr0 hv hp.1).2 (by decide) rfl (b := gh 24 0) r_47a k47 dX1_readTerm_77 ?_
          refine lv_aload_n F.1 F.2.1 dX1_readTerm_80 rfl (lv_at hl 3 rfl) ?_
          refine g_getI (ci := 1) (k := 3) F hH rfl (by decide) iX1 hp.1 (by decide) rfl k44 dX1_readTerm_81 ?_
          have b_48h := hp.2.2.2.2.2.2.2
          have b_48 := gI_pr hv hp.1
          have b_48t := gI_tk hv (gR_pr0 hv hp.1).2
          have hx84 : 0 ≤ ((I_28 a 3).toInt) ∧ ((I_28 a 3).toInt) < ((901 : Nat) : Int) ∧ ((I_28 a 3).toInt) ≤ 2147483647 := ⟨by omega, by omega, by omega⟩
          refine g_iald F hH r_47b hx84.1 hx84.2.1 hx84.2.2 dX1_readTerm_84 ?_
          refine z_name (fun v_49 ev_49 => ?_)
          have zv_49 : zr v_49 := by rw [ev_49]; exact zr_t _
          have t84 : v_49 = pK b n (h + 1) := by rw [ev_49]; exact pH_K hP
          refine lv_istore (lv' := [(5, .int (iI v_49)), (4, .int (iI v_27)), (3, .int (iI v_19)), (2, .int (iI v_7)), (0, .ref a), (1, .int (iI cols))]) F.1 F.2.1 dX1_readTerm_85 hl (by decide) rfl (fun ls hl => ?_)
          refine lv_iload F.1 F.2.1 dX1_readTerm_87 (lv_at hl 0 rfl) ?_
          refine z_bipush F dX1_readTerm_89 (by decide) ?_
          refine z_icmp_eq (tgt := 113) F dX1_readTerm_91 (by decide) zv_49 ⟨by decide, by decide⟩ (fun c_50 => ?_) (fun c_50 => ?_)
          · refine lv_aload_n F.1 F.2.1 dX1_readTerm_113 rfl (lv_at hl 4 rfl) ?_
            have hv0 := hv
            refine g_callv (g_runV (As := []) (rest := []) (ci := 1) F hl.1 hH hS hz (c_X1_stepg l g gh q b n tl nr nt cl (h + 1) I_28 R J AI AJ AR a hv hp.1 (by first | exact hp.2.2.2.2.2.2.2 | exact hh | omega) hP (by first | exact hp.2.2.1 | exact hq) (by omega)) (cwV 0 F.2.2.2.2.1 gX1_readTerm_X1_step rfl rfl rfl hdX1_step ⟨Nat.le_of_ble_eq_true rfl, Nat.le_of_ble_eq_true rfl⟩) hp.1 (by decide) rfl rfl rfl (Nat.le_of_ble_eq_true rfl) dX1_readTerm_114 ⟨Nat.zero_le _, Nat.zero_le _⟩) hS (fun I_51 R_52 J_53 AI_54 AJ_55 AR_56 H locs hp_57 hH hS => ?_)
            dsimp only at hp_57
            obtain ⟨rfl, rfl, rfl, rfl, rfl, hv, fs, hs, hP⟩ := hp_57
            have hP : pH gh AR I_51 J AI AJ a q b n tl nr nt cl (h + 2) := hP
            obtain ⟨hp, pfq, fls⟩ := pS_step hv0 hp fs hs
            have pf := pF_t pf pfq
            have u_58q : (I_51 q 1).toInt = (I_28 q 1).toInt := by rw [pF_q hp pfq]
            have u_58_0 : (I_51 ln 0).toInt = (I_28 ln 0).toInt := by rw [fls]
            have u_58_8 : (I_51 ln 8).toInt = (I_28 ln 8).toInt := by rw [fls]
            have u_59 : (I_51 ln 2).toInt = (I_28 ln 2).toInt := by rw [fls]
            have u_60 : (I_51 ln 3).toInt = (I_28 ln 3).toInt := by rw [fls]
            have u_61 : (I_51 ln 4).toInt = (I_28 ln 4).toInt := by rw [fls]
            have u_62 : (I_51 ln 5).toInt = (I_28 ln 5).toInt := by rw [fls]
            have u_63 : (I_51 ln 6).toInt = (I_28 ln 6).toInt := by rw [fls]
            have u_64 : (I_51 ln 9).toInt = (I_28 ln 9).toInt := by rw [fls]
            have u_65 : (I_51 ln 10).toInt = (I_28 ln 10).toInt := by rw [fls]
            have u_66 : (I_51 ln 11).toInt = (I_28 ln 11).toInt := by rw [fls]
            have u_67 : (I_51 ln 12).toInt = (I_28 ln 12).toInt := by rw [fls]
            refine lv_aload_n F.1 F.2.1 dX1_readTerm_117 rfl (lv_at hl 4 rfl) ?_
            refine z_iconst F dX1_readTerm_118 ?_
            refine g_calli (g_runV (As := [.int (iI 4)]) (rest := []) (ci := 1) F hl.1 hH hS hz (c_X1_isKindg l g gh q b n tl nr nt cl (h + 2) I_51 R J AI AJ AR a 4 ⟨by decide, by decide⟩ hv hp.1 (by first | exact hp.2.2.2.2.2.2.2 | exact hh | omega) hP) (cwV 1 F.2.2.2.2.1 gX1_readTerm_X1_isKind rfl rfl rfl hdX1_isKind ⟨Nat.le_of_ble_eq_true rfl, Nat.le_of_ble_eq_true rfl⟩) hp.1 (by decide) rfl rfl rfl (Nat.le_of_ble_eq_true rfl) dX1_readTerm_119 ⟨Nat.zero_le _, Nat.zero_le _⟩) hS (fun v_74 I_68 R_69 J_70 AI_71 AJ_72 AR_73 H locs zv_74 hp_75 hH hS => ?_)
            dsimp only at hp_75
            obtain ⟨rfl, rfl, rfl, rfl, rfl, rfl, q_76, q_77⟩ := hp_75
            refine z_if_ne (tgt := 127) F dX1_readTerm_122 (by decide) zv_74 (fun c_78 => ?_) (fun c_78 => ?_)
            · have t_79 := tIz_1 q_77 (by omega)
              refine lv_aload_n F.1 F.2.1 dX1_readTerm_127 rfl (lv_at hl 4 rfl) ?_
              refine g_getR (ci := 1) (k := 2) F hH rfl (by decide) iX1 hp.1 (by decide) rfl (b := ln) hp.2.2.2.1 k29 dX1_readTerm_128 ?_
              refine lv_iload F.1 F.2.1 dX1_readTerm_131 (lv_at hl 1 rfl) ?_
              refine lv_iload F.1 F.2.1 dX1_readTerm_133 (lv_at hl 0 rfl) ?_
              refine z_bipush F dX1_readTerm_135 (by decide) ?_
              refine z_icmp_ne (tgt := 155) F dX1_readTerm_137 (by decide) zv_49 ⟨by decide, by decide⟩ (fun c_80 => ?_) (fun c_80 => ?_)
              · exact absurd trivial (by omega)
              · refine lv_aload_n F.1 F.2.1 dX1_readTerm_140 rfl (lv_at hl 4 rfl) ?_
                refine g_getR (ci := 1) (k := 0) F hH rfl (by decide) iX1 hp.1 (by decide) rfl (b := gh 22 0) (gR_pr0 hv hp.1).1 k12 dX1_readTerm_141 ?_
                refine g_getR (ci := 5) (k := 2) F hH rfl (by decide) iX5 (gR_pr0 hv hp.1).2 (by decide) rfl (b := gh 26 0) r_25a k71 dX1_readTerm_144 ?_
                refine lv_aload_n F.1 F.2.1 dX1_readTerm_147 rfl (lv_at hl 4 rfl) ?_
                refine g_getI (ci := 1) (k := 3) F hH rfl (by decide) iX1 hp.1 (by decide) rfl k44 dX1_readTerm_148 ?_
                have b_81h := hp.2.2.2.2.2.2.2
                have b_81 := gI_pr hv hp.1
                have b_81t := gI_tk hv (gR_pr0 hv hp.1).2
                have hx151 : 0 ≤ ((I_51 a 3).toInt) ∧ ((I_51 a 3).toInt) < ((901 : Nat) : Int) ∧ ((I_51 a 3).toInt) ≤ 2147483647 := ⟨by omega, by omega, by omega⟩
                refine g_iald F hH r_25b hx151.1 hx151.2.1 hx151.2.2 dX1_readTerm_151 ?_
                refine z_name (fun v_82 ev_82 => ?_)
                have zv_82 : zr v_82 := by rw [ev_82]; exact zr_t _
                have t151 : v_82 = pV b n (h + 2) := by rw [ev_82]; exact pH_V hP
                refine z_goto (tgt := 168) F dX1_readTerm_152 (by decide) ?_
                have hp0 := hp
                have hv0 := hv
                have b_83 := gI_line hv hp.2.2.2.2.1
                unfold vLineI at b_83
                refine g_callv (g_runV (As := [.int (iI v_27), .int (iI v_82)]) (rest := []) (ci := 0) F hl.1 hH hS hz (c_X0_addTwog l g gh I_51 R J AI AJ AR ln v_27 v_82 zv_27 zv_82 hv hp.2.2.2.2.1 (by omega) (by omega) (by omega) (fun h => by omega)) (cwV 2 F.2.2.2.2.1 gX1_readTerm_X0_addTwo rfl rfl rfl hdX0_addTwo ⟨Nat.le_of_ble_eq_true rfl, Nat.le_of_ble_eq_true rfl⟩) hp.2.2.2.2.1 (by decide) rfl rfl rfl (Nat.le_of_ble_eq_true rfl) dX1_readTerm_168 ⟨Nat.zero_le _, Nat.zero_le _⟩) hS (fun I_84 R_85 J_86 AI_87 AJ_88 AR_89 H locs hp_90 hH hS => ?_)
                dsimp only at hp_90
                obtain ⟨rfl, rfl, rfl, rfl, hv, fI, fA, f0, f8, fk, fz, fw, fv⟩ := hp_90
                have hp := pS_ln hv0 hp fI
                have pf := pF_t pf (pF_o fI f0)
                have u_91q : (I_84 q 1).toInt = (I_51 q 1).toInt := by rw [fI q (gO_ne hp.2.2.1 hp.2.2.2.2.1 (by decide))]
                have u_91_0 : (I_84 ln 0).toInt = (I_51 ln 0).toInt := by rw [f0]
                have hP := pH_ai hv hp.1 hp.2.2.2.2.1 (pH_ln hv0 hp0 hP fI) fA
                have u_92 : (I_84 ln 2).toInt = (I_51 ln 2).toInt := by rw [fk 2 (by decide)]
                have u_93 : (I_84 ln 3).toInt = (I_51 ln 3).toInt := by rw [fk 3 (by decide)]
                have u_94 : (I_84 ln 4).toInt = (I_51 ln 4).toInt := by rw [fk 4 (by decide)]
                have u_95 : (I_84 ln 5).toInt = (I_51 ln 5).toInt := by rw [fk 5 (by decide)]
                have u_96 : (I_84 ln 6).toInt = (I_51 ln 6).toInt := by rw [fk 6 (by decide)]
                have u_97 : (I_84 ln 9).toInt = (I_51 ln 9).toInt := by rw [fk 9 (by decide)]
                have u_98 : (I_84 ln 10).toInt = (I_51 ln 10).toInt := by rw [fk 10 (by decide)]
                have u_99 : (I_84 ln 11).toInt = (I_51 ln 11).toInt := by rw [fk 11 (by decide)]
                have u_100 : (I_84 ln 12).toInt = (I_51 ln 12).toInt := by rw [fk 12 (by decide)]
                have hP : pH gh AR I_84 J AI_87 AJ a q b n tl nr nt cl (h + 2) := hP
                have hct : qTerm b n (AI_87 (gh 3 ln)) k8.toNat h := ⟨by rw [show 2 * k8.toNat = (2 * (I_51 ln 8).toInt).toNat by omega, fv]; unfold teC; rw [if_neg (by omega)]; omega, by rw [show 2 * k8.toNat + 1 = (2 * (I_51 ln 8).toInt + 1).toNat by omega, fw]; unfold teN; first | (rw [if_neg (by omega), if_pos (by omega)]; omega) | (rw [if_neg (by omega), if_neg (by omega), if_pos (by omega)]; omega)⟩
                have hfz : ∀ j : Nat, (j : Int) < 2 * k8 → AI_87 (gh 3 ln) j = AI (gh 3 ln) j := fun j hj => fz j (by omega)
                refine lv_aload_n F.1 F.2.1 dX1_readTerm_171 rfl (lv_at hl 4 rfl) ?_
                have hv0 := hv
                refine g_callv (g_runV (As := []) (rest := []) (ci := 1) F hl.1 hH hS hz (c_X1_stepg l g gh q b n tl nr nt cl (h + 2) I_84 R J AI_87 AJ AR a hv hp.1 (by first | exact hp.2.2.2.2.2.2.2 | exact hh | omega) hP (by first | exact hp.2.2.1 | exact hq) (by omega)) (cwV 0 F.2.2.2.2.1 gX1_readTerm_X1_step rfl rfl rfl hdX1_step ⟨Nat.le_of_ble_eq_true rfl, Nat.le_of_ble_eq_true rfl⟩) hp.1 (by decide) rfl rfl rfl (Nat.le_of_ble_eq_true rfl) dX1_readTerm_172 ⟨Nat.zero_le _, Nat.zero_le _⟩) hS (fun I_101 R_102 J_103 AI_104 AJ_105 AR_106 H locs hp_107 hH hS => ?_)
                dsimp only at hp_107
                obtain ⟨rfl, rfl, rfl, rfl, rfl, hv, fs, hs, hP⟩ := hp_107
                have hP : pH gh AR I_101 J AI_87 AJ a q b n tl nr nt cl (h + 3) := hP
                obtain ⟨hp, pfq, fls⟩ := pS_step hv0 hp fs hs
                have pf := pF_t pf pfq
                have u_108q : (I_101 q 1).toInt = (I_84 q 1).toInt := by rw [pF_q hp pfq]
                have u_108_0 : (I_101 ln 0).toInt = (I_84 ln 0).toInt := by rw [fls]
                have u_108_8 : (I_101 ln 8).toInt = (I_84 ln 8).toInt := by rw [fls]
                have u_109 : (I_101 ln 2).toInt = (I_84 ln 2).toInt := by rw [fls]
                have u_110 : (I_101 ln 3).toInt = (I_84 ln 3).toInt := by rw [fls]
                have u_111 : (I_101 ln 4).toInt = (I_84 ln 4).toInt := by rw [fls]
                have u_112 : (I_101 ln 5).toInt = (I_84 ln 5).toInt := by rw [fls]
                have u_113 : (I_101 ln 6).toInt = (I_84 ln 6).toInt := by rw [fls]
                have u_114 : (I_101 ln 9).toInt = (I_84 ln 9).toInt := by rw [fls]
                have u_115 : (I_101 ln 10).toInt = (I_84 ln 10).toInt := by rw [fls]
                have u_116 : (I_101 ln 11).toInt = (I_84 ln 11).toInt := by rw [fls]
                have u_117 : (I_101 ln 12).toInt = (I_84 ln 12).toInt := by rw [fls]
                refine z_iconst F dX1_readTerm_175 ?_
                have hfin : sTerm b n cols k8 h = (0, h + 3, 0) := by
                  unfold sTerm
                  repeat (first | with_reducible rfl | refine ite_y (by omega) ?_ | refine ite_n (by omega) ?_ | exact pr_e (by omega) (by omega) (by omega))
                exact g_iret F hr hlk hH hS hz ⟨by decide, by decide⟩ ⟨rfl, rfl, rfl, rfl, hv, hp, pf, by first | omega | rfl | (dsimp only; omega), by (try dsimp only); rw [hfin]; first | done | omega | rfl, by (try dsimp only); rw [hfin]; exact hP, by (try dsimp only); omega, by (try dsimp only); first | exact pIm_n (by omega) | (rw [hfin]; (try dsimp only); exact pIm_y (by first | omega | rfl)) | exact pIm_y (by omega), fun b hb => fA b hb, by (try dsimp only); first | exact zIf_n (by omega) | exact zIf_y hct, by (try dsimp only); first | exact hfz | exact (fun _ _ => rfl)⟩ dX1_readTerm_176
            · have t_118 := tIz_0 q_77 (by omega)
              refine z_iconst F dX1_readTerm_125 ?_
              have hfin : sTerm b n cols k8 h = (1, h + 2, 0) := by
                unfold sTerm
                repeat (first | with_reducible rfl | refine ite_y (by omega) ?_ | refine ite_n (by omega) ?_ | exact pr_e (by omega) (by omega) (by omega))
              exact g_iret F hr hlk hH hS hz ⟨by decide, by decide⟩ ⟨rfl, rfl, rfl, rfl, hv, hp, pf, by first | omega | rfl | (dsimp only; omega), by (try dsimp only); rw [hfin]; first | done | omega | rfl, by (try dsimp only); rw [hfin]; exact hP, by (try dsimp only); omega, by (try dsimp only); first | exact pIm_n (by omega) | (rw [hfin]; (try dsimp only); exact pIm_y (by first | omega | rfl)) | exact pIm_y (by omega), fun _ _ => rfl, by (try dsimp only); first | exact zIf_n (by omega) | exact zIf_y hct, by (try dsimp only); first | exact hfz | exact (fun _ _ => rfl)⟩ dX1_readTerm_126
          · refine lv_iload F.1 F.2.1 dX1_readTerm_94 (lv_at hl 0 rfl) ?_
            refine z_bipush F dX1_readTerm_96 (by decide) ?_
            refine z_icmp_eq (tgt := 113) F dX1_readTerm_98 (by decide) zv_49 ⟨by decide, by decide⟩ (fun c_119 => ?_) (fun c_119 => ?_)
            · refine lv_aload_n F.1 F.2.1 dX1_readTerm_113 rfl (lv_at hl 4 rfl) ?_
              have hv0 := hv
              refine g_callv (g_runV (As := []) (rest := []) (ci := 1) F hl.1 hH hS hz (c_X1_stepg l g gh q b n tl nr nt cl (h + 1) I_28 R J AI AJ AR a hv hp.1 (by first | exact hp.2.2.2.2.2.2.2 | exact hh | omega) hP (by first | exact hp.2.2.1 | exact hq) (by omega)) (cwV 0 F.2.2.2.2.1 gX1_readTerm_X1_step rfl rfl rfl hdX1_step ⟨Nat.le_of_ble_eq_true rfl, Nat.le_of_ble_eq_true rfl⟩) hp.1 (by decide) rfl rfl rfl (Nat.le_of_ble_eq_true rfl) dX1_readTerm_114 ⟨Nat.zero_le _, Nat.zero_le _⟩) hS (fun I_120 R_121 J_122 AI_123 AJ_124 AR_125 H locs hp_126 hH hS => ?_)
              dsimp only at hp_126
              obtain ⟨rfl, rfl, rfl, rfl, rfl, hv, fs, hs, hP⟩ := hp_126
              have hP : pH gh AR I_120 J AI AJ a q b n tl nr nt cl (h + 2) := hP
              obtain ⟨hp, pfq, fls⟩ := pS_step hv0 hp fs hs
              have pf := pF_t pf pfq
              have u_127q : (I_120 q 1).toInt = (I_28 q 1).toInt := by rw [pF_q hp pfq]
              have u_127_0 : (I_120 ln 0).toInt = (I_28 ln 0).toInt := by rw [fls]
              have u_127_8 : (I_120 ln 8).toInt = (I_28 ln 8).toInt := by rw [fls]
              have u_128 : (I_120 ln 2).toInt = (I_28 ln 2).toInt := by rw [fls]
              have u_129 : (I_120 ln 3).toInt = (I_28 ln 3).toInt := by rw [fls]
              have u_130 : (I_120 ln 4).toInt = (I_28 ln 4).toInt := by rw [fls]
              have u_131 : (I_120 ln 5).toInt = (I_28 ln 5).toInt := by rw [fls]
              have u_132 : (I_120 ln 6).toInt = (I_28 ln 6).toInt := by rw [fls]
              have u_133 : (I_120 ln 9).toInt = (I_28 ln 9).toInt := by rw [fls]
              have u_134 : (I_120 ln 10).toInt = (I_28 ln 10).toInt := by rw [fls]
              have u_135 : (I_120 ln 11).toInt = (I_28 ln 11).toInt := by rw [fls]
              have u_136 : (I_120 ln 12).toInt = (I_28 ln 12).toInt := by rw [fls]
              refine lv_aload_n F.1 F.2.1 dX1_readTerm_117 rfl (lv_at hl 4 rfl) ?_
              refine z_iconst F dX1_readTerm_118 ?_
              refine g_calli (g_runV (As := [.int (iI 4)]) (rest := []) (ci := 1) F hl.1 hH hS hz (c_X1_isKindg l g gh q b n tl nr nt cl (h + 2) I_120 R J AI AJ AR a 4 ⟨by decide, by decide⟩ hv hp.1 (by first | exact hp.2.2.2.2.2.2.2 | exact hh | omega) hP) (cwV 1 F.2.2.2.2.1 gX1_readTerm_X1_isKind rfl rfl rfl hdX1_isKind ⟨Nat.le_of_ble_eq_true rfl, Nat.le_of_ble_eq_true rfl⟩) hp.1 (by decide) rfl rfl rfl (Nat.le_of_ble_eq_true rfl) dX1_readTerm_119 ⟨Nat.zero_le _, Nat.zero_le _⟩) hS (fun v_143 I_137 R_138 J_139 AI_140 AJ_141 AR_142 H locs zv_143 hp_144 hH hS => ?_)
              dsimp only at hp_144
              obtain ⟨rfl, rfl, rfl, rfl, rfl, rfl, q_145, q_146⟩ := hp_144
              refine z_if_ne (tgt := 127) F dX1_readTerm_122 (by decide) zv_143 (fun c_147 => ?_) (fun c_147 => ?_)
              · have t_148 := tIz_1 q_146 (by omega)
                refine lv_aload_n F.1 F.2.1 dX1_readTerm_127 rfl (lv_at hl 4 rfl) ?_
                refine g_getR (ci := 1) (k := 2) F hH rfl (by decide) iX1 hp.1 (by decide) rfl (b := ln) hp.2.2.2.1 k29 dX1_readTerm_128 ?_
                refine lv_iload F.1 F.2.1 dX1_readTerm_131 (lv_at hl 1 rfl) ?_
                refine lv_iload F.1 F.2.1 dX1_readTerm_133 (lv_at hl 0 rfl) ?_
                refine z_bipush F dX1_readTerm_135 (by decide) ?_
                refine z_icmp_ne (tgt := 155) F dX1_readTerm_137 (by decide) zv_49 ⟨by decide, by decide⟩ (fun c_149 => ?_) (fun c_149 => ?_)
                · refine lv_aload_n F.1 F.2.1 dX1_readTerm_155 rfl (lv_at hl 4 rfl) ?_
                  refine g_getR (ci := 1) (k := 0) F hH rfl (by decide) iX1 hp.1 (by decide) rfl (b := gh 22 0) (gR_pr0 hv hp.1).1 k12 dX1_readTerm_156 ?_
                  refine g_getR (ci := 5) (k := 2) F hH rfl (by decide) iX5 (gR_pr0 hv hp.1).2 (by decide) rfl (b := gh 26 0) r_25a k71 dX1_readTerm_159 ?_
                  refine lv_aload_n F.1 F.2.1 dX1_readTerm_162 rfl (lv_at hl 4 rfl) ?_
                  refine g_getI (ci := 1) (k := 3) F hH rfl (by decide) iX1 hp.1 (by decide) rfl k44 dX1_readTerm_163 ?_
                  have b_150h := hp.2.2.2.2.2.2.2
                  have b_150 := gI_pr hv hp.1
                  have b_150t := gI_tk hv (gR_pr0 hv hp.1).2
                  have hx166 : 0 ≤ ((I_120 a 3).toInt) ∧ ((I_120 a 3).toInt) < ((901 : Nat) : Int) ∧ ((I_120 a 3).toInt) ≤ 2147483647 := ⟨by omega, by omega, by omega⟩
                  refine g_iald F hH r_25b hx166.1 hx166.2.1 hx166.2.2 dX1_readTerm_166 ?_
                  refine z_name (fun v_151 ev_151 => ?_)
                  have zv_151 : zr v_151 := by rw [ev_151]; exact zr_t _
                  have t166 : v_151 = pV b n (h + 2) := by rw [ev_151]; exact pH_V hP
                  refine z_ineg F dX1_readTerm_167 ?_
                  refine z_norm (fun v_152 zv_152 ev_152 => ?_)
                  have hp0 := hp
                  have hv0 := hv
                  have b_153 := gI_line hv hp.2.2.2.2.1
                  unfold vLineI at b_153
                  refine g_callv (g_runV (As := [.int (iI v_27), .int (iI v_152)]) (rest := []) (ci := 0) F hl.1 hH hS hz (c_X0_addTwog l g gh I_120 R J AI AJ AR ln v_27 v_152 zv_27 zv_152 hv hp.2.2.2.2.1 (by omega) (by omega) (by omega) (fun h => by omega)) (cwV 2 F.2.2.2.2.1 gX1_readTerm_X0_addTwo rfl rfl rfl hdX0_addTwo ⟨Nat.le_of_ble_eq_true rfl, Nat.le_of_ble_eq_true rfl⟩) hp.2.2.2.2.1 (by decide) rfl rfl rfl (Nat.le_of_ble_eq_true rfl) dX1_readTerm_168 ⟨Nat.zero_le _, Nat.zero_le _⟩) hS (fun I_154 R_155 J_156 AI_157 AJ_158 AR_159 H locs hp_160 hH hS => ?_)
                  dsimp only at hp_160
                  obtain ⟨rfl, rfl, rfl, rfl, hv, fI, fA, f0, f8, fk, fz, fw, fv⟩ := hp_160
                  have hp := pS_ln hv0 hp fI
                  have pf := pF_t pf (pF_o fI f0)
                  have u_161q : (I_154 q 1).toInt = (I_120 q 1).toInt := by rw [fI q (gO_ne hp.2.2.1 hp.2.2.2.2.1 (by decide))]
                  have u_161_0 : (I_154 ln 0).toInt = (I_120 ln 0).toInt := by rw [f0]
                  have hP := pH_ai hv hp.1 hp.2.2.2.2.1 (pH_ln hv0 hp0 hP fI) fA
                  have u_162 : (I_154 ln 2).toInt = (I_120 ln 2).toInt := by rw [fk 2 (by decide)]
                  have u_163 : (I_154 ln 3).toInt = (I_120 ln 3).toInt := by rw [fk 3 (by decide)]
                  have u_164 : (I_154 ln 4).toInt = (I_120 ln 4).toInt := by rw [fk 4 (by decide)]
                  have u_165 : (I_154 ln 5).toInt = (I_120 ln 5).toInt := by rw [fk 5 (by decide)]
                  have u_166 : (I_154 ln 6).toInt = (I_120 ln 6).toInt := by rw [fk 6 (by decide)]
                  have u_167 : (I_154 ln 9).toInt = (I_120 ln 9).toInt := by rw [fk 9 (by decide)]
                  have u_168 : (I_154 ln 10).toInt = (I_120 ln 10).toInt := by rw [fk 10 (by decide)]
                  have u_169 : (I_154 ln 11).toInt = (I_120 ln 11).toInt := by rw [fk 11 (by decide)]
                  have u_170 : (I_154 ln 12).toInt = (I_120 ln 12).toInt := by rw [fk 12 (by decide)]
                  have hP : pH gh AR I_154 J AI_157 AJ a q b n tl nr nt cl (h + 2) := hP
                  have hneg := (iI_eq zv_152 ⟨by have h9 := pV_n (b := b) (n := n) (h := h + 2) (by omega); omega, by have h9 := pV_n (b := b) (n := n) (h := h + 2) (by omega); omega⟩).mp ev_152
                  have hct : qTerm b n (AI_157 (gh 3 ln)) k8.toNat h := ⟨by rw [show 2 * k8.toNat = (2 * (I_120 ln 8).toInt).toNat by omega, fv]; unfold teC; rw [if_neg (by omega)]; omega, by rw [show 2 * k8.toNat + 1 = (2 * (I_120 ln 8).toInt + 1).toNat by omega, fw]; unfold teN; first | (rw [if_neg (by omega), if_pos (by omega)]; omega) | (rw [if_neg (by omega), if_neg (by omega), if_pos (by omega)]; omega)⟩
                  have hfz : ∀ j : Nat, (j : Int) < 2 * k8 → AI_157 (gh 3 ln) j = AI (gh 3 ln) j := fun j hj => fz j (by omega)
                  refine lv_aload_n F.1 F.2.1 dX1_readTerm_171 rfl (lv_at hl 4 rfl) ?_
                  have hv0 := hv
                  refine g_callv (g_runV (As := []) (rest := []) (ci := 1) F hl.1 hH hS hz (c_X1_stepg l g gh q b n tl nr nt cl (h + 2) I_154 R J AI_157 AJ AR a hv hp.1 (by first | exact hp.2.2.2.2.2.2.2 | exact hh | omega) hP (by first | exact hp.2.2.1 | exact hq) (by omega)) (cwV 0 F.2.2.2.2.1 gX1_readTerm_X1_step rfl rfl rfl hdX1_step ⟨Nat.le_of_ble_eq_true rfl, Nat.le_of_ble_eq_true rfl⟩) hp.1 (by decide) rfl rfl rfl (Nat.le_of_ble_eq_true rfl) dX1_readTerm_172 ⟨Nat.zero_le _, Nat.zero_le _⟩) hS (fun I_171 R_172 J_173 AI_174 AJ_175 AR_176 H locs hp_177 hH hS => ?_)
                  dsimp only at hp_177
                  obtain ⟨rfl, rfl, rfl, rfl, rfl, hv, fs, hs, hP⟩ := hp_177
                  have hP : pH gh AR I_171 J AI_157 AJ a q b n tl nr nt cl (h + 3) := hP
                  obtain ⟨hp, pfq, fls⟩ := pS_step hv0 hp fs hs
                  have pf := pF_t pf pfq
                  have u_178q : (I_171 q 1).toInt = (I_154 q 1).toInt := by rw [pF_q hp pfq]
                  have u_178_0 : (I_171 ln 0).toInt = (I_154 ln 0).toInt := by rw [fls]
                  have u_178_8 : (I_171 ln 8).toInt = (I_154 ln 8).toInt := by rw [fls]
                  have u_179 : (I_171 ln 2).toInt = (I_154 ln 2).toInt := by rw [fls]
                  have u_180 : (I_171 ln 3).toInt = (I_154 ln 3).toInt := by rw [fls]
                  have u_181 : (I_171 ln 4).toInt = (I_154 ln 4).toInt := by rw [fls]
                  have u_182 : (I_171 ln 5).toInt = (I_154 ln 5).toInt := by rw [fls]
                  have u_183 : (I_171 ln 6).toInt = (I_154 ln 6).toInt := by rw [fls]
                  have u_184 : (I_171 ln 9).toInt = (I_154 ln 9).toInt := by rw [fls]
                  have u_185 : (I_171 ln 10).toInt = (I_154 ln 10).toInt := by rw [fls]
                  have u_186 : (I_171 ln 11).toInt = (I_154 ln 11).toInt := by rw [fls]
                  have u_187 : (I_171 ln 12).toInt = (I_154 ln 12).toInt := by rw [fls]
                  refine z_iconst F dX1_readTerm_175 ?_
                  have hfin : sTerm b n cols k8 h = (0, h + 3, 0) := by
                    unfold sTerm
                    repeat (first | with_reducible rfl | refine ite_y (by omega) ?_ | refine ite_n (by omega) ?_ | exact pr_e (by omega) (by omega) (by omega))
                  exact g_iret F hr hlk hH hS hz ⟨by decide, by decide⟩ ⟨rfl, rfl, rfl, rfl, hv, hp, pf, by first | omega | rfl | (dsimp only; omega), by (try dsimp only); rw [hfin]; first | done | omega | rfl, by (try dsimp only); rw [hfin]; exact hP, by (try dsimp only); omega, by (try dsimp only); first | exact pIm_n (by omega) | (rw [hfin]; (try dsimp only); exact pIm_y (by first | omega | rfl)) | exact pIm_y (by omega), fun b hb => fA b hb, by (try dsimp only); first | exact zIf_n (by omega) | exact zIf_y hct, by (try dsimp only); first | exact hfz | exact (fun _ _ => rfl)⟩ dX1_readTerm_176
                · exact absurd trivial (by omega)
              · have t_188 := tIz_0 q_146 (by omega)
                refine z_iconst F dX1_readTerm_125 ?_
                have hfin : sTerm b n cols k8 h = (1, h + 2, 0) := by
                  unfold sTerm
                  repeat (first | with_reducible rfl | refine ite_y (by omega) ?_ | refine ite_n (by omega) ?_ | exact pr_e (by omega) (by omega) (by omega))
                exact g_iret F hr hlk hH hS hz ⟨by decide, by decide⟩ ⟨rfl, rfl, rfl, rfl, hv, hp, pf, by first | omega | rfl | (dsimp only; omega), by (try dsimp only); rw [hfin]; first | done | omega | rfl, by (try dsimp only); rw [hfin]; exact hP, by (try dsimp only); omega, by (try dsimp only); first | exact pIm_n (by omega) | (rw [hfin]; (try dsimp only); exact pIm_y (by first | omega | rfl)) | exact pIm_y (by omega), fun _ _ => rfl, by (try dsimp only); first | exact zIf_n (by omega) | exact zIf_y hct, by (try dsimp only); first | exact hfz | exact (fun _ _ => rfl)⟩ dX1_readTerm_126
            · refine lv_aload_n F.1 F.2.1 dX1_readTerm_101 rfl (lv_at hl 4 rfl) ?_
              refine g_getR (ci := 1) (k := 2) F hH rfl (by decide) iX1 hp.1 (by decide) rfl (b := ln) hp.2.2.2.1 k29 dX1_readTerm_102 ?_
              refine lv_iload F.1 F.2.1 dX1_readTerm_105 (lv_at hl 1 rfl) ?_
              refine z_iconst F dX1_readTerm_107 ?_
              have hp0 := hp
              have hv0 := hv
              have b_189 := gI_line hv hp.2.2.2.2.1
              unfold vLineI at b_189
              refine g_callv (g_runV (As := [.int (iI v_27), .int (iI 0)]) (rest := []) (ci := 0) F hl.1 hH hS hz (c_X0_addTwog l g gh I_28 R J AI AJ AR ln v_27 0 zv_27 ⟨by decide, by decide⟩ hv hp.2.2.2.2.1 (by omega) (by omega) (by omega) (fun h => by omega)) (cwV 2 F.2.2.2.2.1 gX1_readTerm_X0_addTwo rfl rfl rfl hdX0_addTwo ⟨Nat.le_of_ble_eq_true rfl, Nat.le_of_ble_eq_true rfl⟩) hp.2.2.2.2.1 (by decide) rfl rfl rfl (Nat.le_of_ble_eq_true rfl) dX1_readTerm_108 ⟨Nat.zero_le _, Nat.zero_le _⟩) hS (fun I_190 R_191 J_192 AI_193 AJ_194 AR_195 H locs hp_196 hH hS => ?_)
              dsimp only at hp_196
              obtain ⟨rfl, rfl, rfl, rfl, hv, fI, fA, f0, f8, fk, fz, fw, fv⟩ := hp_196
              have hp := pS_ln hv0 hp fI
              have pf := pF_t pf (pF_o fI f0)
              have u_197q : (I_190 q 1).toInt = (I_28 q 1).toInt := by rw [fI q (gO_ne hp.2.2.1 hp.2.2.2.2.1 (by decide))]
              have u_197_0 : (I_190 ln 0).toInt = (I_28 ln 0).toInt := by rw [f0]
              have hP := pH_ai hv hp.1 hp.2.2.2.2.1 (pH_ln hv0 hp0 hP fI) fA
              have u_198 : (I_190 ln 2).toInt = (I_28 ln 2).toInt := by rw [fk 2 (by decide)]
              have u_199 : (I_190 ln 3).toInt = (I_28 ln 3).toInt := by rw [fk 3 (by decide)]
              have u_200 : (I_190 ln 4).toInt = (I_28 ln 4).toInt := by rw [fk 4 (by decide)]
              have u_201 : (I_190 ln 5).toInt = (I_28 ln 5).toInt := by rw [fk 5 (by decide)]
              have u_202 : (I_190 ln 6).toInt = (I_28 ln 6).toInt := by rw [fk 6 (by decide)]
              have u_203 : (I_190 ln 9).toInt = (I_28 ln 9).toInt := by rw [fk 9 (by decide)]
              have u_204 : (I_190 ln 10).toInt = (I_28 ln 10).toInt := by rw [fk 10 (by decide)]
              have u_205 : (I_190 ln 11).toInt = (I_28 ln 11).toInt := by rw [fk 11 (by decide)]
              have u_206 : (I_190 ln 12).toInt = (I_28 ln 12).toInt := by rw [fk 12 (by decide)]
              have hP : pH gh AR I_190 J AI_193 AJ a q b n tl nr nt cl (h + 1) := hP
              have hct : qTerm b n (AI_193 (gh 3 ln)) k8.toNat h := ⟨by rw [show 2 * k8.toNat = (2 * (I_28 ln 8).toInt).toNat by omega, fv]; unfold teC; rw [if_neg (by omega)]; omega, by rw [show 2 * k8.toNat + 1 = (2 * (I_28 ln 8).toInt + 1).toNat by omega, fw]; unfold teN; rw [if_neg (by omega), if_neg (by omega), if_neg (by omega)]⟩
              have hfz : ∀ j : Nat, (j : Int) < 2 * k8 → AI_193 (gh 3 ln) j = AI (gh 3 ln) j := fun j hj => fz j (by omega)
              refine z_iconst F dX1_readTerm_111 ?_
              have hfin : sTerm b n cols k8 h = (0, h + 1, 0) := by
                unfold sTerm
                repeat (first | with_reducible rfl | refine ite_y (by omega) ?_ | refine ite_n (by omega) ?_ | exact pr_e (by omega) (by omega) (by omega))
              exact g_iret F hr hlk hH hS hz ⟨by decide, by decide⟩ ⟨rfl, rfl, rfl, rfl, hv, hp, pf, by first | omega | rfl | (dsimp only; omega), by (try dsimp only); rw [hfin]; first | done | omega | rfl, by (try dsimp only); rw [hfin]; exact hP, by (try dsimp only); omega, by (try dsimp only); first | exact pIm_n (by omega) | (rw [hfin]; (try dsimp only); exact pIm_y (by first | omega | rfl)) | exact pIm_y (by omega), fun b hb => fA b hb, by (try dsimp only); first | exact zIf_n (by omega) | exact zIf_y hct, by (try dsimp only); first | exact hfz | exact (fun _ _ => rfl)⟩ dX1_readTerm_112
        · exact absurd trivial (by omega)
      · refine z_iconst F dX1_readTerm_37 ?_
        have hfin : sTerm b n cols k8 h = (4, h, 0) := by
          unfold sTerm
          repeat (first | with_reducible rfl | refine ite_y (by omega) ?_ | refine ite_n (by omega) ?_ | exact pr_e (by omega) (by omega) (by omega))
        exact g_iret F hr hlk hH hS hz ⟨by decide, by decide⟩ ⟨rfl, rfl, rfl, rfl, hv, hp, pf, by first | omega | rfl | (dsimp only; omega), by (try dsimp only); rw [hfin]; first | done | omega | rfl, by (try dsimp only); rw [hfin]; exact hP, by (try dsimp only); omega, by (try dsimp only); first | exact pIm_n (by omega) | (rw [hfin]; (try dsimp only); exact pIm_y (by first | omega | rfl)) | exact pIm_y (by omega), fun _ _ => rfl, by (try dsimp only); first | exact zIf_n (by omega) | exact zIf_y hct, by (try dsimp only); first | exact hfz | exact (fun _ _ => rfl)⟩ dX1_readTerm_38
    · refine lv_iload_n F.1 F.2.1 dX1_readTerm_24 rfl (lv_at hl 0 rfl) ?_
      have hfin : sTerm b n cols k8 h = (v_19, h, 0) := by
        unfold sTerm
        repeat (first | with_reducible rfl | refine ite_y (by omega) ?_ | refine ite_n (by omega) ?_ | exact pr_e (by omega) (by omega) (by omega))
      exact g_iret F hr hlk hH hS hz zv_19 ⟨rfl, rfl, rfl, rfl, hv, hp, pf, by first | omega | rfl | (dsimp only; omega), by (try dsimp only); rw [hfin]; first | done | omega | rfl, by (try dsimp only); rw [hfin]; exact hP, by (try dsimp only); omega, by (try dsimp only); first | exact pIm_n (by omega) | (rw [hfin]; (try dsimp only); exact pIm_y (by first | omega | rfl)) | exact pIm_y (by omega), fun _ _ => rfl, by (try dsimp only); first | exact zIf_n (by omega) | exact zIf_y hct, by (try dsimp only); first | exact hfz | exact (fun _ _ => rfl)⟩ dX1_readTerm_25
  · have t_207 := tIz_1 q_10 (by omega)
    refine z_iconst F dX1_readTerm_10 ?_
    refine z_goto (tgt := 19) F dX1_readTerm_11 (by decide) ?_
    refine lv_istore_n (lv' := [(3, .int (iI 0)), (2, .int (iI v_7)), (0, .ref a), (1, .int (iI cols))]) F.1 F.2.1 dX1_readTerm_19 rfl hl (by decide) rfl (fun ls hl => ?_)
    refine lv_iload_n F.1 F.2.1 dX1_readTerm_20 rfl (lv_at hl 0 rfl) ?_
    refine z_if_eq (tgt := 26) F dX1_readTerm_21 (by decide) ⟨by decide, by decide⟩ (fun c_208 => ?_) (fun c_208 => ?_)
    · refine lv_aload_n F.1 F.2.1 dX1_readTerm_26 rfl (lv_at hl 2 rfl) ?_
      refine g_getR (ci := 1) (k := 2) F hH rfl (by decide) iX1 hp.1 (by decide) rfl (b := ln) hp.2.2.2.1 k29 dX1_readTerm_27 ?_
      refine g_getI (ci := 0) (k := 8) F hH rfl (by decide) iX0 hp.2.2.2.2.1 (by decide) rfl k149 dX1_readTerm_30 ?_
      have b_209 := gI_line hv hp.2.2.2.2.1
      unfold vLineI at b_209
      refine z_iconst F dX1_readTerm_33 ?_
      refine z_icmp_lt (tgt := 39) F dX1_readTerm_34 (by decide) (zr_t _) ⟨by decide, by decide⟩ (fun c_210 => ?_) (fun c_210 => ?_)
      · refine lv_aload_n F.1 F.2.1 dX1_readTerm_39 rfl (lv_at hl 2 rfl) ?_
        refine g_getR (ci := 1) (k := 0) F hH rfl (by decide) iX1 hp.1 (by decide) rfl (b := gh 22 0) (gR_pr0 hv hp.1).1 k12 dX1_readTerm_40 ?_
        obtain ⟨r_211a, r_211b⟩ := gR_tk2 hv (gR_pr0 hv hp.1).2
        refine g_getR (ci := 5) (k := 2) F hH rfl (by decide) iX5 (gR_pr0 hv hp.1).2 (by decide) rfl (b := gh 26 0) r_211a k71 dX1_readTerm_43 ?_
        refine lv_aload_n F.1 F.2.1 dX1_readTerm_46 rfl (lv_at hl 2 rfl) ?_
        refine g_getI (ci := 1) (k := 3) F hH rfl (by decide) iX1 hp.1 (by decide) rfl k44 dX1_readTerm_47 ?_
        have b_212h := hp.2.2.2.2.2.2.2
        have b_212 := gI_pr hv hp.1
        have b_212t := gI_tk hv (gR_pr0 hv hp.1).2
        have hx50 : 0 ≤ ((I a 3).toInt) ∧ ((I a 3).toInt) < ((901 : Nat) : Int) ∧ ((I a 3).toInt) ≤ 2147483647 := ⟨by omega, by omega, by omega⟩
        refine g_iald F hH r_211b hx50.1 hx50.2.1 hx50.2.2 dX1_readTerm_50 ?_
        refine z_name (fun v_213 ev_213 => ?_)
        have zv_213 : zr v_213 := by rw [ev_213]; exact zr_t _
        have t50 : v_213 = pV b n (h) := by rw [ev_213]; exact pH_V hP
        refine lv_istore (lv' := [(4, .int (iI v_213)), (3, .int (iI 0)), (2, .int (iI v_7)), (0, .ref a), (1, .int (iI cols))]) F.1 F.2.1 dX1_readTerm_51 hl (by decide) rfl (fun ls hl => ?_)
        refine lv_aload_n F.1 F.2.1 dX1_readTerm_53 rfl (lv_at hl 3 rfl) ?_
        have hv0 := hv
        refine g_callv (g_runV (As := []) (rest := []) (ci := 1) F hl.1 hH hS hz (c_X1_stepg l g gh q b n tl nr nt cl h I R J AI AJ AR a hv hp.1 (by first | exact hp.2.2.2.2.2.2.2 | exact hh | omega) hP (by first | exact hp.2.2.1 | exact hq) (by omega)) (cwV 0 F.2.2.2.2.1 gX1_readTerm_X1_step rfl rfl rfl hdX1_step ⟨Nat.le_of_ble_eq_true rfl, Nat.le_of_ble_eq_true rfl⟩) hp.1 (by decide) rfl rfl rfl (Nat.le_of_ble_eq_true rfl) dX1_readTerm_54 ⟨Nat.zero_le _, Nat.zero_le _⟩) hS (fun I_214 R_215 J_216 AI_217 AJ_218 AR_219 H locs hp_220 hH hS => ?_)
        dsimp only at hp_220
        obtain ⟨rfl, rfl, rfl, rfl, rfl, hv, fs, hs, hP⟩ := hp_220
        have hP : pH gh AR I_214 J AI AJ a q b n tl nr nt cl (h + 1) := hP
        obtain ⟨hp, pfq, fls⟩ := pS_step hv0 hp fs hs
        have pf := pF_t pf pfq
        have u_221q : (I_214 q 1).toInt = (I q 1).toInt := by rw [pF_q hp pfq]
        have u_221_0 : (I_214 ln 0).toInt = (I ln 0).toInt := by rw [fls]
        have u_221_8 : (I_214 ln 8).toInt = (I ln 8).toInt := by rw [fls]
        have u_222 : (I_214 ln 2).toInt = (I ln 2).toInt := by rw [fls]
        have u_223 : (I_214 ln 3).toInt = (I ln 3).toInt := by rw [fls]
        have u_224 : (I_214 ln 4).toInt = (I ln 4).toInt := by rw [fls]
        have u_225 : (I_214 ln 5).toInt = (I ln 5).toInt := by rw [fls]
        have u_226 : (I_214 ln 6).toInt = (I ln 6).toInt := by rw [fls]
        have u_227 : (I_214 ln 9).toInt = (I ln 9).toInt := by rw [fls]
        have u_228 : (I_214 ln 10).toInt = (I ln 10).toInt := by rw [fls]
        have u_229 : (I_214 ln 11).toInt = (I ln 11).toInt := by rw [fls]
        have u_230 : (I_214 ln 12).toInt = (I ln 12).toInt := by rw [fls]
        refine lv_iload_n F.1 F.2.1 dX1_readTerm_57 rfl (lv_at hl 2 rfl) ?_
        refine z_if_eq (tgt := 73) F dX1_readTerm_58 (by decide) zv_7 (fun c_231 => ?_) (fun c_231 => ?_)
        · exact absurd trivial (by omega)
        · have t_232 := tIz_1 q_10 (by omega)
          refine lv_aload_n F.1 F.2.1 dX1_readTerm_61 rfl (lv_at hl 3 rfl) ?_
          refine g_getR (ci := 1) (k := 2) F hH rfl (by decide) iX1 hp.1 (by decide) rfl (b := ln) hp.2.2.2.1 k29 dX1_readTerm_62 ?_
          refine z_iconst F dX1_readTerm_65 ?_
          refine lv_iload F.1 F.2.1 dX1_readTerm_66 (lv_at hl 0 rfl) ?_
          have hp0 := hp
          have hv0 := hv
          have b_233 := gI_line hv hp.2.2.2.2.1
          unfold vLineI at b_233
          refine g_callv (g_runV (As := [.int (iI ((-1))), .int (iI v_213)]) (rest := []) (ci := 0) F hl.1 hH hS hz (c_X0_addTwog l g gh I_214 R J AI AJ AR ln (-1) v_213 ⟨by decide, by decide⟩ zv_213 hv hp.2.2.2.2.1 (by omega) (by omega) (by omega) (fun h => by omega)) (cwV 2 F.2.2.2.2.1 gX1_readTerm_X0_addTwo rfl rfl rfl hdX0_addTwo ⟨Nat.le_of_ble_eq_true rfl, Nat.le_of_ble_eq_true rfl⟩) hp.2.2.2.2.1 (by decide) rfl rfl rfl (Nat.le_of_ble_eq_true rfl) dX1_readTerm_68 ⟨Nat.zero_le _, Nat.zero_le _⟩) hS (fun I_234 R_235 J_236 AI_237 AJ_238 AR_239 H locs hp_240 hH hS => ?_)
          dsimp only at hp_240
          obtain ⟨rfl, rfl, rfl, rfl, hv, fI, fA, f0, f8, fk, fz, fw, fv⟩ := hp_240
          have hp := pS_ln hv0 hp fI
          have pf := pF_t pf (pF_o fI f0)
          have u_241q : (I_234 q 1).toInt = (I_214 q 1).toInt := by rw [fI q (gO_ne hp.2.2.1 hp.2.2.2.2.1 (by decide))]
          have u_241_0 : (I_234 ln 0).toInt = (I_214 ln 0).toInt := by rw [f0]
          have hP := pH_ai hv hp.1 hp.2.2.2.2.1 (pH_ln hv0 hp0 hP fI) fA
          have u_242 : (I_234 ln 2).toInt = (I_214 ln 2).toInt := by rw [fk 2 (by decide)]
          have u_243 : (I_234 ln 3).toInt = (I_214 ln 3).toInt := by rw [fk 3 (by decide)]
          have u_244 : (I_234 ln 4).toInt = (I_214 ln 4).toInt := by rw [fk 4 (by decide)]
          have u_245 : (I_234 ln 5).toInt = (I_214 ln 5).toInt := by rw [fk 5 (by decide)]
          have u_246 : (I_234 ln 6).toInt = (I_214 ln 6).toInt := by rw [fk 6 (by decide)]
          have u_247 : (I_234 ln 9).toInt = (I_214 ln 9).toInt := by rw [fk 9 (by decide)]
          have u_248 : (I_234 ln 10).toInt = (I_214 ln 10).toInt := by rw [fk 10 (by decide)]
          have u_249 : (I_234 ln 11).toInt = (I_214 ln 11).toInt := by rw [fk 11 (by decide)]
          have u_250 : (I_234 ln 12).toInt = (I_214 ln 12).toInt := by rw [fk 12 (by decide)]
          have hP : pH gh AR I_234 J AI_237 AJ a q b n tl nr nt cl (h + 1) := hP
          have hct : qTerm b n (AI_237 (gh 3 ln)) k8.toNat h := ⟨by rw [show 2 * k8.toNat = (2 * (I_214 ln 8).toInt).toNat by omega, fv]; unfold teC; rw [if_pos (by omega)], by rw [show 2 * k8.toNat + 1 = (2 * (I_214 ln 8).toInt + 1).toNat by omega, fw]; unfold teN; rw [if_pos (by omega)]; omega⟩
          have hfz : ∀ j : Nat, (j : Int) < 2 * k8 → AI_237 (gh 3 ln) j = AI (gh 3 ln) j := fun j hj => fz j (by omega)
          refine z_iconst F dX1_readTerm_71 ?_
          have hfin : sTerm b n cols k8 h = (0, h + 1, 0) := by
            unfold sTerm
            repeat (first | with_reducible rfl | refine ite_y (by omega) ?_ | refine ite_n (by omega) ?_ | exact pr_e (by omega) (by omega) (by omega))
          exact g_iret F hr hlk hH hS hz ⟨by decide, by decide⟩ ⟨rfl, rfl, rfl, rfl, hv, hp, pf, by first | omega | rfl | (dsimp only; omega), by (try dsimp only); rw [hfin]; first | done | omega | rfl, by (try dsimp only); rw [hfin]; exact hP, by (try dsimp only); omega, by (try dsimp only); first | exact pIm_n (by omega) | (rw [hfin]; (try dsimp only); exact pIm_y (by first | omega | rfl)) | exact pIm_y (by omega), fun b hb => fA b hb, by (try dsimp only); first | exact zIf_n (by omega) | exact zIf_y hct, by (try dsimp only); first | exact hfz | exact (fun _ _ => rfl)⟩ dX1_readTerm_72
      · refine z_iconst F dX1_readTerm_37 ?_
        have hfin : sTerm b n cols k8 h = (4, h, 0) := by
          unfold sTerm
          repeat (first | with_reducible rfl | refine ite_y (by omega) ?_ | refine ite_n (by omega) ?_ | exact pr_e (by omega) (by omega) (by omega))
        exact g_iret F hr hlk hH hS hz ⟨by decide, by decide⟩ ⟨rfl, rfl, rfl, rfl, hv, hp, pf, by first | omega | rfl | (dsimp only; omega), by (try dsimp only); rw [hfin]; first | done | omega | rfl, by (try dsimp only); rw [hfin]; exact hP, by (try dsimp only); omega, by (try dsimp only); first | exact pIm_n (by omega) | (rw [hfin]; (try dsimp only); exact pIm_y (by first | omega | rfl)) | exact pIm_y (by omega), fun _ _ => rfl, by (try dsimp only); first | exact zIf_n (by omega) | exact zIf_y hct, by (try dsimp only); first | exact hfz | exact (fun _ _ => rfl)⟩ dX1_readTerm_38
    · exact absurd trivial (by omega)

def rmX1_readTermsg : Room := { frames := 3, cells := 0, slots := 0, locals := 67 }
set_option maxHeartbeats 4000000 in
set_option maxRecDepth 100000 in
/-- the terms -/
theorem c_X1_readTermsg (l : Launch) (g : gG) (gh : gGh) (q ln : Nat) (b : tTx) (n : Nat) (tl : Int) (nr : Nat) (nt : Nat → Nat) (cl : Nat → Int) (h : Nat) (I : gI) (R : gR) (J : gJ) (AI : gI) (AJ : gJ) (AR : gR) (a : Nat) (cols : Int) (zcols : zr cols) (hv : gInv g gh R AR I AI) (hp : pS g gh R I a q ln) (hk : (I ln 0).toInt = 2 ∨ (I ln 0).toInt = 8) (hP : pH gh AR I J AI AJ a q b n tl nr nt cl h) (hk8 : (I ln 8).toInt = 0) : gMet l g yX1_readTerms wsX1_readTerms rmX1_readTermsg [.ref a, .int (iI cols)] (I, R, J, AI, AJ, AR) (gQi g (fun (z : Int) (w : gS) => R = w.2.1 ∧ J = w.2.2.1 ∧ AJ = w.2.2.2.2.1 ∧ AR = w.2.2.2.2.2 ∧ (gInv g gh R AR (w.1) (w.2.2.2.1)) ∧ (pS g gh R (w.1) a q ln) ∧ (pF a ln I (w.1)) ∧ (0 ≤ z ∧ z ≤ 4) ∧ (z = (sTerms b n cols 5 0 h).1) ∧ (pH gh AR (w.1) J (w.2.2.2.1) AJ a q b n tl nr nt cl (sTerms b n cols 5 0 h).2.1) ∧ (((w.1) ln 5).toInt = (I ln 5).toInt ∧ ((w.1) ln 6).toInt = (I ln 6).toInt ∧ ((w.1) ln 3).toInt = (I ln 3).toInt ∧ ((w.1) ln 4).toInt = (I ln 4).toInt ∧ ((w.1) ln 9).toInt = (I ln 9).toInt ∧ ((w.1) ln 10).toInt = (I ln 10).toInt ∧ ((w.1) ln 11).toInt = (I ln 11).toInt ∧ ((w.1) ln 12).toInt = (I ln 12).toInt) ∧ (pIm z (((w.1) ln 8).toInt) ((sTerms b n cols 5 0 h).2.2)) ∧ (∀ b, b ≠ gh 3 ln → (w.2.2.2.1) b = AI b) ∧ (zIf z (((w.1) ln 8).toInt = ((iCnt (nxE b n) (spC b n) 5 h : Nat) : Int) ∧ qAll (qTerm b n) (nxE b n) ((w.2.2.2.1) (gh 3 ln)) h ((w.1) ln 8).toInt)))) := by
  refine gStart (cc := cX1_readTerms) (maxL := 4) (ret := (some (.int))) (by decide) rfl (Nat.le_of_ble_eq_true rfl) ?_
  intro p e s m below meth c ls F hr hlk hH hz hS hl
  have hl : lv_has ls 4 [(0, .ref a), (1, .int (iI cols))] := hl
  have hS : va_S (gA g) s.heap s.heap [] := hS
  obtain ⟨H, hHe⟩ : ∃ H : Heap, H = s.heap := ⟨_, rfl⟩
  obtain ⟨locs, hlo⟩ : ∃ k : List Loc, k = [] := ⟨_, rfl⟩
  have hH : gH g I R J AI AJ AR H := by rw [hHe]; exact hH
  have hS : va_S (gA g) s.heap H locs := by rw [hHe, hlo]; exact hS
  suffices hw : W p l e rmX1_readTermsg s m ([.ref a, .int (iI cols)] : List Value).toArray below meth c H locs 0 0 (MQ below (gQi g (fun (z : Int) (w : gS) => R = w.2.1 ∧ J = w.2.2.1 ∧ AJ = w.2.2.2.2.1 ∧ AR = w.2.2.2.2.2 ∧ (gInv g gh R AR (w.1) (w.2.2.2.1)) ∧ (pS g gh R (w.1) a q ln) ∧ (pF a ln I (w.1)) ∧ (0 ≤ z ∧ z ≤ 4) ∧ (z = (sTerms b n cols 5 0 h).1) ∧ (pH gh AR (w.1) J (w.2.2.2.1) AJ a q b n tl nr nt cl (sTerms b n cols 5 0 h).2.1) ∧ (((w.1) ln 5).toInt = (I ln 5).toInt ∧ ((w.1) ln 6).toInt = (I ln 6).toInt ∧ ((w.1) ln 3).toInt = (I ln 3).toInt ∧ ((w.1) ln 4).toInt = (I ln 4).toInt ∧ ((w.1) ln 9).toInt = (I ln 9).toInt ∧ ((w.1) ln 10).toInt = (I ln 10).toInt ∧ ((w.1) ln 11).toInt = (I ln 11).toInt ∧ ((w.1) ln 12).toInt = (I ln 12).toInt) ∧ (pIm z (((w.1) ln 8).toInt) ((sTerms b n cols 5 0 h).2.2)) ∧ (∀ b, b ≠ gh 3 ln → (w.2.2.2.1) b = AI b) ∧ (zIf z (((w.1) ln 8).toInt = ((iCnt (nxE b n) (spC b n) 5 h : Nat) : Int) ∧ qAll (qTerm b n) (nxE b n) ((w.2.2.2.1) (gh 3 ln)) h ((w.1) ln 8).toInt)))) ([.ref a, .int (iI cols)] : List Value).toArray s 0 0 (gA g)) (F0 m 0 ls []) by
    rw [hHe, hlo] at hw; exact hw
  clear hHe hlo
  have pf : pF a ln I I := pF_r
  refine z_iconst F dX1_readTerms_0 ?_
  refine lv_istore_n (lv' := [(2, .int (iI 0)), (0, .ref a), (1, .int (iI cols))]) F.1 F.2.1 dX1_readTerms_1 rfl hl (by decide) rfl (fun ls hl => ?_)
  have cut_2_2 : ∀ (NN : Nat) (i : Int) (I_1 : gI) (AI_2 : gI) (H : Heap) (locs : List Loc) (ls : Array Slot), zr i → (gInv g gh R AR I_1 AI_2) → (pS g gh R I_1 a q ln) → (pF a ln I I_1) → ((I_1 ln 0).toInt = 2 ∨ (I_1 ln 0).toInt = 8) → (0 ≤ i ∧ i ≤ 5) → (pH gh AR I_1 J AI_2 AJ a q b n tl nr nt cl (I_1 a 3).toInt.toNat) → (sTerms b n cols 5 0 h = sTerms b n cols (5 - i).toNat i (I_1 a 3).toInt.toNat) → ((I_1 ln 8).toInt = i ∧ (I_1 ln 5).toInt = (I ln 5).toInt ∧ (I_1 ln 6).toInt = (I ln 6).toInt ∧ (I_1 ln 3).toInt = (I ln 3).toInt ∧ (I_1 ln 4).toInt = (I ln 4).toInt ∧ (I_1 ln 9).toInt = (I ln 9).toInt ∧ (I_1 ln 10).toInt = (I ln 10).toInt ∧ (I_1 ln 11).toInt = (I ln 11).toInt ∧ (I_1 ln 12).toInt = (I ln 12).toInt) → (∀ b, b ≠ gh 3 ln → AI_2 b = AI b) → (iL (nxE b n) (spC b n) 5 h i (I_1 a 3).toInt.toNat) → (qAll (qTerm b n) (nxE b n) (AI_2 (gh 3 ln)) h i) → (5 - i) < ((NN : Nat) : Int) → gH g I_1 R J AI_2 AJ AR H → va_S (gA g) s.heap H locs → lv_has ls 4 [(2, .int (iI i)), (0, .ref a), (1, .int (iI cols))] → W p l e rmX1_readTermsg s m ([.ref a, .int (iI cols)] : List Value).toArray below meth c H locs 0 0 (MQ below (gQi g (fun (z : Int) (w : gS) => R = w.2.1 ∧ J = w.2.2.1 ∧ AJ = w.2.2.2.2.1 ∧ AR = w.2.2.2.2.2 ∧ (gInv g gh R AR (w.1) (w.2.2.2.1)) ∧ (pS g gh R (w.1) a q ln) ∧ (pF a ln I (w.1)) ∧ (0 ≤ z ∧ z ≤ 4) ∧ (z = (sTerms b n cols 5 0 h).1) ∧ (pH gh AR (w.1) J (w.2.2.2.1) AJ a q b n tl nr nt cl (sTerms b n cols 5 0 h).2.1) ∧ (((w.1) ln 5).toInt = (I ln 5).toInt ∧ ((w.1) ln 6).toInt = (I ln 6).toInt ∧ ((w.1) ln 3).toInt = (I ln 3).toInt ∧ ((w.1) ln 4).toInt = (I ln 4).toInt ∧ ((w.1) ln 9).toInt = (I ln 9).toInt ∧ ((w.1) ln 10).toInt = (I ln 10).toInt ∧ ((w.1) ln 11).toInt = (I ln 11).toInt ∧ ((w.1) ln 12).toInt = (I ln 12).toInt) ∧ (pIm z (((w.1) ln 8).toInt) ((sTerms b n cols 5 0 h).2.2)) ∧ (∀ b, b ≠ gh 3 ln → (w.2.2.2.1) b = AI b) ∧ (zIf z (((w.1) ln 8).toInt = ((iCnt (nxE b n) (spC b n) 5 h : Nat) : Int) ∧ qAll (qTerm b n) (nxE b n) ((w.2.2.2.1) (gh 3 ln)) h ((w.1) ln 8).toInt)))) ([.ref a, .int (iI cols)] : List Value).toArray s 0 0 (gA g)) (F0 m 2 ls []) := by
    intro NN2
    induction NN2 with
    | zero =>
      intro i I_1 AI_2 H locs ls zi hv hp pf hk hi hP hsq hk8l fA9 hil hqa hm2 hH hS hl
      exact absurd hm2 (by omega)
    | succ NN2 ih2 =>
      intro i I_1 AI_2 H locs ls zi hv hp pf hk hi hP hsq hk8l fA9 hil hqa hm2 hH hS hl
      obtain ⟨hc, ehc⟩ : ∃ x, x = (I_1 a 3).toInt.toNat := ⟨_, rfl⟩
      rw [← ehc] at hP hsq
      rw [← ehc] at hil
      refine lv_iload_n F.1 F.2.1 dX1_readTerms_2 rfl (lv_at hl 0 rfl) ?_
      refine z_iconst F dX1_readTerms_3 ?_
      refine z_icmp_gt (tgt := 38) F dX1_readTerms_4 (by decide) zi ⟨by decide, by decide⟩ (fun c_4 => ?_) (fun c_4 => ?_)
      · refine z_iconst F dX1_readTerms_38 ?_
        have hfin : sTerms b n cols 5 0 h = (4, hc, 0) := sTerms_z hsq (by omega)
        exact g_iret F hr hlk hH hS hz ⟨by decide, by decide⟩ ⟨rfl, rfl, rfl, rfl, hv, hp, pf, by first | omega | rfl | (dsimp only; omega), by (try dsimp only); rw [hfin]; first | done | omega | rfl, by (try dsimp only); rw [hfin]; exact hP, by (try dsimp only); omega, by (try dsimp only); first | exact pIm_n (by omega) | (rw [hfin]; (try dsimp only); exact pIm_y (by first | omega | rfl)) | exact pIm_y (by omega), fun b hb => fA9 b hb, by (try dsimp only); exact zIf_n (by omega)⟩ dX1_readTerms_39
      · refine lv_aload_n F.1 F.2.1 dX1_readTerms_7 rfl (lv_at hl 1 rfl) ?_
        refine lv_iload_n F.1 F.2.1 dX1_readTerms_8 rfl (lv_at hl 2 rfl) ?_
        refine g_calli (g_runV (As := [.int (iI cols)]) (rest := []) (ci := 1) F hl.1 hH hS hz (c_X1_readTermg l g gh q ln i b n tl nr nt cl hc I_1 R J AI_2 AJ AR a cols zcols hv hp (by omega) hP (by omega)) (cwV 1 F.2.2.2.2.1 gX1_readTerms_X1_readTerm rfl rfl rfl hdX1_readTerm ⟨Nat.le_of_ble_eq_true rfl, Nat.le_of_ble_eq_true rfl⟩) hp.1 (by decide) rfl rfl rfl (Nat.le_of_ble_eq_true rfl) dX1_readTerms_9 ⟨Nat.zero_le _, Nat.zero_le _⟩) hS (fun v_11 I_5 R_6 J_7 AI_8 AJ_9 AR_10 H locs zv_11 hp_12 hH hS => ?_)
        dsimp only at hp_12
        obtain ⟨r_13, er_13⟩ : ∃ qQ : pR, qQ = sTerm b n cols i hc := ⟨_, rfl⟩
        rw [← er_13] at hp_12
        obtain ⟨rfl, rfl, rfl, rfl, hv, hp, pfq, q_14, q_15, hP, q_16, q_17, fAq, ctq, fzq⟩ := hp_12
        have pf := pF_t pf pfq
        have u_18q : (I_5 q 1).toInt = (I_1 q 1).toInt := by rw [pF_q hp pfq]
        have u_18_0 : (I_5 ln 0).toInt = (I_1 ln 0).toInt := by rw [pfq.2]
        refine lv_istore_n (lv' := [(3, .int (iI v_11)), (2, .int (iI i)), (0, .ref a), (1, .int (iI cols))]) F.1 F.2.1 dX1_readTerms_12 rfl hl (by decide) rfl (fun ls hl => ?_)
        refine lv_iload_n F.1 F.2.1 dX1_readTerms_13 rfl (lv_at hl 0 rfl) ?_
        refine z_if_ne (tgt := 26) F dX1_readTerms_14 (by decide) zv_11 (fun c_19 => ?_) (fun c_19 => ?_)
        · refine lv_iload_n F.1 F.2.1 dX1_readTerms_26 rfl (lv_at hl 0 rfl) ?_
          have hfin : sTerms b n cols 5 0 h = r_13 := sTerms_no hsq (f := (4 - i).toNat) (by omega) er_13 (by omega)
          exact g_iret F hr hlk hH hS hz zv_11 ⟨rfl, rfl, rfl, rfl, hv, hp, pf, by first | omega | rfl | (dsimp only; omega), by (try dsimp only); rw [hfin]; first | done | omega | rfl, by (try dsimp only); rw [hfin]; exact hP, by (try dsimp only); omega, by (try dsimp only); first | exact pIm_n (by omega) | (rw [hfin]; (try dsimp only); exact pIm_y (by first | omega | rfl)) | exact pIm_y (by omega) | (rw [hfin]; (try dsimp only); exact fun h9 => by have q9 := q_17 h9; (try dsimp only at q9); omega), fun b hb => (fAq b hb).trans (fA9 b hb), by (try dsimp only); exact zIf_n (by omega)⟩ dX1_readTerms_27
        · have t_20 := q_17 (by omega)
          refine lv_aload_n F.1 F.2.1 dX1_readTerms_17 rfl (lv_at hl 2 rfl) ?_
          refine z_bipush F dX1_readTerms_18 (by decide) ?_
          refine g_calli (g_runV (As := [.int (iI 44)]) (rest := []) (ci := 1) F hl.1 hH hS hz (c_X1_isKindg l g gh q b n tl nr nt cl r_13.2.1 I_5 R J AI_8 AJ AR a 44 ⟨by decide, by decide⟩ hv hp.1 (by first | exact hp.2.2.2.2.2.2.2 | exact hh | omega) hP) (cwV 1 F.2.2.2.2.1 gX1_readTerms_X1_isKind rfl rfl rfl hdX1_isKind ⟨Nat.le_of_ble_eq_true rfl, Nat.le_of_ble_eq_true rfl⟩) hp.1 (by decide) rfl rfl rfl (Nat.le_of_ble_eq_true rfl) dX1_readTerms_20 ⟨Nat.zero_le _, Nat.zero_le _⟩) hS (fun v_27 I_21 R_22 J_23 AI_24 AJ_25 AR_26 H locs zv_27 hp_28 hH hS => ?_)
          dsimp only at hp_28
          obtain ⟨rfl, rfl, rfl, rfl, rfl, rfl, q_29, q_30⟩ := hp_28
          refine z_if_ne (tgt := 28) F dX1_readTerms_23 (by decide) zv_27 (fun c_31 => ?_) (fun c_31 => ?_)
          · have t_32 := tIz_1 q_30 (by omega)
            refine lv_aload_n F.1 F.2.1 dX1_readTerms_28 rfl (lv_at hl 2 rfl) ?_
            have hv0 := hv
            refine g_callv (g_runV (As := []) (rest := []) (ci := 1) F hl.1 hH hS hz (c_X1_stepg l g gh q b n tl nr nt cl r_13.2.1 I_5 R J AI_8 AJ AR a hv hp.1 (by first | exact hp.2.2.2.2.2.2.2 | exact hh | omega) hP (by first | exact hp.2.2.1 | exact hq) (by omega)) (cwV 0 F.2.2.2.2.1 gX1_readTerms_X1_step rfl rfl rfl hdX1_step ⟨Nat.le_of_ble_eq_true rfl, Nat.le_of_ble_eq_true rfl⟩) hp.1 (by decide) rfl rfl rfl (Nat.le_of_ble_eq_true rfl) dX1_readTerms_29 ⟨Nat.zero_le _, Nat.zero_le _⟩) hS (fun I_33 R_34 J_35 AI_36 AJ_37 AR_38 H locs hp_39 hH hS => ?_)
            dsimp only at hp_39
            obtain ⟨rfl, rfl, rfl, rfl, rfl, hv, fs, hs, hP⟩ := hp_39
            have hP : pH gh AR I_33 J AI_8 AJ a q b n tl nr nt cl (r_13.2.1 + 1) := hP
            obtain ⟨hp, pfq, fls⟩ := pS_step hv0 hp fs hs
            have pf := pF_t pf pfq
            have u_40q : (I_33 q 1).toInt = (I_5 q 1).toInt := by rw [pF_q hp pfq]
            have u_40_0 : (I_33 ln 0).toInt = (I_5 ln 0).toInt := by rw [fls]
            have u_40_8 : (I_33 ln 8).toInt = (I_5 ln 8).toInt := by rw [fls]
            have u_41 : (I_33 ln 2).toInt = (I_5 ln 2).toInt := by rw [fls]
            have u_42 : (I_33 ln 3).toInt = (I_5 ln 3).toInt := by rw [fls]
            have u_43 : (I_33 ln 4).toInt = (I_5 ln 4).toInt := by rw [fls]
            have u_44 : (I_33 ln 5).toInt = (I_5 ln 5).toInt := by rw [fls]
            have u_45 : (I_33 ln 6).toInt = (I_5 ln 6).toInt := by rw [fls]
            have u_46 : (I_33 ln 9).toInt = (I_5 ln 9).toInt := by rw [fls]
            have u_47 : (I_33 ln 10).toInt = (I_5 ln 10).toInt := by rw [fls]
            have u_48 : (I_33 ln 11).toInt = (I_5 ln 11).toInt := by rw [fls]
            have u_49 : (I_33 ln 12).toInt = (I_5 ln 12).toInt := by rw [fls]
            have hsq := sTerms_go hsq (f := (4 - i).toNat) (by omega) er_13 (by omega) (by omega)
            have hnx := sTerm_h er_13 (by omega)
            have hqa := qAll_s qTerm_l hqa hil (fun j hj => fzq j (by omega)) (ctq (by omega))
            have hil := iL_go hil (by omega) hnx (by unfold spC; exact decide_eq_true (by omega))
            refine z_iinc (lv' := [(2, .int (iI (i + 1))), (3, .int (iI v_11)), (0, .ref a), (1, .int (iI cols))]) F dX1_readTerms_32 hl (k := 1) rfl (by decide) rfl (fun ls hl => ?_)
            refine z_goto (tgt := 2) F dX1_readTerms_35 (by decide) ?_
            exact ih2 (i + 1) I_33 AI_8 H locs ls ⟨by omega, by omega⟩ hv hp pf (by omega) (by omega) (by rw [pH_n hP]; exact hP) (by rw [pH_n hP, show (5 - (i + 1)).toNat = (4 - i).toNat by omega]; exact hsq) (by omega) (fun b hb => (fAq b hb).trans (fA9 b hb)) (by rw [pH_n hP]; exact hil) hqa (by omega) hH hS (lv_sub hl [0, 2, 3] rfl)
          · have t_50 := tIz_0 q_30 (by omega)
            refine lv_iload_n F.1 F.2.1 dX1_readTerms_26 rfl (lv_at hl 0 rfl) ?_
            have hfin : sTerms b n cols 5 0 h = (0, r_13.2.1, i + 1) := sTerms_st hsq (f := (4 - i).toNat) (by omega) er_13 (by omega) (by omega)
            have hnx := sTerm_h er_13 (by omega)
            have hqa := qAll_s qTerm_l hqa hil (fun j hj => fzq j (by omega)) (ctq (by omega))
            have hcnt := iL_st hil (by omega) hnx (by unfold spC; exact fun e9 => absurd (of_decide_eq_true e9) (by omega))
            exact g_iret F hr hlk hH hS hz zv_11 ⟨rfl, rfl, rfl, rfl, hv, hp, pf, by first | omega | rfl | (dsimp only; omega), by (try dsimp only); rw [hfin]; first | done | omega | rfl, by (try dsimp only); rw [hfin]; exact hP, by (try dsimp only); omega, by (try dsimp only); first | exact pIm_n (by omega) | (rw [hfin]; (try dsimp only); exact pIm_y (by first | omega | rfl)) | exact pIm_y (by omega) | (rw [hfin]; (try dsimp only); exact fun h9 => by have q9 := q_17 h9; (try dsimp only at q9); omega), fun b hb => (fAq b hb).trans (fA9 b hb), by (try dsimp only); exact zIf_y ⟨by omega, by rw [show (I_5 ln 8).toInt = i + 1 by omega]; exact hqa⟩⟩ dX1_readTerms_27
  exact cut_2_2 (((5 - 0) + 1 : Int).toNat) 0 I AI H locs ls ⟨by decide, by decide⟩ hv hp pf (by omega) (by omega) (by rw [pH_n hP]; exact hP) (by rw [pH_n hP]; rfl) (by omega) (fun _ _ => rfl) (by rw [pH_n hP]; exact iL_0) (qAll_0 (by omega)) (by omega) hH hS (lv_sub hl [0, 1, 2] rfl)

def rmX1_readPairg : Room := { frames := 2, cells := 0, slots := 0, locals := 42 }
set_option maxHeartbeats 4000000 in
set_option maxRecDepth 100000 in
/-- a pair -/
theorem c_X1_readPairg (l : Launch) (g : gG) (gh : gGh) (q ln : Nat) (c5 c6 k8 : Int) (b : tTx) (n : Nat) (tl : Int) (nr : Nat) (nt : Nat → Nat) (cl : Nat → Int) (h : Nat) (I : gI) (R : gR) (J : gJ) (AI : gI) (AJ : gJ) (AR : gR) (a : Nat) (lim : Int) (zlim : zr lim) (hv : gInv g gh R AR I AI) (hp : pS g gh R I a q ln) (hP : pH gh AR I J AI AJ a q b n tl nr nt cl h) (hc5 : (I ln 5).toInt = c5) (hc6 : (I ln 6).toInt = c6) (hk8 : (I ln 8).toInt = k8) : gMet l g yX1_readPair wsX1_readPair rmX1_readPairg [.ref a, .int (iI lim)] (I, R, J, AI, AJ, AR) (gQi g (fun (z : Int) (w : gS) => R = w.2.1 ∧ J = w.2.2.1 ∧ AI = w.2.2.2.1 ∧ AJ = w.2.2.2.2.1 ∧ AR = w.2.2.2.2.2 ∧ (gInv g gh R AR (w.1) AI) ∧ (pS g gh R (w.1) a q ln) ∧ (pF a ln I (w.1)) ∧ (((w.1) ln 8).toInt = (I ln 8).toInt) ∧ (z = 0 → (I ln 8).toInt < lim) ∧ (0 ≤ z ∧ z ≤ 4) ∧ (z = (sPair b n c5 c6 k8 lim h).1) ∧ (pH gh AR (w.1) J AI AJ a q b n tl nr nt cl (sPair b n c5 c6 k8 lim h).2.1) ∧ (((w.1) ln 5).toInt = (I ln 5).toInt ∧ ((w.1) ln 6).toInt = (I ln 6).toInt ∧ ((w.1) ln 3).toInt = (I ln 3).toInt ∧ ((w.1) ln 4).toInt = (I ln 4).toInt ∧ ((w.1) ln 11).toInt = (I ln 11).toInt ∧ ((w.1) ln 12).toInt = (I ln 12).toInt) ∧ (pIm z (((w.1) ln 10).toInt) ((sPair b n c5 c6 k8 lim h).2.2)) ∧ (zIf z (((w.1) ln 9).toInt = pV b n h)))) := by
  refine gStart (cc := cX1_readPair) (maxL := 3) (ret := (some (.int))) (by decide) rfl (Nat.le_of_ble_eq_true rfl) ?_
  intro p e s m below meth c ls F hr hlk hH hz hS hl
  have hl : lv_has ls 3 [(0, .ref a), (1, .int (iI lim))] := hl
  have hS : va_S (gA g) s.heap s.heap [] := hS
  obtain ⟨H, hHe⟩ : ∃ H : Heap, H = s.heap := ⟨_, rfl⟩
  obtain ⟨locs, hlo⟩ : ∃ k : List Loc, k = [] := ⟨_, rfl⟩
  have hH : gH g I R J AI AJ AR H := by rw [hHe]; exact hH
  have hS : va_S (gA g) s.heap H locs := by rw [hHe, hlo]; exact hS
  suffices hw : W p l e rmX1_readPairg s m ([.ref a, .int (iI lim)] : List Value).toArray below meth c H locs 0 0 (MQ below (gQi g (fun (z : Int) (w : gS) => R = w.2.1 ∧ J = w.2.2.1 ∧ AI = w.2.2.2.1 ∧ AJ = w.2.2.2.2.1 ∧ AR = w.2.2.2.2.2 ∧ (gInv g gh R AR (w.1) AI) ∧ (pS g gh R (w.1) a q ln) ∧ (pF a ln I (w.1)) ∧ (((w.1) ln 8).toInt = (I ln 8).toInt) ∧ (z = 0 → (I ln 8).toInt < lim) ∧ (0 ≤ z ∧ z ≤ 4) ∧ (z = (sPair b n c5 c6 k8 lim h).1) ∧ (pH gh AR (w.1) J AI AJ a q b n tl nr nt cl (sPair b n c5 c6 k8 lim h).2.1) ∧ (((w.1) ln 5).toInt = (I ln 5).toInt ∧ ((w.1) ln 6).toInt = (I ln 6).toInt ∧ ((w.1) ln 3).toInt = (I ln 3).toInt ∧ ((w.1) ln 4).toInt = (I ln 4).toInt ∧ ((w.1) ln 11).toInt = (I ln 11).toInt ∧ ((w.1) ln 12).toInt = (I ln 12).toInt) ∧ (pIm z (((w.1) ln 10).toInt) ((sPair b n c5 c6 k8 lim h).2.2)) ∧ (zIf z (((w.1) ln 9).toInt = pV b n h)))) ([.ref a, .int (iI lim)] : List Value).toArray s 0 0 (gA g)) (F0 m 0 ls []) by
    rw [hHe, hlo] at hw; exact hw
  clear hHe hlo
  have pf : pF a ln I I := pF_r
  have iX5 : ∀ w ∈ u_ws RX5 TX5 5, w ∈ wsX1_readPair := (by decide +kernel)
  have iX1 : ∀ w ∈ u_ws RX1 TX1 4, w ∈ wsX1_readPair := (by decide +kernel)
  have iX0 : ∀ w ∈ u_ws RX0 TX0 15, w ∈ wsX1_readPair := (by decide +kernel)
  have k29 : Cond.fieldLink RX1 29 (TX1 2).1 (TX1 2).2.1 (TX1 2).2.2.1 ∈ wsX1_readPair := List.mem_of_getElem? (i := 1) rfl
  have k143 : Cond.fieldLink RX1 143 (TX0 5).1 (TX0 5).2.1 (TX0 5).2.2.1 ∈ wsX1_readPair := List.mem_of_getElem? (i := 2) rfl
  have k149 : Cond.fieldLink RX1 149 (TX0 8).1 (TX0 8).2.1 (TX0 8).2.2.1 ∈ wsX1_readPair := List.mem_of_getElem? (i := 3) rfl
  have k12 : Cond.fieldLink RX1 12 (TX1 0).1 (TX1 0).2.1 (TX1 0).2.2.1 ∈ wsX1_readPair := List.mem_of_getElem? (i := 4) rfl
  have k71 : Cond.fieldLink RX1 71 (TX5 2).1 (TX5 2).2.1 (TX5 2).2.2.1 ∈ wsX1_readPair := List.mem_of_getElem? (i := 5) rfl
  have k44 : Cond.fieldLink RX1 44 (TX1 3).1 (TX1 3).2.1 (TX1 3).2.2.1 ∈ wsX1_readPair := List.mem_of_getElem? (i := 6) rfl
  have k202 : Cond.fieldLink RX1 202 (TX0 9).1 (TX0 9).2.1 (TX0 9).2.2.1 ∈ wsX1_readPair := List.mem_of_getElem? (i := 7) rfl
  have k146 : Cond.fieldLink RX1 146 (TX0 6).1 (TX0 6).2.1 (TX0 6).2.2.1 ∈ wsX1_readPair := List.mem_of_getElem? (i := 8) rfl
  have k205 : Cond.fieldLink RX1 205 (TX0 10).1 (TX0 10).2.1 (TX0 10).2.2.1 ∈ wsX1_readPair := List.mem_of_getElem? (i := 9) rfl
  refine lv_aload_n F.1 F.2.1 dX1_readPair_0 rfl (lv_at hl 0 rfl) ?_
  refine lv_aload_n F.1 F.2.1 dX1_readPair_1 rfl (lv_at hl 0 rfl) ?_
  refine g_getR (ci := 1) (k := 2) F hH rfl (by decide) iX1 hp.1 (by decide) rfl (b := ln) hp.2.2.2.1 k29 dX1_readPair_2 ?_
  refine g_getI (ci := 0) (k := 5) F hH rfl (by decide) iX0 hp.2.2.2.2.1 (by decide) rfl k143 dX1_readPair_5 ?_
  have b_1 := gI_line hv hp.2.2.2.2.1
  unfold vLineI at b_1
  refine g_calli (g_runV (As := [.int (iI ((I ln 5).toInt))]) (rest := []) (ci := 1) F hl.1 hH hS hz (c_X1_seeColumng l g gh q b n tl nr nt cl h I R J AI AJ AR a ((I ln 5).toInt) (zr_t _) hv hp.1 (by first | exact hp.2.2.2.2.2.2.2 | exact hh | omega) hP) (cwV 1 F.2.2.2.2.1 gX1_readPair_X1_seeColumn rfl rfl rfl hdX1_seeColumn ⟨Nat.le_of_ble_eq_true rfl, Nat.le_of_ble_eq_true rfl⟩) hp.1 (by decide) rfl rfl rfl (Nat.le_of_ble_eq_true rfl) dX1_readPair_8 ⟨Nat.zero_le _, Nat.zero_le _⟩) hS (fun v_8 I_2 R_3 J_4 AI_5 AJ_6 AR_7 H locs zv_8 hp_9 hH hS => ?_)
  dsimp only at hp_9
  rw [show (I ln 5).toInt = c5 by omega] at hp_9
  obtain ⟨rfl, rfl, rfl, rfl, rfl, rfl, s1, s2, s3⟩ := hp_9
  refine lv_istore_n (lv' := [(2, .int (iI v_8)), (0, .ref a), (1, .int (iI lim))]) F.1 F.2.1 dX1_readPair_11 rfl hl (by decide) rfl (fun ls hl => ?_)
  refine lv_iload_n F.1 F.2.1 dX1_readPair_12 rfl (lv_at hl 0 rfl) ?_
  refine z_if_eq (tgt := 18) F dX1_readPair_13 (by decide) zv_8 (fun c_10 => ?_) (fun c_10 => ?_)
  · have t_11 := pCf_0 (b := b) (n := n) (c := c5) (h := h) (by omega)
    refine lv_aload_n F.1 F.2.1 dX1_readPair_18 rfl (lv_at hl 1 rfl) ?_
    refine g_getR (ci := 1) (k := 2) F hH rfl (by decide) iX1 hp.1 (by decide) rfl (b := ln) hp.2.2.2.1 k29 dX1_readPair_19 ?_
    refine g_getI (ci := 0) (k := 8) F hH rfl (by decide) iX0 hp.2.2.2.2.1 (by decide) rfl k149 dX1_readPair_22 ?_
    refine lv_iload_n F.1 F.2.1 dX1_readPair_25 rfl (lv_at hl 2 rfl) ?_
    refine z_icmp_lt (tgt := 31) F dX1_readPair_26 (by decide) (zr_t _) zlim (fun c_12 => ?_) (fun c_12 => ?_)
    · refine lv_aload_n F.1 F.2.1 dX1_readPair_31 rfl (lv_at hl 1 rfl) ?_
      refine g_getR (ci := 1) (k := 2) F hH rfl (by decide) iX1 hp.1 (by decide) rfl (b := ln) hp.2.2.2.1 k29 dX1_readPair_32 ?_
      refine lv_aload_n F.1 F.2.1 dX1_readPair_35 rfl (lv_at hl 1 rfl) ?_
      refine g_getR (ci := 1) (k := 0) F hH rfl (by decide) iX1 hp.1 (by decide) rfl (b := gh 22 0) (gR_pr0 hv hp.1).1 k12 dX1_readPair_36 ?_
      obtain ⟨r_13a, r_13b⟩ := gR_tk2 hv (gR_pr0 hv hp.1).2
      refine g_getR (ci := 5) (k := 2) F hH rfl (by decide) iX5 (gR_pr0 hv hp.1).2 (by decide) rfl (b := gh 26 0) r_13a k71 dX1_readPair_39 ?_
      refine lv_aload_n F.1 F.2.1 dX1_readPair_42 rfl (lv_at hl 1 rfl) ?_
      refine g_getI (ci := 1) (k := 3) F hH rfl (by decide) iX1 hp.1 (by decide) rfl k44 dX1_readPair_43 ?_
      have b_14h := hp.2.2.2.2.2.2.2
      have b_14 := gI_pr hv hp.1
      have b_14t := gI_tk hv (gR_pr0 hv hp.1).2
      have hx46 : 0 ≤ ((I a 3).toInt) ∧ ((I a 3).toInt) < ((901 : Nat) : Int) ∧ ((I a 3).toInt) ≤ 2147483647 := ⟨by omega, by omega, by omega⟩
      refine g_iald F hH r_13b hx46.1 hx46.2.1 hx46.2.2 dX1_readPair_46 ?_
      refine z_name (fun v_15 ev_15 => ?_)
      have zv_15 : zr v_15 := by rw [ev_15]; exact zr_t _
      have t46 : v_15 = pV b n (h) := by rw [ev_15]; exact pH_V hP
      refine g_putI (ci := 0) (k := 9) F hH hS rfl (by decide) iX0 hp.2.2.2.2.1 (by decide) tyX0 tyX0_ok nmX0 rfl rfl rfl k202 dX1_readPair_47 (fun H locs hH hS => ?_)
      obtain ⟨I_16, eI_16⟩ : ∃ qQ, qQ = gup2 I ln 9 (iI (v_15)) := ⟨_, rfl⟩
      rw [← eI_16] at hH
      have kI_16 : ∀ b, b ≠ ln → I_16 b = I b := fun b hb => by rw [eI_16]; exact funext fun j => gup2_a _ _ hb
      have hP := pH_ln hv hp hP kI_16
      have w_17 : (I_16 ln 9).toInt = v_15 := by rw [eI_16, gup2_s]; exact iI_val ⟨by omega, by omega⟩
      have hp2 : pS g gh R I_16 a q ln := pS_ln hv hp kI_16
      have hv : gInv g gh R AR I_16 AI := by rw [eI_16]; exact gInv_line9 hv hp.2.2.2.2.1 (by omega) (by omega)
      have hp := hp2
      have pf : pF a ln I I_16 := pF_t pf (by rw [eI_16]; exact pF_ln (by decide))
      have w_17_k : ∀ j, j ≠ 9 → I_16 ln j = I ln j := fun j hj => by rw [eI_16]; exact gup2_k _ _ hj
      have u_18q : (I_16 q 1).toInt = (I q 1).toInt := by rw [kI_16 q (gO_ne hp.2.2.1 hp.2.2.2.2.1 (by decide))]
      have u_18_0 : (I_16 ln 0).toInt = (I ln 0).toInt := by rw [w_17_k 0 (by decide)]
      have u_18_8 : (I_16 ln 8).toInt = (I ln 8).toInt := by rw [w_17_k 8 (by decide)]
      have u_19 : (I_16 ln 2).toInt = (I ln 2).toInt := by rw [w_17_k 2 (by decide)]
      have u_20 : (I_16 ln 3).toInt = (I ln 3).toInt := by rw [w_17_k 3 (by decide)]
      have u_21 : (I_16 ln 4).toInt = (I ln 4).toInt := by rw [w_17_k 4 (by decide)]
      have u_22 : (I_16 ln 5).toInt = (I ln 5).toInt := by rw [w_17_k 5 (by decide)]
      have u_23 : (I_16 ln 6).toInt = (I ln 6).toInt := by rw [w_17_k 6 (by decide)]
      have u_24 : (I_16 ln 10).toInt = (I ln 10).toInt := by rw [w_17_k 10 (by decide)]
      have u_25 : (I_16 ln 11).toInt = (I ln 11).toInt := by rw [w_17_k 11 (by decide)]
      have u_26 : (I_16 ln 12).toInt = (I ln 12).toInt := by rw [w_17_k 12 (by decide)]
      refine lv_aload_n F.1 F.2.1 dX1_readPair_50 rfl (lv_at hl 1 rfl) ?_
      have hv0 := hv
      refine g_callv (g_runV (As := []) (rest := []) (ci := 1) F hl.1 hH hS hz (c_X1_stepg l g gh q b n tl nr nt cl h I_16 R J AI AJ AR a hv hp.1 (by first | exact hp.2.2.2.2.2.2.2 | exact hh | omega) hP (by first | exact hp.2.2.1 | exact hq) (by omega)) (cwV 0 F.2.2.2.2.1 gX1_readPair_X1_step rfl rfl rfl hdX1_step ⟨Nat.le_of_ble_eq_true rfl, Nat.le_of_ble_eq_true rfl⟩) hp.1 (by decide) rfl rfl rfl (Nat.le_of_ble_eq_true rfl) dX1_readPair_51 ⟨Nat.zero_le _, Nat.zero_le _⟩) hS (fun I_27 R_28 J_29 AI_30 AJ_31 AR_32 H locs hp_33 hH hS => ?_)
      dsimp only at hp_33
      obtain ⟨rfl, rfl, rfl, rfl, rfl, hv, fs, hs, hP⟩ := hp_33
      have hP : pH gh AR I_27 J AI AJ a q b n tl nr nt cl (h + 1) := hP
      obtain ⟨hp, pfq, fls⟩ := pS_step hv0 hp fs hs
      have pf := pF_t pf pfq
      have u_34q : (I_27 q 1).toInt = (I_16 q 1).toInt := by rw [pF_q hp pfq]
      have u_34_0 : (I_27 ln 0).toInt = (I_16 ln 0).toInt := by rw [fls]
      have u_34_8 : (I_27 ln 8).toInt = (I_16 ln 8).toInt := by rw [fls]
      have u_35 : (I_27 ln 2).toInt = (I_16 ln 2).toInt := by rw [fls]
      have u_36 : (I_27 ln 3).toInt = (I_16 ln 3).toInt := by rw [fls]
      have u_37 : (I_27 ln 4).toInt = (I_16 ln 4).toInt := by rw [fls]
      have u_38 : (I_27 ln 5).toInt = (I_16 ln 5).toInt := by rw [fls]
      have u_39 : (I_27 ln 6).toInt = (I_16 ln 6).toInt := by rw [fls]
      have u_40 : (I_27 ln 9).toInt = (I_16 ln 9).toInt := by rw [fls]
      have u_41 : (I_27 ln 10).toInt = (I_16 ln 10).toInt := by rw [fls]
      have u_42 : (I_27 ln 11).toInt = (I_16 ln 11).toInt := by rw [fls]
      have u_43 : (I_27 ln 12).toInt = (I_16 ln 12).toInt := by rw [fls]
      refine lv_aload_n F.1 F.2.1 dX1_readPair_54 rfl (lv_at hl 1 rfl) ?_
      refine z_bipush F dX1_readPair_55 (by decide) ?_
      refine g_calli (g_runV (As := [.int (iI 61)]) (rest := []) (ci := 1) F hl.1 hH hS hz (c_X1_takeKindg l g gh q ln b n tl nr nt cl (h + 1) I_27 R J AI AJ AR a 61 ⟨by decide, by decide⟩ hv hp hP (by omega)) (cwV 1 F.2.2.2.2.1 gX1_readPair_X1_takeKind rfl rfl rfl hdX1_takeKind ⟨Nat.le_of_ble_eq_true rfl, Nat.le_of_ble_eq_true rfl⟩) hp.1 (by decide) rfl rfl rfl (Nat.le_of_ble_eq_true rfl) dX1_readPair_57 ⟨Nat.zero_le _, Nat.zero_le _⟩) hS (fun v_50 I_44 R_45 J_46 AI_47 AJ_48 AR_49 H locs zv_50 hp_51 hH hS => ?_)
      dsimp only at hp_51
      obtain ⟨r_52, er_52⟩ : ∃ qQ : pR, qQ = sTk b n 61 (h + 1) := ⟨_, rfl⟩
      rw [← er_52] at hp_51
      obtain ⟨rfl, rfl, rfl, rfl, rfl, hv, hp, pfq, flq, q_53, q_54, hP⟩ := hp_51
      have pf := pF_t pf pfq
      have u_55q : (I_44 q 1).toInt = (I_27 q 1).toInt := by rw [pF_q hp pfq]
      have u_55_0 : (I_44 ln 0).toInt = (I_27 ln 0).toInt := by rw [pfq.2]
      have u_55_8 : (I_44 ln 8).toInt = (I_27 ln 8).toInt := by rw [flq]
      have u_56 : (I_44 ln 2).toInt = (I_27 ln 2).toInt := by rw [flq]
      have u_57 : (I_44 ln 3).toInt = (I_27 ln 3).toInt := by rw [flq]
      have u_58 : (I_44 ln 4).toInt = (I_27 ln 4).toInt := by rw [flq]
      have u_59 : (I_44 ln 5).toInt = (I_27 ln 5).toInt := by rw [flq]
      have u_60 : (I_44 ln 6).toInt = (I_27 ln 6).toInt := by rw [flq]
      have u_61 : (I_44 ln 9).toInt = (I_27 ln 9).toInt := by rw [flq]
      have u_62 : (I_44 ln 10).toInt = (I_27 ln 10).toInt := by rw [flq]
      have u_63 : (I_44 ln 11).toInt = (I_27 ln 11).toInt := by rw [flq]
      have u_64 : (I_44 ln 12).toInt = (I_27 ln 12).toInt := by rw [flq]
      refine lv_istore_n (lv' := [(2, .int (iI v_50)), (0, .ref a), (1, .int (iI lim))]) F.1 F.2.1 dX1_readPair_60 rfl hl (by decide) rfl (fun ls hl => ?_)
      refine lv_iload_n F.1 F.2.1 dX1_readPair_61 rfl (lv_at hl 0 rfl) ?_
      refine z_if_ne (tgt := 77) F dX1_readPair_62 (by decide) zv_50 (fun c_65 => ?_) (fun c_65 => ?_)
      · refine lv_iload_n F.1 F.2.1 dX1_readPair_77 rfl (lv_at hl 0 rfl) ?_
        refine z_if_ne (tgt := 104) F dX1_readPair_78 (by decide) zv_50 (fun c_66 => ?_) (fun c_66 => ?_)
        · refine lv_iload_n F.1 F.2.1 dX1_readPair_104 rfl (lv_at hl 0 rfl) ?_
          have hfin : sPair b n c5 c6 k8 lim h = r_52 := by
            unfold sPair
            repeat (first | with_reducible rfl | refine ite_y (by omega) ?_ | refine ite_n (by omega) ?_ | exact er_52.symm | exact thn_x er_52 (by omega) | exact pr_e (by omega) (by omega) (by omega))
          exact g_iret F hr hlk hH hS hz zv_50 ⟨rfl, rfl, rfl, rfl, rfl, hv, hp, pf, by first | omega | rfl | (dsimp only; omega), fun _ => by omega, by first | omega | rfl | (dsimp only; omega), by (try dsimp only); rw [hfin]; first | done | omega | rfl, by (try dsimp only); rw [hfin]; exact hP, by (try dsimp only); omega, by (try dsimp only); first | exact pIm_n (by omega) | (rw [hfin]; (try dsimp only); exact pIm_y (by first | omega | rfl)) | exact pIm_y (by omega), by (try dsimp only); first | exact zIf_n (by omega) | exact zIf_y (by omega)⟩ dX1_readPair_105
        · exact absurd trivial (by omega)
      · refine lv_aload_n F.1 F.2.1 dX1_readPair_65 rfl (lv_at hl 1 rfl) ?_
        refine lv_aload_n F.1 F.2.1 dX1_readPair_66 rfl (lv_at hl 1 rfl) ?_
        refine g_getR (ci := 1) (k := 2) F hH rfl (by decide) iX1 hp.1 (by decide) rfl (b := ln) hp.2.2.2.1 k29 dX1_readPair_67 ?_
        refine g_getI (ci := 0) (k := 6) F hH rfl (by decide) iX0 hp.2.2.2.2.1 (by decide) rfl k146 dX1_readPair_70 ?_
        have b_67 := gI_line hv hp.2.2.2.2.1
        unfold vLineI at b_67
        refine g_calli (g_runV (As := [.int (iI ((I_44 ln 6).toInt))]) (rest := []) (ci := 1) F hl.1 hH hS hz (c_X1_seeColumng l g gh q b n tl nr nt cl r_52.2.1 I_44 R J AI AJ AR a ((I_44 ln 6).toInt) (zr_t _) hv hp.1 (by first | exact hp.2.2.2.2.2.2.2 | exact hh | omega) hP) (cwV 1 F.2.2.2.2.1 gX1_readPair_X1_seeColumn rfl rfl rfl hdX1_seeColumn ⟨Nat.le_of_ble_eq_true rfl, Nat.le_of_ble_eq_true rfl⟩) hp.1 (by decide) rfl rfl rfl (Nat.le_of_ble_eq_true rfl) dX1_readPair_73 ⟨Nat.zero_le _, Nat.zero_le _⟩) hS (fun v_74 I_68 R_69 J_70 AI_71 AJ_72 AR_73 H locs zv_74 hp_75 hH hS => ?_)
        dsimp only at hp_75
        rw [show (I_44 ln 6).toInt = c6 by omega] at hp_75
        obtain ⟨rfl, rfl, rfl, rfl, rfl, rfl, t1, t2, t3⟩ := hp_75
        refine lv_istore_n (lv' := [(2, .int (iI v_74)), (0, .ref a), (1, .int (iI lim))]) F.1 F.2.1 dX1_readPair_76 rfl hl (by decide) rfl (fun ls hl => ?_)
        refine lv_iload_n F.1 F.2.1 dX1_readPair_77 rfl (lv_at hl 0 rfl) ?_
        refine z_if_ne (tgt := 104) F dX1_readPair_78 (by decide) zv_74 (fun c_76 => ?_) (fun c_76 => ?_)
        · refine lv_iload_n F.1 F.2.1 dX1_readPair_104 rfl (lv_at hl 0 rfl) ?_
          have hfin : sPair b n c5 c6 k8 lim h = (v_74, r_52.2.1, 0) := by
            unfold sPair
            repeat (first | with_reducible rfl | refine ite_y (by omega) ?_ | refine ite_n (by omega) ?_ | refine thn_y er_52 (by omega) ?_ | exact pr_e (by omega) (by omega) (by omega))
          exact g_iret F hr hlk hH hS hz zv_74 ⟨rfl, rfl, rfl, rfl, rfl, hv, hp, pf, by first | omega | rfl | (dsimp only; omega), fun _ => by omega, by first | omega | rfl | (dsimp only; omega), by (try dsimp only); rw [hfin]; first | done | omega | rfl, by (try dsimp only); rw [hfin]; exact hP, by (try dsimp only); omega, by (try dsimp only); first | exact pIm_n (by omega) | (rw [hfin]; (try dsimp only); exact pIm_y (by first | omega | rfl)) | exact pIm_y (by omega), by (try dsimp only); first | exact zIf_n (by omega) | exact zIf_y (by omega)⟩ dX1_readPair_105
        · have t_77 := pCf_0 (b := b) (n := n) (c := c6) (h := r_52.2.1) (by omega)
          refine lv_aload_n F.1 F.2.1 dX1_readPair_81 rfl (lv_at hl 1 rfl) ?_
          refine g_getR (ci := 1) (k := 2) F hH rfl (by decide) iX1 hp.1 (by decide) rfl (b := ln) hp.2.2.2.1 k29 dX1_readPair_82 ?_
          refine lv_aload_n F.1 F.2.1 dX1_readPair_85 rfl (lv_at hl 1 rfl) ?_
          refine g_getR (ci := 1) (k := 0) F hH rfl (by decide) iX1 hp.1 (by decide) rfl (b := gh 22 0) (gR_pr0 hv hp.1).1 k12 dX1_readPair_86 ?_
          refine g_getR (ci := 5) (k := 2) F hH rfl (by decide) iX5 (gR_pr0 hv hp.1).2 (by decide) rfl (b := gh 26 0) r_13a k71 dX1_readPair_89 ?_
          refine lv_aload_n F.1 F.2.1 dX1_readPair_92 rfl (lv_at hl 1 rfl) ?_
          refine g_getI (ci := 1) (k := 3) F hH rfl (by decide) iX1 hp.1 (by decide) rfl k44 dX1_readPair_93 ?_
          have b_78h := hp.2.2.2.2.2.2.2
          have b_78 := gI_pr hv hp.1
          have b_78t := gI_tk hv (gR_pr0 hv hp.1).2
          have hx96 : 0 ≤ ((I_44 a 3).toInt) ∧ ((I_44 a 3).toInt) < ((901 : Nat) : Int) ∧ ((I_44 a 3).toInt) ≤ 2147483647 := ⟨by omega, by omega, by omega⟩
          refine g_iald F hH r_13b hx96.1 hx96.2.1 hx96.2.2 dX1_readPair_96 ?_
          refine z_name (fun v_79 ev_79 => ?_)
          have zv_79 : zr v_79 := by rw [ev_79]; exact zr_t _
          have t96 : v_79 = pV b n (r_52.2.1) := by rw [ev_79]; exact pH_V hP
          refine g_putI (ci := 0) (k := 10) F hH hS rfl (by decide) iX0 hp.2.2.2.2.1 (by decide) tyX0 tyX0_ok nmX0 rfl rfl rfl k205 dX1_readPair_97 (fun H locs hH hS => ?_)
          obtain ⟨I_80, eI_80⟩ : ∃ qQ, qQ = gup2 I_44 ln 10 (iI (v_79)) := ⟨_, rfl⟩
          rw [← eI_80] at hH
          have kI_80 : ∀ b, b ≠ ln → I_80 b = I_44 b := fun b hb => by rw [eI_80]; exact funext fun j => gup2_a _ _ hb
          have hP := pH_ln hv hp hP kI_80
          have w_81 : (I_80 ln 10).toInt = v_79 := by rw [eI_80, gup2_s]; exact iI_val ⟨by omega, by omega⟩
          have hp2 : pS g gh R I_80 a q ln := pS_ln hv hp kI_80
          have hv : gInv g gh R AR I_80 AI := by rw [eI_80]; exact gInv_line10 hv hp.2.2.2.2.1 (by omega) (by omega)
          have hp := hp2
          have pf : pF a ln I I_80 := pF_t pf (by rw [eI_80]; exact pF_ln (by decide))
          have w_81_k : ∀ j, j ≠ 10 → I_80 ln j = I_44 ln j := fun j hj => by rw [eI_80]; exact gup2_k _ _ hj
          have u_82q : (I_80 q 1).toInt = (I_44 q 1).toInt := by rw [kI_80 q (gO_ne hp.2.2.1 hp.2.2.2.2.1 (by decide))]
          have u_82_0 : (I_80 ln 0).toInt = (I_44 ln 0).toInt := by rw [w_81_k 0 (by decide)]
          have u_82_8 : (I_80 ln 8).toInt = (I_44 ln 8).toInt := by rw [w_81_k 8 (by decide)]
          have u_83 : (I_80 ln 2).toInt = (I_44 ln 2).toInt := by rw [w_81_k 2 (by decide)]
          have u_84 : (I_80 ln 3).toInt = (I_44 ln 3).toInt := by rw [w_81_k 3 (by decide)]
          have u_85 : (I_80 ln 4).toInt = (I_44 ln 4).toInt := by rw [w_81_k 4 (by decide)]
          have u_86 : (I_80 ln 5).toInt = (I_44 ln 5).toInt := by rw [w_81_k 5 (by decide)]
          have u_87 : (I_80 ln 6).toInt = (I_44 ln 6).toInt := by rw [w_81_k 6 (by decide)]
          have u_88 : (I_80 ln 9).toInt = (I_44 ln 9).toInt := by rw [w_81_k 9 (by decide)]
          have u_89 : (I_80 ln 11).toInt = (I_44 ln 11).toInt := by rw [w_81_k 11 (by decide)]
          have u_90 : (I_80 ln 12).toInt = (I_44 ln 12).toInt := by rw [w_81_k 12 (by decide)]
          refine lv_aload_n F.1 F.2.1 dX1_readPair_100 rfl (lv_at hl 1 rfl) ?_
          have hv0 := hv
          refine g_callv (g_runV (As := []) (rest := []) (ci := 1) F hl.1 hH hS hz (c_X1_stepg l g gh q b n tl nr nt cl r_52.2.1 I_80 R J AI AJ AR a hv hp.1 (by first | exact hp.2.2.2.2.2.2.2 | exact hh | omega) hP (by first | exact hp.2.2.1 | exact hq) (by omega)) (cwV 0 F.2.2.2.2.1 gX1_readPair_X1_step rfl rfl rfl hdX1_step ⟨Nat.le_of_ble_eq_true rfl, Nat.le_of_ble_eq_true rfl⟩) hp.1 (by decide) rfl rfl rfl (Nat.le_of_ble_eq_true rfl) dX1_readPair_101 ⟨Nat.zero_le _, Nat.zero_le _⟩) hS (fun I_91 R_92 J_93 AI_94 AJ_95 AR_96 H locs hp_97 hH hS => ?_)
          dsimp only at hp_97
          obtain ⟨rfl, rfl, rfl, rfl, rfl, hv, fs, hs, hP⟩ := hp_97
          have hP : pH gh AR I_91 J AI AJ a q b n tl nr nt cl (r_52.2.1 + 1) := hP
          obtain ⟨hp, pfq, fls⟩ := pS_step hv0 hp fs hs
          have pf := pF_t pf pfq
          have u_98q : (I_91 q 1).toInt = (I_80 q 1).toInt := by rw [pF_q hp pfq]
          have u_98_0 : (I_91 ln 0).toInt = (I_80 ln 0).toInt := by rw [fls]
          have u_98_8 : (I_91 ln 8).toInt = (I_80 ln 8).toInt := by rw [fls]
          have u_99 : (I_91 ln 2).toInt = (I_80 ln 2).toInt := by rw [fls]
          have u_100 : (I_91 ln 3).toInt = (I_80 ln 3).toInt := by rw [fls]
          have u_101 : (I_91 ln 4).toInt = (I_80 ln 4).toInt := by rw [fls]
          have u_102 : (I_91 ln 5).toInt = (I_80 ln 5).toInt := by rw [fls]
          have u_103 : (I_91 ln 6).toInt = (I_80 ln 6).toInt := by rw [fls]
          have u_104 : (I_91 ln 9).toInt = (I_80 ln 9).toInt := by rw [fls]
          have u_105 : (I_91 ln 10).toInt = (I_80 ln 10).toInt := by rw [fls]
          have u_106 : (I_91 ln 11).toInt = (I_80 ln 11).toInt := by rw [fls]
          have u_107 : (I_91 ln 12).toInt = (I_80 ln 12).toInt := by rw [fls]
          refine lv_iload_n F.1 F.2.1 dX1_readPair_104 rfl (lv_at hl 0 rfl) ?_
          have hfin : sPair b n c5 c6 k8 lim h = (v_74, r_52.2.1 + 1, pV b n (r_52.2.1)) := by
            unfold sPair
            repeat (first | with_reducible rfl | refine ite_y (by omega) ?_ | refine ite_n (by omega) ?_ | refine thn_y er_52 (by omega) ?_ | exact pr_e (by omega) (by omega) (by omega))
          exact g_iret F hr hlk hH hS hz zv_74 ⟨rfl, rfl, rfl, rfl, rfl, hv, hp, pf, by first | omega | rfl | (dsimp only; omega), fun _ => by omega, by first | omega | rfl | (dsimp only; omega), by (try dsimp only); rw [hfin]; first | done | omega | rfl, by (try dsimp only); rw [hfin]; exact hP, by (try dsimp only); omega, by (try dsimp only); first | exact pIm_n (by omega) | (rw [hfin]; (try dsimp only); exact pIm_y (by first | omega | rfl)) | exact pIm_y (by omega), by (try dsimp only); first | exact zIf_n (by omega) | exact zIf_y (by omega)⟩ dX1_readPair_105
    · refine z_iconst F dX1_readPair_29 ?_
      have hfin : sPair b n c5 c6 k8 lim h = (4, h, 0) := by
        unfold sPair
        repeat (first | with_reducible rfl | refine ite_y (by omega) ?_ | refine ite_n (by omega) ?_ | exact pr_e (by omega) (by omega) (by omega))
      exact g_iret F hr hlk hH hS hz ⟨by decide, by decide⟩ ⟨rfl, rfl, rfl, rfl, rfl, hv, hp, pf, by first | omega | rfl | (dsimp only; omega), fun h => absurd h (by omega), by first | omega | rfl | (dsimp only; omega), by (try dsimp only); rw [hfin]; first | done | omega | rfl, by (try dsimp only); rw [hfin]; exact hP, by (try dsimp only); omega, by (try dsimp only); first | exact pIm_n (by omega) | (rw [hfin]; (try dsimp only); exact pIm_y (by first | omega | rfl)) | exact pIm_y (by omega), by (try dsimp only); first | exact zIf_n (by omega) | exact zIf_y (by omega)⟩ dX1_readPair_30
  · refine lv_iload_n F.1 F.2.1 dX1_readPair_16 rfl (lv_at hl 0 rfl) ?_
    have hfin : sPair b n c5 c6 k8 lim h = (v_8, h, 0) := by
      unfold sPair
      repeat (first | with_reducible rfl | refine ite_y (by omega) ?_ | refine ite_n (by omega) ?_ | exact pr_e (by omega) (by omega) (by omega))
    exact g_iret F hr hlk hH hS hz zv_8 ⟨rfl, rfl, rfl, rfl, rfl, hv, hp, pf, by first | omega | rfl | (dsimp only; omega), fun h => absurd h (by omega), by first | omega | rfl | (dsimp only; omega), by (try dsimp only); rw [hfin]; first | done | omega | rfl, by (try dsimp only); rw [hfin]; exact hP, by (try dsimp only); omega, by (try dsimp only); first | exact pIm_n (by omega) | (rw [hfin]; (try dsimp only); exact pIm_y (by first | omega | rfl)) | exact pIm_y (by omega), by (try dsimp only); first | exact zIf_n (by omega) | exact zIf_y (by omega)⟩ dX1_readPair_17

def rmX1_readPairsg : Room := { frames := 3, cells := 0, slots := 0, locals := 64 }
set_option maxHeartbeats 4000000 in
set_option maxRecDepth 100000 in
/-- the pairs -/
theorem c_X1_readPairsg (l : Launch) (g : gG) (gh : gGh) (q ln : Nat) (c5 c6 : Int) (b : tTx) (n : Nat) (tl : Int) (nr : Nat) (nt : Nat → Nat) (cl : Nat → Int) (h : Nat) (I : gI) (R : gR) (J : gJ) (AI : gI) (AJ : gJ) (AR : gR) (a : Nat) (hv : gInv g gh R AR I AI) (hp : pS g gh R I a q ln) (hk : (I ln 0).toInt = 3) (hP : pH gh AR I J AI AJ a q b n tl nr nt cl h) (hc5 : (I ln 5).toInt = c5) (hc6 : (I ln 6).toInt = c6) (hk8 : (I ln 8).toInt = 0) : gMet l g yX1_readPairs wsX1_readPairs rmX1_readPairsg [.ref a] (I, R, J, AI, AJ, AR) (gQi g (fun (z : Int) (w : gS) => R = w.2.1 ∧ J = w.2.2.1 ∧ AJ = w.2.2.2.2.1 ∧ AR = w.2.2.2.2.2 ∧ (gInv g gh R AR (w.1) (w.2.2.2.1)) ∧ (pS g gh R (w.1) a q ln) ∧ (pF a ln I (w.1)) ∧ (0 ≤ z ∧ z ≤ 4) ∧ (z = (sPairs b n c5 c6 5 0 [] h).1) ∧ (pH gh AR (w.1) J (w.2.2.2.1) AJ a q b n tl nr nt cl (sPairs b n c5 c6 5 0 [] h).2.1) ∧ (((w.1) ln 5).toInt = (I ln 5).toInt ∧ ((w.1) ln 6).toInt = (I ln 6).toInt ∧ ((w.1) ln 3).toInt = (I ln 3).toInt ∧ ((w.1) ln 4).toInt = (I ln 4).toInt ∧ ((w.1) ln 11).toInt = (I ln 11).toInt ∧ ((w.1) ln 12).toInt = (I ln 12).toInt) ∧ (∃ L : List Int, pCn ((w.2.2.2.1) (gh 3 ln)) ((w.1) ln 8).toInt L ∧ pIm z ((sPairs b n c5 c6 5 0 [] h).2.2) (c5 + jC L c6.toNat)) ∧ (∀ b, b ≠ gh 3 ln → (w.2.2.2.1) b = AI b) ∧ (zIf z (((w.1) ln 8).toInt = ((iCnt nxT (spC b n) 5 h : Nat) : Int) ∧ qAll (qPair b n) nxT ((w.2.2.2.1) (gh 3 ln)) h ((w.1) ln 8).toInt)))) := by
  refine gStart (cc := cX1_readPairs) (maxL := 3) (ret := (some (.int))) (by decide) rfl (Nat.le_of_ble_eq_true rfl) ?_
  intro p e s m below meth c ls F hr hlk hH hz hS hl
  have hl : lv_has ls 3 [(0, .ref a)] := hl
  have hS : va_S (gA g) s.heap s.heap [] := hS
  obtain ⟨H, hHe⟩ : ∃ H : Heap, H = s.heap := ⟨_, rfl⟩
  obtain ⟨locs, hlo⟩ : ∃ k : List Loc, k = [] := ⟨_, rfl⟩
  have hH : gH g I R J AI AJ AR H := by rw [hHe]; exact hH
  have hS : va_S (gA g) s.heap H locs := by rw [hHe, hlo]; exact hS
  suffices hw : W p l e rmX1_readPairsg s m ([.ref a] : List Value).toArray below meth c H locs 0 0 (MQ below (gQi g (fun (z : Int) (w : gS) => R = w.2.1 ∧ J = w.2.2.1 ∧ AJ = w.2.2.2.2.1 ∧ AR = w.2.2.2.2.2 ∧ (gInv g gh R AR (w.1) (w.2.2.2.1)) ∧ (pS g gh R (w.1) a q ln) ∧ (pF a ln I (w.1)) ∧ (0 ≤ z ∧ z ≤ 4) ∧ (z = (sPairs b n c5 c6 5 0 [] h).1) ∧ (pH gh AR (w.1) J (w.2.2.2.1) AJ a q b n tl nr nt cl (sPairs b n c5 c6 5 0 [] h).2.1) ∧ (((w.1) ln 5).toInt = (I ln 5).toInt ∧ ((w.1) ln 6).toInt = (I ln 6).toInt ∧ ((w.1) ln 3).toInt = (I ln 3).toInt ∧ ((w.1) ln 4).toInt = (I ln 4).toInt ∧ ((w.1) ln 11).toInt = (I ln 11).toInt ∧ ((w.1) ln 12).toInt = (I ln 12).toInt) ∧ (∃ L : List Int, pCn ((w.2.2.2.1) (gh 3 ln)) ((w.1) ln 8).toInt L ∧ pIm z ((sPairs b n c5 c6 5 0 [] h).2.2) (c5 + jC L c6.toNat)) ∧ (∀ b, b ≠ gh 3 ln → (w.2.2.2.1) b = AI b) ∧ (zIf z (((w.1) ln 8).toInt = ((iCnt nxT (spC b n) 5 h : Nat) : Int) ∧ qAll (qPair b n) nxT ((w.2.2.2.1) (gh 3 ln)) h ((w.1) ln 8).toInt)))) ([.ref a] : List Value).toArray s 0 0 (gA g)) (F0 m 0 ls []) by
    rw [hHe, hlo] at hw; exact hw
  clear hHe hlo
  have pf : pF a ln I I := pF_r
  have iX1 : ∀ w ∈ u_ws RX1 TX1 4, w ∈ wsX1_readPairs := (by decide +kernel)
  have iX0 : ∀ w ∈ u_ws RX0 TX0 15, w ∈ wsX1_readPairs := (by decide +kernel)
  have k29 : Cond.fieldLink RX1 29 (TX1 2).1 (TX1 2).2.1 (TX1 2).2.2.1 ∈ wsX1_readPairs := List.mem_of_getElem? (i := 1) rfl
  have k202 : Cond.fieldLink RX1 202 (TX0 9).1 (TX0 9).2.1 (TX0 9).2.2.1 ∈ wsX1_readPairs := List.mem_of_getElem? (i := 2) rfl
  have k205 : Cond.fieldLink RX1 205 (TX0 10).1 (TX0 10).2.1 (TX0 10).2.2.1 ∈ wsX1_readPairs := List.mem_of_getElem? (i := 3) rfl
  refine z_iconst F dX1_readPairs_0 ?_
  refine lv_istore_n (lv' := [(1, .int (iI 0)), (0, .ref a)]) F.1 F.2.1 dX1_readPairs_1 rfl hl (by decide) rfl (fun ls hl => ?_)
  have cut_2_2 : ∀ (NN : Nat) (i : Int) (I_1 : gI) (AI_2 : gI) (H : Heap) (locs : List Loc) (ls : Array Slot), zr i → (gInv g gh R AR I_1 AI_2) → (pS g gh R I_1 a q ln) → (pF a ln I I_1) → ((I_1 ln 0).toInt = 3) → (0 ≤ i ∧ i ≤ 5) → (pH gh AR I_1 J AI_2 AJ a q b n tl nr nt cl (I_1 a 3).toInt.toNat) → (∃ L : List Int, sPairs b n c5 c6 5 0 [] h = sPairs b n c5 c6 (5 - i).toNat i L (I_1 a 3).toInt.toNat ∧ pCn (AI_2 (gh 3 ln)) i L) → ((I_1 ln 8).toInt = i ∧ (I_1 ln 5).toInt = c5 ∧ (I_1 ln 6).toInt = (I ln 6).toInt ∧ (I_1 ln 3).toInt = (I ln 3).toInt ∧ (I_1 ln 4).toInt = (I ln 4).toInt ∧ (I_1 ln 11).toInt = (I ln 11).toInt ∧ (I_1 ln 12).toInt = (I ln 12).toInt) → (∀ b, b ≠ gh 3 ln → AI_2 b = AI b) → (iL nxT (spC b n) 5 h i (I_1 a 3).toInt.toNat) → (qAll (qPair b n) nxT (AI_2 (gh 3 ln)) h i) → (5 - i) < ((NN : Nat) : Int) → gH g I_1 R J AI_2 AJ AR H → va_S (gA g) s.heap H locs → lv_has ls 3 [(1, .int (iI i)), (0, .ref a)] → W p l e rmX1_readPairsg s m ([.ref a] : List Value).toArray below meth c H locs 0 0 (MQ below (gQi g (fun (z : Int) (w : gS) => R = w.2.1 ∧ J = w.2.2.1 ∧ AJ = w.2.2.2.2.1 ∧ AR = w.2.2.2.2.2 ∧ (gInv g gh R AR (w.1) (w.2.2.2.1)) ∧ (pS g gh R (w.1) a q ln) ∧ (pF a ln I (w.1)) ∧ (0 ≤ z ∧ z ≤ 4) ∧ (z = (sPairs b n c5 c6 5 0 [] h).1) ∧ (pH gh AR (w.1) J (w.2.2.2.1) AJ a q b n tl nr nt cl (sPairs b n c5 c6 5 0 [] h).2.1) ∧ (((w.1) ln 5).toInt = (I ln 5).toInt ∧ ((w.1) ln 6).toInt = (I ln 6).toInt ∧ ((w.1) ln 3).toInt = (I ln 3).toInt ∧ ((w.1) ln 4).toInt = (I ln 4).toInt ∧ ((w.1) ln 11).toInt = (I ln 11).toInt ∧ ((w.1) ln 12).toInt = (I ln 12).toInt) ∧ (∃ L : List Int, pCn ((w.2.2.2.1) (gh 3 ln)) ((w.1) ln 8).toInt L ∧ pIm z ((sPairs b n c5 c6 5 0 [] h).2.2) (c5 + jC L c6.toNat)) ∧ (∀ b, b ≠ gh 3 ln → (w.2.2.2.1) b = AI b) ∧ (zIf z (((w.1) ln 8).toInt = ((iCnt nxT (spC b n) 5 h : Nat) : Int) ∧ qAll (qPair b n) nxT ((w.2.2.2.1) (gh 3 ln)) h ((w.1) ln 8).toInt)))) ([.ref a] : List Value).toArray s 0 0 (gA g)) (F0 m 2 ls []) := by
    intro NN2
    induction NN2 with
    | zero =>
      intro i I_1 AI_2 H locs ls zi hv hp pf hk hi hP hLL hk8l fA9 hil hqa hm2 hH hS hl
      exact absurd hm2 (by omega)
    | succ NN2 ih2 =>
      intro i I_1 AI_2 H locs ls zi hv hp pf hk hi hP hLL hk8l fA9 hil hqa hm2 hH hS hl
      obtain ⟨hc, ehc⟩ : ∃ x, x = (I_1 a 3).toInt.toNat := ⟨_, rfl⟩
      rw [← ehc] at hP hLL
      obtain ⟨L, hsq, hcn⟩ := hLL
      rw [← ehc] at hil
      refine lv_iload_n F.1 F.2.1 dX1_readPairs_2 rfl (lv_at hl 0 rfl) ?_
      refine z_iconst F dX1_readPairs_3 ?_
      refine z_icmp_gt (tgt := 61) F dX1_readPairs_4 (by decide) zi ⟨by decide, by decide⟩ (fun c_4 => ?_) (fun c_4 => ?_)
      · refine z_iconst F dX1_readPairs_61 ?_
        have hfin : sPairs b n c5 c6 5 0 [] h = (4, hc, 0) := sPairs_z hsq (by omega)
        exact g_iret F hr hlk hH hS hz ⟨by decide, by decide⟩ ⟨rfl, rfl, rfl, rfl, hv, hp, pf, by first | omega | rfl | (dsimp only; omega), by (try dsimp only); rw [hfin]; first | done | omega | rfl, by (try dsimp only); rw [hfin]; exact hP, by (try dsimp only); omega, by (try dsimp only); first | exact ⟨L, by rw [show (I_1 ln 8).toInt = i by omega]; exact hcn, pIm_n (by omega)⟩ | exact ⟨_, by rw [show (I_1 ln 8).toInt = i + 1 by omega]; exact hcn, by rw [hfin]; exact pIm_y rfl⟩, fun b hb => fA9 b hb, by (try dsimp only); exact zIf_n (by omega)⟩ dX1_readPairs_62
      · refine lv_aload_n F.1 F.2.1 dX1_readPairs_7 rfl (lv_at hl 1 rfl) ?_
        refine z_iconst F dX1_readPairs_8 ?_
        refine g_calli (g_runV (As := [.int (iI 4)]) (rest := []) (ci := 1) F hl.1 hH hS hz (c_X1_readPairg l g gh q ln c5 c6 i b n tl nr nt cl hc I_1 R J AI_2 AJ AR a 4 ⟨by decide, by decide⟩ hv hp hP (by omega) (by omega) (by omega)) (cwV 1 F.2.2.2.2.1 gX1_readPairs_X1_readPair rfl rfl rfl hdX1_readPair ⟨Nat.le_of_ble_eq_true rfl, Nat.le_of_ble_eq_true rfl⟩) hp.1 (by decide) rfl rfl rfl (Nat.le_of_ble_eq_true rfl) dX1_readPairs_9 ⟨Nat.zero_le _, Nat.zero_le _⟩) hS (fun v_11 I_5 R_6 J_7 AI_8 AJ_9 AR_10 H locs zv_11 hp_12 hH hS => ?_)
        dsimp only at hp_12
        obtain ⟨r_13, er_13⟩ : ∃ qQ : pR, qQ = sPair b n c5 c6 i 4 hc := ⟨_, rfl⟩
        rw [← er_13] at hp_12
        obtain ⟨rfl, rfl, rfl, rfl, rfl, hv, hp, pfq, k8q, q_14, q_15, q_16, hP, q_17, q_18, ct9⟩ := hp_12
        have pf := pF_t pf pfq
        have u_19q : (I_5 q 1).toInt = (I_1 q 1).toInt := by rw [pF_q hp pfq]
        have u_19_0 : (I_5 ln 0).toInt = (I_1 ln 0).toInt := by rw [pfq.2]
        have u_19_8 : (I_5 ln 8).toInt = (I_1 ln 8).toInt := by rw [k8q]
        refine lv_istore_n (lv' := [(2, .int (iI v_11)), (1, .int (iI i)), (0, .ref a)]) F.1 F.2.1 dX1_readPairs_12 rfl hl (by decide) rfl (fun ls hl => ?_)
        refine lv_iload_n F.1 F.2.1 dX1_readPairs_13 rfl (lv_at hl 0 rfl) ?_
        refine z_if_eq (tgt := 19) F dX1_readPairs_14 (by decide) zv_11 (fun c_20 => ?_) (fun c_20 => ?_)
        · have t_21 := q_18 (by omega)
          refine lv_aload_n F.1 F.2.1 dX1_readPairs_19 rfl (lv_at hl 2 rfl) ?_
          refine g_getR (ci := 1) (k := 2) F hH rfl (by decide) iX1 hp.1 (by decide) rfl (b := ln) hp.2.2.2.1 k29 dX1_readPairs_20 ?_
          refine lv_aload_n F.1 F.2.1 dX1_readPairs_23 rfl (lv_at hl 2 rfl) ?_
          refine g_getR (ci := 1) (k := 2) F hH rfl (by decide) iX1 hp.1 (by decide) rfl (b := ln) hp.2.2.2.1 k29 dX1_readPairs_24 ?_
          refine g_getI (ci := 0) (k := 9) F hH rfl (by decide) iX0 hp.2.2.2.2.1 (by decide) rfl k202 dX1_readPairs_27 ?_
          have b_22 := gI_line hv hp.2.2.2.2.1
          unfold vLineI at b_22
          refine lv_aload_n F.1 F.2.1 dX1_readPairs_30 rfl (lv_at hl 2 rfl) ?_
          refine g_getR (ci := 1) (k := 2) F hH rfl (by decide) iX1 hp.1 (by decide) rfl (b := ln) hp.2.2.2.1 k29 dX1_readPairs_31 ?_
          refine g_getI (ci := 0) (k := 10) F hH rfl (by decide) iX0 hp.2.2.2.2.1 (by decide) rfl k205 dX1_readPairs_34 ?_
          have hp0 := hp
          have hv0 := hv
          refine g_callv (g_runV (As := [.int (iI ((I_5 ln 9).toInt)), .int (iI ((I_5 ln 10).toInt))]) (rest := []) (ci := 0) F hl.1 hH hS hz (c_X0_addTwog l g gh I_5 R J AI_2 AJ AR ln ((I_5 ln 9).toInt) ((I_5 ln 10).toInt) (zr_t _) (zr_t _) hv hp.2.2.2.2.1 (by omega) (by omega) (by omega) (fun h => by omega)) (cwV 2 F.2.2.2.2.1 gX1_readPairs_X0_addTwo rfl rfl rfl hdX0_addTwo ⟨Nat.le_of_ble_eq_true rfl, Nat.le_of_ble_eq_true rfl⟩) hp.2.2.2.2.1 (by decide) rfl rfl rfl (Nat.le_of_ble_eq_true rfl) dX1_readPairs_37 ⟨Nat.zero_le _, Nat.zero_le _⟩) hS (fun I_23 R_24 J_25 AI_26 AJ_27 AR_28 H locs hp_29 hH hS => ?_)
          dsimp only at hp_29
          obtain ⟨rfl, rfl, rfl, rfl, hv, fI, fA, f0, f8, fk, fz, fw, fv⟩ := hp_29
          have hp := pS_ln hv0 hp fI
          have pf := pF_t pf (pF_o fI f0)
          have u_30q : (I_23 q 1).toInt = (I_5 q 1).toInt := by rw [fI q (gO_ne hp.2.2.1 hp.2.2.2.2.1 (by decide))]
          have u_30_0 : (I_23 ln 0).toInt = (I_5 ln 0).toInt := by rw [f0]
          have hP := pH_ai hv hp.1 hp.2.2.2.2.1 (pH_ln hv0 hp0 hP fI) fA
          have u_31 : (I_23 ln 2).toInt = (I_5 ln 2).toInt := by rw [fk 2 (by decide)]
          have u_32 : (I_23 ln 3).toInt = (I_5 ln 3).toInt := by rw [fk 3 (by decide)]
          have u_33 : (I_23 ln 4).toInt = (I_5 ln 4).toInt := by rw [fk 4 (by decide)]
          have u_34 : (I_23 ln 5).toInt = (I_5 ln 5).toInt := by rw [fk 5 (by decide)]
          have u_35 : (I_23 ln 6).toInt = (I_5 ln 6).toInt := by rw [fk 6 (by decide)]
          have u_36 : (I_23 ln 9).toInt = (I_5 ln 9).toInt := by rw [fk 9 (by decide)]
          have u_37 : (I_23 ln 10).toInt = (I_5 ln 10).toInt := by rw [fk 10 (by decide)]
          have u_38 : (I_23 ln 11).toInt = (I_5 ln 11).toInt := by rw [fk 11 (by decide)]
          have u_39 : (I_23 ln 12).toInt = (I_5 ln 12).toInt := by rw [fk 12 (by decide)]
          have hP : pH gh AR I_23 J AI_26 AJ a q b n tl nr nt cl r_13.2.1 := hP
          have hcn : pCn (AI_26 (gh 3 ln)) (i + 1) (r_13.2.2 :: L) := by rw [show i + 1 = i + 1 from rfl]; exact pCn_s (k := i) hcn (by omega) (by rw [show i = (I_5 ln 8).toInt by omega]; exact fz) (by rw [show i = (I_5 ln 8).toInt by omega, fw]; omega)
          have h9c := ct9 (by omega)
          have hpx := (sPair_h er_13 (by omega)).2
          have hct : qPair b n (AI_26 (gh 3 ln)) i.toNat hc := ⟨by rw [show 2 * i.toNat = (2 * (I_5 ln 8).toInt).toNat by omega, fv]; omega, by rw [show 2 * i.toNat + 1 = (2 * (I_5 ln 8).toInt + 1).toNat by omega, fw]; omega⟩
          have hqa := qAll_s qPair_l hqa hil (fun j hj => fz j (by omega)) hct
          refine lv_aload_n F.1 F.2.1 dX1_readPairs_40 rfl (lv_at hl 2 rfl) ?_
          refine z_bipush F dX1_readPairs_41 (by decide) ?_
          refine g_calli (g_runV (As := [.int (iI 44)]) (rest := []) (ci := 1) F hl.1 hH hS hz (c_X1_isKindg l g gh q b n tl nr nt cl r_13.2.1 I_23 R J AI_26 AJ AR a 44 ⟨by decide, by decide⟩ hv hp.1 (by first | exact hp.2.2.2.2.2.2.2 | exact hh | omega) hP) (cwV 1 F.2.2.2.2.1 gX1_readPairs_X1_isKind rfl rfl rfl hdX1_isKind ⟨Nat.le_of_ble_eq_true rfl, Nat.le_of_ble_eq_true rfl⟩) hp.1 (by decide) rfl rfl rfl (Nat.le_of_ble_eq_true rfl) dX1_readPairs_43 ⟨Nat.zero_le _, Nat.zero_le _⟩) hS (fun v_46 I_40 R_41 J_42 AI_43 AJ_44 AR_45 H locs zv_46 hp_47 hH hS => ?_)
          dsimp only at hp_47
          obtain ⟨rfl, rfl, rfl, rfl, rfl, rfl, q_48, q_49⟩ := hp_47
          refine z_if_ne (tgt := 51) F dX1_readPairs_46 (by decide) zv_46 (fun c_50 => ?_) (fun c_50 => ?_)
          · have t_51 := tIz_1 q_49 (by omega)
            refine lv_aload_n F.1 F.2.1 dX1_readPairs_51 rfl (lv_at hl 2 rfl) ?_
            have hv0 := hv
            refine g_callv (g_runV (As := []) (rest := []) (ci := 1) F hl.1 hH hS hz (c_X1_stepg l g gh q b n tl nr nt cl r_13.2.1 I_23 R J AI_26 AJ AR a hv hp.1 (by first | exact hp.2.2.2.2.2.2.2 | exact hh | omega) hP (by first | exact hp.2.2.1 | exact hq) (by omega)) (cwV 0 F.2.2.2.2.1 gX1_readPairs_X1_step rfl rfl rfl hdX1_step ⟨Nat.le_of_ble_eq_true rfl, Nat.le_of_ble_eq_true rfl⟩) hp.1 (by decide) rfl rfl rfl (Nat.le_of_ble_eq_true rfl) dX1_readPairs_52 ⟨Nat.zero_le _, Nat.zero_le _⟩) hS (fun I_52 R_53 J_54 AI_55 AJ_56 AR_57 H locs hp_58 hH hS => ?_)
            dsimp only at hp_58
            obtain ⟨rfl, rfl, rfl, rfl, rfl, hv, fs, hs, hP⟩ := hp_58
            have hP : pH gh AR I_52 J AI_26 AJ a q b n tl nr nt cl (r_13.2.1 + 1) := hP
            obtain ⟨hp, pfq, fls⟩ := pS_step hv0 hp fs hs
            have pf := pF_t pf pfq
            have u_59q : (I_52 q 1).toInt = (I_23 q 1).toInt := by rw [pF_q hp pfq]
            have u_59_0 : (I_52 ln 0).toInt = (I_23 ln 0).toInt := by rw [fls]
            have u_59_8 : (I_52 ln 8).toInt = (I_23 ln 8).toInt := by rw [fls]
            have u_60 : (I_52 ln 2).toInt = (I_23 ln 2).toInt := by rw [fls]
            have u_61 : (I_52 ln 3).toInt = (I_23 ln 3).toInt := by rw [fls]
            have u_62 : (I_52 ln 4).toInt = (I_23 ln 4).toInt := by rw [fls]
            have u_63 : (I_52 ln 5).toInt = (I_23 ln 5).toInt := by rw [fls]
            have u_64 : (I_52 ln 6).toInt = (I_23 ln 6).toInt := by rw [fls]
            have u_65 : (I_52 ln 9).toInt = (I_23 ln 9).toInt := by rw [fls]
            have u_66 : (I_52 ln 10).toInt = (I_23 ln 10).toInt := by rw [fls]
            have u_67 : (I_52 ln 11).toInt = (I_23 ln 11).toInt := by rw [fls]
            have u_68 : (I_52 ln 12).toInt = (I_23 ln 12).toInt := by rw [fls]
            have hsq := sPairs_go hsq (f := (4 - i).toNat) (by omega) er_13 (by omega) (by omega)
            have hnx := (sPair_h er_13 (by omega)).1
            have hil := iL_go hil (by omega) hnx (by unfold spC; exact decide_eq_true (by omega))
            refine z_iinc (lv' := [(1, .int (iI (i + 1))), (2, .int (iI v_11)), (0, .ref a)]) F dX1_readPairs_55 hl (k := 1) rfl (by decide) rfl (fun ls hl => ?_)
            refine z_goto (tgt := 2) F dX1_readPairs_58 (by decide) ?_
            exact ih2 (i + 1) I_52 AI_26 H locs ls ⟨by omega, by omega⟩ hv hp pf (by omega) (by omega) (by rw [pH_n hP]; exact hP) ⟨r_13.2.2 :: L, by rw [pH_n hP, show (5 - (i + 1)).toNat = (4 - i).toNat by omega]; exact hsq, hcn⟩ (by omega) (fun b hb => (fA b hb).trans (fA9 b hb)) (by rw [pH_n hP]; exact hil) hqa (by omega) hH hS (lv_sub hl [0, 2] rfl)
          · have t_69 := tIz_0 q_49 (by omega)
            refine z_iconst F dX1_readPairs_49 ?_
            have hfin : sPairs b n c5 c6 5 0 [] h = (0, r_13.2.1, c5 + jC (r_13.2.2 :: L) c6.toNat) := sPairs_st hsq (f := (4 - i).toNat) (by omega) er_13 (by omega) (by omega)
            have hnx := (sPair_h er_13 (by omega)).1
            have hcnt := iL_st hil (by omega) hnx (by unfold spC; exact fun e9 => absurd (of_decide_eq_true e9) (by omega))
            exact g_iret F hr hlk hH hS hz ⟨by decide, by decide⟩ ⟨rfl, rfl, rfl, rfl, hv, hp, pf, by first | omega | rfl | (dsimp only; omega), by (try dsimp only); rw [hfin]; first | done | omega | rfl, by (try dsimp only); rw [hfin]; exact hP, by (try dsimp only); omega, by (try dsimp only); first | exact ⟨L, by rw [show (I_23 ln 8).toInt = i by omega]; exact hcn, pIm_n (by omega)⟩ | exact ⟨_, by rw [show (I_23 ln 8).toInt = i + 1 by omega]; exact hcn, by rw [hfin]; exact pIm_y rfl⟩, fun b hb => (fA b hb).trans (fA9 b hb), by (try dsimp only); exact zIf_y ⟨by omega, by rw [show (I_23 ln 8).toInt = i + 1 by omega]; exact hqa⟩⟩ dX1_readPairs_50
        · refine lv_iload_n F.1 F.2.1 dX1_readPairs_17 rfl (lv_at hl 0 rfl) ?_
          have hfin : sPairs b n c5 c6 5 0 [] h = r_13 := sPairs_no hsq (f := (4 - i).toNat) (by omega) er_13 (by omega)
          exact g_iret F hr hlk hH hS hz zv_11 ⟨rfl, rfl, rfl, rfl, hv, hp, pf, by first | omega | rfl | (dsimp only; omega), by (try dsimp only); rw [hfin]; first | done | omega | rfl, by (try dsimp only); rw [hfin]; exact hP, by (try dsimp only); omega, by (try dsimp only); first | exact ⟨L, by rw [show (I_5 ln 8).toInt = i by omega]; exact hcn, pIm_n (by omega)⟩ | exact ⟨_, by rw [show (I_5 ln 8).toInt = i + 1 by omega]; exact hcn, by rw [hfin]; exact pIm_y rfl⟩, fun b hb => fA9 b hb, by (try dsimp only); exact zIf_n (by omega)⟩ dX1_readPairs_18
  exact cut_2_2 (((5 - 0) + 1 : Int).toNat) 0 I AI H locs ls ⟨by decide, by decide⟩ hv hp pf (by omega) (by omega) (by rw [pH_n hP]; exact hP) ⟨[], by rw [pH_n hP]; rfl, pCn_0 (by omega)⟩ (by omega) (fun _ _ => rfl) (by rw [pH_n hP]; exact iL_0) (qAll_0 (by omega)) (by omega) hH hS (lv_sub hl [0, 1] rfl)

def rmX1_readByColumng : Room := { frames := 2, cells := 0, slots := 0, locals := 42 }
set_option maxHeartbeats 4000000 in
set_option maxRecDepth 100000 in
/-- a column of a group -/
theorem c_X1_readByColumng (l : Launch) (g : gG) (gh : gGh) (q ln : Nat) (c5 k8 : Int) (L : List Int) (b : tTx) (n : Nat) (tl : Int) (nr : Nat) (nt : Nat → Nat) (cl : Nat → Int) (h : Nat) (I : gI) (R : gR) (J : gJ) (AI : gI) (AJ : gJ) (AR : gR) (a : Nat) (hv : gInv g gh R AR I AI) (hp : pS g gh R I a q ln) (hk : (I ln 0).toInt = 7) (hP : pH gh AR I J AI AJ a q b n tl nr nt cl h) (hc5 : (I ln 5).toInt = c5) (hk8 : (I ln 8).toInt = k8) (hcn : pBn (AI (gh 3 ln)) k8 L) : gMet l g yX1_readByColumn wsX1_readByColumn rmX1_readByColumng [.ref a] (I, R, J, AI, AJ, AR) (gQi g (fun (z : Int) (w : gS) => R = w.2.1 ∧ J = w.2.2.1 ∧ AJ = w.2.2.2.2.1 ∧ AR = w.2.2.2.2.2 ∧ (gInv g gh R AR (w.1) (w.2.2.2.1)) ∧ (pS g gh R (w.1) a q ln) ∧ (pF a ln I (w.1)) ∧ (0 ≤ z ∧ z ≤ 4) ∧ (z = (sBy b n c5 k8 L h).1) ∧ (pH gh AR (w.1) J (w.2.2.2.1) AJ a q b n tl nr nt cl (sBy b n c5 k8 L h).2.1) ∧ (((w.1) ln 5).toInt = (I ln 5).toInt ∧ ((w.1) ln 6).toInt = (I ln 6).toInt ∧ ((w.1) ln 3).toInt = (I ln 3).toInt ∧ ((w.1) ln 4).toInt = (I ln 4).toInt ∧ ((w.1) ln 9).toInt = (I ln 9).toInt ∧ ((w.1) ln 10).toInt = (I ln 10).toInt ∧ ((w.1) ln 11).toInt = (I ln 11).toInt ∧ ((w.1) ln 12).toInt = (I ln 12).toInt) ∧ (pIm z (((w.1) ln 8).toInt) (k8 + 1)) ∧ (z ≠ 0 ∨ pBn ((w.2.2.2.1) (gh 3 ln)) (k8 + 1) ((sBy b n c5 k8 L h).2.2 :: L)) ∧ (z = 0 ∨ (w.2.2.2.1) (gh 3 ln) = AI (gh 3 ln) ∧ ((w.1) ln 8).toInt = k8) ∧ (∀ b, b ≠ gh 3 ln → (w.2.2.2.1) b = AI b) ∧ (zIf z (qBy b n ((w.2.2.2.1) (gh 3 ln)) k8.toNat h)) ∧ (∀ j : Nat, (j : Int) < 1 * k8 → (w.2.2.2.1) (gh 3 ln) j = AI (gh 3 ln) j))) := by
  refine gStart (cc := cX1_readByColumn) (maxL := 3) (ret := (some (.int))) (by decide) rfl (Nat.le_of_ble_eq_true rfl) ?_
  intro p e s m below meth c ls F hr hlk hH hz hS hl
  have hl : lv_has ls 3 [(0, .ref a)] := hl
  have hS : va_S (gA g) s.heap s.heap [] := hS
  obtain ⟨H, hHe⟩ : ∃ H : Heap, H = s.heap := ⟨_, rfl⟩
  obtain ⟨locs, hlo⟩ : ∃ k : List Loc, k = [] := ⟨_, rfl⟩
  have hH : gH g I R J AI AJ AR H := by rw [hHe]; exact hH
  have hS : va_S (gA g) s.heap H locs := by rw [hHe, hlo]; exact hS
  suffices hw : W p l e rmX1_readByColumng s m ([.ref a] : List Value).toArray below meth c H locs 0 0 (MQ below (gQi g (fun (z : Int) (w : gS) => R = w.2.1 ∧ J = w.2.2.1 ∧ AJ = w.2.2.2.2.1 ∧ AR = w.2.2.2.2.2 ∧ (gInv g gh R AR (w.1) (w.2.2.2.1)) ∧ (pS g gh R (w.1) a q ln) ∧ (pF a ln I (w.1)) ∧ (0 ≤ z ∧ z ≤ 4) ∧ (z = (sBy b n c5 k8 L h).1) ∧ (pH gh AR (w.1) J (w.2.2.2.1) AJ a q b n tl nr nt cl (sBy b n c5 k8 L h).2.1) ∧ (((w.1) ln 5).toInt = (I ln 5).toInt ∧ ((w.1) ln 6).toInt = (I ln 6).toInt ∧ ((w.1) ln 3).toInt = (I ln 3).toInt ∧ ((w.1) ln 4).toInt = (I ln 4).toInt ∧ ((w.1) ln 9).toInt = (I ln 9).toInt ∧ ((w.1) ln 10).toInt = (I ln 10).toInt ∧ ((w.1) ln 11).toInt = (I ln 11).toInt ∧ ((w.1) ln 12).toInt = (I ln 12).toInt) ∧ (pIm z (((w.1) ln 8).toInt) (k8 + 1)) ∧ (z ≠ 0 ∨ pBn ((w.2.2.2.1) (gh 3 ln)) (k8 + 1) ((sBy b n c5 k8 L h).2.2 :: L)) ∧ (z = 0 ∨ (w.2.2.2.1) (gh 3 ln) = AI (gh 3 ln) ∧ ((w.1) ln 8).toInt = k8) ∧ (∀ b, b ≠ gh 3 ln → (w.2.2.2.1) b = AI b) ∧ (zIf z (qBy b n ((w.2.2.2.1) (gh 3 ln)) k8.toNat h)) ∧ (∀ j : Nat, (j : Int) < 1 * k8 → (w.2.2.2.1) (gh 3 ln) j = AI (gh 3 ln) j))) ([.ref a] : List Value).toArray s 0 0 (gA g)) (F0 m 0 ls []) by
    rw [hHe, hlo] at hw; exact hw
  clear hHe hlo
  have pf : pF a ln I I := pF_r
  have iX5 : ∀ w ∈ u_ws RX5 TX5 5, w ∈ wsX1_readByColumn := (by decide +kernel)
  have iX1 : ∀ w ∈ u_ws RX1 TX1 4, w ∈ wsX1_readByColumn := (by decide +kernel)
  have iX0 : ∀ w ∈ u_ws RX0 TX0 15, w ∈ wsX1_readByColumn := (by decide +kernel)
  have k29 : Cond.fieldLink RX1 29 (TX1 2).1 (TX1 2).2.1 (TX1 2).2.2.1 ∈ wsX1_readByColumn := List.mem_of_getElem? (i := 1) rfl
  have k143 : Cond.fieldLink RX1 143 (TX0 5).1 (TX0 5).2.1 (TX0 5).2.2.1 ∈ wsX1_readByColumn := List.mem_of_getElem? (i := 2) rfl
  have k12 : Cond.fieldLink RX1 12 (TX1 0).1 (TX1 0).2.1 (TX1 0).2.2.1 ∈ wsX1_readByColumn := List.mem_of_getElem? (i := 3) rfl
  have k71 : Cond.fieldLink RX1 71 (TX5 2).1 (TX5 2).2.1 (TX5 2).2.2.1 ∈ wsX1_readByColumn := List.mem_of_getElem? (i := 4) rfl
  have k44 : Cond.fieldLink RX1 44 (TX1 3).1 (TX1 3).2.1 (TX1 3).2.2.1 ∈ wsX1_readByColumn := List.mem_of_getElem? (i := 5) rfl
  have k149 : Cond.fieldLink RX1 149 (TX0 8).1 (TX0 8).2.1 (TX0 8).2.2.1 ∈ wsX1_readByColumn := List.mem_of_getElem? (i := 6) rfl
  refine lv_aload_n F.1 F.2.1 dX1_readByColumn_0 rfl (lv_at hl 0 rfl) ?_
  refine lv_aload_n F.1 F.2.1 dX1_readByColumn_1 rfl (lv_at hl 0 rfl) ?_
  refine g_getR (ci := 1) (k := 2) F hH rfl (by decide) iX1 hp.1 (by decide) rfl (b := ln) hp.2.2.2.1 k29 dX1_readByColumn_2 ?_
  refine g_getI (ci := 0) (k := 5) F hH rfl (by decide) iX0 hp.2.2.2.2.1 (by decide) rfl k143 dX1_readByColumn_5 ?_
  have b_1 := gI_line hv hp.2.2.2.2.1
  unfold vLineI at b_1
  refine g_calli (g_runV (As := [.int (iI ((I ln 5).toInt))]) (rest := []) (ci := 1) F hl.1 hH hS hz (c_X1_seeColumng l g gh q b n tl nr nt cl h I R J AI AJ AR a ((I ln 5).toInt) (zr_t _) hv hp.1 (by first | exact hp.2.2.2.2.2.2.2 | exact hh | omega) hP) (cwV 1 F.2.2.2.2.1 gX1_readByColumn_X1_seeColumn rfl rfl rfl hdX1_seeColumn ⟨Nat.le_of_ble_eq_true rfl, Nat.le_of_ble_eq_true rfl⟩) hp.1 (by decide) rfl rfl rfl (Nat.le_of_ble_eq_true rfl) dX1_readByColumn_8 ⟨Nat.zero_le _, Nat.zero_le _⟩) hS (fun v_8 I_2 R_3 J_4 AI_5 AJ_6 AR_7 H locs zv_8 hp_9 hH hS => ?_)
  dsimp only at hp_9
  rw [show (I ln 5).toInt = c5 by omega] at hp_9
  obtain ⟨rfl, rfl, rfl, rfl, rfl, rfl, s1, s2, s3⟩ := hp_9
  refine lv_istore_n (lv' := [(1, .int (iI v_8)), (0, .ref a)]) F.1 F.2.1 dX1_readByColumn_11 rfl hl (by decide) rfl (fun ls hl => ?_)
  refine lv_iload_n F.1 F.2.1 dX1_readByColumn_12 rfl (lv_at hl 0 rfl) ?_
  refine z_if_eq (tgt := 18) F dX1_readByColumn_13 (by decide) zv_8 (fun c_10 => ?_) (fun c_10 => ?_)
  · have t_11 := pCf_0 (b := b) (n := n) (c := c5) (h := h) (by omega)
    refine lv_aload_n F.1 F.2.1 dX1_readByColumn_18 rfl (lv_at hl 1 rfl) ?_
    refine g_getR (ci := 1) (k := 0) F hH rfl (by decide) iX1 hp.1 (by decide) rfl (b := gh 22 0) (gR_pr0 hv hp.1).1 k12 dX1_readByColumn_19 ?_
    obtain ⟨r_12a, r_12b⟩ := gR_tk2 hv (gR_pr0 hv hp.1).2
    refine g_getR (ci := 5) (k := 2) F hH rfl (by decide) iX5 (gR_pr0 hv hp.1).2 (by decide) rfl (b := gh 26 0) r_12a k71 dX1_readByColumn_22 ?_
    refine lv_aload_n F.1 F.2.1 dX1_readByColumn_25 rfl (lv_at hl 1 rfl) ?_
    refine g_getI (ci := 1) (k := 3) F hH rfl (by decide) iX1 hp.1 (by decide) rfl k44 dX1_readByColumn_26 ?_
    have b_13h := hp.2.2.2.2.2.2.2
    have b_13 := gI_pr hv hp.1
    have b_13t := gI_tk hv (gR_pr0 hv hp.1).2
    have hx29 : 0 ≤ ((I a 3).toInt) ∧ ((I a 3).toInt) < ((901 : Nat) : Int) ∧ ((I a 3).toInt) ≤ 2147483647 := ⟨by omega, by omega, by omega⟩
    refine g_iald F hH r_12b hx29.1 hx29.2.1 hx29.2.2 dX1_readByColumn_29 ?_
    refine z_name (fun v_14 ev_14 => ?_)
    have zv_14 : zr v_14 := by rw [ev_14]; exact zr_t _
    have t29 : v_14 = pV b n (h) := by rw [ev_14]; exact pH_V hP
    refine lv_istore_n (lv' := [(2, .int (iI v_14)), (1, .int (iI v_8)), (0, .ref a)]) F.1 F.2.1 dX1_readByColumn_30 rfl hl (by decide) rfl (fun ls hl => ?_)
    refine lv_aload_n F.1 F.2.1 dX1_readByColumn_31 rfl (lv_at hl 2 rfl) ?_
    refine g_getR (ci := 1) (k := 2) F hH rfl (by decide) iX1 hp.1 (by decide) rfl (b := ln) hp.2.2.2.1 k29 dX1_readByColumn_32 ?_
    refine lv_iload_n F.1 F.2.1 dX1_readByColumn_35 rfl (lv_at hl 0 rfl) ?_
    refine g_calli (g_runV (As := [.int (iI v_14)]) (rest := []) (ci := 0) F hl.1 hH hS hz (c_X0_hasColumng l g gh I R J AI AJ AR ln v_14 zv_14 hv hp.2.2.2.2.1) (cwV 1 F.2.2.2.2.1 gX1_readByColumn_X0_hasColumn rfl rfl rfl hdX0_hasColumn ⟨Nat.le_of_ble_eq_true rfl, Nat.le_of_ble_eq_true rfl⟩) hp.2.2.2.2.1 (by decide) rfl rfl rfl (Nat.le_of_ble_eq_true rfl) dX1_readByColumn_36 ⟨Nat.zero_le _, Nat.zero_le _⟩) hS (fun v_21 I_15 R_16 J_17 AI_18 AJ_19 AR_20 H locs zv_21 hp_22 hH hS => ?_)
    dsimp only at hp_22
    obtain ⟨rfl, rfl, rfl, rfl, rfl, rfl, q_23, q36⟩ := hp_22
    refine z_if_eq (tgt := 44) F dX1_readByColumn_39 (by decide) zv_21 (fun c_24 => ?_) (fun c_24 => ?_)
    · have t_25 := tIz_0 q36 (by omega)
      have hmem : ¬ pV b n h ∈ L := fun hh => tIz_0 q36 (by omega) (by rw [hk8, t29]; exact (hcn _).mpr hh)
      refine lv_aload_n F.1 F.2.1 dX1_readByColumn_44 rfl (lv_at hl 2 rfl) ?_
      refine g_getR (ci := 1) (k := 2) F hH rfl (by decide) iX1 hp.1 (by decide) rfl (b := ln) hp.2.2.2.1 k29 dX1_readByColumn_45 ?_
      refine g_getI (ci := 0) (k := 8) F hH rfl (by decide) iX0 hp.2.2.2.2.1 (by decide) rfl k149 dX1_readByColumn_48 ?_
      refine z_iconst F dX1_readByColumn_51 ?_
      refine z_icmp_lt (tgt := 57) F dX1_readByColumn_52 (by decide) (zr_t _) ⟨by decide, by decide⟩ (fun c_26 => ?_) (fun c_26 => ?_)
      · refine lv_aload_n F.1 F.2.1 dX1_readByColumn_57 rfl (lv_at hl 2 rfl) ?_
        refine g_getR (ci := 1) (k := 2) F hH rfl (by decide) iX1 hp.1 (by decide) rfl (b := ln) hp.2.2.2.1 k29 dX1_readByColumn_58 ?_
        refine lv_iload_n F.1 F.2.1 dX1_readByColumn_61 rfl (lv_at hl 0 rfl) ?_
        have hp0 := hp
        have hv0 := hv
        refine g_callv (g_runV (As := [.int (iI v_14)]) (rest := []) (ci := 0) F hl.1 hH hS hz (c_X0_addColumng l g gh I R J AI AJ AR ln v_14 zv_14 hv hp.2.2.2.2.1 (by omega) (by omega) (by omega)) (cwV 1 F.2.2.2.2.1 gX1_readByColumn_X0_addColumn rfl rfl rfl hdX0_addColumn ⟨Nat.le_of_ble_eq_true rfl, Nat.le_of_ble_eq_true rfl⟩) hp.2.2.2.2.1 (by decide) rfl rfl rfl (Nat.le_of_ble_eq_true rfl) dX1_readByColumn_62 ⟨Nat.zero_le _, Nat.zero_le _⟩) hS (fun I_27 R_28 J_29 AI_30 AJ_31 AR_32 H locs hp_33 hH hS => ?_)
        dsimp only at hp_33
        obtain ⟨rfl, rfl, rfl, rfl, hv, fI, fA, f0, f8, fk, fz, fw⟩ := hp_33
        have hp := pS_ln hv0 hp fI
        have pf := pF_t pf (pF_o fI f0)
        have u_34q : (I_27 q 1).toInt = (I q 1).toInt := by rw [fI q (gO_ne hp.2.2.1 hp.2.2.2.2.1 (by decide))]
        have u_34_0 : (I_27 ln 0).toInt = (I ln 0).toInt := by rw [f0]
        have hP := pH_ai hv hp.1 hp.2.2.2.2.1 (pH_ln hv0 hp0 hP fI) fA
        have u_35 : (I_27 ln 2).toInt = (I ln 2).toInt := by rw [fk 2 (by decide)]
        have u_36 : (I_27 ln 3).toInt = (I ln 3).toInt := by rw [fk 3 (by decide)]
        have u_37 : (I_27 ln 4).toInt = (I ln 4).toInt := by rw [fk 4 (by decide)]
        have u_38 : (I_27 ln 5).toInt = (I ln 5).toInt := by rw [fk 5 (by decide)]
        have u_39 : (I_27 ln 6).toInt = (I ln 6).toInt := by rw [fk 6 (by decide)]
        have u_40 : (I_27 ln 9).toInt = (I ln 9).toInt := by rw [fk 9 (by decide)]
        have u_41 : (I_27 ln 10).toInt = (I ln 10).toInt := by rw [fk 10 (by decide)]
        have u_42 : (I_27 ln 11).toInt = (I ln 11).toInt := by rw [fk 11 (by decide)]
        have u_43 : (I_27 ln 12).toInt = (I ln 12).toInt := by rw [fk 12 (by decide)]
        have hP : pH gh AR I_27 J AI_30 AJ a q b n tl nr nt cl h := hP
        have hcn : pBn (AI_30 (gh 3 ln)) (k8 + 1) (pV b n h :: L) := pBn_s (k := k8) hcn (by omega) (by rw [show k8 = (I ln 8).toInt by omega]; exact fz) (by rw [show k8 = (I ln 8).toInt by omega, fw]; omega)
        have hct : qBy b n (AI_30 (gh 3 ln)) k8.toNat h := by unfold qBy; rw [show k8.toNat = (I ln 8).toInt.toNat by omega, fw]; omega
        have hfz : ∀ j : Nat, (j : Int) < 1 * k8 → AI_30 (gh 3 ln) j = AI (gh 3 ln) j := fun j hj => fz j (by omega)
        refine lv_aload_n F.1 F.2.1 dX1_readByColumn_65 rfl (lv_at hl 2 rfl) ?_
        have hv0 := hv
        refine g_callv (g_runV (As := []) (rest := []) (ci := 1) F hl.1 hH hS hz (c_X1_stepg l g gh q b n tl nr nt cl h I_27 R J AI_30 AJ AR a hv hp.1 (by first | exact hp.2.2.2.2.2.2.2 | exact hh | omega) hP (by first | exact hp.2.2.1 | exact hq) (by omega)) (cwV 0 F.2.2.2.2.1 gX1_readByColumn_X1_step rfl rfl rfl hdX1_step ⟨Nat.le_of_ble_eq_true rfl, Nat.le_of_ble_eq_true rfl⟩) hp.1 (by decide) rfl rfl rfl (Nat.le_of_ble_eq_true rfl) dX1_readByColumn_66 ⟨Nat.zero_le _, Nat.zero_le _⟩) hS (fun I_44 R_45 J_46 AI_47 AJ_48 AR_49 H locs hp_50 hH hS => ?_)
        dsimp only at hp_50
        obtain ⟨rfl, rfl, rfl, rfl, rfl, hv, fs, hs, hP⟩ := hp_50
        have hP : pH gh AR I_44 J AI_30 AJ a q b n tl nr nt cl (h + 1) := hP
        obtain ⟨hp, pfq, fls⟩ := pS_step hv0 hp fs hs
        have pf := pF_t pf pfq
        have u_51q : (I_44 q 1).toInt = (I_27 q 1).toInt := by rw [pF_q hp pfq]
        have u_51_0 : (I_44 ln 0).toInt = (I_27 ln 0).toInt := by rw [fls]
        have u_51_8 : (I_44 ln 8).toInt = (I_27 ln 8).toInt := by rw [fls]
        have u_52 : (I_44 ln 2).toInt = (I_27 ln 2).toInt := by rw [fls]
        have u_53 : (I_44 ln 3).toInt = (I_27 ln 3).toInt := by rw [fls]
        have u_54 : (I_44 ln 4).toInt = (I_27 ln 4).toInt := by rw [fls]
        have u_55 : (I_44 ln 5).toInt = (I_27 ln 5).toInt := by rw [fls]
        have u_56 : (I_44 ln 6).toInt = (I_27 ln 6).toInt := by rw [fls]
        have u_57 : (I_44 ln 9).toInt = (I_27 ln 9).toInt := by rw [fls]
        have u_58 : (I_44 ln 10).toInt = (I_27 ln 10).toInt := by rw [fls]
        have u_59 : (I_44 ln 11).toInt = (I_27 ln 11).toInt := by rw [fls]
        have u_60 : (I_44 ln 12).toInt = (I_27 ln 12).toInt := by rw [fls]
        refine z_iconst F dX1_readByColumn_69 ?_
        have hfin : sBy b n c5 k8 L h = (0, h + 1, pV b n h) := by
          unfold sBy
          repeat (first | with_reducible rfl | refine ite_y (by omega) ?_ | refine ite_n (by omega) ?_ | refine ite_y hmem ?_ | refine ite_n hmem ?_ | exact pr_e (by omega) (by omega) (by omega))
        exact g_iret F hr hlk hH hS hz ⟨by decide, by decide⟩ ⟨rfl, rfl, rfl, rfl, hv, hp, pf, by first | omega | rfl | (dsimp only; omega), by (try dsimp only); rw [hfin]; first | done | omega | rfl, by (try dsimp only); rw [hfin]; exact hP, by (try dsimp only); omega, by (try dsimp only); first | exact pIm_n (by omega) | (rw [hfin]; (try dsimp only); exact pIm_y (by first | omega | rfl)) | exact pIm_y (by omega), by (try dsimp only); first | exact Or.inl (by omega) | exact Or.inr (by rw [hfin]; exact hcn), by (try dsimp only); first | exact Or.inl (by omega) | exact Or.inr ⟨rfl, by omega⟩, fun b hb => fA b hb, by (try dsimp only); first | exact zIf_n (by omega) | exact zIf_y hct, by (try dsimp only); first | exact hfz | exact (fun _ _ => rfl)⟩ dX1_readByColumn_70
      · refine z_iconst F dX1_readByColumn_55 ?_
        have hfin : sBy b n c5 k8 L h = (4, h, 0) := by
          unfold sBy
          repeat (first | with_reducible rfl | refine ite_y (by omega) ?_ | refine ite_n (by omega) ?_ | refine ite_y hmem ?_ | refine ite_n hmem ?_ | exact pr_e (by omega) (by omega) (by omega))
        exact g_iret F hr hlk hH hS hz ⟨by decide, by decide⟩ ⟨rfl, rfl, rfl, rfl, hv, hp, pf, by first | omega | rfl | (dsimp only; omega), by (try dsimp only); rw [hfin]; first | done | omega | rfl, by (try dsimp only); rw [hfin]; exact hP, by (try dsimp only); omega, by (try dsimp only); first | exact pIm_n (by omega) | (rw [hfin]; (try dsimp only); exact pIm_y (by first | omega | rfl)) | exact pIm_y (by omega), by (try dsimp only); first | exact Or.inl (by omega) | exact Or.inr (by rw [hfin]; exact hcn), by (try dsimp only); first | exact Or.inl (by omega) | exact Or.inr ⟨rfl, by omega⟩, fun _ _ => rfl, by (try dsimp only); first | exact zIf_n (by omega) | exact zIf_y hct, by (try dsimp only); first | exact hfz | exact (fun _ _ => rfl)⟩ dX1_readByColumn_56
    · have t_61 := tIz_1 q36 (by omega)
      have hmem : pV b n h ∈ L := (hcn _).mp (by rw [← hk8, ← t29]; exact tIz_1 q36 (by omega))
      refine z_iconst F dX1_readByColumn_42 ?_
      have hfin : sBy b n c5 k8 L h = (2, h, 0) := by
        unfold sBy
        repeat (first | with_reducible rfl | refine ite_y (by omega) ?_ | refine ite_n (by omega) ?_ | refine ite_y hmem ?_ | refine ite_n hmem ?_ | exact pr_e (by omega) (by omega) (by omega))
      exact g_iret F hr hlk hH hS hz ⟨by decide, by decide⟩ ⟨rfl, rfl, rfl, rfl, hv, hp, pf, by first | omega | rfl | (dsimp only; omega), by (try dsimp only); rw [hfin]; first | done | omega | rfl, by (try dsimp only); rw [hfin]; exact hP, by (try dsimp only); omega, by (try dsimp only); first | exact pIm_n (by omega) | (rw [hfin]; (try dsimp only); exact pIm_y (by first | omega | rfl)) | exact pIm_y (by omega), by (try dsimp only); first | exact Or.inl (by omega) | exact Or.inr (by rw [hfin]; exact hcn), by (try dsimp only); first | exact Or.inl (by omega) | exact Or.inr ⟨rfl, by omega⟩, fun _ _ => rfl, by (try dsimp only); first | exact zIf_n (by omega) | exact zIf_y hct, by (try dsimp only); first | exact hfz | exact (fun _ _ => rfl)⟩ dX1_readByColumn_43
  · refine lv_iload_n F.1 F.2.1 dX1_readByColumn_16 rfl (lv_at hl 0 rfl) ?_
    have hfin : sBy b n c5 k8 L h = (v_8, h, 0) := by
      unfold sBy
      repeat (first | with_reducible rfl | refine ite_y (by omega) ?_ | refine ite_n (by omega) ?_ | refine ite_y hmem ?_ | refine ite_n hmem ?_ | exact pr_e (by omega) (by omega) (by omega))
    exact g_iret F hr hlk hH hS hz zv_8 ⟨rfl, rfl, rfl, rfl, hv, hp, pf, by first | omega | rfl | (dsimp only; omega), by (try dsimp only); rw [hfin]; first | done | omega | rfl, by (try dsimp only); rw [hfin]; exact hP, by (try dsimp only); omega, by (try dsimp only); first | exact pIm_n (by omega) | (rw [hfin]; (try dsimp only); exact pIm_y (by first | omega | rfl)) | exact pIm_y (by omega), by (try dsimp only); first | exact Or.inl (by omega) | exact Or.inr (by rw [hfin]; exact hcn), by (try dsimp only); first | exact Or.inl (by omega) | exact Or.inr ⟨rfl, by omega⟩, fun _ _ => rfl, by (try dsimp only); first | exact zIf_n (by omega) | exact zIf_y hct, by (try dsimp only); first | exact hfz | exact (fun _ _ => rfl)⟩ dX1_readByColumn_17

def rmX1_readByColumnsg : Room := { frames := 3, cells := 0, slots := 0, locals := 64 }
set_option maxHeartbeats 4000000 in
set_option maxRecDepth 100000 in
/-- the columns of a group -/
theorem c_X1_readByColumnsg (l : Launch) (g : gG) (gh : gGh) (q ln : Nat) (c5 : Int) (b : tTx) (n : Nat) (tl : Int) (nr : Nat) (nt : Nat → Nat) (cl : Nat → Int) (h : Nat) (I : gI) (R : gR) (J : gJ) (AI : gI) (AJ : gJ) (AR : gR) (a : Nat) (hv : gInv g gh R AR I AI) (hp : pS g gh R I a q ln) (hk : (I ln 0).toInt = 7) (hP : pH gh AR I J AI AJ a q b n tl nr nt cl h) (hc5 : (I ln 5).toInt = c5) (hk8 : (I ln 8).toInt = 0) : gMet l g yX1_readByColumns wsX1_readByColumns rmX1_readByColumnsg [.ref a] (I, R, J, AI, AJ, AR) (gQi g (fun (z : Int) (w : gS) => R = w.2.1 ∧ J = w.2.2.1 ∧ AJ = w.2.2.2.2.1 ∧ AR = w.2.2.2.2.2 ∧ (gInv g gh R AR (w.1) (w.2.2.2.1)) ∧ (pS g gh R (w.1) a q ln) ∧ (pF a ln I (w.1)) ∧ (0 ≤ z ∧ z ≤ 4) ∧ (z = (sBys b n c5 4 0 [] h).1) ∧ (pH gh AR (w.1) J (w.2.2.2.1) AJ a q b n tl nr nt cl (sBys b n c5 4 0 [] h).2.1) ∧ (((w.1) ln 5).toInt = (I ln 5).toInt ∧ ((w.1) ln 6).toInt = (I ln 6).toInt ∧ ((w.1) ln 3).toInt = (I ln 3).toInt ∧ ((w.1) ln 4).toInt = (I ln 4).toInt ∧ ((w.1) ln 9).toInt = (I ln 9).toInt ∧ ((w.1) ln 10).toInt = (I ln 10).toInt ∧ ((w.1) ln 11).toInt = (I ln 11).toInt ∧ ((w.1) ln 12).toInt = (I ln 12).toInt) ∧ (pIm z (((w.1) ln 8).toInt) ((sBys b n c5 4 0 [] h).2.2)) ∧ (True) ∧ (∀ b, b ≠ gh 3 ln → (w.2.2.2.1) b = AI b) ∧ (zIf z (((w.1) ln 8).toInt = ((iCnt nxB (spC b n) 4 h : Nat) : Int) ∧ qAll (qBy b n) nxB ((w.2.2.2.1) (gh 3 ln)) h ((w.1) ln 8).toInt)) ∧ (zIf z ((sBys b n c5 4 0 [] h).2.1 = nxB (iPos nxB h (((w.1) ln 8).toInt.toNat - 1)) ∧ 1 ≤ ((w.1) ln 8).toInt)))) := by
  refine gStart (cc := cX1_readByColumns) (maxL := 3) (ret := (some (.int))) (by decide) rfl (Nat.le_of_ble_eq_true rfl) ?_
  intro p e s m below meth c ls F hr hlk hH hz hS hl
  have hl : lv_has ls 3 [(0, .ref a)] := hl
  have hS : va_S (gA g) s.heap s.heap [] := hS
  obtain ⟨H, hHe⟩ : ∃ H : Heap, H = s.heap := ⟨_, rfl⟩
  obtain ⟨locs, hlo⟩ : ∃ k : List Loc, k = [] := ⟨_, rfl⟩
  have hH : gH g I R J AI AJ AR H := by rw [hHe]; exact hH
  have hS : va_S (gA g) s.heap H locs := by rw [hHe, hlo]; exact hS
  suffices hw : W p l e rmX1_readByColumnsg s m ([.ref a] : List Value).toArray below meth c H locs 0 0 (MQ below (gQi g (fun (z : Int) (w : gS) => R = w.2.1 ∧ J = w.2.2.1 ∧ AJ = w.2.2.2.2.1 ∧ AR = w.2.2.2.2.2 ∧ (gInv g gh R AR (w.1) (w.2.2.2.1)) ∧ (pS g gh R (w.1) a q ln) ∧ (pF a ln I (w.1)) ∧ (0 ≤ z ∧ z ≤ 4) ∧ (z = (sBys b n c5 4 0 [] h).1) ∧ (pH gh AR (w.1) J (w.2.2.2.1) AJ a q b n tl nr nt cl (sBys b n c5 4 0 [] h).2.1) ∧ (((w.1) ln 5).toInt = (I ln 5).toInt ∧ ((w.1) ln 6).toInt = (I ln 6).toInt ∧ ((w.1) ln 3).toInt = (I ln 3).toInt ∧ ((w.1) ln 4).toInt = (I ln 4).toInt ∧ ((w.1) ln 9).toInt = (I ln 9).toInt ∧ ((w.1) ln 10).toInt = (I ln 10).toInt ∧ ((w.1) ln 11).toInt = (I ln 11).toInt ∧ ((w.1) ln 12).toInt = (I ln 12).toInt) ∧ (pIm z (((w.1) ln 8).toInt) ((sBys b n c5 4 0 [] h).2.2)) ∧ (True) ∧ (∀ b, b ≠ gh 3 ln → (w.2.2.2.1) b = AI b) ∧ (zIf z (((w.1) ln 8).toInt = ((iCnt nxB (spC b n) 4 h : Nat) : Int) ∧ qAll (qBy b n) nxB ((w.2.2.2.1) (gh 3 ln)) h ((w.1) ln 8).toInt)) ∧ (zIf z ((sBys b n c5 4 0 [] h).2.1 = nxB (iPos nxB h (((w.1) ln 8).toInt.toNat - 1)) ∧ 1 ≤ ((w.1) ln 8).toInt)))) ([.ref a] : List Value).toArray s 0 0 (gA g)) (F0 m 0 ls []) by
    rw [hHe, hlo] at hw; exact hw
  clear hHe hlo
  have pf : pF a ln I I := pF_r
  refine z_iconst F dX1_readByColumns_0 ?_
  refine lv_istore_n (lv' := [(1, .int (iI 0)), (0, .ref a)]) F.1 F.2.1 dX1_readByColumns_1 rfl hl (by decide) rfl (fun ls hl => ?_)
  have cut_2_2 : ∀ (NN : Nat) (i : Int) (I_1 : gI) (AI_2 : gI) (H : Heap) (locs : List Loc) (ls : Array Slot), zr i → (gInv g gh R AR I_1 AI_2) → (pS g gh R I_1 a q ln) → (pF a ln I I_1) → ((I_1 ln 0).toInt = 7) → (0 ≤ i ∧ i ≤ 4) → (pH gh AR I_1 J AI_2 AJ a q b n tl nr nt cl (I_1 a 3).toInt.toNat) → (∃ L : List Int, sBys b n c5 4 0 [] h = sBys b n c5 (4 - i).toNat i L (I_1 a 3).toInt.toNat ∧ pBn (AI_2 (gh 3 ln)) i L) → ((I_1 ln 8).toInt = i ∧ (I_1 ln 5).toInt = c5 ∧ (I_1 ln 6).toInt = (I ln 6).toInt ∧ (I_1 ln 3).toInt = (I ln 3).toInt ∧ (I_1 ln 4).toInt = (I ln 4).toInt ∧ (I_1 ln 9).toInt = (I ln 9).toInt ∧ (I_1 ln 10).toInt = (I ln 10).toInt ∧ (I_1 ln 11).toInt = (I ln 11).toInt ∧ (I_1 ln 12).toInt = (I ln 12).toInt) → (∀ b, b ≠ gh 3 ln → AI_2 b = AI b) → (iL nxB (spC b n) 4 h i (I_1 a 3).toInt.toNat) → (qAll (qBy b n) nxB (AI_2 (gh 3 ln)) h i) → (4 - i) < ((NN : Nat) : Int) → gH g I_1 R J AI_2 AJ AR H → va_S (gA g) s.heap H locs → lv_has ls 3 [(1, .int (iI i)), (0, .ref a)] → W p l e rmX1_readByColumnsg s m ([.ref a] : List Value).toArray below meth c H locs 0 0 (MQ below (gQi g (fun (z : Int) (w : gS) => R = w.2.1 ∧ J = w.2.2.1 ∧ AJ = w.2.2.2.2.1 ∧ AR = w.2.2.2.2.2 ∧ (gInv g gh R AR (w.1) (w.2.2.2.1)) ∧ (pS g gh R (w.1) a q ln) ∧ (pF a ln I (w.1)) ∧ (0 ≤ z ∧ z ≤ 4) ∧ (z = (sBys b n c5 4 0 [] h).1) ∧ (pH gh AR (w.1) J (w.2.2.2.1) AJ a q b n tl nr nt cl (sBys b n c5 4 0 [] h).2.1) ∧ (((w.1) ln 5).toInt = (I ln 5).toInt ∧ ((w.1) ln 6).toInt = (I ln 6).toInt ∧ ((w.1) ln 3).toInt = (I ln 3).toInt ∧ ((w.1) ln 4).toInt = (I ln 4).toInt ∧ ((w.1) ln 9).toInt = (I ln 9).toInt ∧ ((w.1) ln 10).toInt = (I ln 10).toInt ∧ ((w.1) ln 11).toInt = (I ln 11).toInt ∧ ((w.1) ln 12).toInt = (I ln 12).toInt) ∧ (pIm z (((w.1) ln 8).toInt) ((sBys b n c5 4 0 [] h).2.2)) ∧ (True) ∧ (∀ b, b ≠ gh 3 ln → (w.2.2.2.1) b = AI b) ∧ (zIf z (((w.1) ln 8).toInt = ((iCnt nxB (spC b n) 4 h : Nat) : Int) ∧ qAll (qBy b n) nxB ((w.2.2.2.1) (gh 3 ln)) h ((w.1) ln 8).toInt)) ∧ (zIf z ((sBys b n c5 4 0 [] h).2.1 = nxB (iPos nxB h (((w.1) ln 8).toInt.toNat - 1)) ∧ 1 ≤ ((w.1) ln 8).toInt)))) ([.ref a] : List Value).toArray s 0 0 (gA g)) (F0 m 2 ls []) := by
    intro NN2
    induction NN2 with
    | zero =>
      intro i I_1 AI_2 H locs ls zi hv hp pf hk hi hP hLL hk8l fA9 hil hqa hm2 hH hS hl
      exact absurd hm2 (by omega)
    | succ NN2 ih2 =>
      intro i I_1 AI_2 H locs ls zi hv hp pf hk hi hP hLL hk8l fA9 hil hqa hm2 hH hS hl
      obtain ⟨hc, ehc⟩ : ∃ x, x = (I_1 a 3).toInt.toNat := ⟨_, rfl⟩
      rw [← ehc] at hP hLL
      obtain ⟨L, hsq, hcn⟩ := hLL
      rw [← ehc] at hil
      refine lv_iload_n F.1 F.2.1 dX1_readByColumns_2 rfl (lv_at hl 0 rfl) ?_
      refine z_iconst F dX1_readByColumns_3 ?_
      refine z_icmp_gt (tgt := 37) F dX1_readByColumns_4 (by decide) zi ⟨by decide, by decide⟩ (fun c_4 => ?_) (fun c_4 => ?_)
      · refine z_iconst F dX1_readByColumns_37 ?_
        have hfin : sBys b n c5 4 0 [] h = (4, hc, 0) := sBys_z hsq (by omega)
        exact g_iret F hr hlk hH hS hz ⟨by decide, by decide⟩ ⟨rfl, rfl, rfl, rfl, hv, hp, pf, by first | omega | rfl | (dsimp only; omega), by (try dsimp only); rw [hfin]; first | done | omega | rfl, by (try dsimp only); rw [hfin]; exact hP, by (try dsimp only); omega, by (try dsimp only); first | exact pIm_n (by omega) | (rw [hfin]; (try dsimp only); exact pIm_y (by first | omega | rfl)) | exact pIm_y (by omega), trivial, fun b hb => fA9 b hb, by (try dsimp only); exact zIf_n (by omega), by (try dsimp only); exact zIf_n (by omega)⟩ dX1_readByColumns_38
      · refine lv_aload_n F.1 F.2.1 dX1_readByColumns_7 rfl (lv_at hl 1 rfl) ?_
        refine g_calli (g_runV (As := []) (rest := []) (ci := 1) F hl.1 hH hS hz (c_X1_readByColumng l g gh q ln c5 i L b n tl nr nt cl hc I_1 R J AI_2 AJ AR a hv hp (by omega) hP (by omega) (by omega) hcn) (cwV 0 F.2.2.2.2.1 gX1_readByColumns_X1_readByColumn rfl rfl rfl hdX1_readByColumn ⟨Nat.le_of_ble_eq_true rfl, Nat.le_of_ble_eq_true rfl⟩) hp.1 (by decide) rfl rfl rfl (Nat.le_of_ble_eq_true rfl) dX1_readByColumns_8 ⟨Nat.zero_le _, Nat.zero_le _⟩) hS (fun v_11 I_5 R_6 J_7 AI_8 AJ_9 AR_10 H locs zv_11 hp_12 hH hS => ?_)
        dsimp only at hp_12
        obtain ⟨r_13, er_13⟩ : ∃ qQ : pR, qQ = sBy b n c5 i L hc := ⟨_, rfl⟩
        rw [← er_13] at hp_12
        obtain ⟨rfl, rfl, rfl, rfl, hv, hp, pfq, q_14, q_15, hP, q_16, q_17, qcn, qkn, fAq, ctq, fzq⟩ := hp_12
        have pf := pF_t pf pfq
        have u_18q : (I_5 q 1).toInt = (I_1 q 1).toInt := by rw [pF_q hp pfq]
        have u_18_0 : (I_5 ln 0).toInt = (I_1 ln 0).toInt := by rw [pfq.2]
        refine lv_istore_n (lv' := [(2, .int (iI v_11)), (1, .int (iI i)), (0, .ref a)]) F.1 F.2.1 dX1_readByColumns_11 rfl hl (by decide) rfl (fun ls hl => ?_)
        refine lv_iload_n F.1 F.2.1 dX1_readByColumns_12 rfl (lv_at hl 0 rfl) ?_
        refine z_if_ne (tgt := 25) F dX1_readByColumns_13 (by decide) zv_11 (fun c_19 => ?_) (fun c_19 => ?_)
        · refine lv_iload_n F.1 F.2.1 dX1_readByColumns_25 rfl (lv_at hl 0 rfl) ?_
          have hfin : sBys b n c5 4 0 [] h = r_13 := sBys_no hsq (f := (3 - i).toNat) (by omega) er_13 (by omega)
          exact g_iret F hr hlk hH hS hz zv_11 ⟨rfl, rfl, rfl, rfl, hv, hp, pf, by first | omega | rfl | (dsimp only; omega), by (try dsimp only); rw [hfin]; first | done | omega | rfl, by (try dsimp only); rw [hfin]; exact hP, by (try dsimp only); omega, by (try dsimp only); first | exact pIm_n (by omega) | (rw [hfin]; (try dsimp only); exact pIm_y (by first | omega | rfl)) | exact pIm_y (by omega) | (rw [hfin]; (try dsimp only); exact fun h9 => by have q9 := q_17 h9; (try dsimp only at q9); omega), trivial, fun b hb => (fAq b hb).trans (fA9 b hb), by (try dsimp only); exact zIf_n (by omega), by (try dsimp only); exact zIf_n (by omega)⟩ dX1_readByColumns_26
        · have t_20 := q_17 (by omega)
          have hcn := qcn.resolve_left (fun h => h (by omega))
          refine lv_aload_n F.1 F.2.1 dX1_readByColumns_16 rfl (lv_at hl 2 rfl) ?_
          refine z_bipush F dX1_readByColumns_17 (by decide) ?_
          refine g_calli (g_runV (As := [.int (iI 44)]) (rest := []) (ci := 1) F hl.1 hH hS hz (c_X1_isKindg l g gh q b n tl nr nt cl r_13.2.1 I_5 R J AI_8 AJ AR a 44 ⟨by decide, by decide⟩ hv hp.1 (by first | exact hp.2.2.2.2.2.2.2 | exact hh | omega) hP) (cwV 1 F.2.2.2.2.1 gX1_readByColumns_X1_isKind rfl rfl rfl hdX1_isKind ⟨Nat.le_of_ble_eq_true rfl, Nat.le_of_ble_eq_true rfl⟩) hp.1 (by decide) rfl rfl rfl (Nat.le_of_ble_eq_true rfl) dX1_readByColumns_19 ⟨Nat.zero_le _, Nat.zero_le _⟩) hS (fun v_27 I_21 R_22 J_23 AI_24 AJ_25 AR_26 H locs zv_27 hp_28 hH hS => ?_)
          dsimp only at hp_28
          obtain ⟨rfl, rfl, rfl, rfl, rfl, rfl, q_29, q_30⟩ := hp_28
          refine z_if_ne (tgt := 27) F dX1_readByColumns_22 (by decide) zv_27 (fun c_31 => ?_) (fun c_31 => ?_)
          · have t_32 := tIz_1 q_30 (by omega)
            refine lv_aload_n F.1 F.2.1 dX1_readByColumns_27 rfl (lv_at hl 2 rfl) ?_
            have hv0 := hv
            refine g_callv (g_runV (As := []) (rest := []) (ci := 1) F hl.1 hH hS hz (c_X1_stepg l g gh q b n tl nr nt cl r_13.2.1 I_5 R J AI_8 AJ AR a hv hp.1 (by first | exact hp.2.2.2.2.2.2.2 | exact hh | omega) hP (by first | exact hp.2.2.1 | exact hq) (by omega)) (cwV 0 F.2.2.2.2.1 gX1_readByColumns_X1_step rfl rfl rfl hdX1_step ⟨Nat.le_of_ble_eq_true rfl, Nat.le_of_ble_eq_true rfl⟩) hp.1 (by decide) rfl rfl rfl (Nat.le_of_ble_eq_true rfl) dX1_readByColumns_28 ⟨Nat.zero_le _, Nat.zero_le _⟩) hS (fun I_33 R_34 J_35 AI_36 AJ_37 AR_38 H locs hp_39 hH hS => ?_)
            dsimp only at hp_39
            obtain ⟨rfl, rfl, rfl, rfl, rfl, hv, fs, hs, hP⟩ := hp_39
            have hP : pH gh AR I_33 J AI_8 AJ a q b n tl nr nt cl (r_13.2.1 + 1) := hP
            obtain ⟨hp, pfq, fls⟩ := pS_step hv0 hp fs hs
            have pf := pF_t pf pfq
            have u_40q : (I_33 q 1).toInt = (I_5 q 1).toInt := by rw [pF_q hp pfq]
            have u_40_0 : (I_33 ln 0).toInt = (I_5 ln 0).toInt := by rw [fls]
            have u_40_8 : (I_33 ln 8).toInt = (I_5 ln 8).toInt := by rw [fls]
            have u_41 : (I_33 ln 2).toInt = (I_5 ln 2).toInt := by rw [fls]
            have u_42 : (I_33 ln 3).toInt = (I_5 ln 3).toInt := by rw [fls]
            have u_43 : (I_33 ln 4).toInt = (I_5 ln 4).toInt := by rw [fls]
            have u_44 : (I_33 ln 5).toInt = (I_5 ln 5).toInt := by rw [fls]
            have u_45 : (I_33 ln 6).toInt = (I_5 ln 6).toInt := by rw [fls]
            have u_46 : (I_33 ln 9).toInt = (I_5 ln 9).toInt := by rw [fls]
            have u_47 : (I_33 ln 10).toInt = (I_5 ln 10).toInt := by rw [fls]
            have u_48 : (I_33 ln 11).toInt = (I_5 ln 11).toInt := by rw [fls]
            have u_49 : (I_33 ln 12).toInt = (I_5 ln 12).toInt := by rw [fls]
            have hsq := sBys_go hsq (f := (3 - i).toNat) (by omega) er_13 (by omega) (by omega)
            have hnx := (sBy_h er_13 (by omega)).1
            have hqa := qAll_s qBy_l hqa hil (fun j hj => fzq j (by omega)) (ctq (by omega))
            have hil := iL_go hil (by omega) hnx (by unfold spC; exact decide_eq_true (by omega))
            refine z_iinc (lv' := [(1, .int (iI (i + 1))), (2, .int (iI v_11)), (0, .ref a)]) F dX1_readByColumns_31 hl (k := 1) rfl (by decide) rfl (fun ls hl => ?_)
            refine z_goto (tgt := 2) F dX1_readByColumns_34 (by decide) ?_
            exact ih2 (i + 1) I_33 AI_8 H locs ls ⟨by omega, by omega⟩ hv hp pf (by omega) (by omega) (by rw [pH_n hP]; exact hP) ⟨r_13.2.2 :: L, by rw [pH_n hP, show (4 - (i + 1)).toNat = (3 - i).toNat by omega]; exact hsq, hcn⟩ (by omega) (fun b hb => (fAq b hb).trans (fA9 b hb)) (by rw [pH_n hP]; exact hil) hqa (by omega) hH hS (lv_sub hl [0, 2] rfl)
          · have t_50 := tIz_0 q_30 (by omega)
            refine lv_iload_n F.1 F.2.1 dX1_readByColumns_25 rfl (lv_at hl 0 rfl) ?_
            have hfin : sBys b n c5 4 0 [] h = (0, r_13.2.1, i + 1) := sBys_st hsq (f := (3 - i).toNat) (by omega) er_13 (by omega) (by omega)
            have hnx := (sBy_h er_13 (by omega)).1
            have hqa := qAll_s qBy_l hqa hil (fun j hj => fzq j (by omega)) (ctq (by omega))
            have hcnt := iL_st hil (by omega) hnx (by unfold spC; exact fun e9 => absurd (of_decide_eq_true e9) (by omega))
            exact g_iret F hr hlk hH hS hz zv_11 ⟨rfl, rfl, rfl, rfl, hv, hp, pf, by first | omega | rfl | (dsimp only; omega), by (try dsimp only); rw [hfin]; first | done | omega | rfl, by (try dsimp only); rw [hfin]; exact hP, by (try dsimp only); omega, by (try dsimp only); first | exact pIm_n (by omega) | (rw [hfin]; (try dsimp only); exact pIm_y (by first | omega | rfl)) | exact pIm_y (by omega) | (rw [hfin]; (try dsimp only); exact fun h9 => by have q9 := q_17 h9; (try dsimp only at q9); omega), trivial, fun b hb => (fAq b hb).trans (fA9 b hb), by (try dsimp only); exact zIf_y ⟨by omega, by rw [show (I_5 ln 8).toInt = i + 1 by omega]; exact hqa⟩, by (try dsimp only); exact zIf_y ⟨by rw [hfin]; (try dsimp only); rw [hnx, show (I_5 ln 8).toInt.toNat - 1 = i.toNat by omega, ← iL_p hil], by omega⟩⟩ dX1_readByColumns_26
  exact cut_2_2 (((4 - 0) + 1 : Int).toNat) 0 I AI H locs ls ⟨by decide, by decide⟩ hv hp pf (by omega) (by omega) (by rw [pH_n hP]; exact hP) ⟨[], by rw [pH_n hP]; rfl, pBn_0 (by omega)⟩ (by omega) (fun _ _ => rfl) (by rw [pH_n hP]; exact iL_0) (qAll_0 (by omega)) (by omega) hH hS (lv_sub hl [0, 1] rfl)

def rmX1_readFoldg : Room := { frames := 2, cells := 0, slots := 0, locals := 42 }
set_option maxHeartbeats 4000000 in
set_option maxRecDepth 100000 in
/-- the fold of a group -/
theorem c_X1_readFoldg (l : Launch) (g : gG) (gh : gGh) (q ln : Nat) (c5 x7 : Int) (b : tTx) (n : Nat) (tl : Int) (nr : Nat) (nt : Nat → Nat) (cl : Nat → Int) (h : Nat) (I : gI) (R : gR) (J : gJ) (AI : gI) (AJ : gJ) (AR : gR) (a : Nat) (hv : gInv g gh R AR I AI) (hp : pS g gh R I a q ln) (hk : (I ln 0).toInt = 7) (hP : pH gh AR I J AI AJ a q b n tl nr nt cl h) (hc5 : (I ln 5).toInt = c5) : gMet l g yX1_readFold wsX1_readFold rmX1_readFoldg [.ref a] (I, R, J, AI, AJ, AR) (gQi g (fun (z : Int) (w : gS) => R = w.2.1 ∧ J = w.2.2.1 ∧ AI = w.2.2.2.1 ∧ AJ = w.2.2.2.2.1 ∧ AR = w.2.2.2.2.2 ∧ (gInv g gh R AR (w.1) AI) ∧ (pS g gh R (w.1) a q ln) ∧ (pF a ln I (w.1)) ∧ (0 ≤ z ∧ z ≤ 4) ∧ (z = (sFo b n c5 x7 h).1) ∧ (pH gh AR (w.1) J AI AJ a q b n tl nr nt cl (sFo b n c5 x7 h).2.1) ∧ (((w.1) ln 5).toInt = (I ln 5).toInt ∧ ((w.1) ln 8).toInt = (I ln 8).toInt ∧ ((w.1) ln 3).toInt = (I ln 3).toInt ∧ ((w.1) ln 4).toInt = (I ln 4).toInt) ∧ (pIm z ((sFo b n c5 x7 h).2.2) (x7)) ∧ (zIf z (kFo b n ((w.1) ln) h)))) := by
  refine gStart (cc := cX1_readFold) (maxL := 3) (ret := (some (.int))) (by decide) rfl (Nat.le_of_ble_eq_true rfl) ?_
  intro p e s m below meth c ls F hr hlk hH hz hS hl
  have hl : lv_has ls 3 [(0, .ref a)] := hl
  have hS : va_S (gA g) s.heap s.heap [] := hS
  obtain ⟨H, hHe⟩ : ∃ H : Heap, H = s.heap := ⟨_, rfl⟩
  obtain ⟨locs, hlo⟩ : ∃ k : List Loc, k = [] := ⟨_, rfl⟩
  have hH : gH g I R J AI AJ AR H := by rw [hHe]; exact hH
  have hS : va_S (gA g) s.heap H locs := by rw [hHe, hlo]; exact hS
  suffices hw : W p l e rmX1_readFoldg s m ([.ref a] : List Value).toArray below meth c H locs 0 0 (MQ below (gQi g (fun (z : Int) (w : gS) => R = w.2.1 ∧ J = w.2.2.1 ∧ AI = w.2.2.2.1 ∧ AJ = w.2.2.2.2.1 ∧ AR = w.2.2.2.2.2 ∧ (gInv g gh R AR (w.1) AI) ∧ (pS g gh R (w.1) a q ln) ∧ (pF a ln I (w.1)) ∧ (0 ≤ z ∧ z ≤ 4) ∧ (z = (sFo b n c5 x7 h).1) ∧ (pH gh AR (w.1) J AI AJ a q b n tl nr nt cl (sFo b n c5 x7 h).2.1) ∧ (((w.1) ln 5).toInt = (I ln 5).toInt ∧ ((w.1) ln 8).toInt = (I ln 8).toInt ∧ ((w.1) ln 3).toInt = (I ln 3).toInt ∧ ((w.1) ln 4).toInt = (I ln 4).toInt) ∧ (pIm z ((sFo b n c5 x7 h).2.2) (x7)) ∧ (zIf z (kFo b n ((w.1) ln) h)))) ([.ref a] : List Value).toArray s 0 0 (gA g)) (F0 m 0 ls []) by
    rw [hHe, hlo] at hw; exact hw
  clear hHe hlo
  have pf : pF a ln I I := pF_r
  have iX5 : ∀ w ∈ u_ws RX5 TX5 5, w ∈ wsX1_readFold := (by decide +kernel)
  have iX1 : ∀ w ∈ u_ws RX1 TX1 4, w ∈ wsX1_readFold := (by decide +kernel)
  have iX0 : ∀ w ∈ u_ws RX0 TX0 15, w ∈ wsX1_readFold := (by decide +kernel)
  have k12 : Cond.fieldLink RX1 12 (TX1 0).1 (TX1 0).2.1 (TX1 0).2.2.1 ∈ wsX1_readFold := List.mem_of_getElem? (i := 1) rfl
  have k71 : Cond.fieldLink RX1 71 (TX5 2).1 (TX5 2).2.1 (TX5 2).2.2.1 ∈ wsX1_readFold := List.mem_of_getElem? (i := 2) rfl
  have k44 : Cond.fieldLink RX1 44 (TX1 3).1 (TX1 3).2.1 (TX1 3).2.2.1 ∈ wsX1_readFold := List.mem_of_getElem? (i := 3) rfl
  have k29 : Cond.fieldLink RX1 29 (TX1 2).1 (TX1 2).2.1 (TX1 2).2.2.1 ∈ wsX1_readFold := List.mem_of_getElem? (i := 4) rfl
  have k223 : Cond.fieldLink RX1 223 (TX0 11).1 (TX0 11).2.1 (TX0 11).2.2.1 ∈ wsX1_readFold := List.mem_of_getElem? (i := 5) rfl
  have k226 : Cond.fieldLink RX1 226 (TX0 12).1 (TX0 12).2.1 (TX0 12).2.2.1 ∈ wsX1_readFold := List.mem_of_getElem? (i := 6) rfl
  have k143 : Cond.fieldLink RX1 143 (TX0 5).1 (TX0 5).2.1 (TX0 5).2.2.1 ∈ wsX1_readFold := List.mem_of_getElem? (i := 7) rfl
  refine lv_aload_n F.1 F.2.1 dX1_readFold_0 rfl (lv_at hl 0 rfl) ?_
  refine g_getR (ci := 1) (k := 0) F hH rfl (by decide) iX1 hp.1 (by decide) rfl (b := gh 22 0) (gR_pr0 hv hp.1).1 k12 dX1_readFold_1 ?_
  obtain ⟨r_1a, r_1b⟩ := gR_tk2 hv (gR_pr0 hv hp.1).2
  refine g_getR (ci := 5) (k := 2) F hH rfl (by decide) iX5 (gR_pr0 hv hp.1).2 (by decide) rfl (b := gh 26 0) r_1a k71 dX1_readFold_4 ?_
  refine lv_aload_n F.1 F.2.1 dX1_readFold_7 rfl (lv_at hl 0 rfl) ?_
  refine g_getI (ci := 1) (k := 3) F hH rfl (by decide) iX1 hp.1 (by decide) rfl k44 dX1_readFold_8 ?_
  have b_2h := hp.2.2.2.2.2.2.2
  have b_2 := gI_pr hv hp.1
  have b_2t := gI_tk hv (gR_pr0 hv hp.1).2
  have hx11 : 0 ≤ ((I a 3).toInt) ∧ ((I a 3).toInt) < ((901 : Nat) : Int) ∧ ((I a 3).toInt) ≤ 2147483647 := ⟨by omega, by omega, by omega⟩
  refine g_iald F hH r_1b hx11.1 hx11.2.1 hx11.2.2 dX1_readFold_11 ?_
  refine z_name (fun v_3 ev_3 => ?_)
  have zv_3 : zr v_3 := by rw [ev_3]; exact zr_t _
  have t11 : v_3 = pV b n (h) := by rw [ev_3]; exact pH_V hP
  refine lv_istore_n (lv' := [(1, .int (iI v_3)), (0, .ref a)]) F.1 F.2.1 dX1_readFold_12 rfl hl (by decide) rfl (fun ls hl => ?_)
  refine lv_aload_n F.1 F.2.1 dX1_readFold_13 rfl (lv_at hl 1 rfl) ?_
  refine z_iconst F dX1_readFold_14 ?_
  refine g_calli (g_runV (As := [.int (iI 3)]) (rest := []) (ci := 1) F hl.1 hH hS hz (c_X1_isKindg l g gh q b n tl nr nt cl h I R J AI AJ AR a 3 ⟨by decide, by decide⟩ hv hp.1 (by first | exact hp.2.2.2.2.2.2.2 | exact hh | omega) hP) (cwV 1 F.2.2.2.2.1 gX1_readFold_X1_isKind rfl rfl rfl hdX1_isKind ⟨Nat.le_of_ble_eq_true rfl, Nat.le_of_ble_eq_true rfl⟩) hp.1 (by decide) rfl rfl rfl (Nat.le_of_ble_eq_true rfl) dX1_readFold_15 ⟨Nat.zero_le _, Nat.zero_le _⟩) hS (fun v_10 I_4 R_5 J_6 AI_7 AJ_8 AR_9 H locs zv_10 hp_11 hH hS => ?_)
  dsimp only at hp_11
  obtain ⟨rfl, rfl, rfl, rfl, rfl, rfl, q_12, q_13⟩ := hp_11
  refine z_if_eq (tgt := 33) F dX1_readFold_18 (by decide) zv_10 (fun c_14 => ?_) (fun c_14 => ?_)
  · have t_15 := tIz_0 q_13 (by omega)
    refine z_iconst F dX1_readFold_33 ?_
    have hfin : sFo b n c5 x7 h = (1, h, 0) := by
      unfold sFo
      repeat (first | with_reducible rfl | refine ite_y (by omega) ?_ | refine ite_n (by omega) ?_ | exact pr_e (by omega) (by omega) (by omega))
    exact g_iret F hr hlk hH hS hz ⟨by decide, by decide⟩ ⟨rfl, rfl, rfl, rfl, rfl, hv, hp, pf, by first | omega | rfl | (dsimp only; omega), by (try dsimp only); rw [hfin]; first | done | omega | rfl, by (try dsimp only); rw [hfin]; exact hP, by (try dsimp only); omega, by (try dsimp only); first | exact pIm_n (by omega) | (rw [hfin]; (try dsimp only); exact pIm_y (by first | omega | rfl)) | exact pIm_y (by omega), by (try dsimp only); first | exact zIf_n (by omega) | exact zIf_y ⟨by omega, by rw [if_pos (by omega)]; omega⟩ | exact zIf_y ⟨by omega, by rw [if_neg (by omega)]; omega⟩⟩ dX1_readFold_34
  · have t_16 := tIz_1 q_13 (by omega)
    refine lv_iload_n F.1 F.2.1 dX1_readFold_21 rfl (lv_at hl 0 rfl) ?_
    refine z_bipush F dX1_readFold_22 (by decide) ?_
    refine z_icmp_lt (tgt := 33) F dX1_readFold_24 (by decide) zv_3 ⟨by decide, by decide⟩ (fun c_17 => ?_) (fun c_17 => ?_)
    · refine z_iconst F dX1_readFold_33 ?_
      have hfin : sFo b n c5 x7 h = (1, h, 0) := by
        unfold sFo
        repeat (first | with_reducible rfl | refine ite_y (by omega) ?_ | refine ite_n (by omega) ?_ | exact pr_e (by omega) (by omega) (by omega))
      exact g_iret F hr hlk hH hS hz ⟨by decide, by decide⟩ ⟨rfl, rfl, rfl, rfl, rfl, hv, hp, pf, by first | omega | rfl | (dsimp only; omega), by (try dsimp only); rw [hfin]; first | done | omega | rfl, by (try dsimp only); rw [hfin]; exact hP, by (try dsimp only); omega, by (try dsimp only); first | exact pIm_n (by omega) | (rw [hfin]; (try dsimp only); exact pIm_y (by first | omega | rfl)) | exact pIm_y (by omega), by (try dsimp only); first | exact zIf_n (by omega) | exact zIf_y ⟨by omega, by rw [if_pos (by omega)]; omega⟩ | exact zIf_y ⟨by omega, by rw [if_neg (by omega)]; omega⟩⟩ dX1_readFold_34
    · refine lv_iload_n F.1 F.2.1 dX1_readFold_27 rfl (lv_at hl 0 rfl) ?_
      refine z_bipush F dX1_readFold_28 (by decide) ?_
      refine z_icmp_le (tgt := 35) F dX1_readFold_30 (by decide) zv_3 ⟨by decide, by decide⟩ (fun c_18 => ?_) (fun c_18 => ?_)
      · refine lv_aload_n F.1 F.2.1 dX1_readFold_35 rfl (lv_at hl 1 rfl) ?_
        refine g_getR (ci := 1) (k := 2) F hH rfl (by decide) iX1 hp.1 (by decide) rfl (b := ln) hp.2.2.2.1 k29 dX1_readFold_36 ?_
        refine lv_iload_n F.1 F.2.1 dX1_readFold_39 rfl (lv_at hl 0 rfl) ?_
        refine g_putI (ci := 0) (k := 11) F hH hS rfl (by decide) iX0 hp.2.2.2.2.1 (by decide) tyX0 tyX0_ok nmX0 rfl rfl rfl k223 dX1_readFold_40 (fun H locs hH hS => ?_)
        obtain ⟨I_19, eI_19⟩ : ∃ qQ, qQ = gup2 I ln 11 (iI (v_3)) := ⟨_, rfl⟩
        rw [← eI_19] at hH
        have kI_19 : ∀ b, b ≠ ln → I_19 b = I b := fun b hb => by rw [eI_19]; exact funext fun j => gup2_a _ _ hb
        have hP := pH_ln hv hp hP kI_19
        have hp2 : pS g gh R I_19 a q ln := pS_ln hv hp kI_19
        have hv : gInv g gh R AR I_19 AI := by rw [eI_19]; exact gInv_line11 hv hp.2.2.2.2.1
        have hp := hp2
        have pf : pF a ln I I_19 := pF_t pf (by rw [eI_19]; exact pF_ln (by decide))
        have w_20_k : ∀ j, j ≠ 11 → I_19 ln j = I ln j := fun j hj => by rw [eI_19]; exact gup2_k _ _ hj
        have u_21q : (I_19 q 1).toInt = (I q 1).toInt := by rw [kI_19 q (gO_ne hp.2.2.1 hp.2.2.2.2.1 (by decide))]
        have u_21_0 : (I_19 ln 0).toInt = (I ln 0).toInt := by rw [w_20_k 0 (by decide)]
        have u_21_8 : (I_19 ln 8).toInt = (I ln 8).toInt := by rw [w_20_k 8 (by decide)]
        have u_22 : (I_19 ln 2).toInt = (I ln 2).toInt := by rw [w_20_k 2 (by decide)]
        have u_23 : (I_19 ln 3).toInt = (I ln 3).toInt := by rw [w_20_k 3 (by decide)]
        have u_24 : (I_19 ln 4).toInt = (I ln 4).toInt := by rw [w_20_k 4 (by decide)]
        have u_25 : (I_19 ln 5).toInt = (I ln 5).toInt := by rw [w_20_k 5 (by decide)]
        have u_26 : (I_19 ln 6).toInt = (I ln 6).toInt := by rw [w_20_k 6 (by decide)]
        have u_27 : (I_19 ln 9).toInt = (I ln 9).toInt := by rw [w_20_k 9 (by decide)]
        have u_28 : (I_19 ln 10).toInt = (I ln 10).toInt := by rw [w_20_k 10 (by decide)]
        have u_29 : (I_19 ln 12).toInt = (I ln 12).toInt := by rw [w_20_k 12 (by decide)]
        have w11 : (I_19 ln 11).toInt = v_3 := by rw [eI_19, gup2_s]; exact iI_val zv_3
        refine lv_aload_n F.1 F.2.1 dX1_readFold_43 rfl (lv_at hl 1 rfl) ?_
        refine g_getR (ci := 1) (k := 2) F hH rfl (by decide) iX1 hp.1 (by decide) rfl (b := ln) hp.2.2.2.1 k29 dX1_readFold_44 ?_
        refine z_iconst F dX1_readFold_47 ?_
        refine g_putI (ci := 0) (k := 12) F hH hS rfl (by decide) iX0 hp.2.2.2.2.1 (by decide) tyX0 tyX0_ok nmX0 rfl rfl rfl k226 dX1_readFold_48 (fun H locs hH hS => ?_)
        obtain ⟨I_30, eI_30⟩ : ∃ qQ, qQ = gup2 I_19 ln 12 (iI (0)) := ⟨_, rfl⟩
        rw [← eI_30] at hH
        have kI_30 : ∀ b, b ≠ ln → I_30 b = I_19 b := fun b hb => by rw [eI_30]; exact funext fun j => gup2_a _ _ hb
        have hP := pH_ln hv hp hP kI_30
        have w_31 : (I_30 ln 12).toInt = 0 := by rw [eI_30, gup2_s]; exact iI_val ⟨by omega, by omega⟩
        have hp2 : pS g gh R I_30 a q ln := pS_ln hv hp kI_30
        have hv : gInv g gh R AR I_30 AI := by rw [eI_30]; exact gInv_line12 hv hp.2.2.2.2.1 (by omega) (by omega)
        have hp := hp2
        have pf : pF a ln I I_30 := pF_t pf (by rw [eI_30]; exact pF_ln (by decide))
        have w_31_k : ∀ j, j ≠ 12 → I_30 ln j = I_19 ln j := fun j hj => by rw [eI_30]; exact gup2_k _ _ hj
        have u_32q : (I_30 q 1).toInt = (I_19 q 1).toInt := by rw [kI_30 q (gO_ne hp.2.2.1 hp.2.2.2.2.1 (by decide))]
        have u_32_0 : (I_30 ln 0).toInt = (I_19 ln 0).toInt := by rw [w_31_k 0 (by decide)]
        have u_32_8 : (I_30 ln 8).toInt = (I_19 ln 8).toInt := by rw [w_31_k 8 (by decide)]
        have u_33 : (I_30 ln 2).toInt = (I_19 ln 2).toInt := by rw [w_31_k 2 (by decide)]
        have u_34 : (I_30 ln 3).toInt = (I_19 ln 3).toInt := by rw [w_31_k 3 (by decide)]
        have u_35 : (I_30 ln 4).toInt = (I_19 ln 4).toInt := by rw [w_31_k 4 (by decide)]
        have u_36 : (I_30 ln 5).toInt = (I_19 ln 5).toInt := by rw [w_31_k 5 (by decide)]
        have u_37 : (I_30 ln 6).toInt = (I_19 ln 6).toInt := by rw [w_31_k 6 (by decide)]
        have u_38 : (I_30 ln 9).toInt = (I_19 ln 9).toInt := by rw [w_31_k 9 (by decide)]
        have u_39 : (I_30 ln 10).toInt = (I_19 ln 10).toInt := by rw [w_31_k 10 (by decide)]
        have u_40 : (I_30 ln 11).toInt = (I_19 ln 11).toInt := by rw [w_31_k 11 (by decide)]
        refine lv_aload_n F.1 F.2.1 dX1_readFold_51 rfl (lv_at hl 1 rfl) ?_
        have hv0 := hv
        refine g_callv (g_runV (As := []) (rest := []) (ci := 1) F hl.1 hH hS hz (c_X1_stepg l g gh q b n tl nr nt cl h I_30 R J AI AJ AR a hv hp.1 (by first | exact hp.2.2.2.2.2.2.2 | exact hh | omega) hP (by first | exact hp.2.2.1 | exact hq) (by omega)) (cwV 0 F.2.2.2.2.1 gX1_readFold_X1_step rfl rfl rfl hdX1_step ⟨Nat.le_of_ble_eq_true rfl, Nat.le_of_ble_eq_true rfl⟩) hp.1 (by decide) rfl rfl rfl (Nat.le_of_ble_eq_true rfl) dX1_readFold_52 ⟨Nat.zero_le _, Nat.zero_le _⟩) hS (fun I_41 R_42 J_43 AI_44 AJ_45 AR_46 H locs hp_47 hH hS => ?_)
        dsimp only at hp_47
        obtain ⟨rfl, rfl, rfl, rfl, rfl, hv, fs, hs, hP⟩ := hp_47
        have hP : pH gh AR I_41 J AI AJ a q b n tl nr nt cl (h + 1) := hP
        obtain ⟨hp, pfq, fls⟩ := pS_step hv0 hp fs hs
        have pf := pF_t pf pfq
        have u_48q : (I_41 q 1).toInt = (I_30 q 1).toInt := by rw [pF_q hp pfq]
        have u_48_0 : (I_41 ln 0).toInt = (I_30 ln 0).toInt := by rw [fls]
        have u_48_8 : (I_41 ln 8).toInt = (I_30 ln 8).toInt := by rw [fls]
        have u_49 : (I_41 ln 2).toInt = (I_30 ln 2).toInt := by rw [fls]
        have u_50 : (I_41 ln 3).toInt = (I_30 ln 3).toInt := by rw [fls]
        have u_51 : (I_41 ln 4).toInt = (I_30 ln 4).toInt := by rw [fls]
        have u_52 : (I_41 ln 5).toInt = (I_30 ln 5).toInt := by rw [fls]
        have u_53 : (I_41 ln 6).toInt = (I_30 ln 6).toInt := by rw [fls]
        have u_54 : (I_41 ln 9).toInt = (I_30 ln 9).toInt := by rw [fls]
        have u_55 : (I_41 ln 10).toInt = (I_30 ln 10).toInt := by rw [fls]
        have u_56 : (I_41 ln 11).toInt = (I_30 ln 11).toInt := by rw [fls]
        have u_57 : (I_41 ln 12).toInt = (I_30 ln 12).toInt := by rw [fls]
        refine lv_iload_n F.1 F.2.1 dX1_readFold_55 rfl (lv_at hl 0 rfl) ?_
        refine z_bipush F dX1_readFold_56 (by decide) ?_
        refine z_icmp_ne (tgt := 63) F dX1_readFold_58 (by decide) zv_3 ⟨by decide, by decide⟩ (fun c_58 => ?_) (fun c_58 => ?_)
        · refine lv_aload_n F.1 F.2.1 dX1_readFold_63 rfl (lv_at hl 1 rfl) ?_
          refine lv_aload_n F.1 F.2.1 dX1_readFold_64 rfl (lv_at hl 1 rfl) ?_
          refine g_getR (ci := 1) (k := 2) F hH rfl (by decide) iX1 hp.1 (by decide) rfl (b := ln) hp.2.2.2.1 k29 dX1_readFold_65 ?_
          refine g_getI (ci := 0) (k := 5) F hH rfl (by decide) iX0 hp.2.2.2.2.1 (by decide) rfl k143 dX1_readFold_68 ?_
          have b_59 := gI_line hv hp.2.2.2.2.1
          unfold vLineI at b_59
          refine g_calli (g_runV (As := [.int (iI ((I_41 ln 5).toInt))]) (rest := []) (ci := 1) F hl.1 hH hS hz (c_X1_seeColumng l g gh q b n tl nr nt cl (h + 1) I_41 R J AI AJ AR a ((I_41 ln 5).toInt) (zr_t _) hv hp.1 (by first | exact hp.2.2.2.2.2.2.2 | exact hh | omega) hP) (cwV 1 F.2.2.2.2.1 gX1_readFold_X1_seeColumn rfl rfl rfl hdX1_seeColumn ⟨Nat.le_of_ble_eq_true rfl, Nat.le_of_ble_eq_true rfl⟩) hp.1 (by decide) rfl rfl rfl (Nat.le_of_ble_eq_true rfl) dX1_readFold_71 ⟨Nat.zero_le _, Nat.zero_le _⟩) hS (fun v_66 I_60 R_61 J_62 AI_63 AJ_64 AR_65 H locs zv_66 hp_67 hH hS => ?_)
          dsimp only at hp_67
          rw [show (I_41 ln 5).toInt = c5 by omega] at hp_67
          obtain ⟨rfl, rfl, rfl, rfl, rfl, rfl, s1, s2, s3⟩ := hp_67
          refine lv_istore_n (lv' := [(2, .int (iI v_66)), (1, .int (iI v_3)), (0, .ref a)]) F.1 F.2.1 dX1_readFold_74 rfl hl (by decide) rfl (fun ls hl => ?_)
          refine lv_iload_n F.1 F.2.1 dX1_readFold_75 rfl (lv_at hl 0 rfl) ?_
          refine z_if_ne (tgt := 102) F dX1_readFold_76 (by decide) zv_66 (fun c_68 => ?_) (fun c_68 => ?_)
          · refine lv_iload_n F.1 F.2.1 dX1_readFold_102 rfl (lv_at hl 0 rfl) ?_
            have hfin : sFo b n c5 x7 h = (v_66, h + 1, 0) := by
              unfold sFo
              repeat (first | with_reducible rfl | refine ite_y (by omega) ?_ | refine ite_n (by omega) ?_ | exact pr_e (by omega) (by omega) (by omega))
            exact g_iret F hr hlk hH hS hz zv_66 ⟨rfl, rfl, rfl, rfl, rfl, hv, hp, pf, by first | omega | rfl | (dsimp only; omega), by (try dsimp only); rw [hfin]; first | done | omega | rfl, by (try dsimp only); rw [hfin]; exact hP, by (try dsimp only); omega, by (try dsimp only); first | exact pIm_n (by omega) | (rw [hfin]; (try dsimp only); exact pIm_y (by first | omega | rfl)) | exact pIm_y (by omega), by (try dsimp only); first | exact zIf_n (by omega) | exact zIf_y ⟨by omega, by rw [if_pos (by omega)]; omega⟩ | exact zIf_y ⟨by omega, by rw [if_neg (by omega)]; omega⟩⟩ dX1_readFold_103
          · have t_69 := pCf_0 (b := b) (n := n) (c := c5) (h := h + 1) (by omega)
            refine lv_aload_n F.1 F.2.1 dX1_readFold_79 rfl (lv_at hl 2 rfl) ?_
            refine g_getR (ci := 1) (k := 2) F hH rfl (by decide) iX1 hp.1 (by decide) rfl (b := ln) hp.2.2.2.1 k29 dX1_readFold_80 ?_
            refine lv_aload_n F.1 F.2.1 dX1_readFold_83 rfl (lv_at hl 2 rfl) ?_
            refine g_getR (ci := 1) (k := 0) F hH rfl (by decide) iX1 hp.1 (by decide) rfl (b := gh 22 0) (gR_pr0 hv hp.1).1 k12 dX1_readFold_84 ?_
            refine g_getR (ci := 5) (k := 2) F hH rfl (by decide) iX5 (gR_pr0 hv hp.1).2 (by decide) rfl (b := gh 26 0) r_1a k71 dX1_readFold_87 ?_
            refine lv_aload_n F.1 F.2.1 dX1_readFold_90 rfl (lv_at hl 2 rfl) ?_
            refine g_getI (ci := 1) (k := 3) F hH rfl (by decide) iX1 hp.1 (by decide) rfl k44 dX1_readFold_91 ?_
            have b_70h := hp.2.2.2.2.2.2.2
            have b_70 := gI_pr hv hp.1
            have b_70t := gI_tk hv (gR_pr0 hv hp.1).2
            have hx94 : 0 ≤ ((I_41 a 3).toInt) ∧ ((I_41 a 3).toInt) < ((901 : Nat) : Int) ∧ ((I_41 a 3).toInt) ≤ 2147483647 := ⟨by omega, by omega, by omega⟩
            refine g_iald F hH r_1b hx94.1 hx94.2.1 hx94.2.2 dX1_readFold_94 ?_
            refine z_name (fun v_71 ev_71 => ?_)
            have zv_71 : zr v_71 := by rw [ev_71]; exact zr_t _
            have t94 : v_71 = pV b n (h + 1) := by rw [ev_71]; exact pH_V hP
            refine g_putI (ci := 0) (k := 12) F hH hS rfl (by decide) iX0 hp.2.2.2.2.1 (by decide) tyX0 tyX0_ok nmX0 rfl rfl rfl k226 dX1_readFold_95 (fun H locs hH hS => ?_)
            obtain ⟨I_72, eI_72⟩ : ∃ qQ, qQ = gup2 I_41 ln 12 (iI (v_71)) := ⟨_, rfl⟩
            rw [← eI_72] at hH
            have kI_72 : ∀ b, b ≠ ln → I_72 b = I_41 b := fun b hb => by rw [eI_72]; exact funext fun j => gup2_a _ _ hb
            have hP := pH_ln hv hp hP kI_72
            have w_73 : (I_72 ln 12).toInt = v_71 := by rw [eI_72, gup2_s]; exact iI_val ⟨by omega, by omega⟩
            have hp2 : pS g gh R I_72 a q ln := pS_ln hv hp kI_72
            have hv : gInv g gh R AR I_72 AI := by rw [eI_72]; exact gInv_line12 hv hp.2.2.2.2.1 (by omega) (by omega)
            have hp := hp2
            have pf : pF a ln I I_72 := pF_t pf (by rw [eI_72]; exact pF_ln (by decide))
            have w_73_k : ∀ j, j ≠ 12 → I_72 ln j = I_41 ln j := fun j hj => by rw [eI_72]; exact gup2_k _ _ hj
            have u_74q : (I_72 q 1).toInt = (I_41 q 1).toInt := by rw [kI_72 q (gO_ne hp.2.2.1 hp.2.2.2.2.1 (by decide))]
            have u_74_0 : (I_72 ln 0).toInt = (I_41 ln 0).toInt := by rw [w_73_k 0 (by decide)]
            have u_74_8 : (I_72 ln 8).toInt = (I_41 ln 8).toInt := by rw [w_73_k 8 (by decide)]
            have u_75 : (I_72 ln 2).toInt = (I_41 ln 2).toInt := by rw [w_73_k 2 (by decide)]
            have u_76 : (I_72 ln 3).toInt = (I_41 ln 3).toInt := by rw [w_73_k 3 (by decide)]
            have u_77 : (I_72 ln 4).toInt = (I_41 ln 4).toInt := by rw [w_73_k 4 (by decide)]
            have u_78 : (I_72 ln 5).toInt = (I_41 ln 5).toInt := by rw [w_73_k 5 (by decide)]
            have u_79 : (I_72 ln 6).toInt = (I_41 ln 6).toInt := by rw [w_73_k 6 (by decide)]
            have u_80 : (I_72 ln 9).toInt = (I_41 ln 9).toInt := by rw [w_73_k 9 (by decide)]
            have u_81 : (I_72 ln 10).toInt = (I_41 ln 10).toInt := by rw [w_73_k 10 (by decide)]
            have u_82 : (I_72 ln 11).toInt = (I_41 ln 11).toInt := by rw [w_73_k 11 (by decide)]
            refine lv_aload_n F.1 F.2.1 dX1_readFold_98 rfl (lv_at hl 2 rfl) ?_
            have hv0 := hv
            refine g_callv (g_runV (As := []) (rest := []) (ci := 1) F hl.1 hH hS hz (c_X1_stepg l g gh q b n tl nr nt cl (h + 1) I_72 R J AI AJ AR a hv hp.1 (by first | exact hp.2.2.2.2.2.2.2 | exact hh | omega) hP (by first | exact hp.2.2.1 | exact hq) (by omega)) (cwV 0 F.2.2.2.2.1 gX1_readFold_X1_step rfl rfl rfl hdX1_step ⟨Nat.le_of_ble_eq_true rfl, Nat.le_of_ble_eq_true rfl⟩) hp.1 (by decide) rfl rfl rfl (Nat.le_of_ble_eq_true rfl) dX1_readFold_99 ⟨Nat.zero_le _, Nat.zero_le _⟩) hS (fun I_83 R_84 J_85 AI_86 AJ_87 AR_88 H locs hp_89 hH hS => ?_)
            dsimp only at hp_89
            obtain ⟨rfl, rfl, rfl, rfl, rfl, hv, fs, hs, hP⟩ := hp_89
            have hP : pH gh AR I_83 J AI AJ a q b n tl nr nt cl (h + 2) := hP
            obtain ⟨hp, pfq, fls⟩ := pS_step hv0 hp fs hs
            have pf := pF_t pf pfq
            have u_90q : (I_83 q 1).toInt = (I_72 q 1).toInt := by rw [pF_q hp pfq]
            have u_90_0 : (I_83 ln 0).toInt = (I_72 ln 0).toInt := by rw [fls]
            have u_90_8 : (I_83 ln 8).toInt = (I_72 ln 8).toInt := by rw [fls]
            have u_91 : (I_83 ln 2).toInt = (I_72 ln 2).toInt := by rw [fls]
            have u_92 : (I_83 ln 3).toInt = (I_72 ln 3).toInt := by rw [fls]
            have u_93 : (I_83 ln 4).toInt = (I_72 ln 4).toInt := by rw [fls]
            have u_94 : (I_83 ln 5).toInt = (I_72 ln 5).toInt := by rw [fls]
            have u_95 : (I_83 ln 6).toInt = (I_72 ln 6).toInt := by rw [fls]
            have u_96 : (I_83 ln 9).toInt = (I_72 ln 9).toInt := by rw [fls]
            have u_97 : (I_83 ln 10).toInt = (I_72 ln 10).toInt := by rw [fls]
            have u_98 : (I_83 ln 11).toInt = (I_72 ln 11).toInt := by rw [fls]
            have u_99 : (I_83 ln 12).toInt = (I_72 ln 12).toInt := by rw [fls]
            refine lv_iload_n F.1 F.2.1 dX1_readFold_102 rfl (lv_at hl 0 rfl) ?_
            have hfin : sFo b n c5 x7 h = (v_66, h + 2, x7) := by
              unfold sFo
              repeat (first | with_reducible rfl | refine ite_y (by omega) ?_ | refine ite_n (by omega) ?_ | exact pr_e (by omega) (by omega) (by omega))
            exact g_iret F hr hlk hH hS hz zv_66 ⟨rfl, rfl, rfl, rfl, rfl, hv, hp, pf, by first | omega | rfl | (dsimp only; omega), by (try dsimp only); rw [hfin]; first | done | omega | rfl, by (try dsimp only); rw [hfin]; exact hP, by (try dsimp only); omega, by (try dsimp only); first | exact pIm_n (by omega) | (rw [hfin]; (try dsimp only); exact pIm_y (by first | omega | rfl)) | exact pIm_y (by omega), by (try dsimp only); first | exact zIf_n (by omega) | exact zIf_y ⟨by omega, by rw [if_pos (by omega)]; omega⟩ | exact zIf_y ⟨by omega, by rw [if_neg (by omega)]; omega⟩⟩ dX1_readFold_103
        · refine z_iconst F dX1_readFold_61 ?_
          have hfin : sFo b n c5 x7 h = (0, h + 1, x7) := by
            unfold sFo
            repeat (first | with_reducible rfl | refine ite_y (by omega) ?_ | refine ite_n (by omega) ?_ | exact pr_e (by omega) (by omega) (by omega))
          exact g_iret F hr hlk hH hS hz ⟨by decide, by decide⟩ ⟨rfl, rfl, rfl, rfl, rfl, hv, hp, pf, by first | omega | rfl | (dsimp only; omega), by (try dsimp only); rw [hfin]; first | done | omega | rfl, by (try dsimp only); rw [hfin]; exact hP, by (try dsimp only); omega, by (try dsimp only); first | exact pIm_n (by omega) | (rw [hfin]; (try dsimp only); exact pIm_y (by first | omega | rfl)) | exact pIm_y (by omega), by (try dsimp only); first | exact zIf_n (by omega) | exact zIf_y ⟨by omega, by rw [if_pos (by omega)]; omega⟩ | exact zIf_y ⟨by omega, by rw [if_neg (by omega)]; omega⟩⟩ dX1_readFold_62
      · refine z_iconst F dX1_readFold_33 ?_
        have hfin : sFo b n c5 x7 h = (1, h, 0) := by
          unfold sFo
          repeat (first | with_reducible rfl | refine ite_y (by omega) ?_ | refine ite_n (by omega) ?_ | exact pr_e (by omega) (by omega) (by omega))
        exact g_iret F hr hlk hH hS hz ⟨by decide, by decide⟩ ⟨rfl, rfl, rfl, rfl, rfl, hv, hp, pf, by first | omega | rfl | (dsimp only; omega), by (try dsimp only); rw [hfin]; first | done | omega | rfl, by (try dsimp only); rw [hfin]; exact hP, by (try dsimp only); omega, by (try dsimp only); first | exact pIm_n (by omega) | (rw [hfin]; (try dsimp only); exact pIm_y (by first | omega | rfl)) | exact pIm_y (by omega), by (try dsimp only); first | exact zIf_n (by omega) | exact zIf_y ⟨by omega, by rw [if_pos (by omega)]; omega⟩ | exact zIf_y ⟨by omega, by rw [if_neg (by omega)]; omega⟩⟩ dX1_readFold_34
