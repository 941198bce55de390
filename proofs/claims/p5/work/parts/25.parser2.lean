def rmX1_ringIsUnlike : Room := { frames := 0, cells := 0, slots := 0, locals := 0 }
theorem hdX1_ringIsUnlike : yX1_ringIsUnlike.cls = RX1 ∧ yX1_ringIsUnlike.cls ≠ "java/lang/invoke/MethodHandle" ∧ yX1_ringIsUnlike.cls ≠ "java/lang/invoke/VarHandle" ∧ (parseMethodDescriptor yX1_ringIsUnlike.desc).map (fun d => d.parameters.length) = some 0 := by decide +kernel
set_option maxHeartbeats 4000000 in
set_option maxRecDepth 100000 in
/-- a ring whose columns are unlike -/
theorem c_X1_ringIsUnlike (l : Launch) (g : gG) (gh : gGh) (q ln : Nat) (I : gI) (R : gR) (J : gJ) (AI : gI) (AJ : gJ) (AR : gR) (a : Nat) (hv : gInv g gh R AR I AI) (hp : pS g gh R I a q ln) : gMet l g yX1_ringIsUnlike wsX1_ringIsUnlike rmX1_ringIsUnlike [.ref a] (I, R, J, AI, AJ, AR) (gQi g (fun (z : Int) (w : gS) => I = w.1 ∧ R = w.2.1 ∧ J = w.2.2.1 ∧ AI = w.2.2.2.1 ∧ AJ = w.2.2.2.2.1 ∧ AR = w.2.2.2.2.2 ∧ (z = 0 ∨ z = 1))) := by
  refine gStart (cc := cX1_ringIsUnlike) (maxL := 1) (ret := (some (.boolean))) (by decide) rfl (Nat.le_of_ble_eq_true rfl) ?_
  intro p e s m below meth c ls F hr hlk hH hz hS hl
  have hl : lv_has ls 1 [(0, .ref a)] := hl
  have hS : va_S (gA g) s.heap s.heap [] := hS
  obtain ⟨H, hHe⟩ : ∃ H : Heap, H = s.heap := ⟨_, rfl⟩
  obtain ⟨locs, hlo⟩ : ∃ k : List Loc, k = [] := ⟨_, rfl⟩
  have hH : gH g I R J AI AJ AR H := by rw [hHe]; exact hH
  have hS : va_S (gA g) s.heap H locs := by rw [hHe, hlo]; exact hS
  suffices hw : W p l e rmX1_ringIsUnlike s m ([.ref a] : List Value).toArray below meth c H locs 0 0 (MQ below (gQi g (fun (z : Int) (w : gS) => I = w.1 ∧ R = w.2.1 ∧ J = w.2.2.1 ∧ AI = w.2.2.2.1 ∧ AJ = w.2.2.2.2.1 ∧ AR = w.2.2.2.2.2 ∧ (z = 0 ∨ z = 1))) ([.ref a] : List Value).toArray s 0 0 (gA g)) (F0 m 0 ls []) by
    rw [hHe, hlo] at hw; exact hw
  clear hHe hlo
  have iX1 : ∀ w ∈ u_ws RX1 TX1 4, w ∈ wsX1_ringIsUnlike := (by decide +kernel)
  have iX0 : ∀ w ∈ u_ws RX0 TX0 15, w ∈ wsX1_ringIsUnlike := (by decide +kernel)
  have k29 : Cond.fieldLink RX1 29 (TX1 2).1 (TX1 2).2.1 (TX1 2).2.2.1 ∈ wsX1_ringIsUnlike := List.mem_of_getElem? (i := 1) rfl
  have k143 : Cond.fieldLink RX1 143 (TX0 5).1 (TX0 5).2.1 (TX0 5).2.2.1 ∈ wsX1_ringIsUnlike := List.mem_of_getElem? (i := 2) rfl
  have k146 : Cond.fieldLink RX1 146 (TX0 6).1 (TX0 6).2.1 (TX0 6).2.2.1 ∈ wsX1_ringIsUnlike := List.mem_of_getElem? (i := 3) rfl
  have k149 : Cond.fieldLink RX1 149 (TX0 8).1 (TX0 8).2.1 (TX0 8).2.2.1 ∈ wsX1_ringIsUnlike := List.mem_of_getElem? (i := 4) rfl
  refine lv_aload_n F.1 F.2.1 dX1_ringIsUnlike_0 rfl (lv_at hl 0 rfl) ?_
  refine g_getR (ci := 1) (k := 2) F hH rfl (by decide) iX1 hp.1 (by decide) rfl (b := ln) hp.2.2.2.1 k29 dX1_ringIsUnlike_1 ?_
  refine g_getI (ci := 0) (k := 5) F hH rfl (by decide) iX0 hp.2.2.2.2.1 (by decide) rfl k143 dX1_ringIsUnlike_4 ?_
  have b_1 := gI_line hv hp.2.2.2.2.1
  unfold vLineI at b_1
  refine lv_aload_n F.1 F.2.1 dX1_ringIsUnlike_7 rfl (lv_at hl 0 rfl) ?_
  refine g_getR (ci := 1) (k := 2) F hH rfl (by decide) iX1 hp.1 (by decide) rfl (b := ln) hp.2.2.2.1 k29 dX1_ringIsUnlike_8 ?_
  refine g_getI (ci := 0) (k := 6) F hH rfl (by decide) iX0 hp.2.2.2.2.1 (by decide) rfl k146 dX1_ringIsUnlike_11 ?_
  refine z_iadd F dX1_ringIsUnlike_14 ?_
  refine z_iconst F dX1_ringIsUnlike_15 ?_
  refine z_icmp_gt (tgt := 36) F dX1_ringIsUnlike_16 (by decide) ⟨by omega, by omega⟩ ⟨by decide, by decide⟩ (fun c_2 => ?_) (fun c_2 => ?_)
  · refine z_iconst F dX1_ringIsUnlike_36 ?_
    refine z_goto (tgt := 41) F dX1_ringIsUnlike_37 (by decide) ?_
    exact g_zret F hr hlk hH hS hz (by omega) ⟨rfl, rfl, rfl, rfl, rfl, rfl, by first | omega | rfl | (dsimp only; omega)⟩ dX1_ringIsUnlike_41
  · refine lv_aload_n F.1 F.2.1 dX1_ringIsUnlike_19 rfl (lv_at hl 0 rfl) ?_
    refine g_getR (ci := 1) (k := 2) F hH rfl (by decide) iX1 hp.1 (by decide) rfl (b := ln) hp.2.2.2.1 k29 dX1_ringIsUnlike_20 ?_
    refine g_getI (ci := 0) (k := 8) F hH rfl (by decide) iX0 hp.2.2.2.2.1 (by decide) rfl k149 dX1_ringIsUnlike_23 ?_
    refine lv_aload_n F.1 F.2.1 dX1_ringIsUnlike_26 rfl (lv_at hl 0 rfl) ?_
    refine g_getR (ci := 1) (k := 2) F hH rfl (by decide) iX1 hp.1 (by decide) rfl (b := ln) hp.2.2.2.1 k29 dX1_ringIsUnlike_27 ?_
    refine g_getI (ci := 0) (k := 5) F hH rfl (by decide) iX0 hp.2.2.2.2.1 (by decide) rfl k143 dX1_ringIsUnlike_30 ?_
    refine z_icmp_eq (tgt := 40) F dX1_ringIsUnlike_33 (by decide) (zr_t _) (zr_t _) (fun c_3 => ?_) (fun c_3 => ?_)
    · refine z_iconst F dX1_ringIsUnlike_40 ?_
      exact g_zret F hr hlk hH hS hz (by omega) ⟨rfl, rfl, rfl, rfl, rfl, rfl, by first | omega | rfl | (dsimp only; omega)⟩ dX1_ringIsUnlike_41
    · refine z_iconst F dX1_ringIsUnlike_36 ?_
      refine z_goto (tgt := 41) F dX1_ringIsUnlike_37 (by decide) ?_
      exact g_zret F hr hlk hH hS hz (by omega) ⟨rfl, rfl, rfl, rfl, rfl, rfl, by first | omega | rfl | (dsimp only; omega)⟩ dX1_ringIsUnlike_41

def rmX1_readClose : Room := { frames := 1, cells := 0, slots := 0, locals := 21 }
theorem hdX1_readClose : yX1_readClose.cls = RX1 ∧ yX1_readClose.cls ≠ "java/lang/invoke/MethodHandle" ∧ yX1_readClose.cls ≠ "java/lang/invoke/VarHandle" ∧ (parseMethodDescriptor yX1_readClose.desc).map (fun d => d.parameters.length) = some 0 := by decide +kernel
set_option maxHeartbeats 4000000 in
set_option maxRecDepth 100000 in
/-- the end of a line -/
theorem c_X1_readClose (l : Launch) (g : gG) (gh : gGh) (q ln : Nat) (I : gI) (R : gR) (J : gJ) (AI : gI) (AJ : gJ) (AR : gR) (a : Nat) (hv : gInv g gh R AR I AI) (hp : pS g gh R I a q ln) : gMet l g yX1_readClose wsX1_readClose rmX1_readClose [.ref a] (I, R, J, AI, AJ, AR) (gQi g (fun (z : Int) (w : gS) => R = w.2.1 ∧ J = w.2.2.1 ∧ AI = w.2.2.2.1 ∧ AJ = w.2.2.2.2.1 ∧ AR = w.2.2.2.2.2 ∧ (gInv g gh R AR (w.1) AI) ∧ (pS g gh R (w.1) a q ln) ∧ (pF a ln I (w.1)) ∧ (z = 0 → ((w.1) ln 2).toInt ≤ 4) ∧ (0 ≤ z ∧ z ≤ 5))) := by
  refine gStart (cc := cX1_readClose) (maxL := 1) (ret := (some (.int))) (by decide) rfl (Nat.le_of_ble_eq_true rfl) ?_
  intro p e s m below meth c ls F hr hlk hH hz hS hl
  have hl : lv_has ls 1 [(0, .ref a)] := hl
  have hS : va_S (gA g) s.heap s.heap [] := hS
  obtain ⟨H, hHe⟩ : ∃ H : Heap, H = s.heap := ⟨_, rfl⟩
  obtain ⟨locs, hlo⟩ : ∃ k : List Loc, k = [] := ⟨_, rfl⟩
  have hH : gH g I R J AI AJ AR H := by rw [hHe]; exact hH
  have hS : va_S (gA g) s.heap H locs := by rw [hHe, hlo]; exact hS
  suffices hw : W p l e rmX1_readClose s m ([.ref a] : List Value).toArray below meth c H locs 0 0 (MQ below (gQi g (fun (z : Int) (w : gS) => R = w.2.1 ∧ J = w.2.2.1 ∧ AI = w.2.2.2.1 ∧ AJ = w.2.2.2.2.1 ∧ AR = w.2.2.2.2.2 ∧ (gInv g gh R AR (w.1) AI) ∧ (pS g gh R (w.1) a q ln) ∧ (pF a ln I (w.1)) ∧ (z = 0 → ((w.1) ln 2).toInt ≤ 4) ∧ (0 ≤ z ∧ z ≤ 5))) ([.ref a] : List Value).toArray s 0 0 (gA g)) (F0 m 0 ls []) by
    rw [hHe, hlo] at hw; exact hw
  clear hHe hlo
  have pf : pF a ln I I := pF_r
  have iX1 : ∀ w ∈ u_ws RX1 TX1 4, w ∈ wsX1_readClose := (by decide +kernel)
  have iX0 : ∀ w ∈ u_ws RX0 TX0 15, w ∈ wsX1_readClose := (by decide +kernel)
  have k29 : Cond.fieldLink RX1 29 (TX1 2).1 (TX1 2).2.1 (TX1 2).2.2.1 ∈ wsX1_readClose := List.mem_of_getElem? (i := 1) rfl
  have k136 : Cond.fieldLink RX1 136 (TX0 2).1 (TX0 2).2.1 (TX0 2).2.2.1 ∈ wsX1_readClose := List.mem_of_getElem? (i := 2) rfl
  have k109 : Cond.fieldLink RX1 109 (TX0 0).1 (TX0 0).2.1 (TX0 0).2.2.1 ∈ wsX1_readClose := List.mem_of_getElem? (i := 3) rfl
  refine lv_aload_n F.1 F.2.1 dX1_readClose_0 rfl (lv_at hl 0 rfl) ?_
  refine z_bipush F dX1_readClose_1 (by decide) ?_
  refine g_calli (g_runV (As := [.int (iI 59)]) (rest := []) (ci := 1) F hl.1 hH hS hz (c_X1_isKind l g gh I R J AI AJ AR a 59 ⟨by decide, by decide⟩ hv hp.1 (by first | exact hp.2.2.2.2.2.2.2 | exact hh | omega)) (cwV 1 F.2.2.2.2.1 gX1_readClose_X1_isKind rfl rfl rfl hdX1_isKind ⟨Nat.le_of_ble_eq_true rfl, Nat.le_of_ble_eq_true rfl⟩) hp.1 (by decide) rfl rfl rfl (Nat.le_of_ble_eq_true rfl) dX1_readClose_3 ⟨Nat.zero_le _, Nat.zero_le _⟩) hS (fun v_7 I_1 R_2 J_3 AI_4 AJ_5 AR_6 H locs zv_7 hp_8 hH hS => ?_)
  dsimp only at hp_8
  obtain ⟨rfl, rfl, rfl, rfl, rfl, rfl, q_9⟩ := hp_8
  refine z_if_ne (tgt := 11) F dX1_readClose_6 (by decide) zv_7 (fun c_10 => ?_) (fun c_10 => ?_)
  · refine lv_aload_n F.1 F.2.1 dX1_readClose_11 rfl (lv_at hl 0 rfl) ?_
    refine g_getR (ci := 1) (k := 2) F hH rfl (by decide) iX1 hp.1 (by decide) rfl (b := ln) hp.2.2.2.1 k29 dX1_readClose_12 ?_
    refine g_getI (ci := 0) (k := 2) F hH rfl (by decide) iX0 hp.2.2.2.2.1 (by decide) rfl k136 dX1_readClose_15 ?_
    have b_11 := gI_line hv hp.2.2.2.2.1
    unfold vLineI at b_11
    refine z_iconst F dX1_readClose_18 ?_
    refine z_icmp_le (tgt := 24) F dX1_readClose_19 (by decide) (zr_t _) ⟨by decide, by decide⟩ (fun c_12 => ?_) (fun c_12 => ?_)
    · refine lv_aload_n F.1 F.2.1 dX1_readClose_24 rfl (lv_at hl 0 rfl) ?_
      refine g_getR (ci := 1) (k := 2) F hH rfl (by decide) iX1 hp.1 (by decide) rfl (b := ln) hp.2.2.2.1 k29 dX1_readClose_25 ?_
      refine g_getI (ci := 0) (k := 0) F hH rfl (by decide) iX0 hp.2.2.2.2.1 (by decide) rfl k109 dX1_readClose_28 ?_
      refine z_bipush F dX1_readClose_31 (by decide) ?_
      refine z_icmp_ne (tgt := 45) F dX1_readClose_33 (by decide) (zr_t _) ⟨by decide, by decide⟩ (fun c_13 => ?_) (fun c_13 => ?_)
      · refine lv_aload_n F.1 F.2.1 dX1_readClose_45 rfl (lv_at hl 0 rfl) ?_
        have hv0 := hv
        refine g_callv (g_runV (As := []) (rest := []) (ci := 1) F hl.1 hH hS hz (c_X1_step l g gh I R J AI AJ AR a hv hp.1 (by first | exact hp.2.2.2.2.2.2.2 | exact hh | omega)) (cwV 0 F.2.2.2.2.1 gX1_readClose_X1_step rfl rfl rfl hdX1_step ⟨Nat.le_of_ble_eq_true rfl, Nat.le_of_ble_eq_true rfl⟩) hp.1 (by decide) rfl rfl rfl (Nat.le_of_ble_eq_true rfl) dX1_readClose_46 ⟨Nat.zero_le _, Nat.zero_le _⟩) hS (fun I_14 R_15 J_16 AI_17 AJ_18 AR_19 H locs hp_20 hH hS => ?_)
        dsimp only at hp_20
        obtain ⟨rfl, rfl, rfl, rfl, rfl, hv, fs, hs⟩ := hp_20
        obtain ⟨hp, pfq, fls⟩ := pS_step hv0 hp fs hs
        have pf := pF_t pf pfq
        have u_21q : (I_14 q 1).toInt = (I q 1).toInt := by rw [pF_q hp pfq]
        have u_21_0 : (I_14 ln 0).toInt = (I ln 0).toInt := by rw [fls]
        have u_21_8 : (I_14 ln 8).toInt = (I ln 8).toInt := by rw [fls]
        have k2 : (I_14 ln 2).toInt = (I ln 2).toInt := by rw [fls]
        refine z_iconst F dX1_readClose_49 ?_
        exact g_iret F hr hlk hH hS hz ⟨by decide, by decide⟩ ⟨rfl, rfl, rfl, rfl, rfl, hv, hp, pf, fun h => by first | omega | (dsimp only; omega), by first | omega | rfl | (dsimp only; omega)⟩ dX1_readClose_50
      · refine lv_aload_n F.1 F.2.1 dX1_readClose_36 rfl (lv_at hl 0 rfl) ?_
        refine g_calli (g_runV (As := []) (rest := []) (ci := 1) F hl.1 hH hS hz (c_X1_ringIsUnlike l g gh q ln I R J AI AJ AR a hv hp) (cwV 0 F.2.2.2.2.1 gX1_readClose_X1_ringIsUnlike rfl rfl rfl hdX1_ringIsUnlike ⟨Nat.le_of_ble_eq_true rfl, Nat.le_of_ble_eq_true rfl⟩) hp.1 (by decide) rfl rfl rfl (Nat.le_of_ble_eq_true rfl) dX1_readClose_37 ⟨Nat.zero_le _, Nat.zero_le _⟩) hS (fun v_28 I_22 R_23 J_24 AI_25 AJ_26 AR_27 H locs zv_28 hp_29 hH hS => ?_)
        dsimp only at hp_29
        obtain ⟨rfl, rfl, rfl, rfl, rfl, rfl, q_30⟩ := hp_29
        refine z_if_eq (tgt := 45) F dX1_readClose_40 (by decide) zv_28 (fun c_31 => ?_) (fun c_31 => ?_)
        · refine lv_aload_n F.1 F.2.1 dX1_readClose_45 rfl (lv_at hl 0 rfl) ?_
          have hv0 := hv
          refine g_callv (g_runV (As := []) (rest := []) (ci := 1) F hl.1 hH hS hz (c_X1_step l g gh I R J AI AJ AR a hv hp.1 (by first | exact hp.2.2.2.2.2.2.2 | exact hh | omega)) (cwV 0 F.2.2.2.2.1 gX1_readClose_X1_step rfl rfl rfl hdX1_step ⟨Nat.le_of_ble_eq_true rfl, Nat.le_of_ble_eq_true rfl⟩) hp.1 (by decide) rfl rfl rfl (Nat.le_of_ble_eq_true rfl) dX1_readClose_46 ⟨Nat.zero_le _, Nat.zero_le _⟩) hS (fun I_32 R_33 J_34 AI_35 AJ_36 AR_37 H locs hp_38 hH hS => ?_)
          dsimp only at hp_38
          obtain ⟨rfl, rfl, rfl, rfl, rfl, hv, fs, hs⟩ := hp_38
          obtain ⟨hp, pfq, fls⟩ := pS_step hv0 hp fs hs
          have pf := pF_t pf pfq
          have u_39q : (I_32 q 1).toInt = (I q 1).toInt := by rw [pF_q hp pfq]
          have u_39_0 : (I_32 ln 0).toInt = (I ln 0).toInt := by rw [fls]
          have u_39_8 : (I_32 ln 8).toInt = (I ln 8).toInt := by rw [fls]
          have k2 : (I_32 ln 2).toInt = (I ln 2).toInt := by rw [fls]
          refine z_iconst F dX1_readClose_49 ?_
          exact g_iret F hr hlk hH hS hz ⟨by decide, by decide⟩ ⟨rfl, rfl, rfl, rfl, rfl, hv, hp, pf, fun h => by first | omega | (dsimp only; omega), by first | omega | rfl | (dsimp only; omega)⟩ dX1_readClose_50
        · refine z_iconst F dX1_readClose_43 ?_
          exact g_iret F hr hlk hH hS hz ⟨by decide, by decide⟩ ⟨rfl, rfl, rfl, rfl, rfl, hv, hp, pf, fun h => by first | omega | (dsimp only; omega), by first | omega | rfl | (dsimp only; omega)⟩ dX1_readClose_44
    · refine z_iconst F dX1_readClose_22 ?_
      exact g_iret F hr hlk hH hS hz ⟨by decide, by decide⟩ ⟨rfl, rfl, rfl, rfl, rfl, hv, hp, pf, fun h => by first | omega | (dsimp only; omega), by first | omega | rfl | (dsimp only; omega)⟩ dX1_readClose_23
  · refine z_iconst F dX1_readClose_9 ?_
    exact g_iret F hr hlk hH hS hz ⟨by decide, by decide⟩ ⟨rfl, rfl, rfl, rfl, rfl, hv, hp, pf, fun h => by first | omega | (dsimp only; omega), by first | omega | rfl | (dsimp only; omega)⟩ dX1_readClose_10

def rmX1_readBody : Room := { frames := 5, cells := 0, slots := 0, locals := 111 }
theorem hdX1_readBody : yX1_readBody.cls = RX1 ∧ yX1_readBody.cls ≠ "java/lang/invoke/MethodHandle" ∧ yX1_readBody.cls ≠ "java/lang/invoke/VarHandle" ∧ (parseMethodDescriptor yX1_readBody.desc).map (fun d => d.parameters.length) = some 0 := by decide +kernel
set_option maxHeartbeats 4000000 in
set_option maxRecDepth 100000 in
/-- the body of a line -/
theorem c_X1_readBody (l : Launch) (g : gG) (gh : gGh) (q ln : Nat) (I : gI) (R : gR) (J : gJ) (AI : gI) (AJ : gJ) (AR : gR) (a : Nat) (hv : gInv g gh R AR I AI) (hp : pS g gh R I a q ln) : gMet l g yX1_readBody wsX1_readBody rmX1_readBody [.ref a] (I, R, J, AI, AJ, AR) (gQi g (fun (z : Int) (w : gS) => R = w.2.1 ∧ J = w.2.2.1 ∧ AJ = w.2.2.2.2.1 ∧ AR = w.2.2.2.2.2 ∧ (gInv g gh R AR (w.1) (w.2.2.2.1)) ∧ (pS g gh R (w.1) a q ln) ∧ (pF a ln I (w.1)) ∧ (0 ≤ z ∧ z ≤ 5))) := by
  refine gStart (cc := cX1_readBody) (maxL := 1) (ret := (some (.int))) (by decide) rfl (Nat.le_of_ble_eq_true rfl) ?_
  intro p e s m below meth c ls F hr hlk hH hz hS hl
  have hl : lv_has ls 1 [(0, .ref a)] := hl
  have hS : va_S (gA g) s.heap s.heap [] := hS
  obtain ⟨H, hHe⟩ : ∃ H : Heap, H = s.heap := ⟨_, rfl⟩
  obtain ⟨locs, hlo⟩ : ∃ k : List Loc, k = [] := ⟨_, rfl⟩
  have hH : gH g I R J AI AJ AR H := by rw [hHe]; exact hH
  have hS : va_S (gA g) s.heap H locs := by rw [hHe, hlo]; exact hS
  suffices hw : W p l e rmX1_readBody s m ([.ref a] : List Value).toArray below meth c H locs 0 0 (MQ below (gQi g (fun (z : Int) (w : gS) => R = w.2.1 ∧ J = w.2.2.1 ∧ AJ = w.2.2.2.2.1 ∧ AR = w.2.2.2.2.2 ∧ (gInv g gh R AR (w.1) (w.2.2.2.1)) ∧ (pS g gh R (w.1) a q ln) ∧ (pF a ln I (w.1)) ∧ (0 ≤ z ∧ z ≤ 5))) ([.ref a] : List Value).toArray s 0 0 (gA g)) (F0 m 0 ls []) by
    rw [hHe, hlo] at hw; exact hw
  clear hHe hlo
  have pf : pF a ln I I := pF_r
  have iX1 : ∀ w ∈ u_ws RX1 TX1 4, w ∈ wsX1_readBody := (by decide +kernel)
  have iX0 : ∀ w ∈ u_ws RX0 TX0 15, w ∈ wsX1_readBody := (by decide +kernel)
  have k29 : Cond.fieldLink RX1 29 (TX1 2).1 (TX1 2).2.1 (TX1 2).2.2.1 ∈ wsX1_readBody := List.mem_of_getElem? (i := 1) rfl
  have k109 : Cond.fieldLink RX1 109 (TX0 0).1 (TX0 0).2.1 (TX0 0).2.2.1 ∈ wsX1_readBody := List.mem_of_getElem? (i := 2) rfl
  refine lv_aload_n F.1 F.2.1 dX1_readBody_0 rfl (lv_at hl 0 rfl) ?_
  refine g_getR (ci := 1) (k := 2) F hH rfl (by decide) iX1 hp.1 (by decide) rfl (b := ln) hp.2.2.2.1 k29 dX1_readBody_1 ?_
  refine g_getI (ci := 0) (k := 0) F hH rfl (by decide) iX0 hp.2.2.2.2.1 (by decide) rfl k109 dX1_readBody_4 ?_
  have b_1 := gI_line hv hp.2.2.2.2.1
  unfold vLineI at b_1
  have ec_2 : (iI ((I ln 0).toInt)).toInt = (I ln 0).toInt := iI_val (zr_t _)
  by_cases c_2 : ((I ln 0).toInt) < 1 ∨ 8 < ((I ln 0).toInt)
  · refine lv_tableOut (tgt := 87) F.1 F.2.1 dX1_readBody_7 (by rw [ec_2]; exact c_2) (by decide) ?_
    refine lv_aload_n F.1 F.2.1 dX1_readBody_87 rfl (lv_at hl 0 rfl) ?_
    refine g_calli (g_runV (As := []) (rest := []) (ci := 1) F hl.1 hH hS hz (c_X1_readTableColumns l g gh q ln I R J AI AJ AR a hv hp) (cwV 0 F.2.2.2.2.1 gX1_readBody_X1_readTableColumns rfl rfl rfl hdX1_readTableColumns ⟨Nat.le_of_ble_eq_true rfl, Nat.le_of_ble_eq_true rfl⟩) hp.1 (by decide) rfl rfl rfl (Nat.le_of_ble_eq_true rfl) dX1_readBody_88 ⟨Nat.zero_le _, Nat.zero_le _⟩) hS (fun v_9 I_3 R_4 J_5 AI_6 AJ_7 AR_8 H locs zv_9 hp_10 hH hS => ?_)
    dsimp only at hp_10
    obtain ⟨rfl, rfl, rfl, rfl, rfl, hv, hp, pfq, q_11⟩ := hp_10
    have pf := pF_t pf pfq
    have u_12q : (I_3 q 1).toInt = (I q 1).toInt := by rw [pF_q hp pfq]
    have u_12_0 : (I_3 ln 0).toInt = (I ln 0).toInt := by rw [pfq.2]
    exact g_iret F hr hlk hH hS hz zv_9 ⟨rfl, rfl, rfl, rfl, hv, hp, pf, by first | omega | rfl | (dsimp only; omega)⟩ dX1_readBody_91
  by_cases c_2_0 : (I ln 0).toInt = 1
  · refine lv_tableIn (tgt := 52) (off := 45) F.1 F.2.1 dX1_readBody_7 (by rw [ec_2]; omega) (by rw [ec_2]; omega) (by rw [ec_2, c_2_0]; rfl) (by decide) ?_
    refine lv_aload_n F.1 F.2.1 dX1_readBody_52 rfl (lv_at hl 0 rfl) ?_
    refine g_calli (g_runV (As := []) (rest := []) (ci := 1) F hl.1 hH hS hz (c_X1_readSelect l g gh q ln I R J AI AJ AR a hv hp (by omega)) (cwV 0 F.2.2.2.2.1 gX1_readBody_X1_readSelect rfl rfl rfl hdX1_readSelect ⟨Nat.le_of_ble_eq_true rfl, Nat.le_of_ble_eq_true rfl⟩) hp.1 (by decide) rfl rfl rfl (Nat.le_of_ble_eq_true rfl) dX1_readBody_53 ⟨Nat.zero_le _, Nat.zero_le _⟩) hS (fun v_19 I_13 R_14 J_15 AI_16 AJ_17 AR_18 H locs zv_19 hp_20 hH hS => ?_)
    dsimp only at hp_20
    obtain ⟨rfl, rfl, rfl, rfl, hv, hp, pfq, q_21⟩ := hp_20
    have pf := pF_t pf pfq
    have u_22q : (I_13 q 1).toInt = (I q 1).toInt := by rw [pF_q hp pfq]
    have u_22_0 : (I_13 ln 0).toInt = (I ln 0).toInt := by rw [pfq.2]
    exact g_iret F hr hlk hH hS hz zv_19 ⟨rfl, rfl, rfl, rfl, hv, hp, pf, by first | omega | rfl | (dsimp only; omega)⟩ dX1_readBody_56
  by_cases c_2_1 : (I ln 0).toInt = 2
  · refine lv_tableIn (tgt := 57) (off := 50) F.1 F.2.1 dX1_readBody_7 (by rw [ec_2]; omega) (by rw [ec_2]; omega) (by rw [ec_2, c_2_1]; rfl) (by decide) ?_
    refine lv_aload_n F.1 F.2.1 dX1_readBody_57 rfl (lv_at hl 0 rfl) ?_
    refine g_calli (g_runV (As := []) (rest := []) (ci := 1) F hl.1 hH hS hz (c_X1_readProject l g gh q ln I R J AI AJ AR a hv hp (by omega)) (cwV 0 F.2.2.2.2.1 gX1_readBody_X1_readProject rfl rfl rfl hdX1_readProject ⟨Nat.le_of_ble_eq_true rfl, Nat.le_of_ble_eq_true rfl⟩) hp.1 (by decide) rfl rfl rfl (Nat.le_of_ble_eq_true rfl) dX1_readBody_58 ⟨Nat.zero_le _, Nat.zero_le _⟩) hS (fun v_29 I_23 R_24 J_25 AI_26 AJ_27 AR_28 H locs zv_29 hp_30 hH hS => ?_)
    dsimp only at hp_30
    obtain ⟨rfl, rfl, rfl, rfl, hv, hp, pfq, q_31⟩ := hp_30
    have pf := pF_t pf pfq
    have u_32q : (I_23 q 1).toInt = (I q 1).toInt := by rw [pF_q hp pfq]
    have u_32_0 : (I_23 ln 0).toInt = (I ln 0).toInt := by rw [pfq.2]
    exact g_iret F hr hlk hH hS hz zv_29 ⟨rfl, rfl, rfl, rfl, hv, hp, pf, by first | omega | rfl | (dsimp only; omega)⟩ dX1_readBody_61
  by_cases c_2_2 : (I ln 0).toInt = 3
  · refine lv_tableIn (tgt := 62) (off := 55) F.1 F.2.1 dX1_readBody_7 (by rw [ec_2]; omega) (by rw [ec_2]; omega) (by rw [ec_2, c_2_2]; rfl) (by decide) ?_
    refine lv_aload_n F.1 F.2.1 dX1_readBody_62 rfl (lv_at hl 0 rfl) ?_
    refine g_calli (g_runV (As := []) (rest := []) (ci := 1) F hl.1 hH hS hz (c_X1_readJoin l g gh q ln I R J AI AJ AR a hv hp (by omega)) (cwV 0 F.2.2.2.2.1 gX1_readBody_X1_readJoin rfl rfl rfl hdX1_readJoin ⟨Nat.le_of_ble_eq_true rfl, Nat.le_of_ble_eq_true rfl⟩) hp.1 (by decide) rfl rfl rfl (Nat.le_of_ble_eq_true rfl) dX1_readBody_63 ⟨Nat.zero_le _, Nat.zero_le _⟩) hS (fun v_39 I_33 R_34 J_35 AI_36 AJ_37 AR_38 H locs zv_39 hp_40 hH hS => ?_)
    dsimp only at hp_40
    obtain ⟨rfl, rfl, rfl, rfl, hv, hp, pfq, q_41⟩ := hp_40
    have pf := pF_t pf pfq
    have u_42q : (I_33 q 1).toInt = (I q 1).toInt := by rw [pF_q hp pfq]
    have u_42_0 : (I_33 ln 0).toInt = (I ln 0).toInt := by rw [pfq.2]
    exact g_iret F hr hlk hH hS hz zv_39 ⟨rfl, rfl, rfl, rfl, hv, hp, pf, by first | omega | rfl | (dsimp only; omega)⟩ dX1_readBody_66
  by_cases c_2_3 : (I ln 0).toInt = 4
  · refine lv_tableIn (tgt := 67) (off := 60) F.1 F.2.1 dX1_readBody_7 (by rw [ec_2]; omega) (by rw [ec_2]; omega) (by rw [ec_2, c_2_3]; rfl) (by decide) ?_
    refine lv_aload_n F.1 F.2.1 dX1_readBody_67 rfl (lv_at hl 0 rfl) ?_
    refine g_calli (g_runV (As := []) (rest := []) (ci := 1) F hl.1 hH hS hz (c_X1_readTwoAlike l g gh q ln I R J AI AJ AR a hv hp (by omega)) (cwV 0 F.2.2.2.2.1 gX1_readBody_X1_readTwoAlike rfl rfl rfl hdX1_readTwoAlike ⟨Nat.le_of_ble_eq_true rfl, Nat.le_of_ble_eq_true rfl⟩) hp.1 (by decide) rfl rfl rfl (Nat.le_of_ble_eq_true rfl) dX1_readBody_68 ⟨Nat.zero_le _, Nat.zero_le _⟩) hS (fun v_49 I_43 R_44 J_45 AI_46 AJ_47 AR_48 H locs zv_49 hp_50 hH hS => ?_)
    dsimp only at hp_50
    obtain ⟨rfl, rfl, rfl, rfl, rfl, hv, hp, pfq, q_51⟩ := hp_50
    have pf := pF_t pf pfq
    have u_52q : (I_43 q 1).toInt = (I q 1).toInt := by rw [pF_q hp pfq]
    have u_52_0 : (I_43 ln 0).toInt = (I ln 0).toInt := by rw [pfq.2]
    exact g_iret F hr hlk hH hS hz zv_49 ⟨rfl, rfl, rfl, rfl, hv, hp, pf, by first | omega | rfl | (dsimp only; omega)⟩ dX1_readBody_71
  by_cases c_2_4 : (I ln 0).toInt = 5
  · refine lv_tableIn (tgt := 67) (off := 60) F.1 F.2.1 dX1_readBody_7 (by rw [ec_2]; omega) (by rw [ec_2]; omega) (by rw [ec_2, c_2_4]; rfl) (by decide) ?_
    refine lv_aload_n F.1 F.2.1 dX1_readBody_67 rfl (lv_at hl 0 rfl) ?_
    refine g_calli (g_runV (As := []) (rest := []) (ci := 1) F hl.1 hH hS hz (c_X1_readTwoAlike l g gh q ln I R J AI AJ AR a hv hp (by omega)) (cwV 0 F.2.2.2.2.1 gX1_readBody_X1_readTwoAlike rfl rfl rfl hdX1_readTwoAlike ⟨Nat.le_of_ble_eq_true rfl, Nat.le_of_ble_eq_true rfl⟩) hp.1 (by decide) rfl rfl rfl (Nat.le_of_ble_eq_true rfl) dX1_readBody_68 ⟨Nat.zero_le _, Nat.zero_le _⟩) hS (fun v_59 I_53 R_54 J_55 AI_56 AJ_57 AR_58 H locs zv_59 hp_60 hH hS => ?_)
    dsimp only at hp_60
    obtain ⟨rfl, rfl, rfl, rfl, rfl, hv, hp, pfq, q_61⟩ := hp_60
    have pf := pF_t pf pfq
    have u_62q : (I_53 q 1).toInt = (I q 1).toInt := by rw [pF_q hp pfq]
    have u_62_0 : (I_53 ln 0).toInt = (I ln 0).toInt := by rw [pfq.2]
    exact g_iret F hr hlk hH hS hz zv_59 ⟨rfl, rfl, rfl, rfl, hv, hp, pf, by first | omega | rfl | (dsimp only; omega)⟩ dX1_readBody_71
  by_cases c_2_5 : (I ln 0).toInt = 6
  · refine lv_tableIn (tgt := 72) (off := 65) F.1 F.2.1 dX1_readBody_7 (by rw [ec_2]; omega) (by rw [ec_2]; omega) (by rw [ec_2, c_2_5]; rfl) (by decide) ?_
    refine lv_aload_n F.1 F.2.1 dX1_readBody_72 rfl (lv_at hl 0 rfl) ?_
    refine g_calli (g_runV (As := []) (rest := []) (ci := 1) F hl.1 hH hS hz (c_X1_readDistinct l g gh q ln I R J AI AJ AR a hv hp (by omega)) (cwV 0 F.2.2.2.2.1 gX1_readBody_X1_readDistinct rfl rfl rfl hdX1_readDistinct ⟨Nat.le_of_ble_eq_true rfl, Nat.le_of_ble_eq_true rfl⟩) hp.1 (by decide) rfl rfl rfl (Nat.le_of_ble_eq_true rfl) dX1_readBody_73 ⟨Nat.zero_le _, Nat.zero_le _⟩) hS (fun v_69 I_63 R_64 J_65 AI_66 AJ_67 AR_68 H locs zv_69 hp_70 hH hS => ?_)
    dsimp only at hp_70
    obtain ⟨rfl, rfl, rfl, rfl, rfl, hv, hp, pfq, q_71⟩ := hp_70
    have pf := pF_t pf pfq
    have u_72q : (I_63 q 1).toInt = (I q 1).toInt := by rw [pF_q hp pfq]
    have u_72_0 : (I_63 ln 0).toInt = (I ln 0).toInt := by rw [pfq.2]
    exact g_iret F hr hlk hH hS hz zv_69 ⟨rfl, rfl, rfl, rfl, hv, hp, pf, by first | omega | rfl | (dsimp only; omega)⟩ dX1_readBody_76
  by_cases c_2_6 : (I ln 0).toInt = 7
  · refine lv_tableIn (tgt := 77) (off := 70) F.1 F.2.1 dX1_readBody_7 (by rw [ec_2]; omega) (by rw [ec_2]; omega) (by rw [ec_2, c_2_6]; rfl) (by decide) ?_
    refine lv_aload_n F.1 F.2.1 dX1_readBody_77 rfl (lv_at hl 0 rfl) ?_
    refine g_calli (g_runV (As := []) (rest := []) (ci := 1) F hl.1 hH hS hz (c_X1_readGroup l g gh q ln I R J AI AJ AR a hv hp (by omega)) (cwV 0 F.2.2.2.2.1 gX1_readBody_X1_readGroup rfl rfl rfl hdX1_readGroup ⟨Nat.le_of_ble_eq_true rfl, Nat.le_of_ble_eq_true rfl⟩) hp.1 (by decide) rfl rfl rfl (Nat.le_of_ble_eq_true rfl) dX1_readBody_78 ⟨Nat.zero_le _, Nat.zero_le _⟩) hS (fun v_79 I_73 R_74 J_75 AI_76 AJ_77 AR_78 H locs zv_79 hp_80 hH hS => ?_)
    dsimp only at hp_80
    obtain ⟨rfl, rfl, rfl, rfl, hv, hp, pfq, q_81⟩ := hp_80
    have pf := pF_t pf pfq
    have u_82q : (I_73 q 1).toInt = (I q 1).toInt := by rw [pF_q hp pfq]
    have u_82_0 : (I_73 ln 0).toInt = (I ln 0).toInt := by rw [pfq.2]
    exact g_iret F hr hlk hH hS hz zv_79 ⟨rfl, rfl, rfl, rfl, hv, hp, pf, by first | omega | rfl | (dsimp only; omega)⟩ dX1_readBody_81
  have c_2_7 : (I ln 0).toInt = 8 := by omega
  refine lv_tableIn (tgt := 82) (off := 75) F.1 F.2.1 dX1_readBody_7 (by rw [ec_2]; omega) (by rw [ec_2]; omega) (by rw [ec_2, c_2_7]; rfl) (by decide) ?_
  refine lv_aload_n F.1 F.2.1 dX1_readBody_82 rfl (lv_at hl 0 rfl) ?_
  refine g_calli (g_runV (As := []) (rest := []) (ci := 1) F hl.1 hH hS hz (c_X1_readRing l g gh q ln I R J AI AJ AR a hv hp (by omega)) (cwV 0 F.2.2.2.2.1 gX1_readBody_X1_readRing rfl rfl rfl hdX1_readRing ⟨Nat.le_of_ble_eq_true rfl, Nat.le_of_ble_eq_true rfl⟩) hp.1 (by decide) rfl rfl rfl (Nat.le_of_ble_eq_true rfl) dX1_readBody_83 ⟨Nat.zero_le _, Nat.zero_le _⟩) hS (fun v_89 I_83 R_84 J_85 AI_86 AJ_87 AR_88 H locs zv_89 hp_90 hH hS => ?_)
  dsimp only at hp_90
  obtain ⟨rfl, rfl, rfl, rfl, hv, hp, pfq, q_91⟩ := hp_90
  have pf := pF_t pf pfq
  have u_92q : (I_83 q 1).toInt = (I q 1).toInt := by rw [pF_q hp pfq]
  have u_92_0 : (I_83 ln 0).toInt = (I ln 0).toInt := by rw [pfq.2]
  exact g_iret F hr hlk hH hS hz zv_89 ⟨rfl, rfl, rfl, rfl, hv, hp, pf, by first | omega | rfl | (dsimp only; omega)⟩ dX1_readBody_86

def rmX1_readNewName : Room := { frames := 2, cells := 0, slots := 0, locals := 42 }
theorem hdX1_readNewName : yX1_readNewName.cls = RX1 ∧ yX1_readNewName.cls ≠ "java/lang/invoke/MethodHandle" ∧ yX1_readNewName.cls ≠ "java/lang/invoke/VarHandle" ∧ (parseMethodDescriptor yX1_readNewName.desc).map (fun d => d.parameters.length) = some 0 := by decide +kernel
set_option maxHeartbeats 4000000 in
set_option maxRecDepth 100000 in
/-- a new name -/
theorem c_X1_readNewName (l : Launch) (g : gG) (gh : gGh) (q ln : Nat) (I : gI) (R : gR) (J : gJ) (AI : gI) (AJ : gJ) (AR : gR) (a : Nat) (hv : gInv g gh R AR I AI) (hp : pS g gh R I a q ln) : gMet l g yX1_readNewName wsX1_readNewName rmX1_readNewName [.ref a] (I, R, J, AI, AJ, AR) (gQi g (fun (z : Int) (w : gS) => R = w.2.1 ∧ AI = w.2.2.2.1 ∧ AJ = w.2.2.2.2.1 ∧ AR = w.2.2.2.2.2 ∧ (gInv g gh R AR (w.1) AI) ∧ (pS g gh R (w.1) a q ln) ∧ (pF a ln I (w.1)) ∧ ((w.1) ln = I ln) ∧ (0 ≤ z ∧ z ≤ 3))) := by
  refine gStart (cc := cX1_readNewName) (maxL := 3) (ret := (some (.int))) (by decide) rfl (Nat.le_of_ble_eq_true rfl) ?_
  intro p e s m below meth c ls F hr hlk hH hz hS hl
  have hl : lv_has ls 3 [(0, .ref a)] := hl
  have hS : va_S (gA g) s.heap s.heap [] := hS
  obtain ⟨H, hHe⟩ : ∃ H : Heap, H = s.heap := ⟨_, rfl⟩
  obtain ⟨locs, hlo⟩ : ∃ k : List Loc, k = [] := ⟨_, rfl⟩
  have hH : gH g I R J AI AJ AR H := by rw [hHe]; exact hH
  have hS : va_S (gA g) s.heap H locs := by rw [hHe, hlo]; exact hS
  suffices hw : W p l e rmX1_readNewName s m ([.ref a] : List Value).toArray below meth c H locs 0 0 (MQ below (gQi g (fun (z : Int) (w : gS) => R = w.2.1 ∧ AI = w.2.2.2.1 ∧ AJ = w.2.2.2.2.1 ∧ AR = w.2.2.2.2.2 ∧ (gInv g gh R AR (w.1) AI) ∧ (pS g gh R (w.1) a q ln) ∧ (pF a ln I (w.1)) ∧ ((w.1) ln = I ln) ∧ (0 ≤ z ∧ z ≤ 3))) ([.ref a] : List Value).toArray s 0 0 (gA g)) (F0 m 0 ls []) by
    rw [hHe, hlo] at hw; exact hw
  clear hHe hlo
  have pf : pF a ln I I := pF_r
  have iX5 : ∀ w ∈ u_ws RX5 TX5 5, w ∈ wsX1_readNewName := (by decide +kernel)
  have iX1 : ∀ w ∈ u_ws RX1 TX1 4, w ∈ wsX1_readNewName := (by decide +kernel)
  have iX0 : ∀ w ∈ u_ws RX0 TX0 15, w ∈ wsX1_readNewName := (by decide +kernel)
  have k12 : Cond.fieldLink RX1 12 (TX1 0).1 (TX1 0).2.1 (TX1 0).2.2.1 ∈ wsX1_readNewName := List.mem_of_getElem? (i := 1) rfl
  have k93 : Cond.fieldLink RX1 93 (TX5 3).1 (TX5 3).2.1 (TX5 3).2.2.1 ∈ wsX1_readNewName := List.mem_of_getElem? (i := 2) rfl
  have k44 : Cond.fieldLink RX1 44 (TX1 3).1 (TX1 3).2.1 (TX1 3).2.2.1 ∈ wsX1_readNewName := List.mem_of_getElem? (i := 3) rfl
  have k21 : Cond.fieldLink RX1 21 (TX1 1).1 (TX1 1).2.1 (TX1 1).2.2.1 ∈ wsX1_readNewName := List.mem_of_getElem? (i := 4) rfl
  have k29 : Cond.fieldLink RX1 29 (TX1 2).1 (TX1 2).2.1 (TX1 2).2.2.1 ∈ wsX1_readNewName := List.mem_of_getElem? (i := 5) rfl
  have k101 : Cond.fieldLink RX1 101 (TX0 1).1 (TX0 1).2.1 (TX0 1).2.2.1 ∈ wsX1_readNewName := List.mem_of_getElem? (i := 6) rfl
  refine lv_aload_n F.1 F.2.1 dX1_readNewName_0 rfl (lv_at hl 0 rfl) ?_
  refine z_iconst F dX1_readNewName_1 ?_
  refine g_calli (g_runV (As := [.int (iI ((-1)))]) (rest := []) (ci := 1) F hl.1 hH hS hz (c_X1_isWord l g gh I R J AI AJ AR a (-1) ⟨by decide, by decide⟩ hv hp.1 (by first | exact hp.2.2.2.2.2.2.2 | exact hh | omega)) (cwV 1 F.2.2.2.2.1 gX1_readNewName_X1_isWord rfl rfl rfl hdX1_isWord ⟨Nat.le_of_ble_eq_true rfl, Nat.le_of_ble_eq_true rfl⟩) hp.1 (by decide) rfl rfl rfl (Nat.le_of_ble_eq_true rfl) dX1_readNewName_2 ⟨Nat.zero_le _, Nat.zero_le _⟩) hS (fun v_7 I_1 R_2 J_3 AI_4 AJ_5 AR_6 H locs zv_7 hp_8 hH hS => ?_)
  dsimp only at hp_8
  obtain ⟨rfl, rfl, rfl, rfl, rfl, rfl, q_9⟩ := hp_8
  refine z_if_ne (tgt := 10) F dX1_readNewName_5 (by decide) zv_7 (fun c_10 => ?_) (fun c_10 => ?_)
  · refine lv_aload_n F.1 F.2.1 dX1_readNewName_10 rfl (lv_at hl 0 rfl) ?_
    refine g_getR (ci := 1) (k := 0) F hH rfl (by decide) iX1 hp.1 (by decide) rfl (b := gh 22 0) (gR_pr0 hv hp.1).1 k12 dX1_readNewName_11 ?_
    obtain ⟨r_11a, r_11b⟩ := gR_tk3 hv (gR_pr0 hv hp.1).2
    refine g_getR (ci := 5) (k := 3) F hH rfl (by decide) iX5 (gR_pr0 hv hp.1).2 (by decide) rfl (b := gh 27 0) r_11a k93 dX1_readNewName_14 ?_
    refine lv_aload_n F.1 F.2.1 dX1_readNewName_17 rfl (lv_at hl 0 rfl) ?_
    refine g_getI (ci := 1) (k := 3) F hH rfl (by decide) iX1 hp.1 (by decide) rfl k44 dX1_readNewName_18 ?_
    have b_12h := hp.2.2.2.2.2.2.2
    have b_12 := gI_pr hv hp.1
    have b_12t := gI_tk hv (gR_pr0 hv hp.1).2
    have hx21 : 0 ≤ ((I a 3).toInt) ∧ ((I a 3).toInt) < ((901 : Nat) : Int) ∧ ((I a 3).toInt) ≤ 2147483647 := ⟨by omega, by omega, by omega⟩
    refine g_lald F hH r_11b hx21.1 hx21.2.1 hx21.2.2 dX1_readNewName_21 ?_
    refine lv_topl (fun j_13 ej_13 => ?_)
    refine lv_lstore_n (lv' := [(1, .long j_13), (0, .ref a)]) F.1 F.2.1 dX1_readNewName_22 rfl hl (by decide) rfl (fun ls hl => ?_)
    refine lv_aload_n F.1 F.2.1 dX1_readNewName_23 rfl (lv_at hl 1 rfl) ?_
    refine g_getR (ci := 1) (k := 1) F hH rfl (by decide) iX1 hp.1 (by decide) rfl (b := q) hp.2.1 k21 dX1_readNewName_24 ?_
    refine lv_lload_n F.1 F.2.1 dX1_readNewName_27 rfl (lv_at hl 0 rfl) ?_
    have b_14 := gI_plan hv hp.2.2.1
    refine g_calli (g_runV (As := [.long j_13]) (rest := []) (ci := 2) F hl.1 hH hS hz (c_X2_relationOf l g gh I R J AI AJ AR q j_13 hv hp.2.2.1) (cwV 1 F.2.2.2.2.1 gX1_readNewName_X2_relationOf rfl rfl rfl hdX2_relationOf ⟨Nat.le_of_ble_eq_true rfl, Nat.le_of_ble_eq_true rfl⟩) hp.2.2.1 (by decide) rfl rfl rfl (Nat.le_of_ble_eq_true rfl) dX1_readNewName_28 ⟨Nat.zero_le _, Nat.zero_le _⟩) hS (fun v_21 I_15 R_16 J_17 AI_18 AJ_19 AR_20 H locs zv_21 hp_22 hH hS => ?_)
    dsimp only at hp_22
    obtain ⟨rfl, rfl, rfl, rfl, rfl, rfl, q_23⟩ := hp_22
    refine z_iconst F dX1_readNewName_31 ?_
    refine z_icmp_eq (tgt := 37) F dX1_readNewName_32 (by decide) zv_21 ⟨by decide, by decide⟩ (fun c_24 => ?_) (fun c_24 => ?_)
    · refine lv_aload_n F.1 F.2.1 dX1_readNewName_37 rfl (lv_at hl 1 rfl) ?_
      refine g_getR (ci := 1) (k := 2) F hH rfl (by decide) iX1 hp.1 (by decide) rfl (b := ln) hp.2.2.2.1 k29 dX1_readNewName_38 ?_
      refine lv_lload_n F.1 F.2.1 dX1_readNewName_41 rfl (lv_at hl 0 rfl) ?_
      refine g_putJ (ci := 0) (k := 1) F hH hS rfl (by decide) iX0 hp.2.2.2.2.1 (by decide) tyX0 tyX0_ok nmX0 rfl rfl rfl k101 dX1_readNewName_42 (fun H locs hH hS => ?_)
      obtain ⟨J_25, eJ_25⟩ : ∃ qQ, qQ = gup2 J ln 1 (j_13) := ⟨_, rfl⟩
      rw [← eJ_25] at hH
      have kJ_25 : ∀ b, b ≠ ln → J_25 b = J b := fun b hb => by rw [eJ_25]; exact funext fun j => gup2_a _ _ hb
      refine lv_aload_n F.1 F.2.1 dX1_readNewName_45 rfl (lv_at hl 1 rfl) ?_
      have hv0 := hv
      refine g_callv (g_runV (As := []) (rest := []) (ci := 1) F hl.1 hH hS hz (c_X1_step l g gh I R J_25 AI AJ AR a hv hp.1 (by first | exact hp.2.2.2.2.2.2.2 | exact hh | omega)) (cwV 0 F.2.2.2.2.1 gX1_readNewName_X1_step rfl rfl rfl hdX1_step ⟨Nat.le_of_ble_eq_true rfl, Nat.le_of_ble_eq_true rfl⟩) hp.1 (by decide) rfl rfl rfl (Nat.le_of_ble_eq_true rfl) dX1_readNewName_46 ⟨Nat.zero_le _, Nat.zero_le _⟩) hS (fun I_26 R_27 J_28 AI_29 AJ_30 AR_31 H locs hp_32 hH hS => ?_)
      dsimp only at hp_32
      obtain ⟨rfl, rfl, rfl, rfl, rfl, hv, fs, hs⟩ := hp_32
      obtain ⟨hp, pfq, fls⟩ := pS_step hv0 hp fs hs
      have pf := pF_t pf pfq
      have u_33q : (I_26 q 1).toInt = (I q 1).toInt := by rw [pF_q hp pfq]
      have u_33_0 : (I_26 ln 0).toInt = (I ln 0).toInt := by rw [fls]
      have u_33_8 : (I_26 ln 8).toInt = (I ln 8).toInt := by rw [fls]
      refine z_iconst F dX1_readNewName_49 ?_
      exact g_iret F hr hlk hH hS hz ⟨by decide, by decide⟩ ⟨rfl, rfl, rfl, rfl, hv, hp, pf, fls, by first | omega | rfl | (dsimp only; omega)⟩ dX1_readNewName_50
    · refine z_iconst F dX1_readNewName_35 ?_
      exact g_iret F hr hlk hH hS hz ⟨by decide, by decide⟩ ⟨rfl, rfl, rfl, rfl, hv, hp, pf, rfl, by first | omega | rfl | (dsimp only; omega)⟩ dX1_readNewName_36
  · refine z_iconst F dX1_readNewName_8 ?_
    exact g_iret F hr hlk hH hS hz ⟨by decide, by decide⟩ ⟨rfl, rfl, rfl, rfl, hv, hp, pf, rfl, by first | omega | rfl | (dsimp only; omega)⟩ dX1_readNewName_9

def rmX1_readViewKind : Room := { frames := 2, cells := 0, slots := 0, locals := 42 }
theorem hdX1_readViewKind : yX1_readViewKind.cls = RX1 ∧ yX1_readViewKind.cls ≠ "java/lang/invoke/MethodHandle" ∧ yX1_readViewKind.cls ≠ "java/lang/invoke/VarHandle" ∧ (parseMethodDescriptor yX1_readViewKind.desc).map (fun d => d.parameters.length) = some 0 := by decide +kernel
set_option maxHeartbeats 4000000 in
set_option maxRecDepth 100000 in
/-- the kind of a view -/
theorem c_X1_readViewKind (l : Launch) (g : gG) (gh : gGh) (q ln : Nat) (I : gI) (R : gR) (J : gJ) (AI : gI) (AJ : gJ) (AR : gR) (a : Nat) (hv : gInv g gh R AR I AI) (hp : pS g gh R I a q ln) (hp8 : (I ln 8).toInt = 0) : gMet l g yX1_readViewKind wsX1_readViewKind rmX1_readViewKind [.ref a] (I, R, J, AI, AJ, AR) (gQi g (fun (z : Int) (w : gS) => R = w.2.1 ∧ J = w.2.2.1 ∧ AI = w.2.2.2.1 ∧ AJ = w.2.2.2.2.1 ∧ AR = w.2.2.2.2.2 ∧ (gInv g gh R AR (w.1) AI) ∧ (pS g gh R (w.1) a q ln) ∧ (∀ b, b ≠ a → b ≠ ln → (w.1) b = I b) ∧ (z = 0 ∨ z = 1) ∧ (((w.1) ln 8).toInt = 0))) := by
  refine gStart (cc := cX1_readViewKind) (maxL := 3) (ret := (some (.int))) (by decide) rfl (Nat.le_of_ble_eq_true rfl) ?_
  intro p e s m below meth c ls F hr hlk hH hz hS hl
  have hl : lv_has ls 3 [(0, .ref a)] := hl
  have hS : va_S (gA g) s.heap s.heap [] := hS
  obtain ⟨H, hHe⟩ : ∃ H : Heap, H = s.heap := ⟨_, rfl⟩
  obtain ⟨locs, hlo⟩ : ∃ k : List Loc, k = [] := ⟨_, rfl⟩
  have hH : gH g I R J AI AJ AR H := by rw [hHe]; exact hH
  have hS : va_S (gA g) s.heap H locs := by rw [hHe, hlo]; exact hS
  suffices hw : W p l e rmX1_readViewKind s m ([.ref a] : List Value).toArray below meth c H locs 0 0 (MQ below (gQi g (fun (z : Int) (w : gS) => R = w.2.1 ∧ J = w.2.2.1 ∧ AI = w.2.2.2.1 ∧ AJ = w.2.2.2.2.1 ∧ AR = w.2.2.2.2.2 ∧ (gInv g gh R AR (w.1) AI) ∧ (pS g gh R (w.1) a q ln) ∧ (∀ b, b ≠ a → b ≠ ln → (w.1) b = I b) ∧ (z = 0 ∨ z = 1) ∧ (((w.1) ln 8).toInt = 0))) ([.ref a] : List Value).toArray s 0 0 (gA g)) (F0 m 0 ls []) by
    rw [hHe, hlo] at hw; exact hw
  clear hHe hlo
  have pg : ∀ b, b ≠ a → b ≠ ln → I b = I b := fun _ _ _ => rfl
  have iX5 : ∀ w ∈ u_ws RX5 TX5 5, w ∈ wsX1_readViewKind := (by decide +kernel)
  have iX1 : ∀ w ∈ u_ws RX1 TX1 4, w ∈ wsX1_readViewKind := (by decide +kernel)
  have iX0 : ∀ w ∈ u_ws RX0 TX0 15, w ∈ wsX1_readViewKind := (by decide +kernel)
  have k12 : Cond.fieldLink RX1 12 (TX1 0).1 (TX1 0).2.1 (TX1 0).2.2.1 ∈ wsX1_readViewKind := List.mem_of_getElem? (i := 1) rfl
  have k71 : Cond.fieldLink RX1 71 (TX5 2).1 (TX5 2).2.1 (TX5 2).2.2.1 ∈ wsX1_readViewKind := List.mem_of_getElem? (i := 2) rfl
  have k44 : Cond.fieldLink RX1 44 (TX1 3).1 (TX1 3).2.1 (TX1 3).2.2.1 ∈ wsX1_readViewKind := List.mem_of_getElem? (i := 3) rfl
  have k29 : Cond.fieldLink RX1 29 (TX1 2).1 (TX1 2).2.1 (TX1 2).2.2.1 ∈ wsX1_readViewKind := List.mem_of_getElem? (i := 4) rfl
  have k109 : Cond.fieldLink RX1 109 (TX0 0).1 (TX0 0).2.1 (TX0 0).2.2.1 ∈ wsX1_readViewKind := List.mem_of_getElem? (i := 5) rfl
  refine lv_aload_n F.1 F.2.1 dX1_readViewKind_0 rfl (lv_at hl 0 rfl) ?_
  refine z_bipush F dX1_readViewKind_1 (by decide) ?_
  refine g_calli (g_runV (As := [.int (iI 61)]) (rest := []) (ci := 1) F hl.1 hH hS hz (c_X1_takeKind l g gh q ln I R J AI AJ AR a 61 ⟨by decide, by decide⟩ hv hp) (cwV 1 F.2.2.2.2.1 gX1_readViewKind_X1_takeKind rfl rfl rfl hdX1_takeKind ⟨Nat.le_of_ble_eq_true rfl, Nat.le_of_ble_eq_true rfl⟩) hp.1 (by decide) rfl rfl rfl (Nat.le_of_ble_eq_true rfl) dX1_readViewKind_3 ⟨Nat.zero_le _, Nat.zero_le _⟩) hS (fun v_7 I_1 R_2 J_3 AI_4 AJ_5 AR_6 H locs zv_7 hp_8 hH hS => ?_)
  dsimp only at hp_8
  obtain ⟨rfl, rfl, rfl, rfl, rfl, hv, hp, pfq, flq, q_9⟩ := hp_8
  have pg := pG_t pg (pfq).1
  have u_10q : (I_1 q 1).toInt = (I q 1).toInt := by rw [pF_q hp pfq]
  have u_10_0 : (I_1 ln 0).toInt = (I ln 0).toInt := by rw [pfq.2]
  have u_10_8 : (I_1 ln 8).toInt = (I ln 8).toInt := by rw [flq]
  refine lv_istore_n (lv' := [(1, .int (iI v_7)), (0, .ref a)]) F.1 F.2.1 dX1_readViewKind_6 rfl hl (by decide) rfl (fun ls hl => ?_)
  refine lv_iload_n F.1 F.2.1 dX1_readViewKind_7 rfl (lv_at hl 0 rfl) ?_
  refine z_if_eq (tgt := 13) F dX1_readViewKind_8 (by decide) zv_7 (fun c_11 => ?_) (fun c_11 => ?_)
  · refine lv_aload_n F.1 F.2.1 dX1_readViewKind_13 rfl (lv_at hl 1 rfl) ?_
    refine g_getR (ci := 1) (k := 0) F hH rfl (by decide) iX1 hp.1 (by decide) rfl (b := gh 22 0) (gR_pr0 hv hp.1).1 k12 dX1_readViewKind_14 ?_
    obtain ⟨r_12a, r_12b⟩ := gR_tk2 hv (gR_pr0 hv hp.1).2
    refine g_getR (ci := 5) (k := 2) F hH rfl (by decide) iX5 (gR_pr0 hv hp.1).2 (by decide) rfl (b := gh 26 0) r_12a k71 dX1_readViewKind_17 ?_
    refine lv_aload_n F.1 F.2.1 dX1_readViewKind_20 rfl (lv_at hl 1 rfl) ?_
    refine g_getI (ci := 1) (k := 3) F hH rfl (by decide) iX1 hp.1 (by decide) rfl k44 dX1_readViewKind_21 ?_
    have b_13h := hp.2.2.2.2.2.2.2
    have b_13 := gI_pr hv hp.1
    have b_13t := gI_tk hv (gR_pr0 hv hp.1).2
    have hx24 : 0 ≤ ((I_1 a 3).toInt) ∧ ((I_1 a 3).toInt) < ((901 : Nat) : Int) ∧ ((I_1 a 3).toInt) ≤ 2147483647 := ⟨by omega, by omega, by omega⟩
    refine g_iald F hH r_12b hx24.1 hx24.2.1 hx24.2.2 dX1_readViewKind_24 ?_
    refine z_name (fun v_14 ev_14 => ?_)
    have zv_14 : zr v_14 := by rw [ev_14]; exact zr_t _
    refine lv_istore_n (lv' := [(2, .int (iI v_14)), (1, .int (iI v_7)), (0, .ref a)]) F.1 F.2.1 dX1_readViewKind_25 rfl hl (by decide) rfl (fun ls hl => ?_)
    refine lv_aload_n F.1 F.2.1 dX1_readViewKind_26 rfl (lv_at hl 2 rfl) ?_
    refine z_iconst F dX1_readViewKind_27 ?_
    refine g_calli (g_runV (As := [.int (iI 3)]) (rest := []) (ci := 1) F hl.1 hH hS hz (c_X1_isKind l g gh I_1 R J AI AJ AR a 3 ⟨by decide, by decide⟩ hv hp.1 (by first | exact hp.2.2.2.2.2.2.2 | exact hh | omega)) (cwV 1 F.2.2.2.2.1 gX1_readViewKind_X1_isKind rfl rfl rfl hdX1_isKind ⟨Nat.le_of_ble_eq_true rfl, Nat.le_of_ble_eq_true rfl⟩) hp.1 (by decide) rfl rfl rfl (Nat.le_of_ble_eq_true rfl) dX1_readViewKind_28 ⟨Nat.zero_le _, Nat.zero_le _⟩) hS (fun v_21 I_15 R_16 J_17 AI_18 AJ_19 AR_20 H locs zv_21 hp_22 hH hS => ?_)
    dsimp only at hp_22
    obtain ⟨rfl, rfl, rfl, rfl, rfl, rfl, q_23⟩ := hp_22
    refine z_if_eq (tgt := 45) F dX1_readViewKind_31 (by decide) zv_21 (fun c_24 => ?_) (fun c_24 => ?_)
    · refine z_iconst F dX1_readViewKind_45 ?_
      exact g_iret F hr hlk hH hS hz ⟨by decide, by decide⟩ ⟨rfl, rfl, rfl, rfl, rfl, hv, hp, pg, by first | omega | rfl | (dsimp only; omega), by first | omega | rfl | (dsimp only; omega)⟩ dX1_readViewKind_46
    · refine lv_iload_n F.1 F.2.1 dX1_readViewKind_34 rfl (lv_at hl 0 rfl) ?_
      refine z_iconst F dX1_readViewKind_35 ?_
      refine z_icmp_lt (tgt := 45) F dX1_readViewKind_36 (by decide) zv_14 ⟨by decide, by decide⟩ (fun c_25 => ?_) (fun c_25 => ?_)
      · refine z_iconst F dX1_readViewKind_45 ?_
        exact g_iret F hr hlk hH hS hz ⟨by decide, by decide⟩ ⟨rfl, rfl, rfl, rfl, rfl, hv, hp, pg, by first | omega | rfl | (dsimp only; omega), by first | omega | rfl | (dsimp only; omega)⟩ dX1_readViewKind_46
      · refine lv_iload_n F.1 F.2.1 dX1_readViewKind_39 rfl (lv_at hl 0 rfl) ?_
        refine z_bipush F dX1_readViewKind_40 (by decide) ?_
        refine z_icmp_le (tgt := 47) F dX1_readViewKind_42 (by decide) zv_14 ⟨by decide, by decide⟩ (fun c_26 => ?_) (fun c_26 => ?_)
        · refine lv_aload_n F.1 F.2.1 dX1_readViewKind_47 rfl (lv_at hl 2 rfl) ?_
          refine g_getR (ci := 1) (k := 2) F hH rfl (by decide) iX1 hp.1 (by decide) rfl (b := ln) hp.2.2.2.1 k29 dX1_readViewKind_48 ?_
          refine lv_iload_n F.1 F.2.1 dX1_readViewKind_51 rfl (lv_at hl 0 rfl) ?_
          refine g_putI (ci := 0) (k := 0) F hH hS rfl (by decide) iX0 hp.2.2.2.2.1 (by decide) tyX0 tyX0_ok nmX0 rfl rfl rfl k109 dX1_readViewKind_52 (fun H locs hH hS => ?_)
          obtain ⟨I_27, eI_27⟩ : ∃ qQ, qQ = gup2 I_1 ln 0 (iI (v_14)) := ⟨_, rfl⟩
          rw [← eI_27] at hH
          have kI_27 : ∀ b, b ≠ ln → I_27 b = I_1 b := fun b hb => by rw [eI_27]; exact funext fun j => gup2_a _ _ hb
          have w_28 : (I_27 ln 0).toInt = v_14 := by rw [eI_27, gup2_s]; exact iI_val ⟨by omega, by omega⟩
          have hp2 : pS g gh R I_27 a q ln := pS_ln hv hp kI_27
          have hv : gInv g gh R AR I_27 AI := by rw [eI_27]; exact gInv_line0 hv hp.2.2.2.2.1 (by omega) (by omega) (by omega)
          have hp := hp2
          have pg := pG_t pg (fun b (_ : b ≠ a) (h : b ≠ ln) => kI_27 b h)
          have w_28_k : ∀ j, j ≠ 0 → I_27 ln j = I_1 ln j := fun j hj => by rw [eI_27]; exact gup2_k _ _ hj
          have u_29q : (I_27 q 1).toInt = (I_1 q 1).toInt := by rw [kI_27 q (gO_ne hp.2.2.1 hp.2.2.2.2.1 (by decide))]
          have u_29_8 : (I_27 ln 8).toInt = (I_1 ln 8).toInt := by rw [w_28_k 8 (by decide)]
          refine lv_aload_n F.1 F.2.1 dX1_readViewKind_55 rfl (lv_at hl 2 rfl) ?_
          have hv0 := hv
          refine g_callv (g_runV (As := []) (rest := []) (ci := 1) F hl.1 hH hS hz (c_X1_step l g gh I_27 R J AI AJ AR a hv hp.1 (by first | exact hp.2.2.2.2.2.2.2 | exact hh | omega)) (cwV 0 F.2.2.2.2.1 gX1_readViewKind_X1_step rfl rfl rfl hdX1_step ⟨Nat.le_of_ble_eq_true rfl, Nat.le_of_ble_eq_true rfl⟩) hp.1 (by decide) rfl rfl rfl (Nat.le_of_ble_eq_true rfl) dX1_readViewKind_56 ⟨Nat.zero_le _, Nat.zero_le _⟩) hS (fun I_30 R_31 J_32 AI_33 AJ_34 AR_35 H locs hp_36 hH hS => ?_)
          dsimp only at hp_36
          obtain ⟨rfl, rfl, rfl, rfl, rfl, hv, fs, hs⟩ := hp_36
          obtain ⟨hp, pfq, fls⟩ := pS_step hv0 hp fs hs
          have pg := pG_t pg (pfq).1
          have u_37q : (I_30 q 1).toInt = (I_27 q 1).toInt := by rw [pF_q hp pfq]
          have u_37_0 : (I_30 ln 0).toInt = (I_27 ln 0).toInt := by rw [fls]
          have u_37_8 : (I_30 ln 8).toInt = (I_27 ln 8).toInt := by rw [fls]
          refine z_iconst F dX1_readViewKind_59 ?_
          exact g_iret F hr hlk hH hS hz ⟨by decide, by decide⟩ ⟨rfl, rfl, rfl, rfl, rfl, hv, hp, pg, by first | omega | rfl | (dsimp only; omega), by first | omega | rfl | (dsimp only; omega)⟩ dX1_readViewKind_60
        · refine z_iconst F dX1_readViewKind_45 ?_
          exact g_iret F hr hlk hH hS hz ⟨by decide, by decide⟩ ⟨rfl, rfl, rfl, rfl, rfl, hv, hp, pg, by first | omega | rfl | (dsimp only; omega), by first | omega | rfl | (dsimp only; omega)⟩ dX1_readViewKind_46
  · refine lv_iload_n F.1 F.2.1 dX1_readViewKind_11 rfl (lv_at hl 0 rfl) ?_
    exact g_iret F hr hlk hH hS hz zv_7 ⟨rfl, rfl, rfl, rfl, rfl, hv, hp, pg, by first | omega | rfl | (dsimp only; omega), by first | omega | rfl | (dsimp only; omega)⟩ dX1_readViewKind_12

def rmX1_readHead : Room := { frames := 3, cells := 0, slots := 0, locals := 64 }
theorem hdX1_readHead : yX1_readHead.cls = RX1 ∧ yX1_readHead.cls ≠ "java/lang/invoke/MethodHandle" ∧ yX1_readHead.cls ≠ "java/lang/invoke/VarHandle" ∧ (parseMethodDescriptor yX1_readHead.desc).map (fun d => d.parameters.length) = some 0 := by decide +kernel
set_option maxHeartbeats 4000000 in
set_option maxRecDepth 100000 in
/-- the head of a line -/
theorem c_X1_readHead (l : Launch) (g : gG) (gh : gGh) (q : Nat) (I : gI) (R : gR) (J : gJ) (AI : gI) (AJ : gJ) (AR : gR) (a : Nat) (hv : gInv g gh R AR I AI) (h1 : gO g a 1) (hh : (I a 3).toInt < (I (gh 22 0) 4).toInt) (hRq : R a 1 = some q) (hq : gO g q 2) : gMet l g yX1_readHead wsX1_readHead rmX1_readHead [.ref a] (I, R, J, AI, AJ, AR) (gQi g (fun (z : Int) (w : gS) => AI = w.2.2.2.1 ∧ AJ = w.2.2.2.2.1 ∧ AR = w.2.2.2.2.2 ∧ (gInv g gh (w.2.1) AR (w.1) AI) ∧ (∀ b k, b ≠ a ∨ k ≠ 2 → (w.2.1) b k = R b k) ∧ (∀ b c, gO g b c → c ≠ 0 → c ≠ 1 → (w.1) b = I b) ∧ (((w.1) a 3).toInt < (I (gh 22 0) 4).toInt) ∧ (z = 0 → ∃ ln, pS g gh (w.2.1) (w.1) a q ln ∧ (I q 1).toInt ≤ 15) ∧ (0 ≤ z ∧ z ≤ 6))) := by
  refine gStart (cc := cX1_readHead) (maxL := 3) (ret := (some (.int))) (by decide) rfl (Nat.le_of_ble_eq_true rfl) ?_
  intro p e s m below meth c ls F hr hlk hH hz hS hl
  have hl : lv_has ls 3 [(0, .ref a)] := hl
  have hS : va_S (gA g) s.heap s.heap [] := hS
  obtain ⟨H, hHe⟩ : ∃ H : Heap, H = s.heap := ⟨_, rfl⟩
  obtain ⟨locs, hlo⟩ : ∃ k : List Loc, k = [] := ⟨_, rfl⟩
  have hH : gH g I R J AI AJ AR H := by rw [hHe]; exact hH
  have hS : va_S (gA g) s.heap H locs := by rw [hHe, hlo]; exact hS
  suffices hw : W p l e rmX1_readHead s m ([.ref a] : List Value).toArray below meth c H locs 0 0 (MQ below (gQi g (fun (z : Int) (w : gS) => AI = w.2.2.2.1 ∧ AJ = w.2.2.2.2.1 ∧ AR = w.2.2.2.2.2 ∧ (gInv g gh (w.2.1) AR (w.1) AI) ∧ (∀ b k, b ≠ a ∨ k ≠ 2 → (w.2.1) b k = R b k) ∧ (∀ b c, gO g b c → c ≠ 0 → c ≠ 1 → (w.1) b = I b) ∧ (((w.1) a 3).toInt < (I (gh 22 0) 4).toInt) ∧ (z = 0 → ∃ ln, pS g gh (w.2.1) (w.1) a q ln ∧ (I q 1).toInt ≤ 15) ∧ (0 ≤ z ∧ z ≤ 6))) ([.ref a] : List Value).toArray s 0 0 (gA g)) (F0 m 0 ls []) by
    rw [hHe, hlo] at hw; exact hw
  clear hHe hlo
  have iX2 : ∀ w ∈ u_ws RX2 TX2 3, w ∈ wsX1_readHead := (by decide +kernel)
  have iX1 : ∀ w ∈ u_ws RX1 TX1 4, w ∈ wsX1_readHead := (by decide +kernel)
  have k21 : Cond.fieldLink RX1 21 (TX1 1).1 (TX1 1).2.1 (TX1 1).2.2.1 ∈ wsX1_readHead := List.mem_of_getElem? (i := 1) rfl
  have k37 : Cond.fieldLink RX1 37 (TX2 1).1 (TX2 1).2.1 (TX2 1).2.2.1 ∈ wsX1_readHead := List.mem_of_getElem? (i := 2) rfl
  have k41 : Cond.fieldLink RX1 41 (TX2 2).1 (TX2 2).2.1 (TX2 2).2.2.1 ∈ wsX1_readHead := List.mem_of_getElem? (i := 3) rfl
  have k25 : Cond.fieldLink RX1 25 (TX2 0).1 (TX2 0).2.1 (TX2 0).2.2.1 ∈ wsX1_readHead := List.mem_of_getElem? (i := 4) rfl
  have k29 : Cond.fieldLink RX1 29 (TX1 2).1 (TX1 2).2.1 (TX1 2).2.2.1 ∈ wsX1_readHead := List.mem_of_getElem? (i := 5) rfl
  refine lv_aload_n F.1 F.2.1 dX1_readHead_0 rfl (lv_at hl 0 rfl) ?_
  refine z_iconst F dX1_readHead_1 ?_
  refine g_calli (g_runV (As := [.int (iI 0)]) (rest := []) (ci := 1) F hl.1 hH hS hz (c_X1_isWord l g gh I R J AI AJ AR a 0 ⟨by decide, by decide⟩ hv h1 (by first | exact hp.2.2.2.2.2.2.2 | exact hh | omega)) (cwV 1 F.2.2.2.2.1 gX1_readHead_X1_isWord rfl rfl rfl hdX1_isWord ⟨Nat.le_of_ble_eq_true rfl, Nat.le_of_ble_eq_true rfl⟩) h1 (by decide) rfl rfl rfl (Nat.le_of_ble_eq_true rfl) dX1_readHead_2 ⟨Nat.zero_le _, Nat.zero_le _⟩) hS (fun v_7 I_1 R_2 J_3 AI_4 AJ_5 AR_6 H locs zv_7 hp_8 hH hS => ?_)
  dsimp only at hp_8
  obtain ⟨rfl, rfl, rfl, rfl, rfl, rfl, q_9⟩ := hp_8
  refine lv_istore_n (lv' := [(1, .int (iI v_7)), (0, .ref a)]) F.1 F.2.1 dX1_readHead_5 rfl hl (by decide) rfl (fun ls hl => ?_)
  have cut_21_9 : ∀ (H : Heap) (locs : List Loc) (ls : Array Slot), gH g I R J AI AJ AR H → va_S (gA g) s.heap H locs → lv_has ls 3 [(1, .int (iI v_7)), (0, .ref a)] → W p l e rmX1_readHead s m ([.ref a] : List Value).toArray below meth c H locs 0 0 (MQ below (gQi g (fun (z : Int) (w : gS) => AI = w.2.2.2.1 ∧ AJ = w.2.2.2.2.1 ∧ AR = w.2.2.2.2.2 ∧ (gInv g gh (w.2.1) AR (w.1) AI) ∧ (∀ b k, b ≠ a ∨ k ≠ 2 → (w.2.1) b k = R b k) ∧ (∀ b c, gO g b c → c ≠ 0 → c ≠ 1 → (w.1) b = I b) ∧ (((w.1) a 3).toInt < (I (gh 22 0) 4).toInt) ∧ (z = 0 → ∃ ln, pS g gh (w.2.1) (w.1) a q ln ∧ (I q 1).toInt ≤ 15) ∧ (0 ≤ z ∧ z ≤ 6))) ([.ref a] : List Value).toArray s 0 0 (gA g)) (F0 m 21 ls []) := by
    intro H locs ls hH hS hl
    refine lv_aload_n F.1 F.2.1 dX1_readHead_21 rfl (lv_at hl 1 rfl) ?_
    refine g_getR (ci := 1) (k := 1) F hH rfl (by decide) iX1 h1 (by decide) rfl (b := q) hRq k21 dX1_readHead_22 ?_
    refine g_getI (ci := 2) (k := 1) F hH rfl (by decide) iX2 hq (by decide) rfl k37 dX1_readHead_25 ?_
    have b_11 := gI_plan hv hq
    refine z_bipush F dX1_readHead_28 (by decide) ?_
    refine z_icmp_lt (tgt := 35) F dX1_readHead_30 (by decide) (zr_t _) ⟨by decide, by decide⟩ (fun c_12 => ?_) (fun c_12 => ?_)
    · refine lv_iload_n F.1 F.2.1 dX1_readHead_35 rfl (lv_at hl 0 rfl) ?_
      refine z_if_eq (tgt := 59) F dX1_readHead_36 (by decide) zv_7 (fun c_13 => ?_) (fun c_13 => ?_)
      · refine lv_aload_n F.1 F.2.1 dX1_readHead_59 rfl (lv_at hl 1 rfl) ?_
        refine g_callv (g_runV (As := []) (rest := []) (ci := 1) F hl.1 hH hS hz (c_X1_step l g gh I R J AI AJ AR a hv h1 (by first | exact hp.2.2.2.2.2.2.2 | exact hh | omega)) (cwV 0 F.2.2.2.2.1 gX1_readHead_X1_step rfl rfl rfl hdX1_step ⟨Nat.le_of_ble_eq_true rfl, Nat.le_of_ble_eq_true rfl⟩) h1 (by decide) rfl rfl rfl (Nat.le_of_ble_eq_true rfl) dX1_readHead_60 ⟨Nat.zero_le _, Nat.zero_le _⟩) hS (fun I_14 R_15 J_16 AI_17 AJ_18 AR_19 H locs hp_20 hH hS => ?_)
        dsimp only at hp_20
        obtain ⟨rfl, rfl, rfl, rfl, rfl, hv, fs, hs⟩ := hp_20
        have cf : ∀ b c, gO g b c → c ≠ 0 → c ≠ 1 → I_14 b = I b := fun b c hb h0 h1' => fs b (gO_ne hb h1 h1')
        have hq1 : (I_14 q 1).toInt = (I q 1).toInt := by rw [cf q 2 hq (by decide) (by decide)]
        have ht1 : I_14 (gh 22 0) = I (gh 22 0) := cf _ 5 (gR_pr0 hv h1).2 (by decide) (by decide)
        refine lv_aload_n F.1 F.2.1 dX1_readHead_63 rfl (lv_at hl 1 rfl) ?_
        refine lv_aload_n F.1 F.2.1 dX1_readHead_64 rfl (lv_at hl 1 rfl) ?_
        refine g_getR (ci := 1) (k := 1) F hH rfl (by decide) iX1 h1 (by decide) rfl (b := q) hRq k21 dX1_readHead_65 ?_
        obtain ⟨r_21a, r_21b⟩ := gR_lines hv hq
        refine g_getR (ci := 2) (k := 0) F hH rfl (by decide) iX2 hq (by decide) rfl (b := gh 6 q) r_21a k25 dX1_readHead_68 ?_
        refine lv_aload_n F.1 F.2.1 dX1_readHead_71 rfl (lv_at hl 1 rfl) ?_
        refine g_getR (ci := 1) (k := 1) F hH rfl (by decide) iX1 h1 (by decide) rfl (b := q) hRq k21 dX1_readHead_72 ?_
        refine g_getI (ci := 2) (k := 1) F hH rfl (by decide) iX2 hq (by decide) rfl k37 dX1_readHead_75 ?_
        have b_22 := gI_plan hv hq
        have hx78 : 0 ≤ ((I_14 q 1).toInt) ∧ ((I_14 q 1).toInt) < ((16 : Nat) : Int) ∧ ((I_14 q 1).toInt) ≤ 2147483647 := ⟨by omega, by omega, by omega⟩
        obtain ⟨y_23, y_23a, y_23b, y_23c, y_23d⟩ := gA_lines hv hq (z := (I_14 q 1).toInt) (by omega) (by omega)
        refine g_aldL F hH r_21b hx78.1 hx78.2.1 hx78.2.2 (b := y_23) y_23a dX1_readHead_78 ?_
        refine g_putR (ci := 1) (k := 2) F hH hS rfl (by decide) iX1 h1 (by decide) tyX1 tyX1_ok nmX1 rfl (ty := tyX1 2) rfl rfl rfl rfl k29 dX1_readHead_79 (fun H locs hH hS => ?_)
        obtain ⟨R_24, eR_24⟩ : ∃ qQ, qQ = gup2 R a 2 (some (y_23)) := ⟨_, rfl⟩
        rw [← eR_24] at hH
        have kR_24 : ∀ b, b ≠ a → R_24 b = R b := fun b hb => by rw [eR_24]; exact funext fun j => gup2_a _ _ hb
        have hv : gInv g gh R_24 AR I_14 AI := by rw [eR_24]; exact gInv_Rline hv h1 y_23b
        have hRq : R_24 a 1 = some q := by rw [eR_24, gup2_k _ _ (by decide)]; exact hRq
        have hRl : R_24 a 2 = some y_23 := by rw [eR_24, gup2_s]
        have rf : ∀ b k, b ≠ a ∨ k ≠ 2 → R_24 b k = R b k := fun b k h => by rw [eR_24]; rcases h with h | h; exact gup2_a _ _ h; exact gup2_k _ _ h
        refine lv_aload_n F.1 F.2.1 dX1_readHead_82 rfl (lv_at hl 1 rfl) ?_
        refine g_getR (ci := 1) (k := 2) F hH rfl (by decide) iX1 h1 (by decide) rfl (b := y_23) hRl k29 dX1_readHead_83 ?_
        refine z_iconst F dX1_readHead_86 ?_
        have b_25 := gI_line hv y_23b
        unfold vLineI at b_25
        refine g_callv (g_runV (As := [.int (iI 0)]) (rest := []) (ci := 0) F hl.1 hH hS hz (c_X0_clear l g gh I_14 R_24 J AI AJ AR y_23 0 ⟨by decide, by decide⟩ hv y_23b rfl) (cwV 1 F.2.2.2.2.1 gX1_readHead_X0_clear rfl rfl rfl hdX0_clear ⟨Nat.le_of_ble_eq_true rfl, Nat.le_of_ble_eq_true rfl⟩) y_23b (by decide) rfl rfl rfl (Nat.le_of_ble_eq_true rfl) dX1_readHead_87 ⟨Nat.zero_le _, Nat.zero_le _⟩) hS (fun I_26 R_27 J_28 AI_29 AJ_30 AR_31 H locs hp_32 hH hS => ?_)
        dsimp only at hp_32
        obtain ⟨rfl, rfl, rfl, rfl, rfl, hv, fc, kc⟩ := hp_32
        have cf : ∀ b c, gO g b c → c ≠ 0 → c ≠ 1 → I_26 b = I b := fun b c hb h0 h1' => (fc b (gO_ne hb y_23b h0)).trans (cf b c hb h0 h1')
        have hp : pS g gh R_24 I_26 a q y_23 := ⟨h1, hRq, hq, hRl, y_23b, y_23c, by rw [cf q 2 hq (by decide) (by decide)]; omega, by rw [fc a (gO_ne h1 y_23b (by decide)), cf _ 5 (gR_pr0 hv h1).2 (by decide) (by decide)]; exact hs⟩
        refine lv_aload_n F.1 F.2.1 dX1_readHead_90 rfl (lv_at hl 1 rfl) ?_
        refine g_calli (g_runV (As := []) (rest := []) (ci := 1) F hl.1 hH hS hz (c_X1_readNewName l g gh q y_23 I_26 R_24 J AI AJ AR a hv hp) (cwV 0 F.2.2.2.2.1 gX1_readHead_X1_readNewName rfl rfl rfl hdX1_readNewName ⟨Nat.le_of_ble_eq_true rfl, Nat.le_of_ble_eq_true rfl⟩) h1 (by decide) rfl rfl rfl (Nat.le_of_ble_eq_true rfl) dX1_readHead_91 ⟨Nat.zero_le _, Nat.zero_le _⟩) hS (fun v_39 I_33 R_34 J_35 AI_36 AJ_37 AR_38 H locs zv_39 hp_40 hH hS => ?_)
        dsimp only at hp_40
        obtain ⟨rfl, rfl, rfl, rfl, hv, hp, pfq, flq, q_41⟩ := hp_40
        have n8 : (I_33 y_23 8).toInt = 0 := by rw [flq]; exact kc.2
        have cf : ∀ b c, gO g b c → c ≠ 0 → c ≠ 1 → I_33 b = I b := fun b c hb h0 h1' => (pfq.1 b (gO_ne hb h1 h1') (gO_ne hb y_23b h0)).trans (cf b c hb h0 h1')
        have hs : (I_33 a 3).toInt < (I (gh 22 0) 4).toInt := by have := hp.2.2.2.2.2.2.2; rw [cf _ 5 (gR_pr0 hv h1).2 (by decide) (by decide)] at this; exact this
        refine lv_istore_n (lv' := [(2, .int (iI v_39)), (1, .int (iI v_7)), (0, .ref a)]) F.1 F.2.1 dX1_readHead_94 rfl hl (by decide) rfl (fun ls hl => ?_)
        refine lv_iload_n F.1 F.2.1 dX1_readHead_95 rfl (lv_at hl 0 rfl) ?_
        refine z_if_ne (tgt := 108) F dX1_readHead_96 (by decide) zv_39 (fun c_42 => ?_) (fun c_42 => ?_)
        · refine lv_iload_n F.1 F.2.1 dX1_readHead_108 rfl (lv_at hl 0 rfl) ?_
          exact g_iret F hr hlk hH hS hz zv_39 ⟨rfl, rfl, rfl, hv, rf, cf, hs, fun _ => ⟨_, hp, by omega⟩, by first | omega | rfl | (dsimp only; omega)⟩ dX1_readHead_109
        · refine lv_iload_n F.1 F.2.1 dX1_readHead_99 rfl (lv_at hl 1 rfl) ?_
          refine z_if_ne (tgt := 108) F dX1_readHead_100 (by decide) zv_7 (fun c_43 => ?_) (fun c_43 => ?_)
          · exact absurd trivial (by omega)
          · refine lv_aload_n F.1 F.2.1 dX1_readHead_103 rfl (lv_at hl 2 rfl) ?_
            refine g_calli (g_runV (As := []) (rest := []) (ci := 1) F hl.1 hH hS hz (c_X1_readViewKind l g gh q y_23 I_33 R_24 J_35 AI AJ AR a hv hp n8) (cwV 0 F.2.2.2.2.1 gX1_readHead_X1_readViewKind rfl rfl rfl hdX1_readViewKind ⟨Nat.le_of_ble_eq_true rfl, Nat.le_of_ble_eq_true rfl⟩) h1 (by decide) rfl rfl rfl (Nat.le_of_ble_eq_true rfl) dX1_readHead_104 ⟨Nat.zero_le _, Nat.zero_le _⟩) hS (fun v_50 I_44 R_45 J_46 AI_47 AJ_48 AR_49 H locs zv_50 hp_51 hH hS => ?_)
            dsimp only at hp_51
            obtain ⟨rfl, rfl, rfl, rfl, rfl, hv, hp, pgq, q_52, q_53⟩ := hp_51
            have cf : ∀ b c, gO g b c → c ≠ 0 → c ≠ 1 → I_44 b = I b := fun b c hb h0 h1' => (pgq b (gO_ne hb h1 h1') (gO_ne hb y_23b h0)).trans (cf b c hb h0 h1')
            have hs : (I_44 a 3).toInt < (I (gh 22 0) 4).toInt := by have := hp.2.2.2.2.2.2.2; rw [cf _ 5 (gR_pr0 hv h1).2 (by decide) (by decide)] at this; exact this
            refine lv_istore_n (lv' := [(2, .int (iI v_50)), (1, .int (iI v_7)), (0, .ref a)]) F.1 F.2.1 dX1_readHead_107 rfl hl (by decide) rfl (fun ls hl => ?_)
            refine lv_iload_n F.1 F.2.1 dX1_readHead_108 rfl (lv_at hl 0 rfl) ?_
            exact g_iret F hr hlk hH hS hz zv_50 ⟨rfl, rfl, rfl, hv, rf, cf, hs, fun _ => ⟨_, hp, by omega⟩, by first | omega | rfl | (dsimp only; omega)⟩ dX1_readHead_109
      · refine lv_aload_n F.1 F.2.1 dX1_readHead_39 rfl (lv_at hl 1 rfl) ?_
        refine g_getR (ci := 1) (k := 1) F hH rfl (by decide) iX1 h1 (by decide) rfl (b := q) hRq k21 dX1_readHead_40 ?_
        refine g_getI (ci := 2) (k := 1) F hH rfl (by decide) iX2 hq (by decide) rfl k37 dX1_readHead_43 ?_
        refine lv_aload_n F.1 F.2.1 dX1_readHead_46 rfl (lv_at hl 1 rfl) ?_
        refine g_getR (ci := 1) (k := 1) F hH rfl (by decide) iX1 h1 (by decide) rfl (b := q) hRq k21 dX1_readHead_47 ?_
        refine g_getI (ci := 2) (k := 2) F hH rfl (by decide) iX2 hq (by decide) rfl k41 dX1_readHead_50 ?_
        refine z_icmp_le (tgt := 59) F dX1_readHead_53 (by decide) (zr_t _) (zr_t _) (fun c_54 => ?_) (fun c_54 => ?_)
        · refine lv_aload_n F.1 F.2.1 dX1_readHead_59 rfl (lv_at hl 1 rfl) ?_
          refine g_callv (g_runV (As := []) (rest := []) (ci := 1) F hl.1 hH hS hz (c_X1_step l g gh I R J AI AJ AR a hv h1 (by first | exact hp.2.2.2.2.2.2.2 | exact hh | omega)) (cwV 0 F.2.2.2.2.1 gX1_readHead_X1_step rfl rfl rfl hdX1_step ⟨Nat.le_of_ble_eq_true rfl, Nat.le_of_ble_eq_true rfl⟩) h1 (by decide) rfl rfl rfl (Nat.le_of_ble_eq_true rfl) dX1_readHead_60 ⟨Nat.zero_le _, Nat.zero_le _⟩) hS (fun I_55 R_56 J_57 AI_58 AJ_59 AR_60 H locs hp_61 hH hS => ?_)
          dsimp only at hp_61
          obtain ⟨rfl, rfl, rfl, rfl, rfl, hv, fs, hs⟩ := hp_61
          have cf : ∀ b c, gO g b c → c ≠ 0 → c ≠ 1 → I_55 b = I b := fun b c hb h0 h1' => fs b (gO_ne hb h1 h1')
          have hq1 : (I_55 q 1).toInt = (I q 1).toInt := by rw [cf q 2 hq (by decide) (by decide)]
          have ht1 : I_55 (gh 22 0) = I (gh 22 0) := cf _ 5 (gR_pr0 hv h1).2 (by decide) (by decide)
          refine lv_aload_n F.1 F.2.1 dX1_readHead_63 rfl (lv_at hl 1 rfl) ?_
          refine lv_aload_n F.1 F.2.1 dX1_readHead_64 rfl (lv_at hl 1 rfl) ?_
          refine g_getR (ci := 1) (k := 1) F hH rfl (by decide) iX1 h1 (by decide) rfl (b := q) hRq k21 dX1_readHead_65 ?_
          obtain ⟨r_62a, r_62b⟩ := gR_lines hv hq
          refine g_getR (ci := 2) (k := 0) F hH rfl (by decide) iX2 hq (by decide) rfl (b := gh 6 q) r_62a k25 dX1_readHead_68 ?_
          refine lv_aload_n F.1 F.2.1 dX1_readHead_71 rfl (lv_at hl 1 rfl) ?_
          refine g_getR (ci := 1) (k := 1) F hH rfl (by decide) iX1 h1 (by decide) rfl (b := q) hRq k21 dX1_readHead_72 ?_
          refine g_getI (ci := 2) (k := 1) F hH rfl (by decide) iX2 hq (by decide) rfl k37 dX1_readHead_75 ?_
          have b_63 := gI_plan hv hq
          have hx78 : 0 ≤ ((I_55 q 1).toInt) ∧ ((I_55 q 1).toInt) < ((16 : Nat) : Int) ∧ ((I_55 q 1).toInt) ≤ 2147483647 := ⟨by omega, by omega, by omega⟩
          obtain ⟨y_64, y_64a, y_64b, y_64c, y_64d⟩ := gA_lines hv hq (z := (I_55 q 1).toInt) (by omega) (by omega)
          refine g_aldL F hH r_62b hx78.1 hx78.2.1 hx78.2.2 (b := y_64) y_64a dX1_readHead_78 ?_
          refine g_putR (ci := 1) (k := 2) F hH hS rfl (by decide) iX1 h1 (by decide) tyX1 tyX1_ok nmX1 rfl (ty := tyX1 2) rfl rfl rfl rfl k29 dX1_readHead_79 (fun H locs hH hS => ?_)
          obtain ⟨R_65, eR_65⟩ : ∃ qQ, qQ = gup2 R a 2 (some (y_64)) := ⟨_, rfl⟩
          rw [← eR_65] at hH
          have kR_65 : ∀ b, b ≠ a → R_65 b = R b := fun b hb => by rw [eR_65]; exact funext fun j => gup2_a _ _ hb
          have hv : gInv g gh R_65 AR I_55 AI := by rw [eR_65]; exact gInv_Rline hv h1 y_64b
          have hRq : R_65 a 1 = some q := by rw [eR_65, gup2_k _ _ (by decide)]; exact hRq
          have hRl : R_65 a 2 = some y_64 := by rw [eR_65, gup2_s]
          have rf : ∀ b k, b ≠ a ∨ k ≠ 2 → R_65 b k = R b k := fun b k h => by rw [eR_65]; rcases h with h | h; exact gup2_a _ _ h; exact gup2_k _ _ h
          refine lv_aload_n F.1 F.2.1 dX1_readHead_82 rfl (lv_at hl 1 rfl) ?_
          refine g_getR (ci := 1) (k := 2) F hH rfl (by decide) iX1 h1 (by decide) rfl (b := y_64) hRl k29 dX1_readHead_83 ?_
          refine z_iconst F dX1_readHead_86 ?_
          have b_66 := gI_line hv y_64b
          unfold vLineI at b_66
          refine g_callv (g_runV (As := [.int (iI 0)]) (rest := []) (ci := 0) F hl.1 hH hS hz (c_X0_clear l g gh I_55 R_65 J AI AJ AR y_64 0 ⟨by decide, by decide⟩ hv y_64b rfl) (cwV 1 F.2.2.2.2.1 gX1_readHead_X0_clear rfl rfl rfl hdX0_clear ⟨Nat.le_of_ble_eq_true rfl, Nat.le_of_ble_eq_true rfl⟩) y_64b (by decide) rfl rfl rfl (Nat.le_of_ble_eq_true rfl) dX1_readHead_87 ⟨Nat.zero_le _, Nat.zero_le _⟩) hS (fun I_67 R_68 J_69 AI_70 AJ_71 AR_72 H locs hp_73 hH hS => ?_)
          dsimp only at hp_73
          obtain ⟨rfl, rfl, rfl, rfl, rfl, hv, fc, kc⟩ := hp_73
          have cf : ∀ b c, gO g b c → c ≠ 0 → c ≠ 1 → I_67 b = I b := fun b c hb h0 h1' => (fc b (gO_ne hb y_64b h0)).trans (cf b c hb h0 h1')
          have hp : pS g gh R_65 I_67 a q y_64 := ⟨h1, hRq, hq, hRl, y_64b, y_64c, by rw [cf q 2 hq (by decide) (by decide)]; omega, by rw [fc a (gO_ne h1 y_64b (by decide)), cf _ 5 (gR_pr0 hv h1).2 (by decide) (by decide)]; exact hs⟩
          refine lv_aload_n F.1 F.2.1 dX1_readHead_90 rfl (lv_at hl 1 rfl) ?_
          refine g_calli (g_runV (As := []) (rest := []) (ci := 1) F hl.1 hH hS hz (c_X1_readNewName l g gh q y_64 I_67 R_65 J AI AJ AR a hv hp) (cwV 0 F.2.2.2.2.1 gX1_readHead_X1_readNewName rfl rfl rfl hdX1_readNewName ⟨Nat.le_of_ble_eq_true rfl, Nat.le_of_ble_eq_true rfl⟩) h1 (by decide) rfl rfl rfl (Nat.le_of_ble_eq_true rfl) dX1_readHead_91 ⟨Nat.zero_le _, Nat.zero_le _⟩) hS (fun v_80 I_74 R_75 J_76 AI_77 AJ_78 AR_79 H locs zv_80 hp_81 hH hS => ?_)
          dsimp only at hp_81
          obtain ⟨rfl, rfl, rfl, rfl, hv, hp, pfq, flq, q_82⟩ := hp_81
          have n8 : (I_74 y_64 8).toInt = 0 := by rw [flq]; exact kc.2
          have cf : ∀ b c, gO g b c → c ≠ 0 → c ≠ 1 → I_74 b = I b := fun b c hb h0 h1' => (pfq.1 b (gO_ne hb h1 h1') (gO_ne hb y_64b h0)).trans (cf b c hb h0 h1')
          have hs : (I_74 a 3).toInt < (I (gh 22 0) 4).toInt := by have := hp.2.2.2.2.2.2.2; rw [cf _ 5 (gR_pr0 hv h1).2 (by decide) (by decide)] at this; exact this
          refine lv_istore_n (lv' := [(2, .int (iI v_80)), (1, .int (iI v_7)), (0, .ref a)]) F.1 F.2.1 dX1_readHead_94 rfl hl (by decide) rfl (fun ls hl => ?_)
          refine lv_iload_n F.1 F.2.1 dX1_readHead_95 rfl (lv_at hl 0 rfl) ?_
          refine z_if_ne (tgt := 108) F dX1_readHead_96 (by decide) zv_80 (fun c_83 => ?_) (fun c_83 => ?_)
          · refine lv_iload_n F.1 F.2.1 dX1_readHead_108 rfl (lv_at hl 0 rfl) ?_
            exact g_iret F hr hlk hH hS hz zv_80 ⟨rfl, rfl, rfl, hv, rf, cf, hs, fun _ => ⟨_, hp, by omega⟩, by first | omega | rfl | (dsimp only; omega)⟩ dX1_readHead_109
          · refine lv_iload_n F.1 F.2.1 dX1_readHead_99 rfl (lv_at hl 1 rfl) ?_
            refine z_if_ne (tgt := 108) F dX1_readHead_100 (by decide) zv_7 (fun c_84 => ?_) (fun c_84 => ?_)
            · refine lv_iload_n F.1 F.2.1 dX1_readHead_108 rfl (lv_at hl 0 rfl) ?_
              exact g_iret F hr hlk hH hS hz zv_80 ⟨rfl, rfl, rfl, hv, rf, cf, hs, fun _ => ⟨_, hp, by omega⟩, by first | omega | rfl | (dsimp only; omega)⟩ dX1_readHead_109
            · exact absurd trivial (by omega)
        · refine z_bipush F dX1_readHead_56 (by decide) ?_
          exact g_iret F hr hlk hH hS hz ⟨by decide, by decide⟩ ⟨rfl, rfl, rfl, hv, fun _ _ _ => rfl, fun _ _ _ _ _ => rfl, hh, fun h => absurd h (by omega), by first | omega | rfl | (dsimp only; omega)⟩ dX1_readHead_58
    · refine z_iconst F dX1_readHead_33 ?_
      exact g_iret F hr hlk hH hS hz ⟨by decide, by decide⟩ ⟨rfl, rfl, rfl, hv, fun _ _ _ => rfl, fun _ _ _ _ _ => rfl, hh, fun h => absurd h (by omega), by first | omega | rfl | (dsimp only; omega)⟩ dX1_readHead_34
  refine lv_iload_n F.1 F.2.1 dX1_readHead_6 rfl (lv_at hl 0 rfl) ?_
  refine z_if_ne (tgt := 21) F dX1_readHead_7 (by decide) zv_7 (fun c_85 => ?_) (fun c_85 => ?_)
  · exact cut_21_9 H locs ls hH hS (lv_sub hl [0, 1] rfl)
  · refine lv_aload_n F.1 F.2.1 dX1_readHead_10 rfl (lv_at hl 1 rfl) ?_
    refine z_bipush F dX1_readHead_11 (by decide) ?_
    refine g_calli (g_runV (As := [.int (iI 9)]) (rest := []) (ci := 1) F hl.1 hH hS hz (c_X1_isWord l g gh I R J AI AJ AR a 9 ⟨by decide, by decide⟩ hv h1 (by first | exact hp.2.2.2.2.2.2.2 | exact hh | omega)) (cwV 1 F.2.2.2.2.1 gX1_readHead_X1_isWord rfl rfl rfl hdX1_isWord ⟨Nat.le_of_ble_eq_true rfl, Nat.le_of_ble_eq_true rfl⟩) h1 (by decide) rfl rfl rfl (Nat.le_of_ble_eq_true rfl) dX1_readHead_13 ⟨Nat.zero_le _, Nat.zero_le _⟩) hS (fun v_92 I_86 R_87 J_88 AI_89 AJ_90 AR_91 H locs zv_92 hp_93 hH hS => ?_)
    dsimp only at hp_93
    obtain ⟨rfl, rfl, rfl, rfl, rfl, rfl, q_94⟩ := hp_93
    refine z_if_ne (tgt := 21) F dX1_readHead_16 (by decide) zv_92 (fun c_95 => ?_) (fun c_95 => ?_)
    · exact cut_21_9 H locs ls hH hS (lv_sub hl [0, 1] rfl)
    · refine z_iconst F dX1_readHead_19 ?_
      exact g_iret F hr hlk hH hS hz ⟨by decide, by decide⟩ ⟨rfl, rfl, rfl, hv, fun _ _ _ => rfl, fun _ _ _ _ _ => rfl, hh, fun h => absurd h (by omega), by first | omega | rfl | (dsimp only; omega)⟩ dX1_readHead_20

def rmX1_exchangePlan : Room := { frames := 0, cells := 0, slots := 0, locals := 0 }
theorem hdX1_exchangePlan : yX1_exchangePlan.cls = RX1 ∧ yX1_exchangePlan.cls ≠ "java/lang/invoke/MethodHandle" ∧ yX1_exchangePlan.cls ≠ "java/lang/invoke/VarHandle" ∧ (parseMethodDescriptor yX1_exchangePlan.desc).map (fun d => d.parameters.length) = some 1 := by decide +kernel
set_option maxHeartbeats 4000000 in
set_option maxRecDepth 100000 in
/-- exchanges the plan -/
theorem c_X1_exchangePlan (l : Launch) (g : gG) (gh : gGh) (q : Nat) (I : gI) (R : gR) (J : gJ) (AI : gI) (AJ : gJ) (AR : gR) (a : Nat) (pl : Nat) (hv : gInv g gh R AR I AI) (h1 : gO g a 1) (hold : gO g pl 2) (hRq : R a 1 = some q) (hq : gO g q 2) : gMet l g yX1_exchangePlan wsX1_exchangePlan rmX1_exchangePlan [.ref a, .ref pl] (I, R, J, AI, AJ, AR) (gQr g (fun (z : Nat) (w : gS) => I = w.1 ∧ J = w.2.2.1 ∧ AI = w.2.2.2.1 ∧ AJ = w.2.2.2.2.1 ∧ AR = w.2.2.2.2.2 ∧ (gInv g gh (w.2.1) AR I AI) ∧ (∀ b, b ≠ a → (w.2.1) b = R b) ∧ (q = z) ∧ ((w.2.1) a 1 = some pl))) := by
  refine gStart (cc := cX1_exchangePlan) (maxL := 3) (ret := (some ((.object "BagTree$Plan")))) (by decide) rfl (Nat.le_of_ble_eq_true rfl) ?_
  intro p e s m below meth c ls F hr hlk hH hz hS hl
  have hl : lv_has ls 3 [(0, .ref a), (1, .ref pl)] := hl
  have hS : va_S (gA g) s.heap s.heap [] := hS
  obtain ⟨H, hHe⟩ : ∃ H : Heap, H = s.heap := ⟨_, rfl⟩
  obtain ⟨locs, hlo⟩ : ∃ k : List Loc, k = [] := ⟨_, rfl⟩
  have hH : gH g I R J AI AJ AR H := by rw [hHe]; exact hH
  have hS : va_S (gA g) s.heap H locs := by rw [hHe, hlo]; exact hS
  suffices hw : W p l e rmX1_exchangePlan s m ([.ref a, .ref pl] : List Value).toArray below meth c H locs 0 0 (MQ below (gQr g (fun (z : Nat) (w : gS) => I = w.1 ∧ J = w.2.2.1 ∧ AI = w.2.2.2.1 ∧ AJ = w.2.2.2.2.1 ∧ AR = w.2.2.2.2.2 ∧ (gInv g gh (w.2.1) AR I AI) ∧ (∀ b, b ≠ a → (w.2.1) b = R b) ∧ (q = z) ∧ ((w.2.1) a 1 = some pl))) ([.ref a, .ref pl] : List Value).toArray s 0 0 (gA g)) (F0 m 0 ls []) by
    rw [hHe, hlo] at hw; exact hw
  clear hHe hlo
  have iX1 : ∀ w ∈ u_ws RX1 TX1 4, w ∈ wsX1_exchangePlan := (by decide +kernel)
  have k21 : Cond.fieldLink RX1 21 (TX1 1).1 (TX1 1).2.1 (TX1 1).2.2.1 ∈ wsX1_exchangePlan := List.mem_of_getElem? (i := 1) rfl
  refine lv_aload_n F.1 F.2.1 dX1_exchangePlan_0 rfl (lv_at hl 0 rfl) ?_
  refine g_getR (ci := 1) (k := 1) F hH rfl (by decide) iX1 h1 (by decide) rfl (b := q) hRq k21 dX1_exchangePlan_1 ?_
  refine lv_astore_n (lv' := [(2, .ref q), (0, .ref a), (1, .ref pl)]) F.1 F.2.1 dX1_exchangePlan_4 rfl hl (by decide) rfl (fun ls hl => ?_)
  refine lv_aload_n F.1 F.2.1 dX1_exchangePlan_5 rfl (lv_at hl 1 rfl) ?_
  refine lv_aload_n F.1 F.2.1 dX1_exchangePlan_6 rfl (lv_at hl 2 rfl) ?_
  refine g_putR (ci := 1) (k := 1) F hH hS rfl (by decide) iX1 h1 (by decide) tyX1 tyX1_ok nmX1 rfl (ty := tyX1 1) rfl rfl rfl rfl k21 dX1_exchangePlan_7 (fun H locs hH hS => ?_)
  obtain ⟨R_1, eR_1⟩ : ∃ qQ, qQ = gup2 R a 1 (some (pl)) := ⟨_, rfl⟩
  rw [← eR_1] at hH
  have kR_1 : ∀ b, b ≠ a → R_1 b = R b := fun b hb => by rw [eR_1]; exact funext fun j => gup2_a _ _ hb
  have hv : gInv g gh R_1 AR I AI := by rw [eR_1]; exact gInv_Rplan hv h1 hold
  have ra1 : R_1 a 1 = some pl := by rw [eR_1, gup2_s]
  refine lv_aload_n F.1 F.2.1 dX1_exchangePlan_10 rfl (lv_at hl 0 rfl) ?_
  exact g_aret F hr (by first | exact Or.inl ⟨_, rfl⟩ | exact Or.inr ⟨_, rfl⟩) hlk hH hS hz ⟨rfl, rfl, rfl, rfl, rfl, hv, fun b hb => kR_1 b hb, rfl, ra1⟩ dX1_exchangePlan_11
