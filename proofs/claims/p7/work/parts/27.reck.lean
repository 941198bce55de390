def rmX3_clearKey : Room := { frames := 0, cells := 0, slots := 0, locals := 0 }
theorem hdX3_clearKey : yX3_clearKey.cls = RX3 ∧ yX3_clearKey.cls ≠ "java/lang/invoke/MethodHandle" ∧ yX3_clearKey.cls ≠ "java/lang/invoke/VarHandle" ∧ (parseMethodDescriptor yX3_clearKey.desc).map (fun d => d.parameters.length) = some 0 := by decide +kernel
set_option maxHeartbeats 4000000 in
set_option maxRecDepth 100000 in
/-- an empty key -/
theorem c_X3_clearKey (l : Launch) (g : gG) (gh : gGh) (I : gI) (R : gR) (J : gJ) (AI : gI) (AJ : gJ) (AR : gR) (a : Nat) (hv : gInv g gh R AR I AI) (ha : gO g a 3) : gMet l g yX3_clearKey wsX3_clearKey rmX3_clearKey [.ref a] (I, R, J, AI, AJ, AR) (gQv g (fun w : gS => I = w.1 ∧ R = w.2.1 ∧ J = w.2.2.1 ∧ AJ = w.2.2.2.2.1 ∧ AR = w.2.2.2.2.2 ∧ (gInv g gh R AR I (w.2.2.2.1)))) := by
  refine gStart (cc := cX3_clearKey) (maxL := 2) (ret := none) (by decide) rfl (Nat.le_of_ble_eq_true rfl) ?_
  intro p e s m below meth c ls F hr hlk hH hz hS hl
  have hl : lv_has ls 2 [(0, .ref a)] := hl
  have hS : va_S (gA g) s.heap s.heap [] := hS
  obtain ⟨H, hHe⟩ : ∃ H : Heap, H = s.heap := ⟨_, rfl⟩
  obtain ⟨locs, hlo⟩ : ∃ k : List Loc, k = [] := ⟨_, rfl⟩
  have hH : gH g I R J AI AJ AR H := by rw [hHe]; exact hH
  have hS : va_S (gA g) s.heap H locs := by rw [hHe, hlo]; exact hS
  suffices hw : W p l e rmX3_clearKey s m ([.ref a] : List Value).toArray below meth c H locs 0 0 (MQ below (gQv g (fun w : gS => I = w.1 ∧ R = w.2.1 ∧ J = w.2.2.1 ∧ AJ = w.2.2.2.2.1 ∧ AR = w.2.2.2.2.2 ∧ (gInv g gh R AR I (w.2.2.2.1)))) ([.ref a] : List Value).toArray s 0 0 (gA g)) (F0 m 0 ls []) by
    rw [hHe, hlo] at hw; exact hw
  clear hHe hlo
  have iX3 : ∀ w ∈ u_ws RX3 TX3 3, w ∈ wsX3_clearKey := (by decide +kernel)
  have k11 : Cond.fieldLink RX3 11 (TX3 0).1 (TX3 0).2.1 (TX3 0).2.2.1 ∈ wsX3_clearKey := List.mem_of_getElem? (i := 1) rfl
  refine z_iconst F dX3_clearKey_0 ?_
  refine lv_istore_n (lv' := [(1, .int (iI 0)), (0, .ref a)]) F.1 F.2.1 dX3_clearKey_1 rfl hl (by decide) rfl (fun ls hl => ?_)
  have cut_2_1 : ∀ (NN : Nat) (i : Int) (AI_1 : gI) (H : Heap) (locs : List Loc) (ls : Array Slot), zr i → (gInv g gh R AR I AI_1) → (0 ≤ i ∧ i ≤ 5) → (5 - i) < ((NN : Nat) : Int) → gH g I R J AI_1 AJ AR H → va_S (gA g) s.heap H locs → lv_has ls 2 [(1, .int (iI i)), (0, .ref a)] → W p l e rmX3_clearKey s m ([.ref a] : List Value).toArray below meth c H locs 0 0 (MQ below (gQv g (fun w : gS => I = w.1 ∧ R = w.2.1 ∧ J = w.2.2.1 ∧ AJ = w.2.2.2.2.1 ∧ AR = w.2.2.2.2.2 ∧ (gInv g gh R AR I (w.2.2.2.1)))) ([.ref a] : List Value).toArray s 0 0 (gA g)) (F0 m 2 ls []) := by
    intro NN2
    induction NN2 with
    | zero =>
      intro i AI_1 H locs ls zi hv hi hm2 hH hS hl
      exact absurd hm2 (by omega)
    | succ NN2 ih2 =>
      intro i AI_1 H locs ls zi hv hi hm2 hH hS hl
      refine lv_iload_n F.1 F.2.1 dX3_clearKey_2 rfl (lv_at hl 0 rfl) ?_
      refine lv_aload_n F.1 F.2.1 dX3_clearKey_3 rfl (lv_at hl 1 rfl) ?_
      obtain ⟨r_3a, r_3b⟩ := gR_rk0 hv ha
      refine g_getR (ci := 3) (k := 0) F hH rfl (by decide) iX3 ha (by decide) rfl (b := gh 30 0) r_3a k11 dX3_clearKey_4 ?_
      refine g_alen9 F hH r_3b dX3_clearKey_7 ?_
      refine z_icmp_ge (tgt := 24) F dX3_clearKey_8 (by decide) zi ⟨by omega, by omega⟩ (fun c_4 => ?_) (fun c_4 => ?_)
      · exact g_vret F hr hlk hH hS hz ⟨rfl, rfl, rfl, rfl, rfl, hv⟩ dX3_clearKey_24
      · refine lv_aload_n F.1 F.2.1 dX3_clearKey_11 rfl (lv_at hl 1 rfl) ?_
        refine g_getR (ci := 3) (k := 0) F hH rfl (by decide) iX3 ha (by decide) rfl (b := gh 30 0) r_3a k11 dX3_clearKey_12 ?_
        refine lv_iload_n F.1 F.2.1 dX3_clearKey_15 rfl (lv_at hl 0 rfl) ?_
        refine z_iconst F dX3_clearKey_16 ?_
        have hx17 : 0 ≤ i ∧ i < ((5 : Nat) : Int) ∧ i ≤ 2147483647 := ⟨by omega, by omega, by omega⟩
        refine g_iast F hH hS r_3b hx17.1 hx17.2.1 hx17.2.2 dX3_clearKey_17 (fun H locs hH hS => ?_)
        obtain ⟨AI_5, eAI_5⟩ : ∃ qQ, qQ = gup2 AI_1 (gh 30 0) (i).toNat (iI (0)) := ⟨_, rfl⟩
        rw [← eAI_5] at hH
        have kAI_5 : ∀ b, b ≠ (gh 30 0) → AI_5 b = AI_1 b := fun b hb => by rw [eAI_5]; exact funext fun j => gup2_a _ _ hb
        have hv : gInv g gh R AR I AI_5 := gInv_plain hv (ro30 hv ha) kAI_5
        refine z_iinc (lv' := [(1, .int (iI (i + 1))), (0, .ref a)]) F dX3_clearKey_18 hl (k := 0) rfl (by decide) rfl (fun ls hl => ?_)
        refine z_goto (tgt := 2) F dX3_clearKey_21 (by decide) ?_
        exact ih2 (i + 1) AI_5 H locs ls ⟨by omega, by omega⟩ hv (by omega) (by omega) hH hS (lv_sub hl [0, 1] rfl)
  exact cut_2_1 (((5 - 0) + 1 : Int).toNat) 0 AI H locs ls ⟨by decide, by decide⟩ hv (by omega) (by omega) hH hS (lv_sub hl [0, 1] rfl)

def rmX3_select : Room := { frames := 2, cells := 0, slots := 0, locals := 84 }
theorem hdX3_select : yX3_select.cls = RX3 ∧ yX3_select.cls ≠ "java/lang/invoke/MethodHandle" ∧ yX3_select.cls ≠ "java/lang/invoke/VarHandle" ∧ (parseMethodDescriptor yX3_select.desc).map (fun d => d.parameters.length) = some 3 := by decide +kernel
set_option maxHeartbeats 4000000 in
set_option maxRecDepth 100000 in
/-- a select -/
theorem c_X3_select (l : Launch) (g : gG) (gh : gGh) (I : gI) (R : gR) (J : gJ) (AI : gI) (AJ : gJ) (AR : gR) (a : Nat) (ln : Nat) (inr : Nat) (out : Nat) (hv : gInv g gh R AR I AI) (ha : gO g a 3) (hln : gO g ln 0) (hin : gO g inr 4) (hout : gO g out 4) (h4 : gh 2 out = 4) (hkd : (I ln 0).toInt = 1) : gMet l g yX3_select wsX3_select rmX3_select [.ref a, .ref ln, .ref inr, .ref out] (I, R, J, AI, AJ, AR) (gQi g (fun (z : Int) (w : gS) => R = w.2.1 ∧ J = w.2.2.1 ∧ AJ = w.2.2.2.2.1 ∧ AR = w.2.2.2.2.2 ∧ (gInv g gh R AR (w.1) (w.2.2.2.1)) ∧ (rF g I (w.1)) ∧ (-4 ≤ z ∧ z ≤ 0))) := by
  refine gStart (cc := cX3_select) (maxL := 5) (ret := (some (.int))) (by decide) rfl (Nat.le_of_ble_eq_true rfl) ?_
  intro p e s m below meth c ls F hr hlk hH hz hS hl
  have hl : lv_has ls 5 [(0, .ref a), (1, .ref ln), (2, .ref inr), (3, .ref out)] := hl
  have hS : va_S (gA g) s.heap s.heap [] := hS
  obtain ⟨H, hHe⟩ : ∃ H : Heap, H = s.heap := ⟨_, rfl⟩
  obtain ⟨locs, hlo⟩ : ∃ k : List Loc, k = [] := ⟨_, rfl⟩
  have hH : gH g I R J AI AJ AR H := by rw [hHe]; exact hH
  have hS : va_S (gA g) s.heap H locs := by rw [hHe, hlo]; exact hS
  suffices hw : W p l e rmX3_select s m ([.ref a, .ref ln, .ref inr, .ref out] : List Value).toArray below meth c H locs 0 0 (MQ below (gQi g (fun (z : Int) (w : gS) => R = w.2.1 ∧ J = w.2.2.1 ∧ AJ = w.2.2.2.2.1 ∧ AR = w.2.2.2.2.2 ∧ (gInv g gh R AR (w.1) (w.2.2.2.1)) ∧ (rF g I (w.1)) ∧ (-4 ≤ z ∧ z ≤ 0))) ([.ref a, .ref ln, .ref inr, .ref out] : List Value).toArray s 0 0 (gA g)) (F0 m 0 ls []) by
    rw [hHe, hlo] at hw; exact hw
  clear hHe hlo
  have rf : rF g I I := rF_r
  have iX4 : ∀ w ∈ u_ws RX4 TX4 4, w ∈ wsX3_select := (by decide +kernel)
  have k23 : Cond.fieldLink RX3 23 (TX4 3).1 (TX4 3).2.1 (TX4 3).2.2.1 ∈ wsX3_select := List.mem_of_getElem? (i := 1) rfl
  have k63 : Cond.fieldLink RX3 63 (TX4 2).1 (TX4 2).2.1 (TX4 2).2.2.1 ∈ wsX3_select := List.mem_of_getElem? (i := 2) rfl
  refine z_iconst F dX3_select_0 ?_
  refine lv_istore (lv' := [(4, .int (iI 0)), (0, .ref a), (1, .ref ln), (2, .ref inr), (3, .ref out)]) F.1 F.2.1 dX3_select_1 hl (by decide) rfl (fun ls hl => ?_)
  have cut_3_2 : ∀ (NN : Nat) (i : Int) (I_1 : gI) (AI_2 : gI) (H : Heap) (locs : List Loc) (ls : Array Slot), zr i → (gInv g gh R AR I_1 AI_2) → (rF g I I_1) → ((I_1 ln 0).toInt = 1) → (0 ≤ i ∧ i ≤ 240) → (240 - i) < ((NN : Nat) : Int) → gH g I_1 R J AI_2 AJ AR H → va_S (gA g) s.heap H locs → lv_has ls 5 [(4, .int (iI i)), (0, .ref a), (1, .ref ln), (2, .ref inr), (3, .ref out)] → W p l e rmX3_select s m ([.ref a, .ref ln, .ref inr, .ref out] : List Value).toArray below meth c H locs 0 0 (MQ below (gQi g (fun (z : Int) (w : gS) => R = w.2.1 ∧ J = w.2.2.1 ∧ AJ = w.2.2.2.2.1 ∧ AR = w.2.2.2.2.2 ∧ (gInv g gh R AR (w.1) (w.2.2.2.1)) ∧ (rF g I (w.1)) ∧ (-4 ≤ z ∧ z ≤ 0))) ([.ref a, .ref ln, .ref inr, .ref out] : List Value).toArray s 0 0 (gA g)) (F0 m 3 ls []) := by
    intro NN3
    induction NN3 with
    | zero =>
      intro i I_1 AI_2 H locs ls zi hv rf hkd hi hm3 hH hS hl
      exact absurd hm3 (by omega)
    | succ NN3 ih3 =>
      intro i I_1 AI_2 H locs ls zi hv rf hkd hi hm3 hH hS hl
      refine lv_iload F.1 F.2.1 dX3_select_3 (lv_at hl 0 rfl) ?_
      refine lv_aload_n F.1 F.2.1 dX3_select_5 rfl (lv_at hl 3 rfl) ?_
      refine g_getI (ci := 4) (k := 3) F hH rfl (by decide) iX4 hin (by decide) rfl k23 dX3_select_6 ?_
      obtain ⟨b_4a, b_4b, b_4c, b_4d, b_4e, b_4f, b_4g, b_4h⟩ := gI_rows hv hin
      refine z_icmp_ge (tgt := 53) F dX3_select_9 (by decide) zi (zr_t _) (fun c_5 => ?_) (fun c_5 => ?_)
      · refine z_iconst F dX3_select_53 ?_
        exact g_iret F hr hlk hH hS hz ⟨by decide, by decide⟩ ⟨rfl, rfl, rfl, rfl, hv, rf, by first | omega | rfl | (dsimp only; omega)⟩ dX3_select_54
      · refine lv_aload_n F.1 F.2.1 dX3_select_12 rfl (lv_at hl 2 rfl) ?_
        refine lv_aload_n F.1 F.2.1 dX3_select_13 rfl (lv_at hl 3 rfl) ?_
        obtain ⟨r_6a, r_6b⟩ := gR_cells hv hin
        refine g_getR (ci := 4) (k := 2) F hH rfl (by decide) iX4 hin (by decide) rfl (b := gh 0 inr) r_6a k63 dX3_select_14 ?_
        refine lv_iload F.1 F.2.1 dX3_select_17 (lv_at hl 0 rfl) ?_
        refine z_bipush F dX3_select_19 (by decide) ?_
        refine z_imul F dX3_select_21 ?_
        have b_7 := gI_line hv hln
        unfold vLineI at b_7
        refine g_calli (g_runV (As := [.ref (gh 0 inr), .int (iI (i * 6))]) (rest := []) (ci := 0) F hl.1 hH hS hz (c_X0_holds l g gh (6 * gh 1 inr) I_1 R J AI_2 AJ AR ln (gh 0 inr) (i * 6) ⟨by omega, by omega⟩ hv hln r_6b (by omega) (by omega) (by omega) (by omega)) (cwV 2 F.2.2.2.2.1 gX3_select_X0_holds rfl rfl rfl hdX0_holds ⟨Nat.le_of_ble_eq_true rfl, Nat.le_of_ble_eq_true rfl⟩) hln (by decide) rfl rfl rfl (Nat.le_of_ble_eq_true rfl) dX3_select_22 ⟨Nat.zero_le _, Nat.zero_le _⟩) hS (fun v_14 I_8 R_9 J_10 AI_11 AJ_12 AR_13 H locs zv_14 hp_15 hH hS => ?_)
        dsimp only at hp_15
        obtain ⟨rfl, rfl, rfl, rfl, rfl, rfl, q_16⟩ := hp_15
        refine z_if_eq (tgt := 47) F dX3_select_25 (by decide) zv_14 (fun c_17 => ?_) (fun c_17 => ?_)
        · refine z_iinc (lv' := [(4, .int (iI (i + 1))), (0, .ref a), (1, .ref ln), (2, .ref inr), (3, .ref out)]) F dX3_select_47 hl (k := 0) rfl (by decide) rfl (fun ls hl => ?_)
          refine z_goto (tgt := 3) F dX3_select_50 (by decide) ?_
          exact ih3 (i + 1) I_1 AI_2 H locs ls ⟨by omega, by omega⟩ hv rf (by omega) (by omega) (by omega) hH hS (lv_sub hl [0, 1, 2, 3, 4] rfl)
        · refine lv_aload_n F.1 F.2.1 dX3_select_28 rfl (lv_at hl 4 rfl) ?_
          refine lv_aload_n F.1 F.2.1 dX3_select_29 rfl (lv_at hl 3 rfl) ?_
          refine lv_iload F.1 F.2.1 dX3_select_30 (lv_at hl 0 rfl) ?_
          refine lv_aload_n F.1 F.2.1 dX3_select_32 rfl (lv_at hl 3 rfl) ?_
          refine lv_iload F.1 F.2.1 dX3_select_33 (lv_at hl 0 rfl) ?_
          refine g_calli (g_runV (As := [.int (iI i)]) (rest := [.int (iI i), .ref inr, .ref out]) (ci := 4) F hl.1 hH hS hz (c_X4_amount l g gh I_1 R J AI_2 AJ AR inr i zi hv hin (by omega) (by omega)) (cwV 1 F.2.2.2.2.1 gX3_select_X4_amount rfl rfl rfl hdX4_amount ⟨Nat.le_of_ble_eq_true rfl, Nat.le_of_ble_eq_true rfl⟩) hin (by decide) rfl rfl rfl (Nat.le_of_ble_eq_true rfl) dX3_select_35 ⟨Nat.zero_le _, Nat.zero_le _⟩) hS (fun v_24 I_18 R_19 J_20 AI_21 AJ_22 AR_23 H locs zv_24 hp_25 hH hS => ?_)
          dsimp only at hp_25
          obtain ⟨rfl, rfl, rfl, rfl, rfl, rfl, q_26⟩ := hp_25
          obtain ⟨b_27a, b_27b, b_27c, b_27d, b_27e, b_27f, b_27g, b_27h⟩ := gI_rows hv hout
          refine g_calli (g_runV (As := [.ref inr, .int (iI i), .int (iI v_24)]) (rest := []) (ci := 4) F hl.1 hH hS hz (c_X4_append l g gh I_1 R J AI_2 AJ AR out inr i v_24 zi zv_24 hv hout hin (by omega) (by omega) (by omega)) (cwV 3 F.2.2.2.2.1 gX3_select_X4_append rfl rfl rfl hdX4_append ⟨Nat.le_of_ble_eq_true rfl, Nat.le_of_ble_eq_true rfl⟩) hout (by decide) rfl rfl rfl (Nat.le_of_ble_eq_true rfl) dX3_select_38 ⟨Nat.zero_le _, Nat.zero_le _⟩) hS (fun v_34 I_28 R_29 J_30 AI_31 AJ_32 AR_33 H locs zv_34 hp_35 hH hS => ?_)
          dsimp only at hp_35
          obtain ⟨rfl, rfl, rfl, rfl, hv, q_36, q_37⟩ := hp_35
          have rf := rF_t rf (rF_o hout q_36)
          have u_38 : (I_28 ln 0).toInt = (I ln 0).toInt := by rw [rf ln 0 hln (by decide)]
          refine z_if_ne (tgt := 47) F dX3_select_41 (by decide) zv_34 (fun c_39 => ?_) (fun c_39 => ?_)
          · refine z_iinc (lv' := [(4, .int (iI (i + 1))), (0, .ref a), (1, .ref ln), (2, .ref inr), (3, .ref out)]) F dX3_select_47 hl (k := 0) rfl (by decide) rfl (fun ls hl => ?_)
            refine z_goto (tgt := 3) F dX3_select_50 (by decide) ?_
            exact ih3 (i + 1) I_28 AI_31 H locs ls ⟨by omega, by omega⟩ hv rf (by omega) (by omega) (by omega) hH hS (lv_sub hl [0, 1, 2, 3, 4] rfl)
          · refine z_bipush F dX3_select_44 (by decide) ?_
            exact g_iret F hr hlk hH hS hz ⟨by decide, by decide⟩ ⟨rfl, rfl, rfl, rfl, hv, rf, by first | omega | rfl | (dsimp only; omega)⟩ dX3_select_46
  exact cut_3_2 (((240 - 0) + 1 : Int).toNat) 0 I AI H locs ls ⟨by decide, by decide⟩ hv rf (by omega) (by omega) (by omega) hH hS (lv_sub hl [0, 1, 2, 3, 4] rfl)

def rmX3_project : Room := { frames := 3, cells := 0, slots := 0, locals := 108 }
theorem hdX3_project : yX3_project.cls = RX3 ∧ yX3_project.cls ≠ "java/lang/invoke/MethodHandle" ∧ yX3_project.cls ≠ "java/lang/invoke/VarHandle" ∧ (parseMethodDescriptor yX3_project.desc).map (fun d => d.parameters.length) = some 3 := by decide +kernel
set_option maxHeartbeats 4000000 in
set_option maxRecDepth 100000 in
/-- a project -/
theorem c_X3_project (l : Launch) (g : gG) (gh : gGh) (I : gI) (R : gR) (J : gJ) (AI : gI) (AJ : gJ) (AR : gR) (a : Nat) (ln : Nat) (inr : Nat) (out : Nat) (hv : gInv g gh R AR I AI) (ha : gO g a 3) (hln : gO g ln 0) (hin : gO g inr 4) (hout : gO g out 4) (h4 : gh 2 out = 4) (hkd : (I ln 0).toInt = 2) : gMet l g yX3_project wsX3_project rmX3_project [.ref a, .ref ln, .ref inr, .ref out] (I, R, J, AI, AJ, AR) (gQi g (fun (z : Int) (w : gS) => R = w.2.1 ∧ J = w.2.2.1 ∧ AJ = w.2.2.2.2.1 ∧ AR = w.2.2.2.2.2 ∧ (gInv g gh R AR (w.1) (w.2.2.2.1)) ∧ (rF g I (w.1)) ∧ (-4 ≤ z ∧ z ≤ 0))) := by
  refine gStart (cc := cX3_project) (maxL := 5) (ret := (some (.int))) (by decide) rfl (Nat.le_of_ble_eq_true rfl) ?_
  intro p e s m below meth c ls F hr hlk hH hz hS hl
  have hl : lv_has ls 5 [(0, .ref a), (1, .ref ln), (2, .ref inr), (3, .ref out)] := hl
  have hS : va_S (gA g) s.heap s.heap [] := hS
  obtain ⟨H, hHe⟩ : ∃ H : Heap, H = s.heap := ⟨_, rfl⟩
  obtain ⟨locs, hlo⟩ : ∃ k : List Loc, k = [] := ⟨_, rfl⟩
  have hH : gH g I R J AI AJ AR H := by rw [hHe]; exact hH
  have hS : va_S (gA g) s.heap H locs := by rw [hHe, hlo]; exact hS
  suffices hw : W p l e rmX3_project s m ([.ref a, .ref ln, .ref inr, .ref out] : List Value).toArray below meth c H locs 0 0 (MQ below (gQi g (fun (z : Int) (w : gS) => R = w.2.1 ∧ J = w.2.2.1 ∧ AJ = w.2.2.2.2.1 ∧ AR = w.2.2.2.2.2 ∧ (gInv g gh R AR (w.1) (w.2.2.2.1)) ∧ (rF g I (w.1)) ∧ (-4 ≤ z ∧ z ≤ 0))) ([.ref a, .ref ln, .ref inr, .ref out] : List Value).toArray s 0 0 (gA g)) (F0 m 0 ls []) by
    rw [hHe, hlo] at hw; exact hw
  clear hHe hlo
  have rf : rF g I I := rF_r
  have iX4 : ∀ w ∈ u_ws RX4 TX4 4, w ∈ wsX3_project := (by decide +kernel)
  have iX3 : ∀ w ∈ u_ws RX3 TX3 3, w ∈ wsX3_project := (by decide +kernel)
  have k23 : Cond.fieldLink RX3 23 (TX4 3).1 (TX4 3).2.1 (TX4 3).2.2.1 ∈ wsX3_project := List.mem_of_getElem? (i := 1) rfl
  have k63 : Cond.fieldLink RX3 63 (TX4 2).1 (TX4 2).2.1 (TX4 2).2.2.1 ∈ wsX3_project := List.mem_of_getElem? (i := 2) rfl
  have k11 : Cond.fieldLink RX3 11 (TX3 0).1 (TX3 0).2.1 (TX3 0).2.2.1 ∈ wsX3_project := List.mem_of_getElem? (i := 3) rfl
  refine lv_aload_n F.1 F.2.1 dX3_project_0 rfl (lv_at hl 0 rfl) ?_
  refine g_callv (g_runV (As := []) (rest := []) (ci := 3) F hl.1 hH hS hz (c_X3_clearKey l g gh I R J AI AJ AR a hv ha) (cwV 0 F.2.2.2.2.1 gX3_project_X3_clearKey rfl rfl rfl hdX3_clearKey ⟨Nat.le_of_ble_eq_true rfl, Nat.le_of_ble_eq_true rfl⟩) ha (by decide) rfl rfl rfl (Nat.le_of_ble_eq_true rfl) dX3_project_1 ⟨Nat.zero_le _, Nat.zero_le _⟩) hS (fun I_1 R_2 J_3 AI_4 AJ_5 AR_6 H locs hp_7 hH hS => ?_)
  dsimp only at hp_7
  obtain ⟨rfl, rfl, rfl, rfl, rfl, hv⟩ := hp_7
  refine z_iconst F dX3_project_4 ?_
  refine lv_istore (lv' := [(4, .int (iI 0)), (0, .ref a), (1, .ref ln), (2, .ref inr), (3, .ref out)]) F.1 F.2.1 dX3_project_5 hl (by decide) rfl (fun ls hl => ?_)
  have cut_7_9 : ∀ (NN : Nat) (i : Int) (I_8 : gI) (AI_9 : gI) (H : Heap) (locs : List Loc) (ls : Array Slot), zr i → (gInv g gh R AR I_8 AI_9) → (rF g I I_8) → ((I_8 ln 0).toInt = 2) → (0 ≤ i ∧ i ≤ 240) → (240 - i) < ((NN : Nat) : Int) → gH g I_8 R J AI_9 AJ AR H → va_S (gA g) s.heap H locs → lv_has ls 5 [(4, .int (iI i)), (0, .ref a), (1, .ref ln), (2, .ref inr), (3, .ref out)] → W p l e rmX3_project s m ([.ref a, .ref ln, .ref inr, .ref out] : List Value).toArray below meth c H locs 0 0 (MQ below (gQi g (fun (z : Int) (w : gS) => R = w.2.1 ∧ J = w.2.2.1 ∧ AJ = w.2.2.2.2.1 ∧ AR = w.2.2.2.2.2 ∧ (gInv g gh R AR (w.1) (w.2.2.2.1)) ∧ (rF g I (w.1)) ∧ (-4 ≤ z ∧ z ≤ 0))) ([.ref a, .ref ln, .ref inr, .ref out] : List Value).toArray s 0 0 (gA g)) (F0 m 7 ls []) := by
    intro NN7
    induction NN7 with
    | zero =>
      intro i I_8 AI_9 H locs ls zi hv rf hkd hi hm7 hH hS hl
      exact absurd hm7 (by omega)
    | succ NN7 ih7 =>
      intro i I_8 AI_9 H locs ls zi hv rf hkd hi hm7 hH hS hl
      refine lv_iload F.1 F.2.1 dX3_project_7 (lv_at hl 0 rfl) ?_
      refine lv_aload_n F.1 F.2.1 dX3_project_9 rfl (lv_at hl 3 rfl) ?_
      refine g_getI (ci := 4) (k := 3) F hH rfl (by decide) iX4 hin (by decide) rfl k23 dX3_project_10 ?_
      obtain ⟨b_11a, b_11b, b_11c, b_11d, b_11e, b_11f, b_11g, b_11h⟩ := gI_rows hv hin
      refine z_icmp_ge (tgt := 59) F dX3_project_13 (by decide) zi (zr_t _) (fun c_12 => ?_) (fun c_12 => ?_)
      · refine z_iconst F dX3_project_59 ?_
        exact g_iret F hr hlk hH hS hz ⟨by decide, by decide⟩ ⟨rfl, rfl, rfl, rfl, hv, rf, by first | omega | rfl | (dsimp only; omega)⟩ dX3_project_60
      · refine lv_aload_n F.1 F.2.1 dX3_project_16 rfl (lv_at hl 2 rfl) ?_
        refine lv_aload_n F.1 F.2.1 dX3_project_17 rfl (lv_at hl 3 rfl) ?_
        obtain ⟨r_13a, r_13b⟩ := gR_cells hv hin
        refine g_getR (ci := 4) (k := 2) F hH rfl (by decide) iX4 hin (by decide) rfl (b := gh 0 inr) r_13a k63 dX3_project_18 ?_
        refine lv_iload F.1 F.2.1 dX3_project_21 (lv_at hl 0 rfl) ?_
        refine z_bipush F dX3_project_23 (by decide) ?_
        refine z_imul F dX3_project_25 ?_
        refine lv_aload_n F.1 F.2.1 dX3_project_26 rfl (lv_at hl 1 rfl) ?_
        obtain ⟨r_14a, r_14b⟩ := gR_rk0 hv ha
        refine g_getR (ci := 3) (k := 0) F hH rfl (by decide) iX3 ha (by decide) rfl (b := gh 30 0) r_14a k11 dX3_project_27 ?_
        have b_15 := gI_line hv hln
        unfold vLineI at b_15
        refine g_callv (g_runV (As := [.ref (gh 0 inr), .int (iI (i * 6)), .ref (gh 30 0)]) (rest := []) (ci := 0) F hl.1 hH hS hz (c_X0_fillTerms l g gh (6 * gh 1 inr) I_8 R J AI_9 AJ AR ln (gh 0 inr) (i * 6) (gh 30 0) ⟨by omega, by omega⟩ hv hln r_13b (by omega) (by omega) (by omega) (by omega) r_14b (ro30 hv ha)) (cwV 3 F.2.2.2.2.1 gX3_project_X0_fillTerms rfl rfl rfl hdX0_fillTerms ⟨Nat.le_of_ble_eq_true rfl, Nat.le_of_ble_eq_true rfl⟩) hln (by decide) rfl rfl rfl (Nat.le_of_ble_eq_true rfl) dX3_project_30 ⟨Nat.zero_le _, Nat.zero_le _⟩) hS (fun I_16 R_17 J_18 AI_19 AJ_20 AR_21 H locs hp_22 hH hS => ?_)
        dsimp only at hp_22
        obtain ⟨rfl, rfl, rfl, rfl, rfl, hv, q_23⟩ := hp_22
        refine lv_aload_n F.1 F.2.1 dX3_project_33 rfl (lv_at hl 4 rfl) ?_
        refine lv_aload_n F.1 F.2.1 dX3_project_34 rfl (lv_at hl 1 rfl) ?_
        refine g_getR (ci := 3) (k := 0) F hH rfl (by decide) iX3 ha (by decide) rfl (b := gh 30 0) r_14a k11 dX3_project_35 ?_
        refine lv_aload_n F.1 F.2.1 dX3_project_38 rfl (lv_at hl 3 rfl) ?_
        refine lv_iload F.1 F.2.1 dX3_project_39 (lv_at hl 0 rfl) ?_
        refine g_calli (g_runV (As := [.int (iI i)]) (rest := [.ref (gh 30 0), .ref out]) (ci := 4) F hl.1 hH hS hz (c_X4_amount l g gh I_8 R J AI_19 AJ AR inr i zi hv hin (by omega) (by omega)) (cwV 1 F.2.2.2.2.1 gX3_project_X4_amount rfl rfl rfl hdX4_amount ⟨Nat.le_of_ble_eq_true rfl, Nat.le_of_ble_eq_true rfl⟩) hin (by decide) rfl rfl rfl (Nat.le_of_ble_eq_true rfl) dX3_project_41 ⟨Nat.zero_le _, Nat.zero_le _⟩) hS (fun v_30 I_24 R_25 J_26 AI_27 AJ_28 AR_29 H locs zv_30 hp_31 hH hS => ?_)
        dsimp only at hp_31
        obtain ⟨rfl, rfl, rfl, rfl, rfl, rfl, q_32⟩ := hp_31
        obtain ⟨b_33a, b_33b, b_33c, b_33d, b_33e, b_33f, b_33g, b_33h⟩ := gI_rows hv hout
        refine g_calli (g_runV (As := [.ref (gh 30 0), .int (iI v_30)]) (rest := []) (ci := 4) F hl.1 hH hS hz (c_X4_addAmount l g gh I_8 R J AI_19 AJ AR out (gh 30 0) v_30 zv_30 hv hout r_14b (ro30 hv ha) (fun h => absurd h (by omega)) (by first | exact hfz | omega)) (cwV 2 F.2.2.2.2.1 gX3_project_X4_addAmount rfl rfl rfl hdX4_addAmount ⟨Nat.le_of_ble_eq_true rfl, Nat.le_of_ble_eq_true rfl⟩) hout (by decide) rfl rfl rfl (Nat.le_of_ble_eq_true rfl) dX3_project_44 ⟨Nat.zero_le _, Nat.zero_le _⟩) hS (fun v_40 I_34 R_35 J_36 AI_37 AJ_38 AR_39 H locs zv_40 hp_41 hH hS => ?_)
        dsimp only at hp_41
        obtain ⟨rfl, rfl, rfl, rfl, hv, q_42, q_43⟩ := hp_41
        have rf := rF_t rf (rF_o hout q_42)
        have u_44 : (I_34 ln 0).toInt = (I ln 0).toInt := by rw [rf ln 0 hln (by decide)]
        refine z_if_ne (tgt := 53) F dX3_project_47 (by decide) zv_40 (fun c_45 => ?_) (fun c_45 => ?_)
        · refine z_iinc (lv' := [(4, .int (iI (i + 1))), (0, .ref a), (1, .ref ln), (2, .ref inr), (3, .ref out)]) F dX3_project_53 hl (k := 0) rfl (by decide) rfl (fun ls hl => ?_)
          refine z_goto (tgt := 7) F dX3_project_56 (by decide) ?_
          exact ih7 (i + 1) I_34 AI_37 H locs ls ⟨by omega, by omega⟩ hv rf (by omega) (by omega) (by omega) hH hS (lv_sub hl [0, 1, 2, 3, 4] rfl)
        · refine z_bipush F dX3_project_50 (by decide) ?_
          exact g_iret F hr hlk hH hS hz ⟨by decide, by decide⟩ ⟨rfl, rfl, rfl, rfl, hv, rf, by first | omega | rfl | (dsimp only; omega)⟩ dX3_project_52
  exact cut_7_9 (((240 - 0) + 1 : Int).toNat) 0 I AI_4 H locs ls ⟨by decide, by decide⟩ hv rf (by omega) (by omega) (by omega) hH hS (lv_sub hl [0, 1, 2, 3, 4] rfl)

def rmX3_fillJoined : Room := { frames := 1, cells := 0, slots := 0, locals := 22 }
theorem hdX3_fillJoined : yX3_fillJoined.cls = RX3 ∧ yX3_fillJoined.cls ≠ "java/lang/invoke/MethodHandle" ∧ yX3_fillJoined.cls ≠ "java/lang/invoke/VarHandle" ∧ (parseMethodDescriptor yX3_fillJoined.desc).map (fun d => d.parameters.length) = some 5 := by decide +kernel
set_option maxHeartbeats 4000000 in
set_option maxRecDepth 100000 in
/-- the columns of a joined tuple -/
theorem c_X3_fillJoined (l : Launch) (g : gG) (gh : gGh) (I : gI) (R : gR) (J : gJ) (AI : gI) (AJ : gJ) (AR : gR) (a : Nat) (ln : Nat) (inr : Nat) (i0 : Int) (inb : Nat) (j0 : Int) (zi0 : zr i0) (zj0 : zr j0) (hv : gInv g gh R AR I AI) (ha : gO g a 3) (hln : gO g ln 0) (hin : gO g inr 4) (hinb : gO g inb 4) (h0 : 0 ≤ i0 ∧ i0 < (gh 1 inr : Int)) (h1 : 0 ≤ j0 ∧ j0 < (gh 1 inb : Int)) : gMet l g yX3_fillJoined wsX3_fillJoined rmX3_fillJoined [.ref a, .ref ln, .ref inr, .int (iI i0), .ref inb, .int (iI j0)] (I, R, J, AI, AJ, AR) (gQv g (fun w : gS => I = w.1 ∧ R = w.2.1 ∧ J = w.2.2.1 ∧ AJ = w.2.2.2.2.1 ∧ AR = w.2.2.2.2.2 ∧ (gInv g gh R AR I (w.2.2.2.1)))) := by
  refine gStart (cc := cX3_fillJoined) (maxL := 8) (ret := none) (by decide) rfl (Nat.le_of_ble_eq_true rfl) ?_
  intro p e s m below meth c ls F hr hlk hH hz hS hl
  have hl : lv_has ls 8 [(0, .ref a), (1, .ref ln), (2, .ref inr), (3, .int (iI i0)), (4, .ref inb), (5, .int (iI j0))] := hl
  have hS : va_S (gA g) s.heap s.heap [] := hS
  obtain ⟨H, hHe⟩ : ∃ H : Heap, H = s.heap := ⟨_, rfl⟩
  obtain ⟨locs, hlo⟩ : ∃ k : List Loc, k = [] := ⟨_, rfl⟩
  have hH : gH g I R J AI AJ AR H := by rw [hHe]; exact hH
  have hS : va_S (gA g) s.heap H locs := by rw [hHe, hlo]; exact hS
  suffices hw : W p l e rmX3_fillJoined s m ([.ref a, .ref ln, .ref inr, .int (iI i0), .ref inb, .int (iI j0)] : List Value).toArray below meth c H locs 0 0 (MQ below (gQv g (fun w : gS => I = w.1 ∧ R = w.2.1 ∧ J = w.2.2.1 ∧ AJ = w.2.2.2.2.1 ∧ AR = w.2.2.2.2.2 ∧ (gInv g gh R AR I (w.2.2.2.1)))) ([.ref a, .ref ln, .ref inr, .int (iI i0), .ref inb, .int (iI j0)] : List Value).toArray s 0 0 (gA g)) (F0 m 0 ls []) by
    rw [hHe, hlo] at hw; exact hw
  clear hHe hlo
  have iX3 : ∀ w ∈ u_ws RX3 TX3 3, w ∈ wsX3_fillJoined := (by decide +kernel)
  have iX0 : ∀ w ∈ u_ws RX0 TX0 15, w ∈ wsX3_fillJoined := (by decide +kernel)
  have k96 : Cond.fieldLink RX3 96 (TX0 5).1 (TX0 5).2.1 (TX0 5).2.2.1 ∈ wsX3_fillJoined := List.mem_of_getElem? (i := 1) rfl
  have k11 : Cond.fieldLink RX3 11 (TX3 0).1 (TX3 0).2.1 (TX3 0).2.2.1 ∈ wsX3_fillJoined := List.mem_of_getElem? (i := 2) rfl
  have k103 : Cond.fieldLink RX3 103 (TX0 6).1 (TX0 6).2.1 (TX0 6).2.2.1 ∈ wsX3_fillJoined := List.mem_of_getElem? (i := 3) rfl
  refine z_iconst F dX3_fillJoined_0 ?_
  refine lv_istore (lv' := [(6, .int (iI 0)), (0, .ref a), (1, .ref ln), (2, .ref inr), (3, .int (iI i0)), (4, .ref inb), (5, .int (iI j0))]) F.1 F.2.1 dX3_fillJoined_1 hl (by decide) rfl (fun ls hl => ?_)
  refine z_iconst F dX3_fillJoined_3 ?_
  refine lv_istore (lv' := [(7, .int (iI 0)), (6, .int (iI 0)), (0, .ref a), (1, .ref ln), (2, .ref inr), (3, .int (iI i0)), (4, .ref inb), (5, .int (iI j0))]) F.1 F.2.1 dX3_fillJoined_4 hl (by decide) rfl (fun ls hl => ?_)
  have cut_6_1 : ∀ (NN : Nat) (fl cc_ : Int) (AI_1 : gI) (H : Heap) (locs : List Loc) (ls : Array Slot), zr fl → zr cc_ → (gInv g gh R AR I AI_1) → (0 ≤ cc_ ∧ cc_ ≤ 4 ∧ fl = cc_) → (4 - cc_) < ((NN : Nat) : Int) → gH g I R J AI_1 AJ AR H → va_S (gA g) s.heap H locs → lv_has ls 8 [(7, .int (iI cc_)), (6, .int (iI fl)), (0, .ref a), (1, .ref ln), (2, .ref inr), (3, .int (iI i0)), (4, .ref inb), (5, .int (iI j0))] → W p l e rmX3_fillJoined s m ([.ref a, .ref ln, .ref inr, .int (iI i0), .ref inb, .int (iI j0)] : List Value).toArray below meth c H locs 0 0 (MQ below (gQv g (fun w : gS => I = w.1 ∧ R = w.2.1 ∧ J = w.2.2.1 ∧ AJ = w.2.2.2.2.1 ∧ AR = w.2.2.2.2.2 ∧ (gInv g gh R AR I (w.2.2.2.1)))) ([.ref a, .ref ln, .ref inr, .int (iI i0), .ref inb, .int (iI j0)] : List Value).toArray s 0 0 (gA g)) (F0 m 6 ls []) := by
    intro NN6
    induction NN6 with
    | zero =>
      intro fl cc_ AI_1 H locs ls zfl zcc_ hv hi hm6 hH hS hl
      exact absurd hm6 (by omega)
    | succ NN6 ih6 =>
      intro fl cc_ AI_1 H locs ls zfl zcc_ hv hi hm6 hH hS hl
      refine lv_iload F.1 F.2.1 dX3_fillJoined_6 (lv_at hl 0 rfl) ?_
      refine lv_aload_n F.1 F.2.1 dX3_fillJoined_8 rfl (lv_at hl 3 rfl) ?_
      refine g_getI (ci := 0) (k := 5) F hH rfl (by decide) iX0 hln (by decide) rfl k96 dX3_fillJoined_9 ?_
      have b_3 := gI_line hv hln
      unfold vLineI at b_3
      refine z_icmp_ge (tgt := 38) F dX3_fillJoined_12 (by decide) zcc_ (zr_t _) (fun c_4 => ?_) (fun c_4 => ?_)
      · refine z_iconst F dX3_fillJoined_38 ?_
        refine lv_istore (lv' := [(7, .int (iI 0)), (6, .int (iI fl)), (0, .ref a), (1, .ref ln), (2, .ref inr), (3, .int (iI i0)), (4, .ref inb), (5, .int (iI j0))]) F.1 F.2.1 dX3_fillJoined_39 hl (by decide) rfl (fun ls hl => ?_)
        have cut_41_5 : ∀ (NN : Nat) (f2 c2 : Int) (AI_5 : gI) (H : Heap) (locs : List Loc) (ls : Array Slot), zr f2 → zr c2 → (gInv g gh R AR I AI_5) → (0 ≤ c2 ∧ c2 ≤ 4 ∧ 0 ≤ f2 ∧ f2 ≤ 4) → (4 - c2) < ((NN : Nat) : Int) → gH g I R J AI_5 AJ AR H → va_S (gA g) s.heap H locs → lv_has ls 8 [(7, .int (iI c2)), (6, .int (iI f2)), (0, .ref a), (1, .ref ln), (2, .ref inr), (3, .int (iI i0)), (4, .ref inb), (5, .int (iI j0))] → W p l e rmX3_fillJoined s m ([.ref a, .ref ln, .ref inr, .int (iI i0), .ref inb, .int (iI j0)] : List Value).toArray below meth c H locs 0 0 (MQ below (gQv g (fun w : gS => I = w.1 ∧ R = w.2.1 ∧ J = w.2.2.1 ∧ AJ = w.2.2.2.2.1 ∧ AR = w.2.2.2.2.2 ∧ (gInv g gh R AR I (w.2.2.2.1)))) ([.ref a, .ref ln, .ref inr, .int (iI i0), .ref inb, .int (iI j0)] : List Value).toArray s 0 0 (gA g)) (F0 m 41 ls []) := by
          intro NN41
          induction NN41 with
          | zero =>
            intro f2 c2 AI_5 H locs ls zf2 zc2 hv hi hm41 hH hS hl
            exact absurd hm41 (by omega)
          | succ NN41 ih41 =>
            intro f2 c2 AI_5 H locs ls zf2 zc2 hv hi hm41 hH hS hl
            refine lv_iload F.1 F.2.1 dX3_fillJoined_41 (lv_at hl 0 rfl) ?_
            refine lv_aload_n F.1 F.2.1 dX3_fillJoined_43 rfl (lv_at hl 3 rfl) ?_
            refine g_getI (ci := 0) (k := 6) F hH rfl (by decide) iX0 hln (by decide) rfl k103 dX3_fillJoined_44 ?_
            refine z_icmp_ge (tgt := 90) F dX3_fillJoined_47 (by decide) zc2 (zr_t _) (fun c_7 => ?_) (fun c_7 => ?_)
            · exact g_vret F hr hlk hH hS hz ⟨rfl, rfl, rfl, rfl, rfl, hv⟩ dX3_fillJoined_90
            · refine lv_iload F.1 F.2.1 dX3_fillJoined_50 (lv_at hl 1 rfl) ?_
              refine z_iconst F dX3_fillJoined_52 ?_
              refine z_icmp_ge (tgt := 90) F dX3_fillJoined_53 (by decide) zf2 ⟨by decide, by decide⟩ (fun c_8 => ?_) (fun c_8 => ?_)
              · exact g_vret F hr hlk hH hS hz ⟨rfl, rfl, rfl, rfl, rfl, hv⟩ dX3_fillJoined_90
              · refine lv_aload_n F.1 F.2.1 dX3_fillJoined_56 rfl (lv_at hl 3 rfl) ?_
                refine lv_iload F.1 F.2.1 dX3_fillJoined_57 (lv_at hl 0 rfl) ?_
                refine g_calli (g_runV (As := [.int (iI c2)]) (rest := []) (ci := 0) F hl.1 hH hS hz (c_X0_tellsSecond l g gh I R J AI_5 AJ AR ln c2 zc2 hv hln) (cwV 1 F.2.2.2.2.1 gX3_fillJoined_X0_tellsSecond rfl rfl rfl hdX0_tellsSecond ⟨Nat.le_of_ble_eq_true rfl, Nat.le_of_ble_eq_true rfl⟩) hln (by decide) rfl rfl rfl (Nat.le_of_ble_eq_true rfl) dX3_fillJoined_59 ⟨Nat.zero_le _, Nat.zero_le _⟩) hS (fun v_15 I_9 R_10 J_11 AI_12 AJ_13 AR_14 H locs zv_15 hp_16 hH hS => ?_)
                dsimp only at hp_16
                obtain ⟨rfl, rfl, rfl, rfl, rfl, rfl, q_17⟩ := hp_16
                refine z_if_ne (tgt := 84) F dX3_fillJoined_62 (by decide) zv_15 (fun c_18 => ?_) (fun c_18 => ?_)
                · refine z_iinc (lv' := [(7, .int (iI (c2 + 1))), (6, .int (iI f2)), (0, .ref a), (1, .ref ln), (2, .ref inr), (3, .int (iI i0)), (4, .ref inb), (5, .int (iI j0))]) F dX3_fillJoined_84 hl (k := 0) rfl (by decide) rfl (fun ls hl => ?_)
                  refine z_goto (tgt := 41) F dX3_fillJoined_87 (by decide) ?_
                  exact ih41 f2 (c2 + 1) AI_5 H locs ls zf2 ⟨by omega, by omega⟩ hv (by omega) (by omega) hH hS (lv_sub hl [0, 1, 2, 3, 4, 5, 6, 7] rfl)
                · refine lv_aload_n F.1 F.2.1 dX3_fillJoined_65 rfl (lv_at hl 2 rfl) ?_
                  obtain ⟨r_19a, r_19b⟩ := gR_rk0 hv ha
                  refine g_getR (ci := 3) (k := 0) F hH rfl (by decide) iX3 ha (by decide) rfl (b := gh 30 0) r_19a k11 dX3_fillJoined_66 ?_
                  refine lv_iload F.1 F.2.1 dX3_fillJoined_69 (lv_at hl 1 rfl) ?_
                  refine lv_aload F.1 F.2.1 dX3_fillJoined_71 (lv_at hl 6 rfl) ?_
                  refine lv_iload F.1 F.2.1 dX3_fillJoined_73 (lv_at hl 7 rfl) ?_
                  refine lv_iload F.1 F.2.1 dX3_fillJoined_75 (lv_at hl 0 rfl) ?_
                  obtain ⟨b_20a, b_20b, b_20c, b_20d, b_20e, b_20f, b_20g, b_20h⟩ := gI_rows hv hinb
                  refine g_calli (g_runV (As := [.int (iI j0), .int (iI c2)]) (rest := [.int (iI f2), .ref (gh 30 0)]) (ci := 4) F hl.1 hH hS hz (c_X4_cell l g gh I R J AI_5 AJ AR inb j0 c2 zj0 zc2 hv hinb (by omega) (by omega) (by omega) (by omega)) (cwV 2 F.2.2.2.2.1 gX3_fillJoined_X4_cell rfl rfl rfl hdX4_cell ⟨Nat.le_of_ble_eq_true rfl, Nat.le_of_ble_eq_true rfl⟩) hinb (by decide) rfl rfl rfl (Nat.le_of_ble_eq_true rfl) dX3_fillJoined_77 ⟨Nat.zero_le _, Nat.zero_le _⟩) hS (fun v_27 I_21 R_22 J_23 AI_24 AJ_25 AR_26 H locs zv_27 hp_28 hH hS => ?_)
                  dsimp only at hp_28
                  obtain ⟨rfl, rfl, rfl, rfl, rfl, rfl, q_29⟩ := hp_28
                  have hx80 : 0 ≤ f2 ∧ f2 < ((5 : Nat) : Int) ∧ f2 ≤ 2147483647 := ⟨by omega, by omega, by omega⟩
                  refine g_iast F hH hS r_19b hx80.1 hx80.2.1 hx80.2.2 dX3_fillJoined_80 (fun H locs hH hS => ?_)
                  obtain ⟨AI_30, eAI_30⟩ : ∃ qQ, qQ = gup2 AI_5 (gh 30 0) (f2).toNat (iI (v_27)) := ⟨_, rfl⟩
                  rw [← eAI_30] at hH
                  have kAI_30 : ∀ b, b ≠ (gh 30 0) → AI_30 b = AI_5 b := fun b hb => by rw [eAI_30]; exact funext fun j => gup2_a _ _ hb
                  have hv : gInv g gh R AR I AI_30 := gInv_plain hv (ro30 hv ha) kAI_30
                  refine z_iinc (lv' := [(6, .int (iI (f2 + 1))), (7, .int (iI c2)), (0, .ref a), (1, .ref ln), (2, .ref inr), (3, .int (iI i0)), (4, .ref inb), (5, .int (iI j0))]) F dX3_fillJoined_81 hl (k := 1) rfl (by decide) rfl (fun ls hl => ?_)
                  refine z_iinc (lv' := [(7, .int (iI (c2 + 1))), (6, .int (iI (f2 + 1))), (0, .ref a), (1, .ref ln), (2, .ref inr), (3, .int (iI i0)), (4, .ref inb), (5, .int (iI j0))]) F dX3_fillJoined_84 hl (k := 1) rfl (by decide) rfl (fun ls hl => ?_)
                  refine z_goto (tgt := 41) F dX3_fillJoined_87 (by decide) ?_
                  exact ih41 (f2 + 1) (c2 + 1) AI_30 H locs ls ⟨by omega, by omega⟩ ⟨by omega, by omega⟩ hv (by omega) (by omega) hH hS (lv_sub hl [0, 1, 2, 3, 4, 5, 6, 7] rfl)
        exact cut_41_5 (((4 - 0) + 1 : Int).toNat) fl 0 AI_1 H locs ls zfl ⟨by decide, by decide⟩ hv (by omega) (by omega) hH hS (lv_sub hl [0, 1, 2, 3, 4, 5, 6, 7] rfl)
      · refine lv_aload_n F.1 F.2.1 dX3_fillJoined_15 rfl (lv_at hl 2 rfl) ?_
        obtain ⟨r_31a, r_31b⟩ := gR_rk0 hv ha
        refine g_getR (ci := 3) (k := 0) F hH rfl (by decide) iX3 ha (by decide) rfl (b := gh 30 0) r_31a k11 dX3_fillJoined_16 ?_
        refine lv_iload F.1 F.2.1 dX3_fillJoined_19 (lv_at hl 1 rfl) ?_
        refine lv_aload_n F.1 F.2.1 dX3_fillJoined_21 rfl (lv_at hl 4 rfl) ?_
        refine lv_iload_n F.1 F.2.1 dX3_fillJoined_22 rfl (lv_at hl 5 rfl) ?_
        refine lv_iload F.1 F.2.1 dX3_fillJoined_23 (lv_at hl 0 rfl) ?_
        obtain ⟨b_32a, b_32b, b_32c, b_32d, b_32e, b_32f, b_32g, b_32h⟩ := gI_rows hv hin
        refine g_calli (g_runV (As := [.int (iI i0), .int (iI cc_)]) (rest := [.int (iI fl), .ref (gh 30 0)]) (ci := 4) F hl.1 hH hS hz (c_X4_cell l g gh I R J AI_1 AJ AR inr i0 cc_ zi0 zcc_ hv hin (by omega) (by omega) (by omega) (by omega)) (cwV 2 F.2.2.2.2.1 gX3_fillJoined_X4_cell rfl rfl rfl hdX4_cell ⟨Nat.le_of_ble_eq_true rfl, Nat.le_of_ble_eq_true rfl⟩) hin (by decide) rfl rfl rfl (Nat.le_of_ble_eq_true rfl) dX3_fillJoined_25 ⟨Nat.zero_le _, Nat.zero_le _⟩) hS (fun v_39 I_33 R_34 J_35 AI_36 AJ_37 AR_38 H locs zv_39 hp_40 hH hS => ?_)
        dsimp only at hp_40
        obtain ⟨rfl, rfl, rfl, rfl, rfl, rfl, q_41⟩ := hp_40
        have hx28 : 0 ≤ fl ∧ fl < ((5 : Nat) : Int) ∧ fl ≤ 2147483647 := ⟨by omega, by omega, by omega⟩
        refine g_iast F hH hS r_31b hx28.1 hx28.2.1 hx28.2.2 dX3_fillJoined_28 (fun H locs hH hS => ?_)
        obtain ⟨AI_42, eAI_42⟩ : ∃ qQ, qQ = gup2 AI_1 (gh 30 0) (fl).toNat (iI (v_39)) := ⟨_, rfl⟩
        rw [← eAI_42] at hH
        have kAI_42 : ∀ b, b ≠ (gh 30 0) → AI_42 b = AI_1 b := fun b hb => by rw [eAI_42]; exact funext fun j => gup2_a _ _ hb
        have hv : gInv g gh R AR I AI_42 := gInv_plain hv (ro30 hv ha) kAI_42
        refine z_iinc (lv' := [(6, .int (iI (fl + 1))), (7, .int (iI cc_)), (0, .ref a), (1, .ref ln), (2, .ref inr), (3, .int (iI i0)), (4, .ref inb), (5, .int (iI j0))]) F dX3_fillJoined_29 hl (k := 1) rfl (by decide) rfl (fun ls hl => ?_)
        refine z_iinc (lv' := [(7, .int (iI (cc_ + 1))), (6, .int (iI (fl + 1))), (0, .ref a), (1, .ref ln), (2, .ref inr), (3, .int (iI i0)), (4, .ref inb), (5, .int (iI j0))]) F dX3_fillJoined_32 hl (k := 1) rfl (by decide) rfl (fun ls hl => ?_)
        refine z_goto (tgt := 6) F dX3_fillJoined_35 (by decide) ?_
        exact ih6 (fl + 1) (cc_ + 1) AI_42 H locs ls ⟨by omega, by omega⟩ ⟨by omega, by omega⟩ hv (by omega) (by omega) hH hS (lv_sub hl [0, 1, 2, 3, 4, 5, 6, 7] rfl)
  exact cut_6_1 (((4 - 0) + 1 : Int).toNat) 0 0 AI H locs ls ⟨by decide, by decide⟩ ⟨by decide, by decide⟩ hv (by omega) (by omega) hH hS (lv_sub hl [0, 1, 2, 3, 4, 5, 6, 7] rfl)

def rmX3_join : Room := { frames := 3, cells := 0, slots := 0, locals := 108 }
theorem hdX3_join : yX3_join.cls = RX3 ∧ yX3_join.cls ≠ "java/lang/invoke/MethodHandle" ∧ yX3_join.cls ≠ "java/lang/invoke/VarHandle" ∧ (parseMethodDescriptor yX3_join.desc).map (fun d => d.parameters.length) = some 4 := by decide +kernel
set_option maxHeartbeats 4000000 in
set_option maxRecDepth 100000 in
/-- a join -/
theorem c_X3_join (l : Launch) (g : gG) (gh : gGh) (I : gI) (R : gR) (J : gJ) (AI : gI) (AJ : gJ) (AR : gR) (a : Nat) (ln : Nat) (inr : Nat) (inb : Nat) (out : Nat) (hv : gInv g gh R AR I AI) (ha : gO g a 3) (hln : gO g ln 0) (hin : gO g inr 4) (hinb : gO g inb 4) (hout : gO g out 4) (h4 : gh 2 out = 4) (hkd : (I ln 0).toInt = 3) : gMet l g yX3_join wsX3_join rmX3_join [.ref a, .ref ln, .ref inr, .ref inb, .ref out] (I, R, J, AI, AJ, AR) (gQi g (fun (z : Int) (w : gS) => R = w.2.1 ∧ J = w.2.2.1 ∧ AJ = w.2.2.2.2.1 ∧ AR = w.2.2.2.2.2 ∧ (gInv g gh R AR (w.1) (w.2.2.2.1)) ∧ (rF g I (w.1)) ∧ (-4 ≤ z ∧ z ≤ 0))) := by
  refine gStart (cc := cX3_join) (maxL := 8) (ret := (some (.int))) (by decide) rfl (Nat.le_of_ble_eq_true rfl) ?_
  intro p e s m below meth c ls F hr hlk hH hz hS hl
  have hl : lv_has ls 8 [(0, .ref a), (1, .ref ln), (2, .ref inr), (3, .ref inb), (4, .ref out)] := hl
  have hS : va_S (gA g) s.heap s.heap [] := hS
  obtain ⟨H, hHe⟩ : ∃ H : Heap, H = s.heap := ⟨_, rfl⟩
  obtain ⟨locs, hlo⟩ : ∃ k : List Loc, k = [] := ⟨_, rfl⟩
  have hH : gH g I R J AI AJ AR H := by rw [hHe]; exact hH
  have hS : va_S (gA g) s.heap H locs := by rw [hHe, hlo]; exact hS
  suffices hw : W p l e rmX3_join s m ([.ref a, .ref ln, .ref inr, .ref inb, .ref out] : List Value).toArray below meth c H locs 0 0 (MQ below (gQi g (fun (z : Int) (w : gS) => R = w.2.1 ∧ J = w.2.2.1 ∧ AJ = w.2.2.2.2.1 ∧ AR = w.2.2.2.2.2 ∧ (gInv g gh R AR (w.1) (w.2.2.2.1)) ∧ (rF g I (w.1)) ∧ (-4 ≤ z ∧ z ≤ 0))) ([.ref a, .ref ln, .ref inr, .ref inb, .ref out] : List Value).toArray s 0 0 (gA g)) (F0 m 0 ls []) by
    rw [hHe, hlo] at hw; exact hw
  clear hHe hlo
  have rf : rF g I I := rF_r
  have iX4 : ∀ w ∈ u_ws RX4 TX4 4, w ∈ wsX3_join := (by decide +kernel)
  have iX3 : ∀ w ∈ u_ws RX3 TX3 3, w ∈ wsX3_join := (by decide +kernel)
  have k23 : Cond.fieldLink RX3 23 (TX4 3).1 (TX4 3).2.1 (TX4 3).2.2.1 ∈ wsX3_join := List.mem_of_getElem? (i := 1) rfl
  have k63 : Cond.fieldLink RX3 63 (TX4 2).1 (TX4 2).2.1 (TX4 2).2.2.1 ∈ wsX3_join := List.mem_of_getElem? (i := 2) rfl
  have k11 : Cond.fieldLink RX3 11 (TX3 0).1 (TX3 0).2.1 (TX3 0).2.2.1 ∈ wsX3_join := List.mem_of_getElem? (i := 3) rfl
  refine z_iconst F dX3_join_0 ?_
  refine lv_istore (lv' := [(5, .int (iI 0)), (0, .ref a), (1, .ref ln), (2, .ref inr), (3, .ref inb), (4, .ref out)]) F.1 F.2.1 dX3_join_1 hl (by decide) rfl (fun ls hl => ?_)
  refine lv_aload_n F.1 F.2.1 dX3_join_3 rfl (lv_at hl 1 rfl) ?_
  refine g_callv (g_runV (As := []) (rest := []) (ci := 3) F hl.1 hH hS hz (c_X3_clearKey l g gh I R J AI AJ AR a hv ha) (cwV 0 F.2.2.2.2.1 gX3_join_X3_clearKey rfl rfl rfl hdX3_clearKey ⟨Nat.le_of_ble_eq_true rfl, Nat.le_of_ble_eq_true rfl⟩) ha (by decide) rfl rfl rfl (Nat.le_of_ble_eq_true rfl) dX3_join_4 ⟨Nat.zero_le _, Nat.zero_le _⟩) hS (fun I_1 R_2 J_3 AI_4 AJ_5 AR_6 H locs hp_7 hH hS => ?_)
  dsimp only at hp_7
  obtain ⟨rfl, rfl, rfl, rfl, rfl, hv⟩ := hp_7
  refine z_iconst F dX3_join_7 ?_
  refine lv_istore (lv' := [(6, .int (iI 0)), (5, .int (iI 0)), (0, .ref a), (1, .ref ln), (2, .ref inr), (3, .ref inb), (4, .ref out)]) F.1 F.2.1 dX3_join_8 hl (by decide) rfl (fun ls hl => ?_)
  have cut_10_9 : ∀ (NN : Nat) (prs i : Int) (I_8 : gI) (AI_9 : gI) (H : Heap) (locs : List Loc) (ls : Array Slot), zr prs → zr i → (gInv g gh R AR I_8 AI_9) → (rF g I I_8) → ((I_8 ln 0).toInt = 3) → (0 ≤ i ∧ i ≤ 240) → (0 ≤ prs ∧ prs ≤ 1500) → (240 - i) < ((NN : Nat) : Int) → gH g I_8 R J AI_9 AJ AR H → va_S (gA g) s.heap H locs → lv_has ls 8 [(6, .int (iI i)), (5, .int (iI prs)), (0, .ref a), (1, .ref ln), (2, .ref inr), (3, .ref inb), (4, .ref out)] → W p l e rmX3_join s m ([.ref a, .ref ln, .ref inr, .ref inb, .ref out] : List Value).toArray below meth c H locs 0 0 (MQ below (gQi g (fun (z : Int) (w : gS) => R = w.2.1 ∧ J = w.2.2.1 ∧ AJ = w.2.2.2.2.1 ∧ AR = w.2.2.2.2.2 ∧ (gInv g gh R AR (w.1) (w.2.2.2.1)) ∧ (rF g I (w.1)) ∧ (-4 ≤ z ∧ z ≤ 0))) ([.ref a, .ref ln, .ref inr, .ref inb, .ref out] : List Value).toArray s 0 0 (gA g)) (F0 m 10 ls []) := by
    intro NN10
    induction NN10 with
    | zero =>
      intro prs i I_8 AI_9 H locs ls zprs zi hv rf hkd hi hpr hm10 hH hS hl
      exact absurd hm10 (by omega)
    | succ NN10 ih10 =>
      intro prs i I_8 AI_9 H locs ls zprs zi hv rf hkd hi hpr hm10 hH hS hl
      refine lv_iload F.1 F.2.1 dX3_join_10 (lv_at hl 0 rfl) ?_
      refine lv_aload_n F.1 F.2.1 dX3_join_12 rfl (lv_at hl 4 rfl) ?_
      refine g_getI (ci := 4) (k := 3) F hH rfl (by decide) iX4 hin (by decide) rfl k23 dX3_join_13 ?_
      obtain ⟨b_11a, b_11b, b_11c, b_11d, b_11e, b_11f, b_11g, b_11h⟩ := gI_rows hv hin
      refine z_icmp_ge (tgt := 118) F dX3_join_16 (by decide) zi (zr_t _) (fun c_12 => ?_) (fun c_12 => ?_)
      · refine z_iconst F dX3_join_118 ?_
        exact g_iret F hr hlk hH hS hz ⟨by decide, by decide⟩ ⟨rfl, rfl, rfl, rfl, hv, rf, by first | omega | rfl | (dsimp only; omega)⟩ dX3_join_119
      · refine z_iconst F dX3_join_19 ?_
        refine lv_istore (lv' := [(7, .int (iI 0)), (6, .int (iI i)), (5, .int (iI prs)), (0, .ref a), (1, .ref ln), (2, .ref inr), (3, .ref inb), (4, .ref out)]) F.1 F.2.1 dX3_join_20 hl (by decide) rfl (fun ls hl => ?_)
        have cut_22_14 : ∀ (NN : Nat) (pr2 j : Int) (I_13 : gI) (AI_14 : gI) (H : Heap) (locs : List Loc) (ls : Array Slot), zr pr2 → zr j → (gInv g gh R AR I_13 AI_14) → (rF g I I_13) → ((I_13 ln 0).toInt = 3) → (0 ≤ j ∧ j ≤ 240) → (0 ≤ pr2 ∧ pr2 ≤ 1500) → (240 - j) < ((NN : Nat) : Int) → gH g I_13 R J AI_14 AJ AR H → va_S (gA g) s.heap H locs → lv_has ls 8 [(7, .int (iI j)), (6, .int (iI i)), (5, .int (iI pr2)), (0, .ref a), (1, .ref ln), (2, .ref inr), (3, .ref inb), (4, .ref out)] → W p l e rmX3_join s m ([.ref a, .ref ln, .ref inr, .ref inb, .ref out] : List Value).toArray below meth c H locs 0 0 (MQ below (gQi g (fun (z : Int) (w : gS) => R = w.2.1 ∧ J = w.2.2.1 ∧ AJ = w.2.2.2.2.1 ∧ AR = w.2.2.2.2.2 ∧ (gInv g gh R AR (w.1) (w.2.2.2.1)) ∧ (rF g I (w.1)) ∧ (-4 ≤ z ∧ z ≤ 0))) ([.ref a, .ref ln, .ref inr, .ref inb, .ref out] : List Value).toArray s 0 0 (gA g)) (F0 m 22 ls []) := by
          intro NN22
          induction NN22 with
          | zero =>
            intro pr2 j I_13 AI_14 H locs ls zpr2 zj hv rf hkd hj hpr2 hm22 hH hS hl
            exact absurd hm22 (by omega)
          | succ NN22 ih22 =>
            intro pr2 j I_13 AI_14 H locs ls zpr2 zj hv rf hkd hj hpr2 hm22 hH hS hl
            refine lv_iload F.1 F.2.1 dX3_join_22 (lv_at hl 0 rfl) ?_
            refine lv_aload_n F.1 F.2.1 dX3_join_24 rfl (lv_at hl 6 rfl) ?_
            refine g_getI (ci := 4) (k := 3) F hH rfl (by decide) iX4 hinb (by decide) rfl k23 dX3_join_25 ?_
            obtain ⟨b_16a, b_16b, b_16c, b_16d, b_16e, b_16f, b_16g, b_16h⟩ := gI_rows hv hinb
            refine z_icmp_ge (tgt := 112) F dX3_join_28 (by decide) zj (zr_t _) (fun c_17 => ?_) (fun c_17 => ?_)
            · refine z_iinc (lv' := [(6, .int (iI (i + 1))), (7, .int (iI j)), (5, .int (iI pr2)), (0, .ref a), (1, .ref ln), (2, .ref inr), (3, .ref inb), (4, .ref out)]) F dX3_join_112 hl (k := 1) rfl (by decide) rfl (fun ls hl => ?_)
              refine z_goto (tgt := 10) F dX3_join_115 (by decide) ?_
              exact ih10 pr2 (i + 1) I_13 AI_14 H locs ls zpr2 ⟨by omega, by omega⟩ hv rf (by omega) (by omega) (by omega) (by omega) hH hS (lv_sub hl [0, 2, 3, 4, 5, 6, 7] rfl)
            · refine lv_aload_n F.1 F.2.1 dX3_join_31 rfl (lv_at hl 4 rfl) ?_
              refine lv_aload_n F.1 F.2.1 dX3_join_32 rfl (lv_at hl 5 rfl) ?_
              obtain ⟨b_18a, b_18b, b_18c, b_18d, b_18e, b_18f, b_18g, b_18h⟩ := gI_rows hv hin
              obtain ⟨r_19a, r_19b⟩ := gR_cells hv hin
              refine g_getR (ci := 4) (k := 2) F hH rfl (by decide) iX4 hin (by decide) rfl (b := gh 0 inr) r_19a k63 dX3_join_33 ?_
              refine lv_iload F.1 F.2.1 dX3_join_36 (lv_at hl 1 rfl) ?_
              refine z_bipush F dX3_join_38 (by decide) ?_
              refine z_imul F dX3_join_40 ?_
              refine lv_aload_n F.1 F.2.1 dX3_join_41 rfl (lv_at hl 6 rfl) ?_
              obtain ⟨r_20a, r_20b⟩ := gR_cells hv hinb
              refine g_getR (ci := 4) (k := 2) F hH rfl (by decide) iX4 hinb (by decide) rfl (b := gh 0 inb) r_20a k63 dX3_join_42 ?_
              refine lv_iload F.1 F.2.1 dX3_join_45 (lv_at hl 0 rfl) ?_
              refine z_bipush F dX3_join_47 (by decide) ?_
              refine z_imul F dX3_join_49 ?_
              have b_21 := gI_line hv hln
              unfold vLineI at b_21
              refine g_calli (g_runV (As := [.ref (gh 0 inr), .int (iI (i * 6)), .ref (gh 0 inb), .int (iI (j * 6))]) (rest := []) (ci := 0) F hl.1 hH hS hz (c_X0_pairsAreAlike l g gh (6 * gh 1 inr) (6 * gh 1 inb) I_13 R J AI_14 AJ AR ln (gh 0 inr) (i * 6) (gh 0 inb) (j * 6) ⟨by omega, by omega⟩ ⟨by omega, by omega⟩ hv hln r_19b (by omega) (by omega) (by omega) (by omega) r_20b (by omega) (by omega) (by omega)) (cwV 4 F.2.2.2.2.1 gX3_join_X0_pairsAreAlike rfl rfl rfl hdX0_pairsAreAlike ⟨Nat.le_of_ble_eq_true rfl, Nat.le_of_ble_eq_true rfl⟩) hln (by decide) rfl rfl rfl (Nat.le_of_ble_eq_true rfl) dX3_join_50 ⟨Nat.zero_le _, Nat.zero_le _⟩) hS (fun v_28 I_22 R_23 J_24 AI_25 AJ_26 AR_27 H locs zv_28 hp_29 hH hS => ?_)
              dsimp only at hp_29
              obtain ⟨rfl, rfl, rfl, rfl, rfl, rfl, q_30⟩ := hp_29
              refine z_if_eq (tgt := 106) F dX3_join_53 (by decide) zv_28 (fun c_31 => ?_) (fun c_31 => ?_)
              · refine z_iinc (lv' := [(7, .int (iI (j + 1))), (6, .int (iI i)), (5, .int (iI pr2)), (0, .ref a), (1, .ref ln), (2, .ref inr), (3, .ref inb), (4, .ref out)]) F dX3_join_106 hl (k := 0) rfl (by decide) rfl (fun ls hl => ?_)
                refine z_goto (tgt := 22) F dX3_join_109 (by decide) ?_
                exact ih22 pr2 (j + 1) I_13 AI_14 H locs ls zpr2 ⟨by omega, by omega⟩ hv rf (by omega) (by omega) (by omega) (by omega) hH hS (lv_sub hl [0, 1, 2, 3, 4, 5, 6, 7] rfl)
              · refine z_iinc (lv' := [(5, .int (iI (pr2 + 1))), (7, .int (iI j)), (6, .int (iI i)), (0, .ref a), (1, .ref ln), (2, .ref inr), (3, .ref inb), (4, .ref out)]) F dX3_join_56 hl (k := 2) rfl (by decide) rfl (fun ls hl => ?_)
                refine lv_aload_n F.1 F.2.1 dX3_join_59 rfl (lv_at hl 3 rfl) ?_
                refine lv_aload_n F.1 F.2.1 dX3_join_60 rfl (lv_at hl 4 rfl) ?_
                refine lv_aload_n F.1 F.2.1 dX3_join_61 rfl (lv_at hl 5 rfl) ?_
                refine lv_iload F.1 F.2.1 dX3_join_62 (lv_at hl 2 rfl) ?_
                refine lv_aload_n F.1 F.2.1 dX3_join_64 rfl (lv_at hl 6 rfl) ?_
                refine lv_iload F.1 F.2.1 dX3_join_65 (lv_at hl 1 rfl) ?_
                refine g_callv (g_runV (As := [.ref ln, .ref inr, .int (iI i), .ref inb, .int (iI j)]) (rest := []) (ci := 3) F hl.1 hH hS hz (c_X3_fillJoined l g gh I_13 R J AI_14 AJ AR a ln inr i inb j zi zj hv ha hln hin hinb (by omega) (by omega)) (cwV 5 F.2.2.2.2.1 gX3_join_X3_fillJoined rfl rfl rfl hdX3_fillJoined ⟨Nat.le_of_ble_eq_true rfl, Nat.le_of_ble_eq_true rfl⟩) ha (by decide) rfl rfl rfl (Nat.le_of_ble_eq_true rfl) dX3_join_67 ⟨Nat.zero_le _, Nat.zero_le _⟩) hS (fun I_32 R_33 J_34 AI_35 AJ_36 AR_37 H locs hp_38 hH hS => ?_)
                dsimp only at hp_38
                obtain ⟨rfl, rfl, rfl, rfl, rfl, hv⟩ := hp_38
                refine lv_iload F.1 F.2.1 dX3_join_70 (lv_at hl 0 rfl) ?_
                refine z_sipush F dX3_join_72 (by decide) ?_
                refine z_icmp_gt (tgt := 103) F dX3_join_75 (by decide) ⟨by omega, by omega⟩ ⟨by decide, by decide⟩ (fun c_39 => ?_) (fun c_39 => ?_)
                · refine z_bipush F dX3_join_103 (by decide) ?_
                  exact g_iret F hr hlk hH hS hz ⟨by decide, by decide⟩ ⟨rfl, rfl, rfl, rfl, hv, rf, by first | omega | rfl | (dsimp only; omega)⟩ dX3_join_105
                · refine lv_aload F.1 F.2.1 dX3_join_78 (lv_at hl 7 rfl) ?_
                  refine lv_aload_n F.1 F.2.1 dX3_join_80 rfl (lv_at hl 3 rfl) ?_
                  obtain ⟨r_40a, r_40b⟩ := gR_rk0 hv ha
                  refine g_getR (ci := 3) (k := 0) F hH rfl (by decide) iX3 ha (by decide) rfl (b := gh 30 0) r_40a k11 dX3_join_81 ?_
                  refine lv_aload_n F.1 F.2.1 dX3_join_84 rfl (lv_at hl 5 rfl) ?_
                  refine lv_iload F.1 F.2.1 dX3_join_85 (lv_at hl 2 rfl) ?_
                  refine g_calli (g_runV (As := [.int (iI i)]) (rest := [.ref (gh 30 0), .ref out]) (ci := 4) F hl.1 hH hS hz (c_X4_amount l g gh I_13 R J AI_35 AJ AR inr i zi hv hin (by omega) (by omega)) (cwV 1 F.2.2.2.2.1 gX3_join_X4_amount rfl rfl rfl hdX4_amount ⟨Nat.le_of_ble_eq_true rfl, Nat.le_of_ble_eq_true rfl⟩) hin (by decide) rfl rfl rfl (Nat.le_of_ble_eq_true rfl) dX3_join_87 ⟨Nat.zero_le _, Nat.zero_le _⟩) hS (fun v_47 I_41 R_42 J_43 AI_44 AJ_45 AR_46 H locs zv_47 hp_48 hH hS => ?_)
                  dsimp only at hp_48
                  obtain ⟨rfl, rfl, rfl, rfl, rfl, rfl, q_49⟩ := hp_48
                  refine lv_aload_n F.1 F.2.1 dX3_join_90 rfl (lv_at hl 6 rfl) ?_
                  refine lv_iload F.1 F.2.1 dX3_join_91 (lv_at hl 1 rfl) ?_
                  refine g_calli (g_runV (As := [.int (iI j)]) (rest := [.int (iI v_47), .ref (gh 30 0), .ref out]) (ci := 4) F hl.1 hH hS hz (c_X4_amount l g gh I_13 R J AI_35 AJ AR inb j zj hv hinb (by omega) (by omega)) (cwV 1 F.2.2.2.2.1 gX3_join_X4_amount rfl rfl rfl hdX4_amount ⟨Nat.le_of_ble_eq_true rfl, Nat.le_of_ble_eq_true rfl⟩) hinb (by decide) rfl rfl rfl (Nat.le_of_ble_eq_true rfl) dX3_join_93 ⟨Nat.zero_le _, Nat.zero_le _⟩) hS (fun v_56 I_50 R_51 J_52 AI_53 AJ_54 AR_55 H locs zv_56 hp_57 hH hS => ?_)
                  dsimp only at hp_57
                  obtain ⟨rfl, rfl, rfl, rfl, rfl, rfl, q_58⟩ := hp_57
                  refine z_imul F dX3_join_96 ?_
                  refine z_norm (fun v_59 zv_59 ev_59 => ?_)
                  obtain ⟨b_60a, b_60b, b_60c, b_60d, b_60e, b_60f, b_60g, b_60h⟩ := gI_rows hv hout
                  refine g_calli (g_runV (As := [.ref (gh 30 0), .int (iI v_59)]) (rest := []) (ci := 4) F hl.1 hH hS hz (c_X4_addAmount l g gh I_13 R J AI_35 AJ AR out (gh 30 0) v_59 zv_59 hv hout r_40b (ro30 hv ha) (fun h => absurd h (by omega)) (by first | exact hfz | omega)) (cwV 2 F.2.2.2.2.1 gX3_join_X4_addAmount rfl rfl rfl hdX4_addAmount ⟨Nat.le_of_ble_eq_true rfl, Nat.le_of_ble_eq_true rfl⟩) hout (by decide) rfl rfl rfl (Nat.le_of_ble_eq_true rfl) dX3_join_97 ⟨Nat.zero_le _, Nat.zero_le _⟩) hS (fun v_67 I_61 R_62 J_63 AI_64 AJ_65 AR_66 H locs zv_67 hp_68 hH hS => ?_)
                  dsimp only at hp_68
                  obtain ⟨rfl, rfl, rfl, rfl, hv, q_69, q_70⟩ := hp_68
                  have rf := rF_t rf (rF_o hout q_69)
                  have u_71 : (I_61 ln 0).toInt = (I ln 0).toInt := by rw [rf ln 0 hln (by decide)]
                  refine z_if_ne (tgt := 106) F dX3_join_100 (by decide) zv_67 (fun c_72 => ?_) (fun c_72 => ?_)
                  · refine z_iinc (lv' := [(7, .int (iI (j + 1))), (5, .int (iI (pr2 + 1))), (6, .int (iI i)), (0, .ref a), (1, .ref ln), (2, .ref inr), (3, .ref inb), (4, .ref out)]) F dX3_join_106 hl (k := 1) rfl (by decide) rfl (fun ls hl => ?_)
                    refine z_goto (tgt := 22) F dX3_join_109 (by decide) ?_
                    exact ih22 (pr2 + 1) (j + 1) I_61 AI_64 H locs ls ⟨by omega, by omega⟩ ⟨by omega, by omega⟩ hv rf (by omega) (by omega) (by omega) (by omega) hH hS (lv_sub hl [0, 2, 1, 3, 4, 5, 6, 7] rfl)
                  · refine z_bipush F dX3_join_103 (by decide) ?_
                    exact g_iret F hr hlk hH hS hz ⟨by decide, by decide⟩ ⟨rfl, rfl, rfl, rfl, hv, rf, by first | omega | rfl | (dsimp only; omega)⟩ dX3_join_105
        exact cut_22_14 (((240 - 0) + 1 : Int).toNat) prs 0 I_8 AI_9 H locs ls zprs ⟨by decide, by decide⟩ hv rf (by omega) (by omega) (by omega) (by omega) hH hS (lv_sub hl [0, 1, 2, 3, 4, 5, 6, 7] rfl)
  exact cut_10_9 (((240 - 0) + 1 : Int).toNat) 0 0 I AI_4 H locs ls ⟨by decide, by decide⟩ ⟨by decide, by decide⟩ hv rf (by omega) (by omega) (by omega) (by omega) hH hS (lv_sub hl [0, 1, 2, 3, 4, 5, 6] rfl)

def rmX3_distinct : Room := { frames := 2, cells := 0, slots := 0, locals := 84 }
theorem hdX3_distinct : yX3_distinct.cls = RX3 ∧ yX3_distinct.cls ≠ "java/lang/invoke/MethodHandle" ∧ yX3_distinct.cls ≠ "java/lang/invoke/VarHandle" ∧ (parseMethodDescriptor yX3_distinct.desc).map (fun d => d.parameters.length) = some 2 := by decide +kernel
set_option maxHeartbeats 4000000 in
set_option maxRecDepth 100000 in
/-- a distinct -/
theorem c_X3_distinct (l : Launch) (g : gG) (gh : gGh) (I : gI) (R : gR) (J : gJ) (AI : gI) (AJ : gJ) (AR : gR) (a : Nat) (inr : Nat) (out : Nat) (hv : gInv g gh R AR I AI) (ha : gO g a 3) (hin : gO g inr 4) (hout : gO g out 4) (h4 : gh 2 out = 4) : gMet l g yX3_distinct wsX3_distinct rmX3_distinct [.ref a, .ref inr, .ref out] (I, R, J, AI, AJ, AR) (gQi g (fun (z : Int) (w : gS) => R = w.2.1 ∧ J = w.2.2.1 ∧ AJ = w.2.2.2.2.1 ∧ AR = w.2.2.2.2.2 ∧ (gInv g gh R AR (w.1) (w.2.2.2.1)) ∧ (rF g I (w.1)) ∧ (-4 ≤ z ∧ z ≤ 0))) := by
  refine gStart (cc := cX3_distinct) (maxL := 4) (ret := (some (.int))) (by decide) rfl (Nat.le_of_ble_eq_true rfl) ?_
  intro p e s m below meth c ls F hr hlk hH hz hS hl
  have hl : lv_has ls 4 [(0, .ref a), (1, .ref inr), (2, .ref out)] := hl
  have hS : va_S (gA g) s.heap s.heap [] := hS
  obtain ⟨H, hHe⟩ : ∃ H : Heap, H = s.heap := ⟨_, rfl⟩
  obtain ⟨locs, hlo⟩ : ∃ k : List Loc, k = [] := ⟨_, rfl⟩
  have hH : gH g I R J AI AJ AR H := by rw [hHe]; exact hH
  have hS : va_S (gA g) s.heap H locs := by rw [hHe, hlo]; exact hS
  suffices hw : W p l e rmX3_distinct s m ([.ref a, .ref inr, .ref out] : List Value).toArray below meth c H locs 0 0 (MQ below (gQi g (fun (z : Int) (w : gS) => R = w.2.1 ∧ J = w.2.2.1 ∧ AJ = w.2.2.2.2.1 ∧ AR = w.2.2.2.2.2 ∧ (gInv g gh R AR (w.1) (w.2.2.2.1)) ∧ (rF g I (w.1)) ∧ (-4 ≤ z ∧ z ≤ 0))) ([.ref a, .ref inr, .ref out] : List Value).toArray s 0 0 (gA g)) (F0 m 0 ls []) by
    rw [hHe, hlo] at hw; exact hw
  clear hHe hlo
  have rf : rF g I I := rF_r
  have iX4 : ∀ w ∈ u_ws RX4 TX4 4, w ∈ wsX3_distinct := (by decide +kernel)
  have k23 : Cond.fieldLink RX3 23 (TX4 3).1 (TX4 3).2.1 (TX4 3).2.2.1 ∈ wsX3_distinct := List.mem_of_getElem? (i := 1) rfl
  refine z_iconst F dX3_distinct_0 ?_
  refine lv_istore_n (lv' := [(3, .int (iI 0)), (0, .ref a), (1, .ref inr), (2, .ref out)]) F.1 F.2.1 dX3_distinct_1 rfl hl (by decide) rfl (fun ls hl => ?_)
  have cut_2_2 : ∀ (NN : Nat) (i : Int) (I_1 : gI) (AI_2 : gI) (H : Heap) (locs : List Loc) (ls : Array Slot), zr i → (gInv g gh R AR I_1 AI_2) → (rF g I I_1) → (0 ≤ i ∧ i ≤ 240) → (240 - i) < ((NN : Nat) : Int) → gH g I_1 R J AI_2 AJ AR H → va_S (gA g) s.heap H locs → lv_has ls 4 [(3, .int (iI i)), (0, .ref a), (1, .ref inr), (2, .ref out)] → W p l e rmX3_distinct s m ([.ref a, .ref inr, .ref out] : List Value).toArray below meth c H locs 0 0 (MQ below (gQi g (fun (z : Int) (w : gS) => R = w.2.1 ∧ J = w.2.2.1 ∧ AJ = w.2.2.2.2.1 ∧ AR = w.2.2.2.2.2 ∧ (gInv g gh R AR (w.1) (w.2.2.2.1)) ∧ (rF g I (w.1)) ∧ (-4 ≤ z ∧ z ≤ 0))) ([.ref a, .ref inr, .ref out] : List Value).toArray s 0 0 (gA g)) (F0 m 2 ls []) := by
    intro NN2
    induction NN2 with
    | zero =>
      intro i I_1 AI_2 H locs ls zi hv rf hi hm2 hH hS hl
      exact absurd hm2 (by omega)
    | succ NN2 ih2 =>
      intro i I_1 AI_2 H locs ls zi hv rf hi hm2 hH hS hl
      refine lv_iload_n F.1 F.2.1 dX3_distinct_2 rfl (lv_at hl 0 rfl) ?_
      refine lv_aload_n F.1 F.2.1 dX3_distinct_3 rfl (lv_at hl 2 rfl) ?_
      refine g_getI (ci := 4) (k := 3) F hH rfl (by decide) iX4 hin (by decide) rfl k23 dX3_distinct_4 ?_
      obtain ⟨b_4a, b_4b, b_4c, b_4d, b_4e, b_4f, b_4g, b_4h⟩ := gI_rows hv hin
      refine z_icmp_ge (tgt := 37) F dX3_distinct_7 (by decide) zi (zr_t _) (fun c_5 => ?_) (fun c_5 => ?_)
      · refine z_iconst F dX3_distinct_37 ?_
        exact g_iret F hr hlk hH hS hz ⟨by decide, by decide⟩ ⟨rfl, rfl, rfl, rfl, hv, rf, by first | omega | rfl | (dsimp only; omega)⟩ dX3_distinct_38
      · refine lv_aload_n F.1 F.2.1 dX3_distinct_10 rfl (lv_at hl 2 rfl) ?_
        refine lv_iload_n F.1 F.2.1 dX3_distinct_11 rfl (lv_at hl 0 rfl) ?_
        refine g_calli (g_runV (As := [.int (iI i)]) (rest := []) (ci := 4) F hl.1 hH hS hz (c_X4_amount l g gh I_1 R J AI_2 AJ AR inr i zi hv hin (by omega) (by omega)) (cwV 1 F.2.2.2.2.1 gX3_distinct_X4_amount rfl rfl rfl hdX4_amount ⟨Nat.le_of_ble_eq_true rfl, Nat.le_of_ble_eq_true rfl⟩) hin (by decide) rfl rfl rfl (Nat.le_of_ble_eq_true rfl) dX3_distinct_12 ⟨Nat.zero_le _, Nat.zero_le _⟩) hS (fun v_12 I_6 R_7 J_8 AI_9 AJ_10 AR_11 H locs zv_12 hp_13 hH hS => ?_)
        dsimp only at hp_13
        obtain ⟨rfl, rfl, rfl, rfl, rfl, rfl, q_14⟩ := hp_13
        refine z_if_le (tgt := 31) F dX3_distinct_15 (by decide) zv_12 (fun c_15 => ?_) (fun c_15 => ?_)
        · refine z_iinc (lv' := [(3, .int (iI (i + 1))), (0, .ref a), (1, .ref inr), (2, .ref out)]) F dX3_distinct_31 hl (k := 0) rfl (by decide) rfl (fun ls hl => ?_)
          refine z_goto (tgt := 2) F dX3_distinct_34 (by decide) ?_
          exact ih2 (i + 1) I_1 AI_2 H locs ls ⟨by omega, by omega⟩ hv rf (by omega) (by omega) hH hS (lv_sub hl [0, 1, 2, 3] rfl)
        · refine lv_aload_n F.1 F.2.1 dX3_distinct_18 rfl (lv_at hl 3 rfl) ?_
          refine lv_aload_n F.1 F.2.1 dX3_distinct_19 rfl (lv_at hl 2 rfl) ?_
          refine lv_iload_n F.1 F.2.1 dX3_distinct_20 rfl (lv_at hl 0 rfl) ?_
          refine z_iconst F dX3_distinct_21 ?_
          obtain ⟨b_16a, b_16b, b_16c, b_16d, b_16e, b_16f, b_16g, b_16h⟩ := gI_rows hv hout
          refine g_calli (g_runV (As := [.ref inr, .int (iI i), .int (iI 1)]) (rest := []) (ci := 4) F hl.1 hH hS hz (c_X4_append l g gh I_1 R J AI_2 AJ AR out inr i 1 zi ⟨by decide, by decide⟩ hv hout hin (by omega) (by omega) (by omega)) (cwV 3 F.2.2.2.2.1 gX3_distinct_X4_append rfl rfl rfl hdX4_append ⟨Nat.le_of_ble_eq_true rfl, Nat.le_of_ble_eq_true rfl⟩) hout (by decide) rfl rfl rfl (Nat.le_of_ble_eq_true rfl) dX3_distinct_22 ⟨Nat.zero_le _, Nat.zero_le _⟩) hS (fun v_23 I_17 R_18 J_19 AI_20 AJ_21 AR_22 H locs zv_23 hp_24 hH hS => ?_)
          dsimp only at hp_24
          obtain ⟨rfl, rfl, rfl, rfl, hv, q_25, q_26⟩ := hp_24
          have rf := rF_t rf (rF_o hout q_25)
          refine z_if_ne (tgt := 31) F dX3_distinct_25 (by decide) zv_23 (fun c_27 => ?_) (fun c_27 => ?_)
          · refine z_iinc (lv' := [(3, .int (iI (i + 1))), (0, .ref a), (1, .ref inr), (2, .ref out)]) F dX3_distinct_31 hl (k := 0) rfl (by decide) rfl (fun ls hl => ?_)
            refine z_goto (tgt := 2) F dX3_distinct_34 (by decide) ?_
            exact ih2 (i + 1) I_17 AI_20 H locs ls ⟨by omega, by omega⟩ hv rf (by omega) (by omega) hH hS (lv_sub hl [0, 1, 2, 3] rfl)
          · refine z_bipush F dX3_distinct_28 (by decide) ?_
            exact g_iret F hr hlk hH hS hz ⟨by decide, by decide⟩ ⟨rfl, rfl, rfl, rfl, hv, rf, by first | omega | rfl | (dsimp only; omega)⟩ dX3_distinct_30
  exact cut_2_2 (((240 - 0) + 1 : Int).toNat) 0 I AI H locs ls ⟨by decide, by decide⟩ hv rf (by omega) (by omega) hH hS (lv_sub hl [0, 1, 2, 3] rfl)

def rmX3_fold : Room := { frames := 1, cells := 0, slots := 0, locals := 23 }
theorem hdX3_fold : yX3_fold.cls = RX3 ∧ yX3_fold.cls ≠ "java/lang/invoke/MethodHandle" ∧ yX3_fold.cls ≠ "java/lang/invoke/VarHandle" ∧ (parseMethodDescriptor yX3_fold.desc).map (fun d => d.parameters.length) = some 5 := by decide +kernel
set_option maxHeartbeats 4000000 in
set_option maxRecDepth 100000 in
/-- the fold of a group -/
theorem c_X3_fold (l : Launch) (g : gG) (gh : gGh) (I : gI) (R : gR) (J : gJ) (AI : gI) (AJ : gJ) (AR : gR) (fd : Int) (out : Nat) (row : Int) (val : Int) (n : Int) (zfd : zr fd) (zrow : zr row) (zval : zr val) (zn : zr n) (hv : gInv g gh R AR I AI) (hout : gO g out 4) (h4 : gh 2 out = 4) (h0 : 0 ≤ row ∧ row < (gh 1 out : Int)) : gMet l g yX3_fold wsX3_fold rmX3_fold [.int (iI fd), .ref out, .int (iI row), .int (iI val), .int (iI n)] (I, R, J, AI, AJ, AR) (gQv g (fun w : gS => I = w.1 ∧ R = w.2.1 ∧ J = w.2.2.1 ∧ AJ = w.2.2.2.2.1 ∧ AR = w.2.2.2.2.2 ∧ (gInv g gh R AR I (w.2.2.2.1)))) := by
  refine gStart (cc := cX3_fold) (maxL := 7) (ret := none) (by decide) rfl (Nat.le_of_ble_eq_true rfl) ?_
  intro p e s m below meth c ls F hr hlk hH hz hS hl
  have hl : lv_has ls 7 [(0, .int (iI fd)), (1, .ref out), (2, .int (iI row)), (3, .int (iI val)), (4, .int (iI n))] := hl
  have hS : va_S (gA g) s.heap s.heap [] := hS
  obtain ⟨H, hHe⟩ : ∃ H : Heap, H = s.heap := ⟨_, rfl⟩
  obtain ⟨locs, hlo⟩ : ∃ k : List Loc, k = [] := ⟨_, rfl⟩
  have hH : gH g I R J AI AJ AR H := by rw [hHe]; exact hH
  have hS : va_S (gA g) s.heap H locs := by rw [hHe, hlo]; exact hS
  suffices hw : W p l e rmX3_fold s m ([.int (iI fd), .ref out, .int (iI row), .int (iI val), .int (iI n)] : List Value).toArray below meth c H locs 0 0 (MQ below (gQv g (fun w : gS => I = w.1 ∧ R = w.2.1 ∧ J = w.2.2.1 ∧ AJ = w.2.2.2.2.1 ∧ AR = w.2.2.2.2.2 ∧ (gInv g gh R AR I (w.2.2.2.1)))) ([.int (iI fd), .ref out, .int (iI row), .int (iI val), .int (iI n)] : List Value).toArray s 0 0 (gA g)) (F0 m 0 ls []) by
    rw [hHe, hlo] at hw; exact hw
  clear hHe hlo
  refine lv_aload_n F.1 F.2.1 dX3_fold_0 rfl (lv_at hl 1 rfl) ?_
  refine lv_iload_n F.1 F.2.1 dX3_fold_1 rfl (lv_at hl 2 rfl) ?_
  obtain ⟨b_1a, b_1b, b_1c, b_1d, b_1e, b_1f, b_1g, b_1h⟩ := gI_rows hv hout
  refine g_calli (g_runV (As := [.int (iI row)]) (rest := []) (ci := 4) F hl.1 hH hS hz (c_X4_amount l g gh I R J AI AJ AR out row zrow hv hout (by omega) (by omega)) (cwV 1 F.2.2.2.2.1 gX3_fold_X4_amount rfl rfl rfl hdX4_amount ⟨Nat.le_of_ble_eq_true rfl, Nat.le_of_ble_eq_true rfl⟩) hout (by decide) rfl rfl rfl (Nat.le_of_ble_eq_true rfl) dX3_fold_2 ⟨Nat.zero_le _, Nat.zero_le _⟩) hS (fun v_8 I_2 R_3 J_4 AI_5 AJ_6 AR_7 H locs zv_8 hp_9 hH hS => ?_)
  dsimp only at hp_9
  obtain ⟨rfl, rfl, rfl, rfl, rfl, rfl, q_10⟩ := hp_9
  refine lv_istore (lv' := [(5, .int (iI v_8)), (0, .int (iI fd)), (1, .ref out), (2, .int (iI row)), (3, .int (iI val)), (4, .int (iI n))]) F.1 F.2.1 dX3_fold_5 hl (by decide) rfl (fun ls hl => ?_)
  refine lv_iload_n F.1 F.2.1 dX3_fold_7 rfl (lv_at hl 1 rfl) ?_
  refine z_bipush F dX3_fold_8 (by decide) ?_
  refine z_icmp_ne (tgt := 27) F dX3_fold_10 (by decide) zfd ⟨by decide, by decide⟩ (fun c_11 => ?_) (fun c_11 => ?_)
  · refine lv_iload_n F.1 F.2.1 dX3_fold_27 rfl (lv_at hl 1 rfl) ?_
    refine z_bipush F dX3_fold_28 (by decide) ?_
    refine z_icmp_ne (tgt := 49) F dX3_fold_30 (by decide) zfd ⟨by decide, by decide⟩ (fun c_12 => ?_) (fun c_12 => ?_)
    · refine lv_iload F.1 F.2.1 dX3_fold_49 (lv_at hl 5 rfl) ?_
      refine z_if_le (tgt := 110) F dX3_fold_51 (by decide) zn (fun c_13 => ?_) (fun c_13 => ?_)
      · exact g_vret F hr hlk hH hS hz ⟨rfl, rfl, rfl, rfl, rfl, hv⟩ dX3_fold_110
      · refine lv_aload_n F.1 F.2.1 dX3_fold_54 rfl (lv_at hl 2 rfl) ?_
        refine lv_iload_n F.1 F.2.1 dX3_fold_55 rfl (lv_at hl 3 rfl) ?_
        refine z_iconst F dX3_fold_56 ?_
        refine g_calli (g_runV (As := [.int (iI row), .int (iI 5)]) (rest := []) (ci := 4) F hl.1 hH hS hz (c_X4_cell l g gh I R J AI AJ AR out row 5 zrow ⟨by decide, by decide⟩ hv hout (by omega) (by omega) (by omega) (by omega)) (cwV 2 F.2.2.2.2.1 gX3_fold_X4_cell rfl rfl rfl hdX4_cell ⟨Nat.le_of_ble_eq_true rfl, Nat.le_of_ble_eq_true rfl⟩) hout (by decide) rfl rfl rfl (Nat.le_of_ble_eq_true rfl) dX3_fold_57 ⟨Nat.zero_le _, Nat.zero_le _⟩) hS (fun v_20 I_14 R_15 J_16 AI_17 AJ_18 AR_19 H locs zv_20 hp_21 hH hS => ?_)
        dsimp only at hp_21
        obtain ⟨rfl, rfl, rfl, rfl, rfl, rfl, q_22⟩ := hp_21
        refine z_if_ne (tgt := 67) F dX3_fold_60 (by decide) zv_20 (fun c_23 => ?_) (fun c_23 => ?_)
        · refine z_iconst F dX3_fold_67 ?_
          refine lv_istore (lv' := [(6, .int (iI 0)), (5, .int (iI v_8)), (0, .int (iI fd)), (1, .ref out), (2, .int (iI row)), (3, .int (iI val)), (4, .int (iI n))]) F.1 F.2.1 dX3_fold_68 hl (by decide) rfl (fun ls hl => ?_)
          refine lv_iload F.1 F.2.1 dX3_fold_70 (lv_at hl 0 rfl) ?_
          refine z_if_ne (tgt := 96) F dX3_fold_72 (by decide) ⟨by decide, by decide⟩ (fun c_24 => ?_) (fun c_24 => ?_)
          · exact absurd trivial (by omega)
          · refine lv_iload_n F.1 F.2.1 dX3_fold_75 rfl (lv_at hl 2 rfl) ?_
            refine z_bipush F dX3_fold_76 (by decide) ?_
            refine z_icmp_ne (tgt := 90) F dX3_fold_78 (by decide) zfd ⟨by decide, by decide⟩ (fun c_25 => ?_) (fun c_25 => ?_)
            · refine lv_iload_n F.1 F.2.1 dX3_fold_90 rfl (lv_at hl 5 rfl) ?_
              refine lv_iload F.1 F.2.1 dX3_fold_91 (lv_at hl 1 rfl) ?_
              refine z_icmp_le (tgt := 103) F dX3_fold_93 (by decide) zval zv_8 (fun c_26 => ?_) (fun c_26 => ?_)
              · refine lv_aload_n F.1 F.2.1 dX3_fold_103 rfl (lv_at hl 3 rfl) ?_
                refine lv_iload_n F.1 F.2.1 dX3_fold_104 rfl (lv_at hl 4 rfl) ?_
                refine z_iconst F dX3_fold_105 ?_
                refine z_iconst F dX3_fold_106 ?_
                refine g_callv (g_runV (As := [.int (iI row), .int (iI 5), .int (iI 1)]) (rest := []) (ci := 4) F hl.1 hH hS hz (c_X4_setCell l g gh I R J AI AJ AR out row 5 1 zrow ⟨by decide, by decide⟩ ⟨by decide, by decide⟩ hv hout (by omega) (by omega) (by omega) (by omega) (by omega) (by first | exact hfz | omega)) (cwV 3 F.2.2.2.2.1 gX3_fold_X4_setCell rfl rfl rfl hdX4_setCell ⟨Nat.le_of_ble_eq_true rfl, Nat.le_of_ble_eq_true rfl⟩) hout (by decide) rfl rfl rfl (Nat.le_of_ble_eq_true rfl) dX3_fold_107 ⟨Nat.zero_le _, Nat.zero_le _⟩) hS (fun I_27 R_28 J_29 AI_30 AJ_31 AR_32 H locs hp_33 hH hS => ?_)
                dsimp only at hp_33
                obtain ⟨rfl, rfl, rfl, rfl, rfl, q_34, hv, q_35⟩ := hp_33
                exact g_vret F hr hlk hH hS hz ⟨rfl, rfl, rfl, rfl, rfl, hv⟩ dX3_fold_110
              · refine lv_aload_n F.1 F.2.1 dX3_fold_96 rfl (lv_at hl 3 rfl) ?_
                refine lv_iload_n F.1 F.2.1 dX3_fold_97 rfl (lv_at hl 4 rfl) ?_
                refine z_iconst F dX3_fold_98 ?_
                refine lv_iload_n F.1 F.2.1 dX3_fold_99 rfl (lv_at hl 5 rfl) ?_
                refine g_callv (g_runV (As := [.int (iI row), .int (iI 4), .int (iI val)]) (rest := []) (ci := 4) F hl.1 hH hS hz (c_X4_setCell l g gh I R J AI AJ AR out row 4 val zrow ⟨by decide, by decide⟩ zval hv hout (by omega) (by omega) (by omega) (by omega) (by omega) (by first | exact hfz | omega)) (cwV 3 F.2.2.2.2.1 gX3_fold_X4_setCell rfl rfl rfl hdX4_setCell ⟨Nat.le_of_ble_eq_true rfl, Nat.le_of_ble_eq_true rfl⟩) hout (by decide) rfl rfl rfl (Nat.le_of_ble_eq_true rfl) dX3_fold_100 ⟨Nat.zero_le _, Nat.zero_le _⟩) hS (fun I_36 R_37 J_38 AI_39 AJ_40 AR_41 H locs hp_42 hH hS => ?_)
                dsimp only at hp_42
                obtain ⟨rfl, rfl, rfl, rfl, rfl, q_43, hv, q_44⟩ := hp_42
                refine lv_aload_n F.1 F.2.1 dX3_fold_103 rfl (lv_at hl 3 rfl) ?_
                refine lv_iload_n F.1 F.2.1 dX3_fold_104 rfl (lv_at hl 4 rfl) ?_
                refine z_iconst F dX3_fold_105 ?_
                refine z_iconst F dX3_fold_106 ?_
                refine g_callv (g_runV (As := [.int (iI row), .int (iI 5), .int (iI 1)]) (rest := []) (ci := 4) F hl.1 hH hS hz (c_X4_setCell l g gh I R J AI_39 AJ AR out row 5 1 zrow ⟨by decide, by decide⟩ ⟨by decide, by decide⟩ hv hout (by omega) (by omega) (by omega) (by omega) (by omega) (by first | exact hfz | omega)) (cwV 3 F.2.2.2.2.1 gX3_fold_X4_setCell rfl rfl rfl hdX4_setCell ⟨Nat.le_of_ble_eq_true rfl, Nat.le_of_ble_eq_true rfl⟩) hout (by decide) rfl rfl rfl (Nat.le_of_ble_eq_true rfl) dX3_fold_107 ⟨Nat.zero_le _, Nat.zero_le _⟩) hS (fun I_45 R_46 J_47 AI_48 AJ_49 AR_50 H locs hp_51 hH hS => ?_)
                dsimp only at hp_51
                obtain ⟨rfl, rfl, rfl, rfl, rfl, q_52, hv, q_53⟩ := hp_51
                exact g_vret F hr hlk hH hS hz ⟨rfl, rfl, rfl, rfl, rfl, hv⟩ dX3_fold_110
            · refine lv_iload_n F.1 F.2.1 dX3_fold_81 rfl (lv_at hl 5 rfl) ?_
              refine lv_iload F.1 F.2.1 dX3_fold_82 (lv_at hl 1 rfl) ?_
              refine z_icmp_ge (tgt := 103) F dX3_fold_84 (by decide) zval zv_8 (fun c_54 => ?_) (fun c_54 => ?_)
              · refine lv_aload_n F.1 F.2.1 dX3_fold_103 rfl (lv_at hl 3 rfl) ?_
                refine lv_iload_n F.1 F.2.1 dX3_fold_104 rfl (lv_at hl 4 rfl) ?_
                refine z_iconst F dX3_fold_105 ?_
                refine z_iconst F dX3_fold_106 ?_
                refine g_callv (g_runV (As := [.int (iI row), .int (iI 5), .int (iI 1)]) (rest := []) (ci := 4) F hl.1 hH hS hz (c_X4_setCell l g gh I R J AI AJ AR out row 5 1 zrow ⟨by decide, by decide⟩ ⟨by decide, by decide⟩ hv hout (by omega) (by omega) (by omega) (by omega) (by omega) (by first | exact hfz | omega)) (cwV 3 F.2.2.2.2.1 gX3_fold_X4_setCell rfl rfl rfl hdX4_setCell ⟨Nat.le_of_ble_eq_true rfl, Nat.le_of_ble_eq_true rfl⟩) hout (by decide) rfl rfl rfl (Nat.le_of_ble_eq_true rfl) dX3_fold_107 ⟨Nat.zero_le _, Nat.zero_le _⟩) hS (fun I_55 R_56 J_57 AI_58 AJ_59 AR_60 H locs hp_61 hH hS => ?_)
                dsimp only at hp_61
                obtain ⟨rfl, rfl, rfl, rfl, rfl, q_62, hv, q_63⟩ := hp_61
                exact g_vret F hr hlk hH hS hz ⟨rfl, rfl, rfl, rfl, rfl, hv⟩ dX3_fold_110
              · refine z_goto (tgt := 96) F dX3_fold_87 (by decide) ?_
                refine lv_aload_n F.1 F.2.1 dX3_fold_96 rfl (lv_at hl 3 rfl) ?_
                refine lv_iload_n F.1 F.2.1 dX3_fold_97 rfl (lv_at hl 4 rfl) ?_
                refine z_iconst F dX3_fold_98 ?_
                refine lv_iload_n F.1 F.2.1 dX3_fold_99 rfl (lv_at hl 5 rfl) ?_
                refine g_callv (g_runV (As := [.int (iI row), .int (iI 4), .int (iI val)]) (rest := []) (ci := 4) F hl.1 hH hS hz (c_X4_setCell l g gh I R J AI AJ AR out row 4 val zrow ⟨by decide, by decide⟩ zval hv hout (by omega) (by omega) (by omega) (by omega) (by omega) (by first | exact hfz | omega)) (cwV 3 F.2.2.2.2.1 gX3_fold_X4_setCell rfl rfl rfl hdX4_setCell ⟨Nat.le_of_ble_eq_true rfl, Nat.le_of_ble_eq_true rfl⟩) hout (by decide) rfl rfl rfl (Nat.le_of_ble_eq_true rfl) dX3_fold_100 ⟨Nat.zero_le _, Nat.zero_le _⟩) hS (fun I_64 R_65 J_66 AI_67 AJ_68 AR_69 H locs hp_70 hH hS => ?_)
                dsimp only at hp_70
                obtain ⟨rfl, rfl, rfl, rfl, rfl, q_71, hv, q_72⟩ := hp_70
                refine lv_aload_n F.1 F.2.1 dX3_fold_103 rfl (lv_at hl 3 rfl) ?_
                refine lv_iload_n F.1 F.2.1 dX3_fold_104 rfl (lv_at hl 4 rfl) ?_
                refine z_iconst F dX3_fold_105 ?_
                refine z_iconst F dX3_fold_106 ?_
                refine g_callv (g_runV (As := [.int (iI row), .int (iI 5), .int (iI 1)]) (rest := []) (ci := 4) F hl.1 hH hS hz (c_X4_setCell l g gh I R J AI_67 AJ AR out row 5 1 zrow ⟨by decide, by decide⟩ ⟨by decide, by decide⟩ hv hout (by omega) (by omega) (by omega) (by omega) (by omega) (by first | exact hfz | omega)) (cwV 3 F.2.2.2.2.1 gX3_fold_X4_setCell rfl rfl rfl hdX4_setCell ⟨Nat.le_of_ble_eq_true rfl, Nat.le_of_ble_eq_true rfl⟩) hout (by decide) rfl rfl rfl (Nat.le_of_ble_eq_true rfl) dX3_fold_107 ⟨Nat.zero_le _, Nat.zero_le _⟩) hS (fun I_73 R_74 J_75 AI_76 AJ_77 AR_78 H locs hp_79 hH hS => ?_)
                dsimp only at hp_79
                obtain ⟨rfl, rfl, rfl, rfl, rfl, q_80, hv, q_81⟩ := hp_79
                exact g_vret F hr hlk hH hS hz ⟨rfl, rfl, rfl, rfl, rfl, hv⟩ dX3_fold_110
        · refine z_iconst F dX3_fold_63 ?_
          refine z_goto (tgt := 68) F dX3_fold_64 (by decide) ?_
          refine lv_istore (lv' := [(6, .int (iI 1)), (5, .int (iI v_8)), (0, .int (iI fd)), (1, .ref out), (2, .int (iI row)), (3, .int (iI val)), (4, .int (iI n))]) F.1 F.2.1 dX3_fold_68 hl (by decide) rfl (fun ls hl => ?_)
          refine lv_iload F.1 F.2.1 dX3_fold_70 (lv_at hl 0 rfl) ?_
          refine z_if_ne (tgt := 96) F dX3_fold_72 (by decide) ⟨by decide, by decide⟩ (fun c_82 => ?_) (fun c_82 => ?_)
          · refine lv_aload_n F.1 F.2.1 dX3_fold_96 rfl (lv_at hl 3 rfl) ?_
            refine lv_iload_n F.1 F.2.1 dX3_fold_97 rfl (lv_at hl 4 rfl) ?_
            refine z_iconst F dX3_fold_98 ?_
            refine lv_iload_n F.1 F.2.1 dX3_fold_99 rfl (lv_at hl 5 rfl) ?_
            refine g_callv (g_runV (As := [.int (iI row), .int (iI 4), .int (iI val)]) (rest := []) (ci := 4) F hl.1 hH hS hz (c_X4_setCell l g gh I R J AI AJ AR out row 4 val zrow ⟨by decide, by decide⟩ zval hv hout (by omega) (by omega) (by omega) (by omega) (by omega) (by first | exact hfz | omega)) (cwV 3 F.2.2.2.2.1 gX3_fold_X4_setCell rfl rfl rfl hdX4_setCell ⟨Nat.le_of_ble_eq_true rfl, Nat.le_of_ble_eq_true rfl⟩) hout (by decide) rfl rfl rfl (Nat.le_of_ble_eq_true rfl) dX3_fold_100 ⟨Nat.zero_le _, Nat.zero_le _⟩) hS (fun I_83 R_84 J_85 AI_86 AJ_87 AR_88 H locs hp_89 hH hS => ?_)
            dsimp only at hp_89
            obtain ⟨rfl, rfl, rfl, rfl, rfl, q_90, hv, q_91⟩ := hp_89
            refine lv_aload_n F.1 F.2.1 dX3_fold_103 rfl (lv_at hl 3 rfl) ?_
            refine lv_iload_n F.1 F.2.1 dX3_fold_104 rfl (lv_at hl 4 rfl) ?_
            refine z_iconst F dX3_fold_105 ?_
            refine z_iconst F dX3_fold_106 ?_
            refine g_callv (g_runV (As := [.int (iI row), .int (iI 5), .int (iI 1)]) (rest := []) (ci := 4) F hl.1 hH hS hz (c_X4_setCell l g gh I R J AI_86 AJ AR out row 5 1 zrow ⟨by decide, by decide⟩ ⟨by decide, by decide⟩ hv hout (by omega) (by omega) (by omega) (by omega) (by omega) (by first | exact hfz | omega)) (cwV 3 F.2.2.2.2.1 gX3_fold_X4_setCell rfl rfl rfl hdX4_setCell ⟨Nat.le_of_ble_eq_true rfl, Nat.le_of_ble_eq_true rfl⟩) hout (by decide) rfl rfl rfl (Nat.le_of_ble_eq_true rfl) dX3_fold_107 ⟨Nat.zero_le _, Nat.zero_le _⟩) hS (fun I_92 R_93 J_94 AI_95 AJ_96 AR_97 H locs hp_98 hH hS => ?_)
            dsimp only at hp_98
            obtain ⟨rfl, rfl, rfl, rfl, rfl, q_99, hv, q_100⟩ := hp_98
            exact g_vret F hr hlk hH hS hz ⟨rfl, rfl, rfl, rfl, rfl, hv⟩ dX3_fold_110
          · exact absurd trivial (by omega)
    · refine lv_aload_n F.1 F.2.1 dX3_fold_33 rfl (lv_at hl 2 rfl) ?_
      refine lv_iload_n F.1 F.2.1 dX3_fold_34 rfl (lv_at hl 3 rfl) ?_
      refine z_iconst F dX3_fold_35 ?_
      refine lv_iload F.1 F.2.1 dX3_fold_36 (lv_at hl 0 rfl) ?_
      refine lv_iload F.1 F.2.1 dX3_fold_38 (lv_at hl 5 rfl) ?_
      refine lv_iload_n F.1 F.2.1 dX3_fold_40 rfl (lv_at hl 4 rfl) ?_
      refine z_imul F dX3_fold_41 ?_
      refine z_norm (fun v_101 zv_101 ev_101 => ?_)
      refine z_iadd F dX3_fold_42 ?_
      refine z_norm (fun v_102 zv_102 ev_102 => ?_)
      refine g_callv (g_runV (As := [.int (iI row), .int (iI 4), .int (iI v_102)]) (rest := []) (ci := 4) F hl.1 hH hS hz (c_X4_setCell l g gh I R J AI AJ AR out row 4 v_102 zrow ⟨by decide, by decide⟩ zv_102 hv hout (by omega) (by omega) (by omega) (by omega) (by omega) (by first | exact hfz | omega)) (cwV 3 F.2.2.2.2.1 gX3_fold_X4_setCell rfl rfl rfl hdX4_setCell ⟨Nat.le_of_ble_eq_true rfl, Nat.le_of_ble_eq_true rfl⟩) hout (by decide) rfl rfl rfl (Nat.le_of_ble_eq_true rfl) dX3_fold_43 ⟨Nat.zero_le _, Nat.zero_le _⟩) hS (fun I_103 R_104 J_105 AI_106 AJ_107 AR_108 H locs hp_109 hH hS => ?_)
      dsimp only at hp_109
      obtain ⟨rfl, rfl, rfl, rfl, rfl, q_110, hv, q_111⟩ := hp_109
      refine z_goto (tgt := 110) F dX3_fold_46 (by decide) ?_
      exact g_vret F hr hlk hH hS hz ⟨rfl, rfl, rfl, rfl, rfl, hv⟩ dX3_fold_110
  · refine lv_aload_n F.1 F.2.1 dX3_fold_13 rfl (lv_at hl 2 rfl) ?_
    refine lv_iload_n F.1 F.2.1 dX3_fold_14 rfl (lv_at hl 3 rfl) ?_
    refine z_iconst F dX3_fold_15 ?_
    refine lv_iload F.1 F.2.1 dX3_fold_16 (lv_at hl 0 rfl) ?_
    refine lv_iload F.1 F.2.1 dX3_fold_18 (lv_at hl 5 rfl) ?_
    refine z_iadd F dX3_fold_20 ?_
    refine z_norm (fun v_112 zv_112 ev_112 => ?_)
    refine g_callv (g_runV (As := [.int (iI row), .int (iI 4), .int (iI v_112)]) (rest := []) (ci := 4) F hl.1 hH hS hz (c_X4_setCell l g gh I R J AI AJ AR out row 4 v_112 zrow ⟨by decide, by decide⟩ zv_112 hv hout (by omega) (by omega) (by omega) (by omega) (by omega) (by first | exact hfz | omega)) (cwV 3 F.2.2.2.2.1 gX3_fold_X4_setCell rfl rfl rfl hdX4_setCell ⟨Nat.le_of_ble_eq_true rfl, Nat.le_of_ble_eq_true rfl⟩) hout (by decide) rfl rfl rfl (Nat.le_of_ble_eq_true rfl) dX3_fold_21 ⟨Nat.zero_le _, Nat.zero_le _⟩) hS (fun I_113 R_114 J_115 AI_116 AJ_117 AR_118 H locs hp_119 hH hS => ?_)
    dsimp only at hp_119
    obtain ⟨rfl, rfl, rfl, rfl, rfl, q_120, hv, q_121⟩ := hp_119
    refine z_goto (tgt := 110) F dX3_fold_24 (by decide) ?_
    exact g_vret F hr hlk hH hS hz ⟨rfl, rfl, rfl, rfl, rfl, hv⟩ dX3_fold_110

def rmX3_arrive : Room := { frames := 2, cells := 0, slots := 0, locals := 84 }
theorem hdX3_arrive : yX3_arrive.cls = RX3 ∧ yX3_arrive.cls ≠ "java/lang/invoke/MethodHandle" ∧ yX3_arrive.cls ≠ "java/lang/invoke/VarHandle" ∧ (parseMethodDescriptor yX3_arrive.desc).map (fun d => d.parameters.length) = some 3 := by decide +kernel
set_option maxHeartbeats 4000000 in
set_option maxRecDepth 100000 in
/-- a tuple comes to a ring -/
theorem c_X3_arrive (l : Launch) (g : gG) (gh : gGh) (I : gI) (R : gR) (J : gJ) (AI : gI) (AJ : gJ) (AR : gR) (a : Nat) (out : Nat) (row : Int) (rd : Int) (zrow : zr row) (zrd : zr rd) (hv : gInv g gh R AR I AI) (ha : gO g a 3) (hout : gO g out 4) (h4 : gh 2 out = 4) (hlm : gh 1 out = 120) : gMet l g yX3_arrive wsX3_arrive rmX3_arrive [.ref a, .ref out, .int (iI row), .int (iI rd)] (I, R, J, AI, AJ, AR) (gQi g (fun (z : Int) (w : gS) => R = w.2.1 ∧ J = w.2.2.1 ∧ AJ = w.2.2.2.2.1 ∧ AR = w.2.2.2.2.2 ∧ (gInv g gh R AR (w.1) (w.2.2.2.1)) ∧ (rF g I (w.1)) ∧ (z = 0 ∨ z = 1))) := by
  refine gStart (cc := cX3_arrive) (maxL := 5) (ret := (some (.boolean))) (by decide) rfl (Nat.le_of_ble_eq_true rfl) ?_
  intro p e s m below meth c ls F hr hlk hH hz hS hl
  have hl : lv_has ls 5 [(0, .ref a), (1, .ref out), (2, .int (iI row)), (3, .int (iI rd))] := hl
  have hS : va_S (gA g) s.heap s.heap [] := hS
  obtain ⟨H, hHe⟩ : ∃ H : Heap, H = s.heap := ⟨_, rfl⟩
  obtain ⟨locs, hlo⟩ : ∃ k : List Loc, k = [] := ⟨_, rfl⟩
  have hH : gH g I R J AI AJ AR H := by rw [hHe]; exact hH
  have hS : va_S (gA g) s.heap H locs := by rw [hHe, hlo]; exact hS
  suffices hw : W p l e rmX3_arrive s m ([.ref a, .ref out, .int (iI row), .int (iI rd)] : List Value).toArray below meth c H locs 0 0 (MQ below (gQi g (fun (z : Int) (w : gS) => R = w.2.1 ∧ J = w.2.2.1 ∧ AJ = w.2.2.2.2.1 ∧ AR = w.2.2.2.2.2 ∧ (gInv g gh R AR (w.1) (w.2.2.2.1)) ∧ (rF g I (w.1)) ∧ (z = 0 ∨ z = 1))) ([.ref a, .ref out, .int (iI row), .int (iI rd)] : List Value).toArray s 0 0 (gA g)) (F0 m 0 ls []) by
    rw [hHe, hlo] at hw; exact hw
  clear hHe hlo
  have rf : rF g I I := rF_r
  have iX4 : ∀ w ∈ u_ws RX4 TX4 4, w ∈ wsX3_arrive := (by decide +kernel)
  have iX3 : ∀ w ∈ u_ws RX3 TX3 3, w ∈ wsX3_arrive := (by decide +kernel)
  have k23 : Cond.fieldLink RX3 23 (TX4 3).1 (TX4 3).2.1 (TX4 3).2.2.1 ∈ wsX3_arrive := List.mem_of_getElem? (i := 1) rfl
  have k11 : Cond.fieldLink RX3 11 (TX3 0).1 (TX3 0).2.1 (TX3 0).2.2.1 ∈ wsX3_arrive := List.mem_of_getElem? (i := 2) rfl
  have k20 : Cond.fieldLink RX3 20 (TX3 2).1 (TX3 2).2.1 (TX3 2).2.2.1 ∈ wsX3_arrive := List.mem_of_getElem? (i := 3) rfl
  refine lv_aload_n F.1 F.2.1 dX3_arrive_0 rfl (lv_at hl 1 rfl) ?_
  refine g_getI (ci := 4) (k := 3) F hH rfl (by decide) iX4 hout (by decide) rfl k23 dX3_arrive_1 ?_
  obtain ⟨b_1a, b_1b, b_1c, b_1d, b_1e, b_1f, b_1g, b_1h⟩ := gI_rows hv hout
  refine z_iconst F dX3_arrive_4 ?_
  refine z_imul F dX3_arrive_5 ?_
  refine lv_istore (lv' := [(4, .int (iI (((I out 3).toInt) * 4))), (0, .ref a), (1, .ref out), (2, .int (iI row)), (3, .int (iI rd))]) F.1 F.2.1 dX3_arrive_6 hl (by decide) rfl (fun ls hl => ?_)
  refine lv_aload_n F.1 F.2.1 dX3_arrive_8 rfl (lv_at hl 2 rfl) ?_
  refine lv_iload_n F.1 F.2.1 dX3_arrive_9 rfl (lv_at hl 3 rfl) ?_
  refine lv_aload_n F.1 F.2.1 dX3_arrive_10 rfl (lv_at hl 1 rfl) ?_
  obtain ⟨r_2a, r_2b⟩ := gR_rk0 hv ha
  refine g_getR (ci := 3) (k := 0) F hH rfl (by decide) iX3 ha (by decide) rfl (b := gh 30 0) r_2a k11 dX3_arrive_11 ?_
  refine z_iconst F dX3_arrive_14 ?_
  refine g_calli (g_runV (As := [.int (iI row), .ref (gh 30 0), .int (iI 1)]) (rest := []) (ci := 4) F hl.1 hH hS hz (c_X4_insert l g gh I R J AI AJ AR out row (gh 30 0) 1 zrow ⟨by decide, by decide⟩ hv hout r_2b (ro30 hv ha) (fun h => absurd h (by omega)) (by first | exact hfz | omega)) (cwV 3 F.2.2.2.2.1 gX3_arrive_X4_insert rfl rfl rfl hdX4_insert ⟨Nat.le_of_ble_eq_true rfl, Nat.le_of_ble_eq_true rfl⟩) hout (by decide) rfl rfl rfl (Nat.le_of_ble_eq_true rfl) dX3_arrive_15 ⟨Nat.zero_le _, Nat.zero_le _⟩) hS (fun v_9 I_3 R_4 J_5 AI_6 AJ_7 AR_8 H locs zv_9 hp_10 hH hS => ?_)
  dsimp only at hp_10
  obtain ⟨rfl, rfl, rfl, rfl, hv, q_11, q_12, q0, q1⟩ := hp_10
  have rf := rF_t rf (rF_o hout q_11)
  refine z_if_ne (tgt := 23) F dX3_arrive_18 (by decide) zv_9 (fun c_13 => ?_) (fun c_13 => ?_)
  · refine lv_aload_n F.1 F.2.1 dX3_arrive_23 rfl (lv_at hl 2 rfl) ?_
    refine lv_iload_n F.1 F.2.1 dX3_arrive_24 rfl (lv_at hl 3 rfl) ?_
    refine z_iconst F dX3_arrive_25 ?_
    refine lv_iload_n F.1 F.2.1 dX3_arrive_26 rfl (lv_at hl 4 rfl) ?_
    obtain ⟨b_14a, b_14b, b_14c, b_14d, b_14e, b_14f, b_14g, b_14h⟩ := gI_rows hv hout
    refine g_callv (g_runV (As := [.int (iI row), .int (iI 5), .int (iI rd)]) (rest := []) (ci := 4) F hl.1 hH hS hz (c_X4_setCell l g gh I_3 R J AI_6 AJ AR out row 5 rd zrow ⟨by decide, by decide⟩ zrd hv hout (by omega) (by omega) (by omega) (by omega) (by omega) (by first | exact hfz | omega)) (cwV 3 F.2.2.2.2.1 gX3_arrive_X4_setCell rfl rfl rfl hdX4_setCell ⟨Nat.le_of_ble_eq_true rfl, Nat.le_of_ble_eq_true rfl⟩) hout (by decide) rfl rfl rfl (Nat.le_of_ble_eq_true rfl) dX3_arrive_27 ⟨Nat.zero_le _, Nat.zero_le _⟩) hS (fun I_15 R_16 J_17 AI_18 AJ_19 AR_20 H locs hp_21 hH hS => ?_)
    dsimp only at hp_21
    obtain ⟨rfl, rfl, rfl, rfl, rfl, q_22, hv, q_23⟩ := hp_21
    refine lv_aload_n F.1 F.2.1 dX3_arrive_30 rfl (lv_at hl 1 rfl) ?_
    refine g_getR (ci := 3) (k := 0) F hH rfl (by decide) iX3 ha (by decide) rfl (b := gh 30 0) r_2a k11 dX3_arrive_31 ?_
    refine z_iconst F dX3_arrive_34 ?_
    refine lv_aload_n F.1 F.2.1 dX3_arrive_35 rfl (lv_at hl 1 rfl) ?_
    obtain ⟨r_24a, r_24b⟩ := gR_rk2 hv ha
    refine g_getR (ci := 3) (k := 2) F hH rfl (by decide) iX3 ha (by decide) rfl (b := gh 32 0) r_24a k20 dX3_arrive_36 ?_
    refine lv_iload F.1 F.2.1 dX3_arrive_39 (lv_at hl 0 rfl) ?_
    refine z_iconst F dX3_arrive_41 ?_
    have hx42 : 0 ≤ (0 : Int) ∧ 0 ≤ (((I out 3).toInt) * 4) ∧ 0 ≤ (4 : Int) ∧ (0 : Int) + 4 ≤ ((5 : Nat) : Int) ∧ (((I out 3).toInt) * 4) + 4 ≤ ((480 : Nat) : Int) ∧ (0 : Int) ≤ 2147483647 ∧ (((I out 3).toInt) * 4) ≤ 2147483647 ∧ (4 : Int) ≤ 2147483647 := ⟨by omega, by omega, by omega, by omega, by omega, by omega, by omega, by omega⟩
    refine g_copyi (rest := []) F hl.1 hH hS r_2b r_24b (List.mem_of_getElem? (i := 4) rfl) (List.mem_of_getElem? (i := 5) rfl) (List.mem_of_getElem? (i := 6) rfl) (List.mem_of_getElem? (i := 7) rfl) hx42 (Nat.le_of_ble_eq_true rfl) (Nat.le_of_ble_eq_true rfl) dX3_arrive_42 (fun H locs hH hS => ?_)
    obtain ⟨AI_25, eAI_25⟩ : ∃ qQ, qQ = gup1 AI_18 (gh 32 0) (va_cpy (AI_18 (gh 30 0)) (AI_18 (gh 32 0)) ((0 : Int)).toNat ((((I out 3).toInt) * 4)).toNat ((4 : Int)).toNat) := ⟨_, rfl⟩
    rw [← eAI_25] at hH
    have kAI_25 : ∀ b, b ≠ (gh 32 0) → AI_25 b = AI_18 b := fun b hb => by rw [eAI_25]; exact gup1_a _ _ hb
    have hv : gInv g gh R AR I_3 AI_25 := gInv_plain hv (ro32 hv ha) kAI_25
    refine z_iconst F dX3_arrive_45 ?_
    exact g_zret F hr hlk hH hS hz (by omega) ⟨rfl, rfl, rfl, rfl, hv, rf, by first | omega | rfl | (dsimp only; omega)⟩ dX3_arrive_46
  · refine z_iconst F dX3_arrive_21 ?_
    exact g_zret F hr hlk hH hS hz (by omega) ⟨rfl, rfl, rfl, rfl, hv, rf, by first | omega | rfl | (dsimp only; omega)⟩ dX3_arrive_22

def rmX3_goOn : Room := { frames := 3, cells := 0, slots := 0, locals := 108 }
theorem hdX3_goOn : yX3_goOn.cls = RX3 ∧ yX3_goOn.cls ≠ "java/lang/invoke/MethodHandle" ∧ yX3_goOn.cls ≠ "java/lang/invoke/VarHandle" ∧ (parseMethodDescriptor yX3_goOn.desc).map (fun d => d.parameters.length) = some 5 := by decide +kernel
set_option maxHeartbeats 4000000 in
set_option maxRecDepth 100000 in
/-- what comes of one tuple -/
theorem c_X3_goOn (l : Launch) (g : gG) (gh : gGh) (I : gI) (R : gR) (J : gJ) (AI : gI) (AJ : gJ) (AR : gR) (a : Nat) (ln : Nat) (ar : Int) (inb : Nat) (out : Nat) (rd : Int) (zar : zr ar) (zrd : zr rd) (hv : gInv g gh R AR I AI) (ha : gO g a 3) (hln : gO g ln 0) (hinb : gO g inb 4) (hout : gO g out 4) (h4 : gh 2 out = 4) (hkd : (I ln 0).toInt = 8 ∨ (I ln 0).toInt = 0) (hlm : gh 1 out = 120) (h0 : 0 ≤ ar ∧ ar ≤ 119) : gMet l g yX3_goOn wsX3_goOn rmX3_goOn [.ref a, .ref ln, .int (iI ar), .ref inb, .ref out, .int (iI rd)] (I, R, J, AI, AJ, AR) (gQi g (fun (z : Int) (w : gS) => R = w.2.1 ∧ J = w.2.2.1 ∧ AJ = w.2.2.2.2.1 ∧ AR = w.2.2.2.2.2 ∧ (gInv g gh R AR (w.1) (w.2.2.2.1)) ∧ (rF g I (w.1)) ∧ (-4 ≤ z ∧ z ≤ 0))) := by
  refine gStart (cc := cX3_goOn) (maxL := 9) (ret := (some (.int))) (by decide) rfl (Nat.le_of_ble_eq_true rfl) ?_
  intro p e s m below meth c ls F hr hlk hH hz hS hl
  have hl : lv_has ls 9 [(0, .ref a), (1, .ref ln), (2, .int (iI ar)), (3, .ref inb), (4, .ref out), (5, .int (iI rd))] := hl
  have hS : va_S (gA g) s.heap s.heap [] := hS
  obtain ⟨H, hHe⟩ : ∃ H : Heap, H = s.heap := ⟨_, rfl⟩
  obtain ⟨locs, hlo⟩ : ∃ k : List Loc, k = [] := ⟨_, rfl⟩
  have hH : gH g I R J AI AJ AR H := by rw [hHe]; exact hH
  have hS : va_S (gA g) s.heap H locs := by rw [hHe, hlo]; exact hS
  suffices hw : W p l e rmX3_goOn s m ([.ref a, .ref ln, .int (iI ar), .ref inb, .ref out, .int (iI rd)] : List Value).toArray below meth c H locs 0 0 (MQ below (gQi g (fun (z : Int) (w : gS) => R = w.2.1 ∧ J = w.2.2.1 ∧ AJ = w.2.2.2.2.1 ∧ AR = w.2.2.2.2.2 ∧ (gInv g gh R AR (w.1) (w.2.2.2.1)) ∧ (rF g I (w.1)) ∧ (-4 ≤ z ∧ z ≤ 0))) ([.ref a, .ref ln, .int (iI ar), .ref inb, .ref out, .int (iI rd)] : List Value).toArray s 0 0 (gA g)) (F0 m 0 ls []) by
    rw [hHe, hlo] at hw; exact hw
  clear hHe hlo
  have rf : rF g I I := rF_r
  have iX4 : ∀ w ∈ u_ws RX4 TX4 4, w ∈ wsX3_goOn := (by decide +kernel)
  have iX3 : ∀ w ∈ u_ws RX3 TX3 3, w ∈ wsX3_goOn := (by decide +kernel)
  have iX0 : ∀ w ∈ u_ws RX0 TX0 15, w ∈ wsX3_goOn := (by decide +kernel)
  have k20 : Cond.fieldLink RX3 20 (TX3 2).1 (TX3 2).2.1 (TX3 2).2.2.1 ∈ wsX3_goOn := List.mem_of_getElem? (i := 1) rfl
  have k17 : Cond.fieldLink RX3 17 (TX3 1).1 (TX3 1).2.1 (TX3 1).2.2.1 ∈ wsX3_goOn := List.mem_of_getElem? (i := 2) rfl
  have k154 : Cond.fieldLink RX3 154 (TX0 9).1 (TX0 9).2.1 (TX0 9).2.2.1 ∈ wsX3_goOn := List.mem_of_getElem? (i := 7) rfl
  have k23 : Cond.fieldLink RX3 23 (TX4 3).1 (TX4 3).2.1 (TX4 3).2.2.1 ∈ wsX3_goOn := List.mem_of_getElem? (i := 8) rfl
  have k157 : Cond.fieldLink RX3 157 (TX0 10).1 (TX0 10).2.1 (TX0 10).2.2.1 ∈ wsX3_goOn := List.mem_of_getElem? (i := 9) rfl
  have k63 : Cond.fieldLink RX3 63 (TX4 2).1 (TX4 2).2.1 (TX4 2).2.2.1 ∈ wsX3_goOn := List.mem_of_getElem? (i := 10) rfl
  have k96 : Cond.fieldLink RX3 96 (TX0 5).1 (TX0 5).2.1 (TX0 5).2.2.1 ∈ wsX3_goOn := List.mem_of_getElem? (i := 11) rfl
  have k103 : Cond.fieldLink RX3 103 (TX0 6).1 (TX0 6).2.1 (TX0 6).2.2.1 ∈ wsX3_goOn := List.mem_of_getElem? (i := 12) rfl
  have k11 : Cond.fieldLink RX3 11 (TX3 0).1 (TX3 0).2.1 (TX3 0).2.2.1 ∈ wsX3_goOn := List.mem_of_getElem? (i := 13) rfl
  refine lv_aload_n F.1 F.2.1 dX3_goOn_0 rfl (lv_at hl 0 rfl) ?_
  obtain ⟨r_1a, r_1b⟩ := gR_rk2 hv ha
  refine g_getR (ci := 3) (k := 2) F hH rfl (by decide) iX3 ha (by decide) rfl (b := gh 32 0) r_1a k20 dX3_goOn_1 ?_
  refine lv_iload_n F.1 F.2.1 dX3_goOn_4 rfl (lv_at hl 2 rfl) ?_
  refine z_iconst F dX3_goOn_5 ?_
  refine z_imul F dX3_goOn_6 ?_
  refine lv_aload_n F.1 F.2.1 dX3_goOn_7 rfl (lv_at hl 0 rfl) ?_
  obtain ⟨r_2a, r_2b⟩ := gR_rk1 hv ha
  refine g_getR (ci := 3) (k := 1) F hH rfl (by decide) iX3 ha (by decide) rfl (b := gh 31 0) r_2a k17 dX3_goOn_8 ?_
  refine z_iconst F dX3_goOn_11 ?_
  refine z_iconst F dX3_goOn_12 ?_
  have hx13 : 0 ≤ (ar * 4) ∧ 0 ≤ (0 : Int) ∧ 0 ≤ (4 : Int) ∧ (ar * 4) + 4 ≤ ((480 : Nat) : Int) ∧ (0 : Int) + 4 ≤ ((8 : Nat) : Int) ∧ (ar * 4) ≤ 2147483647 ∧ (0 : Int) ≤ 2147483647 ∧ (4 : Int) ≤ 2147483647 := ⟨by omega, by omega, by omega, by omega, by omega, by omega, by omega, by omega⟩
  refine g_copyi (rest := []) F hl.1 hH hS r_1b r_2b (List.mem_of_getElem? (i := 3) rfl) (List.mem_of_getElem? (i := 4) rfl) (List.mem_of_getElem? (i := 5) rfl) (List.mem_of_getElem? (i := 6) rfl) hx13 (Nat.le_of_ble_eq_true rfl) (Nat.le_of_ble_eq_true rfl) dX3_goOn_13 (fun H locs hH hS => ?_)
  obtain ⟨AI_3, eAI_3⟩ : ∃ qQ, qQ = gup1 AI (gh 31 0) (va_cpy (AI (gh 32 0)) (AI (gh 31 0)) ((ar * 4)).toNat ((0 : Int)).toNat ((4 : Int)).toNat) := ⟨_, rfl⟩
  rw [← eAI_3] at hH
  have kAI_3 : ∀ b, b ≠ (gh 31 0) → AI_3 b = AI b := fun b hb => by rw [eAI_3]; exact gup1_a _ _ hb
  have hv : gInv g gh R AR I AI_3 := gInv_plain hv (ro31 hv ha) kAI_3
  refine lv_aload_n F.1 F.2.1 dX3_goOn_16 rfl (lv_at hl 0 rfl) ?_
  refine g_getR (ci := 3) (k := 1) F hH rfl (by decide) iX3 ha (by decide) rfl (b := gh 31 0) r_2a k17 dX3_goOn_17 ?_
  refine lv_aload_n F.1 F.2.1 dX3_goOn_20 rfl (lv_at hl 1 rfl) ?_
  refine g_getI (ci := 0) (k := 9) F hH rfl (by decide) iX0 hln (by decide) rfl k154 dX3_goOn_21 ?_
  have b_4 := gI_line hv hln
  unfold vLineI at b_4
  have hx24 : 0 ≤ ((I ln 9).toInt) ∧ ((I ln 9).toInt) < ((8 : Nat) : Int) ∧ ((I ln 9).toInt) ≤ 2147483647 := ⟨by omega, by omega, by omega⟩
  refine g_iald F hH r_2b hx24.1 hx24.2.1 hx24.2.2 dX3_goOn_24 ?_
  refine z_name (fun v_5 ev_5 => ?_)
  have zv_5 : zr v_5 := by rw [ev_5]; exact zr_t _
  refine lv_istore (lv' := [(6, .int (iI v_5)), (0, .ref a), (1, .ref ln), (2, .int (iI ar)), (3, .ref inb), (4, .ref out), (5, .int (iI rd))]) F.1 F.2.1 dX3_goOn_25 hl (by decide) rfl (fun ls hl => ?_)
  refine z_iconst F dX3_goOn_27 ?_
  refine lv_istore (lv' := [(7, .int (iI 0)), (6, .int (iI v_5)), (0, .ref a), (1, .ref ln), (2, .int (iI ar)), (3, .ref inb), (4, .ref out), (5, .int (iI rd))]) F.1 F.2.1 dX3_goOn_28 hl (by decide) rfl (fun ls hl => ?_)
  have cut_30_7 : ∀ (NN : Nat) (j : Int) (I_6 : gI) (AI_7 : gI) (H : Heap) (locs : List Loc) (ls : Array Slot), zr j → (gInv g gh R AR I_6 AI_7) → (rF g I I_6) → ((I_6 ln 0).toInt = 8 ∨ (I_6 ln 0).toInt = 0) → (0 ≤ j ∧ j ≤ 240) → (240 - j) < ((NN : Nat) : Int) → gH g I_6 R J AI_7 AJ AR H → va_S (gA g) s.heap H locs → lv_has ls 9 [(7, .int (iI j)), (6, .int (iI v_5)), (0, .ref a), (1, .ref ln), (2, .int (iI ar)), (3, .ref inb), (4, .ref out), (5, .int (iI rd))] → W p l e rmX3_goOn s m ([.ref a, .ref ln, .int (iI ar), .ref inb, .ref out, .int (iI rd)] : List Value).toArray below meth c H locs 0 0 (MQ below (gQi g (fun (z : Int) (w : gS) => R = w.2.1 ∧ J = w.2.2.1 ∧ AJ = w.2.2.2.2.1 ∧ AR = w.2.2.2.2.2 ∧ (gInv g gh R AR (w.1) (w.2.2.2.1)) ∧ (rF g I (w.1)) ∧ (-4 ≤ z ∧ z ≤ 0))) ([.ref a, .ref ln, .int (iI ar), .ref inb, .ref out, .int (iI rd)] : List Value).toArray s 0 0 (gA g)) (F0 m 30 ls []) := by
    intro NN30
    induction NN30 with
    | zero =>
      intro j I_6 AI_7 H locs ls zj hv rf hkd hj hm30 hH hS hl
      exact absurd hm30 (by omega)
    | succ NN30 ih30 =>
      intro j I_6 AI_7 H locs ls zj hv rf hkd hj hm30 hH hS hl
      refine lv_iload F.1 F.2.1 dX3_goOn_30 (lv_at hl 0 rfl) ?_
      refine lv_aload_n F.1 F.2.1 dX3_goOn_32 rfl (lv_at hl 5 rfl) ?_
      refine g_getI (ci := 4) (k := 3) F hH rfl (by decide) iX4 hinb (by decide) rfl k23 dX3_goOn_33 ?_
      obtain ⟨b_9a, b_9b, b_9c, b_9d, b_9e, b_9f, b_9g, b_9h⟩ := gI_rows hv hinb
      refine z_icmp_ge (tgt := 158) F dX3_goOn_36 (by decide) zj (zr_t _) (fun c_10 => ?_) (fun c_10 => ?_)
      · refine z_iconst F dX3_goOn_158 ?_
        exact g_iret F hr hlk hH hS hz ⟨by decide, by decide⟩ ⟨rfl, rfl, rfl, rfl, hv, rf, by first | omega | rfl | (dsimp only; omega)⟩ dX3_goOn_159
      · refine lv_aload_n F.1 F.2.1 dX3_goOn_39 rfl (lv_at hl 5 rfl) ?_
        refine lv_iload F.1 F.2.1 dX3_goOn_40 (lv_at hl 0 rfl) ?_
        refine g_calli (g_runV (As := [.int (iI j)]) (rest := []) (ci := 4) F hl.1 hH hS hz (c_X4_amount l g gh I_6 R J AI_7 AJ AR inb j zj hv hinb (by omega) (by omega)) (cwV 1 F.2.2.2.2.1 gX3_goOn_X4_amount rfl rfl rfl hdX4_amount ⟨Nat.le_of_ble_eq_true rfl, Nat.le_of_ble_eq_true rfl⟩) hinb (by decide) rfl rfl rfl (Nat.le_of_ble_eq_true rfl) dX3_goOn_42 ⟨Nat.zero_le _, Nat.zero_le _⟩) hS (fun v_17 I_11 R_12 J_13 AI_14 AJ_15 AR_16 H locs zv_17 hp_18 hH hS => ?_)
        dsimp only at hp_18
        obtain ⟨rfl, rfl, rfl, rfl, rfl, rfl, q_19⟩ := hp_18
        refine z_if_le (tgt := 152) F dX3_goOn_45 (by decide) zv_17 (fun c_20 => ?_) (fun c_20 => ?_)
        · refine z_iinc (lv' := [(7, .int (iI (j + 1))), (6, .int (iI v_5)), (0, .ref a), (1, .ref ln), (2, .int (iI ar)), (3, .ref inb), (4, .ref out), (5, .int (iI rd))]) F dX3_goOn_152 hl (k := 0) rfl (by decide) rfl (fun ls hl => ?_)
          refine z_goto (tgt := 30) F dX3_goOn_155 (by decide) ?_
          exact ih30 (j + 1) I_6 AI_7 H locs ls ⟨by omega, by omega⟩ hv rf (by omega) (by omega) (by omega) hH hS (lv_sub hl [0, 1, 2, 3, 4, 5, 6, 7] rfl)
        · refine lv_aload_n F.1 F.2.1 dX3_goOn_48 rfl (lv_at hl 5 rfl) ?_
          refine lv_iload F.1 F.2.1 dX3_goOn_49 (lv_at hl 0 rfl) ?_
          refine lv_aload_n F.1 F.2.1 dX3_goOn_51 rfl (lv_at hl 3 rfl) ?_
          refine g_getI (ci := 0) (k := 10) F hH rfl (by decide) iX0 hln (by decide) rfl k157 dX3_goOn_52 ?_
          have b_21 := gI_line hv hln
          unfold vLineI at b_21
          refine g_calli (g_runV (As := [.int (iI j), .int (iI ((I_6 ln 10).toInt))]) (rest := []) (ci := 4) F hl.1 hH hS hz (c_X4_cell l g gh I_6 R J AI_7 AJ AR inb j ((I_6 ln 10).toInt) zj (zr_t _) hv hinb (by omega) (by omega) (by omega) (by omega)) (cwV 2 F.2.2.2.2.1 gX3_goOn_X4_cell rfl rfl rfl hdX4_cell ⟨Nat.le_of_ble_eq_true rfl, Nat.le_of_ble_eq_true rfl⟩) hinb (by decide) rfl rfl rfl (Nat.le_of_ble_eq_true rfl) dX3_goOn_55 ⟨Nat.zero_le _, Nat.zero_le _⟩) hS (fun v_28 I_22 R_23 J_24 AI_25 AJ_26 AR_27 H locs zv_28 hp_29 hH hS => ?_)
          dsimp only at hp_29
          obtain ⟨rfl, rfl, rfl, rfl, rfl, rfl, q_30⟩ := hp_29
          refine lv_iload F.1 F.2.1 dX3_goOn_58 (lv_at hl 1 rfl) ?_
          refine z_icmp_eq (tgt := 66) F dX3_goOn_60 (by decide) zv_28 zv_5 (fun c_31 => ?_) (fun c_31 => ?_)
          · refine lv_aload_n F.1 F.2.1 dX3_goOn_66 rfl (lv_at hl 5 rfl) ?_
            obtain ⟨r_32a, r_32b⟩ := gR_cells hv hinb
            refine g_getR (ci := 4) (k := 2) F hH rfl (by decide) iX4 hinb (by decide) rfl (b := gh 0 inb) r_32a k63 dX3_goOn_67 ?_
            refine lv_iload F.1 F.2.1 dX3_goOn_70 (lv_at hl 0 rfl) ?_
            refine z_bipush F dX3_goOn_72 (by decide) ?_
            refine z_imul F dX3_goOn_74 ?_
            refine lv_aload_n F.1 F.2.1 dX3_goOn_75 rfl (lv_at hl 2 rfl) ?_
            refine g_getR (ci := 3) (k := 1) F hH rfl (by decide) iX3 ha (by decide) rfl (b := gh 31 0) r_2a k17 dX3_goOn_76 ?_
            refine lv_aload_n F.1 F.2.1 dX3_goOn_79 rfl (lv_at hl 3 rfl) ?_
            refine g_getI (ci := 0) (k := 5) F hH rfl (by decide) iX0 hln (by decide) rfl k96 dX3_goOn_80 ?_
            refine lv_aload_n F.1 F.2.1 dX3_goOn_83 rfl (lv_at hl 3 rfl) ?_
            refine g_getI (ci := 0) (k := 6) F hH rfl (by decide) iX0 hln (by decide) rfl k103 dX3_goOn_84 ?_
            have hx87 : 0 ≤ (j * 6) ∧ 0 ≤ ((I_6 ln 5).toInt) ∧ 0 ≤ ((I_6 ln 6).toInt) ∧ (j * 6) + ((I_6 ln 6).toInt) ≤ ((6 * gh 1 inb : Nat) : Int) ∧ ((I_6 ln 5).toInt) + ((I_6 ln 6).toInt) ≤ ((8 : Nat) : Int) ∧ (j * 6) ≤ 2147483647 ∧ ((I_6 ln 5).toInt) ≤ 2147483647 ∧ ((I_6 ln 6).toInt) ≤ 2147483647 := ⟨by omega, by omega, by omega, by omega, by omega, by omega, by omega, by omega⟩
            refine g_copyi (rest := []) F hl.1 hH hS r_32b r_2b (List.mem_of_getElem? (i := 3) rfl) (List.mem_of_getElem? (i := 4) rfl) (List.mem_of_getElem? (i := 5) rfl) (List.mem_of_getElem? (i := 6) rfl) hx87 (Nat.le_of_ble_eq_true rfl) (Nat.le_of_ble_eq_true rfl) dX3_goOn_87 (fun H locs hH hS => ?_)
            obtain ⟨AI_33, eAI_33⟩ : ∃ qQ, qQ = gup1 AI_7 (gh 31 0) (va_cpy (AI_7 (gh 0 inb)) (AI_7 (gh 31 0)) ((j * 6)).toNat (((I_6 ln 5).toInt)).toNat (((I_6 ln 6).toInt)).toNat) := ⟨_, rfl⟩
            rw [← eAI_33] at hH
            have kAI_33 : ∀ b, b ≠ (gh 31 0) → AI_33 b = AI_7 b := fun b hb => by rw [eAI_33]; exact gup1_a _ _ hb
            have hv : gInv g gh R AR I_6 AI_33 := gInv_plain hv (ro31 hv ha) kAI_33
            refine lv_aload_n F.1 F.2.1 dX3_goOn_90 rfl (lv_at hl 3 rfl) ?_
            refine lv_aload_n F.1 F.2.1 dX3_goOn_91 rfl (lv_at hl 2 rfl) ?_
            refine g_getR (ci := 3) (k := 1) F hH rfl (by decide) iX3 ha (by decide) rfl (b := gh 31 0) r_2a k17 dX3_goOn_92 ?_
            refine z_iconst F dX3_goOn_95 ?_
            refine lv_aload_n F.1 F.2.1 dX3_goOn_96 rfl (lv_at hl 2 rfl) ?_
            obtain ⟨r_34a, r_34b⟩ := gR_rk0 hv ha
            refine g_getR (ci := 3) (k := 0) F hH rfl (by decide) iX3 ha (by decide) rfl (b := gh 30 0) r_34a k11 dX3_goOn_97 ?_
            refine g_callv (g_runV (As := [.ref (gh 31 0), .int (iI 0), .ref (gh 30 0)]) (rest := []) (ci := 0) F hl.1 hH hS hz (c_X0_fillTerms l g gh 8 I_6 R J AI_33 AJ AR ln (gh 31 0) 0 (gh 30 0) ⟨by decide, by decide⟩ hv hln r_2b (by omega) (by omega) (by omega) (by omega) r_34b (ro30 hv ha)) (cwV 3 F.2.2.2.2.1 gX3_goOn_X0_fillTerms rfl rfl rfl hdX0_fillTerms ⟨Nat.le_of_ble_eq_true rfl, Nat.le_of_ble_eq_true rfl⟩) hln (by decide) rfl rfl rfl (Nat.le_of_ble_eq_true rfl) dX3_goOn_100 ⟨Nat.zero_le _, Nat.zero_le _⟩) hS (fun I_35 R_36 J_37 AI_38 AJ_39 AR_40 H locs hp_41 hH hS => ?_)
            dsimp only at hp_41
            obtain ⟨rfl, rfl, rfl, rfl, rfl, hv, q_42⟩ := hp_41
            refine lv_aload F.1 F.2.1 dX3_goOn_103 (lv_at hl 6 rfl) ?_
            refine lv_aload_n F.1 F.2.1 dX3_goOn_105 rfl (lv_at hl 2 rfl) ?_
            refine g_getR (ci := 3) (k := 0) F hH rfl (by decide) iX3 ha (by decide) rfl (b := gh 30 0) r_34a k11 dX3_goOn_106 ?_
            obtain ⟨b_43a, b_43b, b_43c, b_43d, b_43e, b_43f, b_43g, b_43h⟩ := gI_rows hv hout
            refine g_calli (g_runV (As := [.ref (gh 30 0)]) (rest := []) (ci := 4) F hl.1 hH hS hz (c_X4_find l g gh I_6 R J AI_38 AJ AR out (gh 30 0) hv hout r_34b) (cwV 1 F.2.2.2.2.1 gX3_goOn_X4_find rfl rfl rfl hdX4_find ⟨Nat.le_of_ble_eq_true rfl, Nat.le_of_ble_eq_true rfl⟩) hout (by decide) rfl rfl rfl (Nat.le_of_ble_eq_true rfl) dX3_goOn_109 ⟨Nat.zero_le _, Nat.zero_le _⟩) hS (fun v_50 I_44 R_45 J_46 AI_47 AJ_48 AR_49 H locs zv_50 hp_51 hH hS => ?_)
            dsimp only at hp_51
            obtain ⟨rfl, rfl, rfl, rfl, rfl, rfl, q_52⟩ := hp_51
            refine lv_istore (lv' := [(8, .int (iI v_50)), (7, .int (iI j)), (6, .int (iI v_5)), (0, .ref a), (1, .ref ln), (2, .int (iI ar)), (3, .ref inb), (4, .ref out), (5, .int (iI rd))]) F.1 F.2.1 dX3_goOn_112 hl (by decide) rfl (fun ls hl => ?_)
            refine lv_iload F.1 F.2.1 dX3_goOn_114 (lv_at hl 0 rfl) ?_
            refine z_if_ge (tgt := 129) F dX3_goOn_116 (by decide) zv_50 (fun c_53 => ?_) (fun c_53 => ?_)
            · refine lv_iload F.1 F.2.1 dX3_goOn_129 (lv_at hl 0 rfl) ?_
              refine z_if_ge (tgt := 152) F dX3_goOn_131 (by decide) zv_50 (fun c_54 => ?_) (fun c_54 => ?_)
              · refine z_iinc (lv' := [(7, .int (iI (j + 1))), (8, .int (iI v_50)), (6, .int (iI v_5)), (0, .ref a), (1, .ref ln), (2, .int (iI ar)), (3, .ref inb), (4, .ref out), (5, .int (iI rd))]) F dX3_goOn_152 hl (k := 1) rfl (by decide) rfl (fun ls hl => ?_)
                refine z_goto (tgt := 30) F dX3_goOn_155 (by decide) ?_
                exact ih30 (j + 1) I_6 AI_38 H locs ls ⟨by omega, by omega⟩ hv rf (by omega) (by omega) (by omega) hH hS (lv_sub hl [0, 2, 3, 4, 5, 6, 7, 8] rfl)
              · exact absurd trivial (by omega)
            · refine lv_iload F.1 F.2.1 dX3_goOn_119 (lv_at hl 8 rfl) ?_
              refine z_bipush F dX3_goOn_121 (by decide) ?_
              refine z_icmp_le (tgt := 129) F dX3_goOn_123 (by decide) zrd ⟨by decide, by decide⟩ (fun c_55 => ?_) (fun c_55 => ?_)
              · refine lv_iload F.1 F.2.1 dX3_goOn_129 (lv_at hl 0 rfl) ?_
                refine z_if_ge (tgt := 152) F dX3_goOn_131 (by decide) zv_50 (fun c_56 => ?_) (fun c_56 => ?_)
                · exact absurd trivial (by omega)
                · refine lv_aload_n F.1 F.2.1 dX3_goOn_134 rfl (lv_at hl 3 rfl) ?_
                  refine lv_aload F.1 F.2.1 dX3_goOn_135 (lv_at hl 7 rfl) ?_
                  refine z_iconst F dX3_goOn_137 ?_
                  refine lv_iload F.1 F.2.1 dX3_goOn_138 (lv_at hl 0 rfl) ?_
                  refine z_isub F dX3_goOn_140 ?_
                  refine lv_iload F.1 F.2.1 dX3_goOn_141 (lv_at hl 8 rfl) ?_
                  refine g_calli (g_runV (As := [.ref out, .int (iI ((-1) - v_50)), .int (iI rd)]) (rest := []) (ci := 3) F hl.1 hH hS hz (c_X3_arrive l g gh I_6 R J AI_38 AJ AR a out ((-1) - v_50) rd ⟨by omega, by omega⟩ zrd hv ha hout (by omega) (by omega)) (cwV 3 F.2.2.2.2.1 gX3_goOn_X3_arrive rfl rfl rfl hdX3_arrive ⟨Nat.le_of_ble_eq_true rfl, Nat.le_of_ble_eq_true rfl⟩) ha (by decide) rfl rfl rfl (Nat.le_of_ble_eq_true rfl) dX3_goOn_143 ⟨Nat.zero_le _, Nat.zero_le _⟩) hS (fun v_63 I_57 R_58 J_59 AI_60 AJ_61 AR_62 H locs zv_63 hp_64 hH hS => ?_)
                  dsimp only at hp_64
                  obtain ⟨rfl, rfl, rfl, rfl, hv, rfq, q_65⟩ := hp_64
                  have rf := rF_t rf rfq
                  have u_66 : (I_57 ln 0).toInt = (I ln 0).toInt := by rw [rf ln 0 hln (by decide)]
                  refine z_if_ne (tgt := 152) F dX3_goOn_146 (by decide) zv_63 (fun c_67 => ?_) (fun c_67 => ?_)
                  · refine z_iinc (lv' := [(7, .int (iI (j + 1))), (8, .int (iI v_50)), (6, .int (iI v_5)), (0, .ref a), (1, .ref ln), (2, .int (iI ar)), (3, .ref inb), (4, .ref out), (5, .int (iI rd))]) F dX3_goOn_152 hl (k := 1) rfl (by decide) rfl (fun ls hl => ?_)
                    refine z_goto (tgt := 30) F dX3_goOn_155 (by decide) ?_
                    exact ih30 (j + 1) I_57 AI_60 H locs ls ⟨by omega, by omega⟩ hv rf (by omega) (by omega) (by omega) hH hS (lv_sub hl [0, 2, 3, 4, 5, 6, 7, 8] rfl)
                  · refine z_bipush F dX3_goOn_149 (by decide) ?_
                    exact g_iret F hr hlk hH hS hz ⟨by decide, by decide⟩ ⟨rfl, rfl, rfl, rfl, hv, rf, by first | omega | rfl | (dsimp only; omega)⟩ dX3_goOn_151
              · refine z_bipush F dX3_goOn_126 (by decide) ?_
                exact g_iret F hr hlk hH hS hz ⟨by decide, by decide⟩ ⟨rfl, rfl, rfl, rfl, hv, rf, by first | omega | rfl | (dsimp only; omega)⟩ dX3_goOn_128
          · refine z_goto (tgt := 152) F dX3_goOn_63 (by decide) ?_
            refine z_iinc (lv' := [(7, .int (iI (j + 1))), (6, .int (iI v_5)), (0, .ref a), (1, .ref ln), (2, .int (iI ar)), (3, .ref inb), (4, .ref out), (5, .int (iI rd))]) F dX3_goOn_152 hl (k := 0) rfl (by decide) rfl (fun ls hl => ?_)
            refine z_goto (tgt := 30) F dX3_goOn_155 (by decide) ?_
            exact ih30 (j + 1) I_6 AI_7 H locs ls ⟨by omega, by omega⟩ hv rf (by omega) (by omega) (by omega) hH hS (lv_sub hl [0, 1, 2, 3, 4, 5, 6, 7] rfl)
  exact cut_30_7 (((240 - 0) + 1 : Int).toNat) 0 I AI_3 H locs ls ⟨by decide, by decide⟩ hv rf (by omega) (by omega) (by omega) hH hS (lv_sub hl [0, 1, 2, 3, 4, 5, 6, 7] rfl)

def rmX3_ring : Room := { frames := 4, cells := 0, slots := 0, locals := 136 }
theorem hdX3_ring : yX3_ring.cls = RX3 ∧ yX3_ring.cls ≠ "java/lang/invoke/MethodHandle" ∧ yX3_ring.cls ≠ "java/lang/invoke/VarHandle" ∧ (parseMethodDescriptor yX3_ring.desc).map (fun d => d.parameters.length) = some 4 := by decide +kernel
set_option maxHeartbeats 4000000 in
set_option maxRecDepth 100000 in
/-- a ring -/
theorem c_X3_ring (l : Launch) (g : gG) (gh : gGh) (I : gI) (R : gR) (J : gJ) (AI : gI) (AJ : gJ) (AR : gR) (a : Nat) (ln : Nat) (inr : Nat) (inb : Nat) (out : Nat) (hv : gInv g gh R AR I AI) (ha : gO g a 3) (hln : gO g ln 0) (hin : gO g inr 4) (hinb : gO g inb 4) (hout : gO g out 4) (h4 : gh 2 out = 4) (hkd : (I ln 0).toInt = 8 ∨ (I ln 0).toInt = 0) (hlm : gh 1 out = 120) : gMet l g yX3_ring wsX3_ring rmX3_ring [.ref a, .ref ln, .ref inr, .ref inb, .ref out] (I, R, J, AI, AJ, AR) (gQi g (fun (z : Int) (w : gS) => R = w.2.1 ∧ J = w.2.2.1 ∧ AJ = w.2.2.2.2.1 ∧ AR = w.2.2.2.2.2 ∧ (gInv g gh R AR (w.1) (w.2.2.2.1)) ∧ (rF g I (w.1)) ∧ (-4 ≤ z ∧ z ≤ 0))) := by
  refine gStart (cc := cX3_ring) (maxL := 10) (ret := (some (.int))) (by decide) rfl (Nat.le_of_ble_eq_true rfl) ?_
  intro p e s m below meth c ls F hr hlk hH hz hS hl
  have hl : lv_has ls 10 [(0, .ref a), (1, .ref ln), (2, .ref inr), (3, .ref inb), (4, .ref out)] := hl
  have hS : va_S (gA g) s.heap s.heap [] := hS
  obtain ⟨H, hHe⟩ : ∃ H : Heap, H = s.heap := ⟨_, rfl⟩
  obtain ⟨locs, hlo⟩ : ∃ k : List Loc, k = [] := ⟨_, rfl⟩
  have hH : gH g I R J AI AJ AR H := by rw [hHe]; exact hH
  have hS : va_S (gA g) s.heap H locs := by rw [hHe, hlo]; exact hS
  suffices hw : W p l e rmX3_ring s m ([.ref a, .ref ln, .ref inr, .ref inb, .ref out] : List Value).toArray below meth c H locs 0 0 (MQ below (gQi g (fun (z : Int) (w : gS) => R = w.2.1 ∧ J = w.2.2.1 ∧ AJ = w.2.2.2.2.1 ∧ AR = w.2.2.2.2.2 ∧ (gInv g gh R AR (w.1) (w.2.2.2.1)) ∧ (rF g I (w.1)) ∧ (-4 ≤ z ∧ z ≤ 0))) ([.ref a, .ref ln, .ref inr, .ref inb, .ref out] : List Value).toArray s 0 0 (gA g)) (F0 m 0 ls []) by
    rw [hHe, hlo] at hw; exact hw
  clear hHe hlo
  have rf : rF g I I := rF_r
  have iX4 : ∀ w ∈ u_ws RX4 TX4 4, w ∈ wsX3_ring := (by decide +kernel)
  have iX3 : ∀ w ∈ u_ws RX3 TX3 3, w ∈ wsX3_ring := (by decide +kernel)
  have k23 : Cond.fieldLink RX3 23 (TX4 3).1 (TX4 3).2.1 (TX4 3).2.2.1 ∈ wsX3_ring := List.mem_of_getElem? (i := 1) rfl
  have k11 : Cond.fieldLink RX3 11 (TX3 0).1 (TX3 0).2.1 (TX3 0).2.2.1 ∈ wsX3_ring := List.mem_of_getElem? (i := 2) rfl
  refine lv_aload_n F.1 F.2.1 dX3_ring_0 rfl (lv_at hl 0 rfl) ?_
  refine g_callv (g_runV (As := []) (rest := []) (ci := 3) F hl.1 hH hS hz (c_X3_clearKey l g gh I R J AI AJ AR a hv ha) (cwV 0 F.2.2.2.2.1 gX3_ring_X3_clearKey rfl rfl rfl hdX3_clearKey ⟨Nat.le_of_ble_eq_true rfl, Nat.le_of_ble_eq_true rfl⟩) ha (by decide) rfl rfl rfl (Nat.le_of_ble_eq_true rfl) dX3_ring_1 ⟨Nat.zero_le _, Nat.zero_le _⟩) hS (fun I_1 R_2 J_3 AI_4 AJ_5 AR_6 H locs hp_7 hH hS => ?_)
  dsimp only at hp_7
  obtain ⟨rfl, rfl, rfl, rfl, rfl, hv⟩ := hp_7
  refine z_iconst F dX3_ring_4 ?_
  refine lv_istore (lv' := [(5, .int (iI 0)), (0, .ref a), (1, .ref ln), (2, .ref inr), (3, .ref inb), (4, .ref out)]) F.1 F.2.1 dX3_ring_5 hl (by decide) rfl (fun ls hl => ?_)
  have cut_7_9 : ∀ (NN : Nat) (i : Int) (I_8 : gI) (AI_9 : gI) (H : Heap) (locs : List Loc) (ls : Array Slot), zr i → (gInv g gh R AR I_8 AI_9) → (rF g I I_8) → ((I_8 ln 0).toInt = 8 ∨ (I_8 ln 0).toInt = 0) → (0 ≤ i ∧ i ≤ 240) → (240 - i) < ((NN : Nat) : Int) → gH g I_8 R J AI_9 AJ AR H → va_S (gA g) s.heap H locs → lv_has ls 10 [(5, .int (iI i)), (0, .ref a), (1, .ref ln), (2, .ref inr), (3, .ref inb), (4, .ref out)] → W p l e rmX3_ring s m ([.ref a, .ref ln, .ref inr, .ref inb, .ref out] : List Value).toArray below meth c H locs 0 0 (MQ below (gQi g (fun (z : Int) (w : gS) => R = w.2.1 ∧ J = w.2.2.1 ∧ AJ = w.2.2.2.2.1 ∧ AR = w.2.2.2.2.2 ∧ (gInv g gh R AR (w.1) (w.2.2.2.1)) ∧ (rF g I (w.1)) ∧ (-4 ≤ z ∧ z ≤ 0))) ([.ref a, .ref ln, .ref inr, .ref inb, .ref out] : List Value).toArray s 0 0 (gA g)) (F0 m 7 ls []) := by
    intro NN7
    induction NN7 with
    | zero =>
      intro i I_8 AI_9 H locs ls zi hv rf hkd hi hm7 hH hS hl
      exact absurd hm7 (by omega)
    | succ NN7 ih7 =>
      intro i I_8 AI_9 H locs ls zi hv rf hkd hi hm7 hH hS hl
      refine lv_iload F.1 F.2.1 dX3_ring_7 (lv_at hl 0 rfl) ?_
      refine lv_aload_n F.1 F.2.1 dX3_ring_9 rfl (lv_at hl 3 rfl) ?_
      refine g_getI (ci := 4) (k := 3) F hH rfl (by decide) iX4 hin (by decide) rfl k23 dX3_ring_10 ?_
      obtain ⟨b_11a, b_11b, b_11c, b_11d, b_11e, b_11f, b_11g, b_11h⟩ := gI_rows hv hin
      refine z_icmp_ge (tgt := 60) F dX3_ring_13 (by decide) zi (zr_t _) (fun c_12 => ?_) (fun c_12 => ?_)
      · refine z_iconst F dX3_ring_60 ?_
        refine lv_istore (lv' := [(5, .int (iI 0)), (0, .ref a), (1, .ref ln), (2, .ref inr), (3, .ref inb), (4, .ref out)]) F.1 F.2.1 dX3_ring_61 hl (by decide) rfl (fun ls hl => ?_)
        refine z_iconst F dX3_ring_63 ?_
        refine lv_istore (lv' := [(6, .int (iI 1)), (5, .int (iI 0)), (0, .ref a), (1, .ref ln), (2, .ref inr), (3, .ref inb), (4, .ref out)]) F.1 F.2.1 dX3_ring_64 hl (by decide) rfl (fun ls hl => ?_)
        have cut_66_14 : ∀ (NN : Nat) (fr rd : Int) (I_13 : gI) (AI_14 : gI) (H : Heap) (locs : List Loc) (ls : Array Slot), zr fr → zr rd → (gInv g gh R AR I_13 AI_14) → (rF g I I_13) → ((I_13 ln 0).toInt = 8 ∨ (I_13 ln 0).toInt = 0) → (0 ≤ fr ∧ fr ≤ 120) → (1 ≤ rd ∧ rd ≤ 42) → (42 - rd) < ((NN : Nat) : Int) → gH g I_13 R J AI_14 AJ AR H → va_S (gA g) s.heap H locs → lv_has ls 10 [(6, .int (iI rd)), (5, .int (iI fr)), (0, .ref a), (1, .ref ln), (2, .ref inr), (3, .ref inb), (4, .ref out)] → W p l e rmX3_ring s m ([.ref a, .ref ln, .ref inr, .ref inb, .ref out] : List Value).toArray below meth c H locs 0 0 (MQ below (gQi g (fun (z : Int) (w : gS) => R = w.2.1 ∧ J = w.2.2.1 ∧ AJ = w.2.2.2.2.1 ∧ AR = w.2.2.2.2.2 ∧ (gInv g gh R AR (w.1) (w.2.2.2.1)) ∧ (rF g I (w.1)) ∧ (-4 ≤ z ∧ z ≤ 0))) ([.ref a, .ref ln, .ref inr, .ref inb, .ref out] : List Value).toArray s 0 0 (gA g)) (F0 m 66 ls []) := by
          intro NN66
          induction NN66 with
          | zero =>
            intro fr rd I_13 AI_14 H locs ls zfr zrd hv rf hkd hfr hrd hm66 hH hS hl
            exact absurd hm66 (by omega)
          | succ NN66 ih66 =>
            intro fr rd I_13 AI_14 H locs ls zfr zrd hv rf hkd hfr hrd hm66 hH hS hl
            refine lv_iload F.1 F.2.1 dX3_ring_66 (lv_at hl 0 rfl) ?_
            refine z_bipush F dX3_ring_68 (by decide) ?_
            refine z_icmp_gt (tgt := 139) F dX3_ring_70 (by decide) zrd ⟨by decide, by decide⟩ (fun c_16 => ?_) (fun c_16 => ?_)
            · refine z_iconst F dX3_ring_139 ?_
              exact g_iret F hr hlk hH hS hz ⟨by decide, by decide⟩ ⟨rfl, rfl, rfl, rfl, hv, rf, by first | omega | rfl | (dsimp only; omega)⟩ dX3_ring_140
            · refine lv_iload F.1 F.2.1 dX3_ring_73 (lv_at hl 1 rfl) ?_
              refine lv_aload F.1 F.2.1 dX3_ring_75 (lv_at hl 6 rfl) ?_
              refine g_getI (ci := 4) (k := 3) F hH rfl (by decide) iX4 hout (by decide) rfl k23 dX3_ring_77 ?_
              obtain ⟨b_17a, b_17b, b_17c, b_17d, b_17e, b_17f, b_17g, b_17h⟩ := gI_rows hv hout
              refine z_icmp_ge (tgt := 139) F dX3_ring_80 (by decide) zfr (zr_t _) (fun c_18 => ?_) (fun c_18 => ?_)
              · refine z_iconst F dX3_ring_139 ?_
                exact g_iret F hr hlk hH hS hz ⟨by decide, by decide⟩ ⟨rfl, rfl, rfl, rfl, hv, rf, by first | omega | rfl | (dsimp only; omega)⟩ dX3_ring_140
              · refine lv_aload F.1 F.2.1 dX3_ring_83 (lv_at hl 6 rfl) ?_
                refine g_getI (ci := 4) (k := 3) F hH rfl (by decide) iX4 hout (by decide) rfl k23 dX3_ring_85 ?_
                refine lv_istore (lv' := [(7, .int (iI ((I_13 out 3).toInt))), (6, .int (iI rd)), (5, .int (iI fr)), (0, .ref a), (1, .ref ln), (2, .ref inr), (3, .ref inb), (4, .ref out)]) F.1 F.2.1 dX3_ring_88 hl (by decide) rfl (fun ls hl => ?_)
                refine lv_iload F.1 F.2.1 dX3_ring_90 (lv_at hl 2 rfl) ?_
                refine lv_istore (lv' := [(8, .int (iI fr)), (7, .int (iI ((I_13 out 3).toInt))), (6, .int (iI rd)), (5, .int (iI fr)), (0, .ref a), (1, .ref ln), (2, .ref inr), (3, .ref inb), (4, .ref out)]) F.1 F.2.1 dX3_ring_92 hl (by decide) rfl (fun ls hl => ?_)
                have cut_94_20 : ∀ (NN : Nat) (k : Int) (I_19 : gI) (AI_20 : gI) (H : Heap) (locs : List Loc) (ls : Array Slot), zr k → (gInv g gh R AR I_19 AI_20) → (rF g I I_19) → ((I_19 ln 0).toInt = 8 ∨ (I_19 ln 0).toInt = 0) → (0 ≤ k ∧ k ≤ 120) → (120 - k) < ((NN : Nat) : Int) → gH g I_19 R J AI_20 AJ AR H → va_S (gA g) s.heap H locs → lv_has ls 10 [(8, .int (iI k)), (7, .int (iI ((I_13 out 3).toInt))), (6, .int (iI rd)), (5, .int (iI fr)), (0, .ref a), (1, .ref ln), (2, .ref inr), (3, .ref inb), (4, .ref out)] → W p l e rmX3_ring s m ([.ref a, .ref ln, .ref inr, .ref inb, .ref out] : List Value).toArray below meth c H locs 0 0 (MQ below (gQi g (fun (z : Int) (w : gS) => R = w.2.1 ∧ J = w.2.2.1 ∧ AJ = w.2.2.2.2.1 ∧ AR = w.2.2.2.2.2 ∧ (gInv g gh R AR (w.1) (w.2.2.2.1)) ∧ (rF g I (w.1)) ∧ (-4 ≤ z ∧ z ≤ 0))) ([.ref a, .ref ln, .ref inr, .ref inb, .ref out] : List Value).toArray s 0 0 (gA g)) (F0 m 94 ls []) := by
                  intro NN94
                  induction NN94 with
                  | zero =>
                    intro k I_19 AI_20 H locs ls zk hv rf hkd hk hm94 hH hS hl
                    exact absurd hm94 (by omega)
                  | succ NN94 ih94 =>
                    intro k I_19 AI_20 H locs ls zk hv rf hkd hk hm94 hH hS hl
                    refine lv_iload F.1 F.2.1 dX3_ring_94 (lv_at hl 0 rfl) ?_
                    refine lv_iload F.1 F.2.1 dX3_ring_96 (lv_at hl 1 rfl) ?_
                    refine z_icmp_ge (tgt := 129) F dX3_ring_98 (by decide) zk (zr_t _) (fun c_22 => ?_) (fun c_22 => ?_)
                    · refine lv_iload F.1 F.2.1 dX3_ring_129 (lv_at hl 1 rfl) ?_
                      refine lv_istore (lv' := [(5, .int (iI ((I_13 out 3).toInt))), (8, .int (iI k)), (7, .int (iI ((I_13 out 3).toInt))), (6, .int (iI rd)), (0, .ref a), (1, .ref ln), (2, .ref inr), (3, .ref inb), (4, .ref out)]) F.1 F.2.1 dX3_ring_131 hl (by decide) rfl (fun ls hl => ?_)
                      refine z_iinc (lv' := [(6, .int (iI (rd + 1))), (5, .int (iI ((I_13 out 3).toInt))), (8, .int (iI k)), (7, .int (iI ((I_13 out 3).toInt))), (0, .ref a), (1, .ref ln), (2, .ref inr), (3, .ref inb), (4, .ref out)]) F dX3_ring_133 hl (k := 3) rfl (by decide) rfl (fun ls hl => ?_)
                      refine z_goto (tgt := 66) F dX3_ring_136 (by decide) ?_
                      exact ih66 ((I_13 out 3).toInt) (rd + 1) I_19 AI_20 H locs ls (zr_t _) ⟨by omega, by omega⟩ hv rf (by omega) (by omega) (by omega) (by omega) hH hS (lv_sub hl [0, 1, 4, 5, 6, 7, 8] rfl)
                    · refine lv_aload_n F.1 F.2.1 dX3_ring_101 rfl (lv_at hl 4 rfl) ?_
                      refine lv_aload_n F.1 F.2.1 dX3_ring_102 rfl (lv_at hl 5 rfl) ?_
                      refine lv_iload F.1 F.2.1 dX3_ring_103 (lv_at hl 0 rfl) ?_
                      refine lv_aload_n F.1 F.2.1 dX3_ring_105 rfl (lv_at hl 7 rfl) ?_
                      refine lv_aload F.1 F.2.1 dX3_ring_106 (lv_at hl 8 rfl) ?_
                      refine lv_iload F.1 F.2.1 dX3_ring_108 (lv_at hl 2 rfl) ?_
                      have b_23 := gI_line hv hln
                      unfold vLineI at b_23
                      obtain ⟨b_24a, b_24b, b_24c, b_24d, b_24e, b_24f, b_24g, b_24h⟩ := gI_rows hv hinb
                      obtain ⟨b_25a, b_25b, b_25c, b_25d, b_25e, b_25f, b_25g, b_25h⟩ := gI_rows hv hout
                      refine g_calli (g_runV (As := [.ref ln, .int (iI k), .ref inb, .ref out, .int (iI rd)]) (rest := []) (ci := 3) F hl.1 hH hS hz (c_X3_goOn l g gh I_19 R J AI_20 AJ AR a ln k inb out rd zk zrd hv ha hln hinb hout (by omega) (by omega) (by omega) (by omega)) (cwV 5 F.2.2.2.2.1 gX3_ring_X3_goOn rfl rfl rfl hdX3_goOn ⟨Nat.le_of_ble_eq_true rfl, Nat.le_of_ble_eq_true rfl⟩) ha (by decide) rfl rfl rfl (Nat.le_of_ble_eq_true rfl) dX3_ring_110 ⟨Nat.zero_le _, Nat.zero_le _⟩) hS (fun v_32 I_26 R_27 J_28 AI_29 AJ_30 AR_31 H locs zv_32 hp_33 hH hS => ?_)
                      dsimp only at hp_33
                      obtain ⟨rfl, rfl, rfl, rfl, hv, rfq, q_34⟩ := hp_33
                      have rf := rF_t rf rfq
                      have u_35 : (I_26 ln 0).toInt = (I ln 0).toInt := by rw [rf ln 0 hln (by decide)]
                      refine lv_istore (lv' := [(9, .int (iI v_32)), (8, .int (iI k)), (7, .int (iI ((I_13 out 3).toInt))), (6, .int (iI rd)), (5, .int (iI fr)), (0, .ref a), (1, .ref ln), (2, .ref inr), (3, .ref inb), (4, .ref out)]) F.1 F.2.1 dX3_ring_113 hl (by decide) rfl (fun ls hl => ?_)
                      refine lv_iload F.1 F.2.1 dX3_ring_115 (lv_at hl 0 rfl) ?_
                      refine z_if_eq (tgt := 123) F dX3_ring_117 (by decide) zv_32 (fun c_36 => ?_) (fun c_36 => ?_)
                      · refine z_iinc (lv' := [(8, .int (iI (k + 1))), (9, .int (iI v_32)), (7, .int (iI ((I_13 out 3).toInt))), (6, .int (iI rd)), (5, .int (iI fr)), (0, .ref a), (1, .ref ln), (2, .ref inr), (3, .ref inb), (4, .ref out)]) F dX3_ring_123 hl (k := 1) rfl (by decide) rfl (fun ls hl => ?_)
                        refine z_goto (tgt := 94) F dX3_ring_126 (by decide) ?_
                        exact ih94 (k + 1) I_26 AI_29 H locs ls ⟨by omega, by omega⟩ hv rf (by omega) (by omega) (by omega) hH hS (lv_sub hl [0, 2, 3, 4, 5, 6, 7, 8, 9] rfl)
                      · refine lv_iload F.1 F.2.1 dX3_ring_120 (lv_at hl 0 rfl) ?_
                        exact g_iret F hr hlk hH hS hz zv_32 ⟨rfl, rfl, rfl, rfl, hv, rf, by first | omega | rfl | (dsimp only; omega)⟩ dX3_ring_122
                exact cut_94_20 (((120 - fr) + 1 : Int).toNat) fr I_13 AI_14 H locs ls zfr hv rf (by omega) (by omega) (by omega) hH hS (lv_sub hl [0, 1, 2, 3, 4, 5, 6, 7, 8] rfl)
        exact cut_66_14 (((42 - 1) + 1 : Int).toNat) 0 1 I_8 AI_9 H locs ls ⟨by decide, by decide⟩ ⟨by decide, by decide⟩ hv rf (by omega) (by omega) (by omega) (by omega) hH hS (lv_sub hl [0, 1, 2, 3, 4, 5, 6] rfl)
      · refine lv_aload_n F.1 F.2.1 dX3_ring_16 rfl (lv_at hl 3 rfl) ?_
        refine lv_iload F.1 F.2.1 dX3_ring_17 (lv_at hl 0 rfl) ?_
        refine g_calli (g_runV (As := [.int (iI i)]) (rest := []) (ci := 4) F hl.1 hH hS hz (c_X4_amount l g gh I_8 R J AI_9 AJ AR inr i zi hv hin (by omega) (by omega)) (cwV 1 F.2.2.2.2.1 gX3_ring_X4_amount rfl rfl rfl hdX4_amount ⟨Nat.le_of_ble_eq_true rfl, Nat.le_of_ble_eq_true rfl⟩) hin (by decide) rfl rfl rfl (Nat.le_of_ble_eq_true rfl) dX3_ring_19 ⟨Nat.zero_le _, Nat.zero_le _⟩) hS (fun v_43 I_37 R_38 J_39 AI_40 AJ_41 AR_42 H locs zv_43 hp_44 hH hS => ?_)
        dsimp only at hp_44
        obtain ⟨rfl, rfl, rfl, rfl, rfl, rfl, q_45⟩ := hp_44
        refine z_if_le (tgt := 54) F dX3_ring_22 (by decide) zv_43 (fun c_46 => ?_) (fun c_46 => ?_)
        · refine z_iinc (lv' := [(5, .int (iI (i + 1))), (0, .ref a), (1, .ref ln), (2, .ref inr), (3, .ref inb), (4, .ref out)]) F dX3_ring_54 hl (k := 0) rfl (by decide) rfl (fun ls hl => ?_)
          refine z_goto (tgt := 7) F dX3_ring_57 (by decide) ?_
          exact ih7 (i + 1) I_8 AI_9 H locs ls ⟨by omega, by omega⟩ hv rf (by omega) (by omega) (by omega) hH hS (lv_sub hl [0, 1, 2, 3, 4, 5] rfl)
        · refine lv_aload_n F.1 F.2.1 dX3_ring_25 rfl (lv_at hl 3 rfl) ?_
          refine lv_iload F.1 F.2.1 dX3_ring_26 (lv_at hl 0 rfl) ?_
          refine z_iconst F dX3_ring_28 ?_
          refine lv_aload_n F.1 F.2.1 dX3_ring_29 rfl (lv_at hl 1 rfl) ?_
          obtain ⟨r_47a, r_47b⟩ := gR_rk0 hv ha
          refine g_getR (ci := 3) (k := 0) F hH rfl (by decide) iX3 ha (by decide) rfl (b := gh 30 0) r_47a k11 dX3_ring_30 ?_
          refine g_callv (g_runV (As := [.int (iI i), .int (iI 0), .ref (gh 30 0)]) (rest := []) (ci := 4) F hl.1 hH hS hz (c_X4_copyKey l g gh I_8 R J AI_9 AJ AR inr i 0 (gh 30 0) zi ⟨by decide, by decide⟩ hv hin (by omega) (by omega) r_47b (ro30 hv ha) (by omega) (by omega)) (cwV 3 F.2.2.2.2.1 gX3_ring_X4_copyKey rfl rfl rfl hdX4_copyKey ⟨Nat.le_of_ble_eq_true rfl, Nat.le_of_ble_eq_true rfl⟩) hin (by decide) rfl rfl rfl (Nat.le_of_ble_eq_true rfl) dX3_ring_33 ⟨Nat.zero_le _, Nat.zero_le _⟩) hS (fun I_48 R_49 J_50 AI_51 AJ_52 AR_53 H locs hp_54 hH hS => ?_)
          dsimp only at hp_54
          obtain ⟨rfl, rfl, rfl, rfl, rfl, q_55, hv⟩ := hp_54
          refine lv_aload_n F.1 F.2.1 dX3_ring_36 rfl (lv_at hl 1 rfl) ?_
          refine lv_aload F.1 F.2.1 dX3_ring_37 (lv_at hl 5 rfl) ?_
          refine lv_aload F.1 F.2.1 dX3_ring_39 (lv_at hl 5 rfl) ?_
          refine g_getI (ci := 4) (k := 3) F hH rfl (by decide) iX4 hout (by decide) rfl k23 dX3_ring_41 ?_
          obtain ⟨b_56a, b_56b, b_56c, b_56d, b_56e, b_56f, b_56g, b_56h⟩ := gI_rows hv hout
          refine z_iconst F dX3_ring_44 ?_
          refine g_calli (g_runV (As := [.ref out, .int (iI ((I_8 out 3).toInt)), .int (iI 0)]) (rest := []) (ci := 3) F hl.1 hH hS hz (c_X3_arrive l g gh I_8 R J AI_51 AJ AR a out ((I_8 out 3).toInt) 0 (zr_t _) ⟨by decide, by decide⟩ hv ha hout (by omega) (by omega)) (cwV 3 F.2.2.2.2.1 gX3_ring_X3_arrive rfl rfl rfl hdX3_arrive ⟨Nat.le_of_ble_eq_true rfl, Nat.le_of_ble_eq_true rfl⟩) ha (by decide) rfl rfl rfl (Nat.le_of_ble_eq_true rfl) dX3_ring_45 ⟨Nat.zero_le _, Nat.zero_le _⟩) hS (fun v_63 I_57 R_58 J_59 AI_60 AJ_61 AR_62 H locs zv_63 hp_64 hH hS => ?_)
          dsimp only at hp_64
          obtain ⟨rfl, rfl, rfl, rfl, hv, rfq, q_65⟩ := hp_64
          have rf := rF_t rf rfq
          have u_66 : (I_57 ln 0).toInt = (I ln 0).toInt := by rw [rf ln 0 hln (by decide)]
          refine z_if_ne (tgt := 54) F dX3_ring_48 (by decide) zv_63 (fun c_67 => ?_) (fun c_67 => ?_)
          · refine z_iinc (lv' := [(5, .int (iI (i + 1))), (0, .ref a), (1, .ref ln), (2, .ref inr), (3, .ref inb), (4, .ref out)]) F dX3_ring_54 hl (k := 0) rfl (by decide) rfl (fun ls hl => ?_)
            refine z_goto (tgt := 7) F dX3_ring_57 (by decide) ?_
            exact ih7 (i + 1) I_57 AI_60 H locs ls ⟨by omega, by omega⟩ hv rf (by omega) (by omega) (by omega) hH hS (lv_sub hl [0, 1, 2, 3, 4, 5] rfl)
          · refine z_bipush F dX3_ring_51 (by decide) ?_
            exact g_iret F hr hlk hH hS hz ⟨by decide, by decide⟩ ⟨rfl, rfl, rfl, rfl, hv, rf, by first | omega | rfl | (dsimp only; omega)⟩ dX3_ring_53
  exact cut_7_9 (((240 - 0) + 1 : Int).toNat) 0 I AI_4 H locs ls ⟨by decide, by decide⟩ hv rf (by omega) (by omega) (by omega) hH hS (lv_sub hl [0, 1, 2, 3, 4, 5] rfl)

def rmX3_group : Room := { frames := 2, cells := 0, slots := 0, locals := 84 }
theorem hdX3_group : yX3_group.cls = RX3 ∧ yX3_group.cls ≠ "java/lang/invoke/MethodHandle" ∧ yX3_group.cls ≠ "java/lang/invoke/VarHandle" ∧ (parseMethodDescriptor yX3_group.desc).map (fun d => d.parameters.length) = some 3 := by decide +kernel
set_option maxHeartbeats 4000000 in
set_option maxRecDepth 100000 in
/-- a group -/
theorem c_X3_group (l : Launch) (g : gG) (gh : gGh) (I : gI) (R : gR) (J : gJ) (AI : gI) (AJ : gJ) (AR : gR) (a : Nat) (ln : Nat) (inr : Nat) (out : Nat) (hv : gInv g gh R AR I AI) (ha : gO g a 3) (hln : gO g ln 0) (hin : gO g inr 4) (hout : gO g out 4) (h4 : gh 2 out = 4) (hkd : (I ln 0).toInt = 7) : gMet l g yX3_group wsX3_group rmX3_group [.ref a, .ref ln, .ref inr, .ref out] (I, R, J, AI, AJ, AR) (gQi g (fun (z : Int) (w : gS) => R = w.2.1 ∧ J = w.2.2.1 ∧ AJ = w.2.2.2.2.1 ∧ AR = w.2.2.2.2.2 ∧ (gInv g gh R AR (w.1) (w.2.2.2.1)) ∧ (rF g I (w.1)) ∧ (-4 ≤ z ∧ z ≤ 0))) := by
  refine gStart (cc := cX3_group) (maxL := 6) (ret := (some (.int))) (by decide) rfl (Nat.le_of_ble_eq_true rfl) ?_
  intro p e s m below meth c ls F hr hlk hH hz hS hl
  have hl : lv_has ls 6 [(0, .ref a), (1, .ref ln), (2, .ref inr), (3, .ref out)] := hl
  have hS : va_S (gA g) s.heap s.heap [] := hS
  obtain ⟨H, hHe⟩ : ∃ H : Heap, H = s.heap := ⟨_, rfl⟩
  obtain ⟨locs, hlo⟩ : ∃ k : List Loc, k = [] := ⟨_, rfl⟩
  have hH : gH g I R J AI AJ AR H := by rw [hHe]; exact hH
  have hS : va_S (gA g) s.heap H locs := by rw [hHe, hlo]; exact hS
  suffices hw : W p l e rmX3_group s m ([.ref a, .ref ln, .ref inr, .ref out] : List Value).toArray below meth c H locs 0 0 (MQ below (gQi g (fun (z : Int) (w : gS) => R = w.2.1 ∧ J = w.2.2.1 ∧ AJ = w.2.2.2.2.1 ∧ AR = w.2.2.2.2.2 ∧ (gInv g gh R AR (w.1) (w.2.2.2.1)) ∧ (rF g I (w.1)) ∧ (-4 ≤ z ∧ z ≤ 0))) ([.ref a, .ref ln, .ref inr, .ref out] : List Value).toArray s 0 0 (gA g)) (F0 m 0 ls []) by
    rw [hHe, hlo] at hw; exact hw
  clear hHe hlo
  have rf : rF g I I := rF_r
  have iX4 : ∀ w ∈ u_ws RX4 TX4 4, w ∈ wsX3_group := (by decide +kernel)
  have iX3 : ∀ w ∈ u_ws RX3 TX3 3, w ∈ wsX3_group := (by decide +kernel)
  have iX0 : ∀ w ∈ u_ws RX0 TX0 15, w ∈ wsX3_group := (by decide +kernel)
  have k23 : Cond.fieldLink RX3 23 (TX4 3).1 (TX4 3).2.1 (TX4 3).2.2.1 ∈ wsX3_group := List.mem_of_getElem? (i := 1) rfl
  have k110 : Cond.fieldLink RX3 110 (TX0 8).1 (TX0 8).2.1 (TX0 8).2.2.1 ∈ wsX3_group := List.mem_of_getElem? (i := 2) rfl
  have k11 : Cond.fieldLink RX3 11 (TX3 0).1 (TX3 0).2.1 (TX3 0).2.2.1 ∈ wsX3_group := List.mem_of_getElem? (i := 3) rfl
  have k113 : Cond.fieldLink RX3 113 (TX0 7).1 (TX0 7).2.1 (TX0 7).2.2.1 ∈ wsX3_group := List.mem_of_getElem? (i := 4) rfl
  have k124 : Cond.fieldLink RX3 124 (TX0 11).1 (TX0 11).2.1 (TX0 11).2.2.1 ∈ wsX3_group := List.mem_of_getElem? (i := 5) rfl
  have k127 : Cond.fieldLink RX3 127 (TX0 12).1 (TX0 12).2.1 (TX0 12).2.2.1 ∈ wsX3_group := List.mem_of_getElem? (i := 6) rfl
  refine lv_aload_n F.1 F.2.1 dX3_group_0 rfl (lv_at hl 0 rfl) ?_
  refine g_callv (g_runV (As := []) (rest := []) (ci := 3) F hl.1 hH hS hz (c_X3_clearKey l g gh I R J AI AJ AR a hv ha) (cwV 0 F.2.2.2.2.1 gX3_group_X3_clearKey rfl rfl rfl hdX3_clearKey ⟨Nat.le_of_ble_eq_true rfl, Nat.le_of_ble_eq_true rfl⟩) ha (by decide) rfl rfl rfl (Nat.le_of_ble_eq_true rfl) dX3_group_1 ⟨Nat.zero_le _, Nat.zero_le _⟩) hS (fun I_1 R_2 J_3 AI_4 AJ_5 AR_6 H locs hp_7 hH hS => ?_)
  dsimp only at hp_7
  obtain ⟨rfl, rfl, rfl, rfl, rfl, hv⟩ := hp_7
  refine z_iconst F dX3_group_4 ?_
  refine lv_istore (lv' := [(4, .int (iI 0)), (0, .ref a), (1, .ref ln), (2, .ref inr), (3, .ref out)]) F.1 F.2.1 dX3_group_5 hl (by decide) rfl (fun ls hl => ?_)
  have cut_7_9 : ∀ (NN : Nat) (i : Int) (I_8 : gI) (AI_9 : gI) (H : Heap) (locs : List Loc) (ls : Array Slot), zr i → (gInv g gh R AR I_8 AI_9) → (rF g I I_8) → ((I_8 ln 0).toInt = 7) → (0 ≤ i ∧ i ≤ 240) → (240 - i) < ((NN : Nat) : Int) → gH g I_8 R J AI_9 AJ AR H → va_S (gA g) s.heap H locs → lv_has ls 6 [(4, .int (iI i)), (0, .ref a), (1, .ref ln), (2, .ref inr), (3, .ref out)] → W p l e rmX3_group s m ([.ref a, .ref ln, .ref inr, .ref out] : List Value).toArray below meth c H locs 0 0 (MQ below (gQi g (fun (z : Int) (w : gS) => R = w.2.1 ∧ J = w.2.2.1 ∧ AJ = w.2.2.2.2.1 ∧ AR = w.2.2.2.2.2 ∧ (gInv g gh R AR (w.1) (w.2.2.2.1)) ∧ (rF g I (w.1)) ∧ (-4 ≤ z ∧ z ≤ 0))) ([.ref a, .ref ln, .ref inr, .ref out] : List Value).toArray s 0 0 (gA g)) (F0 m 7 ls []) := by
    intro NN7
    induction NN7 with
    | zero =>
      intro i I_8 AI_9 H locs ls zi hv rf hkd hi hm7 hH hS hl
      exact absurd hm7 (by omega)
    | succ NN7 ih7 =>
      intro i I_8 AI_9 H locs ls zi hv rf hkd hi hm7 hH hS hl
      refine lv_iload F.1 F.2.1 dX3_group_7 (lv_at hl 0 rfl) ?_
      refine lv_aload_n F.1 F.2.1 dX3_group_9 rfl (lv_at hl 3 rfl) ?_
      refine g_getI (ci := 4) (k := 3) F hH rfl (by decide) iX4 hin (by decide) rfl k23 dX3_group_10 ?_
      obtain ⟨b_11a, b_11b, b_11c, b_11d, b_11e, b_11f, b_11g, b_11h⟩ := gI_rows hv hin
      refine z_icmp_ge (tgt := 124) F dX3_group_13 (by decide) zi (zr_t _) (fun c_12 => ?_) (fun c_12 => ?_)
      · refine z_iconst F dX3_group_124 ?_
        refine lv_istore (lv' := [(4, .int (iI 0)), (0, .ref a), (1, .ref ln), (2, .ref inr), (3, .ref out)]) F.1 F.2.1 dX3_group_125 hl (by decide) rfl (fun ls hl => ?_)
        have cut_127_14 : ∀ (NN : Nat) (i2 : Int) (I_13 : gI) (AI_14 : gI) (H : Heap) (locs : List Loc) (ls : Array Slot), zr i2 → (gInv g gh R AR I_13 AI_14) → (rF g I I_13) → ((I_13 ln 0).toInt = 7) → (0 ≤ i2 ∧ i2 ≤ 240) → (240 - i2) < ((NN : Nat) : Int) → gH g I_13 R J AI_14 AJ AR H → va_S (gA g) s.heap H locs → lv_has ls 6 [(4, .int (iI i2)), (0, .ref a), (1, .ref ln), (2, .ref inr), (3, .ref out)] → W p l e rmX3_group s m ([.ref a, .ref ln, .ref inr, .ref out] : List Value).toArray below meth c H locs 0 0 (MQ below (gQi g (fun (z : Int) (w : gS) => R = w.2.1 ∧ J = w.2.2.1 ∧ AJ = w.2.2.2.2.1 ∧ AR = w.2.2.2.2.2 ∧ (gInv g gh R AR (w.1) (w.2.2.2.1)) ∧ (rF g I (w.1)) ∧ (-4 ≤ z ∧ z ≤ 0))) ([.ref a, .ref ln, .ref inr, .ref out] : List Value).toArray s 0 0 (gA g)) (F0 m 127 ls []) := by
          intro NN127
          induction NN127 with
          | zero =>
            intro i2 I_13 AI_14 H locs ls zi2 hv rf hkd hi2 hm127 hH hS hl
            exact absurd hm127 (by omega)
          | succ NN127 ih127 =>
            intro i2 I_13 AI_14 H locs ls zi2 hv rf hkd hi2 hm127 hH hS hl
            have qp3 := ((gP_line hv hln).2.2.2 hkd).1
            refine lv_iload F.1 F.2.1 dX3_group_127 (lv_at hl 0 rfl) ?_
            refine lv_aload_n F.1 F.2.1 dX3_group_129 rfl (lv_at hl 4 rfl) ?_
            refine g_getI (ci := 4) (k := 3) F hH rfl (by decide) iX4 hout (by decide) rfl k23 dX3_group_130 ?_
            obtain ⟨b_16a, b_16b, b_16c, b_16d, b_16e, b_16f, b_16g, b_16h⟩ := gI_rows hv hout
            refine z_icmp_ge (tgt := 174) F dX3_group_133 (by decide) zi2 (zr_t _) (fun c_17 => ?_) (fun c_17 => ?_)
            · refine z_iconst F dX3_group_174 ?_
              exact g_iret F hr hlk hH hS hz ⟨by decide, by decide⟩ ⟨rfl, rfl, rfl, rfl, hv, rf, by first | omega | rfl | (dsimp only; omega)⟩ dX3_group_175
            · refine lv_aload_n F.1 F.2.1 dX3_group_136 rfl (lv_at hl 4 rfl) ?_
              refine lv_iload F.1 F.2.1 dX3_group_137 (lv_at hl 0 rfl) ?_
              refine lv_aload_n F.1 F.2.1 dX3_group_139 rfl (lv_at hl 2 rfl) ?_
              refine g_getI (ci := 0) (k := 8) F hH rfl (by decide) iX0 hln (by decide) rfl k110 dX3_group_140 ?_
              have b_18 := gI_line hv hln
              unfold vLineI at b_18
              refine lv_aload_n F.1 F.2.1 dX3_group_143 rfl (lv_at hl 4 rfl) ?_
              refine lv_iload F.1 F.2.1 dX3_group_144 (lv_at hl 0 rfl) ?_
              refine g_calli (g_runV (As := [.int (iI i2)]) (rest := [.int (iI ((I_13 ln 8).toInt)), .int (iI i2), .ref out]) (ci := 4) F hl.1 hH hS hz (c_X4_amount l g gh I_13 R J AI_14 AJ AR out i2 zi2 hv hout (by omega) (by omega)) (cwV 1 F.2.2.2.2.1 gX3_group_X4_amount rfl rfl rfl hdX4_amount ⟨Nat.le_of_ble_eq_true rfl, Nat.le_of_ble_eq_true rfl⟩) hout (by decide) rfl rfl rfl (Nat.le_of_ble_eq_true rfl) dX3_group_146 ⟨Nat.zero_le _, Nat.zero_le _⟩) hS (fun v_25 I_19 R_20 J_21 AI_22 AJ_23 AR_24 H locs zv_25 hp_26 hH hS => ?_)
              dsimp only at hp_26
              obtain ⟨rfl, rfl, rfl, rfl, rfl, rfl, q_27⟩ := hp_26
              refine g_callv (g_runV (As := [.int (iI i2), .int (iI ((I_13 ln 8).toInt)), .int (iI v_25)]) (rest := []) (ci := 4) F hl.1 hH hS hz (c_X4_setCell l g gh I_13 R J AI_14 AJ AR out i2 ((I_13 ln 8).toInt) v_25 zi2 (zr_t _) zv_25 hv hout (by omega) (by omega) (by omega) (by omega) (by omega) (by first | exact hfz | omega)) (cwV 3 F.2.2.2.2.1 gX3_group_X4_setCell rfl rfl rfl hdX4_setCell ⟨Nat.le_of_ble_eq_true rfl, Nat.le_of_ble_eq_true rfl⟩) hout (by decide) rfl rfl rfl (Nat.le_of_ble_eq_true rfl) dX3_group_149 ⟨Nat.zero_le _, Nat.zero_le _⟩) hS (fun I_28 R_29 J_30 AI_31 AJ_32 AR_33 H locs hp_34 hH hS => ?_)
              dsimp only at hp_34
              obtain ⟨rfl, rfl, rfl, rfl, rfl, q_35, hv, q_36⟩ := hp_34
              refine lv_aload_n F.1 F.2.1 dX3_group_152 rfl (lv_at hl 4 rfl) ?_
              refine lv_iload F.1 F.2.1 dX3_group_153 (lv_at hl 0 rfl) ?_
              refine z_iconst F dX3_group_155 ?_
              refine z_iconst F dX3_group_156 ?_
              refine g_callv (g_runV (As := [.int (iI i2), .int (iI 4), .int (iI 1)]) (rest := []) (ci := 4) F hl.1 hH hS hz (c_X4_setCell l g gh I_13 R J AI_31 AJ AR out i2 4 1 zi2 ⟨by decide, by decide⟩ ⟨by decide, by decide⟩ hv hout (by omega) (by omega) (by omega) (by omega) (by omega) (by first | exact hfz | omega)) (cwV 3 F.2.2.2.2.1 gX3_group_X4_setCell rfl rfl rfl hdX4_setCell ⟨Nat.le_of_ble_eq_true rfl, Nat.le_of_ble_eq_true rfl⟩) hout (by decide) rfl rfl rfl (Nat.le_of_ble_eq_true rfl) dX3_group_157 ⟨Nat.zero_le _, Nat.zero_le _⟩) hS (fun I_37 R_38 J_39 AI_40 AJ_41 AR_42 H locs hp_43 hH hS => ?_)
              dsimp only at hp_43
              obtain ⟨rfl, rfl, rfl, rfl, rfl, q_44, hv, q_45⟩ := hp_43
              refine lv_aload_n F.1 F.2.1 dX3_group_160 rfl (lv_at hl 4 rfl) ?_
              refine lv_iload F.1 F.2.1 dX3_group_161 (lv_at hl 0 rfl) ?_
              refine z_iconst F dX3_group_163 ?_
              refine z_iconst F dX3_group_164 ?_
              refine g_callv (g_runV (As := [.int (iI i2), .int (iI 5), .int (iI 0)]) (rest := []) (ci := 4) F hl.1 hH hS hz (c_X4_setCell l g gh I_13 R J AI_40 AJ AR out i2 5 0 zi2 ⟨by decide, by decide⟩ ⟨by decide, by decide⟩ hv hout (by omega) (by omega) (by omega) (by omega) (by omega) (by first | exact hfz | omega)) (cwV 3 F.2.2.2.2.1 gX3_group_X4_setCell rfl rfl rfl hdX4_setCell ⟨Nat.le_of_ble_eq_true rfl, Nat.le_of_ble_eq_true rfl⟩) hout (by decide) rfl rfl rfl (Nat.le_of_ble_eq_true rfl) dX3_group_165 ⟨Nat.zero_le _, Nat.zero_le _⟩) hS (fun I_46 R_47 J_48 AI_49 AJ_50 AR_51 H locs hp_52 hH hS => ?_)
              dsimp only at hp_52
              obtain ⟨rfl, rfl, rfl, rfl, rfl, q_53, hv, q_54⟩ := hp_52
              refine z_iinc (lv' := [(4, .int (iI (i2 + 1))), (0, .ref a), (1, .ref ln), (2, .ref inr), (3, .ref out)]) F dX3_group_168 hl (k := 0) rfl (by decide) rfl (fun ls hl => ?_)
              refine z_goto (tgt := 127) F dX3_group_171 (by decide) ?_
              exact ih127 (i2 + 1) I_13 AI_49 H locs ls ⟨by omega, by omega⟩ hv rf (by omega) (by omega) (by omega) hH hS (lv_sub hl [0, 1, 2, 3, 4] rfl)
        exact cut_127_14 (((240 - 0) + 1 : Int).toNat) 0 I_8 AI_9 H locs ls ⟨by decide, by decide⟩ hv rf (by omega) (by omega) (by omega) hH hS (lv_sub hl [0, 1, 2, 3, 4] rfl)
      · refine z_iconst F dX3_group_16 ?_
        refine lv_istore (lv' := [(5, .int (iI 0)), (4, .int (iI i)), (0, .ref a), (1, .ref ln), (2, .ref inr), (3, .ref out)]) F.1 F.2.1 dX3_group_17 hl (by decide) rfl (fun ls hl => ?_)
        have cut_19_55 : ∀ (NN : Nat) (k : Int) (AI_55 : gI) (H : Heap) (locs : List Loc) (ls : Array Slot), zr k → (gInv g gh R AR I_8 AI_55) → (0 ≤ k ∧ k ≤ 3) → (3 - k) < ((NN : Nat) : Int) → gH g I_8 R J AI_55 AJ AR H → va_S (gA g) s.heap H locs → lv_has ls 6 [(5, .int (iI k)), (4, .int (iI i)), (0, .ref a), (1, .ref ln), (2, .ref inr), (3, .ref out)] → W p l e rmX3_group s m ([.ref a, .ref ln, .ref inr, .ref out] : List Value).toArray below meth c H locs 0 0 (MQ below (gQi g (fun (z : Int) (w : gS) => R = w.2.1 ∧ J = w.2.2.1 ∧ AJ = w.2.2.2.2.1 ∧ AR = w.2.2.2.2.2 ∧ (gInv g gh R AR (w.1) (w.2.2.2.1)) ∧ (rF g I (w.1)) ∧ (-4 ≤ z ∧ z ≤ 0))) ([.ref a, .ref ln, .ref inr, .ref out] : List Value).toArray s 0 0 (gA g)) (F0 m 19 ls []) := by
          intro NN19
          induction NN19 with
          | zero =>
            intro k AI_55 H locs ls zk hv hk hm19 hH hS hl
            exact absurd hm19 (by omega)
          | succ NN19 ih19 =>
            intro k AI_55 H locs ls zk hv hk hm19 hH hS hl
            refine lv_iload F.1 F.2.1 dX3_group_19 (lv_at hl 0 rfl) ?_
            refine lv_aload_n F.1 F.2.1 dX3_group_21 rfl (lv_at hl 3 rfl) ?_
            refine g_getI (ci := 0) (k := 8) F hH rfl (by decide) iX0 hln (by decide) rfl k110 dX3_group_22 ?_
            have b_57 := gI_line hv hln
            unfold vLineI at b_57
            refine z_icmp_ge (tgt := 54) F dX3_group_25 (by decide) zk (zr_t _) (fun c_58 => ?_) (fun c_58 => ?_)
            · refine lv_aload_n F.1 F.2.1 dX3_group_54 rfl (lv_at hl 5 rfl) ?_
              refine lv_aload_n F.1 F.2.1 dX3_group_55 rfl (lv_at hl 2 rfl) ?_
              obtain ⟨r_59a, r_59b⟩ := gR_rk0 hv ha
              refine g_getR (ci := 3) (k := 0) F hH rfl (by decide) iX3 ha (by decide) rfl (b := gh 30 0) r_59a k11 dX3_group_56 ?_
              obtain ⟨b_60a, b_60b, b_60c, b_60d, b_60e, b_60f, b_60g, b_60h⟩ := gI_rows hv hout
              refine g_calli (g_runV (As := [.ref (gh 30 0)]) (rest := []) (ci := 4) F hl.1 hH hS hz (c_X4_find l g gh I_8 R J AI_55 AJ AR out (gh 30 0) hv hout r_59b) (cwV 1 F.2.2.2.2.1 gX3_group_X4_find rfl rfl rfl hdX4_find ⟨Nat.le_of_ble_eq_true rfl, Nat.le_of_ble_eq_true rfl⟩) hout (by decide) rfl rfl rfl (Nat.le_of_ble_eq_true rfl) dX3_group_59 ⟨Nat.zero_le _, Nat.zero_le _⟩) hS (fun v_67 I_61 R_62 J_63 AI_64 AJ_65 AR_66 H locs zv_67 hp_68 hH hS => ?_)
              dsimp only at hp_68
              obtain ⟨rfl, rfl, rfl, rfl, rfl, rfl, q_69⟩ := hp_68
              refine lv_istore (lv' := [(5, .int (iI v_67)), (4, .int (iI i)), (0, .ref a), (1, .ref ln), (2, .ref inr), (3, .ref out)]) F.1 F.2.1 dX3_group_62 hl (by decide) rfl (fun ls hl => ?_)
              refine lv_iload F.1 F.2.1 dX3_group_64 (lv_at hl 0 rfl) ?_
              refine z_if_ge (tgt := 92) F dX3_group_66 (by decide) zv_67 (fun c_70 => ?_) (fun c_70 => ?_)
              · refine lv_aload_n F.1 F.2.1 dX3_group_92 rfl (lv_at hl 3 rfl) ?_
                refine g_getI (ci := 0) (k := 11) F hH rfl (by decide) iX0 hln (by decide) rfl k124 dX3_group_93 ?_
                refine lv_aload_n F.1 F.2.1 dX3_group_96 rfl (lv_at hl 5 rfl) ?_
                refine lv_iload F.1 F.2.1 dX3_group_97 (lv_at hl 0 rfl) ?_
                refine lv_aload_n F.1 F.2.1 dX3_group_99 rfl (lv_at hl 4 rfl) ?_
                refine lv_iload F.1 F.2.1 dX3_group_100 (lv_at hl 1 rfl) ?_
                refine lv_aload_n F.1 F.2.1 dX3_group_102 rfl (lv_at hl 3 rfl) ?_
                refine g_getI (ci := 0) (k := 12) F hH rfl (by decide) iX0 hln (by decide) rfl k127 dX3_group_103 ?_
                refine g_calli (g_runV (As := [.int (iI i), .int (iI ((I_8 ln 12).toInt))]) (rest := [.int (iI v_67), .ref out, .int (iI ((I_8 ln 11).toInt))]) (ci := 4) F hl.1 hH hS hz (c_X4_cell l g gh I_8 R J AI_55 AJ AR inr i ((I_8 ln 12).toInt) zi (zr_t _) hv hin (by omega) (by omega) (by omega) (by omega)) (cwV 2 F.2.2.2.2.1 gX3_group_X4_cell rfl rfl rfl hdX4_cell ⟨Nat.le_of_ble_eq_true rfl, Nat.le_of_ble_eq_true rfl⟩) hin (by decide) rfl rfl rfl (Nat.le_of_ble_eq_true rfl) dX3_group_106 ⟨Nat.zero_le _, Nat.zero_le _⟩) hS (fun v_77 I_71 R_72 J_73 AI_74 AJ_75 AR_76 H locs zv_77 hp_78 hH hS => ?_)
                dsimp only at hp_78
                obtain ⟨rfl, rfl, rfl, rfl, rfl, rfl, q_79⟩ := hp_78
                refine lv_aload_n F.1 F.2.1 dX3_group_109 rfl (lv_at hl 4 rfl) ?_
                refine lv_iload F.1 F.2.1 dX3_group_110 (lv_at hl 1 rfl) ?_
                refine g_calli (g_runV (As := [.int (iI i)]) (rest := [.int (iI v_77), .int (iI v_67), .ref out, .int (iI ((I_8 ln 11).toInt))]) (ci := 4) F hl.1 hH hS hz (c_X4_amount l g gh I_8 R J AI_55 AJ AR inr i zi hv hin (by omega) (by omega)) (cwV 1 F.2.2.2.2.1 gX3_group_X4_amount rfl rfl rfl hdX4_amount ⟨Nat.le_of_ble_eq_true rfl, Nat.le_of_ble_eq_true rfl⟩) hin (by decide) rfl rfl rfl (Nat.le_of_ble_eq_true rfl) dX3_group_112 ⟨Nat.zero_le _, Nat.zero_le _⟩) hS (fun v_86 I_80 R_81 J_82 AI_83 AJ_84 AR_85 H locs zv_86 hp_87 hH hS => ?_)
                dsimp only at hp_87
                obtain ⟨rfl, rfl, rfl, rfl, rfl, rfl, q_88⟩ := hp_87
                refine g_callv (g_runS (As := [.int (iI ((I_8 ln 11).toInt)), .ref out, .int (iI v_67), .int (iI v_77), .int (iI v_86)]) (rest := []) F hl.1 hH hS hz (c_X3_fold l g gh I_8 R J AI_55 AJ AR ((I_8 ln 11).toInt) out v_67 v_77 v_86 (zr_t _) zv_67 zv_77 zv_86 hv hout (by omega) (by omega)) (va_cwS 5 F.2.2.2.2.1 gX3_group_X3_fold rfl rfl rfl hdX3_fold.2 ⟨Nat.le_of_ble_eq_true rfl, Nat.le_of_ble_eq_true rfl⟩) rfl rfl (Nat.le_of_ble_eq_true rfl) dX3_group_115 ⟨Nat.zero_le _, Nat.zero_le _⟩) hS (fun I_89 R_90 J_91 AI_92 AJ_93 AR_94 H locs hp_95 hH hS => ?_)
                dsimp only at hp_95
                obtain ⟨rfl, rfl, rfl, rfl, rfl, hv⟩ := hp_95
                refine z_iinc (lv' := [(4, .int (iI (i + 1))), (5, .int (iI v_67)), (0, .ref a), (1, .ref ln), (2, .ref inr), (3, .ref out)]) F dX3_group_118 hl (k := 1) rfl (by decide) rfl (fun ls hl => ?_)
                refine z_goto (tgt := 7) F dX3_group_121 (by decide) ?_
                exact ih7 (i + 1) I_8 AI_92 H locs ls ⟨by omega, by omega⟩ hv rf (by omega) (by omega) (by omega) hH hS (lv_sub hl [0, 2, 3, 4, 5] rfl)
              · refine z_iconst F dX3_group_69 ?_
                refine lv_iload F.1 F.2.1 dX3_group_70 (lv_at hl 0 rfl) ?_
                refine z_isub F dX3_group_72 ?_
                refine lv_istore (lv' := [(5, .int (iI ((-1) - v_67))), (4, .int (iI i)), (0, .ref a), (1, .ref ln), (2, .ref inr), (3, .ref out)]) F.1 F.2.1 dX3_group_73 hl (by decide) rfl (fun ls hl => ?_)
                refine lv_aload_n F.1 F.2.1 dX3_group_75 rfl (lv_at hl 5 rfl) ?_
                refine lv_iload F.1 F.2.1 dX3_group_76 (lv_at hl 0 rfl) ?_
                refine lv_aload_n F.1 F.2.1 dX3_group_78 rfl (lv_at hl 2 rfl) ?_
                refine g_getR (ci := 3) (k := 0) F hH rfl (by decide) iX3 ha (by decide) rfl (b := gh 30 0) r_59a k11 dX3_group_79 ?_
                refine z_iconst F dX3_group_82 ?_
                refine g_calli (g_runV (As := [.int (iI ((-1) - v_67)), .ref (gh 30 0), .int (iI 0)]) (rest := []) (ci := 4) F hl.1 hH hS hz (c_X4_insert l g gh I_8 R J AI_55 AJ AR out ((-1) - v_67) (gh 30 0) 0 ⟨by omega, by omega⟩ ⟨by decide, by decide⟩ hv hout r_59b (ro30 hv ha) (fun h => absurd h (by omega)) (by first | exact hfz | omega)) (cwV 3 F.2.2.2.2.1 gX3_group_X4_insert rfl rfl rfl hdX4_insert ⟨Nat.le_of_ble_eq_true rfl, Nat.le_of_ble_eq_true rfl⟩) hout (by decide) rfl rfl rfl (Nat.le_of_ble_eq_true rfl) dX3_group_83 ⟨Nat.zero_le _, Nat.zero_le _⟩) hS (fun v_102 I_96 R_97 J_98 AI_99 AJ_100 AR_101 H locs zv_102 hp_103 hH hS => ?_)
                dsimp only at hp_103
                obtain ⟨rfl, rfl, rfl, rfl, hv, q_104, q_105, q_106, q_107⟩ := hp_103
                have rf := rF_t rf (rF_o hout q_104)
                have u_108 : (I_96 ln 0).toInt = (I ln 0).toInt := by rw [rf ln 0 hln (by decide)]
                refine z_if_ne (tgt := 92) F dX3_group_86 (by decide) zv_102 (fun c_109 => ?_) (fun c_109 => ?_)
                · refine lv_aload_n F.1 F.2.1 dX3_group_92 rfl (lv_at hl 3 rfl) ?_
                  refine g_getI (ci := 0) (k := 11) F hH rfl (by decide) iX0 hln (by decide) rfl k124 dX3_group_93 ?_
                  refine lv_aload_n F.1 F.2.1 dX3_group_96 rfl (lv_at hl 5 rfl) ?_
                  refine lv_iload F.1 F.2.1 dX3_group_97 (lv_at hl 0 rfl) ?_
                  refine lv_aload_n F.1 F.2.1 dX3_group_99 rfl (lv_at hl 4 rfl) ?_
                  refine lv_iload F.1 F.2.1 dX3_group_100 (lv_at hl 1 rfl) ?_
                  refine lv_aload_n F.1 F.2.1 dX3_group_102 rfl (lv_at hl 3 rfl) ?_
                  refine g_getI (ci := 0) (k := 12) F hH rfl (by decide) iX0 hln (by decide) rfl k127 dX3_group_103 ?_
                  have b_110 := gI_line hv hln
                  unfold vLineI at b_110
                  obtain ⟨b_111a, b_111b, b_111c, b_111d, b_111e, b_111f, b_111g, b_111h⟩ := gI_rows hv hin
                  refine g_calli (g_runV (As := [.int (iI i), .int (iI ((I_96 ln 12).toInt))]) (rest := [.int (iI ((-1) - v_67)), .ref out, .int (iI ((I_96 ln 11).toInt))]) (ci := 4) F hl.1 hH hS hz (c_X4_cell l g gh I_96 R J AI_99 AJ AR inr i ((I_96 ln 12).toInt) zi (zr_t _) hv hin (by omega) (by omega) (by omega) (by omega)) (cwV 2 F.2.2.2.2.1 gX3_group_X4_cell rfl rfl rfl hdX4_cell ⟨Nat.le_of_ble_eq_true rfl, Nat.le_of_ble_eq_true rfl⟩) hin (by decide) rfl rfl rfl (Nat.le_of_ble_eq_true rfl) dX3_group_106 ⟨Nat.zero_le _, Nat.zero_le _⟩) hS (fun v_118 I_112 R_113 J_114 AI_115 AJ_116 AR_117 H locs zv_118 hp_119 hH hS => ?_)
                  dsimp only at hp_119
                  obtain ⟨rfl, rfl, rfl, rfl, rfl, rfl, q_120⟩ := hp_119
                  refine lv_aload_n F.1 F.2.1 dX3_group_109 rfl (lv_at hl 4 rfl) ?_
                  refine lv_iload F.1 F.2.1 dX3_group_110 (lv_at hl 1 rfl) ?_
                  refine g_calli (g_runV (As := [.int (iI i)]) (rest := [.int (iI v_118), .int (iI ((-1) - v_67)), .ref out, .int (iI ((I_96 ln 11).toInt))]) (ci := 4) F hl.1 hH hS hz (c_X4_amount l g gh I_96 R J AI_99 AJ AR inr i zi hv hin (by omega) (by omega)) (cwV 1 F.2.2.2.2.1 gX3_group_X4_amount rfl rfl rfl hdX4_amount ⟨Nat.le_of_ble_eq_true rfl, Nat.le_of_ble_eq_true rfl⟩) hin (by decide) rfl rfl rfl (Nat.le_of_ble_eq_true rfl) dX3_group_112 ⟨Nat.zero_le _, Nat.zero_le _⟩) hS (fun v_127 I_121 R_122 J_123 AI_124 AJ_125 AR_126 H locs zv_127 hp_128 hH hS => ?_)
                  dsimp only at hp_128
                  obtain ⟨rfl, rfl, rfl, rfl, rfl, rfl, q_129⟩ := hp_128
                  obtain ⟨b_130a, b_130b, b_130c, b_130d, b_130e, b_130f, b_130g, b_130h⟩ := gI_rows hv hout
                  refine g_callv (g_runS (As := [.int (iI ((I_96 ln 11).toInt)), .ref out, .int (iI ((-1) - v_67)), .int (iI v_118), .int (iI v_127)]) (rest := []) F hl.1 hH hS hz (c_X3_fold l g gh I_96 R J AI_99 AJ AR ((I_96 ln 11).toInt) out ((-1) - v_67) v_118 v_127 (zr_t _) ⟨by omega, by omega⟩ zv_118 zv_127 hv hout (by omega) (by omega)) (va_cwS 5 F.2.2.2.2.1 gX3_group_X3_fold rfl rfl rfl hdX3_fold.2 ⟨Nat.le_of_ble_eq_true rfl, Nat.le_of_ble_eq_true rfl⟩) rfl rfl (Nat.le_of_ble_eq_true rfl) dX3_group_115 ⟨Nat.zero_le _, Nat.zero_le _⟩) hS (fun I_131 R_132 J_133 AI_134 AJ_135 AR_136 H locs hp_137 hH hS => ?_)
                  dsimp only at hp_137
                  obtain ⟨rfl, rfl, rfl, rfl, rfl, hv⟩ := hp_137
                  refine z_iinc (lv' := [(4, .int (iI (i + 1))), (5, .int (iI ((-1) - v_67))), (0, .ref a), (1, .ref ln), (2, .ref inr), (3, .ref out)]) F dX3_group_118 hl (k := 1) rfl (by decide) rfl (fun ls hl => ?_)
                  refine z_goto (tgt := 7) F dX3_group_121 (by decide) ?_
                  exact ih7 (i + 1) I_96 AI_134 H locs ls ⟨by omega, by omega⟩ hv rf (by omega) (by omega) (by omega) hH hS (lv_sub hl [0, 2, 3, 4, 5] rfl)
                · refine z_bipush F dX3_group_89 (by decide) ?_
                  exact g_iret F hr hlk hH hS hz ⟨by decide, by decide⟩ ⟨rfl, rfl, rfl, rfl, hv, rf, by first | omega | rfl | (dsimp only; omega)⟩ dX3_group_91
            · refine lv_aload_n F.1 F.2.1 dX3_group_28 rfl (lv_at hl 2 rfl) ?_
              obtain ⟨r_138a, r_138b⟩ := gR_rk0 hv ha
              refine g_getR (ci := 3) (k := 0) F hH rfl (by decide) iX3 ha (by decide) rfl (b := gh 30 0) r_138a k11 dX3_group_29 ?_
              refine lv_iload F.1 F.2.1 dX3_group_32 (lv_at hl 0 rfl) ?_
              refine lv_aload_n F.1 F.2.1 dX3_group_34 rfl (lv_at hl 4 rfl) ?_
              refine lv_iload F.1 F.2.1 dX3_group_35 (lv_at hl 1 rfl) ?_
              refine lv_aload_n F.1 F.2.1 dX3_group_37 rfl (lv_at hl 3 rfl) ?_
              obtain ⟨r_139a, r_139b⟩ := gR_parts hv hln
              refine g_getR (ci := 0) (k := 7) F hH rfl (by decide) iX0 hln (by decide) rfl (b := gh 3 ln) r_139a k113 dX3_group_38 ?_
              refine lv_iload F.1 F.2.1 dX3_group_41 (lv_at hl 0 rfl) ?_
              have hx43 : 0 ≤ k ∧ k < ((32 : Nat) : Int) ∧ k ≤ 2147483647 := ⟨by omega, by omega, by omega⟩
              refine g_iald F hH r_139b hx43.1 hx43.2.1 hx43.2.2 dX3_group_43 ?_
              refine z_name (fun v_140 ev_140 => ?_)
              have zv_140 : zr v_140 := by rw [ev_140]; exact zr_t _
              have qp := (gP_line hv hln).2.2.2 hkd
              have qa := qp.2 k.toNat (by omega)
              rw [← ev_140] at qa
              refine g_calli (g_runV (As := [.int (iI i), .int (iI v_140)]) (rest := [.int (iI k), .ref (gh 30 0)]) (ci := 4) F hl.1 hH hS hz (c_X4_cell l g gh I_8 R J AI_55 AJ AR inr i v_140 zi zv_140 hv hin (by omega) (by omega) (by omega) (by omega)) (cwV 2 F.2.2.2.2.1 gX3_group_X4_cell rfl rfl rfl hdX4_cell ⟨Nat.le_of_ble_eq_true rfl, Nat.le_of_ble_eq_true rfl⟩) hin (by decide) rfl rfl rfl (Nat.le_of_ble_eq_true rfl) dX3_group_44 ⟨Nat.zero_le _, Nat.zero_le _⟩) hS (fun v_147 I_141 R_142 J_143 AI_144 AJ_145 AR_146 H locs zv_147 hp_148 hH hS => ?_)
              dsimp only at hp_148
              obtain ⟨rfl, rfl, rfl, rfl, rfl, rfl, q_149⟩ := hp_148
              have hx47 : 0 ≤ k ∧ k < ((5 : Nat) : Int) ∧ k ≤ 2147483647 := ⟨by omega, by omega, by omega⟩
              refine g_iast F hH hS r_138b hx47.1 hx47.2.1 hx47.2.2 dX3_group_47 (fun H locs hH hS => ?_)
              obtain ⟨AI_150, eAI_150⟩ : ∃ qQ, qQ = gup2 AI_55 (gh 30 0) (k).toNat (iI (v_147)) := ⟨_, rfl⟩
              rw [← eAI_150] at hH
              have kAI_150 : ∀ b, b ≠ (gh 30 0) → AI_150 b = AI_55 b := fun b hb => by rw [eAI_150]; exact funext fun j => gup2_a _ _ hb
              have hv : gInv g gh R AR I_8 AI_150 := gInv_plain hv (ro30 hv ha) kAI_150
              refine z_iinc (lv' := [(5, .int (iI (k + 1))), (4, .int (iI i)), (0, .ref a), (1, .ref ln), (2, .ref inr), (3, .ref out)]) F dX3_group_48 hl (k := 0) rfl (by decide) rfl (fun ls hl => ?_)
              refine z_goto (tgt := 19) F dX3_group_51 (by decide) ?_
              exact ih19 (k + 1) AI_150 H locs ls ⟨by omega, by omega⟩ hv (by omega) (by omega) hH hS (lv_sub hl [0, 1, 2, 3, 4, 5] rfl)
        exact cut_19_55 (((3 - 0) + 1 : Int).toNat) 0 AI_9 H locs ls ⟨by decide, by decide⟩ hv (by omega) (by omega) hH hS (lv_sub hl [0, 1, 2, 3, 4, 5] rfl)
  exact cut_7_9 (((240 - 0) + 1 : Int).toNat) 0 I AI_4 H locs ls ⟨by decide, by decide⟩ hv rf (by omega) (by omega) (by omega) hH hS (lv_sub hl [0, 1, 2, 3, 4] rfl)

def rmX3_reckon : Room := { frames := 5, cells := 0, slots := 0, locals := 165 }
theorem hdX3_reckon : yX3_reckon.cls = RX3 ∧ yX3_reckon.cls ≠ "java/lang/invoke/MethodHandle" ∧ yX3_reckon.cls ≠ "java/lang/invoke/VarHandle" ∧ (parseMethodDescriptor yX3_reckon.desc).map (fun d => d.parameters.length) = some 3 := by decide +kernel
set_option maxHeartbeats 4000000 in
set_option maxRecDepth 100000 in
/-- a view of its relations -/
theorem c_X3_reckon (l : Launch) (g : gG) (gh : gGh) (I : gI) (R : gR) (J : gJ) (AI : gI) (AJ : gJ) (AR : gR) (a : Nat) (ln : Nat) (bags : Nat) (out : Nat) (hv : gInv g gh R AR I AI) (ha : gO g a 3) (hln : gO g ln 0) (hout : gO g out 4) (h4 : gh 2 out = 4) (hb : isRA g gh AR bags 16 120 4) (hlm : gh 1 out = 120) : gMet l g yX3_reckon wsX3_reckon rmX3_reckon [.ref a, .ref ln, .ref bags, .ref out] (I, R, J, AI, AJ, AR) (gQi g (fun (z : Int) (w : gS) => R = w.2.1 ∧ J = w.2.2.1 ∧ AJ = w.2.2.2.2.1 ∧ AR = w.2.2.2.2.2 ∧ (gInv g gh R AR (w.1) (w.2.2.2.1)) ∧ (rF g I (w.1)) ∧ (-4 ≤ z ∧ z ≤ 0))) := by
  refine gStart (cc := cX3_reckon) (maxL := 6) (ret := (some (.int))) (by decide) rfl (Nat.le_of_ble_eq_true rfl) ?_
  intro p e s m below meth c ls F hr hlk hH hz hS hl
  have hl : lv_has ls 6 [(0, .ref a), (1, .ref ln), (2, .ref bags), (3, .ref out)] := hl
  have hS : va_S (gA g) s.heap s.heap [] := hS
  obtain ⟨H, hHe⟩ : ∃ H : Heap, H = s.heap := ⟨_, rfl⟩
  obtain ⟨locs, hlo⟩ : ∃ k : List Loc, k = [] := ⟨_, rfl⟩
  have hH : gH g I R J AI AJ AR H := by rw [hHe]; exact hH
  have hS : va_S (gA g) s.heap H locs := by rw [hHe, hlo]; exact hS
  suffices hw : W p l e rmX3_reckon s m ([.ref a, .ref ln, .ref bags, .ref out] : List Value).toArray below meth c H locs 0 0 (MQ below (gQi g (fun (z : Int) (w : gS) => R = w.2.1 ∧ J = w.2.2.1 ∧ AJ = w.2.2.2.2.1 ∧ AR = w.2.2.2.2.2 ∧ (gInv g gh R AR (w.1) (w.2.2.2.1)) ∧ (rF g I (w.1)) ∧ (-4 ≤ z ∧ z ≤ 0))) ([.ref a, .ref ln, .ref bags, .ref out] : List Value).toArray s 0 0 (gA g)) (F0 m 0 ls []) by
    rw [hHe, hlo] at hw; exact hw
  clear hHe hlo
  have rf : rF g I I := rF_r
  have iX4 : ∀ w ∈ u_ws RX4 TX4 4, w ∈ wsX3_reckon := (by decide +kernel)
  have iX0 : ∀ w ∈ u_ws RX0 TX0 15, w ∈ wsX3_reckon := (by decide +kernel)
  have k23 : Cond.fieldLink RX3 23 (TX4 3).1 (TX4 3).2.1 (TX4 3).2.2.1 ∈ wsX3_reckon := List.mem_of_getElem? (i := 1) rfl
  have k27 : Cond.fieldLink RX3 27 (TX0 3).1 (TX0 3).2.1 (TX0 3).2.2.1 ∈ wsX3_reckon := List.mem_of_getElem? (i := 2) rfl
  have k32 : Cond.fieldLink RX3 32 (TX0 4).1 (TX0 4).2.1 (TX0 4).2.2.1 ∈ wsX3_reckon := List.mem_of_getElem? (i := 3) rfl
  have k35 : Cond.fieldLink RX3 35 (TX0 0).1 (TX0 0).2.1 (TX0 0).2.2.1 ∈ wsX3_reckon := List.mem_of_getElem? (i := 4) rfl
  refine lv_aload_n F.1 F.2.1 dX3_reckon_0 rfl (lv_at hl 3 rfl) ?_
  refine z_iconst F dX3_reckon_1 ?_
  refine g_putI (ci := 4) (k := 3) F hH hS rfl (by decide) iX4 hout (by decide) tyX4 tyX4_ok nmX4 rfl rfl rfl k23 dX3_reckon_2 (fun H locs hH hS => ?_)
  obtain ⟨I_1, eI_1⟩ : ∃ qQ, qQ = gup2 I out 3 (iI (0)) := ⟨_, rfl⟩
  rw [← eI_1] at hH
  have kI_1 : ∀ b, b ≠ out → I_1 b = I b := fun b hb => by rw [eI_1]; exact funext fun j => gup2_a _ _ hb
  have w_2 : (I_1 out 3).toInt = 0 := by rw [eI_1, gup2_s]; exact iI_val ⟨by omega, by omega⟩
  have hv : gInv g gh R AR I_1 AI := by rw [eI_1]; exact gInv_len hv hout (by omega) (by omega) (by first | exact hfz | omega)
  have rf := rF_t rf (rF_o hout kI_1)
  have w_2u : (I_1 ln 0).toInt = (I ln 0).toInt := by rw [rf ln 0 hln (by decide)]
  refine lv_aload_n F.1 F.2.1 dX3_reckon_5 rfl (lv_at hl 1 rfl) ?_
  refine g_getI (ci := 0) (k := 3) F hH rfl (by decide) iX0 hln (by decide) rfl k27 dX3_reckon_6 ?_
  have b_3 := gI_line hv hln
  unfold vLineI at b_3
  refine z_iconst F dX3_reckon_9 ?_
  refine z_icmp_ne (tgt := 15) F dX3_reckon_10 (by decide) (zr_t _) ⟨by decide, by decide⟩ (fun c_4 => ?_) (fun c_4 => ?_)
  · refine lv_aload_n F.1 F.2.1 dX3_reckon_15 rfl (lv_at hl 2 rfl) ?_
    refine lv_aload_n F.1 F.2.1 dX3_reckon_16 rfl (lv_at hl 1 rfl) ?_
    refine g_getI (ci := 0) (k := 3) F hH rfl (by decide) iX0 hln (by decide) rfl k27 dX3_reckon_17 ?_
    have hx20 : 0 ≤ ((I_1 ln 3).toInt) ∧ ((I_1 ln 3).toInt) < ((16 : Nat) : Int) ∧ ((I_1 ln 3).toInt) ≤ 2147483647 := ⟨by omega, by omega, by omega⟩
    obtain ⟨y_5, y_5a, y_5b, y_5c, y_5d, y_5e⟩ := hb.2 (((I_1 ln 3).toInt)).toNat (by omega)
    refine g_aldR F hH hb.1 hx20.1 hx20.2.1 hx20.2.2 (b := y_5) y_5a dX3_reckon_20 ?_
    refine lv_astore (lv' := [(4, .ref y_5), (0, .ref a), (1, .ref ln), (2, .ref bags), (3, .ref out)]) F.1 F.2.1 dX3_reckon_21 hl (by decide) rfl (fun ls hl => ?_)
    refine lv_aload_n F.1 F.2.1 dX3_reckon_23 rfl (lv_at hl 2 rfl) ?_
    refine g_getI (ci := 0) (k := 4) F hH rfl (by decide) iX0 hln (by decide) rfl k32 dX3_reckon_24 ?_
    refine z_iconst F dX3_reckon_27 ?_
    refine z_icmp_ne (tgt := 36) F dX3_reckon_28 (by decide) (zr_t _) ⟨by decide, by decide⟩ (fun c_6 => ?_) (fun c_6 => ?_)
    · refine lv_aload_n F.1 F.2.1 dX3_reckon_36 rfl (lv_at hl 3 rfl) ?_
      refine lv_aload_n F.1 F.2.1 dX3_reckon_37 rfl (lv_at hl 2 rfl) ?_
      refine g_getI (ci := 0) (k := 4) F hH rfl (by decide) iX0 hln (by decide) rfl k32 dX3_reckon_38 ?_
      have hx41 : 0 ≤ ((I_1 ln 4).toInt) ∧ ((I_1 ln 4).toInt) < ((16 : Nat) : Int) ∧ ((I_1 ln 4).toInt) ≤ 2147483647 := ⟨by omega, by omega, by omega⟩
      obtain ⟨y_7, y_7a, y_7b, y_7c, y_7d, y_7e⟩ := hb.2 (((I_1 ln 4).toInt)).toNat (by omega)
      refine g_aldR F hH hb.1 hx41.1 hx41.2.1 hx41.2.2 (b := y_7) y_7a dX3_reckon_41 ?_
      refine lv_astore (lv' := [(5, .ref y_7), (4, .ref y_5), (0, .ref a), (1, .ref ln), (2, .ref bags), (3, .ref out)]) F.1 F.2.1 dX3_reckon_42 hl (by decide) rfl (fun ls hl => ?_)
      refine lv_aload_n F.1 F.2.1 dX3_reckon_44 rfl (lv_at hl 3 rfl) ?_
      refine g_getI (ci := 0) (k := 0) F hH rfl (by decide) iX0 hln (by decide) rfl k35 dX3_reckon_45 ?_
      have ec_8 : (iI ((I_1 ln 0).toInt)).toInt = (I_1 ln 0).toInt := iI_val (zr_t _)
      by_cases c_8 : ((I_1 ln 0).toInt) < 1 ∨ 7 < ((I_1 ln 0).toInt)
      · refine lv_tableOut (tgt := 176) F.1 F.2.1 dX3_reckon_48 (by rw [ec_8]; exact c_8) (by decide) ?_
        refine lv_aload_n F.1 F.2.1 dX3_reckon_176 rfl (lv_at hl 2 rfl) ?_
        refine lv_aload_n F.1 F.2.1 dX3_reckon_177 rfl (lv_at hl 3 rfl) ?_
        refine lv_aload F.1 F.2.1 dX3_reckon_178 (lv_at hl 1 rfl) ?_
        refine lv_aload F.1 F.2.1 dX3_reckon_180 (lv_at hl 0 rfl) ?_
        refine lv_aload_n F.1 F.2.1 dX3_reckon_182 rfl (lv_at hl 5 rfl) ?_
        obtain ⟨b_9a, b_9b, b_9c, b_9d, b_9e, b_9f, b_9g, b_9h⟩ := gI_rows hv y_5b
        obtain ⟨b_10a, b_10b, b_10c, b_10d, b_10e, b_10f, b_10g, b_10h⟩ := gI_rows hv y_7b
        obtain ⟨b_11a, b_11b, b_11c, b_11d, b_11e, b_11f, b_11g, b_11h⟩ := gI_rows hv hout
        refine g_calli (g_runV (As := [.ref ln, .ref y_5, .ref y_7, .ref out]) (rest := []) (ci := 3) F hl.1 hH hS hz (c_X3_ring l g gh I_1 R J AI AJ AR a ln y_5 y_7 out hv ha hln y_5b y_7b hout (by omega) (by omega) (by omega)) (cwV 4 F.2.2.2.2.1 gX3_reckon_X3_ring rfl rfl rfl hdX3_ring ⟨Nat.le_of_ble_eq_true rfl, Nat.le_of_ble_eq_true rfl⟩) ha (by decide) rfl rfl rfl (Nat.le_of_ble_eq_true rfl) dX3_reckon_183 ⟨Nat.zero_le _, Nat.zero_le _⟩) hS (fun v_18 I_12 R_13 J_14 AI_15 AJ_16 AR_17 H locs zv_18 hp_19 hH hS => ?_)
        dsimp only at hp_19
        obtain ⟨rfl, rfl, rfl, rfl, hv, rfq, q_20⟩ := hp_19
        have rf := rF_t rf rfq
        have u_21 : (I_12 ln 0).toInt = (I ln 0).toInt := by rw [rf ln 0 hln (by decide)]
        exact g_iret F hr hlk hH hS hz zv_18 ⟨rfl, rfl, rfl, rfl, hv, rf, by first | omega | rfl | (dsimp only; omega)⟩ dX3_reckon_186
      by_cases c_8_0 : (I_1 ln 0).toInt = 1
      · refine lv_tableIn (tgt := 92) (off := 44) F.1 F.2.1 dX3_reckon_48 (by rw [ec_8]; omega) (by rw [ec_8]; omega) (by rw [ec_8, c_8_0]; rfl) (by decide) ?_
        refine lv_aload_n F.1 F.2.1 dX3_reckon_92 rfl (lv_at hl 2 rfl) ?_
        refine lv_aload_n F.1 F.2.1 dX3_reckon_93 rfl (lv_at hl 3 rfl) ?_
        refine lv_aload F.1 F.2.1 dX3_reckon_94 (lv_at hl 1 rfl) ?_
        refine lv_aload_n F.1 F.2.1 dX3_reckon_96 rfl (lv_at hl 5 rfl) ?_
        obtain ⟨b_22a, b_22b, b_22c, b_22d, b_22e, b_22f, b_22g, b_22h⟩ := gI_rows hv y_5b
        obtain ⟨b_23a, b_23b, b_23c, b_23d, b_23e, b_23f, b_23g, b_23h⟩ := gI_rows hv hout
        refine g_calli (g_runV (As := [.ref ln, .ref y_5, .ref out]) (rest := []) (ci := 3) F hl.1 hH hS hz (c_X3_select l g gh I_1 R J AI AJ AR a ln y_5 out hv ha hln y_5b hout (by omega) (by omega)) (cwV 3 F.2.2.2.2.1 gX3_reckon_X3_select rfl rfl rfl hdX3_select ⟨Nat.le_of_ble_eq_true rfl, Nat.le_of_ble_eq_true rfl⟩) ha (by decide) rfl rfl rfl (Nat.le_of_ble_eq_true rfl) dX3_reckon_97 ⟨Nat.zero_le _, Nat.zero_le _⟩) hS (fun v_30 I_24 R_25 J_26 AI_27 AJ_28 AR_29 H locs zv_30 hp_31 hH hS => ?_)
        dsimp only at hp_31
        obtain ⟨rfl, rfl, rfl, rfl, hv, rfq, q_32⟩ := hp_31
        have rf := rF_t rf rfq
        have u_33 : (I_24 ln 0).toInt = (I ln 0).toInt := by rw [rf ln 0 hln (by decide)]
        exact g_iret F hr hlk hH hS hz zv_30 ⟨rfl, rfl, rfl, rfl, hv, rf, by first | omega | rfl | (dsimp only; omega)⟩ dX3_reckon_100
      by_cases c_8_1 : (I_1 ln 0).toInt = 2
      · refine lv_tableIn (tgt := 101) (off := 53) F.1 F.2.1 dX3_reckon_48 (by rw [ec_8]; omega) (by rw [ec_8]; omega) (by rw [ec_8, c_8_1]; rfl) (by decide) ?_
        refine lv_aload_n F.1 F.2.1 dX3_reckon_101 rfl (lv_at hl 2 rfl) ?_
        refine lv_aload_n F.1 F.2.1 dX3_reckon_102 rfl (lv_at hl 3 rfl) ?_
        refine lv_aload F.1 F.2.1 dX3_reckon_103 (lv_at hl 1 rfl) ?_
        refine lv_aload_n F.1 F.2.1 dX3_reckon_105 rfl (lv_at hl 5 rfl) ?_
        obtain ⟨b_34a, b_34b, b_34c, b_34d, b_34e, b_34f, b_34g, b_34h⟩ := gI_rows hv y_5b
        obtain ⟨b_35a, b_35b, b_35c, b_35d, b_35e, b_35f, b_35g, b_35h⟩ := gI_rows hv hout
        refine g_calli (g_runV (As := [.ref ln, .ref y_5, .ref out]) (rest := []) (ci := 3) F hl.1 hH hS hz (c_X3_project l g gh I_1 R J AI AJ AR a ln y_5 out hv ha hln y_5b hout (by omega) (by omega)) (cwV 3 F.2.2.2.2.1 gX3_reckon_X3_project rfl rfl rfl hdX3_project ⟨Nat.le_of_ble_eq_true rfl, Nat.le_of_ble_eq_true rfl⟩) ha (by decide) rfl rfl rfl (Nat.le_of_ble_eq_true rfl) dX3_reckon_106 ⟨Nat.zero_le _, Nat.zero_le _⟩) hS (fun v_42 I_36 R_37 J_38 AI_39 AJ_40 AR_41 H locs zv_42 hp_43 hH hS => ?_)
        dsimp only at hp_43
        obtain ⟨rfl, rfl, rfl, rfl, hv, rfq, q_44⟩ := hp_43
        have rf := rF_t rf rfq
        have u_45 : (I_36 ln 0).toInt = (I ln 0).toInt := by rw [rf ln 0 hln (by decide)]
        exact g_iret F hr hlk hH hS hz zv_42 ⟨rfl, rfl, rfl, rfl, hv, rf, by first | omega | rfl | (dsimp only; omega)⟩ dX3_reckon_109
      by_cases c_8_2 : (I_1 ln 0).toInt = 3
      · refine lv_tableIn (tgt := 110) (off := 62) F.1 F.2.1 dX3_reckon_48 (by rw [ec_8]; omega) (by rw [ec_8]; omega) (by rw [ec_8, c_8_2]; rfl) (by decide) ?_
        refine lv_aload_n F.1 F.2.1 dX3_reckon_110 rfl (lv_at hl 2 rfl) ?_
        refine lv_aload_n F.1 F.2.1 dX3_reckon_111 rfl (lv_at hl 3 rfl) ?_
        refine lv_aload F.1 F.2.1 dX3_reckon_112 (lv_at hl 1 rfl) ?_
        refine lv_aload F.1 F.2.1 dX3_reckon_114 (lv_at hl 0 rfl) ?_
        refine lv_aload_n F.1 F.2.1 dX3_reckon_116 rfl (lv_at hl 5 rfl) ?_
        obtain ⟨b_46a, b_46b, b_46c, b_46d, b_46e, b_46f, b_46g, b_46h⟩ := gI_rows hv y_5b
        obtain ⟨b_47a, b_47b, b_47c, b_47d, b_47e, b_47f, b_47g, b_47h⟩ := gI_rows hv y_7b
        obtain ⟨b_48a, b_48b, b_48c, b_48d, b_48e, b_48f, b_48g, b_48h⟩ := gI_rows hv hout
        refine g_calli (g_runV (As := [.ref ln, .ref y_5, .ref y_7, .ref out]) (rest := []) (ci := 3) F hl.1 hH hS hz (c_X3_join l g gh I_1 R J AI AJ AR a ln y_5 y_7 out hv ha hln y_5b y_7b hout (by omega) (by omega)) (cwV 4 F.2.2.2.2.1 gX3_reckon_X3_join rfl rfl rfl hdX3_join ⟨Nat.le_of_ble_eq_true rfl, Nat.le_of_ble_eq_true rfl⟩) ha (by decide) rfl rfl rfl (Nat.le_of_ble_eq_true rfl) dX3_reckon_117 ⟨Nat.zero_le _, Nat.zero_le _⟩) hS (fun v_55 I_49 R_50 J_51 AI_52 AJ_53 AR_54 H locs zv_55 hp_56 hH hS => ?_)
        dsimp only at hp_56
        obtain ⟨rfl, rfl, rfl, rfl, hv, rfq, q_57⟩ := hp_56
        have rf := rF_t rf rfq
        have u_58 : (I_49 ln 0).toInt = (I ln 0).toInt := by rw [rf ln 0 hln (by decide)]
        exact g_iret F hr hlk hH hS hz zv_55 ⟨rfl, rfl, rfl, rfl, hv, rf, by first | omega | rfl | (dsimp only; omega)⟩ dX3_reckon_120
      by_cases c_8_3 : (I_1 ln 0).toInt = 4
      · refine lv_tableIn (tgt := 121) (off := 73) F.1 F.2.1 dX3_reckon_48 (by rw [ec_8]; omega) (by rw [ec_8]; omega) (by rw [ec_8, c_8_3]; rfl) (by decide) ?_
        refine lv_aload_n F.1 F.2.1 dX3_reckon_121 rfl (lv_at hl 5 rfl) ?_
        refine lv_aload F.1 F.2.1 dX3_reckon_122 (lv_at hl 1 rfl) ?_
        refine lv_aload F.1 F.2.1 dX3_reckon_124 (lv_at hl 0 rfl) ?_
        refine z_iconst F dX3_reckon_126 ?_
        obtain ⟨b_59a, b_59b, b_59c, b_59d, b_59e, b_59f, b_59g, b_59h⟩ := gI_rows hv hout
        obtain ⟨b_60a, b_60b, b_60c, b_60d, b_60e, b_60f, b_60g, b_60h⟩ := gI_rows hv y_5b
        obtain ⟨b_61a, b_61b, b_61c, b_61d, b_61e, b_61f, b_61g, b_61h⟩ := gI_rows hv y_7b
        refine g_calli (g_runV (As := [.ref y_5, .ref y_7, .int (iI 1)]) (rest := []) (ci := 4) F hl.1 hH hS hz (c_X4_gather l g gh I_1 R J AI AJ AR out y_5 y_7 1 ⟨by decide, by decide⟩ hv hout y_5b y_7b (by omega) (by omega)) (cwV 3 F.2.2.2.2.1 gX3_reckon_X4_gather rfl rfl rfl hdX4_gather ⟨Nat.le_of_ble_eq_true rfl, Nat.le_of_ble_eq_true rfl⟩) hout (by decide) rfl rfl rfl (Nat.le_of_ble_eq_true rfl) dX3_reckon_127 ⟨Nat.zero_le _, Nat.zero_le _⟩) hS (fun v_68 I_62 R_63 J_64 AI_65 AJ_66 AR_67 H locs zv_68 hp_69 hH hS => ?_)
        dsimp only at hp_69
        obtain ⟨rfl, rfl, rfl, rfl, hv, q_70, q_71⟩ := hp_69
        have rf := rF_t rf (rF_o hout q_70)
        have u_72 : (I_62 ln 0).toInt = (I ln 0).toInt := by rw [rf ln 0 hln (by decide)]
        refine z_if_eq (tgt := 137) F dX3_reckon_130 (by decide) zv_68 (fun c_73 => ?_) (fun c_73 => ?_)
        · refine z_bipush F dX3_reckon_137 (by decide) ?_
          exact g_iret F hr hlk hH hS hz ⟨by decide, by decide⟩ ⟨rfl, rfl, rfl, rfl, hv, rf, by first | omega | rfl | (dsimp only; omega)⟩ dX3_reckon_139
        · refine z_iconst F dX3_reckon_133 ?_
          refine z_goto (tgt := 139) F dX3_reckon_134 (by decide) ?_
          exact g_iret F hr hlk hH hS hz ⟨by decide, by decide⟩ ⟨rfl, rfl, rfl, rfl, hv, rf, by first | omega | rfl | (dsimp only; omega)⟩ dX3_reckon_139
      by_cases c_8_4 : (I_1 ln 0).toInt = 5
      · refine lv_tableIn (tgt := 140) (off := 92) F.1 F.2.1 dX3_reckon_48 (by rw [ec_8]; omega) (by rw [ec_8]; omega) (by rw [ec_8, c_8_4]; rfl) (by decide) ?_
        refine lv_aload_n F.1 F.2.1 dX3_reckon_140 rfl (lv_at hl 5 rfl) ?_
        refine lv_aload F.1 F.2.1 dX3_reckon_141 (lv_at hl 1 rfl) ?_
        refine lv_aload F.1 F.2.1 dX3_reckon_143 (lv_at hl 0 rfl) ?_
        refine z_iconst F dX3_reckon_145 ?_
        obtain ⟨b_74a, b_74b, b_74c, b_74d, b_74e, b_74f, b_74g, b_74h⟩ := gI_rows hv hout
        obtain ⟨b_75a, b_75b, b_75c, b_75d, b_75e, b_75f, b_75g, b_75h⟩ := gI_rows hv y_5b
        obtain ⟨b_76a, b_76b, b_76c, b_76d, b_76e, b_76f, b_76g, b_76h⟩ := gI_rows hv y_7b
        refine g_calli (g_runV (As := [.ref y_5, .ref y_7, .int (iI ((-1)))]) (rest := []) (ci := 4) F hl.1 hH hS hz (c_X4_gather l g gh I_1 R J AI AJ AR out y_5 y_7 (-1) ⟨by decide, by decide⟩ hv hout y_5b y_7b (by omega) (by omega)) (cwV 3 F.2.2.2.2.1 gX3_reckon_X4_gather rfl rfl rfl hdX4_gather ⟨Nat.le_of_ble_eq_true rfl, Nat.le_of_ble_eq_true rfl⟩) hout (by decide) rfl rfl rfl (Nat.le_of_ble_eq_true rfl) dX3_reckon_146 ⟨Nat.zero_le _, Nat.zero_le _⟩) hS (fun v_83 I_77 R_78 J_79 AI_80 AJ_81 AR_82 H locs zv_83 hp_84 hH hS => ?_)
        dsimp only at hp_84
        obtain ⟨rfl, rfl, rfl, rfl, hv, q_85, q_86⟩ := hp_84
        have rf := rF_t rf (rF_o hout q_85)
        have u_87 : (I_77 ln 0).toInt = (I ln 0).toInt := by rw [rf ln 0 hln (by decide)]
        refine z_if_eq (tgt := 156) F dX3_reckon_149 (by decide) zv_83 (fun c_88 => ?_) (fun c_88 => ?_)
        · refine z_bipush F dX3_reckon_156 (by decide) ?_
          exact g_iret F hr hlk hH hS hz ⟨by decide, by decide⟩ ⟨rfl, rfl, rfl, rfl, hv, rf, by first | omega | rfl | (dsimp only; omega)⟩ dX3_reckon_158
        · refine z_iconst F dX3_reckon_152 ?_
          refine z_goto (tgt := 158) F dX3_reckon_153 (by decide) ?_
          exact g_iret F hr hlk hH hS hz ⟨by decide, by decide⟩ ⟨rfl, rfl, rfl, rfl, hv, rf, by first | omega | rfl | (dsimp only; omega)⟩ dX3_reckon_158
      by_cases c_8_5 : (I_1 ln 0).toInt = 6
      · refine lv_tableIn (tgt := 159) (off := 111) F.1 F.2.1 dX3_reckon_48 (by rw [ec_8]; omega) (by rw [ec_8]; omega) (by rw [ec_8, c_8_5]; rfl) (by decide) ?_
        refine lv_aload_n F.1 F.2.1 dX3_reckon_159 rfl (lv_at hl 2 rfl) ?_
        refine lv_aload F.1 F.2.1 dX3_reckon_160 (lv_at hl 1 rfl) ?_
        refine lv_aload_n F.1 F.2.1 dX3_reckon_162 rfl (lv_at hl 5 rfl) ?_
        obtain ⟨b_89a, b_89b, b_89c, b_89d, b_89e, b_89f, b_89g, b_89h⟩ := gI_rows hv y_5b
        obtain ⟨b_90a, b_90b, b_90c, b_90d, b_90e, b_90f, b_90g, b_90h⟩ := gI_rows hv hout
        refine g_calli (g_runV (As := [.ref y_5, .ref out]) (rest := []) (ci := 3) F hl.1 hH hS hz (c_X3_distinct l g gh I_1 R J AI AJ AR a y_5 out hv ha y_5b hout (by omega)) (cwV 2 F.2.2.2.2.1 gX3_reckon_X3_distinct rfl rfl rfl hdX3_distinct ⟨Nat.le_of_ble_eq_true rfl, Nat.le_of_ble_eq_true rfl⟩) ha (by decide) rfl rfl rfl (Nat.le_of_ble_eq_true rfl) dX3_reckon_163 ⟨Nat.zero_le _, Nat.zero_le _⟩) hS (fun v_97 I_91 R_92 J_93 AI_94 AJ_95 AR_96 H locs zv_97 hp_98 hH hS => ?_)
        dsimp only at hp_98
        obtain ⟨rfl, rfl, rfl, rfl, hv, rfq, q_99⟩ := hp_98
        have rf := rF_t rf rfq
        have u_100 : (I_91 ln 0).toInt = (I ln 0).toInt := by rw [rf ln 0 hln (by decide)]
        exact g_iret F hr hlk hH hS hz zv_97 ⟨rfl, rfl, rfl, rfl, hv, rf, by first | omega | rfl | (dsimp only; omega)⟩ dX3_reckon_166
      have c_8_6 : (I_1 ln 0).toInt = 7 := by omega
      refine lv_tableIn (tgt := 167) (off := 119) F.1 F.2.1 dX3_reckon_48 (by rw [ec_8]; omega) (by rw [ec_8]; omega) (by rw [ec_8, c_8_6]; rfl) (by decide) ?_
      refine lv_aload_n F.1 F.2.1 dX3_reckon_167 rfl (lv_at hl 2 rfl) ?_
      refine lv_aload_n F.1 F.2.1 dX3_reckon_168 rfl (lv_at hl 3 rfl) ?_
      refine lv_aload F.1 F.2.1 dX3_reckon_169 (lv_at hl 1 rfl) ?_
      refine lv_aload_n F.1 F.2.1 dX3_reckon_171 rfl (lv_at hl 5 rfl) ?_
      obtain ⟨b_101a, b_101b, b_101c, b_101d, b_101e, b_101f, b_101g, b_101h⟩ := gI_rows hv y_5b
      obtain ⟨b_102a, b_102b, b_102c, b_102d, b_102e, b_102f, b_102g, b_102h⟩ := gI_rows hv hout
      refine g_calli (g_runV (As := [.ref ln, .ref y_5, .ref out]) (rest := []) (ci := 3) F hl.1 hH hS hz (c_X3_group l g gh I_1 R J AI AJ AR a ln y_5 out hv ha hln y_5b hout (by omega) (by omega)) (cwV 3 F.2.2.2.2.1 gX3_reckon_X3_group rfl rfl rfl hdX3_group ⟨Nat.le_of_ble_eq_true rfl, Nat.le_of_ble_eq_true rfl⟩) ha (by decide) rfl rfl rfl (Nat.le_of_ble_eq_true rfl) dX3_reckon_172 ⟨Nat.zero_le _, Nat.zero_le _⟩) hS (fun v_109 I_103 R_104 J_105 AI_106 AJ_107 AR_108 H locs zv_109 hp_110 hH hS => ?_)
      dsimp only at hp_110
      obtain ⟨rfl, rfl, rfl, rfl, hv, rfq, q_111⟩ := hp_110
      have rf := rF_t rf rfq
      have u_112 : (I_103 ln 0).toInt = (I ln 0).toInt := by rw [rf ln 0 hln (by decide)]
      exact g_iret F hr hlk hH hS hz zv_109 ⟨rfl, rfl, rfl, rfl, hv, rf, by first | omega | rfl | (dsimp only; omega)⟩ dX3_reckon_175
    · refine lv_aload F.1 F.2.1 dX3_reckon_31 (lv_at hl 0 rfl) ?_
      refine z_goto (tgt := 42) F dX3_reckon_33 (by decide) ?_
      refine lv_astore (lv' := [(5, .ref y_5), (4, .ref y_5), (0, .ref a), (1, .ref ln), (2, .ref bags), (3, .ref out)]) F.1 F.2.1 dX3_reckon_42 hl (by decide) rfl (fun ls hl => ?_)
      refine lv_aload_n F.1 F.2.1 dX3_reckon_44 rfl (lv_at hl 3 rfl) ?_
      refine g_getI (ci := 0) (k := 0) F hH rfl (by decide) iX0 hln (by decide) rfl k35 dX3_reckon_45 ?_
      have ec_113 : (iI ((I_1 ln 0).toInt)).toInt = (I_1 ln 0).toInt := iI_val (zr_t _)
      by_cases c_113 : ((I_1 ln 0).toInt) < 1 ∨ 7 < ((I_1 ln 0).toInt)
      · refine lv_tableOut (tgt := 176) F.1 F.2.1 dX3_reckon_48 (by rw [ec_113]; exact c_113) (by decide) ?_
        refine lv_aload_n F.1 F.2.1 dX3_reckon_176 rfl (lv_at hl 2 rfl) ?_
        refine lv_aload_n F.1 F.2.1 dX3_reckon_177 rfl (lv_at hl 3 rfl) ?_
        refine lv_aload F.1 F.2.1 dX3_reckon_178 (lv_at hl 1 rfl) ?_
        refine lv_aload F.1 F.2.1 dX3_reckon_180 (lv_at hl 0 rfl) ?_
        refine lv_aload_n F.1 F.2.1 dX3_reckon_182 rfl (lv_at hl 5 rfl) ?_
        obtain ⟨b_114a, b_114b, b_114c, b_114d, b_114e, b_114f, b_114g, b_114h⟩ := gI_rows hv y_5b
        obtain ⟨b_115a, b_115b, b_115c, b_115d, b_115e, b_115f, b_115g, b_115h⟩ := gI_rows hv hout
        refine g_calli (g_runV (As := [.ref ln, .ref y_5, .ref y_5, .ref out]) (rest := []) (ci := 3) F hl.1 hH hS hz (c_X3_ring l g gh I_1 R J AI AJ AR a ln y_5 y_5 out hv ha hln y_5b y_5b hout (by omega) (by omega) (by omega)) (cwV 4 F.2.2.2.2.1 gX3_reckon_X3_ring rfl rfl rfl hdX3_ring ⟨Nat.le_of_ble_eq_true rfl, Nat.le_of_ble_eq_true rfl⟩) ha (by decide) rfl rfl rfl (Nat.le_of_ble_eq_true rfl) dX3_reckon_183 ⟨Nat.zero_le _, Nat.zero_le _⟩) hS (fun v_122 I_116 R_117 J_118 AI_119 AJ_120 AR_121 H locs zv_122 hp_123 hH hS => ?_)
        dsimp only at hp_123
        obtain ⟨rfl, rfl, rfl, rfl, hv, rfq, q_124⟩ := hp_123
        have rf := rF_t rf rfq
        have u_125 : (I_116 ln 0).toInt = (I ln 0).toInt := by rw [rf ln 0 hln (by decide)]
        exact g_iret F hr hlk hH hS hz zv_122 ⟨rfl, rfl, rfl, rfl, hv, rf, by first | omega | rfl | (dsimp only; omega)⟩ dX3_reckon_186
      by_cases c_113_0 : (I_1 ln 0).toInt = 1
      · refine lv_tableIn (tgt := 92) (off := 44) F.1 F.2.1 dX3_reckon_48 (by rw [ec_113]; omega) (by rw [ec_113]; omega) (by rw [ec_113, c_113_0]; rfl) (by decide) ?_
        refine lv_aload_n F.1 F.2.1 dX3_reckon_92 rfl (lv_at hl 2 rfl) ?_
        refine lv_aload_n F.1 F.2.1 dX3_reckon_93 rfl (lv_at hl 3 rfl) ?_
        refine lv_aload F.1 F.2.1 dX3_reckon_94 (lv_at hl 1 rfl) ?_
        refine lv_aload_n F.1 F.2.1 dX3_reckon_96 rfl (lv_at hl 5 rfl) ?_
        obtain ⟨b_126a, b_126b, b_126c, b_126d, b_126e, b_126f, b_126g, b_126h⟩ := gI_rows hv y_5b
        obtain ⟨b_127a, b_127b, b_127c, b_127d, b_127e, b_127f, b_127g, b_127h⟩ := gI_rows hv hout
        refine g_calli (g_runV (As := [.ref ln, .ref y_5, .ref out]) (rest := []) (ci := 3) F hl.1 hH hS hz (c_X3_select l g gh I_1 R J AI AJ AR a ln y_5 out hv ha hln y_5b hout (by omega) (by omega)) (cwV 3 F.2.2.2.2.1 gX3_reckon_X3_select rfl rfl rfl hdX3_select ⟨Nat.le_of_ble_eq_true rfl, Nat.le_of_ble_eq_true rfl⟩) ha (by decide) rfl rfl rfl (Nat.le_of_ble_eq_true rfl) dX3_reckon_97 ⟨Nat.zero_le _, Nat.zero_le _⟩) hS (fun v_134 I_128 R_129 J_130 AI_131 AJ_132 AR_133 H locs zv_134 hp_135 hH hS => ?_)
        dsimp only at hp_135
        obtain ⟨rfl, rfl, rfl, rfl, hv, rfq, q_136⟩ := hp_135
        have rf := rF_t rf rfq
        have u_137 : (I_128 ln 0).toInt = (I ln 0).toInt := by rw [rf ln 0 hln (by decide)]
        exact g_iret F hr hlk hH hS hz zv_134 ⟨rfl, rfl, rfl, rfl, hv, rf, by first | omega | rfl | (dsimp only; omega)⟩ dX3_reckon_100
      by_cases c_113_1 : (I_1 ln 0).toInt = 2
      · refine lv_tableIn (tgt := 101) (off := 53) F.1 F.2.1 dX3_reckon_48 (by rw [ec_113]; omega) (by rw [ec_113]; omega) (by rw [ec_113, c_113_1]; rfl) (by decide) ?_
        refine lv_aload_n F.1 F.2.1 dX3_reckon_101 rfl (lv_at hl 2 rfl) ?_
        refine lv_aload_n F.1 F.2.1 dX3_reckon_102 rfl (lv_at hl 3 rfl) ?_
        refine lv_aload F.1 F.2.1 dX3_reckon_103 (lv_at hl 1 rfl) ?_
        refine lv_aload_n F.1 F.2.1 dX3_reckon_105 rfl (lv_at hl 5 rfl) ?_
        obtain ⟨b_138a, b_138b, b_138c, b_138d, b_138e, b_138f, b_138g, b_138h⟩ := gI_rows hv y_5b
        obtain ⟨b_139a, b_139b, b_139c, b_139d, b_139e, b_139f, b_139g, b_139h⟩ := gI_rows hv hout
        refine g_calli (g_runV (As := [.ref ln, .ref y_5, .ref out]) (rest := []) (ci := 3) F hl.1 hH hS hz (c_X3_project l g gh I_1 R J AI AJ AR a ln y_5 out hv ha hln y_5b hout (by omega) (by omega)) (cwV 3 F.2.2.2.2.1 gX3_reckon_X3_project rfl rfl rfl hdX3_project ⟨Nat.le_of_ble_eq_true rfl, Nat.le_of_ble_eq_true rfl⟩) ha (by decide) rfl rfl rfl (Nat.le_of_ble_eq_true rfl) dX3_reckon_106 ⟨Nat.zero_le _, Nat.zero_le _⟩) hS (fun v_146 I_140 R_141 J_142 AI_143 AJ_144 AR_145 H locs zv_146 hp_147 hH hS => ?_)
        dsimp only at hp_147
        obtain ⟨rfl, rfl, rfl, rfl, hv, rfq, q_148⟩ := hp_147
        have rf := rF_t rf rfq
        have u_149 : (I_140 ln 0).toInt = (I ln 0).toInt := by rw [rf ln 0 hln (by decide)]
        exact g_iret F hr hlk hH hS hz zv_146 ⟨rfl, rfl, rfl, rfl, hv, rf, by first | omega | rfl | (dsimp only; omega)⟩ dX3_reckon_109
      by_cases c_113_2 : (I_1 ln 0).toInt = 3
      · refine lv_tableIn (tgt := 110) (off := 62) F.1 F.2.1 dX3_reckon_48 (by rw [ec_113]; omega) (by rw [ec_113]; omega) (by rw [ec_113, c_113_2]; rfl) (by decide) ?_
        refine lv_aload_n F.1 F.2.1 dX3_reckon_110 rfl (lv_at hl 2 rfl) ?_
        refine lv_aload_n F.1 F.2.1 dX3_reckon_111 rfl (lv_at hl 3 rfl) ?_
        refine lv_aload F.1 F.2.1 dX3_reckon_112 (lv_at hl 1 rfl) ?_
        refine lv_aload F.1 F.2.1 dX3_reckon_114 (lv_at hl 0 rfl) ?_
        refine lv_aload_n F.1 F.2.1 dX3_reckon_116 rfl (lv_at hl 5 rfl) ?_
        obtain ⟨b_150a, b_150b, b_150c, b_150d, b_150e, b_150f, b_150g, b_150h⟩ := gI_rows hv y_5b
        obtain ⟨b_151a, b_151b, b_151c, b_151d, b_151e, b_151f, b_151g, b_151h⟩ := gI_rows hv hout
        refine g_calli (g_runV (As := [.ref ln, .ref y_5, .ref y_5, .ref out]) (rest := []) (ci := 3) F hl.1 hH hS hz (c_X3_join l g gh I_1 R J AI AJ AR a ln y_5 y_5 out hv ha hln y_5b y_5b hout (by omega) (by omega)) (cwV 4 F.2.2.2.2.1 gX3_reckon_X3_join rfl rfl rfl hdX3_join ⟨Nat.le_of_ble_eq_true rfl, Nat.le_of_ble_eq_true rfl⟩) ha (by decide) rfl rfl rfl (Nat.le_of_ble_eq_true rfl) dX3_reckon_117 ⟨Nat.zero_le _, Nat.zero_le _⟩) hS (fun v_158 I_152 R_153 J_154 AI_155 AJ_156 AR_157 H locs zv_158 hp_159 hH hS => ?_)
        dsimp only at hp_159
        obtain ⟨rfl, rfl, rfl, rfl, hv, rfq, q_160⟩ := hp_159
        have rf := rF_t rf rfq
        have u_161 : (I_152 ln 0).toInt = (I ln 0).toInt := by rw [rf ln 0 hln (by decide)]
        exact g_iret F hr hlk hH hS hz zv_158 ⟨rfl, rfl, rfl, rfl, hv, rf, by first | omega | rfl | (dsimp only; omega)⟩ dX3_reckon_120
      by_cases c_113_3 : (I_1 ln 0).toInt = 4
      · refine lv_tableIn (tgt := 121) (off := 73) F.1 F.2.1 dX3_reckon_48 (by rw [ec_113]; omega) (by rw [ec_113]; omega) (by rw [ec_113, c_113_3]; rfl) (by decide) ?_
        refine lv_aload_n F.1 F.2.1 dX3_reckon_121 rfl (lv_at hl 5 rfl) ?_
        refine lv_aload F.1 F.2.1 dX3_reckon_122 (lv_at hl 1 rfl) ?_
        refine lv_aload F.1 F.2.1 dX3_reckon_124 (lv_at hl 0 rfl) ?_
        refine z_iconst F dX3_reckon_126 ?_
        obtain ⟨b_162a, b_162b, b_162c, b_162d, b_162e, b_162f, b_162g, b_162h⟩ := gI_rows hv hout
        obtain ⟨b_163a, b_163b, b_163c, b_163d, b_163e, b_163f, b_163g, b_163h⟩ := gI_rows hv y_5b
        refine g_calli (g_runV (As := [.ref y_5, .ref y_5, .int (iI 1)]) (rest := []) (ci := 4) F hl.1 hH hS hz (c_X4_gather l g gh I_1 R J AI AJ AR out y_5 y_5 1 ⟨by decide, by decide⟩ hv hout y_5b y_5b (by omega) (by omega)) (cwV 3 F.2.2.2.2.1 gX3_reckon_X4_gather rfl rfl rfl hdX4_gather ⟨Nat.le_of_ble_eq_true rfl, Nat.le_of_ble_eq_true rfl⟩) hout (by decide) rfl rfl rfl (Nat.le_of_ble_eq_true rfl) dX3_reckon_127 ⟨Nat.zero_le _, Nat.zero_le _⟩) hS (fun v_170 I_164 R_165 J_166 AI_167 AJ_168 AR_169 H locs zv_170 hp_171 hH hS => ?_)
        dsimp only at hp_171
        obtain ⟨rfl, rfl, rfl, rfl, hv, q_172, q_173⟩ := hp_171
        have rf := rF_t rf (rF_o hout q_172)
        have u_174 : (I_164 ln 0).toInt = (I ln 0).toInt := by rw [rf ln 0 hln (by decide)]
        refine z_if_eq (tgt := 137) F dX3_reckon_130 (by decide) zv_170 (fun c_175 => ?_) (fun c_175 => ?_)
        · refine z_bipush F dX3_reckon_137 (by decide) ?_
          exact g_iret F hr hlk hH hS hz ⟨by decide, by decide⟩ ⟨rfl, rfl, rfl, rfl, hv, rf, by first | omega | rfl | (dsimp only; omega)⟩ dX3_reckon_139
        · refine z_iconst F dX3_reckon_133 ?_
          refine z_goto (tgt := 139) F dX3_reckon_134 (by decide) ?_
          exact g_iret F hr hlk hH hS hz ⟨by decide, by decide⟩ ⟨rfl, rfl, rfl, rfl, hv, rf, by first | omega | rfl | (dsimp only; omega)⟩ dX3_reckon_139
      by_cases c_113_4 : (I_1 ln 0).toInt = 5
      · refine lv_tableIn (tgt := 140) (off := 92) F.1 F.2.1 dX3_reckon_48 (by rw [ec_113]; omega) (by rw [ec_113]; omega) (by rw [ec_113, c_113_4]; rfl) (by decide) ?_
        refine lv_aload_n F.1 F.2.1 dX3_reckon_140 rfl (lv_at hl 5 rfl) ?_
        refine lv_aload F.1 F.2.1 dX3_reckon_141 (lv_at hl 1 rfl) ?_
        refine lv_aload F.1 F.2.1 dX3_reckon_143 (lv_at hl 0 rfl) ?_
        refine z_iconst F dX3_reckon_145 ?_
        obtain ⟨b_176a, b_176b, b_176c, b_176d, b_176e, b_176f, b_176g, b_176h⟩ := gI_rows hv hout
        obtain ⟨b_177a, b_177b, b_177c, b_177d, b_177e, b_177f, b_177g, b_177h⟩ := gI_rows hv y_5b
        refine g_calli (g_runV (As := [.ref y_5, .ref y_5, .int (iI ((-1)))]) (rest := []) (ci := 4) F hl.1 hH hS hz (c_X4_gather l g gh I_1 R J AI AJ AR out y_5 y_5 (-1) ⟨by decide, by decide⟩ hv hout y_5b y_5b (by omega) (by omega)) (cwV 3 F.2.2.2.2.1 gX3_reckon_X4_gather rfl rfl rfl hdX4_gather ⟨Nat.le_of_ble_eq_true rfl, Nat.le_of_ble_eq_true rfl⟩) hout (by decide) rfl rfl rfl (Nat.le_of_ble_eq_true rfl) dX3_reckon_146 ⟨Nat.zero_le _, Nat.zero_le _⟩) hS (fun v_184 I_178 R_179 J_180 AI_181 AJ_182 AR_183 H locs zv_184 hp_185 hH hS => ?_)
        dsimp only at hp_185
        obtain ⟨rfl, rfl, rfl, rfl, hv, q_186, q_187⟩ := hp_185
        have rf := rF_t rf (rF_o hout q_186)
        have u_188 : (I_178 ln 0).toInt = (I ln 0).toInt := by rw [rf ln 0 hln (by decide)]
        refine z_if_eq (tgt := 156) F dX3_reckon_149 (by decide) zv_184 (fun c_189 => ?_) (fun c_189 => ?_)
        · refine z_bipush F dX3_reckon_156 (by decide) ?_
          exact g_iret F hr hlk hH hS hz ⟨by decide, by decide⟩ ⟨rfl, rfl, rfl, rfl, hv, rf, by first | omega | rfl | (dsimp only; omega)⟩ dX3_reckon_158
        · refine z_iconst F dX3_reckon_152 ?_
          refine z_goto (tgt := 158) F dX3_reckon_153 (by decide) ?_
          exact g_iret F hr hlk hH hS hz ⟨by decide, by decide⟩ ⟨rfl, rfl, rfl, rfl, hv, rf, by first | omega | rfl | (dsimp only; omega)⟩ dX3_reckon_158
      by_cases c_113_5 : (I_1 ln 0).toInt = 6
      · refine lv_tableIn (tgt := 159) (off := 111) F.1 F.2.1 dX3_reckon_48 (by rw [ec_113]; omega) (by rw [ec_113]; omega) (by rw [ec_113, c_113_5]; rfl) (by decide) ?_
        refine lv_aload_n F.1 F.2.1 dX3_reckon_159 rfl (lv_at hl 2 rfl) ?_
        refine lv_aload F.1 F.2.1 dX3_reckon_160 (lv_at hl 1 rfl) ?_
        refine lv_aload_n F.1 F.2.1 dX3_reckon_162 rfl (lv_at hl 5 rfl) ?_
        obtain ⟨b_190a, b_190b, b_190c, b_190d, b_190e, b_190f, b_190g, b_190h⟩ := gI_rows hv y_5b
        obtain ⟨b_191a, b_191b, b_191c, b_191d, b_191e, b_191f, b_191g, b_191h⟩ := gI_rows hv hout
        refine g_calli (g_runV (As := [.ref y_5, .ref out]) (rest := []) (ci := 3) F hl.1 hH hS hz (c_X3_distinct l g gh I_1 R J AI AJ AR a y_5 out hv ha y_5b hout (by omega)) (cwV 2 F.2.2.2.2.1 gX3_reckon_X3_distinct rfl rfl rfl hdX3_distinct ⟨Nat.le_of_ble_eq_true rfl, Nat.le_of_ble_eq_true rfl⟩) ha (by decide) rfl rfl rfl (Nat.le_of_ble_eq_true rfl) dX3_reckon_163 ⟨Nat.zero_le _, Nat.zero_le _⟩) hS (fun v_198 I_192 R_193 J_194 AI_195 AJ_196 AR_197 H locs zv_198 hp_199 hH hS => ?_)
        dsimp only at hp_199
        obtain ⟨rfl, rfl, rfl, rfl, hv, rfq, q_200⟩ := hp_199
        have rf := rF_t rf rfq
        have u_201 : (I_192 ln 0).toInt = (I ln 0).toInt := by rw [rf ln 0 hln (by decide)]
        exact g_iret F hr hlk hH hS hz zv_198 ⟨rfl, rfl, rfl, rfl, hv, rf, by first | omega | rfl | (dsimp only; omega)⟩ dX3_reckon_166
      have c_113_6 : (I_1 ln 0).toInt = 7 := by omega
      refine lv_tableIn (tgt := 167) (off := 119) F.1 F.2.1 dX3_reckon_48 (by rw [ec_113]; omega) (by rw [ec_113]; omega) (by rw [ec_113, c_113_6]; rfl) (by decide) ?_
      refine lv_aload_n F.1 F.2.1 dX3_reckon_167 rfl (lv_at hl 2 rfl) ?_
      refine lv_aload_n F.1 F.2.1 dX3_reckon_168 rfl (lv_at hl 3 rfl) ?_
      refine lv_aload F.1 F.2.1 dX3_reckon_169 (lv_at hl 1 rfl) ?_
      refine lv_aload_n F.1 F.2.1 dX3_reckon_171 rfl (lv_at hl 5 rfl) ?_
      obtain ⟨b_202a, b_202b, b_202c, b_202d, b_202e, b_202f, b_202g, b_202h⟩ := gI_rows hv y_5b
      obtain ⟨b_203a, b_203b, b_203c, b_203d, b_203e, b_203f, b_203g, b_203h⟩ := gI_rows hv hout
      refine g_calli (g_runV (As := [.ref ln, .ref y_5, .ref out]) (rest := []) (ci := 3) F hl.1 hH hS hz (c_X3_group l g gh I_1 R J AI AJ AR a ln y_5 out hv ha hln y_5b hout (by omega) (by omega)) (cwV 3 F.2.2.2.2.1 gX3_reckon_X3_group rfl rfl rfl hdX3_group ⟨Nat.le_of_ble_eq_true rfl, Nat.le_of_ble_eq_true rfl⟩) ha (by decide) rfl rfl rfl (Nat.le_of_ble_eq_true rfl) dX3_reckon_172 ⟨Nat.zero_le _, Nat.zero_le _⟩) hS (fun v_210 I_204 R_205 J_206 AI_207 AJ_208 AR_209 H locs zv_210 hp_211 hH hS => ?_)
      dsimp only at hp_211
      obtain ⟨rfl, rfl, rfl, rfl, hv, rfq, q_212⟩ := hp_211
      have rf := rF_t rf rfq
      have u_213 : (I_204 ln 0).toInt = (I ln 0).toInt := by rw [rf ln 0 hln (by decide)]
      exact g_iret F hr hlk hH hS hz zv_210 ⟨rfl, rfl, rfl, rfl, hv, rf, by first | omega | rfl | (dsimp only; omega)⟩ dX3_reckon_175
  · refine z_iconst F dX3_reckon_13 ?_
    exact g_iret F hr hlk hH hS hz ⟨by decide, by decide⟩ ⟨rfl, rfl, rfl, rfl, hv, rf, by first | omega | rfl | (dsimp only; omega)⟩ dX3_reckon_14
