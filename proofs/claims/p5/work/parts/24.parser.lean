def rmX1_isKind : Room := { frames := 0, cells := 0, slots := 0, locals := 0 }
theorem hdX1_isKind : yX1_isKind.cls = RX1 ∧ yX1_isKind.cls ≠ "java/lang/invoke/MethodHandle" ∧ yX1_isKind.cls ≠ "java/lang/invoke/VarHandle" ∧ (parseMethodDescriptor yX1_isKind.desc).map (fun d => d.parameters.length) = some 1 := by decide +kernel
set_option maxHeartbeats 4000000 in
set_option maxRecDepth 100000 in
/-- the token is of a kind -/
theorem c_X1_isKind (l : Launch) (g : gG) (gh : gGh) (I : gI) (R : gR) (J : gJ) (AI : gI) (AJ : gJ) (AR : gR) (a : Nat) (kd : Int) (zkd : zr kd) (hv : gInv g gh R AR I AI) (h1 : gO g a 1) (hh : (I a 3).toInt < (I (gh 22 0) 4).toInt) : gMet l g yX1_isKind wsX1_isKind rmX1_isKind [.ref a, .int (iI kd)] (I, R, J, AI, AJ, AR) (gQi g (fun (z : Int) (w : gS) => I = w.1 ∧ R = w.2.1 ∧ J = w.2.2.1 ∧ AI = w.2.2.2.1 ∧ AJ = w.2.2.2.2.1 ∧ AR = w.2.2.2.2.2 ∧ ((z = 0 ∨ z = 1) ∧ (z = 1 → (AI (gh 24 0) (I a 3).toInt.toNat).toInt = kd)))) := by
  refine gStart (cc := cX1_isKind) (maxL := 2) (ret := (some (.boolean))) (by decide) rfl (Nat.le_of_ble_eq_true rfl) ?_
  intro p e s m below meth c ls F hr hlk hH hz hS hl
  have hl : lv_has ls 2 [(0, .ref a), (1, .int (iI kd))] := hl
  have hS : va_S (gA g) s.heap s.heap [] := hS
  obtain ⟨H, hHe⟩ : ∃ H : Heap, H = s.heap := ⟨_, rfl⟩
  obtain ⟨locs, hlo⟩ : ∃ k : List Loc, k = [] := ⟨_, rfl⟩
  have hH : gH g I R J AI AJ AR H := by rw [hHe]; exact hH
  have hS : va_S (gA g) s.heap H locs := by rw [hHe, hlo]; exact hS
  suffices hw : W p l e rmX1_isKind s m ([.ref a, .int (iI kd)] : List Value).toArray below meth c H locs 0 0 (MQ below (gQi g (fun (z : Int) (w : gS) => I = w.1 ∧ R = w.2.1 ∧ J = w.2.2.1 ∧ AI = w.2.2.2.1 ∧ AJ = w.2.2.2.2.1 ∧ AR = w.2.2.2.2.2 ∧ ((z = 0 ∨ z = 1) ∧ (z = 1 → (AI (gh 24 0) (I a 3).toInt.toNat).toInt = kd)))) ([.ref a, .int (iI kd)] : List Value).toArray s 0 0 (gA g)) (F0 m 0 ls []) by
    rw [hHe, hlo] at hw; exact hw
  clear hHe hlo
  have iX5 : ∀ w ∈ u_ws RX5 TX5 5, w ∈ wsX1_isKind := (by decide +kernel)
  have iX1 : ∀ w ∈ u_ws RX1 TX1 4, w ∈ wsX1_isKind := (by decide +kernel)
  have k12 : Cond.fieldLink RX1 12 (TX1 0).1 (TX1 0).2.1 (TX1 0).2.2.1 ∈ wsX1_isKind := List.mem_of_getElem? (i := 1) rfl
  have k47 : Cond.fieldLink RX1 47 (TX5 0).1 (TX5 0).2.1 (TX5 0).2.2.1 ∈ wsX1_isKind := List.mem_of_getElem? (i := 2) rfl
  have k44 : Cond.fieldLink RX1 44 (TX1 3).1 (TX1 3).2.1 (TX1 3).2.2.1 ∈ wsX1_isKind := List.mem_of_getElem? (i := 3) rfl
  refine lv_aload_n F.1 F.2.1 dX1_isKind_0 rfl (lv_at hl 0 rfl) ?_
  refine g_getR (ci := 1) (k := 0) F hH rfl (by decide) iX1 h1 (by decide) rfl (b := gh 22 0) (gR_pr0 hv h1).1 k12 dX1_isKind_1 ?_
  obtain ⟨r_1a, r_1b⟩ := gR_tk0 hv (gR_pr0 hv h1).2
  refine g_getR (ci := 5) (k := 0) F hH rfl (by decide) iX5 (gR_pr0 hv h1).2 (by decide) rfl (b := gh 24 0) r_1a k47 dX1_isKind_4 ?_
  refine lv_aload_n F.1 F.2.1 dX1_isKind_7 rfl (lv_at hl 0 rfl) ?_
  refine g_getI (ci := 1) (k := 3) F hH rfl (by decide) iX1 h1 (by decide) rfl k44 dX1_isKind_8 ?_
  have b_2 := gI_pr hv h1
  have b_2t := gI_tk hv (gR_pr0 hv h1).2
  have hx11 : 0 ≤ ((I a 3).toInt) ∧ ((I a 3).toInt) < ((901 : Nat) : Int) ∧ ((I a 3).toInt) ≤ 2147483647 := ⟨by omega, by omega, by omega⟩
  refine g_iald F hH r_1b hx11.1 hx11.2.1 hx11.2.2 dX1_isKind_11 ?_
  refine z_name (fun v_3 ev_3 => ?_)
  have zv_3 : zr v_3 := by rw [ev_3]; exact zr_t _
  refine lv_iload_n F.1 F.2.1 dX1_isKind_12 rfl (lv_at hl 1 rfl) ?_
  refine z_icmp_ne (tgt := 20) F dX1_isKind_13 (by decide) zv_3 zkd (fun c_4 => ?_) (fun c_4 => ?_)
  · refine z_iconst F dX1_isKind_20 ?_
    exact g_zret F hr hlk hH hS hz (by omega) ⟨rfl, rfl, rfl, rfl, rfl, rfl, ⟨by omega, fun _ => by omega⟩⟩ dX1_isKind_21
  · refine z_iconst F dX1_isKind_16 ?_
    refine z_goto (tgt := 21) F dX1_isKind_17 (by decide) ?_
    exact g_zret F hr hlk hH hS hz (by omega) ⟨rfl, rfl, rfl, rfl, rfl, rfl, ⟨by omega, fun _ => by omega⟩⟩ dX1_isKind_21

def rmX1_isWord : Room := { frames := 1, cells := 0, slots := 0, locals := 21 }
theorem hdX1_isWord : yX1_isWord.cls = RX1 ∧ yX1_isWord.cls ≠ "java/lang/invoke/MethodHandle" ∧ yX1_isWord.cls ≠ "java/lang/invoke/VarHandle" ∧ (parseMethodDescriptor yX1_isWord.desc).map (fun d => d.parameters.length) = some 1 := by decide +kernel
set_option maxHeartbeats 4000000 in
set_option maxRecDepth 100000 in
/-- the token is a word -/
theorem c_X1_isWord (l : Launch) (g : gG) (gh : gGh) (I : gI) (R : gR) (J : gJ) (AI : gI) (AJ : gJ) (AR : gR) (a : Nat) (wn : Int) (zwn : zr wn) (hv : gInv g gh R AR I AI) (h1 : gO g a 1) (hh : (I a 3).toInt < (I (gh 22 0) 4).toInt) : gMet l g yX1_isWord wsX1_isWord rmX1_isWord [.ref a, .int (iI wn)] (I, R, J, AI, AJ, AR) (gQi g (fun (z : Int) (w : gS) => I = w.1 ∧ R = w.2.1 ∧ J = w.2.2.1 ∧ AI = w.2.2.2.1 ∧ AJ = w.2.2.2.2.1 ∧ AR = w.2.2.2.2.2 ∧ (z = 0 ∨ z = 1))) := by
  refine gStart (cc := cX1_isWord) (maxL := 2) (ret := (some (.boolean))) (by decide) rfl (Nat.le_of_ble_eq_true rfl) ?_
  intro p e s m below meth c ls F hr hlk hH hz hS hl
  have hl : lv_has ls 2 [(0, .ref a), (1, .int (iI wn))] := hl
  have hS : va_S (gA g) s.heap s.heap [] := hS
  obtain ⟨H, hHe⟩ : ∃ H : Heap, H = s.heap := ⟨_, rfl⟩
  obtain ⟨locs, hlo⟩ : ∃ k : List Loc, k = [] := ⟨_, rfl⟩
  have hH : gH g I R J AI AJ AR H := by rw [hHe]; exact hH
  have hS : va_S (gA g) s.heap H locs := by rw [hHe, hlo]; exact hS
  suffices hw : W p l e rmX1_isWord s m ([.ref a, .int (iI wn)] : List Value).toArray below meth c H locs 0 0 (MQ below (gQi g (fun (z : Int) (w : gS) => I = w.1 ∧ R = w.2.1 ∧ J = w.2.2.1 ∧ AI = w.2.2.2.1 ∧ AJ = w.2.2.2.2.1 ∧ AR = w.2.2.2.2.2 ∧ (z = 0 ∨ z = 1))) ([.ref a, .int (iI wn)] : List Value).toArray s 0 0 (gA g)) (F0 m 0 ls []) by
    rw [hHe, hlo] at hw; exact hw
  clear hHe hlo
  have iX5 : ∀ w ∈ u_ws RX5 TX5 5, w ∈ wsX1_isWord := (by decide +kernel)
  have iX1 : ∀ w ∈ u_ws RX1 TX1 4, w ∈ wsX1_isWord := (by decide +kernel)
  have k12 : Cond.fieldLink RX1 12 (TX1 0).1 (TX1 0).2.1 (TX1 0).2.2.1 ∈ wsX1_isWord := List.mem_of_getElem? (i := 1) rfl
  have k71 : Cond.fieldLink RX1 71 (TX5 2).1 (TX5 2).2.1 (TX5 2).2.2.1 ∈ wsX1_isWord := List.mem_of_getElem? (i := 2) rfl
  have k44 : Cond.fieldLink RX1 44 (TX1 3).1 (TX1 3).2.1 (TX1 3).2.2.1 ∈ wsX1_isWord := List.mem_of_getElem? (i := 3) rfl
  refine lv_aload_n F.1 F.2.1 dX1_isWord_0 rfl (lv_at hl 0 rfl) ?_
  refine z_iconst F dX1_isWord_1 ?_
  refine g_calli (g_runV (As := [.int (iI 3)]) (rest := []) (ci := 1) F hl.1 hH hS hz (c_X1_isKind l g gh I R J AI AJ AR a 3 ⟨by decide, by decide⟩ hv h1 (by first | exact hp.2.2.2.2.2.2.2 | exact hh | omega)) (cwV 1 F.2.2.2.2.1 gX1_isWord_X1_isKind rfl rfl rfl hdX1_isKind ⟨Nat.le_of_ble_eq_true rfl, Nat.le_of_ble_eq_true rfl⟩) h1 (by decide) rfl rfl rfl (Nat.le_of_ble_eq_true rfl) dX1_isWord_2 ⟨Nat.zero_le _, Nat.zero_le _⟩) hS (fun v_7 I_1 R_2 J_3 AI_4 AJ_5 AR_6 H locs zv_7 hp_8 hH hS => ?_)
  dsimp only at hp_8
  obtain ⟨rfl, rfl, rfl, rfl, rfl, rfl, q_9⟩ := hp_8
  refine z_if_eq (tgt := 28) F dX1_isWord_5 (by decide) zv_7 (fun c_10 => ?_) (fun c_10 => ?_)
  · refine z_iconst F dX1_isWord_28 ?_
    exact g_zret F hr hlk hH hS hz (by omega) ⟨rfl, rfl, rfl, rfl, rfl, rfl, by first | omega | rfl | (dsimp only; omega)⟩ dX1_isWord_29
  · refine lv_aload_n F.1 F.2.1 dX1_isWord_8 rfl (lv_at hl 0 rfl) ?_
    refine g_getR (ci := 1) (k := 0) F hH rfl (by decide) iX1 h1 (by decide) rfl (b := gh 22 0) (gR_pr0 hv h1).1 k12 dX1_isWord_9 ?_
    obtain ⟨r_11a, r_11b⟩ := gR_tk2 hv (gR_pr0 hv h1).2
    refine g_getR (ci := 5) (k := 2) F hH rfl (by decide) iX5 (gR_pr0 hv h1).2 (by decide) rfl (b := gh 26 0) r_11a k71 dX1_isWord_12 ?_
    refine lv_aload_n F.1 F.2.1 dX1_isWord_15 rfl (lv_at hl 0 rfl) ?_
    refine g_getI (ci := 1) (k := 3) F hH rfl (by decide) iX1 h1 (by decide) rfl k44 dX1_isWord_16 ?_
    have b_12 := gI_pr hv h1
    have b_12t := gI_tk hv (gR_pr0 hv h1).2
    have hx19 : 0 ≤ ((I a 3).toInt) ∧ ((I a 3).toInt) < ((901 : Nat) : Int) ∧ ((I a 3).toInt) ≤ 2147483647 := ⟨by omega, by omega, by omega⟩
    refine g_iald F hH r_11b hx19.1 hx19.2.1 hx19.2.2 dX1_isWord_19 ?_
    refine z_name (fun v_13 ev_13 => ?_)
    have zv_13 : zr v_13 := by rw [ev_13]; exact zr_t _
    refine lv_iload_n F.1 F.2.1 dX1_isWord_20 rfl (lv_at hl 1 rfl) ?_
    refine z_icmp_ne (tgt := 28) F dX1_isWord_21 (by decide) zv_13 zwn (fun c_14 => ?_) (fun c_14 => ?_)
    · refine z_iconst F dX1_isWord_28 ?_
      exact g_zret F hr hlk hH hS hz (by omega) ⟨rfl, rfl, rfl, rfl, rfl, rfl, by first | omega | rfl | (dsimp only; omega)⟩ dX1_isWord_29
    · refine z_iconst F dX1_isWord_24 ?_
      refine z_goto (tgt := 29) F dX1_isWord_25 (by decide) ?_
      exact g_zret F hr hlk hH hS hz (by omega) ⟨rfl, rfl, rfl, rfl, rfl, rfl, by first | omega | rfl | (dsimp only; omega)⟩ dX1_isWord_29

def rmX1_step : Room := { frames := 0, cells := 0, slots := 0, locals := 0 }
theorem hdX1_step : yX1_step.cls = RX1 ∧ yX1_step.cls ≠ "java/lang/invoke/MethodHandle" ∧ yX1_step.cls ≠ "java/lang/invoke/VarHandle" ∧ (parseMethodDescriptor yX1_step.desc).map (fun d => d.parameters.length) = some 0 := by decide +kernel
set_option maxHeartbeats 4000000 in
set_option maxRecDepth 100000 in
/-- the next token -/
theorem c_X1_step (l : Launch) (g : gG) (gh : gGh) (I : gI) (R : gR) (J : gJ) (AI : gI) (AJ : gJ) (AR : gR) (a : Nat) (hv : gInv g gh R AR I AI) (h1 : gO g a 1) (hh : (I a 3).toInt < (I (gh 22 0) 4).toInt) : gMet l g yX1_step wsX1_step rmX1_step [.ref a] (I, R, J, AI, AJ, AR) (gQv g (fun w : gS => R = w.2.1 ∧ J = w.2.2.1 ∧ AI = w.2.2.2.1 ∧ AJ = w.2.2.2.2.1 ∧ AR = w.2.2.2.2.2 ∧ (gInv g gh R AR (w.1) AI) ∧ (∀ b, b ≠ a → (w.1) b = I b) ∧ (((w.1) a 3).toInt < (I (gh 22 0) 4).toInt))) := by
  refine gStart (cc := cX1_step) (maxL := 1) (ret := none) (by decide) rfl (Nat.le_of_ble_eq_true rfl) ?_
  intro p e s m below meth c ls F hr hlk hH hz hS hl
  have hl : lv_has ls 1 [(0, .ref a)] := hl
  have hS : va_S (gA g) s.heap s.heap [] := hS
  obtain ⟨H, hHe⟩ : ∃ H : Heap, H = s.heap := ⟨_, rfl⟩
  obtain ⟨locs, hlo⟩ : ∃ k : List Loc, k = [] := ⟨_, rfl⟩
  have hH : gH g I R J AI AJ AR H := by rw [hHe]; exact hH
  have hS : va_S (gA g) s.heap H locs := by rw [hHe, hlo]; exact hS
  suffices hw : W p l e rmX1_step s m ([.ref a] : List Value).toArray below meth c H locs 0 0 (MQ below (gQv g (fun w : gS => R = w.2.1 ∧ J = w.2.2.1 ∧ AI = w.2.2.2.1 ∧ AJ = w.2.2.2.2.1 ∧ AR = w.2.2.2.2.2 ∧ (gInv g gh R AR (w.1) AI) ∧ (∀ b, b ≠ a → (w.1) b = I b) ∧ (((w.1) a 3).toInt < (I (gh 22 0) 4).toInt))) ([.ref a] : List Value).toArray s 0 0 (gA g)) (F0 m 0 ls []) by
    rw [hHe, hlo] at hw; exact hw
  clear hHe hlo
  have iX5 : ∀ w ∈ u_ws RX5 TX5 5, w ∈ wsX1_step := (by decide +kernel)
  have iX1 : ∀ w ∈ u_ws RX1 TX1 4, w ∈ wsX1_step := (by decide +kernel)
  have k44 : Cond.fieldLink RX1 44 (TX1 3).1 (TX1 3).2.1 (TX1 3).2.2.1 ∈ wsX1_step := List.mem_of_getElem? (i := 1) rfl
  have k12 : Cond.fieldLink RX1 12 (TX1 0).1 (TX1 0).2.1 (TX1 0).2.2.1 ∈ wsX1_step := List.mem_of_getElem? (i := 2) rfl
  have k74 : Cond.fieldLink RX1 74 (TX5 4).1 (TX5 4).2.1 (TX5 4).2.2.1 ∈ wsX1_step := List.mem_of_getElem? (i := 3) rfl
  refine lv_aload_n F.1 F.2.1 dX1_step_0 rfl (lv_at hl 0 rfl) ?_
  refine g_getI (ci := 1) (k := 3) F hH rfl (by decide) iX1 h1 (by decide) rfl k44 dX1_step_1 ?_
  have b_1 := gI_pr hv h1
  have b_1t := gI_tk hv (gR_pr0 hv h1).2
  refine lv_aload_n F.1 F.2.1 dX1_step_4 rfl (lv_at hl 0 rfl) ?_
  refine g_getR (ci := 1) (k := 0) F hH rfl (by decide) iX1 h1 (by decide) rfl (b := gh 22 0) (gR_pr0 hv h1).1 k12 dX1_step_5 ?_
  refine g_getI (ci := 5) (k := 4) F hH rfl (by decide) iX5 (gR_pr0 hv h1).2 (by decide) rfl k74 dX1_step_8 ?_
  have b_2 := gI_tk hv (gR_pr0 hv h1).2
  refine z_iconst F dX1_step_11 ?_
  refine z_isub F dX1_step_12 ?_
  refine z_icmp_ge (tgt := 26) F dX1_step_13 (by decide) (zr_t _) ⟨by omega, by omega⟩ (fun c_3 => ?_) (fun c_3 => ?_)
  · exact g_vret F hr hlk hH hS hz ⟨rfl, rfl, rfl, rfl, rfl, hv, fun _ _ => rfl, by first | omega | rfl | (dsimp only; omega)⟩ dX1_step_26
  · refine lv_aload_n F.1 F.2.1 dX1_step_16 rfl (lv_at hl 0 rfl) ?_
    refine lv_dup F.1 F.2.1 dX1_step_17 rfl ?_
    refine g_getI (ci := 1) (k := 3) F hH rfl (by decide) iX1 h1 (by decide) rfl k44 dX1_step_18 ?_
    refine z_iconst F dX1_step_21 ?_
    refine z_iadd F dX1_step_22 ?_
    refine g_putI (ci := 1) (k := 3) F hH hS rfl (by decide) iX1 h1 (by decide) tyX1 tyX1_ok nmX1 rfl rfl rfl k44 dX1_step_23 (fun H locs hH hS => ?_)
    obtain ⟨I_4, eI_4⟩ : ∃ qQ, qQ = gup2 I a 3 (iI (((I a 3).toInt) + 1)) := ⟨_, rfl⟩
    rw [← eI_4] at hH
    have kI_4 : ∀ b, b ≠ a → I_4 b = I b := fun b hb => by rw [eI_4]; exact funext fun j => gup2_a _ _ hb
    have w3 : (I_4 a 3).toInt = ((I a 3).toInt) + 1 := by rw [eI_4, gup2_s]; exact iI_val ⟨by omega, by omega⟩
    have hv : gInv g gh R AR I_4 AI := by rw [eI_4]; exact gInv_here hv h1 (by omega) (by omega)
    exact g_vret F hr hlk hH hS hz ⟨rfl, rfl, rfl, rfl, rfl, hv, fun b hb => kI_4 b hb, by first | omega | rfl | (dsimp only; omega)⟩ dX1_step_26

def rmX1_seeColumn : Room := { frames := 1, cells := 0, slots := 0, locals := 21 }
theorem hdX1_seeColumn : yX1_seeColumn.cls = RX1 ∧ yX1_seeColumn.cls ≠ "java/lang/invoke/MethodHandle" ∧ yX1_seeColumn.cls ≠ "java/lang/invoke/VarHandle" ∧ (parseMethodDescriptor yX1_seeColumn.desc).map (fun d => d.parameters.length) = some 1 := by decide +kernel
set_option maxHeartbeats 4000000 in
set_option maxRecDepth 100000 in
/-- a column is here -/
theorem c_X1_seeColumn (l : Launch) (g : gG) (gh : gGh) (I : gI) (R : gR) (J : gJ) (AI : gI) (AJ : gJ) (AR : gR) (a : Nat) (cols : Int) (zcols : zr cols) (hv : gInv g gh R AR I AI) (h1 : gO g a 1) (hh : (I a 3).toInt < (I (gh 22 0) 4).toInt) : gMet l g yX1_seeColumn wsX1_seeColumn rmX1_seeColumn [.ref a, .int (iI cols)] (I, R, J, AI, AJ, AR) (gQi g (fun (z : Int) (w : gS) => I = w.1 ∧ R = w.2.1 ∧ J = w.2.2.1 ∧ AI = w.2.2.2.1 ∧ AJ = w.2.2.2.2.1 ∧ AR = w.2.2.2.2.2 ∧ (0 ≤ z ∧ z ≤ 2) ∧ (z = 0 → 0 ≤ (AI (gh 26 0) (I a 3).toInt.toNat).toInt ∧ (AI (gh 26 0) (I a 3).toInt.toNat).toInt ≤ 3))) := by
  refine gStart (cc := cX1_seeColumn) (maxL := 2) (ret := (some (.int))) (by decide) rfl (Nat.le_of_ble_eq_true rfl) ?_
  intro p e s m below meth c ls F hr hlk hH hz hS hl
  have hl : lv_has ls 2 [(0, .ref a), (1, .int (iI cols))] := hl
  have hS : va_S (gA g) s.heap s.heap [] := hS
  obtain ⟨H, hHe⟩ : ∃ H : Heap, H = s.heap := ⟨_, rfl⟩
  obtain ⟨locs, hlo⟩ : ∃ k : List Loc, k = [] := ⟨_, rfl⟩
  have hH : gH g I R J AI AJ AR H := by rw [hHe]; exact hH
  have hS : va_S (gA g) s.heap H locs := by rw [hHe, hlo]; exact hS
  suffices hw : W p l e rmX1_seeColumn s m ([.ref a, .int (iI cols)] : List Value).toArray below meth c H locs 0 0 (MQ below (gQi g (fun (z : Int) (w : gS) => I = w.1 ∧ R = w.2.1 ∧ J = w.2.2.1 ∧ AI = w.2.2.2.1 ∧ AJ = w.2.2.2.2.1 ∧ AR = w.2.2.2.2.2 ∧ (0 ≤ z ∧ z ≤ 2) ∧ (z = 0 → 0 ≤ (AI (gh 26 0) (I a 3).toInt.toNat).toInt ∧ (AI (gh 26 0) (I a 3).toInt.toNat).toInt ≤ 3))) ([.ref a, .int (iI cols)] : List Value).toArray s 0 0 (gA g)) (F0 m 0 ls []) by
    rw [hHe, hlo] at hw; exact hw
  clear hHe hlo
  have iX5 : ∀ w ∈ u_ws RX5 TX5 5, w ∈ wsX1_seeColumn := (by decide +kernel)
  have iX1 : ∀ w ∈ u_ws RX1 TX1 4, w ∈ wsX1_seeColumn := (by decide +kernel)
  have k12 : Cond.fieldLink RX1 12 (TX1 0).1 (TX1 0).2.1 (TX1 0).2.2.1 ∈ wsX1_seeColumn := List.mem_of_getElem? (i := 1) rfl
  have k71 : Cond.fieldLink RX1 71 (TX5 2).1 (TX5 2).2.1 (TX5 2).2.2.1 ∈ wsX1_seeColumn := List.mem_of_getElem? (i := 2) rfl
  have k44 : Cond.fieldLink RX1 44 (TX1 3).1 (TX1 3).2.1 (TX1 3).2.2.1 ∈ wsX1_seeColumn := List.mem_of_getElem? (i := 3) rfl
  refine lv_aload_n F.1 F.2.1 dX1_seeColumn_0 rfl (lv_at hl 0 rfl) ?_
  refine z_iconst F dX1_seeColumn_1 ?_
  refine g_calli (g_runV (As := [.int (iI 2)]) (rest := []) (ci := 1) F hl.1 hH hS hz (c_X1_isKind l g gh I R J AI AJ AR a 2 ⟨by decide, by decide⟩ hv h1 (by first | exact hp.2.2.2.2.2.2.2 | exact hh | omega)) (cwV 1 F.2.2.2.2.1 gX1_seeColumn_X1_isKind rfl rfl rfl hdX1_isKind ⟨Nat.le_of_ble_eq_true rfl, Nat.le_of_ble_eq_true rfl⟩) h1 (by decide) rfl rfl rfl (Nat.le_of_ble_eq_true rfl) dX1_seeColumn_2 ⟨Nat.zero_le _, Nat.zero_le _⟩) hS (fun v_7 I_1 R_2 J_3 AI_4 AJ_5 AR_6 H locs zv_7 hp_8 hH hS => ?_)
  dsimp only at hp_8
  obtain ⟨rfl, rfl, rfl, rfl, rfl, rfl, q_9⟩ := hp_8
  refine z_if_ne (tgt := 10) F dX1_seeColumn_5 (by decide) zv_7 (fun c_10 => ?_) (fun c_10 => ?_)
  · refine lv_aload_n F.1 F.2.1 dX1_seeColumn_10 rfl (lv_at hl 0 rfl) ?_
    refine g_getR (ci := 1) (k := 0) F hH rfl (by decide) iX1 h1 (by decide) rfl (b := gh 22 0) (gR_pr0 hv h1).1 k12 dX1_seeColumn_11 ?_
    obtain ⟨r_11a, r_11b⟩ := gR_tk2 hv (gR_pr0 hv h1).2
    refine g_getR (ci := 5) (k := 2) F hH rfl (by decide) iX5 (gR_pr0 hv h1).2 (by decide) rfl (b := gh 26 0) r_11a k71 dX1_seeColumn_14 ?_
    refine lv_aload_n F.1 F.2.1 dX1_seeColumn_17 rfl (lv_at hl 0 rfl) ?_
    refine g_getI (ci := 1) (k := 3) F hH rfl (by decide) iX1 h1 (by decide) rfl k44 dX1_seeColumn_18 ?_
    have b_12 := gI_pr hv h1
    have b_12t := gI_tk hv (gR_pr0 hv h1).2
    have hx21 : 0 ≤ ((I a 3).toInt) ∧ ((I a 3).toInt) < ((901 : Nat) : Int) ∧ ((I a 3).toInt) ≤ 2147483647 := ⟨by omega, by omega, by omega⟩
    refine g_iald F hH r_11b hx21.1 hx21.2.1 hx21.2.2 dX1_seeColumn_21 ?_
    refine z_name (fun v_13 ev_13 => ?_)
    have zv_13 : zr v_13 := by rw [ev_13]; exact zr_t _
    refine lv_iload_n F.1 F.2.1 dX1_seeColumn_22 rfl (lv_at hl 1 rfl) ?_
    refine z_icmp_lt (tgt := 30) F dX1_seeColumn_23 (by decide) zv_13 zcols (fun c_14 => ?_) (fun c_14 => ?_)
    · refine z_iconst F dX1_seeColumn_30 ?_
      exact g_iret F hr hlk hH hS hz ⟨by decide, by decide⟩ ⟨rfl, rfl, rfl, rfl, rfl, rfl, by first | omega | rfl | (dsimp only; omega), fun _ => gC_tok hv (gR_pr0 hv h1).2 (z := (I a 3).toInt) (by omega) (by omega) (by omega)⟩ dX1_seeColumn_31
    · refine z_iconst F dX1_seeColumn_26 ?_
      refine z_goto (tgt := 31) F dX1_seeColumn_27 (by decide) ?_
      exact g_iret F hr hlk hH hS hz ⟨by decide, by decide⟩ ⟨rfl, rfl, rfl, rfl, rfl, rfl, by first | omega | rfl | (dsimp only; omega), fun _ => gC_tok hv (gR_pr0 hv h1).2 (z := (I a 3).toInt) (by omega) (by omega) (by omega)⟩ dX1_seeColumn_31
  · refine z_iconst F dX1_seeColumn_8 ?_
    exact g_iret F hr hlk hH hS hz ⟨by decide, by decide⟩ ⟨rfl, rfl, rfl, rfl, rfl, rfl, by first | omega | rfl | (dsimp only; omega), fun h => absurd h (by omega)⟩ dX1_seeColumn_9

def rmX1_takeKind : Room := { frames := 1, cells := 0, slots := 0, locals := 21 }
theorem hdX1_takeKind : yX1_takeKind.cls = RX1 ∧ yX1_takeKind.cls ≠ "java/lang/invoke/MethodHandle" ∧ yX1_takeKind.cls ≠ "java/lang/invoke/VarHandle" ∧ (parseMethodDescriptor yX1_takeKind.desc).map (fun d => d.parameters.length) = some 1 := by decide +kernel
set_option maxHeartbeats 4000000 in
set_option maxRecDepth 100000 in
/-- takes a kind -/
theorem c_X1_takeKind (l : Launch) (g : gG) (gh : gGh) (q ln : Nat) (I : gI) (R : gR) (J : gJ) (AI : gI) (AJ : gJ) (AR : gR) (a : Nat) (kd : Int) (zkd : zr kd) (hv : gInv g gh R AR I AI) (hp : pS g gh R I a q ln) : gMet l g yX1_takeKind wsX1_takeKind rmX1_takeKind [.ref a, .int (iI kd)] (I, R, J, AI, AJ, AR) (gQi g (fun (z : Int) (w : gS) => R = w.2.1 ∧ J = w.2.2.1 ∧ AI = w.2.2.2.1 ∧ AJ = w.2.2.2.2.1 ∧ AR = w.2.2.2.2.2 ∧ (gInv g gh R AR (w.1) AI) ∧ (pS g gh R (w.1) a q ln) ∧ (pF a ln I (w.1)) ∧ ((w.1) ln = I ln) ∧ (z = 0 ∨ z = 1))) := by
  refine gStart (cc := cX1_takeKind) (maxL := 2) (ret := (some (.int))) (by decide) rfl (Nat.le_of_ble_eq_true rfl) ?_
  intro p e s m below meth c ls F hr hlk hH hz hS hl
  have hl : lv_has ls 2 [(0, .ref a), (1, .int (iI kd))] := hl
  have hS : va_S (gA g) s.heap s.heap [] := hS
  obtain ⟨H, hHe⟩ : ∃ H : Heap, H = s.heap := ⟨_, rfl⟩
  obtain ⟨locs, hlo⟩ : ∃ k : List Loc, k = [] := ⟨_, rfl⟩
  have hH : gH g I R J AI AJ AR H := by rw [hHe]; exact hH
  have hS : va_S (gA g) s.heap H locs := by rw [hHe, hlo]; exact hS
  suffices hw : W p l e rmX1_takeKind s m ([.ref a, .int (iI kd)] : List Value).toArray below meth c H locs 0 0 (MQ below (gQi g (fun (z : Int) (w : gS) => R = w.2.1 ∧ J = w.2.2.1 ∧ AI = w.2.2.2.1 ∧ AJ = w.2.2.2.2.1 ∧ AR = w.2.2.2.2.2 ∧ (gInv g gh R AR (w.1) AI) ∧ (pS g gh R (w.1) a q ln) ∧ (pF a ln I (w.1)) ∧ ((w.1) ln = I ln) ∧ (z = 0 ∨ z = 1))) ([.ref a, .int (iI kd)] : List Value).toArray s 0 0 (gA g)) (F0 m 0 ls []) by
    rw [hHe, hlo] at hw; exact hw
  clear hHe hlo
  have pf : pF a ln I I := pF_r
  refine lv_aload_n F.1 F.2.1 dX1_takeKind_0 rfl (lv_at hl 0 rfl) ?_
  refine lv_iload_n F.1 F.2.1 dX1_takeKind_1 rfl (lv_at hl 1 rfl) ?_
  refine g_calli (g_runV (As := [.int (iI kd)]) (rest := []) (ci := 1) F hl.1 hH hS hz (c_X1_isKind l g gh I R J AI AJ AR a kd zkd hv hp.1 (by first | exact hp.2.2.2.2.2.2.2 | exact hh | omega)) (cwV 1 F.2.2.2.2.1 gX1_takeKind_X1_isKind rfl rfl rfl hdX1_isKind ⟨Nat.le_of_ble_eq_true rfl, Nat.le_of_ble_eq_true rfl⟩) hp.1 (by decide) rfl rfl rfl (Nat.le_of_ble_eq_true rfl) dX1_takeKind_2 ⟨Nat.zero_le _, Nat.zero_le _⟩) hS (fun v_7 I_1 R_2 J_3 AI_4 AJ_5 AR_6 H locs zv_7 hp_8 hH hS => ?_)
  dsimp only at hp_8
  obtain ⟨rfl, rfl, rfl, rfl, rfl, rfl, q_9⟩ := hp_8
  refine z_if_ne (tgt := 10) F dX1_takeKind_5 (by decide) zv_7 (fun c_10 => ?_) (fun c_10 => ?_)
  · refine lv_aload_n F.1 F.2.1 dX1_takeKind_10 rfl (lv_at hl 0 rfl) ?_
    have hv0 := hv
    refine g_callv (g_runV (As := []) (rest := []) (ci := 1) F hl.1 hH hS hz (c_X1_step l g gh I R J AI AJ AR a hv hp.1 (by first | exact hp.2.2.2.2.2.2.2 | exact hh | omega)) (cwV 0 F.2.2.2.2.1 gX1_takeKind_X1_step rfl rfl rfl hdX1_step ⟨Nat.le_of_ble_eq_true rfl, Nat.le_of_ble_eq_true rfl⟩) hp.1 (by decide) rfl rfl rfl (Nat.le_of_ble_eq_true rfl) dX1_takeKind_11 ⟨Nat.zero_le _, Nat.zero_le _⟩) hS (fun I_11 R_12 J_13 AI_14 AJ_15 AR_16 H locs hp_17 hH hS => ?_)
    dsimp only at hp_17
    obtain ⟨rfl, rfl, rfl, rfl, rfl, hv, fs, hs⟩ := hp_17
    obtain ⟨hp, pfq, fls⟩ := pS_step hv0 hp fs hs
    have pf := pF_t pf pfq
    have u_18q : (I_11 q 1).toInt = (I q 1).toInt := by rw [pF_q hp pfq]
    have u_18_0 : (I_11 ln 0).toInt = (I ln 0).toInt := by rw [fls]
    have u_18_8 : (I_11 ln 8).toInt = (I ln 8).toInt := by rw [fls]
    refine z_iconst F dX1_takeKind_14 ?_
    exact g_iret F hr hlk hH hS hz ⟨by decide, by decide⟩ ⟨rfl, rfl, rfl, rfl, rfl, hv, hp, pf, fls, by first | omega | rfl | (dsimp only; omega)⟩ dX1_takeKind_15
  · refine z_iconst F dX1_takeKind_8 ?_
    exact g_iret F hr hlk hH hS hz ⟨by decide, by decide⟩ ⟨rfl, rfl, rfl, rfl, rfl, hv, hp, pf, rfl, by first | omega | rfl | (dsimp only; omega)⟩ dX1_takeKind_9

def rmX1_takeWord : Room := { frames := 2, cells := 0, slots := 0, locals := 42 }
theorem hdX1_takeWord : yX1_takeWord.cls = RX1 ∧ yX1_takeWord.cls ≠ "java/lang/invoke/MethodHandle" ∧ yX1_takeWord.cls ≠ "java/lang/invoke/VarHandle" ∧ (parseMethodDescriptor yX1_takeWord.desc).map (fun d => d.parameters.length) = some 1 := by decide +kernel
set_option maxHeartbeats 4000000 in
set_option maxRecDepth 100000 in
/-- takes a word -/
theorem c_X1_takeWord (l : Launch) (g : gG) (gh : gGh) (q ln : Nat) (I : gI) (R : gR) (J : gJ) (AI : gI) (AJ : gJ) (AR : gR) (a : Nat) (wn : Int) (zwn : zr wn) (hv : gInv g gh R AR I AI) (hp : pS g gh R I a q ln) : gMet l g yX1_takeWord wsX1_takeWord rmX1_takeWord [.ref a, .int (iI wn)] (I, R, J, AI, AJ, AR) (gQi g (fun (z : Int) (w : gS) => R = w.2.1 ∧ J = w.2.2.1 ∧ AI = w.2.2.2.1 ∧ AJ = w.2.2.2.2.1 ∧ AR = w.2.2.2.2.2 ∧ (gInv g gh R AR (w.1) AI) ∧ (pS g gh R (w.1) a q ln) ∧ (pF a ln I (w.1)) ∧ ((w.1) ln = I ln) ∧ (z = 0 ∨ z = 1))) := by
  refine gStart (cc := cX1_takeWord) (maxL := 2) (ret := (some (.int))) (by decide) rfl (Nat.le_of_ble_eq_true rfl) ?_
  intro p e s m below meth c ls F hr hlk hH hz hS hl
  have hl : lv_has ls 2 [(0, .ref a), (1, .int (iI wn))] := hl
  have hS : va_S (gA g) s.heap s.heap [] := hS
  obtain ⟨H, hHe⟩ : ∃ H : Heap, H = s.heap := ⟨_, rfl⟩
  obtain ⟨locs, hlo⟩ : ∃ k : List Loc, k = [] := ⟨_, rfl⟩
  have hH : gH g I R J AI AJ AR H := by rw [hHe]; exact hH
  have hS : va_S (gA g) s.heap H locs := by rw [hHe, hlo]; exact hS
  suffices hw : W p l e rmX1_takeWord s m ([.ref a, .int (iI wn)] : List Value).toArray below meth c H locs 0 0 (MQ below (gQi g (fun (z : Int) (w : gS) => R = w.2.1 ∧ J = w.2.2.1 ∧ AI = w.2.2.2.1 ∧ AJ = w.2.2.2.2.1 ∧ AR = w.2.2.2.2.2 ∧ (gInv g gh R AR (w.1) AI) ∧ (pS g gh R (w.1) a q ln) ∧ (pF a ln I (w.1)) ∧ ((w.1) ln = I ln) ∧ (z = 0 ∨ z = 1))) ([.ref a, .int (iI wn)] : List Value).toArray s 0 0 (gA g)) (F0 m 0 ls []) by
    rw [hHe, hlo] at hw; exact hw
  clear hHe hlo
  have pf : pF a ln I I := pF_r
  refine lv_aload_n F.1 F.2.1 dX1_takeWord_0 rfl (lv_at hl 0 rfl) ?_
  refine lv_iload_n F.1 F.2.1 dX1_takeWord_1 rfl (lv_at hl 1 rfl) ?_
  refine g_calli (g_runV (As := [.int (iI wn)]) (rest := []) (ci := 1) F hl.1 hH hS hz (c_X1_isWord l g gh I R J AI AJ AR a wn zwn hv hp.1 (by first | exact hp.2.2.2.2.2.2.2 | exact hh | omega)) (cwV 1 F.2.2.2.2.1 gX1_takeWord_X1_isWord rfl rfl rfl hdX1_isWord ⟨Nat.le_of_ble_eq_true rfl, Nat.le_of_ble_eq_true rfl⟩) hp.1 (by decide) rfl rfl rfl (Nat.le_of_ble_eq_true rfl) dX1_takeWord_2 ⟨Nat.zero_le _, Nat.zero_le _⟩) hS (fun v_7 I_1 R_2 J_3 AI_4 AJ_5 AR_6 H locs zv_7 hp_8 hH hS => ?_)
  dsimp only at hp_8
  obtain ⟨rfl, rfl, rfl, rfl, rfl, rfl, q_9⟩ := hp_8
  refine z_if_ne (tgt := 10) F dX1_takeWord_5 (by decide) zv_7 (fun c_10 => ?_) (fun c_10 => ?_)
  · refine lv_aload_n F.1 F.2.1 dX1_takeWord_10 rfl (lv_at hl 0 rfl) ?_
    have hv0 := hv
    refine g_callv (g_runV (As := []) (rest := []) (ci := 1) F hl.1 hH hS hz (c_X1_step l g gh I R J AI AJ AR a hv hp.1 (by first | exact hp.2.2.2.2.2.2.2 | exact hh | omega)) (cwV 0 F.2.2.2.2.1 gX1_takeWord_X1_step rfl rfl rfl hdX1_step ⟨Nat.le_of_ble_eq_true rfl, Nat.le_of_ble_eq_true rfl⟩) hp.1 (by decide) rfl rfl rfl (Nat.le_of_ble_eq_true rfl) dX1_takeWord_11 ⟨Nat.zero_le _, Nat.zero_le _⟩) hS (fun I_11 R_12 J_13 AI_14 AJ_15 AR_16 H locs hp_17 hH hS => ?_)
    dsimp only at hp_17
    obtain ⟨rfl, rfl, rfl, rfl, rfl, hv, fs, hs⟩ := hp_17
    obtain ⟨hp, pfq, fls⟩ := pS_step hv0 hp fs hs
    have pf := pF_t pf pfq
    have u_18q : (I_11 q 1).toInt = (I q 1).toInt := by rw [pF_q hp pfq]
    have u_18_0 : (I_11 ln 0).toInt = (I ln 0).toInt := by rw [fls]
    have u_18_8 : (I_11 ln 8).toInt = (I ln 8).toInt := by rw [fls]
    refine z_iconst F dX1_takeWord_14 ?_
    exact g_iret F hr hlk hH hS hz ⟨by decide, by decide⟩ ⟨rfl, rfl, rfl, rfl, rfl, hv, hp, pf, fls, by first | omega | rfl | (dsimp only; omega)⟩ dX1_takeWord_15
  · refine z_iconst F dX1_takeWord_8 ?_
    exact g_iret F hr hlk hH hS hz ⟨by decide, by decide⟩ ⟨rfl, rfl, rfl, rfl, rfl, hv, hp, pf, rfl, by first | omega | rfl | (dsimp only; omega)⟩ dX1_takeWord_9

def rmX1_seeRelation : Room := { frames := 2, cells := 0, slots := 0, locals := 42 }
theorem hdX1_seeRelation : yX1_seeRelation.cls = RX1 ∧ yX1_seeRelation.cls ≠ "java/lang/invoke/MethodHandle" ∧ yX1_seeRelation.cls ≠ "java/lang/invoke/VarHandle" ∧ (parseMethodDescriptor yX1_seeRelation.desc).map (fun d => d.parameters.length) = some 0 := by decide +kernel
set_option maxHeartbeats 4000000 in
set_option maxRecDepth 100000 in
/-- a relation is here -/
theorem c_X1_seeRelation (l : Launch) (g : gG) (gh : gGh) (q ln : Nat) (I : gI) (R : gR) (J : gJ) (AI : gI) (AJ : gJ) (AR : gR) (a : Nat) (hv : gInv g gh R AR I AI) (hp : pS g gh R I a q ln) : gMet l g yX1_seeRelation wsX1_seeRelation rmX1_seeRelation [.ref a] (I, R, J, AI, AJ, AR) (gQi g (fun (z : Int) (w : gS) => I = w.1 ∧ R = w.2.1 ∧ J = w.2.2.1 ∧ AI = w.2.2.2.1 ∧ AJ = w.2.2.2.2.1 ∧ AR = w.2.2.2.2.2 ∧ (0 ≤ z ∧ z ≤ 3) ∧ (z = 0 → ∃ (j : Nat) (b : Nat), (j : Int) < (I q 1).toInt ∧ AR (gh 6 q) j = some b ∧ J b 1 = AJ (gh 27 0) (I a 3).toInt.toNat))) := by
  refine gStart (cc := cX1_seeRelation) (maxL := 1) (ret := (some (.int))) (by decide) rfl (Nat.le_of_ble_eq_true rfl) ?_
  intro p e s m below meth c ls F hr hlk hH hz hS hl
  have hl : lv_has ls 1 [(0, .ref a)] := hl
  have hS : va_S (gA g) s.heap s.heap [] := hS
  obtain ⟨H, hHe⟩ : ∃ H : Heap, H = s.heap := ⟨_, rfl⟩
  obtain ⟨locs, hlo⟩ : ∃ k : List Loc, k = [] := ⟨_, rfl⟩
  have hH : gH g I R J AI AJ AR H := by rw [hHe]; exact hH
  have hS : va_S (gA g) s.heap H locs := by rw [hHe, hlo]; exact hS
  suffices hw : W p l e rmX1_seeRelation s m ([.ref a] : List Value).toArray below meth c H locs 0 0 (MQ below (gQi g (fun (z : Int) (w : gS) => I = w.1 ∧ R = w.2.1 ∧ J = w.2.2.1 ∧ AI = w.2.2.2.1 ∧ AJ = w.2.2.2.2.1 ∧ AR = w.2.2.2.2.2 ∧ (0 ≤ z ∧ z ≤ 3) ∧ (z = 0 → ∃ (j : Nat) (b : Nat), (j : Int) < (I q 1).toInt ∧ AR (gh 6 q) j = some b ∧ J b 1 = AJ (gh 27 0) (I a 3).toInt.toNat))) ([.ref a] : List Value).toArray s 0 0 (gA g)) (F0 m 0 ls []) by
    rw [hHe, hlo] at hw; exact hw
  clear hHe hlo
  have iX5 : ∀ w ∈ u_ws RX5 TX5 5, w ∈ wsX1_seeRelation := (by decide +kernel)
  have iX1 : ∀ w ∈ u_ws RX1 TX1 4, w ∈ wsX1_seeRelation := (by decide +kernel)
  have k21 : Cond.fieldLink RX1 21 (TX1 1).1 (TX1 1).2.1 (TX1 1).2.2.1 ∈ wsX1_seeRelation := List.mem_of_getElem? (i := 1) rfl
  have k12 : Cond.fieldLink RX1 12 (TX1 0).1 (TX1 0).2.1 (TX1 0).2.2.1 ∈ wsX1_seeRelation := List.mem_of_getElem? (i := 2) rfl
  have k93 : Cond.fieldLink RX1 93 (TX5 3).1 (TX5 3).2.1 (TX5 3).2.2.1 ∈ wsX1_seeRelation := List.mem_of_getElem? (i := 3) rfl
  have k44 : Cond.fieldLink RX1 44 (TX1 3).1 (TX1 3).2.1 (TX1 3).2.2.1 ∈ wsX1_seeRelation := List.mem_of_getElem? (i := 4) rfl
  refine lv_aload_n F.1 F.2.1 dX1_seeRelation_0 rfl (lv_at hl 0 rfl) ?_
  refine z_iconst F dX1_seeRelation_1 ?_
  refine g_calli (g_runV (As := [.int (iI ((-1)))]) (rest := []) (ci := 1) F hl.1 hH hS hz (c_X1_isWord l g gh I R J AI AJ AR a (-1) ⟨by decide, by decide⟩ hv hp.1 (by first | exact hp.2.2.2.2.2.2.2 | exact hh | omega)) (cwV 1 F.2.2.2.2.1 gX1_seeRelation_X1_isWord rfl rfl rfl hdX1_isWord ⟨Nat.le_of_ble_eq_true rfl, Nat.le_of_ble_eq_true rfl⟩) hp.1 (by decide) rfl rfl rfl (Nat.le_of_ble_eq_true rfl) dX1_seeRelation_2 ⟨Nat.zero_le _, Nat.zero_le _⟩) hS (fun v_7 I_1 R_2 J_3 AI_4 AJ_5 AR_6 H locs zv_7 hp_8 hH hS => ?_)
  dsimp only at hp_8
  obtain ⟨rfl, rfl, rfl, rfl, rfl, rfl, q_9⟩ := hp_8
  refine z_if_ne (tgt := 10) F dX1_seeRelation_5 (by decide) zv_7 (fun c_10 => ?_) (fun c_10 => ?_)
  · refine lv_aload_n F.1 F.2.1 dX1_seeRelation_10 rfl (lv_at hl 0 rfl) ?_
    refine g_getR (ci := 1) (k := 1) F hH rfl (by decide) iX1 hp.1 (by decide) rfl (b := q) hp.2.1 k21 dX1_seeRelation_11 ?_
    refine lv_aload_n F.1 F.2.1 dX1_seeRelation_14 rfl (lv_at hl 0 rfl) ?_
    refine g_getR (ci := 1) (k := 0) F hH rfl (by decide) iX1 hp.1 (by decide) rfl (b := gh 22 0) (gR_pr0 hv hp.1).1 k12 dX1_seeRelation_15 ?_
    obtain ⟨r_11a, r_11b⟩ := gR_tk3 hv (gR_pr0 hv hp.1).2
    refine g_getR (ci := 5) (k := 3) F hH rfl (by decide) iX5 (gR_pr0 hv hp.1).2 (by decide) rfl (b := gh 27 0) r_11a k93 dX1_seeRelation_18 ?_
    refine lv_aload_n F.1 F.2.1 dX1_seeRelation_21 rfl (lv_at hl 0 rfl) ?_
    refine g_getI (ci := 1) (k := 3) F hH rfl (by decide) iX1 hp.1 (by decide) rfl k44 dX1_seeRelation_22 ?_
    have b_12h := hp.2.2.2.2.2.2.2
    have b_12 := gI_pr hv hp.1
    have b_12t := gI_tk hv (gR_pr0 hv hp.1).2
    have hx25 : 0 ≤ ((I a 3).toInt) ∧ ((I a 3).toInt) < ((901 : Nat) : Int) ∧ ((I a 3).toInt) ≤ 2147483647 := ⟨by omega, by omega, by omega⟩
    refine g_lald F hH r_11b hx25.1 hx25.2.1 hx25.2.2 dX1_seeRelation_25 ?_
    refine lv_topl (fun j_13 ej_13 => ?_)
    have ejn := ej_13
    have b_14 := gI_plan hv hp.2.2.1
    refine g_calli (g_runV (As := [.long j_13]) (rest := []) (ci := 2) F hl.1 hH hS hz (c_X2_relationOf l g gh I R J AI AJ AR q j_13 hv hp.2.2.1) (cwV 1 F.2.2.2.2.1 gX1_seeRelation_X2_relationOf rfl rfl rfl hdX2_relationOf ⟨Nat.le_of_ble_eq_true rfl, Nat.le_of_ble_eq_true rfl⟩) hp.2.2.1 (by decide) rfl rfl rfl (Nat.le_of_ble_eq_true rfl) dX1_seeRelation_26 ⟨Nat.zero_le _, Nat.zero_le _⟩) hS (fun v_21 I_15 R_16 J_17 AI_18 AJ_19 AR_20 H locs zv_21 hp_22 hH hS => ?_)
    dsimp only at hp_22
    obtain ⟨rfl, rfl, rfl, rfl, rfl, rfl, qr⟩ := hp_22
    refine z_iconst F dX1_seeRelation_29 ?_
    refine z_icmp_ne (tgt := 37) F dX1_seeRelation_30 (by decide) zv_21 ⟨by decide, by decide⟩ (fun c_23 => ?_) (fun c_23 => ?_)
    · refine z_iconst F dX1_seeRelation_37 ?_
      exact g_iret F hr hlk hH hS hz ⟨by decide, by decide⟩ ⟨rfl, rfl, rfl, rfl, rfl, rfl, by first | omega | rfl | (dsimp only; omega), fun h0 => by
        rcases qr with ⟨h, _⟩ | ⟨h1, h2, b, h3, h4⟩
        · exact absurd h (by omega)
        · exact ⟨_, b, by omega, h3, h4.trans ejn⟩⟩ dX1_seeRelation_38
    · refine z_iconst F dX1_seeRelation_33 ?_
      refine z_goto (tgt := 38) F dX1_seeRelation_34 (by decide) ?_
      exact g_iret F hr hlk hH hS hz ⟨by decide, by decide⟩ ⟨rfl, rfl, rfl, rfl, rfl, rfl, by first | omega | rfl | (dsimp only; omega), fun h0 => by
        rcases qr with ⟨h, _⟩ | ⟨h1, h2, b, h3, h4⟩
        · exact absurd h (by omega)
        · exact ⟨_, b, by omega, h3, h4.trans ejn⟩⟩ dX1_seeRelation_38
  · refine z_iconst F dX1_seeRelation_8 ?_
    exact g_iret F hr hlk hH hS hz ⟨by decide, by decide⟩ ⟨rfl, rfl, rfl, rfl, rfl, rfl, by first | omega | rfl | (dsimp only; omega), fun h => absurd h (by omega)⟩ dX1_seeRelation_9

def rmX1_readFirst : Room := { frames := 3, cells := 0, slots := 0, locals := 62 }
theorem hdX1_readFirst : yX1_readFirst.cls = RX1 ∧ yX1_readFirst.cls ≠ "java/lang/invoke/MethodHandle" ∧ yX1_readFirst.cls ≠ "java/lang/invoke/VarHandle" ∧ (parseMethodDescriptor yX1_readFirst.desc).map (fun d => d.parameters.length) = some 0 := by decide +kernel
set_option maxHeartbeats 4000000 in
set_option maxRecDepth 100000 in
/-- the first relation -/
theorem c_X1_readFirst (l : Launch) (g : gG) (gh : gGh) (q ln : Nat) (I : gI) (R : gR) (J : gJ) (AI : gI) (AJ : gJ) (AR : gR) (a : Nat) (hv : gInv g gh R AR I AI) (hp : pS g gh R I a q ln) (hk0 : (I ln 0).toInt ≠ 0) : gMet l g yX1_readFirst wsX1_readFirst rmX1_readFirst [.ref a] (I, R, J, AI, AJ, AR) (gQi g (fun (z : Int) (w : gS) => R = w.2.1 ∧ J = w.2.2.1 ∧ AI = w.2.2.2.1 ∧ AJ = w.2.2.2.2.1 ∧ AR = w.2.2.2.2.2 ∧ (gInv g gh R AR (w.1) AI) ∧ (pS g gh R (w.1) a q ln) ∧ (pF a ln I (w.1)) ∧ (((w.1) ln 8).toInt = (I ln 8).toInt) ∧ (0 ≤ z ∧ z ≤ 3))) := by
  refine gStart (cc := cX1_readFirst) (maxL := 2) (ret := (some (.int))) (by decide) rfl (Nat.le_of_ble_eq_true rfl) ?_
  intro p e s m below meth c ls F hr hlk hH hz hS hl
  have hl : lv_has ls 2 [(0, .ref a)] := hl
  have hS : va_S (gA g) s.heap s.heap [] := hS
  obtain ⟨H, hHe⟩ : ∃ H : Heap, H = s.heap := ⟨_, rfl⟩
  obtain ⟨locs, hlo⟩ : ∃ k : List Loc, k = [] := ⟨_, rfl⟩
  have hH : gH g I R J AI AJ AR H := by rw [hHe]; exact hH
  have hS : va_S (gA g) s.heap H locs := by rw [hHe, hlo]; exact hS
  suffices hw : W p l e rmX1_readFirst s m ([.ref a] : List Value).toArray below meth c H locs 0 0 (MQ below (gQi g (fun (z : Int) (w : gS) => R = w.2.1 ∧ J = w.2.2.1 ∧ AI = w.2.2.2.1 ∧ AJ = w.2.2.2.2.1 ∧ AR = w.2.2.2.2.2 ∧ (gInv g gh R AR (w.1) AI) ∧ (pS g gh R (w.1) a q ln) ∧ (pF a ln I (w.1)) ∧ (((w.1) ln 8).toInt = (I ln 8).toInt) ∧ (0 ≤ z ∧ z ≤ 3))) ([.ref a] : List Value).toArray s 0 0 (gA g)) (F0 m 0 ls []) by
    rw [hHe, hlo] at hw; exact hw
  clear hHe hlo
  have pf : pF a ln I I := pF_r
  have iX5 : ∀ w ∈ u_ws RX5 TX5 5, w ∈ wsX1_readFirst := (by decide +kernel)
  have iX2 : ∀ w ∈ u_ws RX2 TX2 3, w ∈ wsX1_readFirst := (by decide +kernel)
  have iX1 : ∀ w ∈ u_ws RX1 TX1 4, w ∈ wsX1_readFirst := (by decide +kernel)
  have iX0 : ∀ w ∈ u_ws RX0 TX0 15, w ∈ wsX1_readFirst := (by decide +kernel)
  have k29 : Cond.fieldLink RX1 29 (TX1 2).1 (TX1 2).2.1 (TX1 2).2.2.1 ∈ wsX1_readFirst := List.mem_of_getElem? (i := 1) rfl
  have k21 : Cond.fieldLink RX1 21 (TX1 1).1 (TX1 1).2.1 (TX1 1).2.2.1 ∈ wsX1_readFirst := List.mem_of_getElem? (i := 2) rfl
  have k12 : Cond.fieldLink RX1 12 (TX1 0).1 (TX1 0).2.1 (TX1 0).2.2.1 ∈ wsX1_readFirst := List.mem_of_getElem? (i := 3) rfl
  have k93 : Cond.fieldLink RX1 93 (TX5 3).1 (TX5 3).2.1 (TX5 3).2.2.1 ∈ wsX1_readFirst := List.mem_of_getElem? (i := 4) rfl
  have k44 : Cond.fieldLink RX1 44 (TX1 3).1 (TX1 3).2.1 (TX1 3).2.2.1 ∈ wsX1_readFirst := List.mem_of_getElem? (i := 5) rfl
  have k155 : Cond.fieldLink RX1 155 (TX0 3).1 (TX0 3).2.1 (TX0 3).2.2.1 ∈ wsX1_readFirst := List.mem_of_getElem? (i := 6) rfl
  have k25 : Cond.fieldLink RX1 25 (TX2 0).1 (TX2 0).2.1 (TX2 0).2.2.1 ∈ wsX1_readFirst := List.mem_of_getElem? (i := 7) rfl
  have k136 : Cond.fieldLink RX1 136 (TX0 2).1 (TX0 2).2.1 (TX0 2).2.2.1 ∈ wsX1_readFirst := List.mem_of_getElem? (i := 8) rfl
  have k143 : Cond.fieldLink RX1 143 (TX0 5).1 (TX0 5).2.1 (TX0 5).2.2.1 ∈ wsX1_readFirst := List.mem_of_getElem? (i := 9) rfl
  refine lv_aload_n F.1 F.2.1 dX1_readFirst_0 rfl (lv_at hl 0 rfl) ?_
  refine g_calli (g_runV (As := []) (rest := []) (ci := 1) F hl.1 hH hS hz (c_X1_seeRelation l g gh q ln I R J AI AJ AR a hv hp) (cwV 0 F.2.2.2.2.1 gX1_readFirst_X1_seeRelation rfl rfl rfl hdX1_seeRelation ⟨Nat.le_of_ble_eq_true rfl, Nat.le_of_ble_eq_true rfl⟩) hp.1 (by decide) rfl rfl rfl (Nat.le_of_ble_eq_true rfl) dX1_readFirst_1 ⟨Nat.zero_le _, Nat.zero_le _⟩) hS (fun v_7 I_1 R_2 J_3 AI_4 AJ_5 AR_6 H locs zv_7 hp_8 hH hS => ?_)
  dsimp only at hp_8
  obtain ⟨rfl, rfl, rfl, rfl, rfl, rfl, qz, qs⟩ := hp_8
  refine lv_istore_n (lv' := [(1, .int (iI v_7)), (0, .ref a)]) F.1 F.2.1 dX1_readFirst_4 rfl hl (by decide) rfl (fun ls hl => ?_)
  refine lv_iload_n F.1 F.2.1 dX1_readFirst_5 rfl (lv_at hl 0 rfl) ?_
  refine z_if_ne (tgt := 64) F dX1_readFirst_6 (by decide) zv_7 (fun c_9 => ?_) (fun c_9 => ?_)
  · refine lv_iload_n F.1 F.2.1 dX1_readFirst_64 rfl (lv_at hl 0 rfl) ?_
    exact g_iret F hr hlk hH hS hz zv_7 ⟨rfl, rfl, rfl, rfl, rfl, hv, hp, pf, by first | omega | rfl | (dsimp only; omega), by first | omega | rfl | (dsimp only; omega)⟩ dX1_readFirst_65
  · refine lv_aload_n F.1 F.2.1 dX1_readFirst_9 rfl (lv_at hl 1 rfl) ?_
    refine g_getR (ci := 1) (k := 2) F hH rfl (by decide) iX1 hp.1 (by decide) rfl (b := ln) hp.2.2.2.1 k29 dX1_readFirst_10 ?_
    refine lv_aload_n F.1 F.2.1 dX1_readFirst_13 rfl (lv_at hl 1 rfl) ?_
    refine g_getR (ci := 1) (k := 1) F hH rfl (by decide) iX1 hp.1 (by decide) rfl (b := q) hp.2.1 k21 dX1_readFirst_14 ?_
    refine lv_aload_n F.1 F.2.1 dX1_readFirst_17 rfl (lv_at hl 1 rfl) ?_
    refine g_getR (ci := 1) (k := 0) F hH rfl (by decide) iX1 hp.1 (by decide) rfl (b := gh 22 0) (gR_pr0 hv hp.1).1 k12 dX1_readFirst_18 ?_
    obtain ⟨r_10a, r_10b⟩ := gR_tk3 hv (gR_pr0 hv hp.1).2
    refine g_getR (ci := 5) (k := 3) F hH rfl (by decide) iX5 (gR_pr0 hv hp.1).2 (by decide) rfl (b := gh 27 0) r_10a k93 dX1_readFirst_21 ?_
    refine lv_aload_n F.1 F.2.1 dX1_readFirst_24 rfl (lv_at hl 1 rfl) ?_
    refine g_getI (ci := 1) (k := 3) F hH rfl (by decide) iX1 hp.1 (by decide) rfl k44 dX1_readFirst_25 ?_
    have b_11h := hp.2.2.2.2.2.2.2
    have b_11 := gI_pr hv hp.1
    have b_11t := gI_tk hv (gR_pr0 hv hp.1).2
    have hx28 : 0 ≤ ((I a 3).toInt) ∧ ((I a 3).toInt) < ((901 : Nat) : Int) ∧ ((I a 3).toInt) ≤ 2147483647 := ⟨by omega, by omega, by omega⟩
    refine g_lald F hH r_10b hx28.1 hx28.2.1 hx28.2.2 dX1_readFirst_28 ?_
    refine lv_topl (fun j_12 ej_12 => ?_)
    have ejn := ej_12
    have b_13 := gI_plan hv hp.2.2.1
    refine g_calli (g_runV (As := [.long j_12]) (rest := [.ref ln]) (ci := 2) F hl.1 hH hS hz (c_X2_relationOf l g gh I R J AI AJ AR q j_12 hv hp.2.2.1) (cwV 1 F.2.2.2.2.1 gX1_readFirst_X2_relationOf rfl rfl rfl hdX2_relationOf ⟨Nat.le_of_ble_eq_true rfl, Nat.le_of_ble_eq_true rfl⟩) hp.2.2.1 (by decide) rfl rfl rfl (Nat.le_of_ble_eq_true rfl) dX1_readFirst_29 ⟨Nat.zero_le _, Nat.zero_le _⟩) hS (fun v_20 I_14 R_15 J_16 AI_17 AJ_18 AR_19 H locs zv_20 hp_21 hH hS => ?_)
    dsimp only at hp_21
    obtain ⟨rfl, rfl, rfl, rfl, rfl, rfl, qr⟩ := hp_21
    have hvr : 0 ≤ v_20 ∧ v_20 < (I q 1).toInt := by
        rcases qr with ⟨h, h2⟩ | ⟨h1, h2, b, h3, h4⟩
        · obtain ⟨j, b, hj, hb, hJ⟩ := qs (by omega)
          exact absurd (hJ.trans ejn.symm) (h2 j hj b hb)
        · exact ⟨h1, h2⟩
    clear qs qr
    refine g_putI (ci := 0) (k := 3) F hH hS rfl (by decide) iX0 hp.2.2.2.2.1 (by decide) tyX0 tyX0_ok nmX0 rfl rfl rfl k155 dX1_readFirst_32 (fun H locs hH hS => ?_)
    obtain ⟨I_22, eI_22⟩ : ∃ qQ, qQ = gup2 I ln 3 (iI (v_20)) := ⟨_, rfl⟩
    rw [← eI_22] at hH
    have kI_22 : ∀ b, b ≠ ln → I_22 b = I b := fun b hb => by rw [eI_22]; exact funext fun j => gup2_a _ _ hb
    have w_23 : (I_22 ln 3).toInt = v_20 := by rw [eI_22, gup2_s]; exact iI_val ⟨by omega, by omega⟩
    have hp2 : pS g gh R I_22 a q ln := pS_ln hv hp kI_22
    have hv : gInv g gh R AR I_22 AI := by rw [eI_22]; exact gInv_line3 hv hp.2.2.2.2.1 (by omega) (by omega) (by omega)
    have hp := hp2
    have pf : pF a ln I I_22 := pF_t pf (by rw [eI_22]; exact pF_ln (by decide))
    have w_23_k : ∀ j, j ≠ 3 → I_22 ln j = I ln j := fun j hj => by rw [eI_22]; exact gup2_k _ _ hj
    have u_24q : (I_22 q 1).toInt = (I q 1).toInt := by rw [kI_22 q (gO_ne hp.2.2.1 hp.2.2.2.2.1 (by decide))]
    have u_24_0 : (I_22 ln 0).toInt = (I ln 0).toInt := by rw [w_23_k 0 (by decide)]
    have u_24_8 : (I_22 ln 8).toInt = (I ln 8).toInt := by rw [w_23_k 8 (by decide)]
    refine lv_aload_n F.1 F.2.1 dX1_readFirst_35 rfl (lv_at hl 1 rfl) ?_
    refine g_getR (ci := 1) (k := 2) F hH rfl (by decide) iX1 hp.1 (by decide) rfl (b := ln) hp.2.2.2.1 k29 dX1_readFirst_36 ?_
    refine lv_aload_n F.1 F.2.1 dX1_readFirst_39 rfl (lv_at hl 1 rfl) ?_
    refine g_getR (ci := 1) (k := 1) F hH rfl (by decide) iX1 hp.1 (by decide) rfl (b := q) hp.2.1 k21 dX1_readFirst_40 ?_
    obtain ⟨r_25a, r_25b⟩ := gR_lines hv hp.2.2.1
    refine g_getR (ci := 2) (k := 0) F hH rfl (by decide) iX2 hp.2.2.1 (by decide) rfl (b := gh 6 q) r_25a k25 dX1_readFirst_43 ?_
    refine lv_aload_n F.1 F.2.1 dX1_readFirst_46 rfl (lv_at hl 1 rfl) ?_
    refine g_getR (ci := 1) (k := 2) F hH rfl (by decide) iX1 hp.1 (by decide) rfl (b := ln) hp.2.2.2.1 k29 dX1_readFirst_47 ?_
    refine g_getI (ci := 0) (k := 3) F hH rfl (by decide) iX0 hp.2.2.2.2.1 (by decide) rfl k155 dX1_readFirst_50 ?_
    have b_26 := gI_line hv hp.2.2.2.2.1
    unfold vLineI at b_26
    have hx53 : 0 ≤ ((I_22 ln 3).toInt) ∧ ((I_22 ln 3).toInt) < ((16 : Nat) : Int) ∧ ((I_22 ln 3).toInt) ≤ 2147483647 := ⟨by omega, by omega, by omega⟩
    obtain ⟨y_27, y_27a, y_27b, y_27c, y_27d⟩ := gA_lines hv hp.2.2.1 (z := (I_22 ln 3).toInt) (by omega) (by omega)
    refine g_aldL F hH r_25b hx53.1 hx53.2.1 hx53.2.2 (b := y_27) y_27a dX1_readFirst_53 ?_
    have hc4 := (hv.2.2.1 y_27 y_27b).2.2.2 (by rw [y_27c]; omega)
    refine g_getI (ci := 0) (k := 2) F hH rfl (by decide) iX0 y_27b (by decide) rfl k136 dX1_readFirst_54 ?_
    have b_28 := gI_line hv y_27b
    unfold vLineI at b_28
    refine g_putI (ci := 0) (k := 5) F hH hS rfl (by decide) iX0 hp.2.2.2.2.1 (by decide) tyX0 tyX0_ok nmX0 rfl rfl rfl k143 dX1_readFirst_57 (fun H locs hH hS => ?_)
    obtain ⟨I_29, eI_29⟩ : ∃ qQ, qQ = gup2 I_22 ln 5 (iI ((I_22 y_27 2).toInt)) := ⟨_, rfl⟩
    rw [← eI_29] at hH
    have kI_29 : ∀ b, b ≠ ln → I_29 b = I_22 b := fun b hb => by rw [eI_29]; exact funext fun j => gup2_a _ _ hb
    have w_30 : (I_29 ln 5).toInt = (I_22 y_27 2).toInt := by rw [eI_29, gup2_s]; exact iI_val ⟨by omega, by omega⟩
    have hp2 : pS g gh R I_29 a q ln := pS_ln hv hp kI_29
    have hv : gInv g gh R AR I_29 AI := by rw [eI_29]; exact gInv_line5 hv hp.2.2.2.2.1 (by omega) (by omega)
    have hp := hp2
    have pf : pF a ln I I_29 := pF_t pf (by rw [eI_29]; exact pF_ln (by decide))
    have w_30_k : ∀ j, j ≠ 5 → I_29 ln j = I_22 ln j := fun j hj => by rw [eI_29]; exact gup2_k _ _ hj
    have u_31q : (I_29 q 1).toInt = (I_22 q 1).toInt := by rw [kI_29 q (gO_ne hp.2.2.1 hp.2.2.2.2.1 (by decide))]
    have u_31_0 : (I_29 ln 0).toInt = (I_22 ln 0).toInt := by rw [w_30_k 0 (by decide)]
    have u_31_8 : (I_29 ln 8).toInt = (I_22 ln 8).toInt := by rw [w_30_k 8 (by decide)]
    refine lv_aload_n F.1 F.2.1 dX1_readFirst_60 rfl (lv_at hl 1 rfl) ?_
    have hv0 := hv
    refine g_callv (g_runV (As := []) (rest := []) (ci := 1) F hl.1 hH hS hz (c_X1_step l g gh I_29 R J AI AJ AR a hv hp.1 (by first | exact hp.2.2.2.2.2.2.2 | exact hh | omega)) (cwV 0 F.2.2.2.2.1 gX1_readFirst_X1_step rfl rfl rfl hdX1_step ⟨Nat.le_of_ble_eq_true rfl, Nat.le_of_ble_eq_true rfl⟩) hp.1 (by decide) rfl rfl rfl (Nat.le_of_ble_eq_true rfl) dX1_readFirst_61 ⟨Nat.zero_le _, Nat.zero_le _⟩) hS (fun I_32 R_33 J_34 AI_35 AJ_36 AR_37 H locs hp_38 hH hS => ?_)
    dsimp only at hp_38
    obtain ⟨rfl, rfl, rfl, rfl, rfl, hv, fs, hs⟩ := hp_38
    obtain ⟨hp, pfq, fls⟩ := pS_step hv0 hp fs hs
    have pf := pF_t pf pfq
    have u_39q : (I_32 q 1).toInt = (I_29 q 1).toInt := by rw [pF_q hp pfq]
    have u_39_0 : (I_32 ln 0).toInt = (I_29 ln 0).toInt := by rw [fls]
    have u_39_8 : (I_32 ln 8).toInt = (I_29 ln 8).toInt := by rw [fls]
    refine lv_iload_n F.1 F.2.1 dX1_readFirst_64 rfl (lv_at hl 0 rfl) ?_
    exact g_iret F hr hlk hH hS hz zv_7 ⟨rfl, rfl, rfl, rfl, rfl, hv, hp, pf, by first | omega | rfl | (dsimp only; omega), by first | omega | rfl | (dsimp only; omega)⟩ dX1_readFirst_65

def rmX1_readSecond : Room := { frames := 3, cells := 0, slots := 0, locals := 62 }
theorem hdX1_readSecond : yX1_readSecond.cls = RX1 ∧ yX1_readSecond.cls ≠ "java/lang/invoke/MethodHandle" ∧ yX1_readSecond.cls ≠ "java/lang/invoke/VarHandle" ∧ (parseMethodDescriptor yX1_readSecond.desc).map (fun d => d.parameters.length) = some 0 := by decide +kernel
set_option maxHeartbeats 4000000 in
set_option maxRecDepth 100000 in
/-- the second relation -/
theorem c_X1_readSecond (l : Launch) (g : gG) (gh : gGh) (q ln : Nat) (I : gI) (R : gR) (J : gJ) (AI : gI) (AJ : gJ) (AR : gR) (a : Nat) (hv : gInv g gh R AR I AI) (hp : pS g gh R I a q ln) (hk0 : (I ln 0).toInt ≠ 0) : gMet l g yX1_readSecond wsX1_readSecond rmX1_readSecond [.ref a] (I, R, J, AI, AJ, AR) (gQi g (fun (z : Int) (w : gS) => R = w.2.1 ∧ J = w.2.2.1 ∧ AI = w.2.2.2.1 ∧ AJ = w.2.2.2.2.1 ∧ AR = w.2.2.2.2.2 ∧ (gInv g gh R AR (w.1) AI) ∧ (pS g gh R (w.1) a q ln) ∧ (pF a ln I (w.1)) ∧ (((w.1) ln 8).toInt = (I ln 8).toInt) ∧ (0 ≤ z ∧ z ≤ 3))) := by
  refine gStart (cc := cX1_readSecond) (maxL := 2) (ret := (some (.int))) (by decide) rfl (Nat.le_of_ble_eq_true rfl) ?_
  intro p e s m below meth c ls F hr hlk hH hz hS hl
  have hl : lv_has ls 2 [(0, .ref a)] := hl
  have hS : va_S (gA g) s.heap s.heap [] := hS
  obtain ⟨H, hHe⟩ : ∃ H : Heap, H = s.heap := ⟨_, rfl⟩
  obtain ⟨locs, hlo⟩ : ∃ k : List Loc, k = [] := ⟨_, rfl⟩
  have hH : gH g I R J AI AJ AR H := by rw [hHe]; exact hH
  have hS : va_S (gA g) s.heap H locs := by rw [hHe, hlo]; exact hS
  suffices hw : W p l e rmX1_readSecond s m ([.ref a] : List Value).toArray below meth c H locs 0 0 (MQ below (gQi g (fun (z : Int) (w : gS) => R = w.2.1 ∧ J = w.2.2.1 ∧ AI = w.2.2.2.1 ∧ AJ = w.2.2.2.2.1 ∧ AR = w.2.2.2.2.2 ∧ (gInv g gh R AR (w.1) AI) ∧ (pS g gh R (w.1) a q ln) ∧ (pF a ln I (w.1)) ∧ (((w.1) ln 8).toInt = (I ln 8).toInt) ∧ (0 ≤ z ∧ z ≤ 3))) ([.ref a] : List Value).toArray s 0 0 (gA g)) (F0 m 0 ls []) by
    rw [hHe, hlo] at hw; exact hw
  clear hHe hlo
  have pf : pF a ln I I := pF_r
  have iX5 : ∀ w ∈ u_ws RX5 TX5 5, w ∈ wsX1_readSecond := (by decide +kernel)
  have iX2 : ∀ w ∈ u_ws RX2 TX2 3, w ∈ wsX1_readSecond := (by decide +kernel)
  have iX1 : ∀ w ∈ u_ws RX1 TX1 4, w ∈ wsX1_readSecond := (by decide +kernel)
  have iX0 : ∀ w ∈ u_ws RX0 TX0 15, w ∈ wsX1_readSecond := (by decide +kernel)
  have k29 : Cond.fieldLink RX1 29 (TX1 2).1 (TX1 2).2.1 (TX1 2).2.2.1 ∈ wsX1_readSecond := List.mem_of_getElem? (i := 1) rfl
  have k21 : Cond.fieldLink RX1 21 (TX1 1).1 (TX1 1).2.1 (TX1 1).2.2.1 ∈ wsX1_readSecond := List.mem_of_getElem? (i := 2) rfl
  have k12 : Cond.fieldLink RX1 12 (TX1 0).1 (TX1 0).2.1 (TX1 0).2.2.1 ∈ wsX1_readSecond := List.mem_of_getElem? (i := 3) rfl
  have k93 : Cond.fieldLink RX1 93 (TX5 3).1 (TX5 3).2.1 (TX5 3).2.2.1 ∈ wsX1_readSecond := List.mem_of_getElem? (i := 4) rfl
  have k44 : Cond.fieldLink RX1 44 (TX1 3).1 (TX1 3).2.1 (TX1 3).2.2.1 ∈ wsX1_readSecond := List.mem_of_getElem? (i := 5) rfl
  have k158 : Cond.fieldLink RX1 158 (TX0 4).1 (TX0 4).2.1 (TX0 4).2.2.1 ∈ wsX1_readSecond := List.mem_of_getElem? (i := 6) rfl
  have k25 : Cond.fieldLink RX1 25 (TX2 0).1 (TX2 0).2.1 (TX2 0).2.2.1 ∈ wsX1_readSecond := List.mem_of_getElem? (i := 7) rfl
  have k136 : Cond.fieldLink RX1 136 (TX0 2).1 (TX0 2).2.1 (TX0 2).2.2.1 ∈ wsX1_readSecond := List.mem_of_getElem? (i := 8) rfl
  have k146 : Cond.fieldLink RX1 146 (TX0 6).1 (TX0 6).2.1 (TX0 6).2.2.1 ∈ wsX1_readSecond := List.mem_of_getElem? (i := 9) rfl
  refine lv_aload_n F.1 F.2.1 dX1_readSecond_0 rfl (lv_at hl 0 rfl) ?_
  refine g_calli (g_runV (As := []) (rest := []) (ci := 1) F hl.1 hH hS hz (c_X1_seeRelation l g gh q ln I R J AI AJ AR a hv hp) (cwV 0 F.2.2.2.2.1 gX1_readSecond_X1_seeRelation rfl rfl rfl hdX1_seeRelation ⟨Nat.le_of_ble_eq_true rfl, Nat.le_of_ble_eq_true rfl⟩) hp.1 (by decide) rfl rfl rfl (Nat.le_of_ble_eq_true rfl) dX1_readSecond_1 ⟨Nat.zero_le _, Nat.zero_le _⟩) hS (fun v_7 I_1 R_2 J_3 AI_4 AJ_5 AR_6 H locs zv_7 hp_8 hH hS => ?_)
  dsimp only at hp_8
  obtain ⟨rfl, rfl, rfl, rfl, rfl, rfl, qz, qs⟩ := hp_8
  refine lv_istore_n (lv' := [(1, .int (iI v_7)), (0, .ref a)]) F.1 F.2.1 dX1_readSecond_4 rfl hl (by decide) rfl (fun ls hl => ?_)
  refine lv_iload_n F.1 F.2.1 dX1_readSecond_5 rfl (lv_at hl 0 rfl) ?_
  refine z_if_ne (tgt := 64) F dX1_readSecond_6 (by decide) zv_7 (fun c_9 => ?_) (fun c_9 => ?_)
  · refine lv_iload_n F.1 F.2.1 dX1_readSecond_64 rfl (lv_at hl 0 rfl) ?_
    exact g_iret F hr hlk hH hS hz zv_7 ⟨rfl, rfl, rfl, rfl, rfl, hv, hp, pf, by first | omega | rfl | (dsimp only; omega), by first | omega | rfl | (dsimp only; omega)⟩ dX1_readSecond_65
  · refine lv_aload_n F.1 F.2.1 dX1_readSecond_9 rfl (lv_at hl 1 rfl) ?_
    refine g_getR (ci := 1) (k := 2) F hH rfl (by decide) iX1 hp.1 (by decide) rfl (b := ln) hp.2.2.2.1 k29 dX1_readSecond_10 ?_
    refine lv_aload_n F.1 F.2.1 dX1_readSecond_13 rfl (lv_at hl 1 rfl) ?_
    refine g_getR (ci := 1) (k := 1) F hH rfl (by decide) iX1 hp.1 (by decide) rfl (b := q) hp.2.1 k21 dX1_readSecond_14 ?_
    refine lv_aload_n F.1 F.2.1 dX1_readSecond_17 rfl (lv_at hl 1 rfl) ?_
    refine g_getR (ci := 1) (k := 0) F hH rfl (by decide) iX1 hp.1 (by decide) rfl (b := gh 22 0) (gR_pr0 hv hp.1).1 k12 dX1_readSecond_18 ?_
    obtain ⟨r_10a, r_10b⟩ := gR_tk3 hv (gR_pr0 hv hp.1).2
    refine g_getR (ci := 5) (k := 3) F hH rfl (by decide) iX5 (gR_pr0 hv hp.1).2 (by decide) rfl (b := gh 27 0) r_10a k93 dX1_readSecond_21 ?_
    refine lv_aload_n F.1 F.2.1 dX1_readSecond_24 rfl (lv_at hl 1 rfl) ?_
    refine g_getI (ci := 1) (k := 3) F hH rfl (by decide) iX1 hp.1 (by decide) rfl k44 dX1_readSecond_25 ?_
    have b_11h := hp.2.2.2.2.2.2.2
    have b_11 := gI_pr hv hp.1
    have b_11t := gI_tk hv (gR_pr0 hv hp.1).2
    have hx28 : 0 ≤ ((I a 3).toInt) ∧ ((I a 3).toInt) < ((901 : Nat) : Int) ∧ ((I a 3).toInt) ≤ 2147483647 := ⟨by omega, by omega, by omega⟩
    refine g_lald F hH r_10b hx28.1 hx28.2.1 hx28.2.2 dX1_readSecond_28 ?_
    refine lv_topl (fun j_12 ej_12 => ?_)
    have ejn := ej_12
    have b_13 := gI_plan hv hp.2.2.1
    refine g_calli (g_runV (As := [.long j_12]) (rest := [.ref ln]) (ci := 2) F hl.1 hH hS hz (c_X2_relationOf l g gh I R J AI AJ AR q j_12 hv hp.2.2.1) (cwV 1 F.2.2.2.2.1 gX1_readSecond_X2_relationOf rfl rfl rfl hdX2_relationOf ⟨Nat.le_of_ble_eq_true rfl, Nat.le_of_ble_eq_true rfl⟩) hp.2.2.1 (by decide) rfl rfl rfl (Nat.le_of_ble_eq_true rfl) dX1_readSecond_29 ⟨Nat.zero_le _, Nat.zero_le _⟩) hS (fun v_20 I_14 R_15 J_16 AI_17 AJ_18 AR_19 H locs zv_20 hp_21 hH hS => ?_)
    dsimp only at hp_21
    obtain ⟨rfl, rfl, rfl, rfl, rfl, rfl, qr⟩ := hp_21
    have hvr : 0 ≤ v_20 ∧ v_20 < (I q 1).toInt := by
        rcases qr with ⟨h, h2⟩ | ⟨h1, h2, b, h3, h4⟩
        · obtain ⟨j, b, hj, hb, hJ⟩ := qs (by omega)
          exact absurd (hJ.trans ejn.symm) (h2 j hj b hb)
        · exact ⟨h1, h2⟩
    clear qs qr
    refine g_putI (ci := 0) (k := 4) F hH hS rfl (by decide) iX0 hp.2.2.2.2.1 (by decide) tyX0 tyX0_ok nmX0 rfl rfl rfl k158 dX1_readSecond_32 (fun H locs hH hS => ?_)
    obtain ⟨I_22, eI_22⟩ : ∃ qQ, qQ = gup2 I ln 4 (iI (v_20)) := ⟨_, rfl⟩
    rw [← eI_22] at hH
    have kI_22 : ∀ b, b ≠ ln → I_22 b = I b := fun b hb => by rw [eI_22]; exact funext fun j => gup2_a _ _ hb
    have w_23 : (I_22 ln 4).toInt = v_20 := by rw [eI_22, gup2_s]; exact iI_val ⟨by omega, by omega⟩
    have hp2 : pS g gh R I_22 a q ln := pS_ln hv hp kI_22
    have hv : gInv g gh R AR I_22 AI := by rw [eI_22]; exact gInv_line4 hv hp.2.2.2.2.1 (by omega) (by omega)
    have hp := hp2
    have pf : pF a ln I I_22 := pF_t pf (by rw [eI_22]; exact pF_ln (by decide))
    have w_23_k : ∀ j, j ≠ 4 → I_22 ln j = I ln j := fun j hj => by rw [eI_22]; exact gup2_k _ _ hj
    have u_24q : (I_22 q 1).toInt = (I q 1).toInt := by rw [kI_22 q (gO_ne hp.2.2.1 hp.2.2.2.2.1 (by decide))]
    have u_24_0 : (I_22 ln 0).toInt = (I ln 0).toInt := by rw [w_23_k 0 (by decide)]
    have u_24_8 : (I_22 ln 8).toInt = (I ln 8).toInt := by rw [w_23_k 8 (by decide)]
    refine lv_aload_n F.1 F.2.1 dX1_readSecond_35 rfl (lv_at hl 1 rfl) ?_
    refine g_getR (ci := 1) (k := 2) F hH rfl (by decide) iX1 hp.1 (by decide) rfl (b := ln) hp.2.2.2.1 k29 dX1_readSecond_36 ?_
    refine lv_aload_n F.1 F.2.1 dX1_readSecond_39 rfl (lv_at hl 1 rfl) ?_
    refine g_getR (ci := 1) (k := 1) F hH rfl (by decide) iX1 hp.1 (by decide) rfl (b := q) hp.2.1 k21 dX1_readSecond_40 ?_
    obtain ⟨r_25a, r_25b⟩ := gR_lines hv hp.2.2.1
    refine g_getR (ci := 2) (k := 0) F hH rfl (by decide) iX2 hp.2.2.1 (by decide) rfl (b := gh 6 q) r_25a k25 dX1_readSecond_43 ?_
    refine lv_aload_n F.1 F.2.1 dX1_readSecond_46 rfl (lv_at hl 1 rfl) ?_
    refine g_getR (ci := 1) (k := 2) F hH rfl (by decide) iX1 hp.1 (by decide) rfl (b := ln) hp.2.2.2.1 k29 dX1_readSecond_47 ?_
    refine g_getI (ci := 0) (k := 4) F hH rfl (by decide) iX0 hp.2.2.2.2.1 (by decide) rfl k158 dX1_readSecond_50 ?_
    have b_26 := gI_line hv hp.2.2.2.2.1
    unfold vLineI at b_26
    have hx53 : 0 ≤ ((I_22 ln 4).toInt) ∧ ((I_22 ln 4).toInt) < ((16 : Nat) : Int) ∧ ((I_22 ln 4).toInt) ≤ 2147483647 := ⟨by omega, by omega, by omega⟩
    obtain ⟨y_27, y_27a, y_27b, y_27c, y_27d⟩ := gA_lines hv hp.2.2.1 (z := (I_22 ln 4).toInt) (by omega) (by omega)
    refine g_aldL F hH r_25b hx53.1 hx53.2.1 hx53.2.2 (b := y_27) y_27a dX1_readSecond_53 ?_
    have hc4 := (hv.2.2.1 y_27 y_27b).2.2.2 (by rw [y_27c]; omega)
    refine g_getI (ci := 0) (k := 2) F hH rfl (by decide) iX0 y_27b (by decide) rfl k136 dX1_readSecond_54 ?_
    have b_28 := gI_line hv y_27b
    unfold vLineI at b_28
    refine g_putI (ci := 0) (k := 6) F hH hS rfl (by decide) iX0 hp.2.2.2.2.1 (by decide) tyX0 tyX0_ok nmX0 rfl rfl rfl k146 dX1_readSecond_57 (fun H locs hH hS => ?_)
    obtain ⟨I_29, eI_29⟩ : ∃ qQ, qQ = gup2 I_22 ln 6 (iI ((I_22 y_27 2).toInt)) := ⟨_, rfl⟩
    rw [← eI_29] at hH
    have kI_29 : ∀ b, b ≠ ln → I_29 b = I_22 b := fun b hb => by rw [eI_29]; exact funext fun j => gup2_a _ _ hb
    have w_30 : (I_29 ln 6).toInt = (I_22 y_27 2).toInt := by rw [eI_29, gup2_s]; exact iI_val ⟨by omega, by omega⟩
    have hp2 : pS g gh R I_29 a q ln := pS_ln hv hp kI_29
    have hv : gInv g gh R AR I_29 AI := by rw [eI_29]; exact gInv_line6 hv hp.2.2.2.2.1 (by omega) (by omega)
    have hp := hp2
    have pf : pF a ln I I_29 := pF_t pf (by rw [eI_29]; exact pF_ln (by decide))
    have w_30_k : ∀ j, j ≠ 6 → I_29 ln j = I_22 ln j := fun j hj => by rw [eI_29]; exact gup2_k _ _ hj
    have u_31q : (I_29 q 1).toInt = (I_22 q 1).toInt := by rw [kI_29 q (gO_ne hp.2.2.1 hp.2.2.2.2.1 (by decide))]
    have u_31_0 : (I_29 ln 0).toInt = (I_22 ln 0).toInt := by rw [w_30_k 0 (by decide)]
    have u_31_8 : (I_29 ln 8).toInt = (I_22 ln 8).toInt := by rw [w_30_k 8 (by decide)]
    refine lv_aload_n F.1 F.2.1 dX1_readSecond_60 rfl (lv_at hl 1 rfl) ?_
    have hv0 := hv
    refine g_callv (g_runV (As := []) (rest := []) (ci := 1) F hl.1 hH hS hz (c_X1_step l g gh I_29 R J AI AJ AR a hv hp.1 (by first | exact hp.2.2.2.2.2.2.2 | exact hh | omega)) (cwV 0 F.2.2.2.2.1 gX1_readSecond_X1_step rfl rfl rfl hdX1_step ⟨Nat.le_of_ble_eq_true rfl, Nat.le_of_ble_eq_true rfl⟩) hp.1 (by decide) rfl rfl rfl (Nat.le_of_ble_eq_true rfl) dX1_readSecond_61 ⟨Nat.zero_le _, Nat.zero_le _⟩) hS (fun I_32 R_33 J_34 AI_35 AJ_36 AR_37 H locs hp_38 hH hS => ?_)
    dsimp only at hp_38
    obtain ⟨rfl, rfl, rfl, rfl, rfl, hv, fs, hs⟩ := hp_38
    obtain ⟨hp, pfq, fls⟩ := pS_step hv0 hp fs hs
    have pf := pF_t pf pfq
    have u_39q : (I_32 q 1).toInt = (I_29 q 1).toInt := by rw [pF_q hp pfq]
    have u_39_0 : (I_32 ln 0).toInt = (I_29 ln 0).toInt := by rw [fls]
    have u_39_8 : (I_32 ln 8).toInt = (I_29 ln 8).toInt := by rw [fls]
    refine lv_iload_n F.1 F.2.1 dX1_readSecond_64 rfl (lv_at hl 0 rfl) ?_
    exact g_iret F hr hlk hH hS hz zv_7 ⟨rfl, rfl, rfl, rfl, rfl, hv, hp, pf, by first | omega | rfl | (dsimp only; omega), by first | omega | rfl | (dsimp only; omega)⟩ dX1_readSecond_65

def rmX1_readTest : Room := { frames := 2, cells := 0, slots := 0, locals := 42 }
theorem hdX1_readTest : yX1_readTest.cls = RX1 ∧ yX1_readTest.cls ≠ "java/lang/invoke/MethodHandle" ∧ yX1_readTest.cls ≠ "java/lang/invoke/VarHandle" ∧ (parseMethodDescriptor yX1_readTest.desc).map (fun d => d.parameters.length) = some 0 := by decide +kernel
set_option maxHeartbeats 4000000 in
set_option maxRecDepth 100000 in
/-- a test -/
theorem c_X1_readTest (l : Launch) (g : gG) (gh : gGh) (q ln : Nat) (I : gI) (R : gR) (J : gJ) (AI : gI) (AJ : gJ) (AR : gR) (a : Nat) (hv : gInv g gh R AR I AI) (hp : pS g gh R I a q ln) (hk : (I ln 0).toInt = 1) : gMet l g yX1_readTest wsX1_readTest rmX1_readTest [.ref a] (I, R, J, AI, AJ, AR) (gQi g (fun (z : Int) (w : gS) => R = w.2.1 ∧ J = w.2.2.1 ∧ AJ = w.2.2.2.2.1 ∧ AR = w.2.2.2.2.2 ∧ (gInv g gh R AR (w.1) (w.2.2.2.1)) ∧ (pS g gh R (w.1) a q ln) ∧ (pF a ln I (w.1)) ∧ (0 ≤ z ∧ z ≤ 4))) := by
  refine gStart (cc := cX1_readTest) (maxL := 6) (ret := (some (.int))) (by decide) rfl (Nat.le_of_ble_eq_true rfl) ?_
  intro p e s m below meth c ls F hr hlk hH hz hS hl
  have hl : lv_has ls 6 [(0, .ref a)] := hl
  have hS : va_S (gA g) s.heap s.heap [] := hS
  obtain ⟨H, hHe⟩ : ∃ H : Heap, H = s.heap := ⟨_, rfl⟩
  obtain ⟨locs, hlo⟩ : ∃ k : List Loc, k = [] := ⟨_, rfl⟩
  have hH : gH g I R J AI AJ AR H := by rw [hHe]; exact hH
  have hS : va_S (gA g) s.heap H locs := by rw [hHe, hlo]; exact hS
  suffices hw : W p l e rmX1_readTest s m ([.ref a] : List Value).toArray below meth c H locs 0 0 (MQ below (gQi g (fun (z : Int) (w : gS) => R = w.2.1 ∧ J = w.2.2.1 ∧ AJ = w.2.2.2.2.1 ∧ AR = w.2.2.2.2.2 ∧ (gInv g gh R AR (w.1) (w.2.2.2.1)) ∧ (pS g gh R (w.1) a q ln) ∧ (pF a ln I (w.1)) ∧ (0 ≤ z ∧ z ≤ 4))) ([.ref a] : List Value).toArray s 0 0 (gA g)) (F0 m 0 ls []) by
    rw [hHe, hlo] at hw; exact hw
  clear hHe hlo
  have pf : pF a ln I I := pF_r
  have iX5 : ∀ w ∈ u_ws RX5 TX5 5, w ∈ wsX1_readTest := (by decide +kernel)
  have iX1 : ∀ w ∈ u_ws RX1 TX1 4, w ∈ wsX1_readTest := (by decide +kernel)
  have iX0 : ∀ w ∈ u_ws RX0 TX0 15, w ∈ wsX1_readTest := (by decide +kernel)
  have k29 : Cond.fieldLink RX1 29 (TX1 2).1 (TX1 2).2.1 (TX1 2).2.2.1 ∈ wsX1_readTest := List.mem_of_getElem? (i := 1) rfl
  have k143 : Cond.fieldLink RX1 143 (TX0 5).1 (TX0 5).2.1 (TX0 5).2.2.1 ∈ wsX1_readTest := List.mem_of_getElem? (i := 2) rfl
  have k149 : Cond.fieldLink RX1 149 (TX0 8).1 (TX0 8).2.1 (TX0 8).2.2.1 ∈ wsX1_readTest := List.mem_of_getElem? (i := 3) rfl
  have k12 : Cond.fieldLink RX1 12 (TX1 0).1 (TX1 0).2.1 (TX1 0).2.2.1 ∈ wsX1_readTest := List.mem_of_getElem? (i := 4) rfl
  have k71 : Cond.fieldLink RX1 71 (TX5 2).1 (TX5 2).2.1 (TX5 2).2.2.1 ∈ wsX1_readTest := List.mem_of_getElem? (i := 5) rfl
  have k44 : Cond.fieldLink RX1 44 (TX1 3).1 (TX1 3).2.1 (TX1 3).2.2.1 ∈ wsX1_readTest := List.mem_of_getElem? (i := 6) rfl
  have k47 : Cond.fieldLink RX1 47 (TX5 0).1 (TX5 0).2.1 (TX5 0).2.2.1 ∈ wsX1_readTest := List.mem_of_getElem? (i := 7) rfl
  refine lv_aload_n F.1 F.2.1 dX1_readTest_0 rfl (lv_at hl 0 rfl) ?_
  refine lv_aload_n F.1 F.2.1 dX1_readTest_1 rfl (lv_at hl 0 rfl) ?_
  refine g_getR (ci := 1) (k := 2) F hH rfl (by decide) iX1 hp.1 (by decide) rfl (b := ln) hp.2.2.2.1 k29 dX1_readTest_2 ?_
  refine g_getI (ci := 0) (k := 5) F hH rfl (by decide) iX0 hp.2.2.2.2.1 (by decide) rfl k143 dX1_readTest_5 ?_
  have b_1 := gI_line hv hp.2.2.2.2.1
  unfold vLineI at b_1
  refine g_calli (g_runV (As := [.int (iI ((I ln 5).toInt))]) (rest := []) (ci := 1) F hl.1 hH hS hz (c_X1_seeColumn l g gh I R J AI AJ AR a ((I ln 5).toInt) (zr_t _) hv hp.1 (by first | exact hp.2.2.2.2.2.2.2 | exact hh | omega)) (cwV 1 F.2.2.2.2.1 gX1_readTest_X1_seeColumn rfl rfl rfl hdX1_seeColumn ⟨Nat.le_of_ble_eq_true rfl, Nat.le_of_ble_eq_true rfl⟩) hp.1 (by decide) rfl rfl rfl (Nat.le_of_ble_eq_true rfl) dX1_readTest_8 ⟨Nat.zero_le _, Nat.zero_le _⟩) hS (fun v_8 I_2 R_3 J_4 AI_5 AJ_6 AR_7 H locs zv_8 hp_9 hH hS => ?_)
  dsimp only at hp_9
  obtain ⟨rfl, rfl, rfl, rfl, rfl, rfl, s1, s2⟩ := hp_9
  refine lv_istore_n (lv' := [(1, .int (iI v_8)), (0, .ref a)]) F.1 F.2.1 dX1_readTest_11 rfl hl (by decide) rfl (fun ls hl => ?_)
  refine lv_iload_n F.1 F.2.1 dX1_readTest_12 rfl (lv_at hl 0 rfl) ?_
  refine z_if_eq (tgt := 18) F dX1_readTest_13 (by decide) zv_8 (fun c_10 => ?_) (fun c_10 => ?_)
  · refine lv_aload_n F.1 F.2.1 dX1_readTest_18 rfl (lv_at hl 1 rfl) ?_
    refine g_getR (ci := 1) (k := 2) F hH rfl (by decide) iX1 hp.1 (by decide) rfl (b := ln) hp.2.2.2.1 k29 dX1_readTest_19 ?_
    refine g_getI (ci := 0) (k := 8) F hH rfl (by decide) iX0 hp.2.2.2.2.1 (by decide) rfl k149 dX1_readTest_22 ?_
    refine z_bipush F dX1_readTest_25 (by decide) ?_
    refine z_icmp_lt (tgt := 32) F dX1_readTest_27 (by decide) (zr_t _) ⟨by decide, by decide⟩ (fun c_11 => ?_) (fun c_11 => ?_)
    · refine lv_aload_n F.1 F.2.1 dX1_readTest_32 rfl (lv_at hl 1 rfl) ?_
      refine g_getR (ci := 1) (k := 0) F hH rfl (by decide) iX1 hp.1 (by decide) rfl (b := gh 22 0) (gR_pr0 hv hp.1).1 k12 dX1_readTest_33 ?_
      obtain ⟨r_12a, r_12b⟩ := gR_tk2 hv (gR_pr0 hv hp.1).2
      refine g_getR (ci := 5) (k := 2) F hH rfl (by decide) iX5 (gR_pr0 hv hp.1).2 (by decide) rfl (b := gh 26 0) r_12a k71 dX1_readTest_36 ?_
      refine lv_aload_n F.1 F.2.1 dX1_readTest_39 rfl (lv_at hl 1 rfl) ?_
      refine g_getI (ci := 1) (k := 3) F hH rfl (by decide) iX1 hp.1 (by decide) rfl k44 dX1_readTest_40 ?_
      have b_13h := hp.2.2.2.2.2.2.2
      have b_13 := gI_pr hv hp.1
      have b_13t := gI_tk hv (gR_pr0 hv hp.1).2
      have hx43 : 0 ≤ ((I a 3).toInt) ∧ ((I a 3).toInt) < ((901 : Nat) : Int) ∧ ((I a 3).toInt) ≤ 2147483647 := ⟨by omega, by omega, by omega⟩
      refine g_iald F hH r_12b hx43.1 hx43.2.1 hx43.2.2 dX1_readTest_43 ?_
      refine z_name (fun v_14 ev_14 => ?_)
      have zv_14 : zr v_14 := by rw [ev_14]; exact zr_t _
      refine lv_istore_n (lv' := [(2, .int (iI v_14)), (1, .int (iI v_8)), (0, .ref a)]) F.1 F.2.1 dX1_readTest_44 rfl hl (by decide) rfl (fun ls hl => ?_)
      refine lv_aload_n F.1 F.2.1 dX1_readTest_45 rfl (lv_at hl 2 rfl) ?_
      have hv0 := hv
      refine g_callv (g_runV (As := []) (rest := []) (ci := 1) F hl.1 hH hS hz (c_X1_step l g gh I R J AI AJ AR a hv hp.1 (by first | exact hp.2.2.2.2.2.2.2 | exact hh | omega)) (cwV 0 F.2.2.2.2.1 gX1_readTest_X1_step rfl rfl rfl hdX1_step ⟨Nat.le_of_ble_eq_true rfl, Nat.le_of_ble_eq_true rfl⟩) hp.1 (by decide) rfl rfl rfl (Nat.le_of_ble_eq_true rfl) dX1_readTest_46 ⟨Nat.zero_le _, Nat.zero_le _⟩) hS (fun I_15 R_16 J_17 AI_18 AJ_19 AR_20 H locs hp_21 hH hS => ?_)
      dsimp only at hp_21
      obtain ⟨rfl, rfl, rfl, rfl, rfl, hv, fs, hs⟩ := hp_21
      obtain ⟨hp, pfq, fls⟩ := pS_step hv0 hp fs hs
      have pf := pF_t pf pfq
      have u_22q : (I_15 q 1).toInt = (I q 1).toInt := by rw [pF_q hp pfq]
      have u_22_0 : (I_15 ln 0).toInt = (I ln 0).toInt := by rw [fls]
      have u_22_8 : (I_15 ln 8).toInt = (I ln 8).toInt := by rw [fls]
      refine lv_aload_n F.1 F.2.1 dX1_readTest_49 rfl (lv_at hl 2 rfl) ?_
      refine g_getR (ci := 1) (k := 0) F hH rfl (by decide) iX1 hp.1 (by decide) rfl (b := gh 22 0) (gR_pr0 hv hp.1).1 k12 dX1_readTest_50 ?_
      obtain ⟨r_23a, r_23b⟩ := gR_tk0 hv (gR_pr0 hv hp.1).2
      refine g_getR (ci := 5) (k := 0) F hH rfl (by decide) iX5 (gR_pr0 hv hp.1).2 (by decide) rfl (b := gh 24 0) r_23a k47 dX1_readTest_53 ?_
      refine lv_aload_n F.1 F.2.1 dX1_readTest_56 rfl (lv_at hl 2 rfl) ?_
      refine g_getI (ci := 1) (k := 3) F hH rfl (by decide) iX1 hp.1 (by decide) rfl k44 dX1_readTest_57 ?_
      have b_24h := hp.2.2.2.2.2.2.2
      have b_24 := gI_pr hv hp.1
      have b_24t := gI_tk hv (gR_pr0 hv hp.1).2
      have hx60 : 0 ≤ ((I_15 a 3).toInt) ∧ ((I_15 a 3).toInt) < ((901 : Nat) : Int) ∧ ((I_15 a 3).toInt) ≤ 2147483647 := ⟨by omega, by omega, by omega⟩
      refine g_iald F hH r_23b hx60.1 hx60.2.1 hx60.2.2 dX1_readTest_60 ?_
      refine z_name (fun v_25 ev_25 => ?_)
      have zv_25 : zr v_25 := by rw [ev_25]; exact zr_t _
      refine lv_istore_n (lv' := [(3, .int (iI v_25)), (2, .int (iI v_14)), (1, .int (iI v_8)), (0, .ref a)]) F.1 F.2.1 dX1_readTest_61 rfl hl (by decide) rfl (fun ls hl => ?_)
      have cut_82_25 : ∀ (H : Heap) (locs : List Loc) (ls : Array Slot), gH g I_15 R J AI AJ AR H → va_S (gA g) s.heap H locs → lv_has ls 6 [(3, .int (iI v_25)), (2, .int (iI v_14)), (1, .int (iI v_8)), (0, .ref a)] → W p l e rmX1_readTest s m ([.ref a] : List Value).toArray below meth c H locs 0 0 (MQ below (gQi g (fun (z : Int) (w : gS) => R = w.2.1 ∧ J = w.2.2.1 ∧ AJ = w.2.2.2.2.1 ∧ AR = w.2.2.2.2.2 ∧ (gInv g gh R AR (w.1) (w.2.2.2.1)) ∧ (pS g gh R (w.1) a q ln) ∧ (pF a ln I (w.1)) ∧ (0 ≤ z ∧ z ≤ 4))) ([.ref a] : List Value).toArray s 0 0 (gA g)) (F0 m 82 ls []) := by
        intro H locs ls hH hS hl
        refine lv_aload_n F.1 F.2.1 dX1_readTest_82 rfl (lv_at hl 3 rfl) ?_
        have hv0 := hv
        refine g_callv (g_runV (As := []) (rest := []) (ci := 1) F hl.1 hH hS hz (c_X1_step l g gh I_15 R J AI AJ AR a hv hp.1 (by first | exact hp.2.2.2.2.2.2.2 | exact hh | omega)) (cwV 0 F.2.2.2.2.1 gX1_readTest_X1_step rfl rfl rfl hdX1_step ⟨Nat.le_of_ble_eq_true rfl, Nat.le_of_ble_eq_true rfl⟩) hp.1 (by decide) rfl rfl rfl (Nat.le_of_ble_eq_true rfl) dX1_readTest_83 ⟨Nat.zero_le _, Nat.zero_le _⟩) hS (fun I_27 R_28 J_29 AI_30 AJ_31 AR_32 H locs hp_33 hH hS => ?_)
        dsimp only at hp_33
        obtain ⟨rfl, rfl, rfl, rfl, rfl, hv, fs, hs⟩ := hp_33
        obtain ⟨hp, pfq, fls⟩ := pS_step hv0 hp fs hs
        have pf := pF_t pf pfq
        have u_34q : (I_27 q 1).toInt = (I_15 q 1).toInt := by rw [pF_q hp pfq]
        have u_34_0 : (I_27 ln 0).toInt = (I_15 ln 0).toInt := by rw [fls]
        have u_34_8 : (I_27 ln 8).toInt = (I_15 ln 8).toInt := by rw [fls]
        refine lv_aload_n F.1 F.2.1 dX1_readTest_86 rfl (lv_at hl 3 rfl) ?_
        refine z_iconst F dX1_readTest_87 ?_
        refine g_calli (g_runV (As := [.int (iI 4)]) (rest := []) (ci := 1) F hl.1 hH hS hz (c_X1_isKind l g gh I_27 R J AI AJ AR a 4 ⟨by decide, by decide⟩ hv hp.1 (by first | exact hp.2.2.2.2.2.2.2 | exact hh | omega)) (cwV 1 F.2.2.2.2.1 gX1_readTest_X1_isKind rfl rfl rfl hdX1_isKind ⟨Nat.le_of_ble_eq_true rfl, Nat.le_of_ble_eq_true rfl⟩) hp.1 (by decide) rfl rfl rfl (Nat.le_of_ble_eq_true rfl) dX1_readTest_88 ⟨Nat.zero_le _, Nat.zero_le _⟩) hS (fun v_41 I_35 R_36 J_37 AI_38 AJ_39 AR_40 H locs zv_41 hp_42 hH hS => ?_)
        dsimp only at hp_42
        obtain ⟨rfl, rfl, rfl, rfl, rfl, rfl, q_43⟩ := hp_42
        refine lv_istore (lv' := [(4, .int (iI v_41)), (3, .int (iI v_25)), (2, .int (iI v_14)), (1, .int (iI v_8)), (0, .ref a)]) F.1 F.2.1 dX1_readTest_91 hl (by decide) rfl (fun ls hl => ?_)
        refine lv_iload F.1 F.2.1 dX1_readTest_93 (lv_at hl 0 rfl) ?_
        refine z_if_eq (tgt := 102) F dX1_readTest_95 (by decide) zv_41 (fun c_44 => ?_) (fun c_44 => ?_)
        · refine lv_aload_n F.1 F.2.1 dX1_readTest_102 rfl (lv_at hl 4 rfl) ?_
          refine lv_aload_n F.1 F.2.1 dX1_readTest_103 rfl (lv_at hl 4 rfl) ?_
          refine g_getR (ci := 1) (k := 2) F hH rfl (by decide) iX1 hp.1 (by decide) rfl (b := ln) hp.2.2.2.1 k29 dX1_readTest_104 ?_
          refine g_getI (ci := 0) (k := 5) F hH rfl (by decide) iX0 hp.2.2.2.2.1 (by decide) rfl k143 dX1_readTest_107 ?_
          have b_45 := gI_line hv hp.2.2.2.2.1
          unfold vLineI at b_45
          refine g_calli (g_runV (As := [.int (iI ((I_27 ln 5).toInt))]) (rest := []) (ci := 1) F hl.1 hH hS hz (c_X1_seeColumn l g gh I_27 R J AI AJ AR a ((I_27 ln 5).toInt) (zr_t _) hv hp.1 (by first | exact hp.2.2.2.2.2.2.2 | exact hh | omega)) (cwV 1 F.2.2.2.2.1 gX1_readTest_X1_seeColumn rfl rfl rfl hdX1_seeColumn ⟨Nat.le_of_ble_eq_true rfl, Nat.le_of_ble_eq_true rfl⟩) hp.1 (by decide) rfl rfl rfl (Nat.le_of_ble_eq_true rfl) dX1_readTest_110 ⟨Nat.zero_le _, Nat.zero_le _⟩) hS (fun v_52 I_46 R_47 J_48 AI_49 AJ_50 AR_51 H locs zv_52 hp_53 hH hS => ?_)
          dsimp only at hp_53
          obtain ⟨rfl, rfl, rfl, rfl, rfl, rfl, t1, t2⟩ := hp_53
          refine lv_istore_n (lv' := [(1, .int (iI v_52)), (4, .int (iI v_41)), (3, .int (iI v_25)), (2, .int (iI v_14)), (0, .ref a)]) F.1 F.2.1 dX1_readTest_113 rfl hl (by decide) rfl (fun ls hl => ?_)
          refine lv_iload_n F.1 F.2.1 dX1_readTest_114 rfl (lv_at hl 0 rfl) ?_
          refine z_if_eq (tgt := 120) F dX1_readTest_115 (by decide) zv_52 (fun c_54 => ?_) (fun c_54 => ?_)
          · refine lv_aload_n F.1 F.2.1 dX1_readTest_120 rfl (lv_at hl 4 rfl) ?_
            refine g_getR (ci := 1) (k := 0) F hH rfl (by decide) iX1 hp.1 (by decide) rfl (b := gh 22 0) (gR_pr0 hv hp.1).1 k12 dX1_readTest_121 ?_
            refine g_getR (ci := 5) (k := 2) F hH rfl (by decide) iX5 (gR_pr0 hv hp.1).2 (by decide) rfl (b := gh 26 0) r_12a k71 dX1_readTest_124 ?_
            refine lv_aload_n F.1 F.2.1 dX1_readTest_127 rfl (lv_at hl 4 rfl) ?_
            refine g_getI (ci := 1) (k := 3) F hH rfl (by decide) iX1 hp.1 (by decide) rfl k44 dX1_readTest_128 ?_
            have b_55h := hp.2.2.2.2.2.2.2
            have b_55 := gI_pr hv hp.1
            have b_55t := gI_tk hv (gR_pr0 hv hp.1).2
            have hx131 : 0 ≤ ((I_27 a 3).toInt) ∧ ((I_27 a 3).toInt) < ((901 : Nat) : Int) ∧ ((I_27 a 3).toInt) ≤ 2147483647 := ⟨by omega, by omega, by omega⟩
            refine g_iald F hH r_12b hx131.1 hx131.2.1 hx131.2.2 dX1_readTest_131 ?_
            refine z_name (fun v_56 ev_56 => ?_)
            have zv_56 : zr v_56 := by rw [ev_56]; exact zr_t _
            refine lv_istore (lv' := [(5, .int (iI v_56)), (1, .int (iI v_52)), (4, .int (iI v_41)), (3, .int (iI v_25)), (2, .int (iI v_14)), (0, .ref a)]) F.1 F.2.1 dX1_readTest_132 hl (by decide) rfl (fun ls hl => ?_)
            refine lv_aload_n F.1 F.2.1 dX1_readTest_134 rfl (lv_at hl 5 rfl) ?_
            refine g_getR (ci := 1) (k := 2) F hH rfl (by decide) iX1 hp.1 (by decide) rfl (b := ln) hp.2.2.2.1 k29 dX1_readTest_135 ?_
            refine lv_iload_n F.1 F.2.1 dX1_readTest_138 rfl (lv_at hl 4 rfl) ?_
            refine lv_iload_n F.1 F.2.1 dX1_readTest_139 rfl (lv_at hl 3 rfl) ?_
            refine lv_iload F.1 F.2.1 dX1_readTest_140 (lv_at hl 2 rfl) ?_
            refine z_if_eq (tgt := 149) F dX1_readTest_142 (by decide) zv_41 (fun c_57 => ?_) (fun c_57 => ?_)
            · refine lv_iload F.1 F.2.1 dX1_readTest_149 (lv_at hl 0 rfl) ?_
              refine lv_iload F.1 F.2.1 dX1_readTest_151 (lv_at hl 0 rfl) ?_
              have hv0 := hv
              refine g_callv (g_runV (As := [.int (iI v_14), .int (iI v_25), .int (iI v_56), .int (iI v_56)]) (rest := []) (ci := 0) F hl.1 hH hS hz (c_X0_addTest l g gh I_27 R J AI AJ AR ln v_14 v_25 v_56 v_56 zv_14 zv_25 zv_56 zv_56 hv hp.2.2.2.2.1 (by omega) (by omega) (by omega) (by omega)) (cwV 4 F.2.2.2.2.1 gX1_readTest_X0_addTest rfl rfl rfl hdX0_addTest ⟨Nat.le_of_ble_eq_true rfl, Nat.le_of_ble_eq_true rfl⟩) hp.2.2.2.2.1 (by decide) rfl rfl rfl (Nat.le_of_ble_eq_true rfl) dX1_readTest_153 ⟨Nat.zero_le _, Nat.zero_le _⟩) hS (fun I_58 R_59 J_60 AI_61 AJ_62 AR_63 H locs hp_64 hH hS => ?_)
              dsimp only at hp_64
              obtain ⟨rfl, rfl, rfl, rfl, hv, fI, fA, f0, f8⟩ := hp_64
              have hp := pS_ln hv0 hp fI
              have pf := pF_t pf (pF_o fI f0)
              have u_65q : (I_58 q 1).toInt = (I_27 q 1).toInt := by rw [fI q (gO_ne hp.2.2.1 hp.2.2.2.2.1 (by decide))]
              have u_65_0 : (I_58 ln 0).toInt = (I_27 ln 0).toInt := by rw [f0]
              refine lv_aload_n F.1 F.2.1 dX1_readTest_156 rfl (lv_at hl 5 rfl) ?_
              have hv0 := hv
              refine g_callv (g_runV (As := []) (rest := []) (ci := 1) F hl.1 hH hS hz (c_X1_step l g gh I_58 R J AI_61 AJ AR a hv hp.1 (by first | exact hp.2.2.2.2.2.2.2 | exact hh | omega)) (cwV 0 F.2.2.2.2.1 gX1_readTest_X1_step rfl rfl rfl hdX1_step ⟨Nat.le_of_ble_eq_true rfl, Nat.le_of_ble_eq_true rfl⟩) hp.1 (by decide) rfl rfl rfl (Nat.le_of_ble_eq_true rfl) dX1_readTest_157 ⟨Nat.zero_le _, Nat.zero_le _⟩) hS (fun I_66 R_67 J_68 AI_69 AJ_70 AR_71 H locs hp_72 hH hS => ?_)
              dsimp only at hp_72
              obtain ⟨rfl, rfl, rfl, rfl, rfl, hv, fs, hs⟩ := hp_72
              obtain ⟨hp, pfq, fls⟩ := pS_step hv0 hp fs hs
              have pf := pF_t pf pfq
              have u_73q : (I_66 q 1).toInt = (I_58 q 1).toInt := by rw [pF_q hp pfq]
              have u_73_0 : (I_66 ln 0).toInt = (I_58 ln 0).toInt := by rw [fls]
              have u_73_8 : (I_66 ln 8).toInt = (I_58 ln 8).toInt := by rw [fls]
              refine z_iconst F dX1_readTest_160 ?_
              exact g_iret F hr hlk hH hS hz ⟨by decide, by decide⟩ ⟨rfl, rfl, rfl, rfl, hv, hp, pf, by first | omega | rfl | (dsimp only; omega)⟩ dX1_readTest_161
            · exact absurd trivial (by omega)
          · refine lv_iload_n F.1 F.2.1 dX1_readTest_118 rfl (lv_at hl 0 rfl) ?_
            exact g_iret F hr hlk hH hS hz zv_52 ⟨rfl, rfl, rfl, rfl, hv, hp, pf, by first | omega | rfl | (dsimp only; omega)⟩ dX1_readTest_119
        · refine z_iconst F dX1_readTest_98 ?_
          refine z_goto (tgt := 113) F dX1_readTest_99 (by decide) ?_
          refine lv_istore_n (lv' := [(1, .int (iI 0)), (4, .int (iI v_41)), (3, .int (iI v_25)), (2, .int (iI v_14)), (0, .ref a)]) F.1 F.2.1 dX1_readTest_113 rfl hl (by decide) rfl (fun ls hl => ?_)
          refine lv_iload_n F.1 F.2.1 dX1_readTest_114 rfl (lv_at hl 0 rfl) ?_
          refine z_if_eq (tgt := 120) F dX1_readTest_115 (by decide) ⟨by decide, by decide⟩ (fun c_74 => ?_) (fun c_74 => ?_)
          · refine lv_aload_n F.1 F.2.1 dX1_readTest_120 rfl (lv_at hl 4 rfl) ?_
            refine g_getR (ci := 1) (k := 0) F hH rfl (by decide) iX1 hp.1 (by decide) rfl (b := gh 22 0) (gR_pr0 hv hp.1).1 k12 dX1_readTest_121 ?_
            refine g_getR (ci := 5) (k := 2) F hH rfl (by decide) iX5 (gR_pr0 hv hp.1).2 (by decide) rfl (b := gh 26 0) r_12a k71 dX1_readTest_124 ?_
            refine lv_aload_n F.1 F.2.1 dX1_readTest_127 rfl (lv_at hl 4 rfl) ?_
            refine g_getI (ci := 1) (k := 3) F hH rfl (by decide) iX1 hp.1 (by decide) rfl k44 dX1_readTest_128 ?_
            have b_75h := hp.2.2.2.2.2.2.2
            have b_75 := gI_pr hv hp.1
            have b_75t := gI_tk hv (gR_pr0 hv hp.1).2
            have hx131 : 0 ≤ ((I_27 a 3).toInt) ∧ ((I_27 a 3).toInt) < ((901 : Nat) : Int) ∧ ((I_27 a 3).toInt) ≤ 2147483647 := ⟨by omega, by omega, by omega⟩
            refine g_iald F hH r_12b hx131.1 hx131.2.1 hx131.2.2 dX1_readTest_131 ?_
            refine z_name (fun v_76 ev_76 => ?_)
            have zv_76 : zr v_76 := by rw [ev_76]; exact zr_t _
            refine lv_istore (lv' := [(5, .int (iI v_76)), (1, .int (iI 0)), (4, .int (iI v_41)), (3, .int (iI v_25)), (2, .int (iI v_14)), (0, .ref a)]) F.1 F.2.1 dX1_readTest_132 hl (by decide) rfl (fun ls hl => ?_)
            refine lv_aload_n F.1 F.2.1 dX1_readTest_134 rfl (lv_at hl 5 rfl) ?_
            refine g_getR (ci := 1) (k := 2) F hH rfl (by decide) iX1 hp.1 (by decide) rfl (b := ln) hp.2.2.2.1 k29 dX1_readTest_135 ?_
            refine lv_iload_n F.1 F.2.1 dX1_readTest_138 rfl (lv_at hl 4 rfl) ?_
            refine lv_iload_n F.1 F.2.1 dX1_readTest_139 rfl (lv_at hl 3 rfl) ?_
            refine lv_iload F.1 F.2.1 dX1_readTest_140 (lv_at hl 2 rfl) ?_
            refine z_if_eq (tgt := 149) F dX1_readTest_142 (by decide) zv_41 (fun c_77 => ?_) (fun c_77 => ?_)
            · exact absurd trivial (by omega)
            · refine z_iconst F dX1_readTest_145 ?_
              refine z_goto (tgt := 151) F dX1_readTest_146 (by decide) ?_
              refine lv_iload F.1 F.2.1 dX1_readTest_151 (lv_at hl 0 rfl) ?_
              have hv0 := hv
              have b_78 := gI_line hv hp.2.2.2.2.1
              unfold vLineI at b_78
              refine g_callv (g_runV (As := [.int (iI v_14), .int (iI v_25), .int (iI ((-1))), .int (iI v_76)]) (rest := []) (ci := 0) F hl.1 hH hS hz (c_X0_addTest l g gh I_27 R J AI AJ AR ln v_14 v_25 (-1) v_76 zv_14 zv_25 ⟨by decide, by decide⟩ zv_76 hv hp.2.2.2.2.1 (by omega) (by omega) (by omega) (by omega)) (cwV 4 F.2.2.2.2.1 gX1_readTest_X0_addTest rfl rfl rfl hdX0_addTest ⟨Nat.le_of_ble_eq_true rfl, Nat.le_of_ble_eq_true rfl⟩) hp.2.2.2.2.1 (by decide) rfl rfl rfl (Nat.le_of_ble_eq_true rfl) dX1_readTest_153 ⟨Nat.zero_le _, Nat.zero_le _⟩) hS (fun I_79 R_80 J_81 AI_82 AJ_83 AR_84 H locs hp_85 hH hS => ?_)
              dsimp only at hp_85
              obtain ⟨rfl, rfl, rfl, rfl, hv, fI, fA, f0, f8⟩ := hp_85
              have hp := pS_ln hv0 hp fI
              have pf := pF_t pf (pF_o fI f0)
              have u_86q : (I_79 q 1).toInt = (I_27 q 1).toInt := by rw [fI q (gO_ne hp.2.2.1 hp.2.2.2.2.1 (by decide))]
              have u_86_0 : (I_79 ln 0).toInt = (I_27 ln 0).toInt := by rw [f0]
              refine lv_aload_n F.1 F.2.1 dX1_readTest_156 rfl (lv_at hl 5 rfl) ?_
              have hv0 := hv
              refine g_callv (g_runV (As := []) (rest := []) (ci := 1) F hl.1 hH hS hz (c_X1_step l g gh I_79 R J AI_82 AJ AR a hv hp.1 (by first | exact hp.2.2.2.2.2.2.2 | exact hh | omega)) (cwV 0 F.2.2.2.2.1 gX1_readTest_X1_step rfl rfl rfl hdX1_step ⟨Nat.le_of_ble_eq_true rfl, Nat.le_of_ble_eq_true rfl⟩) hp.1 (by decide) rfl rfl rfl (Nat.le_of_ble_eq_true rfl) dX1_readTest_157 ⟨Nat.zero_le _, Nat.zero_le _⟩) hS (fun I_87 R_88 J_89 AI_90 AJ_91 AR_92 H locs hp_93 hH hS => ?_)
              dsimp only at hp_93
              obtain ⟨rfl, rfl, rfl, rfl, rfl, hv, fs, hs⟩ := hp_93
              obtain ⟨hp, pfq, fls⟩ := pS_step hv0 hp fs hs
              have pf := pF_t pf pfq
              have u_94q : (I_87 q 1).toInt = (I_79 q 1).toInt := by rw [pF_q hp pfq]
              have u_94_0 : (I_87 ln 0).toInt = (I_79 ln 0).toInt := by rw [fls]
              have u_94_8 : (I_87 ln 8).toInt = (I_79 ln 8).toInt := by rw [fls]
              refine z_iconst F dX1_readTest_160 ?_
              exact g_iret F hr hlk hH hS hz ⟨by decide, by decide⟩ ⟨rfl, rfl, rfl, rfl, hv, hp, pf, by first | omega | rfl | (dsimp only; omega)⟩ dX1_readTest_161
          · exact absurd trivial (by omega)
      refine lv_iload_n F.1 F.2.1 dX1_readTest_62 rfl (lv_at hl 0 rfl) ?_
      refine z_bipush F dX1_readTest_63 (by decide) ?_
      refine z_icmp_eq (tgt := 82) F dX1_readTest_65 (by decide) zv_25 ⟨by decide, by decide⟩ (fun c_95 => ?_) (fun c_95 => ?_)
      · exact cut_82_25 H locs ls hH hS (lv_sub hl [0, 1, 2, 3] rfl)
      · refine lv_iload_n F.1 F.2.1 dX1_readTest_68 rfl (lv_at hl 0 rfl) ?_
        refine z_bipush F dX1_readTest_69 (by decide) ?_
        refine z_icmp_eq (tgt := 82) F dX1_readTest_71 (by decide) zv_25 ⟨by decide, by decide⟩ (fun c_96 => ?_) (fun c_96 => ?_)
        · exact cut_82_25 H locs ls hH hS (lv_sub hl [0, 1, 2, 3] rfl)
        · refine lv_iload_n F.1 F.2.1 dX1_readTest_74 rfl (lv_at hl 0 rfl) ?_
          refine z_bipush F dX1_readTest_75 (by decide) ?_
          refine z_icmp_eq (tgt := 82) F dX1_readTest_77 (by decide) zv_25 ⟨by decide, by decide⟩ (fun c_97 => ?_) (fun c_97 => ?_)
          · exact cut_82_25 H locs ls hH hS (lv_sub hl [0, 1, 2, 3] rfl)
          · refine z_iconst F dX1_readTest_80 ?_
            exact g_iret F hr hlk hH hS hz ⟨by decide, by decide⟩ ⟨rfl, rfl, rfl, rfl, hv, hp, pf, by first | omega | rfl | (dsimp only; omega)⟩ dX1_readTest_81
    · refine z_iconst F dX1_readTest_30 ?_
      exact g_iret F hr hlk hH hS hz ⟨by decide, by decide⟩ ⟨rfl, rfl, rfl, rfl, hv, hp, pf, by first | omega | rfl | (dsimp only; omega)⟩ dX1_readTest_31
  · refine lv_iload_n F.1 F.2.1 dX1_readTest_16 rfl (lv_at hl 0 rfl) ?_
    exact g_iret F hr hlk hH hS hz zv_8 ⟨rfl, rfl, rfl, rfl, hv, hp, pf, by first | omega | rfl | (dsimp only; omega)⟩ dX1_readTest_17

def rmX1_readTests : Room := { frames := 3, cells := 0, slots := 0, locals := 67 }
theorem hdX1_readTests : yX1_readTests.cls = RX1 ∧ yX1_readTests.cls ≠ "java/lang/invoke/MethodHandle" ∧ yX1_readTests.cls ≠ "java/lang/invoke/VarHandle" ∧ (parseMethodDescriptor yX1_readTests.desc).map (fun d => d.parameters.length) = some 0 := by decide +kernel
set_option maxHeartbeats 4000000 in
set_option maxRecDepth 100000 in
/-- the tests -/
theorem c_X1_readTests (l : Launch) (g : gG) (gh : gGh) (q ln : Nat) (I : gI) (R : gR) (J : gJ) (AI : gI) (AJ : gJ) (AR : gR) (a : Nat) (hv : gInv g gh R AR I AI) (hp : pS g gh R I a q ln) (hk : (I ln 0).toInt = 1) : gMet l g yX1_readTests wsX1_readTests rmX1_readTests [.ref a] (I, R, J, AI, AJ, AR) (gQi g (fun (z : Int) (w : gS) => R = w.2.1 ∧ J = w.2.2.1 ∧ AJ = w.2.2.2.2.1 ∧ AR = w.2.2.2.2.2 ∧ (gInv g gh R AR (w.1) (w.2.2.2.1)) ∧ (pS g gh R (w.1) a q ln) ∧ (pF a ln I (w.1)) ∧ (0 ≤ z ∧ z ≤ 4))) := by
  refine gStart (cc := cX1_readTests) (maxL := 3) (ret := (some (.int))) (by decide) rfl (Nat.le_of_ble_eq_true rfl) ?_
  intro p e s m below meth c ls F hr hlk hH hz hS hl
  have hl : lv_has ls 3 [(0, .ref a)] := hl
  have hS : va_S (gA g) s.heap s.heap [] := hS
  obtain ⟨H, hHe⟩ : ∃ H : Heap, H = s.heap := ⟨_, rfl⟩
  obtain ⟨locs, hlo⟩ : ∃ k : List Loc, k = [] := ⟨_, rfl⟩
  have hH : gH g I R J AI AJ AR H := by rw [hHe]; exact hH
  have hS : va_S (gA g) s.heap H locs := by rw [hHe, hlo]; exact hS
  suffices hw : W p l e rmX1_readTests s m ([.ref a] : List Value).toArray below meth c H locs 0 0 (MQ below (gQi g (fun (z : Int) (w : gS) => R = w.2.1 ∧ J = w.2.2.1 ∧ AJ = w.2.2.2.2.1 ∧ AR = w.2.2.2.2.2 ∧ (gInv g gh R AR (w.1) (w.2.2.2.1)) ∧ (pS g gh R (w.1) a q ln) ∧ (pF a ln I (w.1)) ∧ (0 ≤ z ∧ z ≤ 4))) ([.ref a] : List Value).toArray s 0 0 (gA g)) (F0 m 0 ls []) by
    rw [hHe, hlo] at hw; exact hw
  clear hHe hlo
  have pf : pF a ln I I := pF_r
  refine z_iconst F dX1_readTests_0 ?_
  refine lv_istore_n (lv' := [(1, .int (iI 0)), (0, .ref a)]) F.1 F.2.1 dX1_readTests_1 rfl hl (by decide) rfl (fun ls hl => ?_)
  have cut_2_2 : ∀ (NN : Nat) (i : Int) (I_1 : gI) (AI_2 : gI) (H : Heap) (locs : List Loc) (ls : Array Slot), zr i → (gInv g gh R AR I_1 AI_2) → (pS g gh R I_1 a q ln) → (pF a ln I I_1) → ((I_1 ln 0).toInt = 1) → (0 ≤ i ∧ i ≤ 9) → (9 - i) < ((NN : Nat) : Int) → gH g I_1 R J AI_2 AJ AR H → va_S (gA g) s.heap H locs → lv_has ls 3 [(1, .int (iI i)), (0, .ref a)] → W p l e rmX1_readTests s m ([.ref a] : List Value).toArray below meth c H locs 0 0 (MQ below (gQi g (fun (z : Int) (w : gS) => R = w.2.1 ∧ J = w.2.2.1 ∧ AJ = w.2.2.2.2.1 ∧ AR = w.2.2.2.2.2 ∧ (gInv g gh R AR (w.1) (w.2.2.2.1)) ∧ (pS g gh R (w.1) a q ln) ∧ (pF a ln I (w.1)) ∧ (0 ≤ z ∧ z ≤ 4))) ([.ref a] : List Value).toArray s 0 0 (gA g)) (F0 m 2 ls []) := by
    intro NN2
    induction NN2 with
    | zero =>
      intro i I_1 AI_2 H locs ls zi hv hp pf hk hi hm2 hH hS hl
      exact absurd hm2 (by omega)
    | succ NN2 ih2 =>
      intro i I_1 AI_2 H locs ls zi hv hp pf hk hi hm2 hH hS hl
      refine lv_iload_n F.1 F.2.1 dX1_readTests_2 rfl (lv_at hl 0 rfl) ?_
      refine z_bipush F dX1_readTests_3 (by decide) ?_
      refine z_icmp_gt (tgt := 38) F dX1_readTests_5 (by decide) zi ⟨by decide, by decide⟩ (fun c_4 => ?_) (fun c_4 => ?_)
      · refine z_iconst F dX1_readTests_38 ?_
        exact g_iret F hr hlk hH hS hz ⟨by decide, by decide⟩ ⟨rfl, rfl, rfl, rfl, hv, hp, pf, by first | omega | rfl | (dsimp only; omega)⟩ dX1_readTests_39
      · refine lv_aload_n F.1 F.2.1 dX1_readTests_8 rfl (lv_at hl 1 rfl) ?_
        refine g_calli (g_runV (As := []) (rest := []) (ci := 1) F hl.1 hH hS hz (c_X1_readTest l g gh q ln I_1 R J AI_2 AJ AR a hv hp (by omega)) (cwV 0 F.2.2.2.2.1 gX1_readTests_X1_readTest rfl rfl rfl hdX1_readTest ⟨Nat.le_of_ble_eq_true rfl, Nat.le_of_ble_eq_true rfl⟩) hp.1 (by decide) rfl rfl rfl (Nat.le_of_ble_eq_true rfl) dX1_readTests_9 ⟨Nat.zero_le _, Nat.zero_le _⟩) hS (fun v_11 I_5 R_6 J_7 AI_8 AJ_9 AR_10 H locs zv_11 hp_12 hH hS => ?_)
        dsimp only at hp_12
        obtain ⟨rfl, rfl, rfl, rfl, hv, hp, pfq, q_13⟩ := hp_12
        have pf := pF_t pf pfq
        have u_14q : (I_5 q 1).toInt = (I_1 q 1).toInt := by rw [pF_q hp pfq]
        have u_14_0 : (I_5 ln 0).toInt = (I_1 ln 0).toInt := by rw [pfq.2]
        refine lv_istore_n (lv' := [(2, .int (iI v_11)), (1, .int (iI i)), (0, .ref a)]) F.1 F.2.1 dX1_readTests_12 rfl hl (by decide) rfl (fun ls hl => ?_)
        refine lv_iload_n F.1 F.2.1 dX1_readTests_13 rfl (lv_at hl 0 rfl) ?_
        refine z_if_ne (tgt := 26) F dX1_readTests_14 (by decide) zv_11 (fun c_15 => ?_) (fun c_15 => ?_)
        · refine lv_iload_n F.1 F.2.1 dX1_readTests_26 rfl (lv_at hl 0 rfl) ?_
          exact g_iret F hr hlk hH hS hz zv_11 ⟨rfl, rfl, rfl, rfl, hv, hp, pf, by first | omega | rfl | (dsimp only; omega)⟩ dX1_readTests_27
        · refine lv_aload_n F.1 F.2.1 dX1_readTests_17 rfl (lv_at hl 2 rfl) ?_
          refine z_bipush F dX1_readTests_18 (by decide) ?_
          refine g_calli (g_runV (As := [.int (iI 11)]) (rest := []) (ci := 1) F hl.1 hH hS hz (c_X1_isWord l g gh I_5 R J AI_8 AJ AR a 11 ⟨by decide, by decide⟩ hv hp.1 (by first | exact hp.2.2.2.2.2.2.2 | exact hh | omega)) (cwV 1 F.2.2.2.2.1 gX1_readTests_X1_isWord rfl rfl rfl hdX1_isWord ⟨Nat.le_of_ble_eq_true rfl, Nat.le_of_ble_eq_true rfl⟩) hp.1 (by decide) rfl rfl rfl (Nat.le_of_ble_eq_true rfl) dX1_readTests_20 ⟨Nat.zero_le _, Nat.zero_le _⟩) hS (fun v_22 I_16 R_17 J_18 AI_19 AJ_20 AR_21 H locs zv_22 hp_23 hH hS => ?_)
          dsimp only at hp_23
          obtain ⟨rfl, rfl, rfl, rfl, rfl, rfl, q_24⟩ := hp_23
          refine z_if_ne (tgt := 28) F dX1_readTests_23 (by decide) zv_22 (fun c_25 => ?_) (fun c_25 => ?_)
          · refine lv_aload_n F.1 F.2.1 dX1_readTests_28 rfl (lv_at hl 2 rfl) ?_
            have hv0 := hv
            refine g_callv (g_runV (As := []) (rest := []) (ci := 1) F hl.1 hH hS hz (c_X1_step l g gh I_5 R J AI_8 AJ AR a hv hp.1 (by first | exact hp.2.2.2.2.2.2.2 | exact hh | omega)) (cwV 0 F.2.2.2.2.1 gX1_readTests_X1_step rfl rfl rfl hdX1_step ⟨Nat.le_of_ble_eq_true rfl, Nat.le_of_ble_eq_true rfl⟩) hp.1 (by decide) rfl rfl rfl (Nat.le_of_ble_eq_true rfl) dX1_readTests_29 ⟨Nat.zero_le _, Nat.zero_le _⟩) hS (fun I_26 R_27 J_28 AI_29 AJ_30 AR_31 H locs hp_32 hH hS => ?_)
            dsimp only at hp_32
            obtain ⟨rfl, rfl, rfl, rfl, rfl, hv, fs, hs⟩ := hp_32
            obtain ⟨hp, pfq, fls⟩ := pS_step hv0 hp fs hs
            have pf := pF_t pf pfq
            have u_33q : (I_26 q 1).toInt = (I_5 q 1).toInt := by rw [pF_q hp pfq]
            have u_33_0 : (I_26 ln 0).toInt = (I_5 ln 0).toInt := by rw [fls]
            have u_33_8 : (I_26 ln 8).toInt = (I_5 ln 8).toInt := by rw [fls]
            refine z_iinc (lv' := [(1, .int (iI (i + 1))), (2, .int (iI v_11)), (0, .ref a)]) F dX1_readTests_32 hl (k := 1) rfl (by decide) rfl (fun ls hl => ?_)
            refine z_goto (tgt := 2) F dX1_readTests_35 (by decide) ?_
            exact ih2 (i + 1) I_26 AI_8 H locs ls ⟨by omega, by omega⟩ hv hp pf (by omega) (by omega) (by omega) hH hS (lv_sub hl [0, 2] rfl)
          · refine lv_iload_n F.1 F.2.1 dX1_readTests_26 rfl (lv_at hl 0 rfl) ?_
            exact g_iret F hr hlk hH hS hz zv_11 ⟨rfl, rfl, rfl, rfl, hv, hp, pf, by first | omega | rfl | (dsimp only; omega)⟩ dX1_readTests_27
  exact cut_2_2 (((9 - 0) + 1 : Int).toNat) 0 I AI H locs ls ⟨by decide, by decide⟩ hv hp pf (by omega) (by omega) (by omega) hH hS (lv_sub hl [0, 1] rfl)

def rmX1_readTerm : Room := { frames := 2, cells := 0, slots := 0, locals := 42 }
theorem hdX1_readTerm : yX1_readTerm.cls = RX1 ∧ yX1_readTerm.cls ≠ "java/lang/invoke/MethodHandle" ∧ yX1_readTerm.cls ≠ "java/lang/invoke/VarHandle" ∧ (parseMethodDescriptor yX1_readTerm.desc).map (fun d => d.parameters.length) = some 1 := by decide +kernel
set_option maxHeartbeats 4000000 in
set_option maxRecDepth 100000 in
/-- a term -/
theorem c_X1_readTerm (l : Launch) (g : gG) (gh : gGh) (q ln : Nat) (I : gI) (R : gR) (J : gJ) (AI : gI) (AJ : gJ) (AR : gR) (a : Nat) (cols : Int) (zcols : zr cols) (hv : gInv g gh R AR I AI) (hp : pS g gh R I a q ln) (hk : (I ln 0).toInt = 2 ∨ (I ln 0).toInt = 8) : gMet l g yX1_readTerm wsX1_readTerm rmX1_readTerm [.ref a, .int (iI cols)] (I, R, J, AI, AJ, AR) (gQi g (fun (z : Int) (w : gS) => R = w.2.1 ∧ J = w.2.2.1 ∧ AJ = w.2.2.2.2.1 ∧ AR = w.2.2.2.2.2 ∧ (gInv g gh R AR (w.1) (w.2.2.2.1)) ∧ (pS g gh R (w.1) a q ln) ∧ (pF a ln I (w.1)) ∧ (0 ≤ z ∧ z ≤ 4))) := by
  refine gStart (cc := cX1_readTerm) (maxL := 6) (ret := (some (.int))) (by decide) rfl (Nat.le_of_ble_eq_true rfl) ?_
  intro p e s m below meth c ls F hr hlk hH hz hS hl
  have hl : lv_has ls 6 [(0, .ref a), (1, .int (iI cols))] := hl
  have hS : va_S (gA g) s.heap s.heap [] := hS
  obtain ⟨H, hHe⟩ : ∃ H : Heap, H = s.heap := ⟨_, rfl⟩
  obtain ⟨locs, hlo⟩ : ∃ k : List Loc, k = [] := ⟨_, rfl⟩
  have hH : gH g I R J AI AJ AR H := by rw [hHe]; exact hH
  have hS : va_S (gA g) s.heap H locs := by rw [hHe, hlo]; exact hS
  suffices hw : W p l e rmX1_readTerm s m ([.ref a, .int (iI cols)] : List Value).toArray below meth c H locs 0 0 (MQ below (gQi g (fun (z : Int) (w : gS) => R = w.2.1 ∧ J = w.2.2.1 ∧ AJ = w.2.2.2.2.1 ∧ AR = w.2.2.2.2.2 ∧ (gInv g gh R AR (w.1) (w.2.2.2.1)) ∧ (pS g gh R (w.1) a q ln) ∧ (pF a ln I (w.1)) ∧ (0 ≤ z ∧ z ≤ 4))) ([.ref a, .int (iI cols)] : List Value).toArray s 0 0 (gA g)) (F0 m 0 ls []) by
    rw [hHe, hlo] at hw; exact hw
  clear hHe hlo
  have pf : pF a ln I I := pF_r
  have iX5 : ∀ w ∈ u_ws RX5 TX5 5, w ∈ wsX1_readTerm := (by decide +kernel)
  have iX1 : ∀ w ∈ u_ws RX1 TX1 4, w ∈ wsX1_readTerm := (by decide +kernel)
  have iX0 : ∀ w ∈ u_ws RX0 TX0 15, w ∈ wsX1_readTerm := (by decide +kernel)
  have k29 : Cond.fieldLink RX1 29 (TX1 2).1 (TX1 2).2.1 (TX1 2).2.2.1 ∈ wsX1_readTerm := List.mem_of_getElem? (i := 1) rfl
  have k149 : Cond.fieldLink RX1 149 (TX0 8).1 (TX0 8).2.1 (TX0 8).2.2.1 ∈ wsX1_readTerm := List.mem_of_getElem? (i := 2) rfl
  have k12 : Cond.fieldLink RX1 12 (TX1 0).1 (TX1 0).2.1 (TX1 0).2.2.1 ∈ wsX1_readTerm := List.mem_of_getElem? (i := 3) rfl
  have k71 : Cond.fieldLink RX1 71 (TX5 2).1 (TX5 2).2.1 (TX5 2).2.2.1 ∈ wsX1_readTerm := List.mem_of_getElem? (i := 4) rfl
  have k44 : Cond.fieldLink RX1 44 (TX1 3).1 (TX1 3).2.1 (TX1 3).2.2.1 ∈ wsX1_readTerm := List.mem_of_getElem? (i := 5) rfl
  have k47 : Cond.fieldLink RX1 47 (TX5 0).1 (TX5 0).2.1 (TX5 0).2.2.1 ∈ wsX1_readTerm := List.mem_of_getElem? (i := 6) rfl
  refine lv_aload_n F.1 F.2.1 dX1_readTerm_0 rfl (lv_at hl 0 rfl) ?_
  refine z_iconst F dX1_readTerm_1 ?_
  refine g_calli (g_runV (As := [.int (iI 4)]) (rest := []) (ci := 1) F hl.1 hH hS hz (c_X1_isKind l g gh I R J AI AJ AR a 4 ⟨by decide, by decide⟩ hv hp.1 (by first | exact hp.2.2.2.2.2.2.2 | exact hh | omega)) (cwV 1 F.2.2.2.2.1 gX1_readTerm_X1_isKind rfl rfl rfl hdX1_isKind ⟨Nat.le_of_ble_eq_true rfl, Nat.le_of_ble_eq_true rfl⟩) hp.1 (by decide) rfl rfl rfl (Nat.le_of_ble_eq_true rfl) dX1_readTerm_2 ⟨Nat.zero_le _, Nat.zero_le _⟩) hS (fun v_7 I_1 R_2 J_3 AI_4 AJ_5 AR_6 H locs zv_7 hp_8 hH hS => ?_)
  dsimp only at hp_8
  obtain ⟨rfl, rfl, rfl, rfl, rfl, rfl, q_9⟩ := hp_8
  refine lv_istore_n (lv' := [(2, .int (iI v_7)), (0, .ref a), (1, .int (iI cols))]) F.1 F.2.1 dX1_readTerm_5 rfl hl (by decide) rfl (fun ls hl => ?_)
  refine lv_iload_n F.1 F.2.1 dX1_readTerm_6 rfl (lv_at hl 0 rfl) ?_
  refine z_if_eq (tgt := 14) F dX1_readTerm_7 (by decide) zv_7 (fun c_10 => ?_) (fun c_10 => ?_)
  · refine lv_aload_n F.1 F.2.1 dX1_readTerm_14 rfl (lv_at hl 1 rfl) ?_
    refine lv_iload_n F.1 F.2.1 dX1_readTerm_15 rfl (lv_at hl 2 rfl) ?_
    refine g_calli (g_runV (As := [.int (iI cols)]) (rest := []) (ci := 1) F hl.1 hH hS hz (c_X1_seeColumn l g gh I R J AI AJ AR a cols zcols hv hp.1 (by first | exact hp.2.2.2.2.2.2.2 | exact hh | omega)) (cwV 1 F.2.2.2.2.1 gX1_readTerm_X1_seeColumn rfl rfl rfl hdX1_seeColumn ⟨Nat.le_of_ble_eq_true rfl, Nat.le_of_ble_eq_true rfl⟩) hp.1 (by decide) rfl rfl rfl (Nat.le_of_ble_eq_true rfl) dX1_readTerm_16 ⟨Nat.zero_le _, Nat.zero_le _⟩) hS (fun v_17 I_11 R_12 J_13 AI_14 AJ_15 AR_16 H locs zv_17 hp_18 hH hS => ?_)
    dsimp only at hp_18
    obtain ⟨rfl, rfl, rfl, rfl, rfl, rfl, s1, s2⟩ := hp_18
    refine lv_istore_n (lv' := [(3, .int (iI v_17)), (2, .int (iI v_7)), (0, .ref a), (1, .int (iI cols))]) F.1 F.2.1 dX1_readTerm_19 rfl hl (by decide) rfl (fun ls hl => ?_)
    refine lv_iload_n F.1 F.2.1 dX1_readTerm_20 rfl (lv_at hl 0 rfl) ?_
    refine z_if_eq (tgt := 26) F dX1_readTerm_21 (by decide) zv_17 (fun c_19 => ?_) (fun c_19 => ?_)
    · refine lv_aload_n F.1 F.2.1 dX1_readTerm_26 rfl (lv_at hl 2 rfl) ?_
      refine g_getR (ci := 1) (k := 2) F hH rfl (by decide) iX1 hp.1 (by decide) rfl (b := ln) hp.2.2.2.1 k29 dX1_readTerm_27 ?_
      refine g_getI (ci := 0) (k := 8) F hH rfl (by decide) iX0 hp.2.2.2.2.1 (by decide) rfl k149 dX1_readTerm_30 ?_
      have b_20 := gI_line hv hp.2.2.2.2.1
      unfold vLineI at b_20
      refine z_iconst F dX1_readTerm_33 ?_
      refine z_icmp_lt (tgt := 39) F dX1_readTerm_34 (by decide) (zr_t _) ⟨by decide, by decide⟩ (fun c_21 => ?_) (fun c_21 => ?_)
      · refine lv_aload_n F.1 F.2.1 dX1_readTerm_39 rfl (lv_at hl 2 rfl) ?_
        refine g_getR (ci := 1) (k := 0) F hH rfl (by decide) iX1 hp.1 (by decide) rfl (b := gh 22 0) (gR_pr0 hv hp.1).1 k12 dX1_readTerm_40 ?_
        obtain ⟨r_22a, r_22b⟩ := gR_tk2 hv (gR_pr0 hv hp.1).2
        refine g_getR (ci := 5) (k := 2) F hH rfl (by decide) iX5 (gR_pr0 hv hp.1).2 (by decide) rfl (b := gh 26 0) r_22a k71 dX1_readTerm_43 ?_
        refine lv_aload_n F.1 F.2.1 dX1_readTerm_46 rfl (lv_at hl 2 rfl) ?_
        refine g_getI (ci := 1) (k := 3) F hH rfl (by decide) iX1 hp.1 (by decide) rfl k44 dX1_readTerm_47 ?_
        have b_23h := hp.2.2.2.2.2.2.2
        have b_23 := gI_pr hv hp.1
        have b_23t := gI_tk hv (gR_pr0 hv hp.1).2
        have hx50 : 0 ≤ ((I a 3).toInt) ∧ ((I a 3).toInt) < ((901 : Nat) : Int) ∧ ((I a 3).toInt) ≤ 2147483647 := ⟨by omega, by omega, by omega⟩
        refine g_iald F hH r_22b hx50.1 hx50.2.1 hx50.2.2 dX1_readTerm_50 ?_
        refine z_name (fun v_24 ev_24 => ?_)
        have zv_24 : zr v_24 := by rw [ev_24]; exact zr_t _
        refine lv_istore (lv' := [(4, .int (iI v_24)), (3, .int (iI v_17)), (2, .int (iI v_7)), (0, .ref a), (1, .int (iI cols))]) F.1 F.2.1 dX1_readTerm_51 hl (by decide) rfl (fun ls hl => ?_)
        refine lv_aload_n F.1 F.2.1 dX1_readTerm_53 rfl (lv_at hl 3 rfl) ?_
        have hv0 := hv
        refine g_callv (g_runV (As := []) (rest := []) (ci := 1) F hl.1 hH hS hz (c_X1_step l g gh I R J AI AJ AR a hv hp.1 (by first | exact hp.2.2.2.2.2.2.2 | exact hh | omega)) (cwV 0 F.2.2.2.2.1 gX1_readTerm_X1_step rfl rfl rfl hdX1_step ⟨Nat.le_of_ble_eq_true rfl, Nat.le_of_ble_eq_true rfl⟩) hp.1 (by decide) rfl rfl rfl (Nat.le_of_ble_eq_true rfl) dX1_readTerm_54 ⟨Nat.zero_le _, Nat.zero_le _⟩) hS (fun I_25 R_26 J_27 AI_28 AJ_29 AR_30 H locs hp_31 hH hS => ?_)
        dsimp only at hp_31
        obtain ⟨rfl, rfl, rfl, rfl, rfl, hv, fs, hs⟩ := hp_31
        obtain ⟨hp, pfq, fls⟩ := pS_step hv0 hp fs hs
        have pf := pF_t pf pfq
        have u_32q : (I_25 q 1).toInt = (I q 1).toInt := by rw [pF_q hp pfq]
        have u_32_0 : (I_25 ln 0).toInt = (I ln 0).toInt := by rw [fls]
        have u_32_8 : (I_25 ln 8).toInt = (I ln 8).toInt := by rw [fls]
        refine lv_iload_n F.1 F.2.1 dX1_readTerm_57 rfl (lv_at hl 2 rfl) ?_
        refine z_if_eq (tgt := 73) F dX1_readTerm_58 (by decide) zv_7 (fun c_33 => ?_) (fun c_33 => ?_)
        · refine lv_aload_n F.1 F.2.1 dX1_readTerm_73 rfl (lv_at hl 3 rfl) ?_
          refine g_getR (ci := 1) (k := 0) F hH rfl (by decide) iX1 hp.1 (by decide) rfl (b := gh 22 0) (gR_pr0 hv hp.1).1 k12 dX1_readTerm_74 ?_
          obtain ⟨r_34a, r_34b⟩ := gR_tk0 hv (gR_pr0 hv hp.1).2
          refine g_getR (ci := 5) (k := 0) F hH rfl (by decide) iX5 (gR_pr0 hv hp.1).2 (by decide) rfl (b := gh 24 0) r_34a k47 dX1_readTerm_77 ?_
          refine lv_aload_n F.1 F.2.1 dX1_readTerm_80 rfl (lv_at hl 3 rfl) ?_
          refine g_getI (ci := 1) (k := 3) F hH rfl (by decide) iX1 hp.1 (by decide) rfl k44 dX1_readTerm_81 ?_
          have b_35h := hp.2.2.2.2.2.2.2
          have b_35 := gI_pr hv hp.1
          have b_35t := gI_tk hv (gR_pr0 hv hp.1).2
          have hx84 : 0 ≤ ((I_25 a 3).toInt) ∧ ((I_25 a 3).toInt) < ((901 : Nat) : Int) ∧ ((I_25 a 3).toInt) ≤ 2147483647 := ⟨by omega, by omega, by omega⟩
          refine g_iald F hH r_34b hx84.1 hx84.2.1 hx84.2.2 dX1_readTerm_84 ?_
          refine z_name (fun v_36 ev_36 => ?_)
          have zv_36 : zr v_36 := by rw [ev_36]; exact zr_t _
          refine lv_istore (lv' := [(5, .int (iI v_36)), (4, .int (iI v_24)), (3, .int (iI v_17)), (2, .int (iI v_7)), (0, .ref a), (1, .int (iI cols))]) F.1 F.2.1 dX1_readTerm_85 hl (by decide) rfl (fun ls hl => ?_)
          have cut_113_36 : ∀ (H : Heap) (locs : List Loc) (ls : Array Slot), gH g I_25 R J AI AJ AR H → va_S (gA g) s.heap H locs → lv_has ls 6 [(5, .int (iI v_36)), (4, .int (iI v_24)), (3, .int (iI v_17)), (2, .int (iI v_7)), (0, .ref a), (1, .int (iI cols))] → W p l e rmX1_readTerm s m ([.ref a, .int (iI cols)] : List Value).toArray below meth c H locs 0 0 (MQ below (gQi g (fun (z : Int) (w : gS) => R = w.2.1 ∧ J = w.2.2.1 ∧ AJ = w.2.2.2.2.1 ∧ AR = w.2.2.2.2.2 ∧ (gInv g gh R AR (w.1) (w.2.2.2.1)) ∧ (pS g gh R (w.1) a q ln) ∧ (pF a ln I (w.1)) ∧ (0 ≤ z ∧ z ≤ 4))) ([.ref a, .int (iI cols)] : List Value).toArray s 0 0 (gA g)) (F0 m 113 ls []) := by
            intro H locs ls hH hS hl
            refine lv_aload_n F.1 F.2.1 dX1_readTerm_113 rfl (lv_at hl 4 rfl) ?_
            have hv0 := hv
            refine g_callv (g_runV (As := []) (rest := []) (ci := 1) F hl.1 hH hS hz (c_X1_step l g gh I_25 R J AI AJ AR a hv hp.1 (by first | exact hp.2.2.2.2.2.2.2 | exact hh | omega)) (cwV 0 F.2.2.2.2.1 gX1_readTerm_X1_step rfl rfl rfl hdX1_step ⟨Nat.le_of_ble_eq_true rfl, Nat.le_of_ble_eq_true rfl⟩) hp.1 (by decide) rfl rfl rfl (Nat.le_of_ble_eq_true rfl) dX1_readTerm_114 ⟨Nat.zero_le _, Nat.zero_le _⟩) hS (fun I_38 R_39 J_40 AI_41 AJ_42 AR_43 H locs hp_44 hH hS => ?_)
            dsimp only at hp_44
            obtain ⟨rfl, rfl, rfl, rfl, rfl, hv, fs, hs⟩ := hp_44
            obtain ⟨hp, pfq, fls⟩ := pS_step hv0 hp fs hs
            have pf := pF_t pf pfq
            have u_45q : (I_38 q 1).toInt = (I_25 q 1).toInt := by rw [pF_q hp pfq]
            have u_45_0 : (I_38 ln 0).toInt = (I_25 ln 0).toInt := by rw [fls]
            have u_45_8 : (I_38 ln 8).toInt = (I_25 ln 8).toInt := by rw [fls]
            refine lv_aload_n F.1 F.2.1 dX1_readTerm_117 rfl (lv_at hl 4 rfl) ?_
            refine z_iconst F dX1_readTerm_118 ?_
            refine g_calli (g_runV (As := [.int (iI 4)]) (rest := []) (ci := 1) F hl.1 hH hS hz (c_X1_isKind l g gh I_38 R J AI AJ AR a 4 ⟨by decide, by decide⟩ hv hp.1 (by first | exact hp.2.2.2.2.2.2.2 | exact hh | omega)) (cwV 1 F.2.2.2.2.1 gX1_readTerm_X1_isKind rfl rfl rfl hdX1_isKind ⟨Nat.le_of_ble_eq_true rfl, Nat.le_of_ble_eq_true rfl⟩) hp.1 (by decide) rfl rfl rfl (Nat.le_of_ble_eq_true rfl) dX1_readTerm_119 ⟨Nat.zero_le _, Nat.zero_le _⟩) hS (fun v_52 I_46 R_47 J_48 AI_49 AJ_50 AR_51 H locs zv_52 hp_53 hH hS => ?_)
            dsimp only at hp_53
            obtain ⟨rfl, rfl, rfl, rfl, rfl, rfl, q_54⟩ := hp_53
            refine z_if_ne (tgt := 127) F dX1_readTerm_122 (by decide) zv_52 (fun c_55 => ?_) (fun c_55 => ?_)
            · refine lv_aload_n F.1 F.2.1 dX1_readTerm_127 rfl (lv_at hl 4 rfl) ?_
              refine g_getR (ci := 1) (k := 2) F hH rfl (by decide) iX1 hp.1 (by decide) rfl (b := ln) hp.2.2.2.1 k29 dX1_readTerm_128 ?_
              refine lv_iload F.1 F.2.1 dX1_readTerm_131 (lv_at hl 1 rfl) ?_
              refine lv_iload F.1 F.2.1 dX1_readTerm_133 (lv_at hl 0 rfl) ?_
              refine z_bipush F dX1_readTerm_135 (by decide) ?_
              refine z_icmp_ne (tgt := 155) F dX1_readTerm_137 (by decide) zv_36 ⟨by decide, by decide⟩ (fun c_56 => ?_) (fun c_56 => ?_)
              · refine lv_aload_n F.1 F.2.1 dX1_readTerm_155 rfl (lv_at hl 4 rfl) ?_
                refine g_getR (ci := 1) (k := 0) F hH rfl (by decide) iX1 hp.1 (by decide) rfl (b := gh 22 0) (gR_pr0 hv hp.1).1 k12 dX1_readTerm_156 ?_
                refine g_getR (ci := 5) (k := 2) F hH rfl (by decide) iX5 (gR_pr0 hv hp.1).2 (by decide) rfl (b := gh 26 0) r_22a k71 dX1_readTerm_159 ?_
                refine lv_aload_n F.1 F.2.1 dX1_readTerm_162 rfl (lv_at hl 4 rfl) ?_
                refine g_getI (ci := 1) (k := 3) F hH rfl (by decide) iX1 hp.1 (by decide) rfl k44 dX1_readTerm_163 ?_
                have b_57h := hp.2.2.2.2.2.2.2
                have b_57 := gI_pr hv hp.1
                have b_57t := gI_tk hv (gR_pr0 hv hp.1).2
                have hx166 : 0 ≤ ((I_38 a 3).toInt) ∧ ((I_38 a 3).toInt) < ((901 : Nat) : Int) ∧ ((I_38 a 3).toInt) ≤ 2147483647 := ⟨by omega, by omega, by omega⟩
                refine g_iald F hH r_22b hx166.1 hx166.2.1 hx166.2.2 dX1_readTerm_166 ?_
                refine z_name (fun v_58 ev_58 => ?_)
                have zv_58 : zr v_58 := by rw [ev_58]; exact zr_t _
                refine z_ineg F dX1_readTerm_167 ?_
                refine z_norm (fun v_59 zv_59 ev_59 => ?_)
                have hv0 := hv
                have b_60 := gI_line hv hp.2.2.2.2.1
                unfold vLineI at b_60
                refine g_callv (g_runV (As := [.int (iI v_24), .int (iI v_59)]) (rest := []) (ci := 0) F hl.1 hH hS hz (c_X0_addTwo l g gh I_38 R J AI AJ AR ln v_24 v_59 zv_24 zv_59 hv hp.2.2.2.2.1 (by omega) (by omega) (by omega) (fun h => by omega)) (cwV 2 F.2.2.2.2.1 gX1_readTerm_X0_addTwo rfl rfl rfl hdX0_addTwo ⟨Nat.le_of_ble_eq_true rfl, Nat.le_of_ble_eq_true rfl⟩) hp.2.2.2.2.1 (by decide) rfl rfl rfl (Nat.le_of_ble_eq_true rfl) dX1_readTerm_168 ⟨Nat.zero_le _, Nat.zero_le _⟩) hS (fun I_61 R_62 J_63 AI_64 AJ_65 AR_66 H locs hp_67 hH hS => ?_)
                dsimp only at hp_67
                obtain ⟨rfl, rfl, rfl, rfl, hv, fI, fA, f0, f8⟩ := hp_67
                have hp := pS_ln hv0 hp fI
                have pf := pF_t pf (pF_o fI f0)
                have u_68q : (I_61 q 1).toInt = (I_38 q 1).toInt := by rw [fI q (gO_ne hp.2.2.1 hp.2.2.2.2.1 (by decide))]
                have u_68_0 : (I_61 ln 0).toInt = (I_38 ln 0).toInt := by rw [f0]
                refine lv_aload_n F.1 F.2.1 dX1_readTerm_171 rfl (lv_at hl 4 rfl) ?_
                have hv0 := hv
                refine g_callv (g_runV (As := []) (rest := []) (ci := 1) F hl.1 hH hS hz (c_X1_step l g gh I_61 R J AI_64 AJ AR a hv hp.1 (by first | exact hp.2.2.2.2.2.2.2 | exact hh | omega)) (cwV 0 F.2.2.2.2.1 gX1_readTerm_X1_step rfl rfl rfl hdX1_step ⟨Nat.le_of_ble_eq_true rfl, Nat.le_of_ble_eq_true rfl⟩) hp.1 (by decide) rfl rfl rfl (Nat.le_of_ble_eq_true rfl) dX1_readTerm_172 ⟨Nat.zero_le _, Nat.zero_le _⟩) hS (fun I_69 R_70 J_71 AI_72 AJ_73 AR_74 H locs hp_75 hH hS => ?_)
                dsimp only at hp_75
                obtain ⟨rfl, rfl, rfl, rfl, rfl, hv, fs, hs⟩ := hp_75
                obtain ⟨hp, pfq, fls⟩ := pS_step hv0 hp fs hs
                have pf := pF_t pf pfq
                have u_76q : (I_69 q 1).toInt = (I_61 q 1).toInt := by rw [pF_q hp pfq]
                have u_76_0 : (I_69 ln 0).toInt = (I_61 ln 0).toInt := by rw [fls]
                have u_76_8 : (I_69 ln 8).toInt = (I_61 ln 8).toInt := by rw [fls]
                refine z_iconst F dX1_readTerm_175 ?_
                exact g_iret F hr hlk hH hS hz ⟨by decide, by decide⟩ ⟨rfl, rfl, rfl, rfl, hv, hp, pf, by first | omega | rfl | (dsimp only; omega)⟩ dX1_readTerm_176
              · refine lv_aload_n F.1 F.2.1 dX1_readTerm_140 rfl (lv_at hl 4 rfl) ?_
                refine g_getR (ci := 1) (k := 0) F hH rfl (by decide) iX1 hp.1 (by decide) rfl (b := gh 22 0) (gR_pr0 hv hp.1).1 k12 dX1_readTerm_141 ?_
                refine g_getR (ci := 5) (k := 2) F hH rfl (by decide) iX5 (gR_pr0 hv hp.1).2 (by decide) rfl (b := gh 26 0) r_22a k71 dX1_readTerm_144 ?_
                refine lv_aload_n F.1 F.2.1 dX1_readTerm_147 rfl (lv_at hl 4 rfl) ?_
                refine g_getI (ci := 1) (k := 3) F hH rfl (by decide) iX1 hp.1 (by decide) rfl k44 dX1_readTerm_148 ?_
                have b_77h := hp.2.2.2.2.2.2.2
                have b_77 := gI_pr hv hp.1
                have b_77t := gI_tk hv (gR_pr0 hv hp.1).2
                have hx151 : 0 ≤ ((I_38 a 3).toInt) ∧ ((I_38 a 3).toInt) < ((901 : Nat) : Int) ∧ ((I_38 a 3).toInt) ≤ 2147483647 := ⟨by omega, by omega, by omega⟩
                refine g_iald F hH r_22b hx151.1 hx151.2.1 hx151.2.2 dX1_readTerm_151 ?_
                refine z_name (fun v_78 ev_78 => ?_)
                have zv_78 : zr v_78 := by rw [ev_78]; exact zr_t _
                refine z_goto (tgt := 168) F dX1_readTerm_152 (by decide) ?_
                have hv0 := hv
                have b_79 := gI_line hv hp.2.2.2.2.1
                unfold vLineI at b_79
                refine g_callv (g_runV (As := [.int (iI v_24), .int (iI v_78)]) (rest := []) (ci := 0) F hl.1 hH hS hz (c_X0_addTwo l g gh I_38 R J AI AJ AR ln v_24 v_78 zv_24 zv_78 hv hp.2.2.2.2.1 (by omega) (by omega) (by omega) (fun h => by omega)) (cwV 2 F.2.2.2.2.1 gX1_readTerm_X0_addTwo rfl rfl rfl hdX0_addTwo ⟨Nat.le_of_ble_eq_true rfl, Nat.le_of_ble_eq_true rfl⟩) hp.2.2.2.2.1 (by decide) rfl rfl rfl (Nat.le_of_ble_eq_true rfl) dX1_readTerm_168 ⟨Nat.zero_le _, Nat.zero_le _⟩) hS (fun I_80 R_81 J_82 AI_83 AJ_84 AR_85 H locs hp_86 hH hS => ?_)
                dsimp only at hp_86
                obtain ⟨rfl, rfl, rfl, rfl, hv, fI, fA, f0, f8⟩ := hp_86
                have hp := pS_ln hv0 hp fI
                have pf := pF_t pf (pF_o fI f0)
                have u_87q : (I_80 q 1).toInt = (I_38 q 1).toInt := by rw [fI q (gO_ne hp.2.2.1 hp.2.2.2.2.1 (by decide))]
                have u_87_0 : (I_80 ln 0).toInt = (I_38 ln 0).toInt := by rw [f0]
                refine lv_aload_n F.1 F.2.1 dX1_readTerm_171 rfl (lv_at hl 4 rfl) ?_
                have hv0 := hv
                refine g_callv (g_runV (As := []) (rest := []) (ci := 1) F hl.1 hH hS hz (c_X1_step l g gh I_80 R J AI_83 AJ AR a hv hp.1 (by first | exact hp.2.2.2.2.2.2.2 | exact hh | omega)) (cwV 0 F.2.2.2.2.1 gX1_readTerm_X1_step rfl rfl rfl hdX1_step ⟨Nat.le_of_ble_eq_true rfl, Nat.le_of_ble_eq_true rfl⟩) hp.1 (by decide) rfl rfl rfl (Nat.le_of_ble_eq_true rfl) dX1_readTerm_172 ⟨Nat.zero_le _, Nat.zero_le _⟩) hS (fun I_88 R_89 J_90 AI_91 AJ_92 AR_93 H locs hp_94 hH hS => ?_)
                dsimp only at hp_94
                obtain ⟨rfl, rfl, rfl, rfl, rfl, hv, fs, hs⟩ := hp_94
                obtain ⟨hp, pfq, fls⟩ := pS_step hv0 hp fs hs
                have pf := pF_t pf pfq
                have u_95q : (I_88 q 1).toInt = (I_80 q 1).toInt := by rw [pF_q hp pfq]
                have u_95_0 : (I_88 ln 0).toInt = (I_80 ln 0).toInt := by rw [fls]
                have u_95_8 : (I_88 ln 8).toInt = (I_80 ln 8).toInt := by rw [fls]
                refine z_iconst F dX1_readTerm_175 ?_
                exact g_iret F hr hlk hH hS hz ⟨by decide, by decide⟩ ⟨rfl, rfl, rfl, rfl, hv, hp, pf, by first | omega | rfl | (dsimp only; omega)⟩ dX1_readTerm_176
            · refine z_iconst F dX1_readTerm_125 ?_
              exact g_iret F hr hlk hH hS hz ⟨by decide, by decide⟩ ⟨rfl, rfl, rfl, rfl, hv, hp, pf, by first | omega | rfl | (dsimp only; omega)⟩ dX1_readTerm_126
          refine lv_iload F.1 F.2.1 dX1_readTerm_87 (lv_at hl 0 rfl) ?_
          refine z_bipush F dX1_readTerm_89 (by decide) ?_
          refine z_icmp_eq (tgt := 113) F dX1_readTerm_91 (by decide) zv_36 ⟨by decide, by decide⟩ (fun c_96 => ?_) (fun c_96 => ?_)
          · exact cut_113_36 H locs ls hH hS (lv_sub hl [0, 1, 2, 3, 4, 5] rfl)
          · refine lv_iload F.1 F.2.1 dX1_readTerm_94 (lv_at hl 0 rfl) ?_
            refine z_bipush F dX1_readTerm_96 (by decide) ?_
            refine z_icmp_eq (tgt := 113) F dX1_readTerm_98 (by decide) zv_36 ⟨by decide, by decide⟩ (fun c_97 => ?_) (fun c_97 => ?_)
            · exact cut_113_36 H locs ls hH hS (lv_sub hl [0, 1, 2, 3, 4, 5] rfl)
            · refine lv_aload_n F.1 F.2.1 dX1_readTerm_101 rfl (lv_at hl 4 rfl) ?_
              refine g_getR (ci := 1) (k := 2) F hH rfl (by decide) iX1 hp.1 (by decide) rfl (b := ln) hp.2.2.2.1 k29 dX1_readTerm_102 ?_
              refine lv_iload F.1 F.2.1 dX1_readTerm_105 (lv_at hl 1 rfl) ?_
              refine z_iconst F dX1_readTerm_107 ?_
              have hv0 := hv
              have b_98 := gI_line hv hp.2.2.2.2.1
              unfold vLineI at b_98
              refine g_callv (g_runV (As := [.int (iI v_24), .int (iI 0)]) (rest := []) (ci := 0) F hl.1 hH hS hz (c_X0_addTwo l g gh I_25 R J AI AJ AR ln v_24 0 zv_24 ⟨by decide, by decide⟩ hv hp.2.2.2.2.1 (by omega) (by omega) (by omega) (fun h => by omega)) (cwV 2 F.2.2.2.2.1 gX1_readTerm_X0_addTwo rfl rfl rfl hdX0_addTwo ⟨Nat.le_of_ble_eq_true rfl, Nat.le_of_ble_eq_true rfl⟩) hp.2.2.2.2.1 (by decide) rfl rfl rfl (Nat.le_of_ble_eq_true rfl) dX1_readTerm_108 ⟨Nat.zero_le _, Nat.zero_le _⟩) hS (fun I_99 R_100 J_101 AI_102 AJ_103 AR_104 H locs hp_105 hH hS => ?_)
              dsimp only at hp_105
              obtain ⟨rfl, rfl, rfl, rfl, hv, fI, fA, f0, f8⟩ := hp_105
              have hp := pS_ln hv0 hp fI
              have pf := pF_t pf (pF_o fI f0)
              have u_106q : (I_99 q 1).toInt = (I_25 q 1).toInt := by rw [fI q (gO_ne hp.2.2.1 hp.2.2.2.2.1 (by decide))]
              have u_106_0 : (I_99 ln 0).toInt = (I_25 ln 0).toInt := by rw [f0]
              refine z_iconst F dX1_readTerm_111 ?_
              exact g_iret F hr hlk hH hS hz ⟨by decide, by decide⟩ ⟨rfl, rfl, rfl, rfl, hv, hp, pf, by first | omega | rfl | (dsimp only; omega)⟩ dX1_readTerm_112
        · exact absurd trivial (by omega)
      · refine z_iconst F dX1_readTerm_37 ?_
        exact g_iret F hr hlk hH hS hz ⟨by decide, by decide⟩ ⟨rfl, rfl, rfl, rfl, hv, hp, pf, by first | omega | rfl | (dsimp only; omega)⟩ dX1_readTerm_38
    · refine lv_iload_n F.1 F.2.1 dX1_readTerm_24 rfl (lv_at hl 0 rfl) ?_
      exact g_iret F hr hlk hH hS hz zv_17 ⟨rfl, rfl, rfl, rfl, hv, hp, pf, by first | omega | rfl | (dsimp only; omega)⟩ dX1_readTerm_25
  · refine z_iconst F dX1_readTerm_10 ?_
    refine z_goto (tgt := 19) F dX1_readTerm_11 (by decide) ?_
    refine lv_istore_n (lv' := [(3, .int (iI 0)), (2, .int (iI v_7)), (0, .ref a), (1, .int (iI cols))]) F.1 F.2.1 dX1_readTerm_19 rfl hl (by decide) rfl (fun ls hl => ?_)
    refine lv_iload_n F.1 F.2.1 dX1_readTerm_20 rfl (lv_at hl 0 rfl) ?_
    refine z_if_eq (tgt := 26) F dX1_readTerm_21 (by decide) ⟨by decide, by decide⟩ (fun c_107 => ?_) (fun c_107 => ?_)
    · refine lv_aload_n F.1 F.2.1 dX1_readTerm_26 rfl (lv_at hl 2 rfl) ?_
      refine g_getR (ci := 1) (k := 2) F hH rfl (by decide) iX1 hp.1 (by decide) rfl (b := ln) hp.2.2.2.1 k29 dX1_readTerm_27 ?_
      refine g_getI (ci := 0) (k := 8) F hH rfl (by decide) iX0 hp.2.2.2.2.1 (by decide) rfl k149 dX1_readTerm_30 ?_
      have b_108 := gI_line hv hp.2.2.2.2.1
      unfold vLineI at b_108
      refine z_iconst F dX1_readTerm_33 ?_
      refine z_icmp_lt (tgt := 39) F dX1_readTerm_34 (by decide) (zr_t _) ⟨by decide, by decide⟩ (fun c_109 => ?_) (fun c_109 => ?_)
      · refine lv_aload_n F.1 F.2.1 dX1_readTerm_39 rfl (lv_at hl 2 rfl) ?_
        refine g_getR (ci := 1) (k := 0) F hH rfl (by decide) iX1 hp.1 (by decide) rfl (b := gh 22 0) (gR_pr0 hv hp.1).1 k12 dX1_readTerm_40 ?_
        obtain ⟨r_110a, r_110b⟩ := gR_tk2 hv (gR_pr0 hv hp.1).2
        refine g_getR (ci := 5) (k := 2) F hH rfl (by decide) iX5 (gR_pr0 hv hp.1).2 (by decide) rfl (b := gh 26 0) r_110a k71 dX1_readTerm_43 ?_
        refine lv_aload_n F.1 F.2.1 dX1_readTerm_46 rfl (lv_at hl 2 rfl) ?_
        refine g_getI (ci := 1) (k := 3) F hH rfl (by decide) iX1 hp.1 (by decide) rfl k44 dX1_readTerm_47 ?_
        have b_111h := hp.2.2.2.2.2.2.2
        have b_111 := gI_pr hv hp.1
        have b_111t := gI_tk hv (gR_pr0 hv hp.1).2
        have hx50 : 0 ≤ ((I a 3).toInt) ∧ ((I a 3).toInt) < ((901 : Nat) : Int) ∧ ((I a 3).toInt) ≤ 2147483647 := ⟨by omega, by omega, by omega⟩
        refine g_iald F hH r_110b hx50.1 hx50.2.1 hx50.2.2 dX1_readTerm_50 ?_
        refine z_name (fun v_112 ev_112 => ?_)
        have zv_112 : zr v_112 := by rw [ev_112]; exact zr_t _
        refine lv_istore (lv' := [(4, .int (iI v_112)), (3, .int (iI 0)), (2, .int (iI v_7)), (0, .ref a), (1, .int (iI cols))]) F.1 F.2.1 dX1_readTerm_51 hl (by decide) rfl (fun ls hl => ?_)
        refine lv_aload_n F.1 F.2.1 dX1_readTerm_53 rfl (lv_at hl 3 rfl) ?_
        have hv0 := hv
        refine g_callv (g_runV (As := []) (rest := []) (ci := 1) F hl.1 hH hS hz (c_X1_step l g gh I R J AI AJ AR a hv hp.1 (by first | exact hp.2.2.2.2.2.2.2 | exact hh | omega)) (cwV 0 F.2.2.2.2.1 gX1_readTerm_X1_step rfl rfl rfl hdX1_step ⟨Nat.le_of_ble_eq_true rfl, Nat.le_of_ble_eq_true rfl⟩) hp.1 (by decide) rfl rfl rfl (Nat.le_of_ble_eq_true rfl) dX1_readTerm_54 ⟨Nat.zero_le _, Nat.zero_le _⟩) hS (fun I_113 R_114 J_115 AI_116 AJ_117 AR_118 H locs hp_119 hH hS => ?_)
        dsimp only at hp_119
        obtain ⟨rfl, rfl, rfl, rfl, rfl, hv, fs, hs⟩ := hp_119
        obtain ⟨hp, pfq, fls⟩ := pS_step hv0 hp fs hs
        have pf := pF_t pf pfq
        have u_120q : (I_113 q 1).toInt = (I q 1).toInt := by rw [pF_q hp pfq]
        have u_120_0 : (I_113 ln 0).toInt = (I ln 0).toInt := by rw [fls]
        have u_120_8 : (I_113 ln 8).toInt = (I ln 8).toInt := by rw [fls]
        refine lv_iload_n F.1 F.2.1 dX1_readTerm_57 rfl (lv_at hl 2 rfl) ?_
        refine z_if_eq (tgt := 73) F dX1_readTerm_58 (by decide) zv_7 (fun c_121 => ?_) (fun c_121 => ?_)
        · exact absurd trivial (by omega)
        · refine lv_aload_n F.1 F.2.1 dX1_readTerm_61 rfl (lv_at hl 3 rfl) ?_
          refine g_getR (ci := 1) (k := 2) F hH rfl (by decide) iX1 hp.1 (by decide) rfl (b := ln) hp.2.2.2.1 k29 dX1_readTerm_62 ?_
          refine z_iconst F dX1_readTerm_65 ?_
          refine lv_iload F.1 F.2.1 dX1_readTerm_66 (lv_at hl 0 rfl) ?_
          have hv0 := hv
          have b_122 := gI_line hv hp.2.2.2.2.1
          unfold vLineI at b_122
          refine g_callv (g_runV (As := [.int (iI ((-1))), .int (iI v_112)]) (rest := []) (ci := 0) F hl.1 hH hS hz (c_X0_addTwo l g gh I_113 R J AI AJ AR ln (-1) v_112 ⟨by decide, by decide⟩ zv_112 hv hp.2.2.2.2.1 (by omega) (by omega) (by omega) (fun h => by omega)) (cwV 2 F.2.2.2.2.1 gX1_readTerm_X0_addTwo rfl rfl rfl hdX0_addTwo ⟨Nat.le_of_ble_eq_true rfl, Nat.le_of_ble_eq_true rfl⟩) hp.2.2.2.2.1 (by decide) rfl rfl rfl (Nat.le_of_ble_eq_true rfl) dX1_readTerm_68 ⟨Nat.zero_le _, Nat.zero_le _⟩) hS (fun I_123 R_124 J_125 AI_126 AJ_127 AR_128 H locs hp_129 hH hS => ?_)
          dsimp only at hp_129
          obtain ⟨rfl, rfl, rfl, rfl, hv, fI, fA, f0, f8⟩ := hp_129
          have hp := pS_ln hv0 hp fI
          have pf := pF_t pf (pF_o fI f0)
          have u_130q : (I_123 q 1).toInt = (I_113 q 1).toInt := by rw [fI q (gO_ne hp.2.2.1 hp.2.2.2.2.1 (by decide))]
          have u_130_0 : (I_123 ln 0).toInt = (I_113 ln 0).toInt := by rw [f0]
          refine z_iconst F dX1_readTerm_71 ?_
          exact g_iret F hr hlk hH hS hz ⟨by decide, by decide⟩ ⟨rfl, rfl, rfl, rfl, hv, hp, pf, by first | omega | rfl | (dsimp only; omega)⟩ dX1_readTerm_72
      · refine z_iconst F dX1_readTerm_37 ?_
        exact g_iret F hr hlk hH hS hz ⟨by decide, by decide⟩ ⟨rfl, rfl, rfl, rfl, hv, hp, pf, by first | omega | rfl | (dsimp only; omega)⟩ dX1_readTerm_38
    · exact absurd trivial (by omega)

def rmX1_readTerms : Room := { frames := 3, cells := 0, slots := 0, locals := 67 }
theorem hdX1_readTerms : yX1_readTerms.cls = RX1 ∧ yX1_readTerms.cls ≠ "java/lang/invoke/MethodHandle" ∧ yX1_readTerms.cls ≠ "java/lang/invoke/VarHandle" ∧ (parseMethodDescriptor yX1_readTerms.desc).map (fun d => d.parameters.length) = some 1 := by decide +kernel
set_option maxHeartbeats 4000000 in
set_option maxRecDepth 100000 in
/-- the terms -/
theorem c_X1_readTerms (l : Launch) (g : gG) (gh : gGh) (q ln : Nat) (I : gI) (R : gR) (J : gJ) (AI : gI) (AJ : gJ) (AR : gR) (a : Nat) (cols : Int) (zcols : zr cols) (hv : gInv g gh R AR I AI) (hp : pS g gh R I a q ln) (hk : (I ln 0).toInt = 2 ∨ (I ln 0).toInt = 8) : gMet l g yX1_readTerms wsX1_readTerms rmX1_readTerms [.ref a, .int (iI cols)] (I, R, J, AI, AJ, AR) (gQi g (fun (z : Int) (w : gS) => R = w.2.1 ∧ J = w.2.2.1 ∧ AJ = w.2.2.2.2.1 ∧ AR = w.2.2.2.2.2 ∧ (gInv g gh R AR (w.1) (w.2.2.2.1)) ∧ (pS g gh R (w.1) a q ln) ∧ (pF a ln I (w.1)) ∧ (0 ≤ z ∧ z ≤ 4))) := by
  refine gStart (cc := cX1_readTerms) (maxL := 4) (ret := (some (.int))) (by decide) rfl (Nat.le_of_ble_eq_true rfl) ?_
  intro p e s m below meth c ls F hr hlk hH hz hS hl
  have hl : lv_has ls 4 [(0, .ref a), (1, .int (iI cols))] := hl
  have hS : va_S (gA g) s.heap s.heap [] := hS
  obtain ⟨H, hHe⟩ : ∃ H : Heap, H = s.heap := ⟨_, rfl⟩
  obtain ⟨locs, hlo⟩ : ∃ k : List Loc, k = [] := ⟨_, rfl⟩
  have hH : gH g I R J AI AJ AR H := by rw [hHe]; exact hH
  have hS : va_S (gA g) s.heap H locs := by rw [hHe, hlo]; exact hS
  suffices hw : W p l e rmX1_readTerms s m ([.ref a, .int (iI cols)] : List Value).toArray below meth c H locs 0 0 (MQ below (gQi g (fun (z : Int) (w : gS) => R = w.2.1 ∧ J = w.2.2.1 ∧ AJ = w.2.2.2.2.1 ∧ AR = w.2.2.2.2.2 ∧ (gInv g gh R AR (w.1) (w.2.2.2.1)) ∧ (pS g gh R (w.1) a q ln) ∧ (pF a ln I (w.1)) ∧ (0 ≤ z ∧ z ≤ 4))) ([.ref a, .int (iI cols)] : List Value).toArray s 0 0 (gA g)) (F0 m 0 ls []) by
    rw [hHe, hlo] at hw; exact hw
  clear hHe hlo
  have pf : pF a ln I I := pF_r
  refine z_iconst F dX1_readTerms_0 ?_
  refine lv_istore_n (lv' := [(2, .int (iI 0)), (0, .ref a), (1, .int (iI cols))]) F.1 F.2.1 dX1_readTerms_1 rfl hl (by decide) rfl (fun ls hl => ?_)
  have cut_2_2 : ∀ (NN : Nat) (i : Int) (I_1 : gI) (AI_2 : gI) (H : Heap) (locs : List Loc) (ls : Array Slot), zr i → (gInv g gh R AR I_1 AI_2) → (pS g gh R I_1 a q ln) → (pF a ln I I_1) → ((I_1 ln 0).toInt = 2 ∨ (I_1 ln 0).toInt = 8) → (0 ≤ i ∧ i ≤ 5) → (5 - i) < ((NN : Nat) : Int) → gH g I_1 R J AI_2 AJ AR H → va_S (gA g) s.heap H locs → lv_has ls 4 [(2, .int (iI i)), (0, .ref a), (1, .int (iI cols))] → W p l e rmX1_readTerms s m ([.ref a, .int (iI cols)] : List Value).toArray below meth c H locs 0 0 (MQ below (gQi g (fun (z : Int) (w : gS) => R = w.2.1 ∧ J = w.2.2.1 ∧ AJ = w.2.2.2.2.1 ∧ AR = w.2.2.2.2.2 ∧ (gInv g gh R AR (w.1) (w.2.2.2.1)) ∧ (pS g gh R (w.1) a q ln) ∧ (pF a ln I (w.1)) ∧ (0 ≤ z ∧ z ≤ 4))) ([.ref a, .int (iI cols)] : List Value).toArray s 0 0 (gA g)) (F0 m 2 ls []) := by
    intro NN2
    induction NN2 with
    | zero =>
      intro i I_1 AI_2 H locs ls zi hv hp pf hk hi hm2 hH hS hl
      exact absurd hm2 (by omega)
    | succ NN2 ih2 =>
      intro i I_1 AI_2 H locs ls zi hv hp pf hk hi hm2 hH hS hl
      refine lv_iload_n F.1 F.2.1 dX1_readTerms_2 rfl (lv_at hl 0 rfl) ?_
      refine z_iconst F dX1_readTerms_3 ?_
      refine z_icmp_gt (tgt := 38) F dX1_readTerms_4 (by decide) zi ⟨by decide, by decide⟩ (fun c_4 => ?_) (fun c_4 => ?_)
      · refine z_iconst F dX1_readTerms_38 ?_
        exact g_iret F hr hlk hH hS hz ⟨by decide, by decide⟩ ⟨rfl, rfl, rfl, rfl, hv, hp, pf, by first | omega | rfl | (dsimp only; omega)⟩ dX1_readTerms_39
      · refine lv_aload_n F.1 F.2.1 dX1_readTerms_7 rfl (lv_at hl 1 rfl) ?_
        refine lv_iload_n F.1 F.2.1 dX1_readTerms_8 rfl (lv_at hl 2 rfl) ?_
        refine g_calli (g_runV (As := [.int (iI cols)]) (rest := []) (ci := 1) F hl.1 hH hS hz (c_X1_readTerm l g gh q ln I_1 R J AI_2 AJ AR a cols zcols hv hp (by omega)) (cwV 1 F.2.2.2.2.1 gX1_readTerms_X1_readTerm rfl rfl rfl hdX1_readTerm ⟨Nat.le_of_ble_eq_true rfl, Nat.le_of_ble_eq_true rfl⟩) hp.1 (by decide) rfl rfl rfl (Nat.le_of_ble_eq_true rfl) dX1_readTerms_9 ⟨Nat.zero_le _, Nat.zero_le _⟩) hS (fun v_11 I_5 R_6 J_7 AI_8 AJ_9 AR_10 H locs zv_11 hp_12 hH hS => ?_)
        dsimp only at hp_12
        obtain ⟨rfl, rfl, rfl, rfl, hv, hp, pfq, q_13⟩ := hp_12
        have pf := pF_t pf pfq
        have u_14q : (I_5 q 1).toInt = (I_1 q 1).toInt := by rw [pF_q hp pfq]
        have u_14_0 : (I_5 ln 0).toInt = (I_1 ln 0).toInt := by rw [pfq.2]
        refine lv_istore_n (lv' := [(3, .int (iI v_11)), (2, .int (iI i)), (0, .ref a), (1, .int (iI cols))]) F.1 F.2.1 dX1_readTerms_12 rfl hl (by decide) rfl (fun ls hl => ?_)
        refine lv_iload_n F.1 F.2.1 dX1_readTerms_13 rfl (lv_at hl 0 rfl) ?_
        refine z_if_ne (tgt := 26) F dX1_readTerms_14 (by decide) zv_11 (fun c_15 => ?_) (fun c_15 => ?_)
        · refine lv_iload_n F.1 F.2.1 dX1_readTerms_26 rfl (lv_at hl 0 rfl) ?_
          exact g_iret F hr hlk hH hS hz zv_11 ⟨rfl, rfl, rfl, rfl, hv, hp, pf, by first | omega | rfl | (dsimp only; omega)⟩ dX1_readTerms_27
        · refine lv_aload_n F.1 F.2.1 dX1_readTerms_17 rfl (lv_at hl 2 rfl) ?_
          refine z_bipush F dX1_readTerms_18 (by decide) ?_
          refine g_calli (g_runV (As := [.int (iI 44)]) (rest := []) (ci := 1) F hl.1 hH hS hz (c_X1_isKind l g gh I_5 R J AI_8 AJ AR a 44 ⟨by decide, by decide⟩ hv hp.1 (by first | exact hp.2.2.2.2.2.2.2 | exact hh | omega)) (cwV 1 F.2.2.2.2.1 gX1_readTerms_X1_isKind rfl rfl rfl hdX1_isKind ⟨Nat.le_of_ble_eq_true rfl, Nat.le_of_ble_eq_true rfl⟩) hp.1 (by decide) rfl rfl rfl (Nat.le_of_ble_eq_true rfl) dX1_readTerms_20 ⟨Nat.zero_le _, Nat.zero_le _⟩) hS (fun v_22 I_16 R_17 J_18 AI_19 AJ_20 AR_21 H locs zv_22 hp_23 hH hS => ?_)
          dsimp only at hp_23
          obtain ⟨rfl, rfl, rfl, rfl, rfl, rfl, q_24⟩ := hp_23
          refine z_if_ne (tgt := 28) F dX1_readTerms_23 (by decide) zv_22 (fun c_25 => ?_) (fun c_25 => ?_)
          · refine lv_aload_n F.1 F.2.1 dX1_readTerms_28 rfl (lv_at hl 2 rfl) ?_
            have hv0 := hv
            refine g_callv (g_runV (As := []) (rest := []) (ci := 1) F hl.1 hH hS hz (c_X1_step l g gh I_5 R J AI_8 AJ AR a hv hp.1 (by first | exact hp.2.2.2.2.2.2.2 | exact hh | omega)) (cwV 0 F.2.2.2.2.1 gX1_readTerms_X1_step rfl rfl rfl hdX1_step ⟨Nat.le_of_ble_eq_true rfl, Nat.le_of_ble_eq_true rfl⟩) hp.1 (by decide) rfl rfl rfl (Nat.le_of_ble_eq_true rfl) dX1_readTerms_29 ⟨Nat.zero_le _, Nat.zero_le _⟩) hS (fun I_26 R_27 J_28 AI_29 AJ_30 AR_31 H locs hp_32 hH hS => ?_)
            dsimp only at hp_32
            obtain ⟨rfl, rfl, rfl, rfl, rfl, hv, fs, hs⟩ := hp_32
            obtain ⟨hp, pfq, fls⟩ := pS_step hv0 hp fs hs
            have pf := pF_t pf pfq
            have u_33q : (I_26 q 1).toInt = (I_5 q 1).toInt := by rw [pF_q hp pfq]
            have u_33_0 : (I_26 ln 0).toInt = (I_5 ln 0).toInt := by rw [fls]
            have u_33_8 : (I_26 ln 8).toInt = (I_5 ln 8).toInt := by rw [fls]
            refine z_iinc (lv' := [(2, .int (iI (i + 1))), (3, .int (iI v_11)), (0, .ref a), (1, .int (iI cols))]) F dX1_readTerms_32 hl (k := 1) rfl (by decide) rfl (fun ls hl => ?_)
            refine z_goto (tgt := 2) F dX1_readTerms_35 (by decide) ?_
            exact ih2 (i + 1) I_26 AI_8 H locs ls ⟨by omega, by omega⟩ hv hp pf (by omega) (by omega) (by omega) hH hS (lv_sub hl [0, 2, 3] rfl)
          · refine lv_iload_n F.1 F.2.1 dX1_readTerms_26 rfl (lv_at hl 0 rfl) ?_
            exact g_iret F hr hlk hH hS hz zv_11 ⟨rfl, rfl, rfl, rfl, hv, hp, pf, by first | omega | rfl | (dsimp only; omega)⟩ dX1_readTerms_27
  exact cut_2_2 (((5 - 0) + 1 : Int).toNat) 0 I AI H locs ls ⟨by decide, by decide⟩ hv hp pf (by omega) (by omega) (by omega) hH hS (lv_sub hl [0, 1, 2] rfl)

def rmX1_readPair : Room := { frames := 2, cells := 0, slots := 0, locals := 42 }
theorem hdX1_readPair : yX1_readPair.cls = RX1 ∧ yX1_readPair.cls ≠ "java/lang/invoke/MethodHandle" ∧ yX1_readPair.cls ≠ "java/lang/invoke/VarHandle" ∧ (parseMethodDescriptor yX1_readPair.desc).map (fun d => d.parameters.length) = some 1 := by decide +kernel
set_option maxHeartbeats 4000000 in
set_option maxRecDepth 100000 in
/-- a pair -/
theorem c_X1_readPair (l : Launch) (g : gG) (gh : gGh) (q ln : Nat) (I : gI) (R : gR) (J : gJ) (AI : gI) (AJ : gJ) (AR : gR) (a : Nat) (lim : Int) (zlim : zr lim) (hv : gInv g gh R AR I AI) (hp : pS g gh R I a q ln) : gMet l g yX1_readPair wsX1_readPair rmX1_readPair [.ref a, .int (iI lim)] (I, R, J, AI, AJ, AR) (gQi g (fun (z : Int) (w : gS) => R = w.2.1 ∧ J = w.2.2.1 ∧ AI = w.2.2.2.1 ∧ AJ = w.2.2.2.2.1 ∧ AR = w.2.2.2.2.2 ∧ (gInv g gh R AR (w.1) AI) ∧ (pS g gh R (w.1) a q ln) ∧ (pF a ln I (w.1)) ∧ (((w.1) ln 8).toInt = (I ln 8).toInt) ∧ (z = 0 → (I ln 8).toInt < lim) ∧ (0 ≤ z ∧ z ≤ 4))) := by
  refine gStart (cc := cX1_readPair) (maxL := 3) (ret := (some (.int))) (by decide) rfl (Nat.le_of_ble_eq_true rfl) ?_
  intro p e s m below meth c ls F hr hlk hH hz hS hl
  have hl : lv_has ls 3 [(0, .ref a), (1, .int (iI lim))] := hl
  have hS : va_S (gA g) s.heap s.heap [] := hS
  obtain ⟨H, hHe⟩ : ∃ H : Heap, H = s.heap := ⟨_, rfl⟩
  obtain ⟨locs, hlo⟩ : ∃ k : List Loc, k = [] := ⟨_, rfl⟩
  have hH : gH g I R J AI AJ AR H := by rw [hHe]; exact hH
  have hS : va_S (gA g) s.heap H locs := by rw [hHe, hlo]; exact hS
  suffices hw : W p l e rmX1_readPair s m ([.ref a, .int (iI lim)] : List Value).toArray below meth c H locs 0 0 (MQ below (gQi g (fun (z : Int) (w : gS) => R = w.2.1 ∧ J = w.2.2.1 ∧ AI = w.2.2.2.1 ∧ AJ = w.2.2.2.2.1 ∧ AR = w.2.2.2.2.2 ∧ (gInv g gh R AR (w.1) AI) ∧ (pS g gh R (w.1) a q ln) ∧ (pF a ln I (w.1)) ∧ (((w.1) ln 8).toInt = (I ln 8).toInt) ∧ (z = 0 → (I ln 8).toInt < lim) ∧ (0 ≤ z ∧ z ≤ 4))) ([.ref a, .int (iI lim)] : List Value).toArray s 0 0 (gA g)) (F0 m 0 ls []) by
    rw [hHe, hlo] at hw; exact hw
  clear hHe hlo
  have pf : pF a ln I I := pF_r
  have iX5 : ∀ w ∈ u_ws RX5 TX5 5, w ∈ wsX1_readPair := (by decide +kernel)
  have iX1 : ∀ w ∈ u_ws RX1 TX1 4, w ∈ wsX1_readPair := (by decide +kernel)
  have iX0 : ∀ w ∈ u_ws RX0 TX0 15, w ∈ wsX1_readPair := (by decide +kernel)
  have k29 : Cond.fieldLink RX1 29 (TX1 2).1 (TX1 2).2.1 (TX1 2).2.2.1 ∈ wsX1_readPair := List.mem_of_getElem? (i := 1) rfl
  have k143 : Cond.fieldLink RX1 143 (TX0 5).1 (TX0 5).2.1 (TX0 5).2.2.1 ∈ wsX1_readPair := List.mem_of_getElem? (i := 2) rfl
  have k149 : Cond.fieldLink RX1 149 (TX0 8).1 (TX0 8).2.1 (TX0 8).2.2.1 ∈ wsX1_readPair := List.mem_of_getElem? (i := 3) rfl
  have k12 : Cond.fieldLink RX1 12 (TX1 0).1 (TX1 0).2.1 (TX1 0).2.2.1 ∈ wsX1_readPair := List.mem_of_getElem? (i := 4) rfl
  have k71 : Cond.fieldLink RX1 71 (TX5 2).1 (TX5 2).2.1 (TX5 2).2.2.1 ∈ wsX1_readPair := List.mem_of_getElem? (i := 5) rfl
  have k44 : Cond.fieldLink RX1 44 (TX1 3).1 (TX1 3).2.1 (TX1 3).2.2.1 ∈ wsX1_readPair := List.mem_of_getElem? (i := 6) rfl
  have k202 : Cond.fieldLink RX1 202 (TX0 9).1 (TX0 9).2.1 (TX0 9).2.2.1 ∈ wsX1_readPair := List.mem_of_getElem? (i := 7) rfl
  have k146 : Cond.fieldLink RX1 146 (TX0 6).1 (TX0 6).2.1 (TX0 6).2.2.1 ∈ wsX1_readPair := List.mem_of_getElem? (i := 8) rfl
  have k205 : Cond.fieldLink RX1 205 (TX0 10).1 (TX0 10).2.1 (TX0 10).2.2.1 ∈ wsX1_readPair := List.mem_of_getElem? (i := 9) rfl
  refine lv_aload_n F.1 F.2.1 dX1_readPair_0 rfl (lv_at hl 0 rfl) ?_
  refine lv_aload_n F.1 F.2.1 dX1_readPair_1 rfl (lv_at hl 0 rfl) ?_
  refine g_getR (ci := 1) (k := 2) F hH rfl (by decide) iX1 hp.1 (by decide) rfl (b := ln) hp.2.2.2.1 k29 dX1_readPair_2 ?_
  refine g_getI (ci := 0) (k := 5) F hH rfl (by decide) iX0 hp.2.2.2.2.1 (by decide) rfl k143 dX1_readPair_5 ?_
  have b_1 := gI_line hv hp.2.2.2.2.1
  unfold vLineI at b_1
  refine g_calli (g_runV (As := [.int (iI ((I ln 5).toInt))]) (rest := []) (ci := 1) F hl.1 hH hS hz (c_X1_seeColumn l g gh I R J AI AJ AR a ((I ln 5).toInt) (zr_t _) hv hp.1 (by first | exact hp.2.2.2.2.2.2.2 | exact hh | omega)) (cwV 1 F.2.2.2.2.1 gX1_readPair_X1_seeColumn rfl rfl rfl hdX1_seeColumn ⟨Nat.le_of_ble_eq_true rfl, Nat.le_of_ble_eq_true rfl⟩) hp.1 (by decide) rfl rfl rfl (Nat.le_of_ble_eq_true rfl) dX1_readPair_8 ⟨Nat.zero_le _, Nat.zero_le _⟩) hS (fun v_8 I_2 R_3 J_4 AI_5 AJ_6 AR_7 H locs zv_8 hp_9 hH hS => ?_)
  dsimp only at hp_9
  obtain ⟨rfl, rfl, rfl, rfl, rfl, rfl, s1, s2⟩ := hp_9
  refine lv_istore_n (lv' := [(2, .int (iI v_8)), (0, .ref a), (1, .int (iI lim))]) F.1 F.2.1 dX1_readPair_11 rfl hl (by decide) rfl (fun ls hl => ?_)
  refine lv_iload_n F.1 F.2.1 dX1_readPair_12 rfl (lv_at hl 0 rfl) ?_
  refine z_if_eq (tgt := 18) F dX1_readPair_13 (by decide) zv_8 (fun c_10 => ?_) (fun c_10 => ?_)
  · refine lv_aload_n F.1 F.2.1 dX1_readPair_18 rfl (lv_at hl 1 rfl) ?_
    refine g_getR (ci := 1) (k := 2) F hH rfl (by decide) iX1 hp.1 (by decide) rfl (b := ln) hp.2.2.2.1 k29 dX1_readPair_19 ?_
    refine g_getI (ci := 0) (k := 8) F hH rfl (by decide) iX0 hp.2.2.2.2.1 (by decide) rfl k149 dX1_readPair_22 ?_
    refine lv_iload_n F.1 F.2.1 dX1_readPair_25 rfl (lv_at hl 2 rfl) ?_
    refine z_icmp_lt (tgt := 31) F dX1_readPair_26 (by decide) (zr_t _) zlim (fun c_11 => ?_) (fun c_11 => ?_)
    · refine lv_aload_n F.1 F.2.1 dX1_readPair_31 rfl (lv_at hl 1 rfl) ?_
      refine g_getR (ci := 1) (k := 2) F hH rfl (by decide) iX1 hp.1 (by decide) rfl (b := ln) hp.2.2.2.1 k29 dX1_readPair_32 ?_
      refine lv_aload_n F.1 F.2.1 dX1_readPair_35 rfl (lv_at hl 1 rfl) ?_
      refine g_getR (ci := 1) (k := 0) F hH rfl (by decide) iX1 hp.1 (by decide) rfl (b := gh 22 0) (gR_pr0 hv hp.1).1 k12 dX1_readPair_36 ?_
      obtain ⟨r_12a, r_12b⟩ := gR_tk2 hv (gR_pr0 hv hp.1).2
      refine g_getR (ci := 5) (k := 2) F hH rfl (by decide) iX5 (gR_pr0 hv hp.1).2 (by decide) rfl (b := gh 26 0) r_12a k71 dX1_readPair_39 ?_
      refine lv_aload_n F.1 F.2.1 dX1_readPair_42 rfl (lv_at hl 1 rfl) ?_
      refine g_getI (ci := 1) (k := 3) F hH rfl (by decide) iX1 hp.1 (by decide) rfl k44 dX1_readPair_43 ?_
      have b_13h := hp.2.2.2.2.2.2.2
      have b_13 := gI_pr hv hp.1
      have b_13t := gI_tk hv (gR_pr0 hv hp.1).2
      have hx46 : 0 ≤ ((I a 3).toInt) ∧ ((I a 3).toInt) < ((901 : Nat) : Int) ∧ ((I a 3).toInt) ≤ 2147483647 := ⟨by omega, by omega, by omega⟩
      refine g_iald F hH r_12b hx46.1 hx46.2.1 hx46.2.2 dX1_readPair_46 ?_
      refine z_name (fun v_14 ev_14 => ?_)
      have zv_14 : zr v_14 := by rw [ev_14]; exact zr_t _
      refine g_putI (ci := 0) (k := 9) F hH hS rfl (by decide) iX0 hp.2.2.2.2.1 (by decide) tyX0 tyX0_ok nmX0 rfl rfl rfl k202 dX1_readPair_47 (fun H locs hH hS => ?_)
      obtain ⟨I_15, eI_15⟩ : ∃ qQ, qQ = gup2 I ln 9 (iI (v_14)) := ⟨_, rfl⟩
      rw [← eI_15] at hH
      have kI_15 : ∀ b, b ≠ ln → I_15 b = I b := fun b hb => by rw [eI_15]; exact funext fun j => gup2_a _ _ hb
      have w_16 : (I_15 ln 9).toInt = v_14 := by rw [eI_15, gup2_s]; exact iI_val ⟨by omega, by omega⟩
      have hp2 : pS g gh R I_15 a q ln := pS_ln hv hp kI_15
      have hv : gInv g gh R AR I_15 AI := by rw [eI_15]; exact gInv_line9 hv hp.2.2.2.2.1 (by omega) (by omega)
      have hp := hp2
      have pf : pF a ln I I_15 := pF_t pf (by rw [eI_15]; exact pF_ln (by decide))
      have w_16_k : ∀ j, j ≠ 9 → I_15 ln j = I ln j := fun j hj => by rw [eI_15]; exact gup2_k _ _ hj
      have u_17q : (I_15 q 1).toInt = (I q 1).toInt := by rw [kI_15 q (gO_ne hp.2.2.1 hp.2.2.2.2.1 (by decide))]
      have u_17_0 : (I_15 ln 0).toInt = (I ln 0).toInt := by rw [w_16_k 0 (by decide)]
      have u_17_8 : (I_15 ln 8).toInt = (I ln 8).toInt := by rw [w_16_k 8 (by decide)]
      refine lv_aload_n F.1 F.2.1 dX1_readPair_50 rfl (lv_at hl 1 rfl) ?_
      have hv0 := hv
      refine g_callv (g_runV (As := []) (rest := []) (ci := 1) F hl.1 hH hS hz (c_X1_step l g gh I_15 R J AI AJ AR a hv hp.1 (by first | exact hp.2.2.2.2.2.2.2 | exact hh | omega)) (cwV 0 F.2.2.2.2.1 gX1_readPair_X1_step rfl rfl rfl hdX1_step ⟨Nat.le_of_ble_eq_true rfl, Nat.le_of_ble_eq_true rfl⟩) hp.1 (by decide) rfl rfl rfl (Nat.le_of_ble_eq_true rfl) dX1_readPair_51 ⟨Nat.zero_le _, Nat.zero_le _⟩) hS (fun I_18 R_19 J_20 AI_21 AJ_22 AR_23 H locs hp_24 hH hS => ?_)
      dsimp only at hp_24
      obtain ⟨rfl, rfl, rfl, rfl, rfl, hv, fs, hs⟩ := hp_24
      obtain ⟨hp, pfq, fls⟩ := pS_step hv0 hp fs hs
      have pf := pF_t pf pfq
      have u_25q : (I_18 q 1).toInt = (I_15 q 1).toInt := by rw [pF_q hp pfq]
      have u_25_0 : (I_18 ln 0).toInt = (I_15 ln 0).toInt := by rw [fls]
      have u_25_8 : (I_18 ln 8).toInt = (I_15 ln 8).toInt := by rw [fls]
      refine lv_aload_n F.1 F.2.1 dX1_readPair_54 rfl (lv_at hl 1 rfl) ?_
      refine z_bipush F dX1_readPair_55 (by decide) ?_
      refine g_calli (g_runV (As := [.int (iI 61)]) (rest := []) (ci := 1) F hl.1 hH hS hz (c_X1_takeKind l g gh q ln I_18 R J AI AJ AR a 61 ⟨by decide, by decide⟩ hv hp) (cwV 1 F.2.2.2.2.1 gX1_readPair_X1_takeKind rfl rfl rfl hdX1_takeKind ⟨Nat.le_of_ble_eq_true rfl, Nat.le_of_ble_eq_true rfl⟩) hp.1 (by decide) rfl rfl rfl (Nat.le_of_ble_eq_true rfl) dX1_readPair_57 ⟨Nat.zero_le _, Nat.zero_le _⟩) hS (fun v_32 I_26 R_27 J_28 AI_29 AJ_30 AR_31 H locs zv_32 hp_33 hH hS => ?_)
      dsimp only at hp_33
      obtain ⟨rfl, rfl, rfl, rfl, rfl, hv, hp, pfq, flq, q_34⟩ := hp_33
      have pf := pF_t pf pfq
      have u_35q : (I_26 q 1).toInt = (I_18 q 1).toInt := by rw [pF_q hp pfq]
      have u_35_0 : (I_26 ln 0).toInt = (I_18 ln 0).toInt := by rw [pfq.2]
      have u_35_8 : (I_26 ln 8).toInt = (I_18 ln 8).toInt := by rw [flq]
      refine lv_istore_n (lv' := [(2, .int (iI v_32)), (0, .ref a), (1, .int (iI lim))]) F.1 F.2.1 dX1_readPair_60 rfl hl (by decide) rfl (fun ls hl => ?_)
      refine lv_iload_n F.1 F.2.1 dX1_readPair_61 rfl (lv_at hl 0 rfl) ?_
      refine z_if_ne (tgt := 77) F dX1_readPair_62 (by decide) zv_32 (fun c_36 => ?_) (fun c_36 => ?_)
      · refine lv_iload_n F.1 F.2.1 dX1_readPair_77 rfl (lv_at hl 0 rfl) ?_
        refine z_if_ne (tgt := 104) F dX1_readPair_78 (by decide) zv_32 (fun c_37 => ?_) (fun c_37 => ?_)
        · refine lv_iload_n F.1 F.2.1 dX1_readPair_104 rfl (lv_at hl 0 rfl) ?_
          exact g_iret F hr hlk hH hS hz zv_32 ⟨rfl, rfl, rfl, rfl, rfl, hv, hp, pf, by first | omega | rfl | (dsimp only; omega), fun _ => by omega, by first | omega | rfl | (dsimp only; omega)⟩ dX1_readPair_105
        · exact absurd trivial (by omega)
      · refine lv_aload_n F.1 F.2.1 dX1_readPair_65 rfl (lv_at hl 1 rfl) ?_
        refine lv_aload_n F.1 F.2.1 dX1_readPair_66 rfl (lv_at hl 1 rfl) ?_
        refine g_getR (ci := 1) (k := 2) F hH rfl (by decide) iX1 hp.1 (by decide) rfl (b := ln) hp.2.2.2.1 k29 dX1_readPair_67 ?_
        refine g_getI (ci := 0) (k := 6) F hH rfl (by decide) iX0 hp.2.2.2.2.1 (by decide) rfl k146 dX1_readPair_70 ?_
        have b_38 := gI_line hv hp.2.2.2.2.1
        unfold vLineI at b_38
        refine g_calli (g_runV (As := [.int (iI ((I_26 ln 6).toInt))]) (rest := []) (ci := 1) F hl.1 hH hS hz (c_X1_seeColumn l g gh I_26 R J AI AJ AR a ((I_26 ln 6).toInt) (zr_t _) hv hp.1 (by first | exact hp.2.2.2.2.2.2.2 | exact hh | omega)) (cwV 1 F.2.2.2.2.1 gX1_readPair_X1_seeColumn rfl rfl rfl hdX1_seeColumn ⟨Nat.le_of_ble_eq_true rfl, Nat.le_of_ble_eq_true rfl⟩) hp.1 (by decide) rfl rfl rfl (Nat.le_of_ble_eq_true rfl) dX1_readPair_73 ⟨Nat.zero_le _, Nat.zero_le _⟩) hS (fun v_45 I_39 R_40 J_41 AI_42 AJ_43 AR_44 H locs zv_45 hp_46 hH hS => ?_)
        dsimp only at hp_46
        obtain ⟨rfl, rfl, rfl, rfl, rfl, rfl, t1, t2⟩ := hp_46
        refine lv_istore_n (lv' := [(2, .int (iI v_45)), (0, .ref a), (1, .int (iI lim))]) F.1 F.2.1 dX1_readPair_76 rfl hl (by decide) rfl (fun ls hl => ?_)
        refine lv_iload_n F.1 F.2.1 dX1_readPair_77 rfl (lv_at hl 0 rfl) ?_
        refine z_if_ne (tgt := 104) F dX1_readPair_78 (by decide) zv_45 (fun c_47 => ?_) (fun c_47 => ?_)
        · refine lv_iload_n F.1 F.2.1 dX1_readPair_104 rfl (lv_at hl 0 rfl) ?_
          exact g_iret F hr hlk hH hS hz zv_45 ⟨rfl, rfl, rfl, rfl, rfl, hv, hp, pf, by first | omega | rfl | (dsimp only; omega), fun _ => by omega, by first | omega | rfl | (dsimp only; omega)⟩ dX1_readPair_105
        · refine lv_aload_n F.1 F.2.1 dX1_readPair_81 rfl (lv_at hl 1 rfl) ?_
          refine g_getR (ci := 1) (k := 2) F hH rfl (by decide) iX1 hp.1 (by decide) rfl (b := ln) hp.2.2.2.1 k29 dX1_readPair_82 ?_
          refine lv_aload_n F.1 F.2.1 dX1_readPair_85 rfl (lv_at hl 1 rfl) ?_
          refine g_getR (ci := 1) (k := 0) F hH rfl (by decide) iX1 hp.1 (by decide) rfl (b := gh 22 0) (gR_pr0 hv hp.1).1 k12 dX1_readPair_86 ?_
          refine g_getR (ci := 5) (k := 2) F hH rfl (by decide) iX5 (gR_pr0 hv hp.1).2 (by decide) rfl (b := gh 26 0) r_12a k71 dX1_readPair_89 ?_
          refine lv_aload_n F.1 F.2.1 dX1_readPair_92 rfl (lv_at hl 1 rfl) ?_
          refine g_getI (ci := 1) (k := 3) F hH rfl (by decide) iX1 hp.1 (by decide) rfl k44 dX1_readPair_93 ?_
          have b_48h := hp.2.2.2.2.2.2.2
          have b_48 := gI_pr hv hp.1
          have b_48t := gI_tk hv (gR_pr0 hv hp.1).2
          have hx96 : 0 ≤ ((I_26 a 3).toInt) ∧ ((I_26 a 3).toInt) < ((901 : Nat) : Int) ∧ ((I_26 a 3).toInt) ≤ 2147483647 := ⟨by omega, by omega, by omega⟩
          refine g_iald F hH r_12b hx96.1 hx96.2.1 hx96.2.2 dX1_readPair_96 ?_
          refine z_name (fun v_49 ev_49 => ?_)
          have zv_49 : zr v_49 := by rw [ev_49]; exact zr_t _
          refine g_putI (ci := 0) (k := 10) F hH hS rfl (by decide) iX0 hp.2.2.2.2.1 (by decide) tyX0 tyX0_ok nmX0 rfl rfl rfl k205 dX1_readPair_97 (fun H locs hH hS => ?_)
          obtain ⟨I_50, eI_50⟩ : ∃ qQ, qQ = gup2 I_26 ln 10 (iI (v_49)) := ⟨_, rfl⟩
          rw [← eI_50] at hH
          have kI_50 : ∀ b, b ≠ ln → I_50 b = I_26 b := fun b hb => by rw [eI_50]; exact funext fun j => gup2_a _ _ hb
          have w_51 : (I_50 ln 10).toInt = v_49 := by rw [eI_50, gup2_s]; exact iI_val ⟨by omega, by omega⟩
          have hp2 : pS g gh R I_50 a q ln := pS_ln hv hp kI_50
          have hv : gInv g gh R AR I_50 AI := by rw [eI_50]; exact gInv_line10 hv hp.2.2.2.2.1 (by omega) (by omega)
          have hp := hp2
          have pf : pF a ln I I_50 := pF_t pf (by rw [eI_50]; exact pF_ln (by decide))
          have w_51_k : ∀ j, j ≠ 10 → I_50 ln j = I_26 ln j := fun j hj => by rw [eI_50]; exact gup2_k _ _ hj
          have u_52q : (I_50 q 1).toInt = (I_26 q 1).toInt := by rw [kI_50 q (gO_ne hp.2.2.1 hp.2.2.2.2.1 (by decide))]
          have u_52_0 : (I_50 ln 0).toInt = (I_26 ln 0).toInt := by rw [w_51_k 0 (by decide)]
          have u_52_8 : (I_50 ln 8).toInt = (I_26 ln 8).toInt := by rw [w_51_k 8 (by decide)]
          refine lv_aload_n F.1 F.2.1 dX1_readPair_100 rfl (lv_at hl 1 rfl) ?_
          have hv0 := hv
          refine g_callv (g_runV (As := []) (rest := []) (ci := 1) F hl.1 hH hS hz (c_X1_step l g gh I_50 R J AI AJ AR a hv hp.1 (by first | exact hp.2.2.2.2.2.2.2 | exact hh | omega)) (cwV 0 F.2.2.2.2.1 gX1_readPair_X1_step rfl rfl rfl hdX1_step ⟨Nat.le_of_ble_eq_true rfl, Nat.le_of_ble_eq_true rfl⟩) hp.1 (by decide) rfl rfl rfl (Nat.le_of_ble_eq_true rfl) dX1_readPair_101 ⟨Nat.zero_le _, Nat.zero_le _⟩) hS (fun I_53 R_54 J_55 AI_56 AJ_57 AR_58 H locs hp_59 hH hS => ?_)
          dsimp only at hp_59
          obtain ⟨rfl, rfl, rfl, rfl, rfl, hv, fs, hs⟩ := hp_59
          obtain ⟨hp, pfq, fls⟩ := pS_step hv0 hp fs hs
          have pf := pF_t pf pfq
          have u_60q : (I_53 q 1).toInt = (I_50 q 1).toInt := by rw [pF_q hp pfq]
          have u_60_0 : (I_53 ln 0).toInt = (I_50 ln 0).toInt := by rw [fls]
          have u_60_8 : (I_53 ln 8).toInt = (I_50 ln 8).toInt := by rw [fls]
          refine lv_iload_n F.1 F.2.1 dX1_readPair_104 rfl (lv_at hl 0 rfl) ?_
          exact g_iret F hr hlk hH hS hz zv_45 ⟨rfl, rfl, rfl, rfl, rfl, hv, hp, pf, by first | omega | rfl | (dsimp only; omega), fun _ => by omega, by first | omega | rfl | (dsimp only; omega)⟩ dX1_readPair_105
    · refine z_iconst F dX1_readPair_29 ?_
      exact g_iret F hr hlk hH hS hz ⟨by decide, by decide⟩ ⟨rfl, rfl, rfl, rfl, rfl, hv, hp, pf, by first | omega | rfl | (dsimp only; omega), fun h => absurd h (by omega), by first | omega | rfl | (dsimp only; omega)⟩ dX1_readPair_30
  · refine lv_iload_n F.1 F.2.1 dX1_readPair_16 rfl (lv_at hl 0 rfl) ?_
    exact g_iret F hr hlk hH hS hz zv_8 ⟨rfl, rfl, rfl, rfl, rfl, hv, hp, pf, by first | omega | rfl | (dsimp only; omega), fun h => absurd h (by omega), by first | omega | rfl | (dsimp only; omega)⟩ dX1_readPair_17

def rmX1_readPairs : Room := { frames := 3, cells := 0, slots := 0, locals := 64 }
theorem hdX1_readPairs : yX1_readPairs.cls = RX1 ∧ yX1_readPairs.cls ≠ "java/lang/invoke/MethodHandle" ∧ yX1_readPairs.cls ≠ "java/lang/invoke/VarHandle" ∧ (parseMethodDescriptor yX1_readPairs.desc).map (fun d => d.parameters.length) = some 0 := by decide +kernel
set_option maxHeartbeats 4000000 in
set_option maxRecDepth 100000 in
/-- the pairs -/
theorem c_X1_readPairs (l : Launch) (g : gG) (gh : gGh) (q ln : Nat) (I : gI) (R : gR) (J : gJ) (AI : gI) (AJ : gJ) (AR : gR) (a : Nat) (hv : gInv g gh R AR I AI) (hp : pS g gh R I a q ln) (hk : (I ln 0).toInt = 3) : gMet l g yX1_readPairs wsX1_readPairs rmX1_readPairs [.ref a] (I, R, J, AI, AJ, AR) (gQi g (fun (z : Int) (w : gS) => R = w.2.1 ∧ J = w.2.2.1 ∧ AJ = w.2.2.2.2.1 ∧ AR = w.2.2.2.2.2 ∧ (gInv g gh R AR (w.1) (w.2.2.2.1)) ∧ (pS g gh R (w.1) a q ln) ∧ (pF a ln I (w.1)) ∧ (0 ≤ z ∧ z ≤ 4))) := by
  refine gStart (cc := cX1_readPairs) (maxL := 3) (ret := (some (.int))) (by decide) rfl (Nat.le_of_ble_eq_true rfl) ?_
  intro p e s m below meth c ls F hr hlk hH hz hS hl
  have hl : lv_has ls 3 [(0, .ref a)] := hl
  have hS : va_S (gA g) s.heap s.heap [] := hS
  obtain ⟨H, hHe⟩ : ∃ H : Heap, H = s.heap := ⟨_, rfl⟩
  obtain ⟨locs, hlo⟩ : ∃ k : List Loc, k = [] := ⟨_, rfl⟩
  have hH : gH g I R J AI AJ AR H := by rw [hHe]; exact hH
  have hS : va_S (gA g) s.heap H locs := by rw [hHe, hlo]; exact hS
  suffices hw : W p l e rmX1_readPairs s m ([.ref a] : List Value).toArray below meth c H locs 0 0 (MQ below (gQi g (fun (z : Int) (w : gS) => R = w.2.1 ∧ J = w.2.2.1 ∧ AJ = w.2.2.2.2.1 ∧ AR = w.2.2.2.2.2 ∧ (gInv g gh R AR (w.1) (w.2.2.2.1)) ∧ (pS g gh R (w.1) a q ln) ∧ (pF a ln I (w.1)) ∧ (0 ≤ z ∧ z ≤ 4))) ([.ref a] : List Value).toArray s 0 0 (gA g)) (F0 m 0 ls []) by
    rw [hHe, hlo] at hw; exact hw
  clear hHe hlo
  have pf : pF a ln I I := pF_r
  have iX1 : ∀ w ∈ u_ws RX1 TX1 4, w ∈ wsX1_readPairs := (by decide +kernel)
  have iX0 : ∀ w ∈ u_ws RX0 TX0 15, w ∈ wsX1_readPairs := (by decide +kernel)
  have k29 : Cond.fieldLink RX1 29 (TX1 2).1 (TX1 2).2.1 (TX1 2).2.2.1 ∈ wsX1_readPairs := List.mem_of_getElem? (i := 1) rfl
  have k202 : Cond.fieldLink RX1 202 (TX0 9).1 (TX0 9).2.1 (TX0 9).2.2.1 ∈ wsX1_readPairs := List.mem_of_getElem? (i := 2) rfl
  have k205 : Cond.fieldLink RX1 205 (TX0 10).1 (TX0 10).2.1 (TX0 10).2.2.1 ∈ wsX1_readPairs := List.mem_of_getElem? (i := 3) rfl
  refine z_iconst F dX1_readPairs_0 ?_
  refine lv_istore_n (lv' := [(1, .int (iI 0)), (0, .ref a)]) F.1 F.2.1 dX1_readPairs_1 rfl hl (by decide) rfl (fun ls hl => ?_)
  have cut_2_2 : ∀ (NN : Nat) (i : Int) (I_1 : gI) (AI_2 : gI) (H : Heap) (locs : List Loc) (ls : Array Slot), zr i → (gInv g gh R AR I_1 AI_2) → (pS g gh R I_1 a q ln) → (pF a ln I I_1) → ((I_1 ln 0).toInt = 3) → (0 ≤ i ∧ i ≤ 5) → (5 - i) < ((NN : Nat) : Int) → gH g I_1 R J AI_2 AJ AR H → va_S (gA g) s.heap H locs → lv_has ls 3 [(1, .int (iI i)), (0, .ref a)] → W p l e rmX1_readPairs s m ([.ref a] : List Value).toArray below meth c H locs 0 0 (MQ below (gQi g (fun (z : Int) (w : gS) => R = w.2.1 ∧ J = w.2.2.1 ∧ AJ = w.2.2.2.2.1 ∧ AR = w.2.2.2.2.2 ∧ (gInv g gh R AR (w.1) (w.2.2.2.1)) ∧ (pS g gh R (w.1) a q ln) ∧ (pF a ln I (w.1)) ∧ (0 ≤ z ∧ z ≤ 4))) ([.ref a] : List Value).toArray s 0 0 (gA g)) (F0 m 2 ls []) := by
    intro NN2
    induction NN2 with
    | zero =>
      intro i I_1 AI_2 H locs ls zi hv hp pf hk hi hm2 hH hS hl
      exact absurd hm2 (by omega)
    | succ NN2 ih2 =>
      intro i I_1 AI_2 H locs ls zi hv hp pf hk hi hm2 hH hS hl
      refine lv_iload_n F.1 F.2.1 dX1_readPairs_2 rfl (lv_at hl 0 rfl) ?_
      refine z_iconst F dX1_readPairs_3 ?_
      refine z_icmp_gt (tgt := 61) F dX1_readPairs_4 (by decide) zi ⟨by decide, by decide⟩ (fun c_4 => ?_) (fun c_4 => ?_)
      · refine z_iconst F dX1_readPairs_61 ?_
        exact g_iret F hr hlk hH hS hz ⟨by decide, by decide⟩ ⟨rfl, rfl, rfl, rfl, hv, hp, pf, by first | omega | rfl | (dsimp only; omega)⟩ dX1_readPairs_62
      · refine lv_aload_n F.1 F.2.1 dX1_readPairs_7 rfl (lv_at hl 1 rfl) ?_
        refine z_iconst F dX1_readPairs_8 ?_
        refine g_calli (g_runV (As := [.int (iI 4)]) (rest := []) (ci := 1) F hl.1 hH hS hz (c_X1_readPair l g gh q ln I_1 R J AI_2 AJ AR a 4 ⟨by decide, by decide⟩ hv hp) (cwV 1 F.2.2.2.2.1 gX1_readPairs_X1_readPair rfl rfl rfl hdX1_readPair ⟨Nat.le_of_ble_eq_true rfl, Nat.le_of_ble_eq_true rfl⟩) hp.1 (by decide) rfl rfl rfl (Nat.le_of_ble_eq_true rfl) dX1_readPairs_9 ⟨Nat.zero_le _, Nat.zero_le _⟩) hS (fun v_11 I_5 R_6 J_7 AI_8 AJ_9 AR_10 H locs zv_11 hp_12 hH hS => ?_)
        dsimp only at hp_12
        obtain ⟨rfl, rfl, rfl, rfl, rfl, hv, hp, pfq, k8q, q_13, q_14⟩ := hp_12
        have pf := pF_t pf pfq
        have u_15q : (I_5 q 1).toInt = (I_1 q 1).toInt := by rw [pF_q hp pfq]
        have u_15_0 : (I_5 ln 0).toInt = (I_1 ln 0).toInt := by rw [pfq.2]
        have u_15_8 : (I_5 ln 8).toInt = (I_1 ln 8).toInt := by rw [k8q]
        refine lv_istore_n (lv' := [(2, .int (iI v_11)), (1, .int (iI i)), (0, .ref a)]) F.1 F.2.1 dX1_readPairs_12 rfl hl (by decide) rfl (fun ls hl => ?_)
        refine lv_iload_n F.1 F.2.1 dX1_readPairs_13 rfl (lv_at hl 0 rfl) ?_
        refine z_if_eq (tgt := 19) F dX1_readPairs_14 (by decide) zv_11 (fun c_16 => ?_) (fun c_16 => ?_)
        · refine lv_aload_n F.1 F.2.1 dX1_readPairs_19 rfl (lv_at hl 2 rfl) ?_
          refine g_getR (ci := 1) (k := 2) F hH rfl (by decide) iX1 hp.1 (by decide) rfl (b := ln) hp.2.2.2.1 k29 dX1_readPairs_20 ?_
          refine lv_aload_n F.1 F.2.1 dX1_readPairs_23 rfl (lv_at hl 2 rfl) ?_
          refine g_getR (ci := 1) (k := 2) F hH rfl (by decide) iX1 hp.1 (by decide) rfl (b := ln) hp.2.2.2.1 k29 dX1_readPairs_24 ?_
          refine g_getI (ci := 0) (k := 9) F hH rfl (by decide) iX0 hp.2.2.2.2.1 (by decide) rfl k202 dX1_readPairs_27 ?_
          have b_17 := gI_line hv hp.2.2.2.2.1
          unfold vLineI at b_17
          refine lv_aload_n F.1 F.2.1 dX1_readPairs_30 rfl (lv_at hl 2 rfl) ?_
          refine g_getR (ci := 1) (k := 2) F hH rfl (by decide) iX1 hp.1 (by decide) rfl (b := ln) hp.2.2.2.1 k29 dX1_readPairs_31 ?_
          refine g_getI (ci := 0) (k := 10) F hH rfl (by decide) iX0 hp.2.2.2.2.1 (by decide) rfl k205 dX1_readPairs_34 ?_
          have hv0 := hv
          refine g_callv (g_runV (As := [.int (iI ((I_5 ln 9).toInt)), .int (iI ((I_5 ln 10).toInt))]) (rest := []) (ci := 0) F hl.1 hH hS hz (c_X0_addTwo l g gh I_5 R J AI_2 AJ AR ln ((I_5 ln 9).toInt) ((I_5 ln 10).toInt) (zr_t _) (zr_t _) hv hp.2.2.2.2.1 (by omega) (by omega) (by omega) (fun h => by omega)) (cwV 2 F.2.2.2.2.1 gX1_readPairs_X0_addTwo rfl rfl rfl hdX0_addTwo ⟨Nat.le_of_ble_eq_true rfl, Nat.le_of_ble_eq_true rfl⟩) hp.2.2.2.2.1 (by decide) rfl rfl rfl (Nat.le_of_ble_eq_true rfl) dX1_readPairs_37 ⟨Nat.zero_le _, Nat.zero_le _⟩) hS (fun I_18 R_19 J_20 AI_21 AJ_22 AR_23 H locs hp_24 hH hS => ?_)
          dsimp only at hp_24
          obtain ⟨rfl, rfl, rfl, rfl, hv, fI, fA, f0, f8⟩ := hp_24
          have hp := pS_ln hv0 hp fI
          have pf := pF_t pf (pF_o fI f0)
          have u_25q : (I_18 q 1).toInt = (I_5 q 1).toInt := by rw [fI q (gO_ne hp.2.2.1 hp.2.2.2.2.1 (by decide))]
          have u_25_0 : (I_18 ln 0).toInt = (I_5 ln 0).toInt := by rw [f0]
          refine lv_aload_n F.1 F.2.1 dX1_readPairs_40 rfl (lv_at hl 2 rfl) ?_
          refine z_bipush F dX1_readPairs_41 (by decide) ?_
          refine g_calli (g_runV (As := [.int (iI 44)]) (rest := []) (ci := 1) F hl.1 hH hS hz (c_X1_isKind l g gh I_18 R J AI_21 AJ AR a 44 ⟨by decide, by decide⟩ hv hp.1 (by first | exact hp.2.2.2.2.2.2.2 | exact hh | omega)) (cwV 1 F.2.2.2.2.1 gX1_readPairs_X1_isKind rfl rfl rfl hdX1_isKind ⟨Nat.le_of_ble_eq_true rfl, Nat.le_of_ble_eq_true rfl⟩) hp.1 (by decide) rfl rfl rfl (Nat.le_of_ble_eq_true rfl) dX1_readPairs_43 ⟨Nat.zero_le _, Nat.zero_le _⟩) hS (fun v_32 I_26 R_27 J_28 AI_29 AJ_30 AR_31 H locs zv_32 hp_33 hH hS => ?_)
          dsimp only at hp_33
          obtain ⟨rfl, rfl, rfl, rfl, rfl, rfl, q_34⟩ := hp_33
          refine z_if_ne (tgt := 51) F dX1_readPairs_46 (by decide) zv_32 (fun c_35 => ?_) (fun c_35 => ?_)
          · refine lv_aload_n F.1 F.2.1 dX1_readPairs_51 rfl (lv_at hl 2 rfl) ?_
            have hv0 := hv
            refine g_callv (g_runV (As := []) (rest := []) (ci := 1) F hl.1 hH hS hz (c_X1_step l g gh I_18 R J AI_21 AJ AR a hv hp.1 (by first | exact hp.2.2.2.2.2.2.2 | exact hh | omega)) (cwV 0 F.2.2.2.2.1 gX1_readPairs_X1_step rfl rfl rfl hdX1_step ⟨Nat.le_of_ble_eq_true rfl, Nat.le_of_ble_eq_true rfl⟩) hp.1 (by decide) rfl rfl rfl (Nat.le_of_ble_eq_true rfl) dX1_readPairs_52 ⟨Nat.zero_le _, Nat.zero_le _⟩) hS (fun I_36 R_37 J_38 AI_39 AJ_40 AR_41 H locs hp_42 hH hS => ?_)
            dsimp only at hp_42
            obtain ⟨rfl, rfl, rfl, rfl, rfl, hv, fs, hs⟩ := hp_42
            obtain ⟨hp, pfq, fls⟩ := pS_step hv0 hp fs hs
            have pf := pF_t pf pfq
            have u_43q : (I_36 q 1).toInt = (I_18 q 1).toInt := by rw [pF_q hp pfq]
            have u_43_0 : (I_36 ln 0).toInt = (I_18 ln 0).toInt := by rw [fls]
            have u_43_8 : (I_36 ln 8).toInt = (I_18 ln 8).toInt := by rw [fls]
            refine z_iinc (lv' := [(1, .int (iI (i + 1))), (2, .int (iI v_11)), (0, .ref a)]) F dX1_readPairs_55 hl (k := 1) rfl (by decide) rfl (fun ls hl => ?_)
            refine z_goto (tgt := 2) F dX1_readPairs_58 (by decide) ?_
            exact ih2 (i + 1) I_36 AI_21 H locs ls ⟨by omega, by omega⟩ hv hp pf (by omega) (by omega) (by omega) hH hS (lv_sub hl [0, 2] rfl)
          · refine z_iconst F dX1_readPairs_49 ?_
            exact g_iret F hr hlk hH hS hz ⟨by decide, by decide⟩ ⟨rfl, rfl, rfl, rfl, hv, hp, pf, by first | omega | rfl | (dsimp only; omega)⟩ dX1_readPairs_50
        · refine lv_iload_n F.1 F.2.1 dX1_readPairs_17 rfl (lv_at hl 0 rfl) ?_
          exact g_iret F hr hlk hH hS hz zv_11 ⟨rfl, rfl, rfl, rfl, hv, hp, pf, by first | omega | rfl | (dsimp only; omega)⟩ dX1_readPairs_18
  exact cut_2_2 (((5 - 0) + 1 : Int).toNat) 0 I AI H locs ls ⟨by decide, by decide⟩ hv hp pf (by omega) (by omega) (by omega) hH hS (lv_sub hl [0, 1] rfl)

def rmX1_readSelect : Room := { frames := 4, cells := 0, slots := 0, locals := 89 }
theorem hdX1_readSelect : yX1_readSelect.cls = RX1 ∧ yX1_readSelect.cls ≠ "java/lang/invoke/MethodHandle" ∧ yX1_readSelect.cls ≠ "java/lang/invoke/VarHandle" ∧ (parseMethodDescriptor yX1_readSelect.desc).map (fun d => d.parameters.length) = some 0 := by decide +kernel
set_option maxHeartbeats 4000000 in
set_option maxRecDepth 100000 in
/-- a select -/
theorem c_X1_readSelect (l : Launch) (g : gG) (gh : gGh) (q ln : Nat) (I : gI) (R : gR) (J : gJ) (AI : gI) (AJ : gJ) (AR : gR) (a : Nat) (hv : gInv g gh R AR I AI) (hp : pS g gh R I a q ln) (hk : (I ln 0).toInt = 1) : gMet l g yX1_readSelect wsX1_readSelect rmX1_readSelect [.ref a] (I, R, J, AI, AJ, AR) (gQi g (fun (z : Int) (w : gS) => R = w.2.1 ∧ J = w.2.2.1 ∧ AJ = w.2.2.2.2.1 ∧ AR = w.2.2.2.2.2 ∧ (gInv g gh R AR (w.1) (w.2.2.2.1)) ∧ (pS g gh R (w.1) a q ln) ∧ (pF a ln I (w.1)) ∧ (0 ≤ z ∧ z ≤ 4))) := by
  refine gStart (cc := cX1_readSelect) (maxL := 2) (ret := (some (.int))) (by decide) rfl (Nat.le_of_ble_eq_true rfl) ?_
  intro p e s m below meth c ls F hr hlk hH hz hS hl
  have hl : lv_has ls 2 [(0, .ref a)] := hl
  have hS : va_S (gA g) s.heap s.heap [] := hS
  obtain ⟨H, hHe⟩ : ∃ H : Heap, H = s.heap := ⟨_, rfl⟩
  obtain ⟨locs, hlo⟩ : ∃ k : List Loc, k = [] := ⟨_, rfl⟩
  have hH : gH g I R J AI AJ AR H := by rw [hHe]; exact hH
  have hS : va_S (gA g) s.heap H locs := by rw [hHe, hlo]; exact hS
  suffices hw : W p l e rmX1_readSelect s m ([.ref a] : List Value).toArray below meth c H locs 0 0 (MQ below (gQi g (fun (z : Int) (w : gS) => R = w.2.1 ∧ J = w.2.2.1 ∧ AJ = w.2.2.2.2.1 ∧ AR = w.2.2.2.2.2 ∧ (gInv g gh R AR (w.1) (w.2.2.2.1)) ∧ (pS g gh R (w.1) a q ln) ∧ (pF a ln I (w.1)) ∧ (0 ≤ z ∧ z ≤ 4))) ([.ref a] : List Value).toArray s 0 0 (gA g)) (F0 m 0 ls []) by
    rw [hHe, hlo] at hw; exact hw
  clear hHe hlo
  have pf : pF a ln I I := pF_r
  have iX1 : ∀ w ∈ u_ws RX1 TX1 4, w ∈ wsX1_readSelect := (by decide +kernel)
  have iX0 : ∀ w ∈ u_ws RX0 TX0 15, w ∈ wsX1_readSelect := (by decide +kernel)
  have k29 : Cond.fieldLink RX1 29 (TX1 2).1 (TX1 2).2.1 (TX1 2).2.2.1 ∈ wsX1_readSelect := List.mem_of_getElem? (i := 1) rfl
  have k143 : Cond.fieldLink RX1 143 (TX0 5).1 (TX0 5).2.1 (TX0 5).2.2.1 ∈ wsX1_readSelect := List.mem_of_getElem? (i := 2) rfl
  have k136 : Cond.fieldLink RX1 136 (TX0 2).1 (TX0 2).2.1 (TX0 2).2.2.1 ∈ wsX1_readSelect := List.mem_of_getElem? (i := 3) rfl
  refine lv_aload_n F.1 F.2.1 dX1_readSelect_0 rfl (lv_at hl 0 rfl) ?_
  refine g_calli (g_runV (As := []) (rest := []) (ci := 1) F hl.1 hH hS hz (c_X1_readFirst l g gh q ln I R J AI AJ AR a hv hp (by omega)) (cwV 0 F.2.2.2.2.1 gX1_readSelect_X1_readFirst rfl rfl rfl hdX1_readFirst ⟨Nat.le_of_ble_eq_true rfl, Nat.le_of_ble_eq_true rfl⟩) hp.1 (by decide) rfl rfl rfl (Nat.le_of_ble_eq_true rfl) dX1_readSelect_1 ⟨Nat.zero_le _, Nat.zero_le _⟩) hS (fun v_7 I_1 R_2 J_3 AI_4 AJ_5 AR_6 H locs zv_7 hp_8 hH hS => ?_)
  dsimp only at hp_8
  obtain ⟨rfl, rfl, rfl, rfl, rfl, hv, hp, pfq, k8q, q_9⟩ := hp_8
  have pf := pF_t pf pfq
  have u_10q : (I_1 q 1).toInt = (I q 1).toInt := by rw [pF_q hp pfq]
  have u_10_0 : (I_1 ln 0).toInt = (I ln 0).toInt := by rw [pfq.2]
  have u_10_8 : (I_1 ln 8).toInt = (I ln 8).toInt := by rw [k8q]
  refine lv_istore_n (lv' := [(1, .int (iI v_7)), (0, .ref a)]) F.1 F.2.1 dX1_readSelect_4 rfl hl (by decide) rfl (fun ls hl => ?_)
  refine lv_iload_n F.1 F.2.1 dX1_readSelect_5 rfl (lv_at hl 0 rfl) ?_
  refine z_if_ne (tgt := 16) F dX1_readSelect_6 (by decide) zv_7 (fun c_11 => ?_) (fun c_11 => ?_)
  · refine lv_iload_n F.1 F.2.1 dX1_readSelect_16 rfl (lv_at hl 0 rfl) ?_
    refine z_if_ne (tgt := 25) F dX1_readSelect_17 (by decide) zv_7 (fun c_12 => ?_) (fun c_12 => ?_)
    · refine lv_aload_n F.1 F.2.1 dX1_readSelect_25 rfl (lv_at hl 1 rfl) ?_
      refine g_getR (ci := 1) (k := 2) F hH rfl (by decide) iX1 hp.1 (by decide) rfl (b := ln) hp.2.2.2.1 k29 dX1_readSelect_26 ?_
      refine lv_aload_n F.1 F.2.1 dX1_readSelect_29 rfl (lv_at hl 1 rfl) ?_
      refine g_getR (ci := 1) (k := 2) F hH rfl (by decide) iX1 hp.1 (by decide) rfl (b := ln) hp.2.2.2.1 k29 dX1_readSelect_30 ?_
      refine g_getI (ci := 0) (k := 5) F hH rfl (by decide) iX0 hp.2.2.2.2.1 (by decide) rfl k143 dX1_readSelect_33 ?_
      have b_13 := gI_line hv hp.2.2.2.2.1
      unfold vLineI at b_13
      refine g_putI (ci := 0) (k := 2) F hH hS rfl (by decide) iX0 hp.2.2.2.2.1 (by decide) tyX0 tyX0_ok nmX0 rfl rfl rfl k136 dX1_readSelect_36 (fun H locs hH hS => ?_)
      obtain ⟨I_14, eI_14⟩ : ∃ qQ, qQ = gup2 I_1 ln 2 (iI ((I_1 ln 5).toInt)) := ⟨_, rfl⟩
      rw [← eI_14] at hH
      have kI_14 : ∀ b, b ≠ ln → I_14 b = I_1 b := fun b hb => by rw [eI_14]; exact funext fun j => gup2_a _ _ hb
      have w_15 : (I_14 ln 2).toInt = (I_1 ln 5).toInt := by rw [eI_14, gup2_s]; exact iI_val ⟨by omega, by omega⟩
      have hp2 : pS g gh R I_14 a q ln := pS_ln hv hp kI_14
      have hv : gInv g gh R AR I_14 AI := by rw [eI_14]; exact gInv_line2 hv hp.2.2.2.2.1 (by omega) (by omega) (pS_col hp)
      have hp := hp2
      have pf : pF a ln I I_14 := pF_t pf (by rw [eI_14]; exact pF_ln (by decide))
      have w_15_k : ∀ j, j ≠ 2 → I_14 ln j = I_1 ln j := fun j hj => by rw [eI_14]; exact gup2_k _ _ hj
      have u_16q : (I_14 q 1).toInt = (I_1 q 1).toInt := by rw [kI_14 q (gO_ne hp.2.2.1 hp.2.2.2.2.1 (by decide))]
      have u_16_0 : (I_14 ln 0).toInt = (I_1 ln 0).toInt := by rw [w_15_k 0 (by decide)]
      have u_16_8 : (I_14 ln 8).toInt = (I_1 ln 8).toInt := by rw [w_15_k 8 (by decide)]
      refine lv_iload_n F.1 F.2.1 dX1_readSelect_39 rfl (lv_at hl 0 rfl) ?_
      exact g_iret F hr hlk hH hS hz zv_7 ⟨rfl, rfl, rfl, rfl, hv, hp, pf, by first | omega | rfl | (dsimp only; omega)⟩ dX1_readSelect_40
    · exact absurd trivial (by omega)
  · refine lv_aload_n F.1 F.2.1 dX1_readSelect_9 rfl (lv_at hl 1 rfl) ?_
    refine z_bipush F dX1_readSelect_10 (by decide) ?_
    refine g_calli (g_runV (As := [.int (iI 10)]) (rest := []) (ci := 1) F hl.1 hH hS hz (c_X1_takeWord l g gh q ln I_1 R J AI AJ AR a 10 ⟨by decide, by decide⟩ hv hp) (cwV 1 F.2.2.2.2.1 gX1_readSelect_X1_takeWord rfl rfl rfl hdX1_takeWord ⟨Nat.le_of_ble_eq_true rfl, Nat.le_of_ble_eq_true rfl⟩) hp.1 (by decide) rfl rfl rfl (Nat.le_of_ble_eq_true rfl) dX1_readSelect_12 ⟨Nat.zero_le _, Nat.zero_le _⟩) hS (fun v_23 I_17 R_18 J_19 AI_20 AJ_21 AR_22 H locs zv_23 hp_24 hH hS => ?_)
    dsimp only at hp_24
    obtain ⟨rfl, rfl, rfl, rfl, rfl, hv, hp, pfq, flq, q_25⟩ := hp_24
    have pf := pF_t pf pfq
    have u_26q : (I_17 q 1).toInt = (I_1 q 1).toInt := by rw [pF_q hp pfq]
    have u_26_0 : (I_17 ln 0).toInt = (I_1 ln 0).toInt := by rw [pfq.2]
    have u_26_8 : (I_17 ln 8).toInt = (I_1 ln 8).toInt := by rw [flq]
    refine lv_istore_n (lv' := [(1, .int (iI v_23)), (0, .ref a)]) F.1 F.2.1 dX1_readSelect_15 rfl hl (by decide) rfl (fun ls hl => ?_)
    refine lv_iload_n F.1 F.2.1 dX1_readSelect_16 rfl (lv_at hl 0 rfl) ?_
    refine z_if_ne (tgt := 25) F dX1_readSelect_17 (by decide) zv_23 (fun c_27 => ?_) (fun c_27 => ?_)
    · refine lv_aload_n F.1 F.2.1 dX1_readSelect_25 rfl (lv_at hl 1 rfl) ?_
      refine g_getR (ci := 1) (k := 2) F hH rfl (by decide) iX1 hp.1 (by decide) rfl (b := ln) hp.2.2.2.1 k29 dX1_readSelect_26 ?_
      refine lv_aload_n F.1 F.2.1 dX1_readSelect_29 rfl (lv_at hl 1 rfl) ?_
      refine g_getR (ci := 1) (k := 2) F hH rfl (by decide) iX1 hp.1 (by decide) rfl (b := ln) hp.2.2.2.1 k29 dX1_readSelect_30 ?_
      refine g_getI (ci := 0) (k := 5) F hH rfl (by decide) iX0 hp.2.2.2.2.1 (by decide) rfl k143 dX1_readSelect_33 ?_
      have b_28 := gI_line hv hp.2.2.2.2.1
      unfold vLineI at b_28
      refine g_putI (ci := 0) (k := 2) F hH hS rfl (by decide) iX0 hp.2.2.2.2.1 (by decide) tyX0 tyX0_ok nmX0 rfl rfl rfl k136 dX1_readSelect_36 (fun H locs hH hS => ?_)
      obtain ⟨I_29, eI_29⟩ : ∃ qQ, qQ = gup2 I_17 ln 2 (iI ((I_17 ln 5).toInt)) := ⟨_, rfl⟩
      rw [← eI_29] at hH
      have kI_29 : ∀ b, b ≠ ln → I_29 b = I_17 b := fun b hb => by rw [eI_29]; exact funext fun j => gup2_a _ _ hb
      have w_30 : (I_29 ln 2).toInt = (I_17 ln 5).toInt := by rw [eI_29, gup2_s]; exact iI_val ⟨by omega, by omega⟩
      have hp2 : pS g gh R I_29 a q ln := pS_ln hv hp kI_29
      have hv : gInv g gh R AR I_29 AI := by rw [eI_29]; exact gInv_line2 hv hp.2.2.2.2.1 (by omega) (by omega) (pS_col hp)
      have hp := hp2
      have pf : pF a ln I I_29 := pF_t pf (by rw [eI_29]; exact pF_ln (by decide))
      have w_30_k : ∀ j, j ≠ 2 → I_29 ln j = I_17 ln j := fun j hj => by rw [eI_29]; exact gup2_k _ _ hj
      have u_31q : (I_29 q 1).toInt = (I_17 q 1).toInt := by rw [kI_29 q (gO_ne hp.2.2.1 hp.2.2.2.2.1 (by decide))]
      have u_31_0 : (I_29 ln 0).toInt = (I_17 ln 0).toInt := by rw [w_30_k 0 (by decide)]
      have u_31_8 : (I_29 ln 8).toInt = (I_17 ln 8).toInt := by rw [w_30_k 8 (by decide)]
      refine lv_iload_n F.1 F.2.1 dX1_readSelect_39 rfl (lv_at hl 0 rfl) ?_
      exact g_iret F hr hlk hH hS hz zv_23 ⟨rfl, rfl, rfl, rfl, hv, hp, pf, by first | omega | rfl | (dsimp only; omega)⟩ dX1_readSelect_40
    · refine lv_aload_n F.1 F.2.1 dX1_readSelect_20 rfl (lv_at hl 1 rfl) ?_
      refine g_calli (g_runV (As := []) (rest := []) (ci := 1) F hl.1 hH hS hz (c_X1_readTests l g gh q ln I_17 R J AI AJ AR a hv hp (by omega)) (cwV 0 F.2.2.2.2.1 gX1_readSelect_X1_readTests rfl rfl rfl hdX1_readTests ⟨Nat.le_of_ble_eq_true rfl, Nat.le_of_ble_eq_true rfl⟩) hp.1 (by decide) rfl rfl rfl (Nat.le_of_ble_eq_true rfl) dX1_readSelect_21 ⟨Nat.zero_le _, Nat.zero_le _⟩) hS (fun v_38 I_32 R_33 J_34 AI_35 AJ_36 AR_37 H locs zv_38 hp_39 hH hS => ?_)
      dsimp only at hp_39
      obtain ⟨rfl, rfl, rfl, rfl, hv, hp, pfq, q_40⟩ := hp_39
      have pf := pF_t pf pfq
      have u_41q : (I_32 q 1).toInt = (I_17 q 1).toInt := by rw [pF_q hp pfq]
      have u_41_0 : (I_32 ln 0).toInt = (I_17 ln 0).toInt := by rw [pfq.2]
      refine lv_istore_n (lv' := [(1, .int (iI v_38)), (0, .ref a)]) F.1 F.2.1 dX1_readSelect_24 rfl hl (by decide) rfl (fun ls hl => ?_)
      refine lv_aload_n F.1 F.2.1 dX1_readSelect_25 rfl (lv_at hl 1 rfl) ?_
      refine g_getR (ci := 1) (k := 2) F hH rfl (by decide) iX1 hp.1 (by decide) rfl (b := ln) hp.2.2.2.1 k29 dX1_readSelect_26 ?_
      refine lv_aload_n F.1 F.2.1 dX1_readSelect_29 rfl (lv_at hl 1 rfl) ?_
      refine g_getR (ci := 1) (k := 2) F hH rfl (by decide) iX1 hp.1 (by decide) rfl (b := ln) hp.2.2.2.1 k29 dX1_readSelect_30 ?_
      refine g_getI (ci := 0) (k := 5) F hH rfl (by decide) iX0 hp.2.2.2.2.1 (by decide) rfl k143 dX1_readSelect_33 ?_
      have b_42 := gI_line hv hp.2.2.2.2.1
      unfold vLineI at b_42
      refine g_putI (ci := 0) (k := 2) F hH hS rfl (by decide) iX0 hp.2.2.2.2.1 (by decide) tyX0 tyX0_ok nmX0 rfl rfl rfl k136 dX1_readSelect_36 (fun H locs hH hS => ?_)
      obtain ⟨I_43, eI_43⟩ : ∃ qQ, qQ = gup2 I_32 ln 2 (iI ((I_32 ln 5).toInt)) := ⟨_, rfl⟩
      rw [← eI_43] at hH
      have kI_43 : ∀ b, b ≠ ln → I_43 b = I_32 b := fun b hb => by rw [eI_43]; exact funext fun j => gup2_a _ _ hb
      have w_44 : (I_43 ln 2).toInt = (I_32 ln 5).toInt := by rw [eI_43, gup2_s]; exact iI_val ⟨by omega, by omega⟩
      have hp2 : pS g gh R I_43 a q ln := pS_ln hv hp kI_43
      have hv : gInv g gh R AR I_43 AI_35 := by rw [eI_43]; exact gInv_line2 hv hp.2.2.2.2.1 (by omega) (by omega) (pS_col hp)
      have hp := hp2
      have pf : pF a ln I I_43 := pF_t pf (by rw [eI_43]; exact pF_ln (by decide))
      have w_44_k : ∀ j, j ≠ 2 → I_43 ln j = I_32 ln j := fun j hj => by rw [eI_43]; exact gup2_k _ _ hj
      have u_45q : (I_43 q 1).toInt = (I_32 q 1).toInt := by rw [kI_43 q (gO_ne hp.2.2.1 hp.2.2.2.2.1 (by decide))]
      have u_45_0 : (I_43 ln 0).toInt = (I_32 ln 0).toInt := by rw [w_44_k 0 (by decide)]
      have u_45_8 : (I_43 ln 8).toInt = (I_32 ln 8).toInt := by rw [w_44_k 8 (by decide)]
      refine lv_iload_n F.1 F.2.1 dX1_readSelect_39 rfl (lv_at hl 0 rfl) ?_
      exact g_iret F hr hlk hH hS hz zv_38 ⟨rfl, rfl, rfl, rfl, hv, hp, pf, by first | omega | rfl | (dsimp only; omega)⟩ dX1_readSelect_40

def rmX1_readProject : Room := { frames := 4, cells := 0, slots := 0, locals := 90 }
theorem hdX1_readProject : yX1_readProject.cls = RX1 ∧ yX1_readProject.cls ≠ "java/lang/invoke/MethodHandle" ∧ yX1_readProject.cls ≠ "java/lang/invoke/VarHandle" ∧ (parseMethodDescriptor yX1_readProject.desc).map (fun d => d.parameters.length) = some 0 := by decide +kernel
set_option maxHeartbeats 4000000 in
set_option maxRecDepth 100000 in
/-- a project -/
theorem c_X1_readProject (l : Launch) (g : gG) (gh : gGh) (q ln : Nat) (I : gI) (R : gR) (J : gJ) (AI : gI) (AJ : gJ) (AR : gR) (a : Nat) (hv : gInv g gh R AR I AI) (hp : pS g gh R I a q ln) (hk : (I ln 0).toInt = 2) : gMet l g yX1_readProject wsX1_readProject rmX1_readProject [.ref a] (I, R, J, AI, AJ, AR) (gQi g (fun (z : Int) (w : gS) => R = w.2.1 ∧ J = w.2.2.1 ∧ AJ = w.2.2.2.2.1 ∧ AR = w.2.2.2.2.2 ∧ (gInv g gh R AR (w.1) (w.2.2.2.1)) ∧ (pS g gh R (w.1) a q ln) ∧ (pF a ln I (w.1)) ∧ (0 ≤ z ∧ z ≤ 4))) := by
  refine gStart (cc := cX1_readProject) (maxL := 2) (ret := (some (.int))) (by decide) rfl (Nat.le_of_ble_eq_true rfl) ?_
  intro p e s m below meth c ls F hr hlk hH hz hS hl
  have hl : lv_has ls 2 [(0, .ref a)] := hl
  have hS : va_S (gA g) s.heap s.heap [] := hS
  obtain ⟨H, hHe⟩ : ∃ H : Heap, H = s.heap := ⟨_, rfl⟩
  obtain ⟨locs, hlo⟩ : ∃ k : List Loc, k = [] := ⟨_, rfl⟩
  have hH : gH g I R J AI AJ AR H := by rw [hHe]; exact hH
  have hS : va_S (gA g) s.heap H locs := by rw [hHe, hlo]; exact hS
  suffices hw : W p l e rmX1_readProject s m ([.ref a] : List Value).toArray below meth c H locs 0 0 (MQ below (gQi g (fun (z : Int) (w : gS) => R = w.2.1 ∧ J = w.2.2.1 ∧ AJ = w.2.2.2.2.1 ∧ AR = w.2.2.2.2.2 ∧ (gInv g gh R AR (w.1) (w.2.2.2.1)) ∧ (pS g gh R (w.1) a q ln) ∧ (pF a ln I (w.1)) ∧ (0 ≤ z ∧ z ≤ 4))) ([.ref a] : List Value).toArray s 0 0 (gA g)) (F0 m 0 ls []) by
    rw [hHe, hlo] at hw; exact hw
  clear hHe hlo
  have pf : pF a ln I I := pF_r
  have iX1 : ∀ w ∈ u_ws RX1 TX1 4, w ∈ wsX1_readProject := (by decide +kernel)
  have iX0 : ∀ w ∈ u_ws RX0 TX0 15, w ∈ wsX1_readProject := (by decide +kernel)
  have k29 : Cond.fieldLink RX1 29 (TX1 2).1 (TX1 2).2.1 (TX1 2).2.2.1 ∈ wsX1_readProject := List.mem_of_getElem? (i := 1) rfl
  have k143 : Cond.fieldLink RX1 143 (TX0 5).1 (TX0 5).2.1 (TX0 5).2.2.1 ∈ wsX1_readProject := List.mem_of_getElem? (i := 2) rfl
  have k149 : Cond.fieldLink RX1 149 (TX0 8).1 (TX0 8).2.1 (TX0 8).2.2.1 ∈ wsX1_readProject := List.mem_of_getElem? (i := 3) rfl
  have k136 : Cond.fieldLink RX1 136 (TX0 2).1 (TX0 2).2.1 (TX0 2).2.2.1 ∈ wsX1_readProject := List.mem_of_getElem? (i := 4) rfl
  refine lv_aload_n F.1 F.2.1 dX1_readProject_0 rfl (lv_at hl 0 rfl) ?_
  refine g_calli (g_runV (As := []) (rest := []) (ci := 1) F hl.1 hH hS hz (c_X1_readFirst l g gh q ln I R J AI AJ AR a hv hp (by omega)) (cwV 0 F.2.2.2.2.1 gX1_readProject_X1_readFirst rfl rfl rfl hdX1_readFirst ⟨Nat.le_of_ble_eq_true rfl, Nat.le_of_ble_eq_true rfl⟩) hp.1 (by decide) rfl rfl rfl (Nat.le_of_ble_eq_true rfl) dX1_readProject_1 ⟨Nat.zero_le _, Nat.zero_le _⟩) hS (fun v_7 I_1 R_2 J_3 AI_4 AJ_5 AR_6 H locs zv_7 hp_8 hH hS => ?_)
  dsimp only at hp_8
  obtain ⟨rfl, rfl, rfl, rfl, rfl, hv, hp, pfq, k8q, q_9⟩ := hp_8
  have pf := pF_t pf pfq
  have u_10q : (I_1 q 1).toInt = (I q 1).toInt := by rw [pF_q hp pfq]
  have u_10_0 : (I_1 ln 0).toInt = (I ln 0).toInt := by rw [pfq.2]
  have u_10_8 : (I_1 ln 8).toInt = (I ln 8).toInt := by rw [k8q]
  refine lv_istore_n (lv' := [(1, .int (iI v_7)), (0, .ref a)]) F.1 F.2.1 dX1_readProject_4 rfl hl (by decide) rfl (fun ls hl => ?_)
  refine lv_iload_n F.1 F.2.1 dX1_readProject_5 rfl (lv_at hl 0 rfl) ?_
  refine z_if_ne (tgt := 21) F dX1_readProject_6 (by decide) zv_7 (fun c_11 => ?_) (fun c_11 => ?_)
  · refine lv_aload_n F.1 F.2.1 dX1_readProject_21 rfl (lv_at hl 1 rfl) ?_
    refine g_getR (ci := 1) (k := 2) F hH rfl (by decide) iX1 hp.1 (by decide) rfl (b := ln) hp.2.2.2.1 k29 dX1_readProject_22 ?_
    refine lv_aload_n F.1 F.2.1 dX1_readProject_25 rfl (lv_at hl 1 rfl) ?_
    refine g_getR (ci := 1) (k := 2) F hH rfl (by decide) iX1 hp.1 (by decide) rfl (b := ln) hp.2.2.2.1 k29 dX1_readProject_26 ?_
    refine g_getI (ci := 0) (k := 8) F hH rfl (by decide) iX0 hp.2.2.2.2.1 (by decide) rfl k149 dX1_readProject_29 ?_
    have b_12 := gI_line hv hp.2.2.2.2.1
    unfold vLineI at b_12
    refine g_putI (ci := 0) (k := 2) F hH hS rfl (by decide) iX0 hp.2.2.2.2.1 (by decide) tyX0 tyX0_ok nmX0 rfl rfl rfl k136 dX1_readProject_32 (fun H locs hH hS => ?_)
    obtain ⟨I_13, eI_13⟩ : ∃ qQ, qQ = gup2 I_1 ln 2 (iI ((I_1 ln 8).toInt)) := ⟨_, rfl⟩
    rw [← eI_13] at hH
    have kI_13 : ∀ b, b ≠ ln → I_13 b = I_1 b := fun b hb => by rw [eI_13]; exact funext fun j => gup2_a _ _ hb
    have w_14 : (I_13 ln 2).toInt = (I_1 ln 8).toInt := by rw [eI_13, gup2_s]; exact iI_val ⟨by omega, by omega⟩
    have hp2 : pS g gh R I_13 a q ln := pS_ln hv hp kI_13
    have hv : gInv g gh R AR I_13 AI := by rw [eI_13]; exact gInv_line2 hv hp.2.2.2.2.1 (by omega) (by omega) (pS_col hp)
    have hp := hp2
    have pf : pF a ln I I_13 := pF_t pf (by rw [eI_13]; exact pF_ln (by decide))
    have w_14_k : ∀ j, j ≠ 2 → I_13 ln j = I_1 ln j := fun j hj => by rw [eI_13]; exact gup2_k _ _ hj
    have u_15q : (I_13 q 1).toInt = (I_1 q 1).toInt := by rw [kI_13 q (gO_ne hp.2.2.1 hp.2.2.2.2.1 (by decide))]
    have u_15_0 : (I_13 ln 0).toInt = (I_1 ln 0).toInt := by rw [w_14_k 0 (by decide)]
    have u_15_8 : (I_13 ln 8).toInt = (I_1 ln 8).toInt := by rw [w_14_k 8 (by decide)]
    refine lv_iload_n F.1 F.2.1 dX1_readProject_35 rfl (lv_at hl 0 rfl) ?_
    exact g_iret F hr hlk hH hS hz zv_7 ⟨rfl, rfl, rfl, rfl, hv, hp, pf, by first | omega | rfl | (dsimp only; omega)⟩ dX1_readProject_36
  · refine lv_aload_n F.1 F.2.1 dX1_readProject_9 rfl (lv_at hl 1 rfl) ?_
    refine lv_aload_n F.1 F.2.1 dX1_readProject_10 rfl (lv_at hl 1 rfl) ?_
    refine g_getR (ci := 1) (k := 2) F hH rfl (by decide) iX1 hp.1 (by decide) rfl (b := ln) hp.2.2.2.1 k29 dX1_readProject_11 ?_
    refine g_getI (ci := 0) (k := 5) F hH rfl (by decide) iX0 hp.2.2.2.2.1 (by decide) rfl k143 dX1_readProject_14 ?_
    have b_16 := gI_line hv hp.2.2.2.2.1
    unfold vLineI at b_16
    refine g_calli (g_runV (As := [.int (iI ((I_1 ln 5).toInt))]) (rest := []) (ci := 1) F hl.1 hH hS hz (c_X1_readTerms l g gh q ln I_1 R J AI AJ AR a ((I_1 ln 5).toInt) (zr_t _) hv hp (by omega)) (cwV 1 F.2.2.2.2.1 gX1_readProject_X1_readTerms rfl rfl rfl hdX1_readTerms ⟨Nat.le_of_ble_eq_true rfl, Nat.le_of_ble_eq_true rfl⟩) hp.1 (by decide) rfl rfl rfl (Nat.le_of_ble_eq_true rfl) dX1_readProject_17 ⟨Nat.zero_le _, Nat.zero_le _⟩) hS (fun v_23 I_17 R_18 J_19 AI_20 AJ_21 AR_22 H locs zv_23 hp_24 hH hS => ?_)
    dsimp only at hp_24
    obtain ⟨rfl, rfl, rfl, rfl, hv, hp, pfq, q_25⟩ := hp_24
    have pf := pF_t pf pfq
    have u_26q : (I_17 q 1).toInt = (I_1 q 1).toInt := by rw [pF_q hp pfq]
    have u_26_0 : (I_17 ln 0).toInt = (I_1 ln 0).toInt := by rw [pfq.2]
    refine lv_istore_n (lv' := [(1, .int (iI v_23)), (0, .ref a)]) F.1 F.2.1 dX1_readProject_20 rfl hl (by decide) rfl (fun ls hl => ?_)
    refine lv_aload_n F.1 F.2.1 dX1_readProject_21 rfl (lv_at hl 1 rfl) ?_
    refine g_getR (ci := 1) (k := 2) F hH rfl (by decide) iX1 hp.1 (by decide) rfl (b := ln) hp.2.2.2.1 k29 dX1_readProject_22 ?_
    refine lv_aload_n F.1 F.2.1 dX1_readProject_25 rfl (lv_at hl 1 rfl) ?_
    refine g_getR (ci := 1) (k := 2) F hH rfl (by decide) iX1 hp.1 (by decide) rfl (b := ln) hp.2.2.2.1 k29 dX1_readProject_26 ?_
    refine g_getI (ci := 0) (k := 8) F hH rfl (by decide) iX0 hp.2.2.2.2.1 (by decide) rfl k149 dX1_readProject_29 ?_
    have b_27 := gI_line hv hp.2.2.2.2.1
    unfold vLineI at b_27
    refine g_putI (ci := 0) (k := 2) F hH hS rfl (by decide) iX0 hp.2.2.2.2.1 (by decide) tyX0 tyX0_ok nmX0 rfl rfl rfl k136 dX1_readProject_32 (fun H locs hH hS => ?_)
    obtain ⟨I_28, eI_28⟩ : ∃ qQ, qQ = gup2 I_17 ln 2 (iI ((I_17 ln 8).toInt)) := ⟨_, rfl⟩
    rw [← eI_28] at hH
    have kI_28 : ∀ b, b ≠ ln → I_28 b = I_17 b := fun b hb => by rw [eI_28]; exact funext fun j => gup2_a _ _ hb
    have w_29 : (I_28 ln 2).toInt = (I_17 ln 8).toInt := by rw [eI_28, gup2_s]; exact iI_val ⟨by omega, by omega⟩
    have hp2 : pS g gh R I_28 a q ln := pS_ln hv hp kI_28
    have hv : gInv g gh R AR I_28 AI_20 := by rw [eI_28]; exact gInv_line2 hv hp.2.2.2.2.1 (by omega) (by omega) (pS_col hp)
    have hp := hp2
    have pf : pF a ln I I_28 := pF_t pf (by rw [eI_28]; exact pF_ln (by decide))
    have w_29_k : ∀ j, j ≠ 2 → I_28 ln j = I_17 ln j := fun j hj => by rw [eI_28]; exact gup2_k _ _ hj
    have u_30q : (I_28 q 1).toInt = (I_17 q 1).toInt := by rw [kI_28 q (gO_ne hp.2.2.1 hp.2.2.2.2.1 (by decide))]
    have u_30_0 : (I_28 ln 0).toInt = (I_17 ln 0).toInt := by rw [w_29_k 0 (by decide)]
    have u_30_8 : (I_28 ln 8).toInt = (I_17 ln 8).toInt := by rw [w_29_k 8 (by decide)]
    refine lv_iload_n F.1 F.2.1 dX1_readProject_35 rfl (lv_at hl 0 rfl) ?_
    exact g_iret F hr hlk hH hS hz zv_23 ⟨rfl, rfl, rfl, rfl, hv, hp, pf, by first | omega | rfl | (dsimp only; omega)⟩ dX1_readProject_36

def rmX1_readJoin : Room := { frames := 4, cells := 0, slots := 0, locals := 86 }
theorem hdX1_readJoin : yX1_readJoin.cls = RX1 ∧ yX1_readJoin.cls ≠ "java/lang/invoke/MethodHandle" ∧ yX1_readJoin.cls ≠ "java/lang/invoke/VarHandle" ∧ (parseMethodDescriptor yX1_readJoin.desc).map (fun d => d.parameters.length) = some 0 := by decide +kernel
set_option maxHeartbeats 4000000 in
set_option maxRecDepth 100000 in
/-- a join -/
theorem c_X1_readJoin (l : Launch) (g : gG) (gh : gGh) (q ln : Nat) (I : gI) (R : gR) (J : gJ) (AI : gI) (AJ : gJ) (AR : gR) (a : Nat) (hv : gInv g gh R AR I AI) (hp : pS g gh R I a q ln) (hk : (I ln 0).toInt = 3) : gMet l g yX1_readJoin wsX1_readJoin rmX1_readJoin [.ref a] (I, R, J, AI, AJ, AR) (gQi g (fun (z : Int) (w : gS) => R = w.2.1 ∧ J = w.2.2.1 ∧ AJ = w.2.2.2.2.1 ∧ AR = w.2.2.2.2.2 ∧ (gInv g gh R AR (w.1) (w.2.2.2.1)) ∧ (pS g gh R (w.1) a q ln) ∧ (pF a ln I (w.1)) ∧ (0 ≤ z ∧ z ≤ 4))) := by
  refine gStart (cc := cX1_readJoin) (maxL := 2) (ret := (some (.int))) (by decide) rfl (Nat.le_of_ble_eq_true rfl) ?_
  intro p e s m below meth c ls F hr hlk hH hz hS hl
  have hl : lv_has ls 2 [(0, .ref a)] := hl
  have hS : va_S (gA g) s.heap s.heap [] := hS
  obtain ⟨H, hHe⟩ : ∃ H : Heap, H = s.heap := ⟨_, rfl⟩
  obtain ⟨locs, hlo⟩ : ∃ k : List Loc, k = [] := ⟨_, rfl⟩
  have hH : gH g I R J AI AJ AR H := by rw [hHe]; exact hH
  have hS : va_S (gA g) s.heap H locs := by rw [hHe, hlo]; exact hS
  suffices hw : W p l e rmX1_readJoin s m ([.ref a] : List Value).toArray below meth c H locs 0 0 (MQ below (gQi g (fun (z : Int) (w : gS) => R = w.2.1 ∧ J = w.2.2.1 ∧ AJ = w.2.2.2.2.1 ∧ AR = w.2.2.2.2.2 ∧ (gInv g gh R AR (w.1) (w.2.2.2.1)) ∧ (pS g gh R (w.1) a q ln) ∧ (pF a ln I (w.1)) ∧ (0 ≤ z ∧ z ≤ 4))) ([.ref a] : List Value).toArray s 0 0 (gA g)) (F0 m 0 ls []) by
    rw [hHe, hlo] at hw; exact hw
  clear hHe hlo
  have pf : pF a ln I I := pF_r
  have iX1 : ∀ w ∈ u_ws RX1 TX1 4, w ∈ wsX1_readJoin := (by decide +kernel)
  have iX0 : ∀ w ∈ u_ws RX0 TX0 15, w ∈ wsX1_readJoin := (by decide +kernel)
  have k29 : Cond.fieldLink RX1 29 (TX1 2).1 (TX1 2).2.1 (TX1 2).2.2.1 ∈ wsX1_readJoin := List.mem_of_getElem? (i := 1) rfl
  have k136 : Cond.fieldLink RX1 136 (TX0 2).1 (TX0 2).2.1 (TX0 2).2.2.1 ∈ wsX1_readJoin := List.mem_of_getElem? (i := 2) rfl
  refine lv_aload_n F.1 F.2.1 dX1_readJoin_0 rfl (lv_at hl 0 rfl) ?_
  refine g_calli (g_runV (As := []) (rest := []) (ci := 1) F hl.1 hH hS hz (c_X1_readFirst l g gh q ln I R J AI AJ AR a hv hp (by omega)) (cwV 0 F.2.2.2.2.1 gX1_readJoin_X1_readFirst rfl rfl rfl hdX1_readFirst ⟨Nat.le_of_ble_eq_true rfl, Nat.le_of_ble_eq_true rfl⟩) hp.1 (by decide) rfl rfl rfl (Nat.le_of_ble_eq_true rfl) dX1_readJoin_1 ⟨Nat.zero_le _, Nat.zero_le _⟩) hS (fun v_7 I_1 R_2 J_3 AI_4 AJ_5 AR_6 H locs zv_7 hp_8 hH hS => ?_)
  dsimp only at hp_8
  obtain ⟨rfl, rfl, rfl, rfl, rfl, hv, hp, pfq, k8q, q_9⟩ := hp_8
  have pf := pF_t pf pfq
  have u_10q : (I_1 q 1).toInt = (I q 1).toInt := by rw [pF_q hp pfq]
  have u_10_0 : (I_1 ln 0).toInt = (I ln 0).toInt := by rw [pfq.2]
  have u_10_8 : (I_1 ln 8).toInt = (I ln 8).toInt := by rw [k8q]
  refine lv_istore_n (lv' := [(1, .int (iI v_7)), (0, .ref a)]) F.1 F.2.1 dX1_readJoin_4 rfl hl (by decide) rfl (fun ls hl => ?_)
  refine lv_iload_n F.1 F.2.1 dX1_readJoin_5 rfl (lv_at hl 0 rfl) ?_
  refine z_if_ne (tgt := 14) F dX1_readJoin_6 (by decide) zv_7 (fun c_11 => ?_) (fun c_11 => ?_)
  · refine lv_iload_n F.1 F.2.1 dX1_readJoin_14 rfl (lv_at hl 0 rfl) ?_
    refine z_if_ne (tgt := 25) F dX1_readJoin_15 (by decide) zv_7 (fun c_12 => ?_) (fun c_12 => ?_)
    · refine lv_iload_n F.1 F.2.1 dX1_readJoin_25 rfl (lv_at hl 0 rfl) ?_
      refine z_if_ne (tgt := 34) F dX1_readJoin_26 (by decide) zv_7 (fun c_13 => ?_) (fun c_13 => ?_)
      · refine lv_aload_n F.1 F.2.1 dX1_readJoin_34 rfl (lv_at hl 1 rfl) ?_
        refine g_getR (ci := 1) (k := 2) F hH rfl (by decide) iX1 hp.1 (by decide) rfl (b := ln) hp.2.2.2.1 k29 dX1_readJoin_35 ?_
        refine lv_aload_n F.1 F.2.1 dX1_readJoin_38 rfl (lv_at hl 1 rfl) ?_
        refine g_getR (ci := 1) (k := 2) F hH rfl (by decide) iX1 hp.1 (by decide) rfl (b := ln) hp.2.2.2.1 k29 dX1_readJoin_39 ?_
        have b_14 := gI_line hv hp.2.2.2.2.1
        unfold vLineI at b_14
        refine g_calli (g_runV (As := []) (rest := [.ref ln]) (ci := 0) F hl.1 hH hS hz (c_X0_columnsOfJoin l g gh I_1 R J AI AJ AR ln hv hp.2.2.2.2.1) (cwV 0 F.2.2.2.2.1 gX1_readJoin_X0_columnsOfJoin rfl rfl rfl hdX0_columnsOfJoin ⟨Nat.le_of_ble_eq_true rfl, Nat.le_of_ble_eq_true rfl⟩) hp.2.2.2.2.1 (by decide) rfl rfl rfl (Nat.le_of_ble_eq_true rfl) dX1_readJoin_42 ⟨Nat.zero_le _, Nat.zero_le _⟩) hS (fun v_21 I_15 R_16 J_17 AI_18 AJ_19 AR_20 H locs zv_21 hp_22 hH hS => ?_)
        dsimp only at hp_22
        obtain ⟨rfl, rfl, rfl, rfl, rfl, rfl, q_23⟩ := hp_22
        refine g_putI (ci := 0) (k := 2) F hH hS rfl (by decide) iX0 hp.2.2.2.2.1 (by decide) tyX0 tyX0_ok nmX0 rfl rfl rfl k136 dX1_readJoin_45 (fun H locs hH hS => ?_)
        obtain ⟨I_24, eI_24⟩ : ∃ qQ, qQ = gup2 I_1 ln 2 (iI (v_21)) := ⟨_, rfl⟩
        rw [← eI_24] at hH
        have kI_24 : ∀ b, b ≠ ln → I_24 b = I_1 b := fun b hb => by rw [eI_24]; exact funext fun j => gup2_a _ _ hb
        have w_25 : (I_24 ln 2).toInt = v_21 := by rw [eI_24, gup2_s]; exact iI_val ⟨by omega, by omega⟩
        have hp2 : pS g gh R I_24 a q ln := pS_ln hv hp kI_24
        have hv : gInv g gh R AR I_24 AI := by rw [eI_24]; exact gInv_line2 hv hp.2.2.2.2.1 (by omega) (by omega) (pS_col hp)
        have hp := hp2
        have pf : pF a ln I I_24 := pF_t pf (by rw [eI_24]; exact pF_ln (by decide))
        have w_25_k : ∀ j, j ≠ 2 → I_24 ln j = I_1 ln j := fun j hj => by rw [eI_24]; exact gup2_k _ _ hj
        have u_26q : (I_24 q 1).toInt = (I_1 q 1).toInt := by rw [kI_24 q (gO_ne hp.2.2.1 hp.2.2.2.2.1 (by decide))]
        have u_26_0 : (I_24 ln 0).toInt = (I_1 ln 0).toInt := by rw [w_25_k 0 (by decide)]
        have u_26_8 : (I_24 ln 8).toInt = (I_1 ln 8).toInt := by rw [w_25_k 8 (by decide)]
        refine lv_iload_n F.1 F.2.1 dX1_readJoin_48 rfl (lv_at hl 0 rfl) ?_
        exact g_iret F hr hlk hH hS hz zv_7 ⟨rfl, rfl, rfl, rfl, hv, hp, pf, by first | omega | rfl | (dsimp only; omega)⟩ dX1_readJoin_49
      · exact absurd trivial (by omega)
    · exact absurd trivial (by omega)
  · refine lv_aload_n F.1 F.2.1 dX1_readJoin_9 rfl (lv_at hl 1 rfl) ?_
    refine g_calli (g_runV (As := []) (rest := []) (ci := 1) F hl.1 hH hS hz (c_X1_readSecond l g gh q ln I_1 R J AI AJ AR a hv hp (by omega)) (cwV 0 F.2.2.2.2.1 gX1_readJoin_X1_readSecond rfl rfl rfl hdX1_readSecond ⟨Nat.le_of_ble_eq_true rfl, Nat.le_of_ble_eq_true rfl⟩) hp.1 (by decide) rfl rfl rfl (Nat.le_of_ble_eq_true rfl) dX1_readJoin_10 ⟨Nat.zero_le _, Nat.zero_le _⟩) hS (fun v_33 I_27 R_28 J_29 AI_30 AJ_31 AR_32 H locs zv_33 hp_34 hH hS => ?_)
    dsimp only at hp_34
    obtain ⟨rfl, rfl, rfl, rfl, rfl, hv, hp, pfq, k8q, q_35⟩ := hp_34
    have pf := pF_t pf pfq
    have u_36q : (I_27 q 1).toInt = (I_1 q 1).toInt := by rw [pF_q hp pfq]
    have u_36_0 : (I_27 ln 0).toInt = (I_1 ln 0).toInt := by rw [pfq.2]
    have u_36_8 : (I_27 ln 8).toInt = (I_1 ln 8).toInt := by rw [k8q]
    refine lv_istore_n (lv' := [(1, .int (iI v_33)), (0, .ref a)]) F.1 F.2.1 dX1_readJoin_13 rfl hl (by decide) rfl (fun ls hl => ?_)
    refine lv_iload_n F.1 F.2.1 dX1_readJoin_14 rfl (lv_at hl 0 rfl) ?_
    refine z_if_ne (tgt := 25) F dX1_readJoin_15 (by decide) zv_33 (fun c_37 => ?_) (fun c_37 => ?_)
    · refine lv_iload_n F.1 F.2.1 dX1_readJoin_25 rfl (lv_at hl 0 rfl) ?_
      refine z_if_ne (tgt := 34) F dX1_readJoin_26 (by decide) zv_33 (fun c_38 => ?_) (fun c_38 => ?_)
      · refine lv_aload_n F.1 F.2.1 dX1_readJoin_34 rfl (lv_at hl 1 rfl) ?_
        refine g_getR (ci := 1) (k := 2) F hH rfl (by decide) iX1 hp.1 (by decide) rfl (b := ln) hp.2.2.2.1 k29 dX1_readJoin_35 ?_
        refine lv_aload_n F.1 F.2.1 dX1_readJoin_38 rfl (lv_at hl 1 rfl) ?_
        refine g_getR (ci := 1) (k := 2) F hH rfl (by decide) iX1 hp.1 (by decide) rfl (b := ln) hp.2.2.2.1 k29 dX1_readJoin_39 ?_
        have b_39 := gI_line hv hp.2.2.2.2.1
        unfold vLineI at b_39
        refine g_calli (g_runV (As := []) (rest := [.ref ln]) (ci := 0) F hl.1 hH hS hz (c_X0_columnsOfJoin l g gh I_27 R J AI AJ AR ln hv hp.2.2.2.2.1) (cwV 0 F.2.2.2.2.1 gX1_readJoin_X0_columnsOfJoin rfl rfl rfl hdX0_columnsOfJoin ⟨Nat.le_of_ble_eq_true rfl, Nat.le_of_ble_eq_true rfl⟩) hp.2.2.2.2.1 (by decide) rfl rfl rfl (Nat.le_of_ble_eq_true rfl) dX1_readJoin_42 ⟨Nat.zero_le _, Nat.zero_le _⟩) hS (fun v_46 I_40 R_41 J_42 AI_43 AJ_44 AR_45 H locs zv_46 hp_47 hH hS => ?_)
        dsimp only at hp_47
        obtain ⟨rfl, rfl, rfl, rfl, rfl, rfl, q_48⟩ := hp_47
        refine g_putI (ci := 0) (k := 2) F hH hS rfl (by decide) iX0 hp.2.2.2.2.1 (by decide) tyX0 tyX0_ok nmX0 rfl rfl rfl k136 dX1_readJoin_45 (fun H locs hH hS => ?_)
        obtain ⟨I_49, eI_49⟩ : ∃ qQ, qQ = gup2 I_27 ln 2 (iI (v_46)) := ⟨_, rfl⟩
        rw [← eI_49] at hH
        have kI_49 : ∀ b, b ≠ ln → I_49 b = I_27 b := fun b hb => by rw [eI_49]; exact funext fun j => gup2_a _ _ hb
        have w_50 : (I_49 ln 2).toInt = v_46 := by rw [eI_49, gup2_s]; exact iI_val ⟨by omega, by omega⟩
        have hp2 : pS g gh R I_49 a q ln := pS_ln hv hp kI_49
        have hv : gInv g gh R AR I_49 AI := by rw [eI_49]; exact gInv_line2 hv hp.2.2.2.2.1 (by omega) (by omega) (pS_col hp)
        have hp := hp2
        have pf : pF a ln I I_49 := pF_t pf (by rw [eI_49]; exact pF_ln (by decide))
        have w_50_k : ∀ j, j ≠ 2 → I_49 ln j = I_27 ln j := fun j hj => by rw [eI_49]; exact gup2_k _ _ hj
        have u_51q : (I_49 q 1).toInt = (I_27 q 1).toInt := by rw [kI_49 q (gO_ne hp.2.2.1 hp.2.2.2.2.1 (by decide))]
        have u_51_0 : (I_49 ln 0).toInt = (I_27 ln 0).toInt := by rw [w_50_k 0 (by decide)]
        have u_51_8 : (I_49 ln 8).toInt = (I_27 ln 8).toInt := by rw [w_50_k 8 (by decide)]
        refine lv_iload_n F.1 F.2.1 dX1_readJoin_48 rfl (lv_at hl 0 rfl) ?_
        exact g_iret F hr hlk hH hS hz zv_33 ⟨rfl, rfl, rfl, rfl, hv, hp, pf, by first | omega | rfl | (dsimp only; omega)⟩ dX1_readJoin_49
      · exact absurd trivial (by omega)
    · refine lv_aload_n F.1 F.2.1 dX1_readJoin_18 rfl (lv_at hl 1 rfl) ?_
      refine z_bipush F dX1_readJoin_19 (by decide) ?_
      refine g_calli (g_runV (As := [.int (iI 12)]) (rest := []) (ci := 1) F hl.1 hH hS hz (c_X1_takeWord l g gh q ln I_27 R J AI AJ AR a 12 ⟨by decide, by decide⟩ hv hp) (cwV 1 F.2.2.2.2.1 gX1_readJoin_X1_takeWord rfl rfl rfl hdX1_takeWord ⟨Nat.le_of_ble_eq_true rfl, Nat.le_of_ble_eq_true rfl⟩) hp.1 (by decide) rfl rfl rfl (Nat.le_of_ble_eq_true rfl) dX1_readJoin_21 ⟨Nat.zero_le _, Nat.zero_le _⟩) hS (fun v_58 I_52 R_53 J_54 AI_55 AJ_56 AR_57 H locs zv_58 hp_59 hH hS => ?_)
      dsimp only at hp_59
      obtain ⟨rfl, rfl, rfl, rfl, rfl, hv, hp, pfq, flq, q_60⟩ := hp_59
      have pf := pF_t pf pfq
      have u_61q : (I_52 q 1).toInt = (I_27 q 1).toInt := by rw [pF_q hp pfq]
      have u_61_0 : (I_52 ln 0).toInt = (I_27 ln 0).toInt := by rw [pfq.2]
      have u_61_8 : (I_52 ln 8).toInt = (I_27 ln 8).toInt := by rw [flq]
      refine lv_istore_n (lv' := [(1, .int (iI v_58)), (0, .ref a)]) F.1 F.2.1 dX1_readJoin_24 rfl hl (by decide) rfl (fun ls hl => ?_)
      refine lv_iload_n F.1 F.2.1 dX1_readJoin_25 rfl (lv_at hl 0 rfl) ?_
      refine z_if_ne (tgt := 34) F dX1_readJoin_26 (by decide) zv_58 (fun c_62 => ?_) (fun c_62 => ?_)
      · refine lv_aload_n F.1 F.2.1 dX1_readJoin_34 rfl (lv_at hl 1 rfl) ?_
        refine g_getR (ci := 1) (k := 2) F hH rfl (by decide) iX1 hp.1 (by decide) rfl (b := ln) hp.2.2.2.1 k29 dX1_readJoin_35 ?_
        refine lv_aload_n F.1 F.2.1 dX1_readJoin_38 rfl (lv_at hl 1 rfl) ?_
        refine g_getR (ci := 1) (k := 2) F hH rfl (by decide) iX1 hp.1 (by decide) rfl (b := ln) hp.2.2.2.1 k29 dX1_readJoin_39 ?_
        have b_63 := gI_line hv hp.2.2.2.2.1
        unfold vLineI at b_63
        refine g_calli (g_runV (As := []) (rest := [.ref ln]) (ci := 0) F hl.1 hH hS hz (c_X0_columnsOfJoin l g gh I_52 R J AI AJ AR ln hv hp.2.2.2.2.1) (cwV 0 F.2.2.2.2.1 gX1_readJoin_X0_columnsOfJoin rfl rfl rfl hdX0_columnsOfJoin ⟨Nat.le_of_ble_eq_true rfl, Nat.le_of_ble_eq_true rfl⟩) hp.2.2.2.2.1 (by decide) rfl rfl rfl (Nat.le_of_ble_eq_true rfl) dX1_readJoin_42 ⟨Nat.zero_le _, Nat.zero_le _⟩) hS (fun v_70 I_64 R_65 J_66 AI_67 AJ_68 AR_69 H locs zv_70 hp_71 hH hS => ?_)
        dsimp only at hp_71
        obtain ⟨rfl, rfl, rfl, rfl, rfl, rfl, q_72⟩ := hp_71
        refine g_putI (ci := 0) (k := 2) F hH hS rfl (by decide) iX0 hp.2.2.2.2.1 (by decide) tyX0 tyX0_ok nmX0 rfl rfl rfl k136 dX1_readJoin_45 (fun H locs hH hS => ?_)
        obtain ⟨I_73, eI_73⟩ : ∃ qQ, qQ = gup2 I_52 ln 2 (iI (v_70)) := ⟨_, rfl⟩
        rw [← eI_73] at hH
        have kI_73 : ∀ b, b ≠ ln → I_73 b = I_52 b := fun b hb => by rw [eI_73]; exact funext fun j => gup2_a _ _ hb
        have w_74 : (I_73 ln 2).toInt = v_70 := by rw [eI_73, gup2_s]; exact iI_val ⟨by omega, by omega⟩
        have hp2 : pS g gh R I_73 a q ln := pS_ln hv hp kI_73
        have hv : gInv g gh R AR I_73 AI := by rw [eI_73]; exact gInv_line2 hv hp.2.2.2.2.1 (by omega) (by omega) (pS_col hp)
        have hp := hp2
        have pf : pF a ln I I_73 := pF_t pf (by rw [eI_73]; exact pF_ln (by decide))
        have w_74_k : ∀ j, j ≠ 2 → I_73 ln j = I_52 ln j := fun j hj => by rw [eI_73]; exact gup2_k _ _ hj
        have u_75q : (I_73 q 1).toInt = (I_52 q 1).toInt := by rw [kI_73 q (gO_ne hp.2.2.1 hp.2.2.2.2.1 (by decide))]
        have u_75_0 : (I_73 ln 0).toInt = (I_52 ln 0).toInt := by rw [w_74_k 0 (by decide)]
        have u_75_8 : (I_73 ln 8).toInt = (I_52 ln 8).toInt := by rw [w_74_k 8 (by decide)]
        refine lv_iload_n F.1 F.2.1 dX1_readJoin_48 rfl (lv_at hl 0 rfl) ?_
        exact g_iret F hr hlk hH hS hz zv_58 ⟨rfl, rfl, rfl, rfl, hv, hp, pf, by first | omega | rfl | (dsimp only; omega)⟩ dX1_readJoin_49
      · refine lv_aload_n F.1 F.2.1 dX1_readJoin_29 rfl (lv_at hl 1 rfl) ?_
        refine g_calli (g_runV (As := []) (rest := []) (ci := 1) F hl.1 hH hS hz (c_X1_readPairs l g gh q ln I_52 R J AI AJ AR a hv hp (by omega)) (cwV 0 F.2.2.2.2.1 gX1_readJoin_X1_readPairs rfl rfl rfl hdX1_readPairs ⟨Nat.le_of_ble_eq_true rfl, Nat.le_of_ble_eq_true rfl⟩) hp.1 (by decide) rfl rfl rfl (Nat.le_of_ble_eq_true rfl) dX1_readJoin_30 ⟨Nat.zero_le _, Nat.zero_le _⟩) hS (fun v_82 I_76 R_77 J_78 AI_79 AJ_80 AR_81 H locs zv_82 hp_83 hH hS => ?_)
        dsimp only at hp_83
        obtain ⟨rfl, rfl, rfl, rfl, hv, hp, pfq, q_84⟩ := hp_83
        have pf := pF_t pf pfq
        have u_85q : (I_76 q 1).toInt = (I_52 q 1).toInt := by rw [pF_q hp pfq]
        have u_85_0 : (I_76 ln 0).toInt = (I_52 ln 0).toInt := by rw [pfq.2]
        refine lv_istore_n (lv' := [(1, .int (iI v_82)), (0, .ref a)]) F.1 F.2.1 dX1_readJoin_33 rfl hl (by decide) rfl (fun ls hl => ?_)
        refine lv_aload_n F.1 F.2.1 dX1_readJoin_34 rfl (lv_at hl 1 rfl) ?_
        refine g_getR (ci := 1) (k := 2) F hH rfl (by decide) iX1 hp.1 (by decide) rfl (b := ln) hp.2.2.2.1 k29 dX1_readJoin_35 ?_
        refine lv_aload_n F.1 F.2.1 dX1_readJoin_38 rfl (lv_at hl 1 rfl) ?_
        refine g_getR (ci := 1) (k := 2) F hH rfl (by decide) iX1 hp.1 (by decide) rfl (b := ln) hp.2.2.2.1 k29 dX1_readJoin_39 ?_
        have b_86 := gI_line hv hp.2.2.2.2.1
        unfold vLineI at b_86
        refine g_calli (g_runV (As := []) (rest := [.ref ln]) (ci := 0) F hl.1 hH hS hz (c_X0_columnsOfJoin l g gh I_76 R J AI_79 AJ AR ln hv hp.2.2.2.2.1) (cwV 0 F.2.2.2.2.1 gX1_readJoin_X0_columnsOfJoin rfl rfl rfl hdX0_columnsOfJoin ⟨Nat.le_of_ble_eq_true rfl, Nat.le_of_ble_eq_true rfl⟩) hp.2.2.2.2.1 (by decide) rfl rfl rfl (Nat.le_of_ble_eq_true rfl) dX1_readJoin_42 ⟨Nat.zero_le _, Nat.zero_le _⟩) hS (fun v_93 I_87 R_88 J_89 AI_90 AJ_91 AR_92 H locs zv_93 hp_94 hH hS => ?_)
        dsimp only at hp_94
        obtain ⟨rfl, rfl, rfl, rfl, rfl, rfl, q_95⟩ := hp_94
        refine g_putI (ci := 0) (k := 2) F hH hS rfl (by decide) iX0 hp.2.2.2.2.1 (by decide) tyX0 tyX0_ok nmX0 rfl rfl rfl k136 dX1_readJoin_45 (fun H locs hH hS => ?_)
        obtain ⟨I_96, eI_96⟩ : ∃ qQ, qQ = gup2 I_76 ln 2 (iI (v_93)) := ⟨_, rfl⟩
        rw [← eI_96] at hH
        have kI_96 : ∀ b, b ≠ ln → I_96 b = I_76 b := fun b hb => by rw [eI_96]; exact funext fun j => gup2_a _ _ hb
        have w_97 : (I_96 ln 2).toInt = v_93 := by rw [eI_96, gup2_s]; exact iI_val ⟨by omega, by omega⟩
        have hp2 : pS g gh R I_96 a q ln := pS_ln hv hp kI_96
        have hv : gInv g gh R AR I_96 AI_79 := by rw [eI_96]; exact gInv_line2 hv hp.2.2.2.2.1 (by omega) (by omega) (pS_col hp)
        have hp := hp2
        have pf : pF a ln I I_96 := pF_t pf (by rw [eI_96]; exact pF_ln (by decide))
        have w_97_k : ∀ j, j ≠ 2 → I_96 ln j = I_76 ln j := fun j hj => by rw [eI_96]; exact gup2_k _ _ hj
        have u_98q : (I_96 q 1).toInt = (I_76 q 1).toInt := by rw [kI_96 q (gO_ne hp.2.2.1 hp.2.2.2.2.1 (by decide))]
        have u_98_0 : (I_96 ln 0).toInt = (I_76 ln 0).toInt := by rw [w_97_k 0 (by decide)]
        have u_98_8 : (I_96 ln 8).toInt = (I_76 ln 8).toInt := by rw [w_97_k 8 (by decide)]
        refine lv_iload_n F.1 F.2.1 dX1_readJoin_48 rfl (lv_at hl 0 rfl) ?_
        exact g_iret F hr hlk hH hS hz zv_82 ⟨rfl, rfl, rfl, rfl, hv, hp, pf, by first | omega | rfl | (dsimp only; omega)⟩ dX1_readJoin_49

def rmX1_readDistinct : Room := { frames := 4, cells := 0, slots := 0, locals := 83 }
theorem hdX1_readDistinct : yX1_readDistinct.cls = RX1 ∧ yX1_readDistinct.cls ≠ "java/lang/invoke/MethodHandle" ∧ yX1_readDistinct.cls ≠ "java/lang/invoke/VarHandle" ∧ (parseMethodDescriptor yX1_readDistinct.desc).map (fun d => d.parameters.length) = some 0 := by decide +kernel
set_option maxHeartbeats 4000000 in
set_option maxRecDepth 100000 in
/-- a distinct -/
theorem c_X1_readDistinct (l : Launch) (g : gG) (gh : gGh) (q ln : Nat) (I : gI) (R : gR) (J : gJ) (AI : gI) (AJ : gJ) (AR : gR) (a : Nat) (hv : gInv g gh R AR I AI) (hp : pS g gh R I a q ln) (hk0 : (I ln 0).toInt ≠ 0) : gMet l g yX1_readDistinct wsX1_readDistinct rmX1_readDistinct [.ref a] (I, R, J, AI, AJ, AR) (gQi g (fun (z : Int) (w : gS) => R = w.2.1 ∧ J = w.2.2.1 ∧ AI = w.2.2.2.1 ∧ AJ = w.2.2.2.2.1 ∧ AR = w.2.2.2.2.2 ∧ (gInv g gh R AR (w.1) AI) ∧ (pS g gh R (w.1) a q ln) ∧ (pF a ln I (w.1)) ∧ (0 ≤ z ∧ z ≤ 4))) := by
  refine gStart (cc := cX1_readDistinct) (maxL := 2) (ret := (some (.int))) (by decide) rfl (Nat.le_of_ble_eq_true rfl) ?_
  intro p e s m below meth c ls F hr hlk hH hz hS hl
  have hl : lv_has ls 2 [(0, .ref a)] := hl
  have hS : va_S (gA g) s.heap s.heap [] := hS
  obtain ⟨H, hHe⟩ : ∃ H : Heap, H = s.heap := ⟨_, rfl⟩
  obtain ⟨locs, hlo⟩ : ∃ k : List Loc, k = [] := ⟨_, rfl⟩
  have hH : gH g I R J AI AJ AR H := by rw [hHe]; exact hH
  have hS : va_S (gA g) s.heap H locs := by rw [hHe, hlo]; exact hS
  suffices hw : W p l e rmX1_readDistinct s m ([.ref a] : List Value).toArray below meth c H locs 0 0 (MQ below (gQi g (fun (z : Int) (w : gS) => R = w.2.1 ∧ J = w.2.2.1 ∧ AI = w.2.2.2.1 ∧ AJ = w.2.2.2.2.1 ∧ AR = w.2.2.2.2.2 ∧ (gInv g gh R AR (w.1) AI) ∧ (pS g gh R (w.1) a q ln) ∧ (pF a ln I (w.1)) ∧ (0 ≤ z ∧ z ≤ 4))) ([.ref a] : List Value).toArray s 0 0 (gA g)) (F0 m 0 ls []) by
    rw [hHe, hlo] at hw; exact hw
  clear hHe hlo
  have pf : pF a ln I I := pF_r
  have iX1 : ∀ w ∈ u_ws RX1 TX1 4, w ∈ wsX1_readDistinct := (by decide +kernel)
  have iX0 : ∀ w ∈ u_ws RX0 TX0 15, w ∈ wsX1_readDistinct := (by decide +kernel)
  have k29 : Cond.fieldLink RX1 29 (TX1 2).1 (TX1 2).2.1 (TX1 2).2.2.1 ∈ wsX1_readDistinct := List.mem_of_getElem? (i := 1) rfl
  have k143 : Cond.fieldLink RX1 143 (TX0 5).1 (TX0 5).2.1 (TX0 5).2.2.1 ∈ wsX1_readDistinct := List.mem_of_getElem? (i := 2) rfl
  have k136 : Cond.fieldLink RX1 136 (TX0 2).1 (TX0 2).2.1 (TX0 2).2.2.1 ∈ wsX1_readDistinct := List.mem_of_getElem? (i := 3) rfl
  refine lv_aload_n F.1 F.2.1 dX1_readDistinct_0 rfl (lv_at hl 0 rfl) ?_
  refine g_calli (g_runV (As := []) (rest := []) (ci := 1) F hl.1 hH hS hz (c_X1_readFirst l g gh q ln I R J AI AJ AR a hv hp (by omega)) (cwV 0 F.2.2.2.2.1 gX1_readDistinct_X1_readFirst rfl rfl rfl hdX1_readFirst ⟨Nat.le_of_ble_eq_true rfl, Nat.le_of_ble_eq_true rfl⟩) hp.1 (by decide) rfl rfl rfl (Nat.le_of_ble_eq_true rfl) dX1_readDistinct_1 ⟨Nat.zero_le _, Nat.zero_le _⟩) hS (fun v_7 I_1 R_2 J_3 AI_4 AJ_5 AR_6 H locs zv_7 hp_8 hH hS => ?_)
  dsimp only at hp_8
  obtain ⟨rfl, rfl, rfl, rfl, rfl, hv, hp, pfq, k8q, q_9⟩ := hp_8
  have pf := pF_t pf pfq
  have u_10q : (I_1 q 1).toInt = (I q 1).toInt := by rw [pF_q hp pfq]
  have u_10_0 : (I_1 ln 0).toInt = (I ln 0).toInt := by rw [pfq.2]
  have u_10_8 : (I_1 ln 8).toInt = (I ln 8).toInt := by rw [k8q]
  refine lv_istore_n (lv' := [(1, .int (iI v_7)), (0, .ref a)]) F.1 F.2.1 dX1_readDistinct_4 rfl hl (by decide) rfl (fun ls hl => ?_)
  refine lv_aload_n F.1 F.2.1 dX1_readDistinct_5 rfl (lv_at hl 1 rfl) ?_
  refine g_getR (ci := 1) (k := 2) F hH rfl (by decide) iX1 hp.1 (by decide) rfl (b := ln) hp.2.2.2.1 k29 dX1_readDistinct_6 ?_
  refine lv_aload_n F.1 F.2.1 dX1_readDistinct_9 rfl (lv_at hl 1 rfl) ?_
  refine g_getR (ci := 1) (k := 2) F hH rfl (by decide) iX1 hp.1 (by decide) rfl (b := ln) hp.2.2.2.1 k29 dX1_readDistinct_10 ?_
  refine g_getI (ci := 0) (k := 5) F hH rfl (by decide) iX0 hp.2.2.2.2.1 (by decide) rfl k143 dX1_readDistinct_13 ?_
  have b_11 := gI_line hv hp.2.2.2.2.1
  unfold vLineI at b_11
  refine g_putI (ci := 0) (k := 2) F hH hS rfl (by decide) iX0 hp.2.2.2.2.1 (by decide) tyX0 tyX0_ok nmX0 rfl rfl rfl k136 dX1_readDistinct_16 (fun H locs hH hS => ?_)
  obtain ⟨I_12, eI_12⟩ : ∃ qQ, qQ = gup2 I_1 ln 2 (iI ((I_1 ln 5).toInt)) := ⟨_, rfl⟩
  rw [← eI_12] at hH
  have kI_12 : ∀ b, b ≠ ln → I_12 b = I_1 b := fun b hb => by rw [eI_12]; exact funext fun j => gup2_a _ _ hb
  have w_13 : (I_12 ln 2).toInt = (I_1 ln 5).toInt := by rw [eI_12, gup2_s]; exact iI_val ⟨by omega, by omega⟩
  have hp2 : pS g gh R I_12 a q ln := pS_ln hv hp kI_12
  have hv : gInv g gh R AR I_12 AI := by rw [eI_12]; exact gInv_line2 hv hp.2.2.2.2.1 (by omega) (by omega) (pS_col hp)
  have hp := hp2
  have pf : pF a ln I I_12 := pF_t pf (by rw [eI_12]; exact pF_ln (by decide))
  have w_13_k : ∀ j, j ≠ 2 → I_12 ln j = I_1 ln j := fun j hj => by rw [eI_12]; exact gup2_k _ _ hj
  have u_14q : (I_12 q 1).toInt = (I_1 q 1).toInt := by rw [kI_12 q (gO_ne hp.2.2.1 hp.2.2.2.2.1 (by decide))]
  have u_14_0 : (I_12 ln 0).toInt = (I_1 ln 0).toInt := by rw [w_13_k 0 (by decide)]
  have u_14_8 : (I_12 ln 8).toInt = (I_1 ln 8).toInt := by rw [w_13_k 8 (by decide)]
  refine lv_iload_n F.1 F.2.1 dX1_readDistinct_19 rfl (lv_at hl 0 rfl) ?_
  exact g_iret F hr hlk hH hS hz zv_7 ⟨rfl, rfl, rfl, rfl, rfl, hv, hp, pf, by first | omega | rfl | (dsimp only; omega)⟩ dX1_readDistinct_20

def rmX1_readTwoAlike : Room := { frames := 4, cells := 0, slots := 0, locals := 83 }
theorem hdX1_readTwoAlike : yX1_readTwoAlike.cls = RX1 ∧ yX1_readTwoAlike.cls ≠ "java/lang/invoke/MethodHandle" ∧ yX1_readTwoAlike.cls ≠ "java/lang/invoke/VarHandle" ∧ (parseMethodDescriptor yX1_readTwoAlike.desc).map (fun d => d.parameters.length) = some 0 := by decide +kernel
set_option maxHeartbeats 4000000 in
set_option maxRecDepth 100000 in
/-- a union or minus -/
theorem c_X1_readTwoAlike (l : Launch) (g : gG) (gh : gGh) (q ln : Nat) (I : gI) (R : gR) (J : gJ) (AI : gI) (AJ : gJ) (AR : gR) (a : Nat) (hv : gInv g gh R AR I AI) (hp : pS g gh R I a q ln) (hk0 : (I ln 0).toInt ≠ 0) : gMet l g yX1_readTwoAlike wsX1_readTwoAlike rmX1_readTwoAlike [.ref a] (I, R, J, AI, AJ, AR) (gQi g (fun (z : Int) (w : gS) => R = w.2.1 ∧ J = w.2.2.1 ∧ AI = w.2.2.2.1 ∧ AJ = w.2.2.2.2.1 ∧ AR = w.2.2.2.2.2 ∧ (gInv g gh R AR (w.1) AI) ∧ (pS g gh R (w.1) a q ln) ∧ (pF a ln I (w.1)) ∧ (0 ≤ z ∧ z ≤ 5))) := by
  refine gStart (cc := cX1_readTwoAlike) (maxL := 3) (ret := (some (.int))) (by decide) rfl (Nat.le_of_ble_eq_true rfl) ?_
  intro p e s m below meth c ls F hr hlk hH hz hS hl
  have hl : lv_has ls 3 [(0, .ref a)] := hl
  have hS : va_S (gA g) s.heap s.heap [] := hS
  obtain ⟨H, hHe⟩ : ∃ H : Heap, H = s.heap := ⟨_, rfl⟩
  obtain ⟨locs, hlo⟩ : ∃ k : List Loc, k = [] := ⟨_, rfl⟩
  have hH : gH g I R J AI AJ AR H := by rw [hHe]; exact hH
  have hS : va_S (gA g) s.heap H locs := by rw [hHe, hlo]; exact hS
  suffices hw : W p l e rmX1_readTwoAlike s m ([.ref a] : List Value).toArray below meth c H locs 0 0 (MQ below (gQi g (fun (z : Int) (w : gS) => R = w.2.1 ∧ J = w.2.2.1 ∧ AI = w.2.2.2.1 ∧ AJ = w.2.2.2.2.1 ∧ AR = w.2.2.2.2.2 ∧ (gInv g gh R AR (w.1) AI) ∧ (pS g gh R (w.1) a q ln) ∧ (pF a ln I (w.1)) ∧ (0 ≤ z ∧ z ≤ 5))) ([.ref a] : List Value).toArray s 0 0 (gA g)) (F0 m 0 ls []) by
    rw [hHe, hlo] at hw; exact hw
  clear hHe hlo
  have pf : pF a ln I I := pF_r
  have iX5 : ∀ w ∈ u_ws RX5 TX5 5, w ∈ wsX1_readTwoAlike := (by decide +kernel)
  have iX2 : ∀ w ∈ u_ws RX2 TX2 3, w ∈ wsX1_readTwoAlike := (by decide +kernel)
  have iX1 : ∀ w ∈ u_ws RX1 TX1 4, w ∈ wsX1_readTwoAlike := (by decide +kernel)
  have iX0 : ∀ w ∈ u_ws RX0 TX0 15, w ∈ wsX1_readTwoAlike := (by decide +kernel)
  have k21 : Cond.fieldLink RX1 21 (TX1 1).1 (TX1 1).2.1 (TX1 1).2.2.1 ∈ wsX1_readTwoAlike := List.mem_of_getElem? (i := 1) rfl
  have k12 : Cond.fieldLink RX1 12 (TX1 0).1 (TX1 0).2.1 (TX1 0).2.2.1 ∈ wsX1_readTwoAlike := List.mem_of_getElem? (i := 2) rfl
  have k93 : Cond.fieldLink RX1 93 (TX5 3).1 (TX5 3).2.1 (TX5 3).2.2.1 ∈ wsX1_readTwoAlike := List.mem_of_getElem? (i := 3) rfl
  have k44 : Cond.fieldLink RX1 44 (TX1 3).1 (TX1 3).2.1 (TX1 3).2.2.1 ∈ wsX1_readTwoAlike := List.mem_of_getElem? (i := 4) rfl
  have k25 : Cond.fieldLink RX1 25 (TX2 0).1 (TX2 0).2.1 (TX2 0).2.2.1 ∈ wsX1_readTwoAlike := List.mem_of_getElem? (i := 5) rfl
  have k136 : Cond.fieldLink RX1 136 (TX0 2).1 (TX0 2).2.1 (TX0 2).2.2.1 ∈ wsX1_readTwoAlike := List.mem_of_getElem? (i := 6) rfl
  have k29 : Cond.fieldLink RX1 29 (TX1 2).1 (TX1 2).2.1 (TX1 2).2.2.1 ∈ wsX1_readTwoAlike := List.mem_of_getElem? (i := 7) rfl
  have k143 : Cond.fieldLink RX1 143 (TX0 5).1 (TX0 5).2.1 (TX0 5).2.2.1 ∈ wsX1_readTwoAlike := List.mem_of_getElem? (i := 8) rfl
  refine lv_aload_n F.1 F.2.1 dX1_readTwoAlike_0 rfl (lv_at hl 0 rfl) ?_
  refine g_calli (g_runV (As := []) (rest := []) (ci := 1) F hl.1 hH hS hz (c_X1_readFirst l g gh q ln I R J AI AJ AR a hv hp (by omega)) (cwV 0 F.2.2.2.2.1 gX1_readTwoAlike_X1_readFirst rfl rfl rfl hdX1_readFirst ⟨Nat.le_of_ble_eq_true rfl, Nat.le_of_ble_eq_true rfl⟩) hp.1 (by decide) rfl rfl rfl (Nat.le_of_ble_eq_true rfl) dX1_readTwoAlike_1 ⟨Nat.zero_le _, Nat.zero_le _⟩) hS (fun v_7 I_1 R_2 J_3 AI_4 AJ_5 AR_6 H locs zv_7 hp_8 hH hS => ?_)
  dsimp only at hp_8
  obtain ⟨rfl, rfl, rfl, rfl, rfl, hv, hp, pfq, k8q, q_9⟩ := hp_8
  have pf := pF_t pf pfq
  have u_10q : (I_1 q 1).toInt = (I q 1).toInt := by rw [pF_q hp pfq]
  have u_10_0 : (I_1 ln 0).toInt = (I ln 0).toInt := by rw [pfq.2]
  have u_10_8 : (I_1 ln 8).toInt = (I ln 8).toInt := by rw [k8q]
  refine lv_istore_n (lv' := [(1, .int (iI v_7)), (0, .ref a)]) F.1 F.2.1 dX1_readTwoAlike_4 rfl hl (by decide) rfl (fun ls hl => ?_)
  refine lv_iload_n F.1 F.2.1 dX1_readTwoAlike_5 rfl (lv_at hl 0 rfl) ?_
  refine z_if_ne (tgt := 14) F dX1_readTwoAlike_6 (by decide) zv_7 (fun c_11 => ?_) (fun c_11 => ?_)
  · refine lv_iload_n F.1 F.2.1 dX1_readTwoAlike_14 rfl (lv_at hl 0 rfl) ?_
    refine z_if_eq (tgt := 20) F dX1_readTwoAlike_15 (by decide) zv_7 (fun c_12 => ?_) (fun c_12 => ?_)
    · exact absurd trivial (by omega)
    · refine lv_iload_n F.1 F.2.1 dX1_readTwoAlike_18 rfl (lv_at hl 0 rfl) ?_
      exact g_iret F hr hlk hH hS hz zv_7 ⟨rfl, rfl, rfl, rfl, rfl, hv, hp, pf, by first | omega | rfl | (dsimp only; omega)⟩ dX1_readTwoAlike_19
  · refine lv_aload_n F.1 F.2.1 dX1_readTwoAlike_9 rfl (lv_at hl 1 rfl) ?_
    refine g_calli (g_runV (As := []) (rest := []) (ci := 1) F hl.1 hH hS hz (c_X1_seeRelation l g gh q ln I_1 R J AI AJ AR a hv hp) (cwV 0 F.2.2.2.2.1 gX1_readTwoAlike_X1_seeRelation rfl rfl rfl hdX1_seeRelation ⟨Nat.le_of_ble_eq_true rfl, Nat.le_of_ble_eq_true rfl⟩) hp.1 (by decide) rfl rfl rfl (Nat.le_of_ble_eq_true rfl) dX1_readTwoAlike_10 ⟨Nat.zero_le _, Nat.zero_le _⟩) hS (fun v_19 I_13 R_14 J_15 AI_16 AJ_17 AR_18 H locs zv_19 hp_20 hH hS => ?_)
    dsimp only at hp_20
    obtain ⟨rfl, rfl, rfl, rfl, rfl, rfl, qz, qs⟩ := hp_20
    refine lv_istore_n (lv' := [(1, .int (iI v_19)), (0, .ref a)]) F.1 F.2.1 dX1_readTwoAlike_13 rfl hl (by decide) rfl (fun ls hl => ?_)
    refine lv_iload_n F.1 F.2.1 dX1_readTwoAlike_14 rfl (lv_at hl 0 rfl) ?_
    refine z_if_eq (tgt := 20) F dX1_readTwoAlike_15 (by decide) zv_19 (fun c_21 => ?_) (fun c_21 => ?_)
    · refine lv_aload_n F.1 F.2.1 dX1_readTwoAlike_20 rfl (lv_at hl 1 rfl) ?_
      refine g_getR (ci := 1) (k := 1) F hH rfl (by decide) iX1 hp.1 (by decide) rfl (b := q) hp.2.1 k21 dX1_readTwoAlike_21 ?_
      refine lv_aload_n F.1 F.2.1 dX1_readTwoAlike_24 rfl (lv_at hl 1 rfl) ?_
      refine g_getR (ci := 1) (k := 0) F hH rfl (by decide) iX1 hp.1 (by decide) rfl (b := gh 22 0) (gR_pr0 hv hp.1).1 k12 dX1_readTwoAlike_25 ?_
      obtain ⟨r_22a, r_22b⟩ := gR_tk3 hv (gR_pr0 hv hp.1).2
      refine g_getR (ci := 5) (k := 3) F hH rfl (by decide) iX5 (gR_pr0 hv hp.1).2 (by decide) rfl (b := gh 27 0) r_22a k93 dX1_readTwoAlike_28 ?_
      refine lv_aload_n F.1 F.2.1 dX1_readTwoAlike_31 rfl (lv_at hl 1 rfl) ?_
      refine g_getI (ci := 1) (k := 3) F hH rfl (by decide) iX1 hp.1 (by decide) rfl k44 dX1_readTwoAlike_32 ?_
      have b_23h := hp.2.2.2.2.2.2.2
      have b_23 := gI_pr hv hp.1
      have b_23t := gI_tk hv (gR_pr0 hv hp.1).2
      have hx35 : 0 ≤ ((I_1 a 3).toInt) ∧ ((I_1 a 3).toInt) < ((901 : Nat) : Int) ∧ ((I_1 a 3).toInt) ≤ 2147483647 := ⟨by omega, by omega, by omega⟩
      refine g_lald F hH r_22b hx35.1 hx35.2.1 hx35.2.2 dX1_readTwoAlike_35 ?_
      refine lv_topl (fun j_24 ej_24 => ?_)
      have ejn := ej_24
      have b_25 := gI_plan hv hp.2.2.1
      refine g_calli (g_runV (As := [.long j_24]) (rest := []) (ci := 2) F hl.1 hH hS hz (c_X2_relationOf l g gh I_1 R J AI AJ AR q j_24 hv hp.2.2.1) (cwV 1 F.2.2.2.2.1 gX1_readTwoAlike_X2_relationOf rfl rfl rfl hdX2_relationOf ⟨Nat.le_of_ble_eq_true rfl, Nat.le_of_ble_eq_true rfl⟩) hp.2.2.1 (by decide) rfl rfl rfl (Nat.le_of_ble_eq_true rfl) dX1_readTwoAlike_36 ⟨Nat.zero_le _, Nat.zero_le _⟩) hS (fun v_32 I_26 R_27 J_28 AI_29 AJ_30 AR_31 H locs zv_32 hp_33 hH hS => ?_)
      dsimp only at hp_33
      obtain ⟨rfl, rfl, rfl, rfl, rfl, rfl, qr⟩ := hp_33
      have hvr : 0 ≤ v_32 ∧ v_32 < (I_1 q 1).toInt := by
        rcases qr with ⟨h, h2⟩ | ⟨h1, h2, b, h3, h4⟩
        · obtain ⟨j, b, hj, hb, hJ⟩ := qs (by omega)
          exact absurd (hJ.trans ejn.symm) (h2 j hj b hb)
        · exact ⟨h1, h2⟩
      clear qs qr
      refine lv_istore_n (lv' := [(2, .int (iI v_32)), (1, .int (iI v_19)), (0, .ref a)]) F.1 F.2.1 dX1_readTwoAlike_39 rfl hl (by decide) rfl (fun ls hl => ?_)
      refine lv_aload_n F.1 F.2.1 dX1_readTwoAlike_40 rfl (lv_at hl 2 rfl) ?_
      refine g_getR (ci := 1) (k := 1) F hH rfl (by decide) iX1 hp.1 (by decide) rfl (b := q) hp.2.1 k21 dX1_readTwoAlike_41 ?_
      obtain ⟨r_34a, r_34b⟩ := gR_lines hv hp.2.2.1
      refine g_getR (ci := 2) (k := 0) F hH rfl (by decide) iX2 hp.2.2.1 (by decide) rfl (b := gh 6 q) r_34a k25 dX1_readTwoAlike_44 ?_
      refine lv_iload_n F.1 F.2.1 dX1_readTwoAlike_47 rfl (lv_at hl 0 rfl) ?_
      have hx48 : 0 ≤ v_32 ∧ v_32 < ((16 : Nat) : Int) ∧ v_32 ≤ 2147483647 := ⟨by omega, by omega, by omega⟩
      obtain ⟨y_35, y_35a, y_35b, y_35c, y_35d⟩ := gA_lines hv hp.2.2.1 (z := v_32) (by omega) (by omega)
      refine g_aldL F hH r_34b hx48.1 hx48.2.1 hx48.2.2 (b := y_35) y_35a dX1_readTwoAlike_48 ?_
      refine g_getI (ci := 0) (k := 2) F hH rfl (by decide) iX0 y_35b (by decide) rfl k136 dX1_readTwoAlike_49 ?_
      have b_36 := gI_line hv y_35b
      unfold vLineI at b_36
      refine lv_aload_n F.1 F.2.1 dX1_readTwoAlike_52 rfl (lv_at hl 2 rfl) ?_
      refine g_getR (ci := 1) (k := 2) F hH rfl (by decide) iX1 hp.1 (by decide) rfl (b := ln) hp.2.2.2.1 k29 dX1_readTwoAlike_53 ?_
      refine g_getI (ci := 0) (k := 5) F hH rfl (by decide) iX0 hp.2.2.2.2.1 (by decide) rfl k143 dX1_readTwoAlike_56 ?_
      have b_37 := gI_line hv hp.2.2.2.2.1
      unfold vLineI at b_37
      refine z_icmp_eq (tgt := 64) F dX1_readTwoAlike_59 (by decide) (zr_t _) (zr_t _) (fun c_38 => ?_) (fun c_38 => ?_)
      · refine lv_aload_n F.1 F.2.1 dX1_readTwoAlike_64 rfl (lv_at hl 2 rfl) ?_
        refine g_getR (ci := 1) (k := 2) F hH rfl (by decide) iX1 hp.1 (by decide) rfl (b := ln) hp.2.2.2.1 k29 dX1_readTwoAlike_65 ?_
        refine lv_aload_n F.1 F.2.1 dX1_readTwoAlike_68 rfl (lv_at hl 2 rfl) ?_
        refine g_getR (ci := 1) (k := 2) F hH rfl (by decide) iX1 hp.1 (by decide) rfl (b := ln) hp.2.2.2.1 k29 dX1_readTwoAlike_69 ?_
        refine g_getI (ci := 0) (k := 5) F hH rfl (by decide) iX0 hp.2.2.2.2.1 (by decide) rfl k143 dX1_readTwoAlike_72 ?_
        refine g_putI (ci := 0) (k := 2) F hH hS rfl (by decide) iX0 hp.2.2.2.2.1 (by decide) tyX0 tyX0_ok nmX0 rfl rfl rfl k136 dX1_readTwoAlike_75 (fun H locs hH hS => ?_)
        obtain ⟨I_39, eI_39⟩ : ∃ qQ, qQ = gup2 I_1 ln 2 (iI ((I_1 ln 5).toInt)) := ⟨_, rfl⟩
        rw [← eI_39] at hH
        have kI_39 : ∀ b, b ≠ ln → I_39 b = I_1 b := fun b hb => by rw [eI_39]; exact funext fun j => gup2_a _ _ hb
        have w_40 : (I_39 ln 2).toInt = (I_1 ln 5).toInt := by rw [eI_39, gup2_s]; exact iI_val ⟨by omega, by omega⟩
        have hp2 : pS g gh R I_39 a q ln := pS_ln hv hp kI_39
        have hv : gInv g gh R AR I_39 AI := by rw [eI_39]; exact gInv_line2 hv hp.2.2.2.2.1 (by omega) (by omega) (pS_col hp)
        have hp := hp2
        have pf : pF a ln I I_39 := pF_t pf (by rw [eI_39]; exact pF_ln (by decide))
        have w_40_k : ∀ j, j ≠ 2 → I_39 ln j = I_1 ln j := fun j hj => by rw [eI_39]; exact gup2_k _ _ hj
        have u_41q : (I_39 q 1).toInt = (I_1 q 1).toInt := by rw [kI_39 q (gO_ne hp.2.2.1 hp.2.2.2.2.1 (by decide))]
        have u_41_0 : (I_39 ln 0).toInt = (I_1 ln 0).toInt := by rw [w_40_k 0 (by decide)]
        have u_41_8 : (I_39 ln 8).toInt = (I_1 ln 8).toInt := by rw [w_40_k 8 (by decide)]
        refine lv_aload_n F.1 F.2.1 dX1_readTwoAlike_78 rfl (lv_at hl 2 rfl) ?_
        refine g_calli (g_runV (As := []) (rest := []) (ci := 1) F hl.1 hH hS hz (c_X1_readSecond l g gh q ln I_39 R J AI AJ AR a hv hp (by omega)) (cwV 0 F.2.2.2.2.1 gX1_readTwoAlike_X1_readSecond rfl rfl rfl hdX1_readSecond ⟨Nat.le_of_ble_eq_true rfl, Nat.le_of_ble_eq_true rfl⟩) hp.1 (by decide) rfl rfl rfl (Nat.le_of_ble_eq_true rfl) dX1_readTwoAlike_79 ⟨Nat.zero_le _, Nat.zero_le _⟩) hS (fun v_48 I_42 R_43 J_44 AI_45 AJ_46 AR_47 H locs zv_48 hp_49 hH hS => ?_)
        dsimp only at hp_49
        obtain ⟨rfl, rfl, rfl, rfl, rfl, hv, hp, pfq, k8q, q_50⟩ := hp_49
        have pf := pF_t pf pfq
        have u_51q : (I_42 q 1).toInt = (I_39 q 1).toInt := by rw [pF_q hp pfq]
        have u_51_0 : (I_42 ln 0).toInt = (I_39 ln 0).toInt := by rw [pfq.2]
        have u_51_8 : (I_42 ln 8).toInt = (I_39 ln 8).toInt := by rw [k8q]
        exact g_iret F hr hlk hH hS hz zv_48 ⟨rfl, rfl, rfl, rfl, rfl, hv, hp, pf, by first | omega | rfl | (dsimp only; omega)⟩ dX1_readTwoAlike_82
      · refine z_iconst F dX1_readTwoAlike_62 ?_
        exact g_iret F hr hlk hH hS hz ⟨by decide, by decide⟩ ⟨rfl, rfl, rfl, rfl, rfl, hv, hp, pf, by first | omega | rfl | (dsimp only; omega)⟩ dX1_readTwoAlike_63
    · refine lv_iload_n F.1 F.2.1 dX1_readTwoAlike_18 rfl (lv_at hl 0 rfl) ?_
      exact g_iret F hr hlk hH hS hz zv_19 ⟨rfl, rfl, rfl, rfl, rfl, hv, hp, pf, by first | omega | rfl | (dsimp only; omega)⟩ dX1_readTwoAlike_19

def rmX1_readByColumn : Room := { frames := 2, cells := 0, slots := 0, locals := 42 }
theorem hdX1_readByColumn : yX1_readByColumn.cls = RX1 ∧ yX1_readByColumn.cls ≠ "java/lang/invoke/MethodHandle" ∧ yX1_readByColumn.cls ≠ "java/lang/invoke/VarHandle" ∧ (parseMethodDescriptor yX1_readByColumn.desc).map (fun d => d.parameters.length) = some 0 := by decide +kernel
set_option maxHeartbeats 4000000 in
set_option maxRecDepth 100000 in
/-- a column of a group -/
theorem c_X1_readByColumn (l : Launch) (g : gG) (gh : gGh) (q ln : Nat) (I : gI) (R : gR) (J : gJ) (AI : gI) (AJ : gJ) (AR : gR) (a : Nat) (hv : gInv g gh R AR I AI) (hp : pS g gh R I a q ln) (hk : (I ln 0).toInt = 7) : gMet l g yX1_readByColumn wsX1_readByColumn rmX1_readByColumn [.ref a] (I, R, J, AI, AJ, AR) (gQi g (fun (z : Int) (w : gS) => R = w.2.1 ∧ J = w.2.2.1 ∧ AJ = w.2.2.2.2.1 ∧ AR = w.2.2.2.2.2 ∧ (gInv g gh R AR (w.1) (w.2.2.2.1)) ∧ (pS g gh R (w.1) a q ln) ∧ (pF a ln I (w.1)) ∧ (0 ≤ z ∧ z ≤ 4))) := by
  refine gStart (cc := cX1_readByColumn) (maxL := 3) (ret := (some (.int))) (by decide) rfl (Nat.le_of_ble_eq_true rfl) ?_
  intro p e s m below meth c ls F hr hlk hH hz hS hl
  have hl : lv_has ls 3 [(0, .ref a)] := hl
  have hS : va_S (gA g) s.heap s.heap [] := hS
  obtain ⟨H, hHe⟩ : ∃ H : Heap, H = s.heap := ⟨_, rfl⟩
  obtain ⟨locs, hlo⟩ : ∃ k : List Loc, k = [] := ⟨_, rfl⟩
  have hH : gH g I R J AI AJ AR H := by rw [hHe]; exact hH
  have hS : va_S (gA g) s.heap H locs := by rw [hHe, hlo]; exact hS
  suffices hw : W p l e rmX1_readByColumn s m ([.ref a] : List Value).toArray below meth c H locs 0 0 (MQ below (gQi g (fun (z : Int) (w : gS) => R = w.2.1 ∧ J = w.2.2.1 ∧ AJ = w.2.2.2.2.1 ∧ AR = w.2.2.2.2.2 ∧ (gInv g gh R AR (w.1) (w.2.2.2.1)) ∧ (pS g gh R (w.1) a q ln) ∧ (pF a ln I (w.1)) ∧ (0 ≤ z ∧ z ≤ 4))) ([.ref a] : List Value).toArray s 0 0 (gA g)) (F0 m 0 ls []) by
    rw [hHe, hlo] at hw; exact hw
  clear hHe hlo
  have pf : pF a ln I I := pF_r
  have iX5 : ∀ w ∈ u_ws RX5 TX5 5, w ∈ wsX1_readByColumn := (by decide +kernel)
  have iX1 : ∀ w ∈ u_ws RX1 TX1 4, w ∈ wsX1_readByColumn := (by decide +kernel)
  have iX0 : ∀ w ∈ u_ws RX0 TX0 15, w ∈ wsX1_readByColumn := (by decide +kernel)
  have k29 : Cond.fieldLink RX1 29 (TX1 2).1 (TX1 2).2.1 (TX1 2).2.2.1 ∈ wsX1_readByColumn := List.mem_of_getElem? (i := 1) rfl
  have k143 : Cond.fieldLink RX1 143 (TX0 5).1 (TX0 5).2.1 (TX0 5).2.2.1 ∈ wsX1_readByColumn := List.mem_of_getElem? (i := 2) rfl
  have k12 : Cond.fieldLink RX1 12 (TX1 0).1 (TX1 0).2.1 (TX1 0).2.2.1 ∈ wsX1_readByColumn := List.mem_of_getElem? (i := 3) rfl
  have k71 : Cond.fieldLink RX1 71 (TX5 2).1 (TX5 2).2.1 (TX5 2).2.2.1 ∈ wsX1_readByColumn := List.mem_of_getElem? (i := 4) rfl
  have k44 : Cond.fieldLink RX1 44 (TX1 3).1 (TX1 3).2.1 (TX1 3).2.2.1 ∈ wsX1_readByColumn := List.mem_of_getElem? (i := 5) rfl
  have k149 : Cond.fieldLink RX1 149 (TX0 8).1 (TX0 8).2.1 (TX0 8).2.2.1 ∈ wsX1_readByColumn := List.mem_of_getElem? (i := 6) rfl
  refine lv_aload_n F.1 F.2.1 dX1_readByColumn_0 rfl (lv_at hl 0 rfl) ?_
  refine lv_aload_n F.1 F.2.1 dX1_readByColumn_1 rfl (lv_at hl 0 rfl) ?_
  refine g_getR (ci := 1) (k := 2) F hH rfl (by decide) iX1 hp.1 (by decide) rfl (b := ln) hp.2.2.2.1 k29 dX1_readByColumn_2 ?_
  refine g_getI (ci := 0) (k := 5) F hH rfl (by decide) iX0 hp.2.2.2.2.1 (by decide) rfl k143 dX1_readByColumn_5 ?_
  have b_1 := gI_line hv hp.2.2.2.2.1
  unfold vLineI at b_1
  refine g_calli (g_runV (As := [.int (iI ((I ln 5).toInt))]) (rest := []) (ci := 1) F hl.1 hH hS hz (c_X1_seeColumn l g gh I R J AI AJ AR a ((I ln 5).toInt) (zr_t _) hv hp.1 (by first | exact hp.2.2.2.2.2.2.2 | exact hh | omega)) (cwV 1 F.2.2.2.2.1 gX1_readByColumn_X1_seeColumn rfl rfl rfl hdX1_seeColumn ⟨Nat.le_of_ble_eq_true rfl, Nat.le_of_ble_eq_true rfl⟩) hp.1 (by decide) rfl rfl rfl (Nat.le_of_ble_eq_true rfl) dX1_readByColumn_8 ⟨Nat.zero_le _, Nat.zero_le _⟩) hS (fun v_8 I_2 R_3 J_4 AI_5 AJ_6 AR_7 H locs zv_8 hp_9 hH hS => ?_)
  dsimp only at hp_9
  obtain ⟨rfl, rfl, rfl, rfl, rfl, rfl, s1, s2⟩ := hp_9
  refine lv_istore_n (lv' := [(1, .int (iI v_8)), (0, .ref a)]) F.1 F.2.1 dX1_readByColumn_11 rfl hl (by decide) rfl (fun ls hl => ?_)
  refine lv_iload_n F.1 F.2.1 dX1_readByColumn_12 rfl (lv_at hl 0 rfl) ?_
  refine z_if_eq (tgt := 18) F dX1_readByColumn_13 (by decide) zv_8 (fun c_10 => ?_) (fun c_10 => ?_)
  · refine lv_aload_n F.1 F.2.1 dX1_readByColumn_18 rfl (lv_at hl 1 rfl) ?_
    refine g_getR (ci := 1) (k := 0) F hH rfl (by decide) iX1 hp.1 (by decide) rfl (b := gh 22 0) (gR_pr0 hv hp.1).1 k12 dX1_readByColumn_19 ?_
    obtain ⟨r_11a, r_11b⟩ := gR_tk2 hv (gR_pr0 hv hp.1).2
    refine g_getR (ci := 5) (k := 2) F hH rfl (by decide) iX5 (gR_pr0 hv hp.1).2 (by decide) rfl (b := gh 26 0) r_11a k71 dX1_readByColumn_22 ?_
    refine lv_aload_n F.1 F.2.1 dX1_readByColumn_25 rfl (lv_at hl 1 rfl) ?_
    refine g_getI (ci := 1) (k := 3) F hH rfl (by decide) iX1 hp.1 (by decide) rfl k44 dX1_readByColumn_26 ?_
    have b_12h := hp.2.2.2.2.2.2.2
    have b_12 := gI_pr hv hp.1
    have b_12t := gI_tk hv (gR_pr0 hv hp.1).2
    have hx29 : 0 ≤ ((I a 3).toInt) ∧ ((I a 3).toInt) < ((901 : Nat) : Int) ∧ ((I a 3).toInt) ≤ 2147483647 := ⟨by omega, by omega, by omega⟩
    refine g_iald F hH r_11b hx29.1 hx29.2.1 hx29.2.2 dX1_readByColumn_29 ?_
    refine z_name (fun v_13 ev_13 => ?_)
    have zv_13 : zr v_13 := by rw [ev_13]; exact zr_t _
    refine lv_istore_n (lv' := [(2, .int (iI v_13)), (1, .int (iI v_8)), (0, .ref a)]) F.1 F.2.1 dX1_readByColumn_30 rfl hl (by decide) rfl (fun ls hl => ?_)
    refine lv_aload_n F.1 F.2.1 dX1_readByColumn_31 rfl (lv_at hl 2 rfl) ?_
    refine g_getR (ci := 1) (k := 2) F hH rfl (by decide) iX1 hp.1 (by decide) rfl (b := ln) hp.2.2.2.1 k29 dX1_readByColumn_32 ?_
    refine lv_iload_n F.1 F.2.1 dX1_readByColumn_35 rfl (lv_at hl 0 rfl) ?_
    refine g_calli (g_runV (As := [.int (iI v_13)]) (rest := []) (ci := 0) F hl.1 hH hS hz (c_X0_hasColumn l g gh I R J AI AJ AR ln v_13 zv_13 hv hp.2.2.2.2.1) (cwV 1 F.2.2.2.2.1 gX1_readByColumn_X0_hasColumn rfl rfl rfl hdX0_hasColumn ⟨Nat.le_of_ble_eq_true rfl, Nat.le_of_ble_eq_true rfl⟩) hp.2.2.2.2.1 (by decide) rfl rfl rfl (Nat.le_of_ble_eq_true rfl) dX1_readByColumn_36 ⟨Nat.zero_le _, Nat.zero_le _⟩) hS (fun v_20 I_14 R_15 J_16 AI_17 AJ_18 AR_19 H locs zv_20 hp_21 hH hS => ?_)
    dsimp only at hp_21
    obtain ⟨rfl, rfl, rfl, rfl, rfl, rfl, q_22⟩ := hp_21
    refine z_if_eq (tgt := 44) F dX1_readByColumn_39 (by decide) zv_20 (fun c_23 => ?_) (fun c_23 => ?_)
    · refine lv_aload_n F.1 F.2.1 dX1_readByColumn_44 rfl (lv_at hl 2 rfl) ?_
      refine g_getR (ci := 1) (k := 2) F hH rfl (by decide) iX1 hp.1 (by decide) rfl (b := ln) hp.2.2.2.1 k29 dX1_readByColumn_45 ?_
      refine g_getI (ci := 0) (k := 8) F hH rfl (by decide) iX0 hp.2.2.2.2.1 (by decide) rfl k149 dX1_readByColumn_48 ?_
      refine z_iconst F dX1_readByColumn_51 ?_
      refine z_icmp_lt (tgt := 57) F dX1_readByColumn_52 (by decide) (zr_t _) ⟨by decide, by decide⟩ (fun c_24 => ?_) (fun c_24 => ?_)
      · refine lv_aload_n F.1 F.2.1 dX1_readByColumn_57 rfl (lv_at hl 2 rfl) ?_
        refine g_getR (ci := 1) (k := 2) F hH rfl (by decide) iX1 hp.1 (by decide) rfl (b := ln) hp.2.2.2.1 k29 dX1_readByColumn_58 ?_
        refine lv_iload_n F.1 F.2.1 dX1_readByColumn_61 rfl (lv_at hl 0 rfl) ?_
        have hv0 := hv
        refine g_callv (g_runV (As := [.int (iI v_13)]) (rest := []) (ci := 0) F hl.1 hH hS hz (c_X0_addColumn l g gh I R J AI AJ AR ln v_13 zv_13 hv hp.2.2.2.2.1 (by omega) (by omega) (by omega)) (cwV 1 F.2.2.2.2.1 gX1_readByColumn_X0_addColumn rfl rfl rfl hdX0_addColumn ⟨Nat.le_of_ble_eq_true rfl, Nat.le_of_ble_eq_true rfl⟩) hp.2.2.2.2.1 (by decide) rfl rfl rfl (Nat.le_of_ble_eq_true rfl) dX1_readByColumn_62 ⟨Nat.zero_le _, Nat.zero_le _⟩) hS (fun I_25 R_26 J_27 AI_28 AJ_29 AR_30 H locs hp_31 hH hS => ?_)
        dsimp only at hp_31
        obtain ⟨rfl, rfl, rfl, rfl, hv, fI, fA, f0, f8⟩ := hp_31
        have hp := pS_ln hv0 hp fI
        have pf := pF_t pf (pF_o fI f0)
        have u_32q : (I_25 q 1).toInt = (I q 1).toInt := by rw [fI q (gO_ne hp.2.2.1 hp.2.2.2.2.1 (by decide))]
        have u_32_0 : (I_25 ln 0).toInt = (I ln 0).toInt := by rw [f0]
        refine lv_aload_n F.1 F.2.1 dX1_readByColumn_65 rfl (lv_at hl 2 rfl) ?_
        have hv0 := hv
        refine g_callv (g_runV (As := []) (rest := []) (ci := 1) F hl.1 hH hS hz (c_X1_step l g gh I_25 R J AI_28 AJ AR a hv hp.1 (by first | exact hp.2.2.2.2.2.2.2 | exact hh | omega)) (cwV 0 F.2.2.2.2.1 gX1_readByColumn_X1_step rfl rfl rfl hdX1_step ⟨Nat.le_of_ble_eq_true rfl, Nat.le_of_ble_eq_true rfl⟩) hp.1 (by decide) rfl rfl rfl (Nat.le_of_ble_eq_true rfl) dX1_readByColumn_66 ⟨Nat.zero_le _, Nat.zero_le _⟩) hS (fun I_33 R_34 J_35 AI_36 AJ_37 AR_38 H locs hp_39 hH hS => ?_)
        dsimp only at hp_39
        obtain ⟨rfl, rfl, rfl, rfl, rfl, hv, fs, hs⟩ := hp_39
        obtain ⟨hp, pfq, fls⟩ := pS_step hv0 hp fs hs
        have pf := pF_t pf pfq
        have u_40q : (I_33 q 1).toInt = (I_25 q 1).toInt := by rw [pF_q hp pfq]
        have u_40_0 : (I_33 ln 0).toInt = (I_25 ln 0).toInt := by rw [fls]
        have u_40_8 : (I_33 ln 8).toInt = (I_25 ln 8).toInt := by rw [fls]
        refine z_iconst F dX1_readByColumn_69 ?_
        exact g_iret F hr hlk hH hS hz ⟨by decide, by decide⟩ ⟨rfl, rfl, rfl, rfl, hv, hp, pf, by first | omega | rfl | (dsimp only; omega)⟩ dX1_readByColumn_70
      · refine z_iconst F dX1_readByColumn_55 ?_
        exact g_iret F hr hlk hH hS hz ⟨by decide, by decide⟩ ⟨rfl, rfl, rfl, rfl, hv, hp, pf, by first | omega | rfl | (dsimp only; omega)⟩ dX1_readByColumn_56
    · refine z_iconst F dX1_readByColumn_42 ?_
      exact g_iret F hr hlk hH hS hz ⟨by decide, by decide⟩ ⟨rfl, rfl, rfl, rfl, hv, hp, pf, by first | omega | rfl | (dsimp only; omega)⟩ dX1_readByColumn_43
  · refine lv_iload_n F.1 F.2.1 dX1_readByColumn_16 rfl (lv_at hl 0 rfl) ?_
    exact g_iret F hr hlk hH hS hz zv_8 ⟨rfl, rfl, rfl, rfl, hv, hp, pf, by first | omega | rfl | (dsimp only; omega)⟩ dX1_readByColumn_17

def rmX1_readByColumns : Room := { frames := 3, cells := 0, slots := 0, locals := 64 }
theorem hdX1_readByColumns : yX1_readByColumns.cls = RX1 ∧ yX1_readByColumns.cls ≠ "java/lang/invoke/MethodHandle" ∧ yX1_readByColumns.cls ≠ "java/lang/invoke/VarHandle" ∧ (parseMethodDescriptor yX1_readByColumns.desc).map (fun d => d.parameters.length) = some 0 := by decide +kernel
set_option maxHeartbeats 4000000 in
set_option maxRecDepth 100000 in
/-- the columns of a group -/
theorem c_X1_readByColumns (l : Launch) (g : gG) (gh : gGh) (q ln : Nat) (I : gI) (R : gR) (J : gJ) (AI : gI) (AJ : gJ) (AR : gR) (a : Nat) (hv : gInv g gh R AR I AI) (hp : pS g gh R I a q ln) (hk : (I ln 0).toInt = 7) : gMet l g yX1_readByColumns wsX1_readByColumns rmX1_readByColumns [.ref a] (I, R, J, AI, AJ, AR) (gQi g (fun (z : Int) (w : gS) => R = w.2.1 ∧ J = w.2.2.1 ∧ AJ = w.2.2.2.2.1 ∧ AR = w.2.2.2.2.2 ∧ (gInv g gh R AR (w.1) (w.2.2.2.1)) ∧ (pS g gh R (w.1) a q ln) ∧ (pF a ln I (w.1)) ∧ (0 ≤ z ∧ z ≤ 4))) := by
  refine gStart (cc := cX1_readByColumns) (maxL := 3) (ret := (some (.int))) (by decide) rfl (Nat.le_of_ble_eq_true rfl) ?_
  intro p e s m below meth c ls F hr hlk hH hz hS hl
  have hl : lv_has ls 3 [(0, .ref a)] := hl
  have hS : va_S (gA g) s.heap s.heap [] := hS
  obtain ⟨H, hHe⟩ : ∃ H : Heap, H = s.heap := ⟨_, rfl⟩
  obtain ⟨locs, hlo⟩ : ∃ k : List Loc, k = [] := ⟨_, rfl⟩
  have hH : gH g I R J AI AJ AR H := by rw [hHe]; exact hH
  have hS : va_S (gA g) s.heap H locs := by rw [hHe, hlo]; exact hS
  suffices hw : W p l e rmX1_readByColumns s m ([.ref a] : List Value).toArray below meth c H locs 0 0 (MQ below (gQi g (fun (z : Int) (w : gS) => R = w.2.1 ∧ J = w.2.2.1 ∧ AJ = w.2.2.2.2.1 ∧ AR = w.2.2.2.2.2 ∧ (gInv g gh R AR (w.1) (w.2.2.2.1)) ∧ (pS g gh R (w.1) a q ln) ∧ (pF a ln I (w.1)) ∧ (0 ≤ z ∧ z ≤ 4))) ([.ref a] : List Value).toArray s 0 0 (gA g)) (F0 m 0 ls []) by
    rw [hHe, hlo] at hw; exact hw
  clear hHe hlo
  have pf : pF a ln I I := pF_r
  refine z_iconst F dX1_readByColumns_0 ?_
  refine lv_istore_n (lv' := [(1, .int (iI 0)), (0, .ref a)]) F.1 F.2.1 dX1_readByColumns_1 rfl hl (by decide) rfl (fun ls hl => ?_)
  have cut_2_2 : ∀ (NN : Nat) (i : Int) (I_1 : gI) (AI_2 : gI) (H : Heap) (locs : List Loc) (ls : Array Slot), zr i → (gInv g gh R AR I_1 AI_2) → (pS g gh R I_1 a q ln) → (pF a ln I I_1) → ((I_1 ln 0).toInt = 7) → (0 ≤ i ∧ i ≤ 4) → (4 - i) < ((NN : Nat) : Int) → gH g I_1 R J AI_2 AJ AR H → va_S (gA g) s.heap H locs → lv_has ls 3 [(1, .int (iI i)), (0, .ref a)] → W p l e rmX1_readByColumns s m ([.ref a] : List Value).toArray below meth c H locs 0 0 (MQ below (gQi g (fun (z : Int) (w : gS) => R = w.2.1 ∧ J = w.2.2.1 ∧ AJ = w.2.2.2.2.1 ∧ AR = w.2.2.2.2.2 ∧ (gInv g gh R AR (w.1) (w.2.2.2.1)) ∧ (pS g gh R (w.1) a q ln) ∧ (pF a ln I (w.1)) ∧ (0 ≤ z ∧ z ≤ 4))) ([.ref a] : List Value).toArray s 0 0 (gA g)) (F0 m 2 ls []) := by
    intro NN2
    induction NN2 with
    | zero =>
      intro i I_1 AI_2 H locs ls zi hv hp pf hk hi hm2 hH hS hl
      exact absurd hm2 (by omega)
    | succ NN2 ih2 =>
      intro i I_1 AI_2 H locs ls zi hv hp pf hk hi hm2 hH hS hl
      refine lv_iload_n F.1 F.2.1 dX1_readByColumns_2 rfl (lv_at hl 0 rfl) ?_
      refine z_iconst F dX1_readByColumns_3 ?_
      refine z_icmp_gt (tgt := 37) F dX1_readByColumns_4 (by decide) zi ⟨by decide, by decide⟩ (fun c_4 => ?_) (fun c_4 => ?_)
      · refine z_iconst F dX1_readByColumns_37 ?_
        exact g_iret F hr hlk hH hS hz ⟨by decide, by decide⟩ ⟨rfl, rfl, rfl, rfl, hv, hp, pf, by first | omega | rfl | (dsimp only; omega)⟩ dX1_readByColumns_38
      · refine lv_aload_n F.1 F.2.1 dX1_readByColumns_7 rfl (lv_at hl 1 rfl) ?_
        refine g_calli (g_runV (As := []) (rest := []) (ci := 1) F hl.1 hH hS hz (c_X1_readByColumn l g gh q ln I_1 R J AI_2 AJ AR a hv hp (by omega)) (cwV 0 F.2.2.2.2.1 gX1_readByColumns_X1_readByColumn rfl rfl rfl hdX1_readByColumn ⟨Nat.le_of_ble_eq_true rfl, Nat.le_of_ble_eq_true rfl⟩) hp.1 (by decide) rfl rfl rfl (Nat.le_of_ble_eq_true rfl) dX1_readByColumns_8 ⟨Nat.zero_le _, Nat.zero_le _⟩) hS (fun v_11 I_5 R_6 J_7 AI_8 AJ_9 AR_10 H locs zv_11 hp_12 hH hS => ?_)
        dsimp only at hp_12
        obtain ⟨rfl, rfl, rfl, rfl, hv, hp, pfq, q_13⟩ := hp_12
        have pf := pF_t pf pfq
        have u_14q : (I_5 q 1).toInt = (I_1 q 1).toInt := by rw [pF_q hp pfq]
        have u_14_0 : (I_5 ln 0).toInt = (I_1 ln 0).toInt := by rw [pfq.2]
        refine lv_istore_n (lv' := [(2, .int (iI v_11)), (1, .int (iI i)), (0, .ref a)]) F.1 F.2.1 dX1_readByColumns_11 rfl hl (by decide) rfl (fun ls hl => ?_)
        refine lv_iload_n F.1 F.2.1 dX1_readByColumns_12 rfl (lv_at hl 0 rfl) ?_
        refine z_if_ne (tgt := 25) F dX1_readByColumns_13 (by decide) zv_11 (fun c_15 => ?_) (fun c_15 => ?_)
        · refine lv_iload_n F.1 F.2.1 dX1_readByColumns_25 rfl (lv_at hl 0 rfl) ?_
          exact g_iret F hr hlk hH hS hz zv_11 ⟨rfl, rfl, rfl, rfl, hv, hp, pf, by first | omega | rfl | (dsimp only; omega)⟩ dX1_readByColumns_26
        · refine lv_aload_n F.1 F.2.1 dX1_readByColumns_16 rfl (lv_at hl 2 rfl) ?_
          refine z_bipush F dX1_readByColumns_17 (by decide) ?_
          refine g_calli (g_runV (As := [.int (iI 44)]) (rest := []) (ci := 1) F hl.1 hH hS hz (c_X1_isKind l g gh I_5 R J AI_8 AJ AR a 44 ⟨by decide, by decide⟩ hv hp.1 (by first | exact hp.2.2.2.2.2.2.2 | exact hh | omega)) (cwV 1 F.2.2.2.2.1 gX1_readByColumns_X1_isKind rfl rfl rfl hdX1_isKind ⟨Nat.le_of_ble_eq_true rfl, Nat.le_of_ble_eq_true rfl⟩) hp.1 (by decide) rfl rfl rfl (Nat.le_of_ble_eq_true rfl) dX1_readByColumns_19 ⟨Nat.zero_le _, Nat.zero_le _⟩) hS (fun v_22 I_16 R_17 J_18 AI_19 AJ_20 AR_21 H locs zv_22 hp_23 hH hS => ?_)
          dsimp only at hp_23
          obtain ⟨rfl, rfl, rfl, rfl, rfl, rfl, q_24⟩ := hp_23
          refine z_if_ne (tgt := 27) F dX1_readByColumns_22 (by decide) zv_22 (fun c_25 => ?_) (fun c_25 => ?_)
          · refine lv_aload_n F.1 F.2.1 dX1_readByColumns_27 rfl (lv_at hl 2 rfl) ?_
            have hv0 := hv
            refine g_callv (g_runV (As := []) (rest := []) (ci := 1) F hl.1 hH hS hz (c_X1_step l g gh I_5 R J AI_8 AJ AR a hv hp.1 (by first | exact hp.2.2.2.2.2.2.2 | exact hh | omega)) (cwV 0 F.2.2.2.2.1 gX1_readByColumns_X1_step rfl rfl rfl hdX1_step ⟨Nat.le_of_ble_eq_true rfl, Nat.le_of_ble_eq_true rfl⟩) hp.1 (by decide) rfl rfl rfl (Nat.le_of_ble_eq_true rfl) dX1_readByColumns_28 ⟨Nat.zero_le _, Nat.zero_le _⟩) hS (fun I_26 R_27 J_28 AI_29 AJ_30 AR_31 H locs hp_32 hH hS => ?_)
            dsimp only at hp_32
            obtain ⟨rfl, rfl, rfl, rfl, rfl, hv, fs, hs⟩ := hp_32
            obtain ⟨hp, pfq, fls⟩ := pS_step hv0 hp fs hs
            have pf := pF_t pf pfq
            have u_33q : (I_26 q 1).toInt = (I_5 q 1).toInt := by rw [pF_q hp pfq]
            have u_33_0 : (I_26 ln 0).toInt = (I_5 ln 0).toInt := by rw [fls]
            have u_33_8 : (I_26 ln 8).toInt = (I_5 ln 8).toInt := by rw [fls]
            refine z_iinc (lv' := [(1, .int (iI (i + 1))), (2, .int (iI v_11)), (0, .ref a)]) F dX1_readByColumns_31 hl (k := 1) rfl (by decide) rfl (fun ls hl => ?_)
            refine z_goto (tgt := 2) F dX1_readByColumns_34 (by decide) ?_
            exact ih2 (i + 1) I_26 AI_8 H locs ls ⟨by omega, by omega⟩ hv hp pf (by omega) (by omega) (by omega) hH hS (lv_sub hl [0, 2] rfl)
          · refine lv_iload_n F.1 F.2.1 dX1_readByColumns_25 rfl (lv_at hl 0 rfl) ?_
            exact g_iret F hr hlk hH hS hz zv_11 ⟨rfl, rfl, rfl, rfl, hv, hp, pf, by first | omega | rfl | (dsimp only; omega)⟩ dX1_readByColumns_26
  exact cut_2_2 (((4 - 0) + 1 : Int).toNat) 0 I AI H locs ls ⟨by decide, by decide⟩ hv hp pf (by omega) (by omega) (by omega) hH hS (lv_sub hl [0, 1] rfl)

def rmX1_readFold : Room := { frames := 2, cells := 0, slots := 0, locals := 42 }
theorem hdX1_readFold : yX1_readFold.cls = RX1 ∧ yX1_readFold.cls ≠ "java/lang/invoke/MethodHandle" ∧ yX1_readFold.cls ≠ "java/lang/invoke/VarHandle" ∧ (parseMethodDescriptor yX1_readFold.desc).map (fun d => d.parameters.length) = some 0 := by decide +kernel
set_option maxHeartbeats 4000000 in
set_option maxRecDepth 100000 in
/-- the fold of a group -/
theorem c_X1_readFold (l : Launch) (g : gG) (gh : gGh) (q ln : Nat) (I : gI) (R : gR) (J : gJ) (AI : gI) (AJ : gJ) (AR : gR) (a : Nat) (hv : gInv g gh R AR I AI) (hp : pS g gh R I a q ln) (hk : (I ln 0).toInt = 7) : gMet l g yX1_readFold wsX1_readFold rmX1_readFold [.ref a] (I, R, J, AI, AJ, AR) (gQi g (fun (z : Int) (w : gS) => R = w.2.1 ∧ J = w.2.2.1 ∧ AI = w.2.2.2.1 ∧ AJ = w.2.2.2.2.1 ∧ AR = w.2.2.2.2.2 ∧ (gInv g gh R AR (w.1) AI) ∧ (pS g gh R (w.1) a q ln) ∧ (pF a ln I (w.1)) ∧ (0 ≤ z ∧ z ≤ 4))) := by
  refine gStart (cc := cX1_readFold) (maxL := 3) (ret := (some (.int))) (by decide) rfl (Nat.le_of_ble_eq_true rfl) ?_
  intro p e s m below meth c ls F hr hlk hH hz hS hl
  have hl : lv_has ls 3 [(0, .ref a)] := hl
  have hS : va_S (gA g) s.heap s.heap [] := hS
  obtain ⟨H, hHe⟩ : ∃ H : Heap, H = s.heap := ⟨_, rfl⟩
  obtain ⟨locs, hlo⟩ : ∃ k : List Loc, k = [] := ⟨_, rfl⟩
  have hH : gH g I R J AI AJ AR H := by rw [hHe]; exact hH
  have hS : va_S (gA g) s.heap H locs := by rw [hHe, hlo]; exact hS
  suffices hw : W p l e rmX1_readFold s m ([.ref a] : List Value).toArray below meth c H locs 0 0 (MQ below (gQi g (fun (z : Int) (w : gS) => R = w.2.1 ∧ J = w.2.2.1 ∧ AI = w.2.2.2.1 ∧ AJ = w.2.2.2.2.1 ∧ AR = w.2.2.2.2.2 ∧ (gInv g gh R AR (w.1) AI) ∧ (pS g gh R (w.1) a q ln) ∧ (pF a ln I (w.1)) ∧ (0 ≤ z ∧ z ≤ 4))) ([.ref a] : List Value).toArray s 0 0 (gA g)) (F0 m 0 ls []) by
    rw [hHe, hlo] at hw; exact hw
  clear hHe hlo
  have pf : pF a ln I I := pF_r
  have iX5 : ∀ w ∈ u_ws RX5 TX5 5, w ∈ wsX1_readFold := (by decide +kernel)
  have iX1 : ∀ w ∈ u_ws RX1 TX1 4, w ∈ wsX1_readFold := (by decide +kernel)
  have iX0 : ∀ w ∈ u_ws RX0 TX0 15, w ∈ wsX1_readFold := (by decide +kernel)
  have k12 : Cond.fieldLink RX1 12 (TX1 0).1 (TX1 0).2.1 (TX1 0).2.2.1 ∈ wsX1_readFold := List.mem_of_getElem? (i := 1) rfl
  have k71 : Cond.fieldLink RX1 71 (TX5 2).1 (TX5 2).2.1 (TX5 2).2.2.1 ∈ wsX1_readFold := List.mem_of_getElem? (i := 2) rfl
  have k44 : Cond.fieldLink RX1 44 (TX1 3).1 (TX1 3).2.1 (TX1 3).2.2.1 ∈ wsX1_readFold := List.mem_of_getElem? (i := 3) rfl
  have k29 : Cond.fieldLink RX1 29 (TX1 2).1 (TX1 2).2.1 (TX1 2).2.2.1 ∈ wsX1_readFold := List.mem_of_getElem? (i := 4) rfl
  have k223 : Cond.fieldLink RX1 223 (TX0 11).1 (TX0 11).2.1 (TX0 11).2.2.1 ∈ wsX1_readFold := List.mem_of_getElem? (i := 5) rfl
  have k226 : Cond.fieldLink RX1 226 (TX0 12).1 (TX0 12).2.1 (TX0 12).2.2.1 ∈ wsX1_readFold := List.mem_of_getElem? (i := 6) rfl
  have k143 : Cond.fieldLink RX1 143 (TX0 5).1 (TX0 5).2.1 (TX0 5).2.2.1 ∈ wsX1_readFold := List.mem_of_getElem? (i := 7) rfl
  refine lv_aload_n F.1 F.2.1 dX1_readFold_0 rfl (lv_at hl 0 rfl) ?_
  refine g_getR (ci := 1) (k := 0) F hH rfl (by decide) iX1 hp.1 (by decide) rfl (b := gh 22 0) (gR_pr0 hv hp.1).1 k12 dX1_readFold_1 ?_
  obtain ⟨r_1a, r_1b⟩ := gR_tk2 hv (gR_pr0 hv hp.1).2
  refine g_getR (ci := 5) (k := 2) F hH rfl (by decide) iX5 (gR_pr0 hv hp.1).2 (by decide) rfl (b := gh 26 0) r_1a k71 dX1_readFold_4 ?_
  refine lv_aload_n F.1 F.2.1 dX1_readFold_7 rfl (lv_at hl 0 rfl) ?_
  refine g_getI (ci := 1) (k := 3) F hH rfl (by decide) iX1 hp.1 (by decide) rfl k44 dX1_readFold_8 ?_
  have b_2h := hp.2.2.2.2.2.2.2
  have b_2 := gI_pr hv hp.1
  have b_2t := gI_tk hv (gR_pr0 hv hp.1).2
  have hx11 : 0 ≤ ((I a 3).toInt) ∧ ((I a 3).toInt) < ((901 : Nat) : Int) ∧ ((I a 3).toInt) ≤ 2147483647 := ⟨by omega, by omega, by omega⟩
  refine g_iald F hH r_1b hx11.1 hx11.2.1 hx11.2.2 dX1_readFold_11 ?_
  refine z_name (fun v_3 ev_3 => ?_)
  have zv_3 : zr v_3 := by rw [ev_3]; exact zr_t _
  refine lv_istore_n (lv' := [(1, .int (iI v_3)), (0, .ref a)]) F.1 F.2.1 dX1_readFold_12 rfl hl (by decide) rfl (fun ls hl => ?_)
  refine lv_aload_n F.1 F.2.1 dX1_readFold_13 rfl (lv_at hl 1 rfl) ?_
  refine z_iconst F dX1_readFold_14 ?_
  refine g_calli (g_runV (As := [.int (iI 3)]) (rest := []) (ci := 1) F hl.1 hH hS hz (c_X1_isKind l g gh I R J AI AJ AR a 3 ⟨by decide, by decide⟩ hv hp.1 (by first | exact hp.2.2.2.2.2.2.2 | exact hh | omega)) (cwV 1 F.2.2.2.2.1 gX1_readFold_X1_isKind rfl rfl rfl hdX1_isKind ⟨Nat.le_of_ble_eq_true rfl, Nat.le_of_ble_eq_true rfl⟩) hp.1 (by decide) rfl rfl rfl (Nat.le_of_ble_eq_true rfl) dX1_readFold_15 ⟨Nat.zero_le _, Nat.zero_le _⟩) hS (fun v_10 I_4 R_5 J_6 AI_7 AJ_8 AR_9 H locs zv_10 hp_11 hH hS => ?_)
  dsimp only at hp_11
  obtain ⟨rfl, rfl, rfl, rfl, rfl, rfl, q_12⟩ := hp_11
  refine z_if_eq (tgt := 33) F dX1_readFold_18 (by decide) zv_10 (fun c_13 => ?_) (fun c_13 => ?_)
  · refine z_iconst F dX1_readFold_33 ?_
    exact g_iret F hr hlk hH hS hz ⟨by decide, by decide⟩ ⟨rfl, rfl, rfl, rfl, rfl, hv, hp, pf, by first | omega | rfl | (dsimp only; omega)⟩ dX1_readFold_34
  · refine lv_iload_n F.1 F.2.1 dX1_readFold_21 rfl (lv_at hl 0 rfl) ?_
    refine z_bipush F dX1_readFold_22 (by decide) ?_
    refine z_icmp_lt (tgt := 33) F dX1_readFold_24 (by decide) zv_3 ⟨by decide, by decide⟩ (fun c_14 => ?_) (fun c_14 => ?_)
    · refine z_iconst F dX1_readFold_33 ?_
      exact g_iret F hr hlk hH hS hz ⟨by decide, by decide⟩ ⟨rfl, rfl, rfl, rfl, rfl, hv, hp, pf, by first | omega | rfl | (dsimp only; omega)⟩ dX1_readFold_34
    · refine lv_iload_n F.1 F.2.1 dX1_readFold_27 rfl (lv_at hl 0 rfl) ?_
      refine z_bipush F dX1_readFold_28 (by decide) ?_
      refine z_icmp_le (tgt := 35) F dX1_readFold_30 (by decide) zv_3 ⟨by decide, by decide⟩ (fun c_15 => ?_) (fun c_15 => ?_)
      · refine lv_aload_n F.1 F.2.1 dX1_readFold_35 rfl (lv_at hl 1 rfl) ?_
        refine g_getR (ci := 1) (k := 2) F hH rfl (by decide) iX1 hp.1 (by decide) rfl (b := ln) hp.2.2.2.1 k29 dX1_readFold_36 ?_
        refine lv_iload_n F.1 F.2.1 dX1_readFold_39 rfl (lv_at hl 0 rfl) ?_
        refine g_putI (ci := 0) (k := 11) F hH hS rfl (by decide) iX0 hp.2.2.2.2.1 (by decide) tyX0 tyX0_ok nmX0 rfl rfl rfl k223 dX1_readFold_40 (fun H locs hH hS => ?_)
        obtain ⟨I_16, eI_16⟩ : ∃ qQ, qQ = gup2 I ln 11 (iI (v_3)) := ⟨_, rfl⟩
        rw [← eI_16] at hH
        have kI_16 : ∀ b, b ≠ ln → I_16 b = I b := fun b hb => by rw [eI_16]; exact funext fun j => gup2_a _ _ hb
        have hp2 : pS g gh R I_16 a q ln := pS_ln hv hp kI_16
        have hv : gInv g gh R AR I_16 AI := by rw [eI_16]; exact gInv_line11 hv hp.2.2.2.2.1
        have hp := hp2
        have pf : pF a ln I I_16 := pF_t pf (by rw [eI_16]; exact pF_ln (by decide))
        have w_17_k : ∀ j, j ≠ 11 → I_16 ln j = I ln j := fun j hj => by rw [eI_16]; exact gup2_k _ _ hj
        have u_18q : (I_16 q 1).toInt = (I q 1).toInt := by rw [kI_16 q (gO_ne hp.2.2.1 hp.2.2.2.2.1 (by decide))]
        have u_18_0 : (I_16 ln 0).toInt = (I ln 0).toInt := by rw [w_17_k 0 (by decide)]
        have u_18_8 : (I_16 ln 8).toInt = (I ln 8).toInt := by rw [w_17_k 8 (by decide)]
        refine lv_aload_n F.1 F.2.1 dX1_readFold_43 rfl (lv_at hl 1 rfl) ?_
        refine g_getR (ci := 1) (k := 2) F hH rfl (by decide) iX1 hp.1 (by decide) rfl (b := ln) hp.2.2.2.1 k29 dX1_readFold_44 ?_
        refine z_iconst F dX1_readFold_47 ?_
        refine g_putI (ci := 0) (k := 12) F hH hS rfl (by decide) iX0 hp.2.2.2.2.1 (by decide) tyX0 tyX0_ok nmX0 rfl rfl rfl k226 dX1_readFold_48 (fun H locs hH hS => ?_)
        obtain ⟨I_19, eI_19⟩ : ∃ qQ, qQ = gup2 I_16 ln 12 (iI (0)) := ⟨_, rfl⟩
        rw [← eI_19] at hH
        have kI_19 : ∀ b, b ≠ ln → I_19 b = I_16 b := fun b hb => by rw [eI_19]; exact funext fun j => gup2_a _ _ hb
        have w_20 : (I_19 ln 12).toInt = 0 := by rw [eI_19, gup2_s]; exact iI_val ⟨by omega, by omega⟩
        have hp2 : pS g gh R I_19 a q ln := pS_ln hv hp kI_19
        have hv : gInv g gh R AR I_19 AI := by rw [eI_19]; exact gInv_line12 hv hp.2.2.2.2.1 (by omega) (by omega)
        have hp := hp2
        have pf : pF a ln I I_19 := pF_t pf (by rw [eI_19]; exact pF_ln (by decide))
        have w_20_k : ∀ j, j ≠ 12 → I_19 ln j = I_16 ln j := fun j hj => by rw [eI_19]; exact gup2_k _ _ hj
        have u_21q : (I_19 q 1).toInt = (I_16 q 1).toInt := by rw [kI_19 q (gO_ne hp.2.2.1 hp.2.2.2.2.1 (by decide))]
        have u_21_0 : (I_19 ln 0).toInt = (I_16 ln 0).toInt := by rw [w_20_k 0 (by decide)]
        have u_21_8 : (I_19 ln 8).toInt = (I_16 ln 8).toInt := by rw [w_20_k 8 (by decide)]
        refine lv_aload_n F.1 F.2.1 dX1_readFold_51 rfl (lv_at hl 1 rfl) ?_
        have hv0 := hv
        refine g_callv (g_runV (As := []) (rest := []) (ci := 1) F hl.1 hH hS hz (c_X1_step l g gh I_19 R J AI AJ AR a hv hp.1 (by first | exact hp.2.2.2.2.2.2.2 | exact hh | omega)) (cwV 0 F.2.2.2.2.1 gX1_readFold_X1_step rfl rfl rfl hdX1_step ⟨Nat.le_of_ble_eq_true rfl, Nat.le_of_ble_eq_true rfl⟩) hp.1 (by decide) rfl rfl rfl (Nat.le_of_ble_eq_true rfl) dX1_readFold_52 ⟨Nat.zero_le _, Nat.zero_le _⟩) hS (fun I_22 R_23 J_24 AI_25 AJ_26 AR_27 H locs hp_28 hH hS => ?_)
        dsimp only at hp_28
        obtain ⟨rfl, rfl, rfl, rfl, rfl, hv, fs, hs⟩ := hp_28
        obtain ⟨hp, pfq, fls⟩ := pS_step hv0 hp fs hs
        have pf := pF_t pf pfq
        have u_29q : (I_22 q 1).toInt = (I_19 q 1).toInt := by rw [pF_q hp pfq]
        have u_29_0 : (I_22 ln 0).toInt = (I_19 ln 0).toInt := by rw [fls]
        have u_29_8 : (I_22 ln 8).toInt = (I_19 ln 8).toInt := by rw [fls]
        refine lv_iload_n F.1 F.2.1 dX1_readFold_55 rfl (lv_at hl 0 rfl) ?_
        refine z_bipush F dX1_readFold_56 (by decide) ?_
        refine z_icmp_ne (tgt := 63) F dX1_readFold_58 (by decide) zv_3 ⟨by decide, by decide⟩ (fun c_30 => ?_) (fun c_30 => ?_)
        · refine lv_aload_n F.1 F.2.1 dX1_readFold_63 rfl (lv_at hl 1 rfl) ?_
          refine lv_aload_n F.1 F.2.1 dX1_readFold_64 rfl (lv_at hl 1 rfl) ?_
          refine g_getR (ci := 1) (k := 2) F hH rfl (by decide) iX1 hp.1 (by decide) rfl (b := ln) hp.2.2.2.1 k29 dX1_readFold_65 ?_
          refine g_getI (ci := 0) (k := 5) F hH rfl (by decide) iX0 hp.2.2.2.2.1 (by decide) rfl k143 dX1_readFold_68 ?_
          have b_31 := gI_line hv hp.2.2.2.2.1
          unfold vLineI at b_31
          refine g_calli (g_runV (As := [.int (iI ((I_22 ln 5).toInt))]) (rest := []) (ci := 1) F hl.1 hH hS hz (c_X1_seeColumn l g gh I_22 R J AI AJ AR a ((I_22 ln 5).toInt) (zr_t _) hv hp.1 (by first | exact hp.2.2.2.2.2.2.2 | exact hh | omega)) (cwV 1 F.2.2.2.2.1 gX1_readFold_X1_seeColumn rfl rfl rfl hdX1_seeColumn ⟨Nat.le_of_ble_eq_true rfl, Nat.le_of_ble_eq_true rfl⟩) hp.1 (by decide) rfl rfl rfl (Nat.le_of_ble_eq_true rfl) dX1_readFold_71 ⟨Nat.zero_le _, Nat.zero_le _⟩) hS (fun v_38 I_32 R_33 J_34 AI_35 AJ_36 AR_37 H locs zv_38 hp_39 hH hS => ?_)
          dsimp only at hp_39
          obtain ⟨rfl, rfl, rfl, rfl, rfl, rfl, s1, s2⟩ := hp_39
          refine lv_istore_n (lv' := [(2, .int (iI v_38)), (1, .int (iI v_3)), (0, .ref a)]) F.1 F.2.1 dX1_readFold_74 rfl hl (by decide) rfl (fun ls hl => ?_)
          refine lv_iload_n F.1 F.2.1 dX1_readFold_75 rfl (lv_at hl 0 rfl) ?_
          refine z_if_ne (tgt := 102) F dX1_readFold_76 (by decide) zv_38 (fun c_40 => ?_) (fun c_40 => ?_)
          · refine lv_iload_n F.1 F.2.1 dX1_readFold_102 rfl (lv_at hl 0 rfl) ?_
            exact g_iret F hr hlk hH hS hz zv_38 ⟨rfl, rfl, rfl, rfl, rfl, hv, hp, pf, by first | omega | rfl | (dsimp only; omega)⟩ dX1_readFold_103
          · refine lv_aload_n F.1 F.2.1 dX1_readFold_79 rfl (lv_at hl 2 rfl) ?_
            refine g_getR (ci := 1) (k := 2) F hH rfl (by decide) iX1 hp.1 (by decide) rfl (b := ln) hp.2.2.2.1 k29 dX1_readFold_80 ?_
            refine lv_aload_n F.1 F.2.1 dX1_readFold_83 rfl (lv_at hl 2 rfl) ?_
            refine g_getR (ci := 1) (k := 0) F hH rfl (by decide) iX1 hp.1 (by decide) rfl (b := gh 22 0) (gR_pr0 hv hp.1).1 k12 dX1_readFold_84 ?_
            refine g_getR (ci := 5) (k := 2) F hH rfl (by decide) iX5 (gR_pr0 hv hp.1).2 (by decide) rfl (b := gh 26 0) r_1a k71 dX1_readFold_87 ?_
            refine lv_aload_n F.1 F.2.1 dX1_readFold_90 rfl (lv_at hl 2 rfl) ?_
            refine g_getI (ci := 1) (k := 3) F hH rfl (by decide) iX1 hp.1 (by decide) rfl k44 dX1_readFold_91 ?_
            have b_41h := hp.2.2.2.2.2.2.2
            have b_41 := gI_pr hv hp.1
            have b_41t := gI_tk hv (gR_pr0 hv hp.1).2
            have hx94 : 0 ≤ ((I_22 a 3).toInt) ∧ ((I_22 a 3).toInt) < ((901 : Nat) : Int) ∧ ((I_22 a 3).toInt) ≤ 2147483647 := ⟨by omega, by omega, by omega⟩
            refine g_iald F hH r_1b hx94.1 hx94.2.1 hx94.2.2 dX1_readFold_94 ?_
            refine z_name (fun v_42 ev_42 => ?_)
            have zv_42 : zr v_42 := by rw [ev_42]; exact zr_t _
            refine g_putI (ci := 0) (k := 12) F hH hS rfl (by decide) iX0 hp.2.2.2.2.1 (by decide) tyX0 tyX0_ok nmX0 rfl rfl rfl k226 dX1_readFold_95 (fun H locs hH hS => ?_)
            obtain ⟨I_43, eI_43⟩ : ∃ qQ, qQ = gup2 I_22 ln 12 (iI (v_42)) := ⟨_, rfl⟩
            rw [← eI_43] at hH
            have kI_43 : ∀ b, b ≠ ln → I_43 b = I_22 b := fun b hb => by rw [eI_43]; exact funext fun j => gup2_a _ _ hb
            have w_44 : (I_43 ln 12).toInt = v_42 := by rw [eI_43, gup2_s]; exact iI_val ⟨by omega, by omega⟩
            have hp2 : pS g gh R I_43 a q ln := pS_ln hv hp kI_43
            have hv : gInv g gh R AR I_43 AI := by rw [eI_43]; exact gInv_line12 hv hp.2.2.2.2.1 (by omega) (by omega)
            have hp := hp2
            have pf : pF a ln I I_43 := pF_t pf (by rw [eI_43]; exact pF_ln (by decide))
            have w_44_k : ∀ j, j ≠ 12 → I_43 ln j = I_22 ln j := fun j hj => by rw [eI_43]; exact gup2_k _ _ hj
            have u_45q : (I_43 q 1).toInt = (I_22 q 1).toInt := by rw [kI_43 q (gO_ne hp.2.2.1 hp.2.2.2.2.1 (by decide))]
            have u_45_0 : (I_43 ln 0).toInt = (I_22 ln 0).toInt := by rw [w_44_k 0 (by decide)]
            have u_45_8 : (I_43 ln 8).toInt = (I_22 ln 8).toInt := by rw [w_44_k 8 (by decide)]
            refine lv_aload_n F.1 F.2.1 dX1_readFold_98 rfl (lv_at hl 2 rfl) ?_
            have hv0 := hv
            refine g_callv (g_runV (As := []) (rest := []) (ci := 1) F hl.1 hH hS hz (c_X1_step l g gh I_43 R J AI AJ AR a hv hp.1 (by first | exact hp.2.2.2.2.2.2.2 | exact hh | omega)) (cwV 0 F.2.2.2.2.1 gX1_readFold_X1_step rfl rfl rfl hdX1_step ⟨Nat.le_of_ble_eq_true rfl, Nat.le_of_ble_eq_true rfl⟩) hp.1 (by decide) rfl rfl rfl (Nat.le_of_ble_eq_true rfl) dX1_readFold_99 ⟨Nat.zero_le _, Nat.zero_le _⟩) hS (fun I_46 R_47 J_48 AI_49 AJ_50 AR_51 H locs hp_52 hH hS => ?_)
            dsimp only at hp_52
            obtain ⟨rfl, rfl, rfl, rfl, rfl, hv, fs, hs⟩ := hp_52
            obtain ⟨hp, pfq, fls⟩ := pS_step hv0 hp fs hs
            have pf := pF_t pf pfq
            have u_53q : (I_46 q 1).toInt = (I_43 q 1).toInt := by rw [pF_q hp pfq]
            have u_53_0 : (I_46 ln 0).toInt = (I_43 ln 0).toInt := by rw [fls]
            have u_53_8 : (I_46 ln 8).toInt = (I_43 ln 8).toInt := by rw [fls]
            refine lv_iload_n F.1 F.2.1 dX1_readFold_102 rfl (lv_at hl 0 rfl) ?_
            exact g_iret F hr hlk hH hS hz zv_38 ⟨rfl, rfl, rfl, rfl, rfl, hv, hp, pf, by first | omega | rfl | (dsimp only; omega)⟩ dX1_readFold_103
        · refine z_iconst F dX1_readFold_61 ?_
          exact g_iret F hr hlk hH hS hz ⟨by decide, by decide⟩ ⟨rfl, rfl, rfl, rfl, rfl, hv, hp, pf, by first | omega | rfl | (dsimp only; omega)⟩ dX1_readFold_62
      · refine z_iconst F dX1_readFold_33 ?_
        exact g_iret F hr hlk hH hS hz ⟨by decide, by decide⟩ ⟨rfl, rfl, rfl, rfl, rfl, hv, hp, pf, by first | omega | rfl | (dsimp only; omega)⟩ dX1_readFold_34

def rmX1_readGroup : Room := { frames := 4, cells := 0, slots := 0, locals := 86 }
theorem hdX1_readGroup : yX1_readGroup.cls = RX1 ∧ yX1_readGroup.cls ≠ "java/lang/invoke/MethodHandle" ∧ yX1_readGroup.cls ≠ "java/lang/invoke/VarHandle" ∧ (parseMethodDescriptor yX1_readGroup.desc).map (fun d => d.parameters.length) = some 0 := by decide +kernel
set_option maxHeartbeats 4000000 in
set_option maxRecDepth 100000 in
/-- a group -/
theorem c_X1_readGroup (l : Launch) (g : gG) (gh : gGh) (q ln : Nat) (I : gI) (R : gR) (J : gJ) (AI : gI) (AJ : gJ) (AR : gR) (a : Nat) (hv : gInv g gh R AR I AI) (hp : pS g gh R I a q ln) (hk : (I ln 0).toInt = 7) : gMet l g yX1_readGroup wsX1_readGroup rmX1_readGroup [.ref a] (I, R, J, AI, AJ, AR) (gQi g (fun (z : Int) (w : gS) => R = w.2.1 ∧ J = w.2.2.1 ∧ AJ = w.2.2.2.2.1 ∧ AR = w.2.2.2.2.2 ∧ (gInv g gh R AR (w.1) (w.2.2.2.1)) ∧ (pS g gh R (w.1) a q ln) ∧ (pF a ln I (w.1)) ∧ (0 ≤ z ∧ z ≤ 4))) := by
  refine gStart (cc := cX1_readGroup) (maxL := 2) (ret := (some (.int))) (by decide) rfl (Nat.le_of_ble_eq_true rfl) ?_
  intro p e s m below meth c ls F hr hlk hH hz hS hl
  have hl : lv_has ls 2 [(0, .ref a)] := hl
  have hS : va_S (gA g) s.heap s.heap [] := hS
  obtain ⟨H, hHe⟩ : ∃ H : Heap, H = s.heap := ⟨_, rfl⟩
  obtain ⟨locs, hlo⟩ : ∃ k : List Loc, k = [] := ⟨_, rfl⟩
  have hH : gH g I R J AI AJ AR H := by rw [hHe]; exact hH
  have hS : va_S (gA g) s.heap H locs := by rw [hHe, hlo]; exact hS
  suffices hw : W p l e rmX1_readGroup s m ([.ref a] : List Value).toArray below meth c H locs 0 0 (MQ below (gQi g (fun (z : Int) (w : gS) => R = w.2.1 ∧ J = w.2.2.1 ∧ AJ = w.2.2.2.2.1 ∧ AR = w.2.2.2.2.2 ∧ (gInv g gh R AR (w.1) (w.2.2.2.1)) ∧ (pS g gh R (w.1) a q ln) ∧ (pF a ln I (w.1)) ∧ (0 ≤ z ∧ z ≤ 4))) ([.ref a] : List Value).toArray s 0 0 (gA g)) (F0 m 0 ls []) by
    rw [hHe, hlo] at hw; exact hw
  clear hHe hlo
  have pf : pF a ln I I := pF_r
  have iX1 : ∀ w ∈ u_ws RX1 TX1 4, w ∈ wsX1_readGroup := (by decide +kernel)
  have iX0 : ∀ w ∈ u_ws RX0 TX0 15, w ∈ wsX1_readGroup := (by decide +kernel)
  have k29 : Cond.fieldLink RX1 29 (TX1 2).1 (TX1 2).2.1 (TX1 2).2.2.1 ∈ wsX1_readGroup := List.mem_of_getElem? (i := 1) rfl
  have k149 : Cond.fieldLink RX1 149 (TX0 8).1 (TX0 8).2.1 (TX0 8).2.2.1 ∈ wsX1_readGroup := List.mem_of_getElem? (i := 2) rfl
  have k136 : Cond.fieldLink RX1 136 (TX0 2).1 (TX0 2).2.1 (TX0 2).2.2.1 ∈ wsX1_readGroup := List.mem_of_getElem? (i := 3) rfl
  refine lv_aload_n F.1 F.2.1 dX1_readGroup_0 rfl (lv_at hl 0 rfl) ?_
  refine g_calli (g_runV (As := []) (rest := []) (ci := 1) F hl.1 hH hS hz (c_X1_readFirst l g gh q ln I R J AI AJ AR a hv hp (by omega)) (cwV 0 F.2.2.2.2.1 gX1_readGroup_X1_readFirst rfl rfl rfl hdX1_readFirst ⟨Nat.le_of_ble_eq_true rfl, Nat.le_of_ble_eq_true rfl⟩) hp.1 (by decide) rfl rfl rfl (Nat.le_of_ble_eq_true rfl) dX1_readGroup_1 ⟨Nat.zero_le _, Nat.zero_le _⟩) hS (fun v_7 I_1 R_2 J_3 AI_4 AJ_5 AR_6 H locs zv_7 hp_8 hH hS => ?_)
  dsimp only at hp_8
  obtain ⟨rfl, rfl, rfl, rfl, rfl, hv, hp, pfq, k8q, q_9⟩ := hp_8
  have pf := pF_t pf pfq
  have u_10q : (I_1 q 1).toInt = (I q 1).toInt := by rw [pF_q hp pfq]
  have u_10_0 : (I_1 ln 0).toInt = (I ln 0).toInt := by rw [pfq.2]
  have u_10_8 : (I_1 ln 8).toInt = (I ln 8).toInt := by rw [k8q]
  refine lv_istore_n (lv' := [(1, .int (iI v_7)), (0, .ref a)]) F.1 F.2.1 dX1_readGroup_4 rfl hl (by decide) rfl (fun ls hl => ?_)
  refine lv_iload_n F.1 F.2.1 dX1_readGroup_5 rfl (lv_at hl 0 rfl) ?_
  refine z_if_ne (tgt := 16) F dX1_readGroup_6 (by decide) zv_7 (fun c_11 => ?_) (fun c_11 => ?_)
  · refine lv_iload_n F.1 F.2.1 dX1_readGroup_16 rfl (lv_at hl 0 rfl) ?_
    refine z_if_ne (tgt := 25) F dX1_readGroup_17 (by decide) zv_7 (fun c_12 => ?_) (fun c_12 => ?_)
    · refine lv_iload_n F.1 F.2.1 dX1_readGroup_25 rfl (lv_at hl 0 rfl) ?_
      refine z_if_ne (tgt := 34) F dX1_readGroup_26 (by decide) zv_7 (fun c_13 => ?_) (fun c_13 => ?_)
      · refine lv_aload_n F.1 F.2.1 dX1_readGroup_34 rfl (lv_at hl 1 rfl) ?_
        refine g_getR (ci := 1) (k := 2) F hH rfl (by decide) iX1 hp.1 (by decide) rfl (b := ln) hp.2.2.2.1 k29 dX1_readGroup_35 ?_
        refine lv_aload_n F.1 F.2.1 dX1_readGroup_38 rfl (lv_at hl 1 rfl) ?_
        refine g_getR (ci := 1) (k := 2) F hH rfl (by decide) iX1 hp.1 (by decide) rfl (b := ln) hp.2.2.2.1 k29 dX1_readGroup_39 ?_
        refine g_getI (ci := 0) (k := 8) F hH rfl (by decide) iX0 hp.2.2.2.2.1 (by decide) rfl k149 dX1_readGroup_42 ?_
        have b_14 := gI_line hv hp.2.2.2.2.1
        unfold vLineI at b_14
        refine z_iconst F dX1_readGroup_45 ?_
        refine z_iadd F dX1_readGroup_46 ?_
        refine g_putI (ci := 0) (k := 2) F hH hS rfl (by decide) iX0 hp.2.2.2.2.1 (by decide) tyX0 tyX0_ok nmX0 rfl rfl rfl k136 dX1_readGroup_47 (fun H locs hH hS => ?_)
        obtain ⟨I_15, eI_15⟩ : ∃ qQ, qQ = gup2 I_1 ln 2 (iI (((I_1 ln 8).toInt) + 1)) := ⟨_, rfl⟩
        rw [← eI_15] at hH
        have kI_15 : ∀ b, b ≠ ln → I_15 b = I_1 b := fun b hb => by rw [eI_15]; exact funext fun j => gup2_a _ _ hb
        have w_16 : (I_15 ln 2).toInt = ((I_1 ln 8).toInt) + 1 := by rw [eI_15, gup2_s]; exact iI_val ⟨by omega, by omega⟩
        have hp2 : pS g gh R I_15 a q ln := pS_ln hv hp kI_15
        have hv : gInv g gh R AR I_15 AI := by rw [eI_15]; exact gInv_line2 hv hp.2.2.2.2.1 (by omega) (by omega) (pS_col hp)
        have hp := hp2
        have pf : pF a ln I I_15 := pF_t pf (by rw [eI_15]; exact pF_ln (by decide))
        have w_16_k : ∀ j, j ≠ 2 → I_15 ln j = I_1 ln j := fun j hj => by rw [eI_15]; exact gup2_k _ _ hj
        have u_17q : (I_15 q 1).toInt = (I_1 q 1).toInt := by rw [kI_15 q (gO_ne hp.2.2.1 hp.2.2.2.2.1 (by decide))]
        have u_17_0 : (I_15 ln 0).toInt = (I_1 ln 0).toInt := by rw [w_16_k 0 (by decide)]
        have u_17_8 : (I_15 ln 8).toInt = (I_1 ln 8).toInt := by rw [w_16_k 8 (by decide)]
        refine lv_iload_n F.1 F.2.1 dX1_readGroup_50 rfl (lv_at hl 0 rfl) ?_
        exact g_iret F hr hlk hH hS hz zv_7 ⟨rfl, rfl, rfl, rfl, hv, hp, pf, by first | omega | rfl | (dsimp only; omega)⟩ dX1_readGroup_51
      · exact absurd trivial (by omega)
    · exact absurd trivial (by omega)
  · refine lv_aload_n F.1 F.2.1 dX1_readGroup_9 rfl (lv_at hl 1 rfl) ?_
    refine z_bipush F dX1_readGroup_10 (by decide) ?_
    refine g_calli (g_runV (As := [.int (iI 13)]) (rest := []) (ci := 1) F hl.1 hH hS hz (c_X1_takeWord l g gh q ln I_1 R J AI AJ AR a 13 ⟨by decide, by decide⟩ hv hp) (cwV 1 F.2.2.2.2.1 gX1_readGroup_X1_takeWord rfl rfl rfl hdX1_takeWord ⟨Nat.le_of_ble_eq_true rfl, Nat.le_of_ble_eq_true rfl⟩) hp.1 (by decide) rfl rfl rfl (Nat.le_of_ble_eq_true rfl) dX1_readGroup_12 ⟨Nat.zero_le _, Nat.zero_le _⟩) hS (fun v_24 I_18 R_19 J_20 AI_21 AJ_22 AR_23 H locs zv_24 hp_25 hH hS => ?_)
    dsimp only at hp_25
    obtain ⟨rfl, rfl, rfl, rfl, rfl, hv, hp, pfq, flq, q_26⟩ := hp_25
    have pf := pF_t pf pfq
    have u_27q : (I_18 q 1).toInt = (I_1 q 1).toInt := by rw [pF_q hp pfq]
    have u_27_0 : (I_18 ln 0).toInt = (I_1 ln 0).toInt := by rw [pfq.2]
    have u_27_8 : (I_18 ln 8).toInt = (I_1 ln 8).toInt := by rw [flq]
    refine lv_istore_n (lv' := [(1, .int (iI v_24)), (0, .ref a)]) F.1 F.2.1 dX1_readGroup_15 rfl hl (by decide) rfl (fun ls hl => ?_)
    refine lv_iload_n F.1 F.2.1 dX1_readGroup_16 rfl (lv_at hl 0 rfl) ?_
    refine z_if_ne (tgt := 25) F dX1_readGroup_17 (by decide) zv_24 (fun c_28 => ?_) (fun c_28 => ?_)
    · refine lv_iload_n F.1 F.2.1 dX1_readGroup_25 rfl (lv_at hl 0 rfl) ?_
      refine z_if_ne (tgt := 34) F dX1_readGroup_26 (by decide) zv_24 (fun c_29 => ?_) (fun c_29 => ?_)
      · refine lv_aload_n F.1 F.2.1 dX1_readGroup_34 rfl (lv_at hl 1 rfl) ?_
        refine g_getR (ci := 1) (k := 2) F hH rfl (by decide) iX1 hp.1 (by decide) rfl (b := ln) hp.2.2.2.1 k29 dX1_readGroup_35 ?_
        refine lv_aload_n F.1 F.2.1 dX1_readGroup_38 rfl (lv_at hl 1 rfl) ?_
        refine g_getR (ci := 1) (k := 2) F hH rfl (by decide) iX1 hp.1 (by decide) rfl (b := ln) hp.2.2.2.1 k29 dX1_readGroup_39 ?_
        refine g_getI (ci := 0) (k := 8) F hH rfl (by decide) iX0 hp.2.2.2.2.1 (by decide) rfl k149 dX1_readGroup_42 ?_
        have b_30 := gI_line hv hp.2.2.2.2.1
        unfold vLineI at b_30
        refine z_iconst F dX1_readGroup_45 ?_
        refine z_iadd F dX1_readGroup_46 ?_
        refine g_putI (ci := 0) (k := 2) F hH hS rfl (by decide) iX0 hp.2.2.2.2.1 (by decide) tyX0 tyX0_ok nmX0 rfl rfl rfl k136 dX1_readGroup_47 (fun H locs hH hS => ?_)
        obtain ⟨I_31, eI_31⟩ : ∃ qQ, qQ = gup2 I_18 ln 2 (iI (((I_18 ln 8).toInt) + 1)) := ⟨_, rfl⟩
        rw [← eI_31] at hH
        have kI_31 : ∀ b, b ≠ ln → I_31 b = I_18 b := fun b hb => by rw [eI_31]; exact funext fun j => gup2_a _ _ hb
        have w_32 : (I_31 ln 2).toInt = ((I_18 ln 8).toInt) + 1 := by rw [eI_31, gup2_s]; exact iI_val ⟨by omega, by omega⟩
        have hp2 : pS g gh R I_31 a q ln := pS_ln hv hp kI_31
        have hv : gInv g gh R AR I_31 AI := by rw [eI_31]; exact gInv_line2 hv hp.2.2.2.2.1 (by omega) (by omega) (pS_col hp)
        have hp := hp2
        have pf : pF a ln I I_31 := pF_t pf (by rw [eI_31]; exact pF_ln (by decide))
        have w_32_k : ∀ j, j ≠ 2 → I_31 ln j = I_18 ln j := fun j hj => by rw [eI_31]; exact gup2_k _ _ hj
        have u_33q : (I_31 q 1).toInt = (I_18 q 1).toInt := by rw [kI_31 q (gO_ne hp.2.2.1 hp.2.2.2.2.1 (by decide))]
        have u_33_0 : (I_31 ln 0).toInt = (I_18 ln 0).toInt := by rw [w_32_k 0 (by decide)]
        have u_33_8 : (I_31 ln 8).toInt = (I_18 ln 8).toInt := by rw [w_32_k 8 (by decide)]
        refine lv_iload_n F.1 F.2.1 dX1_readGroup_50 rfl (lv_at hl 0 rfl) ?_
        exact g_iret F hr hlk hH hS hz zv_24 ⟨rfl, rfl, rfl, rfl, hv, hp, pf, by first | omega | rfl | (dsimp only; omega)⟩ dX1_readGroup_51
      · exact absurd trivial (by omega)
    · refine lv_aload_n F.1 F.2.1 dX1_readGroup_20 rfl (lv_at hl 1 rfl) ?_
      refine g_calli (g_runV (As := []) (rest := []) (ci := 1) F hl.1 hH hS hz (c_X1_readByColumns l g gh q ln I_18 R J AI AJ AR a hv hp (by omega)) (cwV 0 F.2.2.2.2.1 gX1_readGroup_X1_readByColumns rfl rfl rfl hdX1_readByColumns ⟨Nat.le_of_ble_eq_true rfl, Nat.le_of_ble_eq_true rfl⟩) hp.1 (by decide) rfl rfl rfl (Nat.le_of_ble_eq_true rfl) dX1_readGroup_21 ⟨Nat.zero_le _, Nat.zero_le _⟩) hS (fun v_40 I_34 R_35 J_36 AI_37 AJ_38 AR_39 H locs zv_40 hp_41 hH hS => ?_)
      dsimp only at hp_41
      obtain ⟨rfl, rfl, rfl, rfl, hv, hp, pfq, q_42⟩ := hp_41
      have pf := pF_t pf pfq
      have u_43q : (I_34 q 1).toInt = (I_18 q 1).toInt := by rw [pF_q hp pfq]
      have u_43_0 : (I_34 ln 0).toInt = (I_18 ln 0).toInt := by rw [pfq.2]
      refine lv_istore_n (lv' := [(1, .int (iI v_40)), (0, .ref a)]) F.1 F.2.1 dX1_readGroup_24 rfl hl (by decide) rfl (fun ls hl => ?_)
      refine lv_iload_n F.1 F.2.1 dX1_readGroup_25 rfl (lv_at hl 0 rfl) ?_
      refine z_if_ne (tgt := 34) F dX1_readGroup_26 (by decide) zv_40 (fun c_44 => ?_) (fun c_44 => ?_)
      · refine lv_aload_n F.1 F.2.1 dX1_readGroup_34 rfl (lv_at hl 1 rfl) ?_
        refine g_getR (ci := 1) (k := 2) F hH rfl (by decide) iX1 hp.1 (by decide) rfl (b := ln) hp.2.2.2.1 k29 dX1_readGroup_35 ?_
        refine lv_aload_n F.1 F.2.1 dX1_readGroup_38 rfl (lv_at hl 1 rfl) ?_
        refine g_getR (ci := 1) (k := 2) F hH rfl (by decide) iX1 hp.1 (by decide) rfl (b := ln) hp.2.2.2.1 k29 dX1_readGroup_39 ?_
        refine g_getI (ci := 0) (k := 8) F hH rfl (by decide) iX0 hp.2.2.2.2.1 (by decide) rfl k149 dX1_readGroup_42 ?_
        have b_45 := gI_line hv hp.2.2.2.2.1
        unfold vLineI at b_45
        refine z_iconst F dX1_readGroup_45 ?_
        refine z_iadd F dX1_readGroup_46 ?_
        refine g_putI (ci := 0) (k := 2) F hH hS rfl (by decide) iX0 hp.2.2.2.2.1 (by decide) tyX0 tyX0_ok nmX0 rfl rfl rfl k136 dX1_readGroup_47 (fun H locs hH hS => ?_)
        obtain ⟨I_46, eI_46⟩ : ∃ qQ, qQ = gup2 I_34 ln 2 (iI (((I_34 ln 8).toInt) + 1)) := ⟨_, rfl⟩
        rw [← eI_46] at hH
        have kI_46 : ∀ b, b ≠ ln → I_46 b = I_34 b := fun b hb => by rw [eI_46]; exact funext fun j => gup2_a _ _ hb
        have w_47 : (I_46 ln 2).toInt = ((I_34 ln 8).toInt) + 1 := by rw [eI_46, gup2_s]; exact iI_val ⟨by omega, by omega⟩
        have hp2 : pS g gh R I_46 a q ln := pS_ln hv hp kI_46
        have hv : gInv g gh R AR I_46 AI_37 := by rw [eI_46]; exact gInv_line2 hv hp.2.2.2.2.1 (by omega) (by omega) (pS_col hp)
        have hp := hp2
        have pf : pF a ln I I_46 := pF_t pf (by rw [eI_46]; exact pF_ln (by decide))
        have w_47_k : ∀ j, j ≠ 2 → I_46 ln j = I_34 ln j := fun j hj => by rw [eI_46]; exact gup2_k _ _ hj
        have u_48q : (I_46 q 1).toInt = (I_34 q 1).toInt := by rw [kI_46 q (gO_ne hp.2.2.1 hp.2.2.2.2.1 (by decide))]
        have u_48_0 : (I_46 ln 0).toInt = (I_34 ln 0).toInt := by rw [w_47_k 0 (by decide)]
        have u_48_8 : (I_46 ln 8).toInt = (I_34 ln 8).toInt := by rw [w_47_k 8 (by decide)]
        refine lv_iload_n F.1 F.2.1 dX1_readGroup_50 rfl (lv_at hl 0 rfl) ?_
        exact g_iret F hr hlk hH hS hz zv_40 ⟨rfl, rfl, rfl, rfl, hv, hp, pf, by first | omega | rfl | (dsimp only; omega)⟩ dX1_readGroup_51
      · refine lv_aload_n F.1 F.2.1 dX1_readGroup_29 rfl (lv_at hl 1 rfl) ?_
        refine g_calli (g_runV (As := []) (rest := []) (ci := 1) F hl.1 hH hS hz (c_X1_readFold l g gh q ln I_34 R J AI_37 AJ AR a hv hp (by omega)) (cwV 0 F.2.2.2.2.1 gX1_readGroup_X1_readFold rfl rfl rfl hdX1_readFold ⟨Nat.le_of_ble_eq_true rfl, Nat.le_of_ble_eq_true rfl⟩) hp.1 (by decide) rfl rfl rfl (Nat.le_of_ble_eq_true rfl) dX1_readGroup_30 ⟨Nat.zero_le _, Nat.zero_le _⟩) hS (fun v_55 I_49 R_50 J_51 AI_52 AJ_53 AR_54 H locs zv_55 hp_56 hH hS => ?_)
        dsimp only at hp_56
        obtain ⟨rfl, rfl, rfl, rfl, rfl, hv, hp, pfq, q_57⟩ := hp_56
        have pf := pF_t pf pfq
        have u_58q : (I_49 q 1).toInt = (I_34 q 1).toInt := by rw [pF_q hp pfq]
        have u_58_0 : (I_49 ln 0).toInt = (I_34 ln 0).toInt := by rw [pfq.2]
        refine lv_istore_n (lv' := [(1, .int (iI v_55)), (0, .ref a)]) F.1 F.2.1 dX1_readGroup_33 rfl hl (by decide) rfl (fun ls hl => ?_)
        refine lv_aload_n F.1 F.2.1 dX1_readGroup_34 rfl (lv_at hl 1 rfl) ?_
        refine g_getR (ci := 1) (k := 2) F hH rfl (by decide) iX1 hp.1 (by decide) rfl (b := ln) hp.2.2.2.1 k29 dX1_readGroup_35 ?_
        refine lv_aload_n F.1 F.2.1 dX1_readGroup_38 rfl (lv_at hl 1 rfl) ?_
        refine g_getR (ci := 1) (k := 2) F hH rfl (by decide) iX1 hp.1 (by decide) rfl (b := ln) hp.2.2.2.1 k29 dX1_readGroup_39 ?_
        refine g_getI (ci := 0) (k := 8) F hH rfl (by decide) iX0 hp.2.2.2.2.1 (by decide) rfl k149 dX1_readGroup_42 ?_
        have b_59 := gI_line hv hp.2.2.2.2.1
        unfold vLineI at b_59
        refine z_iconst F dX1_readGroup_45 ?_
        refine z_iadd F dX1_readGroup_46 ?_
        refine g_putI (ci := 0) (k := 2) F hH hS rfl (by decide) iX0 hp.2.2.2.2.1 (by decide) tyX0 tyX0_ok nmX0 rfl rfl rfl k136 dX1_readGroup_47 (fun H locs hH hS => ?_)
        obtain ⟨I_60, eI_60⟩ : ∃ qQ, qQ = gup2 I_49 ln 2 (iI (((I_49 ln 8).toInt) + 1)) := ⟨_, rfl⟩
        rw [← eI_60] at hH
        have kI_60 : ∀ b, b ≠ ln → I_60 b = I_49 b := fun b hb => by rw [eI_60]; exact funext fun j => gup2_a _ _ hb
        have w_61 : (I_60 ln 2).toInt = ((I_49 ln 8).toInt) + 1 := by rw [eI_60, gup2_s]; exact iI_val ⟨by omega, by omega⟩
        have hp2 : pS g gh R I_60 a q ln := pS_ln hv hp kI_60
        have hv : gInv g gh R AR I_60 AI_37 := by rw [eI_60]; exact gInv_line2 hv hp.2.2.2.2.1 (by omega) (by omega) (pS_col hp)
        have hp := hp2
        have pf : pF a ln I I_60 := pF_t pf (by rw [eI_60]; exact pF_ln (by decide))
        have w_61_k : ∀ j, j ≠ 2 → I_60 ln j = I_49 ln j := fun j hj => by rw [eI_60]; exact gup2_k _ _ hj
        have u_62q : (I_60 q 1).toInt = (I_49 q 1).toInt := by rw [kI_60 q (gO_ne hp.2.2.1 hp.2.2.2.2.1 (by decide))]
        have u_62_0 : (I_60 ln 0).toInt = (I_49 ln 0).toInt := by rw [w_61_k 0 (by decide)]
        have u_62_8 : (I_60 ln 8).toInt = (I_49 ln 8).toInt := by rw [w_61_k 8 (by decide)]
        refine lv_iload_n F.1 F.2.1 dX1_readGroup_50 rfl (lv_at hl 0 rfl) ?_
        exact g_iret F hr hlk hH hS hz zv_55 ⟨rfl, rfl, rfl, rfl, hv, hp, pf, by first | omega | rfl | (dsimp only; omega)⟩ dX1_readGroup_51

def rmX1_readRing : Room := { frames := 4, cells := 0, slots := 0, locals := 90 }
theorem hdX1_readRing : yX1_readRing.cls = RX1 ∧ yX1_readRing.cls ≠ "java/lang/invoke/MethodHandle" ∧ yX1_readRing.cls ≠ "java/lang/invoke/VarHandle" ∧ (parseMethodDescriptor yX1_readRing.desc).map (fun d => d.parameters.length) = some 0 := by decide +kernel
set_option maxHeartbeats 4000000 in
set_option maxRecDepth 100000 in
/-- a ring -/
theorem c_X1_readRing (l : Launch) (g : gG) (gh : gGh) (q ln : Nat) (I : gI) (R : gR) (J : gJ) (AI : gI) (AJ : gJ) (AR : gR) (a : Nat) (hv : gInv g gh R AR I AI) (hp : pS g gh R I a q ln) (hk : (I ln 0).toInt = 8) : gMet l g yX1_readRing wsX1_readRing rmX1_readRing [.ref a] (I, R, J, AI, AJ, AR) (gQi g (fun (z : Int) (w : gS) => R = w.2.1 ∧ J = w.2.2.1 ∧ AJ = w.2.2.2.2.1 ∧ AR = w.2.2.2.2.2 ∧ (gInv g gh R AR (w.1) (w.2.2.2.1)) ∧ (pS g gh R (w.1) a q ln) ∧ (pF a ln I (w.1)) ∧ (0 ≤ z ∧ z ≤ 4))) := by
  refine gStart (cc := cX1_readRing) (maxL := 2) (ret := (some (.int))) (by decide) rfl (Nat.le_of_ble_eq_true rfl) ?_
  intro p e s m below meth c ls F hr hlk hH hz hS hl
  have hl : lv_has ls 2 [(0, .ref a)] := hl
  have hS : va_S (gA g) s.heap s.heap [] := hS
  obtain ⟨H, hHe⟩ : ∃ H : Heap, H = s.heap := ⟨_, rfl⟩
  obtain ⟨locs, hlo⟩ : ∃ k : List Loc, k = [] := ⟨_, rfl⟩
  have hH : gH g I R J AI AJ AR H := by rw [hHe]; exact hH
  have hS : va_S (gA g) s.heap H locs := by rw [hHe, hlo]; exact hS
  suffices hw : W p l e rmX1_readRing s m ([.ref a] : List Value).toArray below meth c H locs 0 0 (MQ below (gQi g (fun (z : Int) (w : gS) => R = w.2.1 ∧ J = w.2.2.1 ∧ AJ = w.2.2.2.2.1 ∧ AR = w.2.2.2.2.2 ∧ (gInv g gh R AR (w.1) (w.2.2.2.1)) ∧ (pS g gh R (w.1) a q ln) ∧ (pF a ln I (w.1)) ∧ (0 ≤ z ∧ z ≤ 4))) ([.ref a] : List Value).toArray s 0 0 (gA g)) (F0 m 0 ls []) by
    rw [hHe, hlo] at hw; exact hw
  clear hHe hlo
  have pf : pF a ln I I := pF_r
  have iX1 : ∀ w ∈ u_ws RX1 TX1 4, w ∈ wsX1_readRing := (by decide +kernel)
  have iX0 : ∀ w ∈ u_ws RX0 TX0 15, w ∈ wsX1_readRing := (by decide +kernel)
  have k29 : Cond.fieldLink RX1 29 (TX1 2).1 (TX1 2).2.1 (TX1 2).2.2.1 ∈ wsX1_readRing := List.mem_of_getElem? (i := 1) rfl
  have k143 : Cond.fieldLink RX1 143 (TX0 5).1 (TX0 5).2.1 (TX0 5).2.2.1 ∈ wsX1_readRing := List.mem_of_getElem? (i := 2) rfl
  have k146 : Cond.fieldLink RX1 146 (TX0 6).1 (TX0 6).2.1 (TX0 6).2.2.1 ∈ wsX1_readRing := List.mem_of_getElem? (i := 3) rfl
  have k136 : Cond.fieldLink RX1 136 (TX0 2).1 (TX0 2).2.1 (TX0 2).2.2.1 ∈ wsX1_readRing := List.mem_of_getElem? (i := 4) rfl
  refine lv_aload_n F.1 F.2.1 dX1_readRing_0 rfl (lv_at hl 0 rfl) ?_
  refine g_calli (g_runV (As := []) (rest := []) (ci := 1) F hl.1 hH hS hz (c_X1_readFirst l g gh q ln I R J AI AJ AR a hv hp (by omega)) (cwV 0 F.2.2.2.2.1 gX1_readRing_X1_readFirst rfl rfl rfl hdX1_readFirst ⟨Nat.le_of_ble_eq_true rfl, Nat.le_of_ble_eq_true rfl⟩) hp.1 (by decide) rfl rfl rfl (Nat.le_of_ble_eq_true rfl) dX1_readRing_1 ⟨Nat.zero_le _, Nat.zero_le _⟩) hS (fun v_7 I_1 R_2 J_3 AI_4 AJ_5 AR_6 H locs zv_7 hp_8 hH hS => ?_)
  dsimp only at hp_8
  obtain ⟨rfl, rfl, rfl, rfl, rfl, hv, hp, pfq, k8q, q_9⟩ := hp_8
  have pf := pF_t pf pfq
  have u_10q : (I_1 q 1).toInt = (I q 1).toInt := by rw [pF_q hp pfq]
  have u_10_0 : (I_1 ln 0).toInt = (I ln 0).toInt := by rw [pfq.2]
  have u_10_8 : (I_1 ln 8).toInt = (I ln 8).toInt := by rw [k8q]
  refine lv_istore_n (lv' := [(1, .int (iI v_7)), (0, .ref a)]) F.1 F.2.1 dX1_readRing_4 rfl hl (by decide) rfl (fun ls hl => ?_)
  refine lv_iload_n F.1 F.2.1 dX1_readRing_5 rfl (lv_at hl 0 rfl) ?_
  refine z_if_ne (tgt := 16) F dX1_readRing_6 (by decide) zv_7 (fun c_11 => ?_) (fun c_11 => ?_)
  · refine lv_iload_n F.1 F.2.1 dX1_readRing_16 rfl (lv_at hl 0 rfl) ?_
    refine z_if_ne (tgt := 25) F dX1_readRing_17 (by decide) zv_7 (fun c_12 => ?_) (fun c_12 => ?_)
    · refine lv_iload_n F.1 F.2.1 dX1_readRing_25 rfl (lv_at hl 0 rfl) ?_
      refine z_if_ne (tgt := 36) F dX1_readRing_26 (by decide) zv_7 (fun c_13 => ?_) (fun c_13 => ?_)
      · refine lv_iload_n F.1 F.2.1 dX1_readRing_36 rfl (lv_at hl 0 rfl) ?_
        refine z_if_ne (tgt := 46) F dX1_readRing_37 (by decide) zv_7 (fun c_14 => ?_) (fun c_14 => ?_)
        · refine lv_iload_n F.1 F.2.1 dX1_readRing_46 rfl (lv_at hl 0 rfl) ?_
          refine z_if_ne (tgt := 57) F dX1_readRing_47 (by decide) zv_7 (fun c_15 => ?_) (fun c_15 => ?_)
          · refine lv_iload_n F.1 F.2.1 dX1_readRing_57 rfl (lv_at hl 0 rfl) ?_
            refine z_if_ne (tgt := 81) F dX1_readRing_58 (by decide) zv_7 (fun c_16 => ?_) (fun c_16 => ?_)
            · refine lv_aload_n F.1 F.2.1 dX1_readRing_81 rfl (lv_at hl 1 rfl) ?_
              refine g_getR (ci := 1) (k := 2) F hH rfl (by decide) iX1 hp.1 (by decide) rfl (b := ln) hp.2.2.2.1 k29 dX1_readRing_82 ?_
              refine lv_aload_n F.1 F.2.1 dX1_readRing_85 rfl (lv_at hl 1 rfl) ?_
              refine g_getR (ci := 1) (k := 2) F hH rfl (by decide) iX1 hp.1 (by decide) rfl (b := ln) hp.2.2.2.1 k29 dX1_readRing_86 ?_
              refine g_getI (ci := 0) (k := 5) F hH rfl (by decide) iX0 hp.2.2.2.2.1 (by decide) rfl k143 dX1_readRing_89 ?_
              have b_17 := gI_line hv hp.2.2.2.2.1
              unfold vLineI at b_17
              refine g_putI (ci := 0) (k := 2) F hH hS rfl (by decide) iX0 hp.2.2.2.2.1 (by decide) tyX0 tyX0_ok nmX0 rfl rfl rfl k136 dX1_readRing_92 (fun H locs hH hS => ?_)
              obtain ⟨I_18, eI_18⟩ : ∃ qQ, qQ = gup2 I_1 ln 2 (iI ((I_1 ln 5).toInt)) := ⟨_, rfl⟩
              rw [← eI_18] at hH
              have kI_18 : ∀ b, b ≠ ln → I_18 b = I_1 b := fun b hb => by rw [eI_18]; exact funext fun j => gup2_a _ _ hb
              have w_19 : (I_18 ln 2).toInt = (I_1 ln 5).toInt := by rw [eI_18, gup2_s]; exact iI_val ⟨by omega, by omega⟩
              have hp2 : pS g gh R I_18 a q ln := pS_ln hv hp kI_18
              have hv : gInv g gh R AR I_18 AI := by rw [eI_18]; exact gInv_line2 hv hp.2.2.2.2.1 (by omega) (by omega) (pS_col hp)
              have hp := hp2
              have pf : pF a ln I I_18 := pF_t pf (by rw [eI_18]; exact pF_ln (by decide))
              have w_19_k : ∀ j, j ≠ 2 → I_18 ln j = I_1 ln j := fun j hj => by rw [eI_18]; exact gup2_k _ _ hj
              have u_20q : (I_18 q 1).toInt = (I_1 q 1).toInt := by rw [kI_18 q (gO_ne hp.2.2.1 hp.2.2.2.2.1 (by decide))]
              have u_20_0 : (I_18 ln 0).toInt = (I_1 ln 0).toInt := by rw [w_19_k 0 (by decide)]
              have u_20_8 : (I_18 ln 8).toInt = (I_1 ln 8).toInt := by rw [w_19_k 8 (by decide)]
              refine lv_iload_n F.1 F.2.1 dX1_readRing_95 rfl (lv_at hl 0 rfl) ?_
              exact g_iret F hr hlk hH hS hz zv_7 ⟨rfl, rfl, rfl, rfl, hv, hp, pf, by first | omega | rfl | (dsimp only; omega)⟩ dX1_readRing_96
            · exact absurd trivial (by omega)
          · exact absurd trivial (by omega)
        · exact absurd trivial (by omega)
      · exact absurd trivial (by omega)
    · exact absurd trivial (by omega)
  · refine lv_aload_n F.1 F.2.1 dX1_readRing_9 rfl (lv_at hl 1 rfl) ?_
    refine z_bipush F dX1_readRing_10 (by decide) ?_
    refine g_calli (g_runV (As := [.int (iI 14)]) (rest := []) (ci := 1) F hl.1 hH hS hz (c_X1_takeWord l g gh q ln I_1 R J AI AJ AR a 14 ⟨by decide, by decide⟩ hv hp) (cwV 1 F.2.2.2.2.1 gX1_readRing_X1_takeWord rfl rfl rfl hdX1_takeWord ⟨Nat.le_of_ble_eq_true rfl, Nat.le_of_ble_eq_true rfl⟩) hp.1 (by decide) rfl rfl rfl (Nat.le_of_ble_eq_true rfl) dX1_readRing_12 ⟨Nat.zero_le _, Nat.zero_le _⟩) hS (fun v_27 I_21 R_22 J_23 AI_24 AJ_25 AR_26 H locs zv_27 hp_28 hH hS => ?_)
    dsimp only at hp_28
    obtain ⟨rfl, rfl, rfl, rfl, rfl, hv, hp, pfq, flq, q_29⟩ := hp_28
    have pf := pF_t pf pfq
    have u_30q : (I_21 q 1).toInt = (I_1 q 1).toInt := by rw [pF_q hp pfq]
    have u_30_0 : (I_21 ln 0).toInt = (I_1 ln 0).toInt := by rw [pfq.2]
    have u_30_8 : (I_21 ln 8).toInt = (I_1 ln 8).toInt := by rw [flq]
    refine lv_istore_n (lv' := [(1, .int (iI v_27)), (0, .ref a)]) F.1 F.2.1 dX1_readRing_15 rfl hl (by decide) rfl (fun ls hl => ?_)
    refine lv_iload_n F.1 F.2.1 dX1_readRing_16 rfl (lv_at hl 0 rfl) ?_
    refine z_if_ne (tgt := 25) F dX1_readRing_17 (by decide) zv_27 (fun c_31 => ?_) (fun c_31 => ?_)
    · refine lv_iload_n F.1 F.2.1 dX1_readRing_25 rfl (lv_at hl 0 rfl) ?_
      refine z_if_ne (tgt := 36) F dX1_readRing_26 (by decide) zv_27 (fun c_32 => ?_) (fun c_32 => ?_)
      · refine lv_iload_n F.1 F.2.1 dX1_readRing_36 rfl (lv_at hl 0 rfl) ?_
        refine z_if_ne (tgt := 46) F dX1_readRing_37 (by decide) zv_27 (fun c_33 => ?_) (fun c_33 => ?_)
        · refine lv_iload_n F.1 F.2.1 dX1_readRing_46 rfl (lv_at hl 0 rfl) ?_
          refine z_if_ne (tgt := 57) F dX1_readRing_47 (by decide) zv_27 (fun c_34 => ?_) (fun c_34 => ?_)
          · refine lv_iload_n F.1 F.2.1 dX1_readRing_57 rfl (lv_at hl 0 rfl) ?_
            refine z_if_ne (tgt := 81) F dX1_readRing_58 (by decide) zv_27 (fun c_35 => ?_) (fun c_35 => ?_)
            · refine lv_aload_n F.1 F.2.1 dX1_readRing_81 rfl (lv_at hl 1 rfl) ?_
              refine g_getR (ci := 1) (k := 2) F hH rfl (by decide) iX1 hp.1 (by decide) rfl (b := ln) hp.2.2.2.1 k29 dX1_readRing_82 ?_
              refine lv_aload_n F.1 F.2.1 dX1_readRing_85 rfl (lv_at hl 1 rfl) ?_
              refine g_getR (ci := 1) (k := 2) F hH rfl (by decide) iX1 hp.1 (by decide) rfl (b := ln) hp.2.2.2.1 k29 dX1_readRing_86 ?_
              refine g_getI (ci := 0) (k := 5) F hH rfl (by decide) iX0 hp.2.2.2.2.1 (by decide) rfl k143 dX1_readRing_89 ?_
              have b_36 := gI_line hv hp.2.2.2.2.1
              unfold vLineI at b_36
              refine g_putI (ci := 0) (k := 2) F hH hS rfl (by decide) iX0 hp.2.2.2.2.1 (by decide) tyX0 tyX0_ok nmX0 rfl rfl rfl k136 dX1_readRing_92 (fun H locs hH hS => ?_)
              obtain ⟨I_37, eI_37⟩ : ∃ qQ, qQ = gup2 I_21 ln 2 (iI ((I_21 ln 5).toInt)) := ⟨_, rfl⟩
              rw [← eI_37] at hH
              have kI_37 : ∀ b, b ≠ ln → I_37 b = I_21 b := fun b hb => by rw [eI_37]; exact funext fun j => gup2_a _ _ hb
              have w_38 : (I_37 ln 2).toInt = (I_21 ln 5).toInt := by rw [eI_37, gup2_s]; exact iI_val ⟨by omega, by omega⟩
              have hp2 : pS g gh R I_37 a q ln := pS_ln hv hp kI_37
              have hv : gInv g gh R AR I_37 AI := by rw [eI_37]; exact gInv_line2 hv hp.2.2.2.2.1 (by omega) (by omega) (pS_col hp)
              have hp := hp2
              have pf : pF a ln I I_37 := pF_t pf (by rw [eI_37]; exact pF_ln (by decide))
              have w_38_k : ∀ j, j ≠ 2 → I_37 ln j = I_21 ln j := fun j hj => by rw [eI_37]; exact gup2_k _ _ hj
              have u_39q : (I_37 q 1).toInt = (I_21 q 1).toInt := by rw [kI_37 q (gO_ne hp.2.2.1 hp.2.2.2.2.1 (by decide))]
              have u_39_0 : (I_37 ln 0).toInt = (I_21 ln 0).toInt := by rw [w_38_k 0 (by decide)]
              have u_39_8 : (I_37 ln 8).toInt = (I_21 ln 8).toInt := by rw [w_38_k 8 (by decide)]
              refine lv_iload_n F.1 F.2.1 dX1_readRing_95 rfl (lv_at hl 0 rfl) ?_
              exact g_iret F hr hlk hH hS hz zv_27 ⟨rfl, rfl, rfl, rfl, hv, hp, pf, by first | omega | rfl | (dsimp only; omega)⟩ dX1_readRing_96
            · exact absurd trivial (by omega)
          · exact absurd trivial (by omega)
        · exact absurd trivial (by omega)
      · exact absurd trivial (by omega)
    · refine lv_aload_n F.1 F.2.1 dX1_readRing_20 rfl (lv_at hl 1 rfl) ?_
      refine g_calli (g_runV (As := []) (rest := []) (ci := 1) F hl.1 hH hS hz (c_X1_readSecond l g gh q ln I_21 R J AI AJ AR a hv hp (by omega)) (cwV 0 F.2.2.2.2.1 gX1_readRing_X1_readSecond rfl rfl rfl hdX1_readSecond ⟨Nat.le_of_ble_eq_true rfl, Nat.le_of_ble_eq_true rfl⟩) hp.1 (by decide) rfl rfl rfl (Nat.le_of_ble_eq_true rfl) dX1_readRing_21 ⟨Nat.zero_le _, Nat.zero_le _⟩) hS (fun v_46 I_40 R_41 J_42 AI_43 AJ_44 AR_45 H locs zv_46 hp_47 hH hS => ?_)
      dsimp only at hp_47
      obtain ⟨rfl, rfl, rfl, rfl, rfl, hv, hp, pfq, k8q, q_48⟩ := hp_47
      have pf := pF_t pf pfq
      have u_49q : (I_40 q 1).toInt = (I_21 q 1).toInt := by rw [pF_q hp pfq]
      have u_49_0 : (I_40 ln 0).toInt = (I_21 ln 0).toInt := by rw [pfq.2]
      have u_49_8 : (I_40 ln 8).toInt = (I_21 ln 8).toInt := by rw [k8q]
      refine lv_istore_n (lv' := [(1, .int (iI v_46)), (0, .ref a)]) F.1 F.2.1 dX1_readRing_24 rfl hl (by decide) rfl (fun ls hl => ?_)
      refine lv_iload_n F.1 F.2.1 dX1_readRing_25 rfl (lv_at hl 0 rfl) ?_
      refine z_if_ne (tgt := 36) F dX1_readRing_26 (by decide) zv_46 (fun c_50 => ?_) (fun c_50 => ?_)
      · refine lv_iload_n F.1 F.2.1 dX1_readRing_36 rfl (lv_at hl 0 rfl) ?_
        refine z_if_ne (tgt := 46) F dX1_readRing_37 (by decide) zv_46 (fun c_51 => ?_) (fun c_51 => ?_)
        · refine lv_iload_n F.1 F.2.1 dX1_readRing_46 rfl (lv_at hl 0 rfl) ?_
          refine z_if_ne (tgt := 57) F dX1_readRing_47 (by decide) zv_46 (fun c_52 => ?_) (fun c_52 => ?_)
          · refine lv_iload_n F.1 F.2.1 dX1_readRing_57 rfl (lv_at hl 0 rfl) ?_
            refine z_if_ne (tgt := 81) F dX1_readRing_58 (by decide) zv_46 (fun c_53 => ?_) (fun c_53 => ?_)
            · refine lv_aload_n F.1 F.2.1 dX1_readRing_81 rfl (lv_at hl 1 rfl) ?_
              refine g_getR (ci := 1) (k := 2) F hH rfl (by decide) iX1 hp.1 (by decide) rfl (b := ln) hp.2.2.2.1 k29 dX1_readRing_82 ?_
              refine lv_aload_n F.1 F.2.1 dX1_readRing_85 rfl (lv_at hl 1 rfl) ?_
              refine g_getR (ci := 1) (k := 2) F hH rfl (by decide) iX1 hp.1 (by decide) rfl (b := ln) hp.2.2.2.1 k29 dX1_readRing_86 ?_
              refine g_getI (ci := 0) (k := 5) F hH rfl (by decide) iX0 hp.2.2.2.2.1 (by decide) rfl k143 dX1_readRing_89 ?_
              have b_54 := gI_line hv hp.2.2.2.2.1
              unfold vLineI at b_54
              refine g_putI (ci := 0) (k := 2) F hH hS rfl (by decide) iX0 hp.2.2.2.2.1 (by decide) tyX0 tyX0_ok nmX0 rfl rfl rfl k136 dX1_readRing_92 (fun H locs hH hS => ?_)
              obtain ⟨I_55, eI_55⟩ : ∃ qQ, qQ = gup2 I_40 ln 2 (iI ((I_40 ln 5).toInt)) := ⟨_, rfl⟩
              rw [← eI_55] at hH
              have kI_55 : ∀ b, b ≠ ln → I_55 b = I_40 b := fun b hb => by rw [eI_55]; exact funext fun j => gup2_a _ _ hb
              have w_56 : (I_55 ln 2).toInt = (I_40 ln 5).toInt := by rw [eI_55, gup2_s]; exact iI_val ⟨by omega, by omega⟩
              have hp2 : pS g gh R I_55 a q ln := pS_ln hv hp kI_55
              have hv : gInv g gh R AR I_55 AI := by rw [eI_55]; exact gInv_line2 hv hp.2.2.2.2.1 (by omega) (by omega) (pS_col hp)
              have hp := hp2
              have pf : pF a ln I I_55 := pF_t pf (by rw [eI_55]; exact pF_ln (by decide))
              have w_56_k : ∀ j, j ≠ 2 → I_55 ln j = I_40 ln j := fun j hj => by rw [eI_55]; exact gup2_k _ _ hj
              have u_57q : (I_55 q 1).toInt = (I_40 q 1).toInt := by rw [kI_55 q (gO_ne hp.2.2.1 hp.2.2.2.2.1 (by decide))]
              have u_57_0 : (I_55 ln 0).toInt = (I_40 ln 0).toInt := by rw [w_56_k 0 (by decide)]
              have u_57_8 : (I_55 ln 8).toInt = (I_40 ln 8).toInt := by rw [w_56_k 8 (by decide)]
              refine lv_iload_n F.1 F.2.1 dX1_readRing_95 rfl (lv_at hl 0 rfl) ?_
              exact g_iret F hr hlk hH hS hz zv_46 ⟨rfl, rfl, rfl, rfl, hv, hp, pf, by first | omega | rfl | (dsimp only; omega)⟩ dX1_readRing_96
            · exact absurd trivial (by omega)
          · exact absurd trivial (by omega)
        · exact absurd trivial (by omega)
      · refine lv_aload_n F.1 F.2.1 dX1_readRing_29 rfl (lv_at hl 1 rfl) ?_
        refine z_bipush F dX1_readRing_30 (by decide) ?_
        refine g_calli (g_runV (As := [.int (iI 12)]) (rest := []) (ci := 1) F hl.1 hH hS hz (c_X1_takeWord l g gh q ln I_40 R J AI AJ AR a 12 ⟨by decide, by decide⟩ hv hp) (cwV 1 F.2.2.2.2.1 gX1_readRing_X1_takeWord rfl rfl rfl hdX1_takeWord ⟨Nat.le_of_ble_eq_true rfl, Nat.le_of_ble_eq_true rfl⟩) hp.1 (by decide) rfl rfl rfl (Nat.le_of_ble_eq_true rfl) dX1_readRing_32 ⟨Nat.zero_le _, Nat.zero_le _⟩) hS (fun v_64 I_58 R_59 J_60 AI_61 AJ_62 AR_63 H locs zv_64 hp_65 hH hS => ?_)
        dsimp only at hp_65
        obtain ⟨rfl, rfl, rfl, rfl, rfl, hv, hp, pfq, flq, q_66⟩ := hp_65
        have pf := pF_t pf pfq
        have u_67q : (I_58 q 1).toInt = (I_40 q 1).toInt := by rw [pF_q hp pfq]
        have u_67_0 : (I_58 ln 0).toInt = (I_40 ln 0).toInt := by rw [pfq.2]
        have u_67_8 : (I_58 ln 8).toInt = (I_40 ln 8).toInt := by rw [flq]
        refine lv_istore_n (lv' := [(1, .int (iI v_64)), (0, .ref a)]) F.1 F.2.1 dX1_readRing_35 rfl hl (by decide) rfl (fun ls hl => ?_)
        refine lv_iload_n F.1 F.2.1 dX1_readRing_36 rfl (lv_at hl 0 rfl) ?_
        refine z_if_ne (tgt := 46) F dX1_readRing_37 (by decide) zv_64 (fun c_68 => ?_) (fun c_68 => ?_)
        · refine lv_iload_n F.1 F.2.1 dX1_readRing_46 rfl (lv_at hl 0 rfl) ?_
          refine z_if_ne (tgt := 57) F dX1_readRing_47 (by decide) zv_64 (fun c_69 => ?_) (fun c_69 => ?_)
          · refine lv_iload_n F.1 F.2.1 dX1_readRing_57 rfl (lv_at hl 0 rfl) ?_
            refine z_if_ne (tgt := 81) F dX1_readRing_58 (by decide) zv_64 (fun c_70 => ?_) (fun c_70 => ?_)
            · refine lv_aload_n F.1 F.2.1 dX1_readRing_81 rfl (lv_at hl 1 rfl) ?_
              refine g_getR (ci := 1) (k := 2) F hH rfl (by decide) iX1 hp.1 (by decide) rfl (b := ln) hp.2.2.2.1 k29 dX1_readRing_82 ?_
              refine lv_aload_n F.1 F.2.1 dX1_readRing_85 rfl (lv_at hl 1 rfl) ?_
              refine g_getR (ci := 1) (k := 2) F hH rfl (by decide) iX1 hp.1 (by decide) rfl (b := ln) hp.2.2.2.1 k29 dX1_readRing_86 ?_
              refine g_getI (ci := 0) (k := 5) F hH rfl (by decide) iX0 hp.2.2.2.2.1 (by decide) rfl k143 dX1_readRing_89 ?_
              have b_71 := gI_line hv hp.2.2.2.2.1
              unfold vLineI at b_71
              refine g_putI (ci := 0) (k := 2) F hH hS rfl (by decide) iX0 hp.2.2.2.2.1 (by decide) tyX0 tyX0_ok nmX0 rfl rfl rfl k136 dX1_readRing_92 (fun H locs hH hS => ?_)
              obtain ⟨I_72, eI_72⟩ : ∃ qQ, qQ = gup2 I_58 ln 2 (iI ((I_58 ln 5).toInt)) := ⟨_, rfl⟩
              rw [← eI_72] at hH
              have kI_72 : ∀ b, b ≠ ln → I_72 b = I_58 b := fun b hb => by rw [eI_72]; exact funext fun j => gup2_a _ _ hb
              have w_73 : (I_72 ln 2).toInt = (I_58 ln 5).toInt := by rw [eI_72, gup2_s]; exact iI_val ⟨by omega, by omega⟩
              have hp2 : pS g gh R I_72 a q ln := pS_ln hv hp kI_72
              have hv : gInv g gh R AR I_72 AI := by rw [eI_72]; exact gInv_line2 hv hp.2.2.2.2.1 (by omega) (by omega) (pS_col hp)
              have hp := hp2
              have pf : pF a ln I I_72 := pF_t pf (by rw [eI_72]; exact pF_ln (by decide))
              have w_73_k : ∀ j, j ≠ 2 → I_72 ln j = I_58 ln j := fun j hj => by rw [eI_72]; exact gup2_k _ _ hj
              have u_74q : (I_72 q 1).toInt = (I_58 q 1).toInt := by rw [kI_72 q (gO_ne hp.2.2.1 hp.2.2.2.2.1 (by decide))]
              have u_74_0 : (I_72 ln 0).toInt = (I_58 ln 0).toInt := by rw [w_73_k 0 (by decide)]
              have u_74_8 : (I_72 ln 8).toInt = (I_58 ln 8).toInt := by rw [w_73_k 8 (by decide)]
              refine lv_iload_n F.1 F.2.1 dX1_readRing_95 rfl (lv_at hl 0 rfl) ?_
              exact g_iret F hr hlk hH hS hz zv_64 ⟨rfl, rfl, rfl, rfl, hv, hp, pf, by first | omega | rfl | (dsimp only; omega)⟩ dX1_readRing_96
            · exact absurd trivial (by omega)
          · exact absurd trivial (by omega)
        · refine lv_aload_n F.1 F.2.1 dX1_readRing_40 rfl (lv_at hl 1 rfl) ?_
          refine z_iconst F dX1_readRing_41 ?_
          refine g_calli (g_runV (As := [.int (iI 1)]) (rest := []) (ci := 1) F hl.1 hH hS hz (c_X1_readPair l g gh q ln I_58 R J AI AJ AR a 1 ⟨by decide, by decide⟩ hv hp) (cwV 1 F.2.2.2.2.1 gX1_readRing_X1_readPair rfl rfl rfl hdX1_readPair ⟨Nat.le_of_ble_eq_true rfl, Nat.le_of_ble_eq_true rfl⟩) hp.1 (by decide) rfl rfl rfl (Nat.le_of_ble_eq_true rfl) dX1_readRing_42 ⟨Nat.zero_le _, Nat.zero_le _⟩) hS (fun v_81 I_75 R_76 J_77 AI_78 AJ_79 AR_80 H locs zv_81 hp_82 hH hS => ?_)
          dsimp only at hp_82
          obtain ⟨rfl, rfl, rfl, rfl, rfl, hv, hp, pfq, k8q, q_83, q_84⟩ := hp_82
          have pf := pF_t pf pfq
          have u_85q : (I_75 q 1).toInt = (I_58 q 1).toInt := by rw [pF_q hp pfq]
          have u_85_0 : (I_75 ln 0).toInt = (I_58 ln 0).toInt := by rw [pfq.2]
          have u_85_8 : (I_75 ln 8).toInt = (I_58 ln 8).toInt := by rw [k8q]
          refine lv_istore_n (lv' := [(1, .int (iI v_81)), (0, .ref a)]) F.1 F.2.1 dX1_readRing_45 rfl hl (by decide) rfl (fun ls hl => ?_)
          refine lv_iload_n F.1 F.2.1 dX1_readRing_46 rfl (lv_at hl 0 rfl) ?_
          refine z_if_ne (tgt := 57) F dX1_readRing_47 (by decide) zv_81 (fun c_86 => ?_) (fun c_86 => ?_)
          · refine lv_iload_n F.1 F.2.1 dX1_readRing_57 rfl (lv_at hl 0 rfl) ?_
            refine z_if_ne (tgt := 81) F dX1_readRing_58 (by decide) zv_81 (fun c_87 => ?_) (fun c_87 => ?_)
            · refine lv_aload_n F.1 F.2.1 dX1_readRing_81 rfl (lv_at hl 1 rfl) ?_
              refine g_getR (ci := 1) (k := 2) F hH rfl (by decide) iX1 hp.1 (by decide) rfl (b := ln) hp.2.2.2.1 k29 dX1_readRing_82 ?_
              refine lv_aload_n F.1 F.2.1 dX1_readRing_85 rfl (lv_at hl 1 rfl) ?_
              refine g_getR (ci := 1) (k := 2) F hH rfl (by decide) iX1 hp.1 (by decide) rfl (b := ln) hp.2.2.2.1 k29 dX1_readRing_86 ?_
              refine g_getI (ci := 0) (k := 5) F hH rfl (by decide) iX0 hp.2.2.2.2.1 (by decide) rfl k143 dX1_readRing_89 ?_
              have b_88 := gI_line hv hp.2.2.2.2.1
              unfold vLineI at b_88
              refine g_putI (ci := 0) (k := 2) F hH hS rfl (by decide) iX0 hp.2.2.2.2.1 (by decide) tyX0 tyX0_ok nmX0 rfl rfl rfl k136 dX1_readRing_92 (fun H locs hH hS => ?_)
              obtain ⟨I_89, eI_89⟩ : ∃ qQ, qQ = gup2 I_75 ln 2 (iI ((I_75 ln 5).toInt)) := ⟨_, rfl⟩
              rw [← eI_89] at hH
              have kI_89 : ∀ b, b ≠ ln → I_89 b = I_75 b := fun b hb => by rw [eI_89]; exact funext fun j => gup2_a _ _ hb
              have w_90 : (I_89 ln 2).toInt = (I_75 ln 5).toInt := by rw [eI_89, gup2_s]; exact iI_val ⟨by omega, by omega⟩
              have hp2 : pS g gh R I_89 a q ln := pS_ln hv hp kI_89
              have hv : gInv g gh R AR I_89 AI := by rw [eI_89]; exact gInv_line2 hv hp.2.2.2.2.1 (by omega) (by omega) (pS_col hp)
              have hp := hp2
              have pf : pF a ln I I_89 := pF_t pf (by rw [eI_89]; exact pF_ln (by decide))
              have w_90_k : ∀ j, j ≠ 2 → I_89 ln j = I_75 ln j := fun j hj => by rw [eI_89]; exact gup2_k _ _ hj
              have u_91q : (I_89 q 1).toInt = (I_75 q 1).toInt := by rw [kI_89 q (gO_ne hp.2.2.1 hp.2.2.2.2.1 (by decide))]
              have u_91_0 : (I_89 ln 0).toInt = (I_75 ln 0).toInt := by rw [w_90_k 0 (by decide)]
              have u_91_8 : (I_89 ln 8).toInt = (I_75 ln 8).toInt := by rw [w_90_k 8 (by decide)]
              refine lv_iload_n F.1 F.2.1 dX1_readRing_95 rfl (lv_at hl 0 rfl) ?_
              exact g_iret F hr hlk hH hS hz zv_81 ⟨rfl, rfl, rfl, rfl, hv, hp, pf, by first | omega | rfl | (dsimp only; omega)⟩ dX1_readRing_96
            · exact absurd trivial (by omega)
          · refine lv_aload_n F.1 F.2.1 dX1_readRing_50 rfl (lv_at hl 1 rfl) ?_
            refine z_bipush F dX1_readRing_51 (by decide) ?_
            refine g_calli (g_runV (As := [.int (iI 15)]) (rest := []) (ci := 1) F hl.1 hH hS hz (c_X1_takeWord l g gh q ln I_75 R J AI AJ AR a 15 ⟨by decide, by decide⟩ hv hp) (cwV 1 F.2.2.2.2.1 gX1_readRing_X1_takeWord rfl rfl rfl hdX1_takeWord ⟨Nat.le_of_ble_eq_true rfl, Nat.le_of_ble_eq_true rfl⟩) hp.1 (by decide) rfl rfl rfl (Nat.le_of_ble_eq_true rfl) dX1_readRing_53 ⟨Nat.zero_le _, Nat.zero_le _⟩) hS (fun v_98 I_92 R_93 J_94 AI_95 AJ_96 AR_97 H locs zv_98 hp_99 hH hS => ?_)
            dsimp only at hp_99
            obtain ⟨rfl, rfl, rfl, rfl, rfl, hv, hp, pfq, flq, q_100⟩ := hp_99
            have pf := pF_t pf pfq
            have u_101q : (I_92 q 1).toInt = (I_75 q 1).toInt := by rw [pF_q hp pfq]
            have u_101_0 : (I_92 ln 0).toInt = (I_75 ln 0).toInt := by rw [pfq.2]
            have u_101_8 : (I_92 ln 8).toInt = (I_75 ln 8).toInt := by rw [flq]
            refine lv_istore_n (lv' := [(1, .int (iI v_98)), (0, .ref a)]) F.1 F.2.1 dX1_readRing_56 rfl hl (by decide) rfl (fun ls hl => ?_)
            refine lv_iload_n F.1 F.2.1 dX1_readRing_57 rfl (lv_at hl 0 rfl) ?_
            refine z_if_ne (tgt := 81) F dX1_readRing_58 (by decide) zv_98 (fun c_102 => ?_) (fun c_102 => ?_)
            · refine lv_aload_n F.1 F.2.1 dX1_readRing_81 rfl (lv_at hl 1 rfl) ?_
              refine g_getR (ci := 1) (k := 2) F hH rfl (by decide) iX1 hp.1 (by decide) rfl (b := ln) hp.2.2.2.1 k29 dX1_readRing_82 ?_
              refine lv_aload_n F.1 F.2.1 dX1_readRing_85 rfl (lv_at hl 1 rfl) ?_
              refine g_getR (ci := 1) (k := 2) F hH rfl (by decide) iX1 hp.1 (by decide) rfl (b := ln) hp.2.2.2.1 k29 dX1_readRing_86 ?_
              refine g_getI (ci := 0) (k := 5) F hH rfl (by decide) iX0 hp.2.2.2.2.1 (by decide) rfl k143 dX1_readRing_89 ?_
              have b_103 := gI_line hv hp.2.2.2.2.1
              unfold vLineI at b_103
              refine g_putI (ci := 0) (k := 2) F hH hS rfl (by decide) iX0 hp.2.2.2.2.1 (by decide) tyX0 tyX0_ok nmX0 rfl rfl rfl k136 dX1_readRing_92 (fun H locs hH hS => ?_)
              obtain ⟨I_104, eI_104⟩ : ∃ qQ, qQ = gup2 I_92 ln 2 (iI ((I_92 ln 5).toInt)) := ⟨_, rfl⟩
              rw [← eI_104] at hH
              have kI_104 : ∀ b, b ≠ ln → I_104 b = I_92 b := fun b hb => by rw [eI_104]; exact funext fun j => gup2_a _ _ hb
              have w_105 : (I_104 ln 2).toInt = (I_92 ln 5).toInt := by rw [eI_104, gup2_s]; exact iI_val ⟨by omega, by omega⟩
              have hp2 : pS g gh R I_104 a q ln := pS_ln hv hp kI_104
              have hv : gInv g gh R AR I_104 AI := by rw [eI_104]; exact gInv_line2 hv hp.2.2.2.2.1 (by omega) (by omega) (pS_col hp)
              have hp := hp2
              have pf : pF a ln I I_104 := pF_t pf (by rw [eI_104]; exact pF_ln (by decide))
              have w_105_k : ∀ j, j ≠ 2 → I_104 ln j = I_92 ln j := fun j hj => by rw [eI_104]; exact gup2_k _ _ hj
              have u_106q : (I_104 q 1).toInt = (I_92 q 1).toInt := by rw [kI_104 q (gO_ne hp.2.2.1 hp.2.2.2.2.1 (by decide))]
              have u_106_0 : (I_104 ln 0).toInt = (I_92 ln 0).toInt := by rw [w_105_k 0 (by decide)]
              have u_106_8 : (I_104 ln 8).toInt = (I_92 ln 8).toInt := by rw [w_105_k 8 (by decide)]
              refine lv_iload_n F.1 F.2.1 dX1_readRing_95 rfl (lv_at hl 0 rfl) ?_
              exact g_iret F hr hlk hH hS hz zv_98 ⟨rfl, rfl, rfl, rfl, hv, hp, pf, by first | omega | rfl | (dsimp only; omega)⟩ dX1_readRing_96
            · refine lv_aload_n F.1 F.2.1 dX1_readRing_61 rfl (lv_at hl 1 rfl) ?_
              refine lv_aload_n F.1 F.2.1 dX1_readRing_62 rfl (lv_at hl 1 rfl) ?_
              refine g_getR (ci := 1) (k := 2) F hH rfl (by decide) iX1 hp.1 (by decide) rfl (b := ln) hp.2.2.2.1 k29 dX1_readRing_63 ?_
              refine g_getI (ci := 0) (k := 5) F hH rfl (by decide) iX0 hp.2.2.2.2.1 (by decide) rfl k143 dX1_readRing_66 ?_
              have b_107 := gI_line hv hp.2.2.2.2.1
              unfold vLineI at b_107
              refine lv_aload_n F.1 F.2.1 dX1_readRing_69 rfl (lv_at hl 1 rfl) ?_
              refine g_getR (ci := 1) (k := 2) F hH rfl (by decide) iX1 hp.1 (by decide) rfl (b := ln) hp.2.2.2.1 k29 dX1_readRing_70 ?_
              refine g_getI (ci := 0) (k := 6) F hH rfl (by decide) iX0 hp.2.2.2.2.1 (by decide) rfl k146 dX1_readRing_73 ?_
              refine z_iadd F dX1_readRing_76 ?_
              refine g_calli (g_runV (As := [.int (iI (((I_92 ln 5).toInt) + ((I_92 ln 6).toInt)))]) (rest := []) (ci := 1) F hl.1 hH hS hz (c_X1_readTerms l g gh q ln I_92 R J AI AJ AR a (((I_92 ln 5).toInt) + ((I_92 ln 6).toInt)) ⟨by omega, by omega⟩ hv hp (by omega)) (cwV 1 F.2.2.2.2.1 gX1_readRing_X1_readTerms rfl rfl rfl hdX1_readTerms ⟨Nat.le_of_ble_eq_true rfl, Nat.le_of_ble_eq_true rfl⟩) hp.1 (by decide) rfl rfl rfl (Nat.le_of_ble_eq_true rfl) dX1_readRing_77 ⟨Nat.zero_le _, Nat.zero_le _⟩) hS (fun v_114 I_108 R_109 J_110 AI_111 AJ_112 AR_113 H locs zv_114 hp_115 hH hS => ?_)
              dsimp only at hp_115
              obtain ⟨rfl, rfl, rfl, rfl, hv, hp, pfq, q_116⟩ := hp_115
              have pf := pF_t pf pfq
              have u_117q : (I_108 q 1).toInt = (I_92 q 1).toInt := by rw [pF_q hp pfq]
              have u_117_0 : (I_108 ln 0).toInt = (I_92 ln 0).toInt := by rw [pfq.2]
              refine lv_istore_n (lv' := [(1, .int (iI v_114)), (0, .ref a)]) F.1 F.2.1 dX1_readRing_80 rfl hl (by decide) rfl (fun ls hl => ?_)
              refine lv_aload_n F.1 F.2.1 dX1_readRing_81 rfl (lv_at hl 1 rfl) ?_
              refine g_getR (ci := 1) (k := 2) F hH rfl (by decide) iX1 hp.1 (by decide) rfl (b := ln) hp.2.2.2.1 k29 dX1_readRing_82 ?_
              refine lv_aload_n F.1 F.2.1 dX1_readRing_85 rfl (lv_at hl 1 rfl) ?_
              refine g_getR (ci := 1) (k := 2) F hH rfl (by decide) iX1 hp.1 (by decide) rfl (b := ln) hp.2.2.2.1 k29 dX1_readRing_86 ?_
              refine g_getI (ci := 0) (k := 5) F hH rfl (by decide) iX0 hp.2.2.2.2.1 (by decide) rfl k143 dX1_readRing_89 ?_
              have b_118 := gI_line hv hp.2.2.2.2.1
              unfold vLineI at b_118
              refine g_putI (ci := 0) (k := 2) F hH hS rfl (by decide) iX0 hp.2.2.2.2.1 (by decide) tyX0 tyX0_ok nmX0 rfl rfl rfl k136 dX1_readRing_92 (fun H locs hH hS => ?_)
              obtain ⟨I_119, eI_119⟩ : ∃ qQ, qQ = gup2 I_108 ln 2 (iI ((I_108 ln 5).toInt)) := ⟨_, rfl⟩
              rw [← eI_119] at hH
              have kI_119 : ∀ b, b ≠ ln → I_119 b = I_108 b := fun b hb => by rw [eI_119]; exact funext fun j => gup2_a _ _ hb
              have w_120 : (I_119 ln 2).toInt = (I_108 ln 5).toInt := by rw [eI_119, gup2_s]; exact iI_val ⟨by omega, by omega⟩
              have hp2 : pS g gh R I_119 a q ln := pS_ln hv hp kI_119
              have hv : gInv g gh R AR I_119 AI_111 := by rw [eI_119]; exact gInv_line2 hv hp.2.2.2.2.1 (by omega) (by omega) (pS_col hp)
              have hp := hp2
              have pf : pF a ln I I_119 := pF_t pf (by rw [eI_119]; exact pF_ln (by decide))
              have w_120_k : ∀ j, j ≠ 2 → I_119 ln j = I_108 ln j := fun j hj => by rw [eI_119]; exact gup2_k _ _ hj
              have u_121q : (I_119 q 1).toInt = (I_108 q 1).toInt := by rw [kI_119 q (gO_ne hp.2.2.1 hp.2.2.2.2.1 (by decide))]
              have u_121_0 : (I_119 ln 0).toInt = (I_108 ln 0).toInt := by rw [w_120_k 0 (by decide)]
              have u_121_8 : (I_119 ln 8).toInt = (I_108 ln 8).toInt := by rw [w_120_k 8 (by decide)]
              refine lv_iload_n F.1 F.2.1 dX1_readRing_95 rfl (lv_at hl 0 rfl) ?_
              exact g_iret F hr hlk hH hS hz zv_114 ⟨rfl, rfl, rfl, rfl, hv, hp, pf, by first | omega | rfl | (dsimp only; omega)⟩ dX1_readRing_96

def rmX1_readTableColumns : Room := { frames := 1, cells := 0, slots := 0, locals := 21 }
theorem hdX1_readTableColumns : yX1_readTableColumns.cls = RX1 ∧ yX1_readTableColumns.cls ≠ "java/lang/invoke/MethodHandle" ∧ yX1_readTableColumns.cls ≠ "java/lang/invoke/VarHandle" ∧ (parseMethodDescriptor yX1_readTableColumns.desc).map (fun d => d.parameters.length) = some 0 := by decide +kernel
set_option maxHeartbeats 4000000 in
set_option maxRecDepth 100000 in
/-- the columns of a table -/
theorem c_X1_readTableColumns (l : Launch) (g : gG) (gh : gGh) (q ln : Nat) (I : gI) (R : gR) (J : gJ) (AI : gI) (AJ : gJ) (AR : gR) (a : Nat) (hv : gInv g gh R AR I AI) (hp : pS g gh R I a q ln) : gMet l g yX1_readTableColumns wsX1_readTableColumns rmX1_readTableColumns [.ref a] (I, R, J, AI, AJ, AR) (gQi g (fun (z : Int) (w : gS) => R = w.2.1 ∧ J = w.2.2.1 ∧ AI = w.2.2.2.1 ∧ AJ = w.2.2.2.2.1 ∧ AR = w.2.2.2.2.2 ∧ (gInv g gh R AR (w.1) AI) ∧ (pS g gh R (w.1) a q ln) ∧ (pF a ln I (w.1)) ∧ (0 ≤ z ∧ z ≤ 4))) := by
  refine gStart (cc := cX1_readTableColumns) (maxL := 2) (ret := (some (.int))) (by decide) rfl (Nat.le_of_ble_eq_true rfl) ?_
  intro p e s m below meth c ls F hr hlk hH hz hS hl
  have hl : lv_has ls 2 [(0, .ref a)] := hl
  have hS : va_S (gA g) s.heap s.heap [] := hS
  obtain ⟨H, hHe⟩ : ∃ H : Heap, H = s.heap := ⟨_, rfl⟩
  obtain ⟨locs, hlo⟩ : ∃ k : List Loc, k = [] := ⟨_, rfl⟩
  have hH : gH g I R J AI AJ AR H := by rw [hHe]; exact hH
  have hS : va_S (gA g) s.heap H locs := by rw [hHe, hlo]; exact hS
  suffices hw : W p l e rmX1_readTableColumns s m ([.ref a] : List Value).toArray below meth c H locs 0 0 (MQ below (gQi g (fun (z : Int) (w : gS) => R = w.2.1 ∧ J = w.2.2.1 ∧ AI = w.2.2.2.1 ∧ AJ = w.2.2.2.2.1 ∧ AR = w.2.2.2.2.2 ∧ (gInv g gh R AR (w.1) AI) ∧ (pS g gh R (w.1) a q ln) ∧ (pF a ln I (w.1)) ∧ (0 ≤ z ∧ z ≤ 4))) ([.ref a] : List Value).toArray s 0 0 (gA g)) (F0 m 0 ls []) by
    rw [hHe, hlo] at hw; exact hw
  clear hHe hlo
  have pf : pF a ln I I := pF_r
  have iX5 : ∀ w ∈ u_ws RX5 TX5 5, w ∈ wsX1_readTableColumns := (by decide +kernel)
  have iX1 : ∀ w ∈ u_ws RX1 TX1 4, w ∈ wsX1_readTableColumns := (by decide +kernel)
  have iX0 : ∀ w ∈ u_ws RX0 TX0 15, w ∈ wsX1_readTableColumns := (by decide +kernel)
  have k12 : Cond.fieldLink RX1 12 (TX1 0).1 (TX1 0).2.1 (TX1 0).2.2.1 ∈ wsX1_readTableColumns := List.mem_of_getElem? (i := 1) rfl
  have k71 : Cond.fieldLink RX1 71 (TX5 2).1 (TX5 2).2.1 (TX5 2).2.2.1 ∈ wsX1_readTableColumns := List.mem_of_getElem? (i := 2) rfl
  have k44 : Cond.fieldLink RX1 44 (TX1 3).1 (TX1 3).2.1 (TX1 3).2.2.1 ∈ wsX1_readTableColumns := List.mem_of_getElem? (i := 3) rfl
  have k29 : Cond.fieldLink RX1 29 (TX1 2).1 (TX1 2).2.1 (TX1 2).2.2.1 ∈ wsX1_readTableColumns := List.mem_of_getElem? (i := 4) rfl
  have k136 : Cond.fieldLink RX1 136 (TX0 2).1 (TX0 2).2.1 (TX0 2).2.2.1 ∈ wsX1_readTableColumns := List.mem_of_getElem? (i := 5) rfl
  refine lv_aload_n F.1 F.2.1 dX1_readTableColumns_0 rfl (lv_at hl 0 rfl) ?_
  refine z_iconst F dX1_readTableColumns_1 ?_
  refine g_calli (g_runV (As := [.int (iI 4)]) (rest := []) (ci := 1) F hl.1 hH hS hz (c_X1_isKind l g gh I R J AI AJ AR a 4 ⟨by decide, by decide⟩ hv hp.1 (by first | exact hp.2.2.2.2.2.2.2 | exact hh | omega)) (cwV 1 F.2.2.2.2.1 gX1_readTableColumns_X1_isKind rfl rfl rfl hdX1_isKind ⟨Nat.le_of_ble_eq_true rfl, Nat.le_of_ble_eq_true rfl⟩) hp.1 (by decide) rfl rfl rfl (Nat.le_of_ble_eq_true rfl) dX1_readTableColumns_2 ⟨Nat.zero_le _, Nat.zero_le _⟩) hS (fun v_7 I_1 R_2 J_3 AI_4 AJ_5 AR_6 H locs zv_7 hp_8 hH hS => ?_)
  dsimp only at hp_8
  obtain ⟨rfl, rfl, rfl, rfl, rfl, rfl, q_9⟩ := hp_8
  refine z_if_ne (tgt := 10) F dX1_readTableColumns_5 (by decide) zv_7 (fun c_10 => ?_) (fun c_10 => ?_)
  · refine lv_aload_n F.1 F.2.1 dX1_readTableColumns_10 rfl (lv_at hl 0 rfl) ?_
    refine g_getR (ci := 1) (k := 0) F hH rfl (by decide) iX1 hp.1 (by decide) rfl (b := gh 22 0) (gR_pr0 hv hp.1).1 k12 dX1_readTableColumns_11 ?_
    obtain ⟨r_11a, r_11b⟩ := gR_tk2 hv (gR_pr0 hv hp.1).2
    refine g_getR (ci := 5) (k := 2) F hH rfl (by decide) iX5 (gR_pr0 hv hp.1).2 (by decide) rfl (b := gh 26 0) r_11a k71 dX1_readTableColumns_14 ?_
    refine lv_aload_n F.1 F.2.1 dX1_readTableColumns_17 rfl (lv_at hl 0 rfl) ?_
    refine g_getI (ci := 1) (k := 3) F hH rfl (by decide) iX1 hp.1 (by decide) rfl k44 dX1_readTableColumns_18 ?_
    have b_12h := hp.2.2.2.2.2.2.2
    have b_12 := gI_pr hv hp.1
    have b_12t := gI_tk hv (gR_pr0 hv hp.1).2
    have hx21 : 0 ≤ ((I a 3).toInt) ∧ ((I a 3).toInt) < ((901 : Nat) : Int) ∧ ((I a 3).toInt) ≤ 2147483647 := ⟨by omega, by omega, by omega⟩
    refine g_iald F hH r_11b hx21.1 hx21.2.1 hx21.2.2 dX1_readTableColumns_21 ?_
    refine z_name (fun v_13 ev_13 => ?_)
    have zv_13 : zr v_13 := by rw [ev_13]; exact zr_t _
    refine lv_istore_n (lv' := [(1, .int (iI v_13)), (0, .ref a)]) F.1 F.2.1 dX1_readTableColumns_22 rfl hl (by decide) rfl (fun ls hl => ?_)
    refine lv_iload_n F.1 F.2.1 dX1_readTableColumns_23 rfl (lv_at hl 0 rfl) ?_
    refine z_iconst F dX1_readTableColumns_24 ?_
    refine z_icmp_lt (tgt := 33) F dX1_readTableColumns_25 (by decide) zv_13 ⟨by decide, by decide⟩ (fun c_14 => ?_) (fun c_14 => ?_)
    · refine z_iconst F dX1_readTableColumns_33 ?_
      exact g_iret F hr hlk hH hS hz ⟨by decide, by decide⟩ ⟨rfl, rfl, rfl, rfl, rfl, hv, hp, pf, by first | omega | rfl | (dsimp only; omega)⟩ dX1_readTableColumns_34
    · refine lv_iload_n F.1 F.2.1 dX1_readTableColumns_28 rfl (lv_at hl 0 rfl) ?_
      refine z_iconst F dX1_readTableColumns_29 ?_
      refine z_icmp_le (tgt := 35) F dX1_readTableColumns_30 (by decide) zv_13 ⟨by decide, by decide⟩ (fun c_15 => ?_) (fun c_15 => ?_)
      · refine lv_aload_n F.1 F.2.1 dX1_readTableColumns_35 rfl (lv_at hl 1 rfl) ?_
        refine g_getR (ci := 1) (k := 2) F hH rfl (by decide) iX1 hp.1 (by decide) rfl (b := ln) hp.2.2.2.1 k29 dX1_readTableColumns_36 ?_
        refine lv_iload_n F.1 F.2.1 dX1_readTableColumns_39 rfl (lv_at hl 0 rfl) ?_
        refine g_putI (ci := 0) (k := 2) F hH hS rfl (by decide) iX0 hp.2.2.2.2.1 (by decide) tyX0 tyX0_ok nmX0 rfl rfl rfl k136 dX1_readTableColumns_40 (fun H locs hH hS => ?_)
        obtain ⟨I_16, eI_16⟩ : ∃ qQ, qQ = gup2 I ln 2 (iI (v_13)) := ⟨_, rfl⟩
        rw [← eI_16] at hH
        have kI_16 : ∀ b, b ≠ ln → I_16 b = I b := fun b hb => by rw [eI_16]; exact funext fun j => gup2_a _ _ hb
        have w_17 : (I_16 ln 2).toInt = v_13 := by rw [eI_16, gup2_s]; exact iI_val ⟨by omega, by omega⟩
        have hp2 : pS g gh R I_16 a q ln := pS_ln hv hp kI_16
        have hv : gInv g gh R AR I_16 AI := by rw [eI_16]; exact gInv_line2 hv hp.2.2.2.2.1 (by omega) (by omega) (pS_col hp)
        have hp := hp2
        have pf : pF a ln I I_16 := pF_t pf (by rw [eI_16]; exact pF_ln (by decide))
        have w_17_k : ∀ j, j ≠ 2 → I_16 ln j = I ln j := fun j hj => by rw [eI_16]; exact gup2_k _ _ hj
        have u_18q : (I_16 q 1).toInt = (I q 1).toInt := by rw [kI_16 q (gO_ne hp.2.2.1 hp.2.2.2.2.1 (by decide))]
        have u_18_0 : (I_16 ln 0).toInt = (I ln 0).toInt := by rw [w_17_k 0 (by decide)]
        have u_18_8 : (I_16 ln 8).toInt = (I ln 8).toInt := by rw [w_17_k 8 (by decide)]
        refine lv_aload_n F.1 F.2.1 dX1_readTableColumns_43 rfl (lv_at hl 1 rfl) ?_
        have hv0 := hv
        refine g_callv (g_runV (As := []) (rest := []) (ci := 1) F hl.1 hH hS hz (c_X1_step l g gh I_16 R J AI AJ AR a hv hp.1 (by first | exact hp.2.2.2.2.2.2.2 | exact hh | omega)) (cwV 0 F.2.2.2.2.1 gX1_readTableColumns_X1_step rfl rfl rfl hdX1_step ⟨Nat.le_of_ble_eq_true rfl, Nat.le_of_ble_eq_true rfl⟩) hp.1 (by decide) rfl rfl rfl (Nat.le_of_ble_eq_true rfl) dX1_readTableColumns_44 ⟨Nat.zero_le _, Nat.zero_le _⟩) hS (fun I_19 R_20 J_21 AI_22 AJ_23 AR_24 H locs hp_25 hH hS => ?_)
        dsimp only at hp_25
        obtain ⟨rfl, rfl, rfl, rfl, rfl, hv, fs, hs⟩ := hp_25
        obtain ⟨hp, pfq, fls⟩ := pS_step hv0 hp fs hs
        have pf := pF_t pf pfq
        have u_26q : (I_19 q 1).toInt = (I_16 q 1).toInt := by rw [pF_q hp pfq]
        have u_26_0 : (I_19 ln 0).toInt = (I_16 ln 0).toInt := by rw [fls]
        have u_26_8 : (I_19 ln 8).toInt = (I_16 ln 8).toInt := by rw [fls]
        refine z_iconst F dX1_readTableColumns_47 ?_
        exact g_iret F hr hlk hH hS hz ⟨by decide, by decide⟩ ⟨rfl, rfl, rfl, rfl, rfl, hv, hp, pf, by first | omega | rfl | (dsimp only; omega)⟩ dX1_readTableColumns_48
      · refine z_iconst F dX1_readTableColumns_33 ?_
        exact g_iret F hr hlk hH hS hz ⟨by decide, by decide⟩ ⟨rfl, rfl, rfl, rfl, rfl, hv, hp, pf, by first | omega | rfl | (dsimp only; omega)⟩ dX1_readTableColumns_34
  · refine z_iconst F dX1_readTableColumns_8 ?_
    exact g_iret F hr hlk hH hS hz ⟨by decide, by decide⟩ ⟨rfl, rfl, rfl, rfl, rfl, hv, hp, pf, by first | omega | rfl | (dsimp only; omega)⟩ dX1_readTableColumns_9
