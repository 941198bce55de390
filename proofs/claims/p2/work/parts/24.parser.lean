def rmX1_isKind : Room := { frames := 0, cells := 0, slots := 0, locals := 0 }
theorem hdX1_isKind : yX1_isKind.cls = RX1 ∧ yX1_isKind.cls ≠ "java/lang/invoke/MethodHandle" ∧ yX1_isKind.cls ≠ "java/lang/invoke/VarHandle" ∧ (parseMethodDescriptor yX1_isKind.desc).map (fun d => d.parameters.length) = some 1 := by decide +kernel
set_option maxHeartbeats 4000000 in
set_option maxRecDepth 100000 in
/-- the token is of a kind -/
theorem c_X1_isKind (l : Launch) (g : gG) (gh : gGh) (I : gI) (R : gR) (J : gJ) (AI : gI) (AJ : gJ) (AR : gR) (a : Nat) (kd : Int) (zkd : zr kd) (hv : gInv g gh R AR I AI) (h1 : gO g a 1) (hh : (I a 3).toInt < (I (gh 22 0) 4).toInt) : gMet l g yX1_isKind wsX1_isKind rmX1_isKind [.ref a, .int (iI kd)] (I, R, J, AI, AJ, AR) (gQi g (fun (z : Int) (w : gS) => I = w.1 ∧ R = w.2.1 ∧ J = w.2.2.1 ∧ AI = w.2.2.2.1 ∧ AJ = w.2.2.2.2.1 ∧ AR = w.2.2.2.2.2 ∧ ((z = 0 ∨ z = 1) ∧ (z = 1 → (AI (gh 24 0) (I a 3).toInt.toNat).toInt = kd)))) := by
  refine gStart (cc := cX1_isKind) (maxL := 2) (ret := (some (.boolean))) (by decide) rfl (Nat.le_of_ble_eq_true rfl) ?_
  intro p e s m below meth c ls F hr hlk hH hz hS hl
  have hl : lv_has ls 2 [(0, .ref a), (1, .int (iI kd))] := hl
  have hS : va_S (gA g) s.heap s.heap [] := hS
  obtain ⟨H, hHe⟩ : ∃ H : Heap, H = s.heap := ⟨_, rfl⟩
  obtain ⟨locs, hlo⟩ : ∃ k : List Loc, k = [] := ⟨_, rfl⟩
  have hH : gH g I R J AI AJ AR H := by rw [hHe]; exact hH
  have hS : va_S (gA g) s.heap H locs := by rw [hHe, hlo]; exact hS
  suffices hw : W p l e rmX1_isKind s m ([.ref a, .int (iI kd)] : List Value).toArray below meth c H locs 0 0 (MQ below (gQi g (fun (z : Int) (w : gS) => I = w.1 ∧ R = w.2.1 ∧ J = w.2.2.1 ∧ AI = w.2.2.2.1 ∧ AJ = w.2.2.2.2.1 ∧ AR = w.2.2.2.2.2 ∧ ((z = 0 ∨ z = 1) ∧ (z = 1 → (AI (gh 24 0) (I a 3).toInt.toNat).toInt = kd)))) ([.ref a, .int (iI kd)] : List Value).toArray s 0 0 (gA g)) (F0 m 0 ls []) by
    rw [hHe, hlo] at hw; exact hw
  clear hHe hlo
  have iX5 : ∀ w ∈ u_ws RX5 TX5 5, w ∈ wsX1_isKind := (by decide +kernel)
  have iX1 : ∀ w ∈ u_ws RX1 TX1 4, w ∈ wsX1_isKind := (by decide +kernel)
  have k12 : Cond.fieldLink RX1 12 (TX1 0).1 (TX1 0).2.1 (TX1 0).2.2.1 ∈ wsX1_isKind := List.mem_of_getElem? (i := 1) rfl
  have k47 : Cond.fieldLink RX1 47 (TX5 0).1 (TX5 0).2.1 (TX5 0).2.2.1 ∈ wsX1_isKind := List.mem_of_getElem? (i := 2) rfl
  have k44 : Cond.fieldLink RX1 44 (TX1 3).1 (TX1 3).2.1 (TX1 3).2.2.1 ∈ wsX1_isKind := List.mem_of_getElem? (i := 3) rfl
  refine lv_aload_n F.1 F.2.1 dX1_isKind_0 rfl (lv_at hl 0 rfl) ?_
  refine g_getR (ci := 1) (k := 0) F hH rfl (by decide) iX1 h1 (by decide) rfl (b := gh 22 0) (gR_pr0 hv h1).1 k12 dX1_isKind_1 ?_
  obtain ⟨r_1a, r_1b⟩ := gR_tk0 hv (gR_pr0 hv h1).2
  refine g_getR (ci := 5) (k := 0) F hH rfl (by decide) iX5 (gR_pr0 hv h1).2 (by decide) rfl (b := gh 24 0) r_1a k47 dX1_isKind_4 ?_
  refine lv_aload_n F.1 F.2.1 dX1_isKind_7 rfl (lv_at hl 0 rfl) ?_
  refine g_getI (ci := 1) (k := 3) F hH rfl (by decide) iX1 h1 (by decide) rfl k44 dX1_isKind_8 ?_
  have b_2 := gI_pr hv h1
  have b_2t := gI_tk hv (gR_pr0 hv h1).2
  have hx11 : 0 ≤ ((I a 3).toInt) ∧ ((I a 3).toInt) < ((901 : Nat) : Int) ∧ ((I a 3).toInt) ≤ 2147483647 := ⟨by omega, by omega, by omega⟩
  refine g_iald F hH r_1b hx11.1 hx11.2.1 hx11.2.2 dX1_isKind_11 ?_
  refine z_name (fun v_3 ev_3 => ?_)
  have zv_3 : zr v_3 := by rw [ev_3]; exact zr_t _
  refine lv_iload_n F.1 F.2.1 dX1_isKind_12 rfl (lv_at hl 1 rfl) ?_
  refine z_icmp_ne (tgt := 20) F dX1_isKind_13 (by decide) zv_3 zkd (fun c_4 => ?_) (fun c_4 => ?_)
  · refine z_iconst F dX1_isKind_20 ?_
    exact g_zret F hr hlk hH hS hz (by omega) ⟨rfl, rfl, rfl, rfl, rfl, rfl, ⟨by omega, fun _ => by omega⟩⟩ dX1_isKind_21
  · refine z_iconst F dX1_isKind_16 ?_
    refine z_goto (tgt := 21) F dX1_isKind_17 (by decide) ?_
    exact g_zret F hr hlk hH hS hz (by omega) ⟨rfl, rfl, rfl, rfl, rfl, rfl, ⟨by omega, fun _ => by omega⟩⟩ dX1_isKind_21

def rmX1_isWord : Room := { frames := 1, cells := 0, slots := 0, locals := 21 }
theorem hdX1_isWord : yX1_isWord.cls = RX1 ∧ yX1_isWord.cls ≠ "java/lang/invoke/MethodHandle" ∧ yX1_isWord.cls ≠ "java/lang/invoke/VarHandle" ∧ (parseMethodDescriptor yX1_isWord.desc).map (fun d => d.parameters.length) = some 1 := by decide +kernel
set_option maxHeartbeats 4000000 in
set_option maxRecDepth 100000 in
/-- the token is a word -/
theorem c_X1_isWord (l : Launch) (g : gG) (gh : gGh) (I : gI) (R : gR) (J : gJ) (AI : gI) (AJ : gJ) (AR : gR) (a : Nat) (wn : Int) (zwn : zr wn) (hv : gInv g gh R AR I AI) (h1 : gO g a 1) (hh : (I a 3).toInt < (I (gh 22 0) 4).toInt) : gMet l g yX1_isWord wsX1_isWord rmX1_isWord [.ref a, .int (iI wn)] (I, R, J, AI, AJ, AR) (gQi g (fun (z : Int) (w : gS) => I = w.1 ∧ R = w.2.1 ∧ J = w.2.2.1 ∧ AI = w.2.2.2.1 ∧ AJ = w.2.2.2.2.1 ∧ AR = w.2.2.2.2.2 ∧ (z = 0 ∨ z = 1))) := by
  refine gStart (cc := cX1_isWord) (maxL := 2) (ret := (some (.boolean))) (by decide) rfl (Nat.le_of_ble_eq_true rfl) ?_
  intro p e s m below meth c ls F hr hlk hH hz hS hl
  have hl : lv_has ls 2 [(0, .ref a), (1, .int (iI wn))] := hl
  have hS : va_S (gA g) s.heap s.heap [] := hS
  obtain ⟨H, hHe⟩ : ∃ H : Heap, H = s.heap := ⟨_, rfl⟩
  obtain ⟨locs, hlo⟩ : ∃ k : List Loc, k = [] := ⟨_, rfl⟩
  have hH : gH g I R J AI AJ AR H := by rw [hHe]; exact hH
  have hS : va_S (gA g) s.heap H locs := by rw [hHe, hlo]; exact hS
  suffices hw : W p l e rmX1_isWord s m ([.ref a, .int (iI wn)] : List Value).toArray below meth c H locs 0 0 (MQ below (gQi g (fun (z : Int) (w : gS) => I = w.1 ∧ R = w.2.1 ∧ J = w.2.2.1 ∧ AI = w.2.2.2.1 ∧ AJ = w.2.2.2.2.1 ∧ AR = w.2.2.2.2.2 ∧ (z = 0 ∨ z = 1))) ([.ref a, .int (iI wn)] : List Value).toArray s 0 0 (gA g)) (F0 m 0 ls []) by
    rw [hHe, hlo] at hw; exact hw
  clear hHe hlo
  have iX5 : ∀ w ∈ u_ws RX5 TX5 5, w ∈ wsX1_isWord := (by decide +kernel)
  have iX1 : ∀ w ∈ u_ws RX1 TX1 4, w ∈ wsX1_isWord := (by decide +kernel)
  have k12 : Cond.fieldLink RX1 12 (TX1 0).1 (TX1 0).2.1 (TX1 0).2.2.1 ∈ wsX1_isWord := List.mem_of_getElem? (i := 1) rfl
  have k71 : Cond.fieldLink RX1 71 (TX5 2).1 (TX5 2).2.1 (TX5 2).2.2.1 ∈ wsX1_isWord := List.mem_of_getElem? (i := 2) rfl
  have k44 : Cond.fieldLink RX1 44 (TX1 3).1 (TX1 3).2.1 (TX1 3).2.2.1 ∈ wsX1_isWord := List.mem_of_getElem? (i := 3) rfl
  refine lv_aload_n F.1 F.2.1 dX1_isWord_0 rfl (lv_at hl 0 rfl) ?_
  refine z_iconst F dX1_isWord_1 ?_
  refine g_calli (g_runV (As := [.int (iI 3)]) (rest := []) (ci := 1) F hl.1 hH hS hz (c_X1_isKind l g gh I R J AI AJ AR a 3 ⟨by decide, by decide⟩ hv h1 (by first | exact hp.2.2.2.2.2.2.2 | exact hh | omega)) (cwV 1 F.2.2.2.2.1 gX1_isWord_X1_isKind rfl rfl rfl hdX1_isKind ⟨Nat.le_of_ble_eq_true rfl, Nat.le_of_ble_eq_true rfl⟩) h1 (by decide) rfl rfl rfl (Nat.le_of_ble_eq_true rfl) dX1_isWord_2 ⟨Nat.zero_le _, Nat.zero_le _⟩) hS (fun v_7 I_1 R_2 J_3 AI_4 AJ_5 AR_6 H locs zv_7 hp_8 hH hS => ?_)
  dsimp only at hp_8
  obtain ⟨rfl, rfl, rfl, rfl, rfl, rfl, q_9⟩ := hp_8
  refine z_if_eq (tgt := 28) F dX1_isWord_5 (by decide) zv_7 (fun c_10 => ?_) (fun c_10 => ?_)
  · refine z_iconst F dX1_isWord_28 ?_
    exact g_zret F hr hlk hH hS hz (by omega) ⟨rfl, rfl, rfl, rfl, rfl, rfl, by first | omega | (dsimp only; omega)⟩ dX1_isWord_29
  · refine lv_aload_n F.1 F.2.1 dX1_isWord_8 rfl (lv_at hl 0 rfl) ?_
    refine g_getR (ci := 1) (k := 0) F hH rfl (by decide) iX1 h1 (by decide) rfl (b := gh 22 0) (gR_pr0 hv h1).1 k12 dX1_isWord_9 ?_
    obtain ⟨r_11a, r_11b⟩ := gR_tk2 hv (gR_pr0 hv h1).2
    refine g_getR (ci := 5) (k := 2) F hH rfl (by decide) iX5 (gR_pr0 hv h1).2 (by decide) rfl (b := gh 26 0) r_11a k71 dX1_isWord_12 ?_
    refine lv_aload_n F.1 F.2.1 dX1_isWord_15 rfl (lv_at hl 0 rfl) ?_
    refine g_getI (ci := 1) (k := 3) F hH rfl (by decide) iX1 h1 (by decide) rfl k44 dX1_isWord_16 ?_
    have b_12 := gI_pr hv h1
    have b_12t := gI_tk hv (gR_pr0 hv h1).2
    have hx19 : 0 ≤ ((I a 3).toInt) ∧ ((I a 3).toInt) < ((901 : Nat) : Int) ∧ ((I a 3).toInt) ≤ 2147483647 := ⟨by omega, by omega, by omega⟩
    refine g_iald F hH r_11b hx19.1 hx19.2.1 hx19.2.2 dX1_isWord_19 ?_
    refine z_name (fun v_13 ev_13 => ?_)
    have zv_13 : zr v_13 := by rw [ev_13]; exact zr_t _
    refine lv_iload_n F.1 F.2.1 dX1_isWord_20 rfl (lv_at hl 1 rfl) ?_
    refine z_icmp_ne (tgt := 28) F dX1_isWord_21 (by decide) zv_13 zwn (fun c_14 => ?_) (fun c_14 => ?_)
    · refine z_iconst F dX1_isWord_28 ?_
      exact g_zret F hr hlk hH hS hz (by omega) ⟨rfl, rfl, rfl, rfl, rfl, rfl, by first | omega | (dsimp only; omega)⟩ dX1_isWord_29
    · refine z_iconst F dX1_isWord_24 ?_
      refine z_goto (tgt := 29) F dX1_isWord_25 (by decide) ?_
      exact g_zret F hr hlk hH hS hz (by omega) ⟨rfl, rfl, rfl, rfl, rfl, rfl, by first | omega | (dsimp only; omega)⟩ dX1_isWord_29

def rmX1_step : Room := { frames := 0, cells := 0, slots := 0, locals := 0 }
theorem hdX1_step : yX1_step.cls = RX1 ∧ yX1_step.cls ≠ "java/lang/invoke/MethodHandle" ∧ yX1_step.cls ≠ "java/lang/invoke/VarHandle" ∧ (parseMethodDescriptor yX1_step.desc).map (fun d => d.parameters.length) = some 0 := by decide +kernel
set_option maxHeartbeats 4000000 in
set_option maxRecDepth 100000 in
/-- the next token -/
theorem c_X1_step (l : Launch) (g : gG) (gh : gGh) (I : gI) (R : gR) (J : gJ) (AI : gI) (AJ : gJ) (AR : gR) (a : Nat) (hv : gInv g gh R AR I AI) (h1 : gO g a 1) (hh : (I a 3).toInt < (I (gh 22 0) 4).toInt) : gMet l g yX1_step wsX1_step rmX1_step [.ref a] (I, R, J, AI, AJ, AR) (gQv g (fun w : gS => R = w.2.1 ∧ J = w.2.2.1 ∧ AI = w.2.2.2.1 ∧ AJ = w.2.2.2.2.1 ∧ AR = w.2.2.2.2.2 ∧ (gInv g gh R AR (w.1) AI) ∧ (∀ b, b ≠ a → (w.1) b = I b) ∧ (((w.1) a 3).toInt < (I (gh 22 0) 4).toInt))) := by
  refine gStart (cc := cX1_step) (maxL := 1) (ret := none) (by decide) rfl (Nat.le_of_ble_eq_true rfl) ?_
  intro p e s m below meth c ls F hr hlk hH hz hS hl
  have hl : lv_has ls 1 [(0, .ref a)] := hl
  have hS : va_S (gA g) s.heap s.heap [] := hS
  obtain ⟨H, hHe⟩ : ∃ H : Heap, H = s.heap := ⟨_, rfl⟩
  obtain ⟨locs, hlo⟩ : ∃ k : List Loc, k = [] := ⟨_, rfl⟩
  have hH : gH g I R J AI AJ AR H := by rw [hHe]; exact hH
  have hS : va_S (gA g) s.heap H locs := by rw [hHe, hlo]; exact hS
  suffices hw : W p l e rmX1_step s m ([.ref a] : List Value).toArray below meth c H locs 0 0 (MQ below (gQv g (fun w : gS => R = w.2.1 ∧ J = w.2.2.1 ∧ AI = w.2.2.2.1 ∧ AJ = w.2.2.2.2.1 ∧ AR = w.2.2.2.2.2 ∧ (gInv g gh R AR (w.1) AI) ∧ (∀ b, b ≠ a → (w.1) b = I b) ∧ (((w.1) a 3).toInt < (I (gh 22 0) 4).toInt))) ([.ref a] : List Value).toArray s 0 0 (gA g)) (F0 m 0 ls []) by
    rw [hHe, hlo] at hw; exact hw
  clear hHe hlo
  have iX5 : ∀ w ∈ u_ws RX5 TX5 5, w ∈ wsX1_step := (by decide +kernel)
  have iX1 : ∀ w ∈ u_ws RX1 TX1 4, w ∈ wsX1_step := (by decide +kernel)
  have k44 : Cond.fieldLink RX1 44 (TX1 3).1 (TX1 3).2.1 (TX1 3).2.2.1 ∈ wsX1_step := List.mem_of_getElem? (i := 1) rfl
  have k12 : Cond.fieldLink RX1 12 (TX1 0).1 (TX1 0).2.1 (TX1 0).2.2.1 ∈ wsX1_step := List.mem_of_getElem? (i := 2) rfl
  have k74 : Cond.fieldLink RX1 74 (TX5 4).1 (TX5 4).2.1 (TX5 4).2.2.1 ∈ wsX1_step := List.mem_of_getElem? (i := 3) rfl
  refine lv_aload_n F.1 F.2.1 dX1_step_0 rfl (lv_at hl 0 rfl) ?_
  refine g_getI (ci := 1) (k := 3) F hH rfl (by decide) iX1 h1 (by decide) rfl k44 dX1_step_1 ?_
  have b_1 := gI_pr hv h1
  have b_1t := gI_tk hv (gR_pr0 hv h1).2
  refine lv_aload_n F.1 F.2.1 dX1_step_4 rfl (lv_at hl 0 rfl) ?_
  refine g_getR (ci := 1) (k := 0) F hH rfl (by decide) iX1 h1 (by decide) rfl (b := gh 22 0) (gR_pr0 hv h1).1 k12 dX1_step_5 ?_
  refine g_getI (ci := 5) (k := 4) F hH rfl (by decide) iX5 (gR_pr0 hv h1).2 (by decide) rfl k74 dX1_step_8 ?_
  have b_2 := gI_tk hv (gR_pr0 hv h1).2
  refine z_iconst F dX1_step_11 ?_
  refine z_isub F dX1_step_12 ?_
  refine z_icmp_ge (tgt := 26) F dX1_step_13 (by decide) (zr_t _) ⟨by omega, by omega⟩ (fun c_3 => ?_) (fun c_3 => ?_)
  · exact g_vret F hr hlk hH hS hz ⟨rfl, rfl, rfl, rfl, rfl, hv, fun _ _ => rfl, by first | omega | (dsimp only; omega)⟩ dX1_step_26
  · refine lv_aload_n F.1 F.2.1 dX1_step_16 rfl (lv_at hl 0 rfl) ?_
    refine lv_dup F.1 F.2.1 dX1_step_17 rfl ?_
    refine g_getI (ci := 1) (k := 3) F hH rfl (by decide) iX1 h1 (by decide) rfl k44 dX1_step_18 ?_
    refine z_iconst F dX1_step_21 ?_
    refine z_iadd F dX1_step_22 ?_
    refine g_putI (ci := 1) (k := 3) F hH hS rfl (by decide) iX1 h1 (by decide) tyX1 tyX1_ok nmX1 rfl rfl rfl k44 dX1_step_23 (fun H locs hH hS => ?_)
    obtain ⟨I_4, eI_4⟩ : ∃ q, q = gup2 I a 3 (iI (((I a 3).toInt) + 1)) := ⟨_, rfl⟩
    rw [← eI_4] at hH
    have kI_4 : ∀ b, b ≠ a → I_4 b = I b := fun b hb => by rw [eI_4]; exact funext fun j => gup2_a _ _ hb
    have w3 : (I_4 a 3).toInt = ((I a 3).toInt) + 1 := by rw [eI_4, gup2_s]; exact iI_val ⟨by omega, by omega⟩
    have hv : gInv g gh R AR I_4 AI := by rw [eI_4]; exact gInv_here hv h1 (by omega) (by omega)
    exact g_vret F hr hlk hH hS hz ⟨rfl, rfl, rfl, rfl, rfl, hv, fun b hb => kI_4 b hb, by first | omega | (dsimp only; omega)⟩ dX1_step_26

def rmX1_seeColumn : Room := { frames := 1, cells := 0, slots := 0, locals := 21 }
theorem hdX1_seeColumn : yX1_seeColumn.cls = RX1 ∧ yX1_seeColumn.cls ≠ "java/lang/invoke/MethodHandle" ∧ yX1_seeColumn.cls ≠ "java/lang/invoke/VarHandle" ∧ (parseMethodDescriptor yX1_seeColumn.desc).map (fun d => d.parameters.length) = some 1 := by decide +kernel
set_option maxHeartbeats 4000000 in
set_option maxRecDepth 100000 in
/-- a column is here -/
theorem c_X1_seeColumn (l : Launch) (g : gG) (gh : gGh) (I : gI) (R : gR) (J : gJ) (AI : gI) (AJ : gJ) (AR : gR) (a : Nat) (cols : Int) (zcols : zr cols) (hv : gInv g gh R AR I AI) (h1 : gO g a 1) (hh : (I a 3).toInt < (I (gh 22 0) 4).toInt) : gMet l g yX1_seeColumn wsX1_seeColumn rmX1_seeColumn [.ref a, .int (iI cols)] (I, R, J, AI, AJ, AR) (gQi g (fun (z : Int) (w : gS) => I = w.1 ∧ R = w.2.1 ∧ J = w.2.2.1 ∧ AI = w.2.2.2.1 ∧ AJ = w.2.2.2.2.1 ∧ AR = w.2.2.2.2.2 ∧ (0 ≤ z ∧ z ≤ 2) ∧ (z = 0 → 0 ≤ (AI (gh 26 0) (I a 3).toInt.toNat).toInt ∧ (AI (gh 26 0) (I a 3).toInt.toNat).toInt ≤ 3))) := by
  refine gStart (cc := cX1_seeColumn) (maxL := 2) (ret := (some (.int))) (by decide) rfl (Nat.le_of_ble_eq_true rfl) ?_
  intro p e s m below meth c ls F hr hlk hH hz hS hl
  have hl : lv_has ls 2 [(0, .ref a), (1, .int (iI cols))] := hl
  have hS : va_S (gA g) s.heap s.heap [] := hS
  obtain ⟨H, hHe⟩ : ∃ H : Heap, H = s.heap := ⟨_, rfl⟩
  obtain ⟨locs, hlo⟩ : ∃ k : List Loc, k = [] := ⟨_, rfl⟩
  have hH : gH g I R J AI AJ AR H := by rw [hHe]; exact hH
  have hS : va_S (gA g) s.heap H locs := by rw [hHe, hlo]; exact hS
  suffices hw : W p l e rmX1_seeColumn s m ([.ref a, .int (iI cols)] : List Value).toArray below meth c H locs 0 0 (MQ below (gQi g (fun (z : Int) (w : gS) => I = w.1 ∧ R = w.2.1 ∧ J = w.2.2.1 ∧ AI = w.2.2.2.1 ∧ AJ = w.2.2.2.2.1 ∧ AR = w.2.2.2.2.2 ∧ (0 ≤ z ∧ z ≤ 2) ∧ (z = 0 → 0 ≤ (AI (gh 26 0) (I a 3).toInt.toNat).toInt ∧ (AI (gh 26 0) (I a 3).toInt.toNat).toInt ≤ 3))) ([.ref a, .int (iI cols)] : List Value).toArray s 0 0 (gA g)) (F0 m 0 ls []) by
    rw [hHe, hlo] at hw; exact hw
  clear hHe hlo
  have iX5 : ∀ w ∈ u_ws RX5 TX5 5, w ∈ wsX1_seeColumn := (by decide +kernel)
  have iX1 : ∀ w ∈ u_ws RX1 TX1 4, w ∈ wsX1_seeColumn := (by decide +kernel)
  have k12 : Cond.fieldLink RX1 12 (TX1 0).1 (TX1 0).2.1 (TX1 0).2.2.1 ∈ wsX1_seeColumn := List.mem_of_getElem? (i := 1) rfl
  have k71 : Cond.fieldLink RX1 71 (TX5 2).1 (TX5 2).2.1 (TX5 2).2.2.1 ∈ wsX1_seeColumn := List.mem_of_getElem? (i := 2) rfl
  have k44 : Cond.fieldLink RX1 44 (TX1 3).1 (TX1 3).2.1 (TX1 3).2.2.1 ∈ wsX1_seeColumn := List.mem_of_getElem? (i := 3) rfl
  refine lv_aload_n F.1 F.2.1 dX1_seeColumn_0 rfl (lv_at hl 0 rfl) ?_
  refine z_iconst F dX1_seeColumn_1 ?_
  refine g_calli (g_runV (As := [.int (iI 2)]) (rest := []) (ci := 1) F hl.1 hH hS hz (c_X1_isKind l g gh I R J AI AJ AR a 2 ⟨by decide, by decide⟩ hv h1 (by first | exact hp.2.2.2.2.2.2.2 | exact hh | omega)) (cwV 1 F.2.2.2.2.1 gX1_seeColumn_X1_isKind rfl rfl rfl hdX1_isKind ⟨Nat.le_of_ble_eq_true rfl, Nat.le_of_ble_eq_true rfl⟩) h1 (by decide) rfl rfl rfl (Nat.le_of_ble_eq_true rfl) dX1_seeColumn_2 ⟨Nat.zero_le _, Nat.zero_le _⟩) hS (fun v_7 I_1 R_2 J_3 AI_4 AJ_5 AR_6 H locs zv_7 hp_8 hH hS => ?_)
  dsimp only at hp_8
  obtain ⟨rfl, rfl, rfl, rfl, rfl, rfl, q_9⟩ := hp_8
  refine z_if_ne (tgt := 10) F dX1_seeColumn_5 (by decide) zv_7 (fun c_10 => ?_) (fun c_10 => ?_)
  · refine lv_aload_n F.1 F.2.1 dX1_seeColumn_10 rfl (lv_at hl 0 rfl) ?_
    refine g_getR (ci := 1) (k := 0) F hH rfl (by decide) iX1 h1 (by decide) rfl (b := gh 22 0) (gR_pr0 hv h1).1 k12 dX1_seeColumn_11 ?_
    obtain ⟨r_11a, r_11b⟩ := gR_tk2 hv (gR_pr0 hv h1).2
    refine g_getR (ci := 5) (k := 2) F hH rfl (by decide) iX5 (gR_pr0 hv h1).2 (by decide) rfl (b := gh 26 0) r_11a k71 dX1_seeColumn_14 ?_
    refine lv_aload_n F.1 F.2.1 dX1_seeColumn_17 rfl (lv_at hl 0 rfl) ?_
    refine g_getI (ci := 1) (k := 3) F hH rfl (by decide) iX1 h1 (by decide) rfl k44 dX1_seeColumn_18 ?_
    have b_12 := gI_pr hv h1
    have b_12t := gI_tk hv (gR_pr0 hv h1).2
    have hx21 : 0 ≤ ((I a 3).toInt) ∧ ((I a 3).toInt) < ((901 : Nat) : Int) ∧ ((I a 3).toInt) ≤ 2147483647 := ⟨by omega, by omega, by omega⟩
    refine g_iald F hH r_11b hx21.1 hx21.2.1 hx21.2.2 dX1_seeColumn_21 ?_
    refine z_name (fun v_13 ev_13 => ?_)
    have zv_13 : zr v_13 := by rw [ev_13]; exact zr_t _
    refine lv_iload_n F.1 F.2.1 dX1_seeColumn_22 rfl (lv_at hl 1 rfl) ?_
    refine z_icmp_lt (tgt := 30) F dX1_seeColumn_23 (by decide) zv_13 zcols (fun c_14 => ?_) (fun c_14 => ?_)
    · refine z_iconst F dX1_seeColumn_30 ?_
      exact g_iret F hr hlk hH hS hz ⟨by decide, by decide⟩ ⟨rfl, rfl, rfl, rfl, rfl, rfl, by first | omega | (dsimp only; omega), fun _ => gC_tok hv (gR_pr0 hv h1).2 (z := (I a 3).toInt) (by omega) (by omega) (by omega)⟩ dX1_seeColumn_31
    · refine z_iconst F dX1_seeColumn_26 ?_
      refine z_goto (tgt := 31) F dX1_seeColumn_27 (by decide) ?_
      exact g_iret F hr hlk hH hS hz ⟨by decide, by decide⟩ ⟨rfl, rfl, rfl, rfl, rfl, rfl, by first | omega | (dsimp only; omega), fun _ => gC_tok hv (gR_pr0 hv h1).2 (z := (I a 3).toInt) (by omega) (by omega) (by omega)⟩ dX1_seeColumn_31
  · refine z_iconst F dX1_seeColumn_8 ?_
    exact g_iret F hr hlk hH hS hz ⟨by decide, by decide⟩ ⟨rfl, rfl, rfl, rfl, rfl, rfl, by first | omega | (dsimp only; omega), fun h => absurd h (by omega)⟩ dX1_seeColumn_9

def rmX1_takeKind : Room := { frames := 1, cells := 0, slots := 0, locals := 21 }
theorem hdX1_takeKind : yX1_takeKind.cls = RX1 ∧ yX1_takeKind.cls ≠ "java/lang/invoke/MethodHandle" ∧ yX1_takeKind.cls ≠ "java/lang/invoke/VarHandle" ∧ (parseMethodDescriptor yX1_takeKind.desc).map (fun d => d.parameters.length) = some 1 := by decide +kernel
set_option maxHeartbeats 4000000 in
set_option maxRecDepth 100000 in
/-- takes a kind -/
theorem c_X1_takeKind (l : Launch) (g : gG) (gh : gGh) (q ln : Nat) (I : gI) (R : gR) (J : gJ) (AI : gI) (AJ : gJ) (AR : gR) (a : Nat) (kd : Int) (zkd : zr kd) (hv : gInv g gh R AR I AI) (hp : pS g gh R I a q ln) : gMet l g yX1_takeKind wsX1_takeKind rmX1_takeKind [.ref a, .int (iI kd)] (I, R, J, AI, AJ, AR) (gQi g (fun (z : Int) (w : gS) => R = w.2.1 ∧ J = w.2.2.1 ∧ AI = w.2.2.2.1 ∧ AJ = w.2.2.2.2.1 ∧ AR = w.2.2.2.2.2 ∧ (gInv g gh R AR (w.1) AI) ∧ (pS g gh R (w.1) a q ln) ∧ (pF a ln I (w.1)) ∧ ((w.1) ln = I ln) ∧ (z = 0 ∨ z = 1))) := by
  refine gStart (cc := cX1_takeKind) (maxL := 2) (ret := (some (.int))) (by decide) rfl (Nat.le_of_ble_eq_true rfl) ?_
  intro p e s m below meth c ls F hr hlk hH hz hS hl
  have hl : lv_has ls 2 [(0, .ref a), (1, .int (iI kd))] := hl
  have hS : va_S (gA g) s.heap s.heap [] := hS
  obtain ⟨H, hHe⟩ : ∃ H : Heap, H = s.heap := ⟨_, rfl⟩
  obtain ⟨locs, hlo⟩ : ∃ k : List Loc, k = [] := ⟨_, rfl⟩
  have hH : gH g I R J AI AJ AR H := by rw [hHe]; exact hH
  have hS : va_S (gA g) s.heap H locs := by rw [hHe, hlo]; exact hS
  suffices hw : W p l e rmX1_takeKind s m ([.ref a, .int (iI kd)] : List Value).toArray below meth c H locs 0 0 (MQ below (gQi g (fun (z : Int) (w : gS) => R = w.2.1 ∧ J = w.2.2.1 ∧ AI = w.2.2.2.1 ∧ AJ = w.2.2.2.2.1 ∧ AR = w.2.2.2.2.2 ∧ (gInv g gh R AR (w.1) AI) ∧ (pS g gh R (w.1) a q ln) ∧ (pF a ln I (w.1)) ∧ ((w.1) ln = I ln) ∧ (z = 0 ∨ z = 1))) ([.ref a, .int (iI kd)] : List Value).toArray s 0 0 (gA g)) (F0 m 0 ls []) by
    rw [hHe, hlo] at hw; exact hw
  clear hHe hlo
  have pf : pF a ln I I := pF_r
  refine lv_aload_n F.1 F.2.1 dX1_takeKind_0 rfl (lv_at hl 0 rfl) ?_
  refine lv_iload_n F.1 F.2.1 dX1_takeKind_1 rfl (lv_at hl 1 rfl) ?_
  refine g_calli (g_runV (As := [.int (iI kd)]) (rest := []) (ci := 1) F hl.1 hH hS hz (c_X1_isKind l g gh I R J AI AJ AR a kd zkd hv hp.1 (by first | exact hp.2.2.2.2.2.2.2 | exact hh | omega)) (cwV 1 F.2.2.2.2.1 gX1_takeKind_X1_isKind rfl rfl rfl hdX1_isKind ⟨Nat.le_of_ble_eq_true rfl, Nat.le_of_ble_eq_true rfl⟩) hp.1 (by decide) rfl rfl rfl (Nat.le_of_ble_eq_true rfl) dX1_takeKind_2 ⟨Nat.zero_le _, Nat.zero_le _⟩) hS (fun v_7 I_1 R_2 J_3 AI_4 AJ_5 AR_6 H locs zv_7 hp_8 hH hS => ?_)
  dsimp only at hp_8
  obtain ⟨rfl, rfl, rfl, rfl, rfl, rfl, q_9⟩ := hp_8
  refine z_if_ne (tgt := 10) F dX1_takeKind_5 (by decide) zv_7 (fun c_10 => ?_) (fun c_10 => ?_)
  · refine lv_aload_n F.1 F.2.1 dX1_takeKind_10 rfl (lv_at hl 0 rfl) ?_
    have hv0 := hv
    refine g_callv (g_runV (As := []) (rest := []) (ci := 1) F hl.1 hH hS hz (c_X1_step l g gh I R J AI AJ AR a hv hp.1 (by first | exact hp.2.2.2.2.2.2.2 | exact hh | omega)) (cwV 0 F.2.2.2.2.1 gX1_takeKind_X1_step rfl rfl rfl hdX1_step ⟨Nat.le_of_ble_eq_true rfl, Nat.le_of_ble_eq_true rfl⟩) hp.1 (by decide) rfl rfl rfl (Nat.le_of_ble_eq_true rfl) dX1_takeKind_11 ⟨Nat.zero_le _, Nat.zero_le _⟩) hS (fun I_11 R_12 J_13 AI_14 AJ_15 AR_16 H locs hp_17 hH hS => ?_)
    dsimp only at hp_17
    obtain ⟨rfl, rfl, rfl, rfl, rfl, hv, fs, hs⟩ := hp_17
    obtain ⟨hp, pfq, fls⟩ := pS_step hv0 hp fs hs
    have pf := pF_t pf pfq
    have u_18q : (I_11 q 1).toInt = (I q 1).toInt := by rw [pF_q hp pfq]
    have u_18_0 : (I_11 ln 0).toInt = (I ln 0).toInt := by rw [fls]
    have u_18_8 : (I_11 ln 8).toInt = (I ln 8).toInt := by rw [fls]
    refine z_iconst F dX1_takeKind_14 ?_
    exact g_iret F hr hlk hH hS hz ⟨by decide, by decide⟩ ⟨rfl, rfl, rfl, rfl, rfl, hv, hp, pf, fls, by first | omega | (dsimp only; omega)⟩ dX1_takeKind_15
  · refine z_iconst F dX1_takeKind_8 ?_
    exact g_iret F hr hlk hH hS hz ⟨by decide, by decide⟩ ⟨rfl, rfl, rfl, rfl, rfl, hv, hp, pf, rfl, by first | omega | (dsimp only; omega)⟩ dX1_takeKind_9

def rmX1_takeWord : Room := { frames := 2, cells := 0, slots := 0, locals := 42 }
theorem hdX1_takeWord : yX1_takeWord.cls = RX1 ∧ yX1_takeWord.cls ≠ "java/lang/invoke/MethodHandle" ∧ yX1_takeWord.cls ≠ "java/lang/invoke/VarHandle" ∧ (parseMethodDescriptor yX1_takeWord.desc).map (fun d => d.parameters.length) = some 1 := by decide +kernel
set_option maxHeartbeats 4000000 in
set_option maxRecDepth 100000 in
/-- takes a word -/
theorem c_X1_takeWord (l : Launch) (g : gG) (gh : gGh) (q ln : Nat) (I : gI) (R : gR) (J : gJ) (AI : gI) (AJ : gJ) (AR : gR) (a : Nat) (wn : Int) (zwn : zr wn) (hv : gInv g gh R AR I AI) (hp : pS g gh R I a q ln) : gMet l g yX1_takeWord wsX1_takeWord rmX1_takeWord [.ref a, .int (iI wn)] (I, R, J, AI, AJ, AR) (gQi g (fun (z : Int) (w : gS) => R = w.2.1 ∧ J = w.2.2.1 ∧ AI = w.2.2.2.1 ∧ AJ = w.2.2.2.2.1 ∧ AR = w.2.2.2.2.2 ∧ (gInv g gh R AR (w.1) AI) ∧ (pS g gh R (w.1) a q ln) ∧ (pF a ln I (w.1)) ∧ ((w.1) ln = I ln) ∧ (z = 0 ∨ z = 1))) := by
  refine gStart (cc := cX1_takeWord) (maxL := 2) (ret := (some (.int))) (by decide) rfl (Nat.le_of_ble_eq_true rfl) ?_
  intro p e s m below meth c ls F hr hlk hH hz hS hl
  have hl : lv_has ls 2 [(0, .ref a), (1, .int (iI wn))] := hl
  have hS : va_S (gA g) s.heap s.heap [] := hS
  obtain ⟨H, hHe⟩ : ∃ H : Heap, H = s.heap := ⟨_, rfl⟩
  obtain ⟨locs, hlo⟩ : ∃ k : List Loc, k = [] := ⟨_, rfl⟩
  have hH : gH g I R J AI AJ AR H := by rw [hHe]; exact hH
  have hS : va_S (gA g) s.heap H locs := by rw [hHe, hlo]; exact hS
  suffices hw : W p l e rmX1_takeWord s m ([.ref a, .int (iI wn)] : List Value).toArray below meth c H locs 0 0 (MQ below (gQi g (fun (z : Int) (w : gS) => R = w.2.1 ∧ J = w.2.2.1 ∧ AI = w.2.2.2.1 ∧ AJ = w.2.2.2.2.1 ∧ AR = w.2.2.2.2.2 ∧ (gInv g gh R AR (w.1) AI) ∧ (pS g gh R (w.1) a q ln) ∧ (pF a ln I (w.1)) ∧ ((w.1) ln = I ln) ∧ (z = 0 ∨ z = 1))) ([.ref a, .int (iI wn)] : List Value).toArray s 0 0 (gA g)) (F0 m 0 ls []) by
    rw [hHe, hlo] at hw; exact hw
  clear hHe hlo
  have pf : pF a ln I I := pF_r
  refine lv_aload_n F.1 F.2.1 dX1_takeWord_0 rfl (lv_at hl 0 rfl) ?_
  refine lv_iload_n F.1 F.2.1 dX1_takeWord_1 rfl (lv_at hl 1 rfl) ?_
  refine g_calli (g_runV (As := [.int (iI wn)]) (rest := []) (ci := 1) F hl.1 hH hS hz (c_X1_isWord l g gh I R J AI AJ AR a wn zwn hv hp.1 (by first | exact hp.2.2.2.2.2.2.2 | exact hh | omega)) (cwV 1 F.2.2.2.2.1 gX1_takeWord_X1_isWord rfl rfl rfl hdX1_isWord ⟨Nat.le_of_ble_eq_true rfl, Nat.le_of_ble_eq_true rfl⟩) hp.1 (by decide) rfl rfl rfl (Nat.le_of_ble_eq_true rfl) dX1_takeWord_2 ⟨Nat.zero_le _, Nat.zero_le _⟩) hS (fun v_7 I_1 R_2 J_3 AI_4 AJ_5 AR_6 H locs zv_7 hp_8 hH hS => ?_)
  dsimp only at hp_8
  obtain ⟨rfl, rfl, rfl, rfl, rfl, rfl, q_9⟩ := hp_8
  refine z_if_ne (tgt := 10) F dX1_takeWord_5 (by decide) zv_7 (fun c_10 => ?_) (fun c_10 => ?_)
  · refine lv_aload_n F.1 F.2.1 dX1_takeWord_10 rfl (lv_at hl 0 rfl) ?_
    have hv0 := hv
    refine g_callv (g_runV (As := []) (rest := []) (ci := 1) F hl.1 hH hS hz (c_X1_step l g gh I R J AI AJ AR a hv hp.1 (by first | exact hp.2.2.2.2.2.2.2 | exact hh | omega)) (cwV 0 F.2.2.2.2.1 gX1_takeWord_X1_step rfl rfl rfl hdX1_step ⟨Nat.le_of_ble_eq_true rfl, Nat.le_of_ble_eq_true rfl⟩) hp.1 (by decide) rfl rfl rfl (Nat.le_of_ble_eq_true rfl) dX1_takeWord_11 ⟨Nat.zero_le _, Nat.zero_le _⟩) hS (fun I_11 R_12 J_13 AI_14 AJ_15 AR_16 H locs hp_17 hH hS => ?_)
    dsimp only at hp_17
    obtain ⟨rfl, rfl, rfl, rfl, rfl, hv, fs, hs⟩ := hp_17
    obtain ⟨hp, pfq, fls⟩ := pS_step hv0 hp fs hs
    have pf := pF_t pf pfq
    have u_18q : (I_11 q 1).toInt = (I q 1).toInt := by rw [pF_q hp pfq]
    have u_18_0 : (I_11 ln 0).toInt = (I ln 0).toInt := by rw [fls]
    have u_18_8 : (I_11 ln 8).toInt = (I ln 8).toInt := by rw [fls]
    refine z_iconst F dX1_takeWord_14 ?_
    exact g_iret F hr hlk hH hS hz ⟨by decide, by decide⟩ ⟨rfl, rfl, rfl, rfl, rfl, hv, hp, pf, fls, by first | omega | (dsimp only; omega)⟩ dX1_takeWord_15
  · refine z_iconst F dX1_takeWord_8 ?_
    exact g_iret F hr hlk hH hS hz ⟨by decide, by decide⟩ ⟨rfl, rfl, rfl, rfl, rfl, hv, hp, pf, rfl, by first | omega | (dsimp only; omega)⟩ dX1_takeWord_9
