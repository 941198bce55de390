def rmX6_takeNext : Room := { frames := 3, cells := 0, slots := 0, locals := 113 }
theorem hdX6_takeNext : yX6_takeNext.cls = RX6 ∧ yX6_takeNext.cls ≠ "java/lang/invoke/MethodHandle" ∧ yX6_takeNext.cls ≠ "java/lang/invoke/VarHandle" ∧ (parseMethodDescriptor yX6_takeNext.desc).map (fun d => d.parameters.length) = some 0 := by decide +kernel
set_option maxHeartbeats 4000000 in
set_option maxRecDepth 100000 in
/-- takes the next bags -/
theorem c_X6_takeNext (l : Launch) (g : gG) (gh : gGh) (pA bA nA : Nat) (I : gI) (R : gR) (J : gJ) (AI : gI) (AJ : gJ) (AR : gR) (x : Nat) (hv : gInv g gh R AR I AI) (hx : xS g gh R AR x pA bA nA) : gMet l g yX6_takeNext wsX6_takeNext rmX6_takeNext [.ref x] (I, R, J, AI, AJ, AR) (gQv g (fun w : gS => J = w.2.2.1 ∧ AJ = w.2.2.2.2.1 ∧ AR = w.2.2.2.2.2 ∧ (gInv g gh (w.2.1) AR (w.1) (w.2.2.2.1)) ∧ (rF g I (w.1)) ∧ (xS g gh (w.2.1) AR x pA nA bA) ∧ (∀ b k, b ≠ x ∨ (k ≠ 5 ∧ k ≠ 6) → (w.2.1) b k = R b k))) := by
  refine gStart (cc := cX6_takeNext) (maxL := 2) (ret := none) (by decide) rfl (Nat.le_of_ble_eq_true rfl) ?_
  intro p e s m below meth c ls F hr hlk hH hz hS hl
  have hl : lv_has ls 2 [(0, .ref x)] := hl
  have hS : va_S (gA g) s.heap s.heap [] := hS
  obtain ⟨H, hHe⟩ : ∃ H : Heap, H = s.heap := ⟨_, rfl⟩
  obtain ⟨locs, hlo⟩ : ∃ k : List Loc, k = [] := ⟨_, rfl⟩
  have hH : gH g I R J AI AJ AR H := by rw [hHe]; exact hH
  have hS : va_S (gA g) s.heap H locs := by rw [hHe, hlo]; exact hS
  suffices hw : W p l e rmX6_takeNext s m ([.ref x] : List Value).toArray below meth c H locs 0 0 (MQ below (gQv g (fun w : gS => J = w.2.2.1 ∧ AJ = w.2.2.2.2.1 ∧ AR = w.2.2.2.2.2 ∧ (gInv g gh (w.2.1) AR (w.1) (w.2.2.2.1)) ∧ (rF g I (w.1)) ∧ (xS g gh (w.2.1) AR x pA nA bA) ∧ (∀ b k, b ≠ x ∨ (k ≠ 5 ∧ k ≠ 6) → (w.2.1) b k = R b k))) ([.ref x] : List Value).toArray s 0 0 (gA g)) (F0 m 0 ls []) by
    rw [hHe, hlo] at hw; exact hw
  clear hHe hlo
  have rf : rF g I I := rF_r
  have iX6 : ∀ w ∈ u_ws RX6 TX6 18, w ∈ wsX6_takeNext := (by decide +kernel)
  have iX2 : ∀ w ∈ u_ws RX2 TX2 3, w ∈ wsX6_takeNext := (by decide +kernel)
  have k23 : Cond.fieldLink RX6 23 (TX6 3).1 (TX6 3).2.1 (TX6 3).2.2.1 ∈ wsX6_takeNext := List.mem_of_getElem? (i := 1) rfl
  have k96 : Cond.fieldLink RX6 96 (TX2 1).1 (TX2 1).2.1 (TX2 1).2.2.1 ∈ wsX6_takeNext := List.mem_of_getElem? (i := 2) rfl
  have k45 : Cond.fieldLink RX6 45 (TX6 7).1 (TX6 7).2.1 (TX6 7).2.2.1 ∈ wsX6_takeNext := List.mem_of_getElem? (i := 3) rfl
  have k42 : Cond.fieldLink RX6 42 (TX6 6).1 (TX6 6).2.1 (TX6 6).2.2.1 ∈ wsX6_takeNext := List.mem_of_getElem? (i := 4) rfl
  have k38 : Cond.fieldLink RX6 38 (TX6 5).1 (TX6 5).2.1 (TX6 5).2.2.1 ∈ wsX6_takeNext := List.mem_of_getElem? (i := 5) rfl
  refine z_iconst F dX6_takeNext_0 ?_
  refine lv_istore_n (lv' := [(1, .int (iI 0)), (0, .ref x)]) F.1 F.2.1 dX6_takeNext_1 rfl hl (by decide) rfl (fun ls hl => ?_)
  have cut_2_2 : ∀ (NN : Nat) (i : Int) (I_1 : gI) (AI_2 : gI) (H : Heap) (locs : List Loc) (ls : Array Slot), zr i → (gInv g gh R AR I_1 AI_2) → (rF g I I_1) → (0 ≤ i ∧ i ≤ 16) → (16 - i) < ((NN : Nat) : Int) → gH g I_1 R J AI_2 AJ AR H → va_S (gA g) s.heap H locs → lv_has ls 2 [(1, .int (iI i)), (0, .ref x)] → W p l e rmX6_takeNext s m ([.ref x] : List Value).toArray below meth c H locs 0 0 (MQ below (gQv g (fun w : gS => J = w.2.2.1 ∧ AJ = w.2.2.2.2.1 ∧ AR = w.2.2.2.2.2 ∧ (gInv g gh (w.2.1) AR (w.1) (w.2.2.2.1)) ∧ (rF g I (w.1)) ∧ (xS g gh (w.2.1) AR x pA nA bA) ∧ (∀ b k, b ≠ x ∨ (k ≠ 5 ∧ k ≠ 6) → (w.2.1) b k = R b k))) ([.ref x] : List Value).toArray s 0 0 (gA g)) (F0 m 2 ls []) := by
    intro NN2
    induction NN2 with
    | zero =>
      intro i I_1 AI_2 H locs ls zi hv rf hi hm2 hH hS hl
      exact absurd hm2 (by omega)
    | succ NN2 ih2 =>
      intro i I_1 AI_2 H locs ls zi hv rf hi hm2 hH hS hl
      refine lv_iload_n F.1 F.2.1 dX6_takeNext_2 rfl (lv_at hl 0 rfl) ?_
      refine lv_aload_n F.1 F.2.1 dX6_takeNext_3 rfl (lv_at hl 1 rfl) ?_
      refine g_getR (ci := 6) (k := 3) F hH rfl (by decide) iX6 hx.1 (by decide) rfl (b := pA) hx.2.1 k23 dX6_takeNext_4 ?_
      refine g_getI (ci := 2) (k := 1) F hH rfl (by decide) iX2 hx.2.2.1 (by decide) rfl k96 dX6_takeNext_7 ?_
      have b_4 := gI_plan hv hx.2.2.1
      refine z_icmp_ge (tgt := 42) F dX6_takeNext_10 (by decide) zi (zr_t _) (fun c_5 => ?_) (fun c_5 => ?_)
      · refine lv_aload_n F.1 F.2.1 dX6_takeNext_42 rfl (lv_at hl 1 rfl) ?_
        refine g_getR (ci := 6) (k := 5) F hH rfl (by decide) iX6 hx.1 (by decide) rfl (b := bA) hx.2.2.2.1 k38 dX6_takeNext_43 ?_
        refine lv_astore_n (lv' := [(1, .ref bA), (0, .ref x)]) F.1 F.2.1 dX6_takeNext_46 rfl hl (by decide) rfl (fun ls hl => ?_)
        refine lv_aload_n F.1 F.2.1 dX6_takeNext_47 rfl (lv_at hl 1 rfl) ?_
        refine lv_aload_n F.1 F.2.1 dX6_takeNext_48 rfl (lv_at hl 1 rfl) ?_
        refine g_getR (ci := 6) (k := 6) F hH rfl (by decide) iX6 hx.1 (by decide) rfl (b := nA) hx.2.2.2.2.2.1 k42 dX6_takeNext_49 ?_
        refine g_putR (ci := 6) (k := 5) F hH hS rfl (by decide) iX6 hx.1 (by decide) tyX6 tyX6_ok nmX6 rfl (ty := tyX6 5) rfl rfl rfl rfl k38 dX6_takeNext_52 (fun H locs hH hS => ?_)
        obtain ⟨R_6, eR_6⟩ : ∃ qQ, qQ = gup2 R x 5 (some (nA)) := ⟨_, rfl⟩
        rw [← eR_6] at hH
        have kR_6 : ∀ b, b ≠ x → R_6 b = R b := fun b hb => by rw [eR_6]; exact funext fun j => gup2_a _ _ hb
        have hv : gInv g gh R_6 AR I_1 AI_2 := by rw [eR_6]; exact gInv_Rx hv hx.1 (Or.inr ⟨Or.inl rfl, hx.2.2.2.2.2.2⟩)
        refine lv_aload_n F.1 F.2.1 dX6_takeNext_55 rfl (lv_at hl 1 rfl) ?_
        refine lv_aload_n F.1 F.2.1 dX6_takeNext_56 rfl (lv_at hl 0 rfl) ?_
        refine g_putR (ci := 6) (k := 6) F hH hS rfl (by decide) iX6 hx.1 (by decide) tyX6 tyX6_ok nmX6 rfl (ty := tyX6 6) rfl rfl rfl rfl k42 dX6_takeNext_57 (fun H locs hH hS => ?_)
        obtain ⟨R_7, eR_7⟩ : ∃ qQ, qQ = gup2 R_6 x 6 (some (bA)) := ⟨_, rfl⟩
        rw [← eR_7] at hH
        have kR_7 : ∀ b, b ≠ x → R_7 b = R_6 b := fun b hb => by rw [eR_7]; exact funext fun j => gup2_a _ _ hb
        have hv : gInv g gh R_7 AR I_1 AI_2 := by rw [eR_7]; exact gInv_Rx hv hx.1 (Or.inr ⟨Or.inr rfl, hx.2.2.2.2.1⟩)
        have xs2 : xS g gh R_7 AR x pA nA bA := ⟨hx.1, by rw [eR_7, gup2_k _ _ (by decide), eR_6, gup2_k _ _ (by decide)]; exact hx.2.1, hx.2.2.1, by rw [eR_7, gup2_k _ _ (by decide), eR_6, gup2_s], hx.2.2.2.2.2.2, by rw [eR_7, gup2_s], hx.2.2.2.2.1⟩
        have rk : ∀ b k, b ≠ x ∨ (k ≠ 5 ∧ k ≠ 6) → R_7 b k = R b k := fun b k h => by
          rw [eR_7, eR_6]
          rcases h with h | h
          · rw [gup2_a _ _ h, gup2_a _ _ h]
          · rw [gup2_k _ _ h.2, gup2_k _ _ h.1]
        exact g_vret F hr hlk hH hS hz ⟨rfl, rfl, rfl, hv, rf, xs2, rk⟩ dX6_takeNext_60
      · refine lv_aload_n F.1 F.2.1 dX6_takeNext_13 rfl (lv_at hl 1 rfl) ?_
        obtain ⟨r_8a, r_8b⟩ := gR_x7 hv hx.1
        refine g_getR (ci := 6) (k := 7) F hH rfl (by decide) iX6 hx.1 (by decide) rfl (b := gh 35 0) r_8a k45 dX6_takeNext_14 ?_
        refine lv_iload_n F.1 F.2.1 dX6_takeNext_17 rfl (lv_at hl 0 rfl) ?_
        have hx18 : 0 ≤ i ∧ i < ((16 : Nat) : Int) ∧ i ≤ 2147483647 := ⟨by omega, by omega, by omega⟩
        obtain ⟨y_9, y_9a, y_9b, y_9c, y_9d, y_9e⟩ := r_8b.2 (i).toNat (by omega)
        refine g_aldR F hH r_8b.1 hx18.1 hx18.2.1 hx18.2.2 (b := y_9) y_9a dX6_takeNext_18 ?_
        refine lv_aload_n F.1 F.2.1 dX6_takeNext_19 rfl (lv_at hl 1 rfl) ?_
        refine g_getR (ci := 6) (k := 6) F hH rfl (by decide) iX6 hx.1 (by decide) rfl (b := nA) hx.2.2.2.2.2.1 k42 dX6_takeNext_20 ?_
        refine lv_iload_n F.1 F.2.1 dX6_takeNext_23 rfl (lv_at hl 0 rfl) ?_
        have hx24 : 0 ≤ i ∧ i < ((16 : Nat) : Int) ∧ i ≤ 2147483647 := ⟨by omega, by omega, by omega⟩
        obtain ⟨y_10, y_10a, y_10b, y_10c, y_10d, y_10e⟩ := hx.2.2.2.2.2.2.2 (i).toNat (by omega)
        refine g_aldR F hH hx.2.2.2.2.2.2.1 hx24.1 hx24.2.1 hx24.2.2 (b := y_10) y_10a dX6_takeNext_24 ?_
        refine lv_aload_n F.1 F.2.1 dX6_takeNext_25 rfl (lv_at hl 1 rfl) ?_
        refine g_getR (ci := 6) (k := 5) F hH rfl (by decide) iX6 hx.1 (by decide) rfl (b := bA) hx.2.2.2.1 k38 dX6_takeNext_26 ?_
        refine lv_iload_n F.1 F.2.1 dX6_takeNext_29 rfl (lv_at hl 0 rfl) ?_
        have hx30 : 0 ≤ i ∧ i < ((16 : Nat) : Int) ∧ i ≤ 2147483647 := ⟨by omega, by omega, by omega⟩
        obtain ⟨y_11, y_11a, y_11b, y_11c, y_11d, y_11e⟩ := hx.2.2.2.2.1.2 (i).toNat (by omega)
        refine g_aldR F hH hx.2.2.2.2.1.1 hx30.1 hx30.2.1 hx30.2.2 (b := y_11) y_11a dX6_takeNext_30 ?_
        refine z_iconst F dX6_takeNext_31 ?_
        obtain ⟨b_12a, b_12b, b_12c, b_12d, b_12e, b_12f, b_12g, b_12h⟩ := gI_rows hv y_9b
        obtain ⟨b_13a, b_13b, b_13c, b_13d, b_13e, b_13f, b_13g, b_13h⟩ := gI_rows hv y_10b
        obtain ⟨b_14a, b_14b, b_14c, b_14d, b_14e, b_14f, b_14g, b_14h⟩ := gI_rows hv y_11b
        refine g_calli (g_runV (As := [.ref y_10, .ref y_11, .int (iI ((-1)))]) (rest := []) (ci := 4) F hl.1 hH hS hz (c_X4_gather l g gh I_1 R J AI_2 AJ AR y_9 y_10 y_11 (-1) ⟨by decide, by decide⟩ hv y_9b y_10b y_11b (by omega) (by omega)) (cwV 3 F.2.2.2.2.1 gX6_takeNext_X4_gather rfl rfl rfl hdX4_gather ⟨Nat.le_of_ble_eq_true rfl, Nat.le_of_ble_eq_true rfl⟩) y_9b (by decide) rfl rfl rfl (Nat.le_of_ble_eq_true rfl) dX6_takeNext_32 ⟨Nat.zero_le _, Nat.zero_le _⟩) hS (fun v_21 I_15 R_16 J_17 AI_18 AJ_19 AR_20 H locs zv_21 hp_22 hH hS => ?_)
        dsimp only at hp_22
        obtain ⟨rfl, rfl, rfl, rfl, hv, q_23, q_24⟩ := hp_22
        have rf := rF_t rf (rF_o y_9b q_23)
        have u_25p : I_15 pA = I pA := rf pA 2 hx.2.2.1 (by decide)
        have u_25p1 : (I_15 pA 1).toInt = (I pA 1).toInt := by rw [u_25p]
        have u_25p2 : (I_15 pA 2).toInt = (I pA 2).toInt := by rw [u_25p]
        refine lv_pop F.1 F.2.1 dX6_takeNext_35 rfl ?_
        refine z_iinc (lv' := [(1, .int (iI (i + 1))), (0, .ref x)]) F dX6_takeNext_36 hl (k := 0) rfl (by decide) rfl (fun ls hl => ?_)
        refine z_goto (tgt := 2) F dX6_takeNext_39 (by decide) ?_
        exact ih2 (i + 1) I_15 AI_18 H locs ls ⟨by omega, by omega⟩ hv rf (by omega) (by omega) hH hS (lv_sub hl [0, 1] rfl)
  exact cut_2_2 (((16 - 0) + 1 : Int).toNat) 0 I AI H locs ls ⟨by decide, by decide⟩ hv rf (by omega) (by omega) hH hS (lv_sub hl [0, 1] rfl)

def rmX6_undo : Room := { frames := 7, cells := 0, slots := 0, locals := 214 }
theorem hdX6_undo : yX6_undo.cls = RX6 ∧ yX6_undo.cls ≠ "java/lang/invoke/MethodHandle" ∧ yX6_undo.cls ≠ "java/lang/invoke/VarHandle" ∧ (parseMethodDescriptor yX6_undo.desc).map (fun d => d.parameters.length) = some 0 := by decide +kernel
set_option maxHeartbeats 4000000 in
set_option maxRecDepth 100000 in
/-- undo -/
theorem c_X6_undo (l : Launch) (g : gG) (gh : gGh) (pA bA nA : Nat) (I : gI) (R : gR) (J : gJ) (AI : gI) (AJ : gJ) (AR : gR) (x : Nat) (hv : gInv g gh R AR I AI) (hx : xS g gh R AR x pA bA nA) : gMet l g yX6_undo wsX6_undo rmX6_undo [.ref x] (I, R, J, AI, AJ, AR) (gQi g (fun (z : Int) (w : gS) => J = w.2.2.1 ∧ AJ = w.2.2.2.2.1 ∧ AR = w.2.2.2.2.2 ∧ (gInv g gh (w.2.1) AR (w.1) (w.2.2.2.1)) ∧ (xF g x I (w.1)) ∧ (∃ b1 n1, xS g gh (w.2.1) AR x pA b1 n1) ∧ (∀ b k, b ≠ x ∨ (k ≠ 5 ∧ k ≠ 6) → (w.2.1) b k = R b k) ∧ (-1 ≤ z ∧ z ≤ 8))) := by
  refine gStart (cc := cX6_undo) (maxL := 1) (ret := (some (.int))) (by decide) rfl (Nat.le_of_ble_eq_true rfl) ?_
  intro p e s m below meth c ls F hr hlk hH hz hS hl
  have hl : lv_has ls 1 [(0, .ref x)] := hl
  have hS : va_S (gA g) s.heap s.heap [] := hS
  obtain ⟨H, hHe⟩ : ∃ H : Heap, H = s.heap := ⟨_, rfl⟩
  obtain ⟨locs, hlo⟩ : ∃ k : List Loc, k = [] := ⟨_, rfl⟩
  have hH : gH g I R J AI AJ AR H := by rw [hHe]; exact hH
  have hS : va_S (gA g) s.heap H locs := by rw [hHe, hlo]; exact hS
  suffices hw : W p l e rmX6_undo s m ([.ref x] : List Value).toArray below meth c H locs 0 0 (MQ below (gQi g (fun (z : Int) (w : gS) => J = w.2.2.1 ∧ AJ = w.2.2.2.2.1 ∧ AR = w.2.2.2.2.2 ∧ (gInv g gh (w.2.1) AR (w.1) (w.2.2.2.1)) ∧ (xF g x I (w.1)) ∧ (∃ b1 n1, xS g gh (w.2.1) AR x pA b1 n1) ∧ (∀ b k, b ≠ x ∨ (k ≠ 5 ∧ k ≠ 6) → (w.2.1) b k = R b k) ∧ (-1 ≤ z ∧ z ≤ 8))) ([.ref x] : List Value).toArray s 0 0 (gA g)) (F0 m 0 ls []) by
    rw [hHe, hlo] at hw; exact hw
  clear hHe hlo
  have xf : xF g x I I := xF_r
  have iX6 : ∀ w ∈ u_ws RX6 TX6 18, w ∈ wsX6_undo := (by decide +kernel)
  have k100 : Cond.fieldLink RX6 100 (TX6 15).1 (TX6 15).2.1 (TX6 15).2.2.1 ∈ wsX6_undo := List.mem_of_getElem? (i := 1) rfl
  have k160 : Cond.fieldLink RX6 160 (TX6 14).1 (TX6 14).2.1 (TX6 14).2.2.1 ∈ wsX6_undo := List.mem_of_getElem? (i := 2) rfl
  have k74 : Cond.fieldLink RX6 74 (TX6 13).1 (TX6 13).2.1 (TX6 13).2.2.1 ∈ wsX6_undo := List.mem_of_getElem? (i := 3) rfl
  refine lv_aload_n F.1 F.2.1 dX6_undo_0 rfl (lv_at hl 0 rfl) ?_
  refine g_getI (ci := 6) (k := 15) F hH rfl (by decide) iX6 hx.1 (by decide) rfl k100 dX6_undo_1 ?_
  have b_1 := gI_x hv hx.1
  refine z_if_ne (tgt := 9) F dX6_undo_4 (by decide) (zr_t _) (fun c_2 => ?_) (fun c_2 => ?_)
  · refine lv_aload_n F.1 F.2.1 dX6_undo_9 rfl (lv_at hl 0 rfl) ?_
    refine lv_dup F.1 F.2.1 dX6_undo_10 rfl ?_
    refine g_getI (ci := 6) (k := 15) F hH rfl (by decide) iX6 hx.1 (by decide) rfl k100 dX6_undo_11 ?_
    refine z_iconst F dX6_undo_14 ?_
    refine z_isub F dX6_undo_15 ?_
    refine g_putI (ci := 6) (k := 15) F hH hS rfl (by decide) iX6 hx.1 (by decide) tyX6 tyX6_ok nmX6 rfl rfl rfl k100 dX6_undo_16 (fun H locs hH hS => ?_)
    obtain ⟨I_3, eI_3⟩ : ∃ qQ, qQ = gup2 I x 15 (iI (((I x 15).toInt) - 1)) := ⟨_, rfl⟩
    rw [← eI_3] at hH
    have kI_3 : ∀ b, b ≠ x → I_3 b = I b := fun b hb => by rw [eI_3]; exact funext fun j => gup2_a _ _ hb
    have w_4 : (I_3 x 15).toInt = ((I x 15).toInt) - 1 := by rw [eI_3, gup2_s]; exact iI_val ⟨by omega, by omega⟩
    have hv : gInv g gh R AR I_3 AI := by rw [eI_3]; exact gInv_x15 hv hx.1 (by omega) (by omega)
    have xf : xF g x I I_3 := xF_t xf (by rw [eI_3]; exact xF_k hx.1 (by decide))
    have w_4t : (I_3 x 1).toInt = (I x 1).toInt := by rw [xf.2]
    have w_4_14 : (I_3 x 14).toInt = (I x 14).toInt := by rw [eI_3, gup2_k _ _ (by decide)]
    refine lv_aload_n F.1 F.2.1 dX6_undo_19 rfl (lv_at hl 0 rfl) ?_
    refine lv_aload_n F.1 F.2.1 dX6_undo_20 rfl (lv_at hl 0 rfl) ?_
    refine g_getI (ci := 6) (k := 14) F hH rfl (by decide) iX6 hx.1 (by decide) rfl k160 dX6_undo_21 ?_
    have b_5 := gI_x hv hx.1
    refine z_bipush F dX6_undo_24 (by decide) ?_
    refine z_iadd F dX6_undo_26 ?_
    refine z_iconst F dX6_undo_27 ?_
    refine z_isub F dX6_undo_28 ?_
    refine z_bipush F dX6_undo_29 (by decide) ?_
    refine z_irem F (by omega) (by omega) (by omega) (by omega) dX6_undo_31 ?_
    refine g_putI (ci := 6) (k := 14) F hH hS rfl (by decide) iX6 hx.1 (by decide) tyX6 tyX6_ok nmX6 rfl rfl rfl k160 dX6_undo_32 (fun H locs hH hS => ?_)
    obtain ⟨I_6, eI_6⟩ : ∃ qQ, qQ = gup2 I_3 x 14 (iI (((((I_3 x 14).toInt) + 8) - 1) % 8)) := ⟨_, rfl⟩
    rw [← eI_6] at hH
    have kI_6 : ∀ b, b ≠ x → I_6 b = I_3 b := fun b hb => by rw [eI_6]; exact funext fun j => gup2_a _ _ hb
    have w_7 : (I_6 x 14).toInt = ((((I_3 x 14).toInt) + 8) - 1) % 8 := by rw [eI_6, gup2_s]; exact iI_val ⟨by omega, by omega⟩
    have hv : gInv g gh R AR I_6 AI := by rw [eI_6]; exact gInv_x14 hv hx.1 (by omega) (by omega)
    have xf : xF g x I I_6 := xF_t xf (by rw [eI_6]; exact xF_k hx.1 (by decide))
    have w_7t : (I_6 x 1).toInt = (I x 1).toInt := by rw [xf.2]
    have w_7_15 : (I_6 x 15).toInt = (I_3 x 15).toInt := by rw [eI_6, gup2_k _ _ (by decide)]
    refine lv_aload_n F.1 F.2.1 dX6_undo_35 rfl (lv_at hl 0 rfl) ?_
    refine lv_aload_n F.1 F.2.1 dX6_undo_36 rfl (lv_at hl 0 rfl) ?_
    obtain ⟨r_8a, r_8b⟩ := gR_x13 hv hx.1
    refine g_getR (ci := 6) (k := 13) F hH rfl (by decide) iX6 hx.1 (by decide) rfl (b := gh 36 0) r_8a k74 dX6_undo_37 ?_
    refine lv_aload_n F.1 F.2.1 dX6_undo_40 rfl (lv_at hl 0 rfl) ?_
    refine g_getI (ci := 6) (k := 14) F hH rfl (by decide) iX6 hx.1 (by decide) rfl k160 dX6_undo_41 ?_
    have b_9 := gI_x hv hx.1
    have hx44 : 0 ≤ ((I_6 x 14).toInt) ∧ ((I_6 x 14).toInt) < ((8 : Nat) : Int) ∧ ((I_6 x 14).toInt) ≤ 2147483647 := ⟨by omega, by omega, by omega⟩
    obtain ⟨y_10, y_10a, y_10b, y_10c, y_10d, y_10e⟩ := r_8b.2 (((I_6 x 14).toInt)).toNat (by omega)
    refine g_aldR F hH r_8b.1 hx44.1 hx44.2.1 hx44.2.2 (b := y_10) y_10a dX6_undo_44 ?_
    refine z_iconst F dX6_undo_45 ?_
    obtain ⟨b_11a, b_11b, b_11c, b_11d, b_11e, b_11f, b_11g, b_11h⟩ := gI_rows hv y_10b
    refine g_calli (g_runV (As := [.ref y_10, .int (iI ((-1)))]) (rest := []) (ci := 6) F hl.1 hH hS hz (c_X6_reckonNext l g gh pA bA nA I_6 R J AI AJ AR x y_10 (-1) ⟨by decide, by decide⟩ hv hx y_10b (by omega)) (cwV 2 F.2.2.2.2.1 gX6_undo_X6_reckonNext rfl rfl rfl hdX6_reckonNext ⟨Nat.le_of_ble_eq_true rfl, Nat.le_of_ble_eq_true rfl⟩) hx.1 (by decide) rfl rfl rfl (Nat.le_of_ble_eq_true rfl) dX6_undo_46 ⟨Nat.zero_le _, Nat.zero_le _⟩) hS (fun v_18 I_12 R_13 J_14 AI_15 AJ_16 AR_17 H locs zv_18 hp_19 hH hS => ?_)
    dsimp only at hp_19
    obtain ⟨rfl, rfl, rfl, rfl, hv, rfq, q_20⟩ := hp_19
    have xf := xF_t xf (xF_rF hx.1 rfq)
    have u_21 : (I_12 x 1).toInt = (I x 1).toInt := by rw [xf.2]
    have u_21p : I_12 pA = I pA := xf.1 pA 2 hx.2.2.1 (by decide) (by decide)
    have u_21p1 : (I_12 pA 1).toInt = (I pA 1).toInt := by rw [u_21p]
    have u_21p2 : (I_12 pA 2).toInt = (I pA 2).toInt := by rw [u_21p]
    refine lv_pop F.1 F.2.1 dX6_undo_49 rfl ?_
    refine lv_aload_n F.1 F.2.1 dX6_undo_50 rfl (lv_at hl 0 rfl) ?_
    have b_22 := gI_x hv hx.1
    refine g_callv (g_runV (As := []) (rest := []) (ci := 6) F hl.1 hH hS hz (c_X6_takeNext l g gh pA bA nA I_12 R J AI_15 AJ AR x hv hx) (cwV 0 F.2.2.2.2.1 gX6_undo_X6_takeNext rfl rfl rfl hdX6_takeNext ⟨Nat.le_of_ble_eq_true rfl, Nat.le_of_ble_eq_true rfl⟩) hx.1 (by decide) rfl rfl rfl (Nat.le_of_ble_eq_true rfl) dX6_undo_51 ⟨Nat.zero_le _, Nat.zero_le _⟩) hS (fun I_23 R_24 J_25 AI_26 AJ_27 AR_28 H locs hp_29 hH hS => ?_)
    dsimp only at hp_29
    obtain ⟨rfl, rfl, rfl, hv, rfq, xs2, rk⟩ := hp_29
    have xf := xF_t xf (xF_rF hx.1 rfq)
    have u_30 : (I_23 x 1).toInt = (I x 1).toInt := by rw [xf.2]
    have u_30p : I_23 pA = I pA := xf.1 pA 2 hx.2.2.1 (by decide) (by decide)
    have u_30p1 : (I_23 pA 1).toInt = (I pA 1).toInt := by rw [u_30p]
    have u_30p2 : (I_23 pA 2).toInt = (I pA 2).toInt := by rw [u_30p]
    have hx := xs2
    refine lv_aload_n F.1 F.2.1 dX6_undo_54 rfl (lv_at hl 0 rfl) ?_
    refine g_getI (ci := 6) (k := 15) F hH rfl (by decide) iX6 hx.1 (by decide) rfl k100 dX6_undo_55 ?_
    have b_31 := gI_x hv hx.1
    exact g_iret F hr hlk hH hS hz (zr_t _) ⟨rfl, rfl, rfl, hv, xf, ⟨_, _, hx⟩, rk, by first | omega | rfl | (dsimp only; omega)⟩ dX6_undo_58
  · refine z_iconst F dX6_undo_7 ?_
    exact g_iret F hr hlk hH hS hz ⟨by decide, by decide⟩ ⟨rfl, rfl, rfl, hv, xf, ⟨_, _, hx⟩, fun _ _ _ => rfl, by first | omega | rfl | (dsimp only; omega)⟩ dX6_undo_8

def rmX6_commit : Room := { frames := 7, cells := 0, slots := 0, locals := 214 }
theorem hdX6_commit : yX6_commit.cls = RX6 ∧ yX6_commit.cls ≠ "java/lang/invoke/MethodHandle" ∧ yX6_commit.cls ≠ "java/lang/invoke/VarHandle" ∧ (parseMethodDescriptor yX6_commit.desc).map (fun d => d.parameters.length) = some 0 := by decide +kernel
set_option maxHeartbeats 4000000 in
set_option maxRecDepth 100000 in
/-- commit -/
theorem c_X6_commit (l : Launch) (g : gG) (gh : gGh) (pA bA nA : Nat) (I : gI) (R : gR) (J : gJ) (AI : gI) (AJ : gJ) (AR : gR) (x : Nat) (hv : gInv g gh R AR I AI) (hx : xS g gh R AR x pA bA nA) (h37 : gh 42 0 ≠ 1) : gMet l g yX6_commit wsX6_commit rmX6_commit [.ref x] (I, R, J, AI, AJ, AR) (gQi g (fun (z : Int) (w : gS) => J = w.2.2.1 ∧ AJ = w.2.2.2.2.1 ∧ AR = w.2.2.2.2.2 ∧ (gInv g gh (w.2.1) AR (w.1) (w.2.2.2.1)) ∧ (xF g x I (w.1)) ∧ (∃ b1 n1, xS g gh (w.2.1) AR x pA b1 n1) ∧ (∀ b k, b ≠ x ∨ (k ≠ 5 ∧ k ≠ 6) → (w.2.1) b k = R b k) ∧ (((w.1) (gh 37 0) 3).toInt = 0))) := by
  refine gStart (cc := cX6_commit) (maxL := 2) (ret := (some (.int))) (by decide) rfl (Nat.le_of_ble_eq_true rfl) ?_
  intro p e s m below meth c ls F hr hlk hH hz hS hl
  have hl : lv_has ls 2 [(0, .ref x)] := hl
  have hS : va_S (gA g) s.heap s.heap [] := hS
  obtain ⟨H, hHe⟩ : ∃ H : Heap, H = s.heap := ⟨_, rfl⟩
  obtain ⟨locs, hlo⟩ : ∃ k : List Loc, k = [] := ⟨_, rfl⟩
  have hH : gH g I R J AI AJ AR H := by rw [hHe]; exact hH
  have hS : va_S (gA g) s.heap H locs := by rw [hHe, hlo]; exact hS
  suffices hw : W p l e rmX6_commit s m ([.ref x] : List Value).toArray below meth c H locs 0 0 (MQ below (gQi g (fun (z : Int) (w : gS) => J = w.2.2.1 ∧ AJ = w.2.2.2.2.1 ∧ AR = w.2.2.2.2.2 ∧ (gInv g gh (w.2.1) AR (w.1) (w.2.2.2.1)) ∧ (xF g x I (w.1)) ∧ (∃ b1 n1, xS g gh (w.2.1) AR x pA b1 n1) ∧ (∀ b k, b ≠ x ∨ (k ≠ 5 ∧ k ≠ 6) → (w.2.1) b k = R b k) ∧ (((w.1) (gh 37 0) 3).toInt = 0))) ([.ref x] : List Value).toArray s 0 0 (gA g)) (F0 m 0 ls []) by
    rw [hHe, hlo] at hw; exact hw
  clear hHe hlo
  have xf : xF g x I I := xF_r
  have iX6 : ∀ w ∈ u_ws RX6 TX6 18, w ∈ wsX6_commit := (by decide +kernel)
  have iX4 : ∀ w ∈ u_ws RX4 TX4 4, w ∈ wsX6_commit := (by decide +kernel)
  have k53 : Cond.fieldLink RX6 53 (TX6 8).1 (TX6 8).2.1 (TX6 8).2.2.1 ∈ wsX6_commit := List.mem_of_getElem? (i := 1) rfl
  have k103 : Cond.fieldLink RX6 103 (TX6 16).1 (TX6 16).2.1 (TX6 16).2.2.1 ∈ wsX6_commit := List.mem_of_getElem? (i := 2) rfl
  have k106 : Cond.fieldLink RX6 106 (TX6 17).1 (TX6 17).2.1 (TX6 17).2.2.1 ∈ wsX6_commit := List.mem_of_getElem? (i := 3) rfl
  have k99 : Cond.fieldLink RX6 99 (TX4 3).1 (TX4 3).2.1 (TX4 3).2.2.1 ∈ wsX6_commit := List.mem_of_getElem? (i := 4) rfl
  refine lv_aload_n F.1 F.2.1 dX6_commit_0 rfl (lv_at hl 0 rfl) ?_
  refine lv_aload_n F.1 F.2.1 dX6_commit_1 rfl (lv_at hl 0 rfl) ?_
  obtain ⟨r_1a, r_1b, r_1c, r_1d⟩ := gR_x8 hv hx.1
  refine g_getR (ci := 6) (k := 8) F hH rfl (by decide) iX6 hx.1 (by decide) rfl (b := gh 37 0) r_1a k53 dX6_commit_2 ?_
  refine z_iconst F dX6_commit_5 ?_
  have b_2 := gI_x hv hx.1
  obtain ⟨b_3a, b_3b, b_3c, b_3d, b_3e, b_3f, b_3g, b_3h⟩ := gI_rows hv r_1b
  refine g_calli (g_runV (As := [.ref (gh 37 0), .int (iI 1)]) (rest := []) (ci := 6) F hl.1 hH hS hz (c_X6_reckonNext l g gh pA bA nA I R J AI AJ AR x (gh 37 0) 1 ⟨by decide, by decide⟩ hv hx r_1b (by omega)) (cwV 2 F.2.2.2.2.1 gX6_commit_X6_reckonNext rfl rfl rfl hdX6_reckonNext ⟨Nat.le_of_ble_eq_true rfl, Nat.le_of_ble_eq_true rfl⟩) hx.1 (by decide) rfl rfl rfl (Nat.le_of_ble_eq_true rfl) dX6_commit_6 ⟨Nat.zero_le _, Nat.zero_le _⟩) hS (fun v_10 I_4 R_5 J_6 AI_7 AJ_8 AR_9 H locs zv_10 hp_11 hH hS => ?_)
  dsimp only at hp_11
  obtain ⟨rfl, rfl, rfl, rfl, hv, rfq, q_12⟩ := hp_11
  have xf := xF_t xf (xF_rF hx.1 rfq)
  have u_13 : (I_4 x 1).toInt = (I x 1).toInt := by rw [xf.2]
  have u_13p : I_4 pA = I pA := xf.1 pA 2 hx.2.2.1 (by decide) (by decide)
  have u_13p1 : (I_4 pA 1).toInt = (I pA 1).toInt := by rw [u_13p]
  have u_13p2 : (I_4 pA 2).toInt = (I pA 2).toInt := by rw [u_13p]
  refine lv_istore_n (lv' := [(1, .int (iI v_10)), (0, .ref x)]) F.1 F.2.1 dX6_commit_9 rfl hl (by decide) rfl (fun ls hl => ?_)
  refine lv_iload_n F.1 F.2.1 dX6_commit_10 rfl (lv_at hl 0 rfl) ?_
  refine z_if_ne (tgt := 44) F dX6_commit_11 (by decide) zv_10 (fun c_14 => ?_) (fun c_14 => ?_)
  · refine lv_aload_n F.1 F.2.1 dX6_commit_44 rfl (lv_at hl 1 rfl) ?_
    refine lv_dup F.1 F.2.1 dX6_commit_45 rfl ?_
    refine g_getI (ci := 6) (k := 17) F hH rfl (by decide) iX6 hx.1 (by decide) rfl k106 dX6_commit_46 ?_
    refine z_iconst F dX6_commit_49 ?_
    refine z_iadd F dX6_commit_50 ?_
    refine z_norm (fun v_15 zv_15 ev_15 => ?_)
    refine g_putI (ci := 6) (k := 17) F hH hS rfl (by decide) iX6 hx.1 (by decide) tyX6 tyX6_ok nmX6 rfl rfl rfl k106 dX6_commit_51 (fun H locs hH hS => ?_)
    obtain ⟨I_16, eI_16⟩ : ∃ qQ, qQ = gup2 I_4 x 17 (iI (v_15)) := ⟨_, rfl⟩
    rw [← eI_16] at hH
    have kI_16 : ∀ b, b ≠ x → I_16 b = I_4 b := fun b hb => by rw [eI_16]; exact funext fun j => gup2_a _ _ hb
    have hv : gInv g gh R AR I_16 AI_7 := by rw [eI_16]; exact gInv_x17 hv hx.1
    have xf : xF g x I I_16 := xF_t xf (by rw [eI_16]; exact xF_k hx.1 (by decide))
    have w_17t : (I_16 x 1).toInt = (I x 1).toInt := by rw [xf.2]
    have w_17_14 : (I_16 x 14).toInt = (I_4 x 14).toInt := by rw [eI_16, gup2_k _ _ (by decide)]
    have w_17_15 : (I_16 x 15).toInt = (I_4 x 15).toInt := by rw [eI_16, gup2_k _ _ (by decide)]
    refine lv_aload_n F.1 F.2.1 dX6_commit_54 rfl (lv_at hl 1 rfl) ?_
    refine g_getR (ci := 6) (k := 8) F hH rfl (by decide) iX6 hx.1 (by decide) rfl (b := gh 37 0) r_1a k53 dX6_commit_55 ?_
    refine z_iconst F dX6_commit_58 ?_
    refine g_putI (ci := 4) (k := 3) F hH hS rfl (by decide) iX4 r_1b (by decide) tyX4 tyX4_ok nmX4 rfl rfl rfl k99 dX6_commit_59 (fun H locs hH hS => ?_)
    obtain ⟨I_18, eI_18⟩ : ∃ qQ, qQ = gup2 I_16 (gh 37 0) 3 (iI (0)) := ⟨_, rfl⟩
    rw [← eI_18] at hH
    have kI_18 : ∀ b, b ≠ (gh 37 0) → I_18 b = I_16 b := fun b hb => by rw [eI_18]; exact funext fun j => gup2_a _ _ hb
    have w_19 : (I_18 (gh 37 0) 3).toInt = 0 := by rw [eI_18, gup2_s]; exact iI_val ⟨by omega, by omega⟩
    have hv : gInv g gh R AR I_18 AI_7 := by rw [eI_18]; exact gInv_len hv r_1b (by omega) (by omega) (by first | exact hfz | omega)
    have xf : xF g x I I_18 := xF_t xf (xF_rF hx.1 (rF_o r_1b kI_18))
    have w_20x : (I_18 x 1).toInt = (I x 1).toInt := by rw [xf.2]
    refine lv_iload_n F.1 F.2.1 dX6_commit_62 rfl (lv_at hl 0 rfl) ?_
    exact g_iret F hr hlk hH hS hz zv_10 ⟨rfl, rfl, rfl, hv, xf, ⟨_, _, hx⟩, fun _ _ _ => rfl, by first | omega | rfl | (dsimp only; omega)⟩ dX6_commit_63
  · refine lv_aload_n F.1 F.2.1 dX6_commit_14 rfl (lv_at hl 1 rfl) ?_
    refine lv_aload_n F.1 F.2.1 dX6_commit_15 rfl (lv_at hl 1 rfl) ?_
    refine g_getR (ci := 6) (k := 8) F hH rfl (by decide) iX6 hx.1 (by decide) rfl (b := gh 37 0) r_1a k53 dX6_commit_16 ?_
    have b_21 := gI_x hv hx.1
    obtain ⟨b_22a, b_22b, b_22c, b_22d, b_22e, b_22f, b_22g, b_22h⟩ := gI_rows hv r_1b
    refine g_callv (g_runV (As := [.ref (gh 37 0)]) (rest := []) (ci := 6) F hl.1 hH hS hz (c_X6_remember l g gh pA bA nA I_4 R J AI_7 AJ AR x (gh 37 0) hv hx r_1b (by omega)) (cwV 1 F.2.2.2.2.1 gX6_commit_X6_remember rfl rfl rfl hdX6_remember ⟨Nat.le_of_ble_eq_true rfl, Nat.le_of_ble_eq_true rfl⟩) hx.1 (by decide) rfl rfl rfl (Nat.le_of_ble_eq_true rfl) dX6_commit_19 ⟨Nat.zero_le _, Nat.zero_le _⟩) hS (fun I_23 R_24 J_25 AI_26 AJ_27 AR_28 H locs hp_29 hH hS => ?_)
    dsimp only at hp_29
    obtain ⟨rfl, rfl, rfl, rfl, hv, xfq⟩ := hp_29
    have xf := xF_t xf xfq
    have u_30 : (I_23 x 1).toInt = (I x 1).toInt := by rw [xf.2]
    have u_30p : I_23 pA = I pA := xf.1 pA 2 hx.2.2.1 (by decide) (by decide)
    have u_30p1 : (I_23 pA 1).toInt = (I pA 1).toInt := by rw [u_30p]
    have u_30p2 : (I_23 pA 2).toInt = (I pA 2).toInt := by rw [u_30p]
    refine lv_aload_n F.1 F.2.1 dX6_commit_22 rfl (lv_at hl 1 rfl) ?_
    refine lv_dup F.1 F.2.1 dX6_commit_23 rfl ?_
    refine g_getI (ci := 6) (k := 16) F hH rfl (by decide) iX6 hx.1 (by decide) rfl k103 dX6_commit_24 ?_
    refine z_iconst F dX6_commit_27 ?_
    refine z_iadd F dX6_commit_28 ?_
    refine z_norm (fun v_31 zv_31 ev_31 => ?_)
    refine g_putI (ci := 6) (k := 16) F hH hS rfl (by decide) iX6 hx.1 (by decide) tyX6 tyX6_ok nmX6 rfl rfl rfl k103 dX6_commit_29 (fun H locs hH hS => ?_)
    obtain ⟨I_32, eI_32⟩ : ∃ qQ, qQ = gup2 I_23 x 16 (iI (v_31)) := ⟨_, rfl⟩
    rw [← eI_32] at hH
    have kI_32 : ∀ b, b ≠ x → I_32 b = I_23 b := fun b hb => by rw [eI_32]; exact funext fun j => gup2_a _ _ hb
    have hv : gInv g gh R AR I_32 AI_26 := by rw [eI_32]; exact gInv_x16 hv hx.1
    have xf : xF g x I I_32 := xF_t xf (by rw [eI_32]; exact xF_k hx.1 (by decide))
    have w_33t : (I_32 x 1).toInt = (I x 1).toInt := by rw [xf.2]
    have w_33_14 : (I_32 x 14).toInt = (I_23 x 14).toInt := by rw [eI_32, gup2_k _ _ (by decide)]
    have w_33_15 : (I_32 x 15).toInt = (I_23 x 15).toInt := by rw [eI_32, gup2_k _ _ (by decide)]
    refine lv_aload_n F.1 F.2.1 dX6_commit_32 rfl (lv_at hl 1 rfl) ?_
    have b_34 := gI_x hv hx.1
    refine g_callv (g_runV (As := []) (rest := []) (ci := 6) F hl.1 hH hS hz (c_X6_takeNext l g gh pA bA nA I_32 R J AI_26 AJ AR x hv hx) (cwV 0 F.2.2.2.2.1 gX6_commit_X6_takeNext rfl rfl rfl hdX6_takeNext ⟨Nat.le_of_ble_eq_true rfl, Nat.le_of_ble_eq_true rfl⟩) hx.1 (by decide) rfl rfl rfl (Nat.le_of_ble_eq_true rfl) dX6_commit_33 ⟨Nat.zero_le _, Nat.zero_le _⟩) hS (fun I_35 R_36 J_37 AI_38 AJ_39 AR_40 H locs hp_41 hH hS => ?_)
    dsimp only at hp_41
    obtain ⟨rfl, rfl, rfl, hv, rfq, xs2, rk⟩ := hp_41
    have xf := xF_t xf (xF_rF hx.1 rfq)
    have u_42 : (I_35 x 1).toInt = (I x 1).toInt := by rw [xf.2]
    have u_42p : I_35 pA = I pA := xf.1 pA 2 hx.2.2.1 (by decide) (by decide)
    have u_42p1 : (I_35 pA 1).toInt = (I pA 1).toInt := by rw [u_42p]
    have u_42p2 : (I_35 pA 2).toInt = (I pA 2).toInt := by rw [u_42p]
    have hx := xs2
    refine lv_aload_n F.1 F.2.1 dX6_commit_36 rfl (lv_at hl 1 rfl) ?_
    have b_43 := gI_x hv hx.1
    refine g_calli (g_runV (As := []) (rest := []) (ci := 6) F hl.1 hH hS hz (c_X6_movedInViews l g gh pA nA bA I_35 R_36 J AI_38 AJ AR x hv hx) (cwV 0 F.2.2.2.2.1 gX6_commit_X6_movedInViews rfl rfl rfl hdX6_movedInViews ⟨Nat.le_of_ble_eq_true rfl, Nat.le_of_ble_eq_true rfl⟩) hx.1 (by decide) rfl rfl rfl (Nat.le_of_ble_eq_true rfl) dX6_commit_37 ⟨Nat.zero_le _, Nat.zero_le _⟩) hS (fun v_50 I_44 R_45 J_46 AI_47 AJ_48 AR_49 H locs zv_50 hp_51 hH hS => ?_)
    dsimp only at hp_51
    obtain ⟨rfl, rfl, rfl, rfl, rfl, rfl, q_52⟩ := hp_51
    refine lv_istore_n (lv' := [(1, .int (iI v_50)), (0, .ref x)]) F.1 F.2.1 dX6_commit_40 rfl hl (by decide) rfl (fun ls hl => ?_)
    refine z_goto (tgt := 54) F dX6_commit_41 (by decide) ?_
    refine lv_aload_n F.1 F.2.1 dX6_commit_54 rfl (lv_at hl 1 rfl) ?_
    obtain ⟨r_53a, r_53b, r_53c, r_53d⟩ := gR_x8 hv hx.1
    refine g_getR (ci := 6) (k := 8) F hH rfl (by decide) iX6 hx.1 (by decide) rfl (b := gh 37 0) r_53a k53 dX6_commit_55 ?_
    refine z_iconst F dX6_commit_58 ?_
    refine g_putI (ci := 4) (k := 3) F hH hS rfl (by decide) iX4 r_53b (by decide) tyX4 tyX4_ok nmX4 rfl rfl rfl k99 dX6_commit_59 (fun H locs hH hS => ?_)
    obtain ⟨I_54, eI_54⟩ : ∃ qQ, qQ = gup2 I_35 (gh 37 0) 3 (iI (0)) := ⟨_, rfl⟩
    rw [← eI_54] at hH
    have kI_54 : ∀ b, b ≠ (gh 37 0) → I_54 b = I_35 b := fun b hb => by rw [eI_54]; exact funext fun j => gup2_a _ _ hb
    have w_55 : (I_54 (gh 37 0) 3).toInt = 0 := by rw [eI_54, gup2_s]; exact iI_val ⟨by omega, by omega⟩
    have hv : gInv g gh R_36 AR I_54 AI_38 := by rw [eI_54]; exact gInv_len hv r_53b (by omega) (by omega) (by first | exact hfz | omega)
    have xf : xF g x I I_54 := xF_t xf (xF_rF hx.1 (rF_o r_53b kI_54))
    have w_56x : (I_54 x 1).toInt = (I x 1).toInt := by rw [xf.2]
    refine lv_iload_n F.1 F.2.1 dX6_commit_62 rfl (lv_at hl 0 rfl) ?_
    exact g_iret F hr hlk hH hS hz zv_50 ⟨rfl, rfl, rfl, hv, xf, ⟨_, _, hx⟩, rk, by first | omega | rfl | (dsimp only; omega)⟩ dX6_commit_63

def rmX6_startAnew : Room := { frames := 0, cells := 0, slots := 0, locals := 0 }
theorem hdX6_startAnew : yX6_startAnew.cls = RX6 ∧ yX6_startAnew.cls ≠ "java/lang/invoke/MethodHandle" ∧ yX6_startAnew.cls ≠ "java/lang/invoke/VarHandle" ∧ (parseMethodDescriptor yX6_startAnew.desc).map (fun d => d.parameters.length) = some 0 := by decide +kernel
set_option maxHeartbeats 4000000 in
set_option maxRecDepth 100000 in
/-- starts anew -/
theorem c_X6_startAnew (l : Launch) (g : gG) (gh : gGh) (pA bA nA : Nat) (I : gI) (R : gR) (J : gJ) (AI : gI) (AJ : gJ) (AR : gR) (x : Nat) (hv : gInv g gh R AR I AI) (hx : xS g gh R AR x pA bA nA) (h37 : gh 42 0 ≠ 1) : gMet l g yX6_startAnew wsX6_startAnew rmX6_startAnew [.ref x] (I, R, J, AI, AJ, AR) (gQv g (fun w : gS => R = w.2.1 ∧ J = w.2.2.1 ∧ AI = w.2.2.2.1 ∧ AJ = w.2.2.2.2.1 ∧ AR = w.2.2.2.2.2 ∧ (gInv g gh R AR (w.1) AI) ∧ (xF g x I (w.1)) ∧ (((w.1) (gh 37 0) 3).toInt = 0))) := by
  refine gStart (cc := cX6_startAnew) (maxL := 2) (ret := none) (by decide) rfl (Nat.le_of_ble_eq_true rfl) ?_
  intro p e s m below meth c ls F hr hlk hH hz hS hl
  have hl : lv_has ls 2 [(0, .ref x)] := hl
  have hS : va_S (gA g) s.heap s.heap [] := hS
  obtain ⟨H, hHe⟩ : ∃ H : Heap, H = s.heap := ⟨_, rfl⟩
  obtain ⟨locs, hlo⟩ : ∃ k : List Loc, k = [] := ⟨_, rfl⟩
  have hH : gH g I R J AI AJ AR H := by rw [hHe]; exact hH
  have hS : va_S (gA g) s.heap H locs := by rw [hHe, hlo]; exact hS
  suffices hw : W p l e rmX6_startAnew s m ([.ref x] : List Value).toArray below meth c H locs 0 0 (MQ below (gQv g (fun w : gS => R = w.2.1 ∧ J = w.2.2.1 ∧ AI = w.2.2.2.1 ∧ AJ = w.2.2.2.2.1 ∧ AR = w.2.2.2.2.2 ∧ (gInv g gh R AR (w.1) AI) ∧ (xF g x I (w.1)) ∧ (((w.1) (gh 37 0) 3).toInt = 0))) ([.ref x] : List Value).toArray s 0 0 (gA g)) (F0 m 0 ls []) by
    rw [hHe, hlo] at hw; exact hw
  clear hHe hlo
  have xf : xF g x I I := xF_r
  have iX6 : ∀ w ∈ u_ws RX6 TX6 18, w ∈ wsX6_startAnew := (by decide +kernel)
  have iX4 : ∀ w ∈ u_ws RX4 TX4 4, w ∈ wsX6_startAnew := (by decide +kernel)
  have k38 : Cond.fieldLink RX6 38 (TX6 5).1 (TX6 5).2.1 (TX6 5).2.2.1 ∈ wsX6_startAnew := List.mem_of_getElem? (i := 1) rfl
  have k99 : Cond.fieldLink RX6 99 (TX4 3).1 (TX4 3).2.1 (TX4 3).2.2.1 ∈ wsX6_startAnew := List.mem_of_getElem? (i := 2) rfl
  have k45 : Cond.fieldLink RX6 45 (TX6 7).1 (TX6 7).2.1 (TX6 7).2.2.1 ∈ wsX6_startAnew := List.mem_of_getElem? (i := 3) rfl
  have k53 : Cond.fieldLink RX6 53 (TX6 8).1 (TX6 8).2.1 (TX6 8).2.2.1 ∈ wsX6_startAnew := List.mem_of_getElem? (i := 4) rfl
  have k100 : Cond.fieldLink RX6 100 (TX6 15).1 (TX6 15).2.1 (TX6 15).2.2.1 ∈ wsX6_startAnew := List.mem_of_getElem? (i := 5) rfl
  have k103 : Cond.fieldLink RX6 103 (TX6 16).1 (TX6 16).2.1 (TX6 16).2.2.1 ∈ wsX6_startAnew := List.mem_of_getElem? (i := 6) rfl
  have k106 : Cond.fieldLink RX6 106 (TX6 17).1 (TX6 17).2.1 (TX6 17).2.2.1 ∈ wsX6_startAnew := List.mem_of_getElem? (i := 7) rfl
  refine z_iconst F dX6_startAnew_0 ?_
  refine lv_istore_n (lv' := [(1, .int (iI 0)), (0, .ref x)]) F.1 F.2.1 dX6_startAnew_1 rfl hl (by decide) rfl (fun ls hl => ?_)
  have cut_2_1 : ∀ (NN : Nat) (i : Int) (I_1 : gI) (H : Heap) (locs : List Loc) (ls : Array Slot), zr i → (gInv g gh R AR I_1 AI) → (xF g x I I_1) → (0 ≤ i ∧ i ≤ 16) → (16 - i) < ((NN : Nat) : Int) → gH g I_1 R J AI AJ AR H → va_S (gA g) s.heap H locs → lv_has ls 2 [(1, .int (iI i)), (0, .ref x)] → W p l e rmX6_startAnew s m ([.ref x] : List Value).toArray below meth c H locs 0 0 (MQ below (gQv g (fun w : gS => R = w.2.1 ∧ J = w.2.2.1 ∧ AI = w.2.2.2.1 ∧ AJ = w.2.2.2.2.1 ∧ AR = w.2.2.2.2.2 ∧ (gInv g gh R AR (w.1) AI) ∧ (xF g x I (w.1)) ∧ (((w.1) (gh 37 0) 3).toInt = 0))) ([.ref x] : List Value).toArray s 0 0 (gA g)) (F0 m 2 ls []) := by
    intro NN2
    induction NN2 with
    | zero =>
      intro i I_1 H locs ls zi hv xf hi hm2 hH hS hl
      exact absurd hm2 (by omega)
    | succ NN2 ih2 =>
      intro i I_1 H locs ls zi hv xf hi hm2 hH hS hl
      refine lv_iload_n F.1 F.2.1 dX6_startAnew_2 rfl (lv_at hl 0 rfl) ?_
      refine z_bipush F dX6_startAnew_3 (by decide) ?_
      refine z_icmp_ge (tgt := 34) F dX6_startAnew_5 (by decide) zi ⟨by decide, by decide⟩ (fun c_3 => ?_) (fun c_3 => ?_)
      · refine lv_aload_n F.1 F.2.1 dX6_startAnew_34 rfl (lv_at hl 1 rfl) ?_
        obtain ⟨r_4a, r_4b, r_4c, r_4d⟩ := gR_x8 hv hx.1
        refine g_getR (ci := 6) (k := 8) F hH rfl (by decide) iX6 hx.1 (by decide) rfl (b := gh 37 0) r_4a k53 dX6_startAnew_35 ?_
        refine z_iconst F dX6_startAnew_38 ?_
        refine g_putI (ci := 4) (k := 3) F hH hS rfl (by decide) iX4 r_4b (by decide) tyX4 tyX4_ok nmX4 rfl rfl rfl k99 dX6_startAnew_39 (fun H locs hH hS => ?_)
        obtain ⟨I_5, eI_5⟩ : ∃ qQ, qQ = gup2 I_1 (gh 37 0) 3 (iI (0)) := ⟨_, rfl⟩
        rw [← eI_5] at hH
        have kI_5 : ∀ b, b ≠ (gh 37 0) → I_5 b = I_1 b := fun b hb => by rw [eI_5]; exact funext fun j => gup2_a _ _ hb
        have w_6 : (I_5 (gh 37 0) 3).toInt = 0 := by rw [eI_5, gup2_s]; exact iI_val ⟨by omega, by omega⟩
        have hv : gInv g gh R AR I_5 AI := by rw [eI_5]; exact gInv_len hv r_4b (by omega) (by omega) (by first | exact hfz | omega)
        have xf : xF g x I I_5 := xF_t xf (xF_rF hx.1 (rF_o r_4b kI_5))
        have w_7x : (I_5 x 1).toInt = (I x 1).toInt := by rw [xf.2]
        refine lv_aload_n F.1 F.2.1 dX6_startAnew_42 rfl (lv_at hl 1 rfl) ?_
        refine z_iconst F dX6_startAnew_43 ?_
        refine g_putI (ci := 6) (k := 15) F hH hS rfl (by decide) iX6 hx.1 (by decide) tyX6 tyX6_ok nmX6 rfl rfl rfl k100 dX6_startAnew_44 (fun H locs hH hS => ?_)
        obtain ⟨I_8, eI_8⟩ : ∃ qQ, qQ = gup2 I_5 x 15 (iI (0)) := ⟨_, rfl⟩
        rw [← eI_8] at hH
        have kI_8 : ∀ b, b ≠ x → I_8 b = I_5 b := fun b hb => by rw [eI_8]; exact funext fun j => gup2_a _ _ hb
        have w_9 : (I_8 x 15).toInt = 0 := by rw [eI_8, gup2_s]; exact iI_val ⟨by omega, by omega⟩
        have hv : gInv g gh R AR I_8 AI := by rw [eI_8]; exact gInv_x15 hv hx.1 (by omega) (by omega)
        have xf : xF g x I I_8 := xF_t xf (by rw [eI_8]; exact xF_k hx.1 (by decide))
        have w_9t : (I_8 x 1).toInt = (I x 1).toInt := by rw [xf.2]
        have w_9_b : (I_8 (gh 37 0) 3).toInt = (I_5 (gh 37 0) 3).toInt := by rw [kI_8 _ (gO_ne (gR_x8 hv hx.1).2.1 hx.1 (by decide))]
        have w_9_14 : (I_8 x 14).toInt = (I_5 x 14).toInt := by rw [eI_8, gup2_k _ _ (by decide)]
        refine lv_aload_n F.1 F.2.1 dX6_startAnew_47 rfl (lv_at hl 1 rfl) ?_
        refine z_iconst F dX6_startAnew_48 ?_
        refine g_putI (ci := 6) (k := 16) F hH hS rfl (by decide) iX6 hx.1 (by decide) tyX6 tyX6_ok nmX6 rfl rfl rfl k103 dX6_startAnew_49 (fun H locs hH hS => ?_)
        obtain ⟨I_10, eI_10⟩ : ∃ qQ, qQ = gup2 I_8 x 16 (iI (0)) := ⟨_, rfl⟩
        rw [← eI_10] at hH
        have kI_10 : ∀ b, b ≠ x → I_10 b = I_8 b := fun b hb => by rw [eI_10]; exact funext fun j => gup2_a _ _ hb
        have hv : gInv g gh R AR I_10 AI := by rw [eI_10]; exact gInv_x16 hv hx.1
        have xf : xF g x I I_10 := xF_t xf (by rw [eI_10]; exact xF_k hx.1 (by decide))
        have w_11t : (I_10 x 1).toInt = (I x 1).toInt := by rw [xf.2]
        have w_11_b : (I_10 (gh 37 0) 3).toInt = (I_8 (gh 37 0) 3).toInt := by rw [kI_10 _ (gO_ne (gR_x8 hv hx.1).2.1 hx.1 (by decide))]
        have w_11_14 : (I_10 x 14).toInt = (I_8 x 14).toInt := by rw [eI_10, gup2_k _ _ (by decide)]
        have w_11_15 : (I_10 x 15).toInt = (I_8 x 15).toInt := by rw [eI_10, gup2_k _ _ (by decide)]
        refine lv_aload_n F.1 F.2.1 dX6_startAnew_52 rfl (lv_at hl 1 rfl) ?_
        refine z_iconst F dX6_startAnew_53 ?_
        refine g_putI (ci := 6) (k := 17) F hH hS rfl (by decide) iX6 hx.1 (by decide) tyX6 tyX6_ok nmX6 rfl rfl rfl k106 dX6_startAnew_54 (fun H locs hH hS => ?_)
        obtain ⟨I_12, eI_12⟩ : ∃ qQ, qQ = gup2 I_10 x 17 (iI (0)) := ⟨_, rfl⟩
        rw [← eI_12] at hH
        have kI_12 : ∀ b, b ≠ x → I_12 b = I_10 b := fun b hb => by rw [eI_12]; exact funext fun j => gup2_a _ _ hb
        have hv : gInv g gh R AR I_12 AI := by rw [eI_12]; exact gInv_x17 hv hx.1
        have xf : xF g x I I_12 := xF_t xf (by rw [eI_12]; exact xF_k hx.1 (by decide))
        have w_13t : (I_12 x 1).toInt = (I x 1).toInt := by rw [xf.2]
        have w_13_b : (I_12 (gh 37 0) 3).toInt = (I_10 (gh 37 0) 3).toInt := by rw [kI_12 _ (gO_ne (gR_x8 hv hx.1).2.1 hx.1 (by decide))]
        have w_13_14 : (I_12 x 14).toInt = (I_10 x 14).toInt := by rw [eI_12, gup2_k _ _ (by decide)]
        have w_13_15 : (I_12 x 15).toInt = (I_10 x 15).toInt := by rw [eI_12, gup2_k _ _ (by decide)]
        exact g_vret F hr hlk hH hS hz ⟨rfl, rfl, rfl, rfl, rfl, hv, xf, by first | omega | rfl | (dsimp only; omega)⟩ dX6_startAnew_57
      · refine lv_aload_n F.1 F.2.1 dX6_startAnew_8 rfl (lv_at hl 1 rfl) ?_
        refine g_getR (ci := 6) (k := 5) F hH rfl (by decide) iX6 hx.1 (by decide) rfl (b := bA) hx.2.2.2.1 k38 dX6_startAnew_9 ?_
        refine lv_iload_n F.1 F.2.1 dX6_startAnew_12 rfl (lv_at hl 0 rfl) ?_
        have hx13 : 0 ≤ i ∧ i < ((16 : Nat) : Int) ∧ i ≤ 2147483647 := ⟨by omega, by omega, by omega⟩
        obtain ⟨y_14, y_14a, y_14b, y_14c, y_14d, y_14e⟩ := hx.2.2.2.2.1.2 (i).toNat (by omega)
        refine g_aldR F hH hx.2.2.2.2.1.1 hx13.1 hx13.2.1 hx13.2.2 (b := y_14) y_14a dX6_startAnew_13 ?_
        refine z_iconst F dX6_startAnew_14 ?_
        refine g_putI (ci := 4) (k := 3) F hH hS rfl (by decide) iX4 y_14b (by decide) tyX4 tyX4_ok nmX4 rfl rfl rfl k99 dX6_startAnew_15 (fun H locs hH hS => ?_)
        obtain ⟨I_15, eI_15⟩ : ∃ qQ, qQ = gup2 I_1 y_14 3 (iI (0)) := ⟨_, rfl⟩
        rw [← eI_15] at hH
        have kI_15 : ∀ b, b ≠ y_14 → I_15 b = I_1 b := fun b hb => by rw [eI_15]; exact funext fun j => gup2_a _ _ hb
        have w_16 : (I_15 y_14 3).toInt = 0 := by rw [eI_15, gup2_s]; exact iI_val ⟨by omega, by omega⟩
        have hv : gInv g gh R AR I_15 AI := by rw [eI_15]; exact gInv_len hv y_14b (by omega) (by omega) (by first | exact hfz | omega)
        have xf : xF g x I I_15 := xF_t xf (xF_rF hx.1 (rF_o y_14b kI_15))
        have w_17x : (I_15 x 1).toInt = (I x 1).toInt := by rw [xf.2]
        refine lv_aload_n F.1 F.2.1 dX6_startAnew_18 rfl (lv_at hl 1 rfl) ?_
        obtain ⟨r_18a, r_18b⟩ := gR_x7 hv hx.1
        refine g_getR (ci := 6) (k := 7) F hH rfl (by decide) iX6 hx.1 (by decide) rfl (b := gh 35 0) r_18a k45 dX6_startAnew_19 ?_
        refine lv_iload_n F.1 F.2.1 dX6_startAnew_22 rfl (lv_at hl 0 rfl) ?_
        have hx23 : 0 ≤ i ∧ i < ((16 : Nat) : Int) ∧ i ≤ 2147483647 := ⟨by omega, by omega, by omega⟩
        obtain ⟨y_19, y_19a, y_19b, y_19c, y_19d, y_19e⟩ := r_18b.2 (i).toNat (by omega)
        refine g_aldR F hH r_18b.1 hx23.1 hx23.2.1 hx23.2.2 (b := y_19) y_19a dX6_startAnew_23 ?_
        refine z_iconst F dX6_startAnew_24 ?_
        refine g_putI (ci := 4) (k := 3) F hH hS rfl (by decide) iX4 y_19b (by decide) tyX4 tyX4_ok nmX4 rfl rfl rfl k99 dX6_startAnew_25 (fun H locs hH hS => ?_)
        obtain ⟨I_20, eI_20⟩ : ∃ qQ, qQ = gup2 I_15 y_19 3 (iI (0)) := ⟨_, rfl⟩
        rw [← eI_20] at hH
        have kI_20 : ∀ b, b ≠ y_19 → I_20 b = I_15 b := fun b hb => by rw [eI_20]; exact funext fun j => gup2_a _ _ hb
        have w_21 : (I_20 y_19 3).toInt = 0 := by rw [eI_20, gup2_s]; exact iI_val ⟨by omega, by omega⟩
        have hv : gInv g gh R AR I_20 AI := by rw [eI_20]; exact gInv_len hv y_19b (by omega) (by omega) (by first | exact hfz | omega)
        have xf : xF g x I I_20 := xF_t xf (xF_rF hx.1 (rF_o y_19b kI_20))
        have w_22x : (I_20 x 1).toInt = (I x 1).toInt := by rw [xf.2]
        refine z_iinc (lv' := [(1, .int (iI (i + 1))), (0, .ref x)]) F dX6_startAnew_28 hl (k := 0) rfl (by decide) rfl (fun ls hl => ?_)
        refine z_goto (tgt := 2) F dX6_startAnew_31 (by decide) ?_
        exact ih2 (i + 1) I_20 H locs ls ⟨by omega, by omega⟩ hv xf (by omega) (by omega) hH hS (lv_sub hl [0, 1] rfl)
  exact cut_2_1 (((16 - 0) + 1 : Int).toNat) 0 I H locs ls ⟨by decide, by decide⟩ hv xf (by omega) (by omega) hH hS (lv_sub hl [0, 1] rfl)
