def rmX6_takeNextf : Room := { frames := 3, cells := 0, slots := 0, locals := 113 }
set_option maxHeartbeats 4000000 in
set_option maxRecDepth 100000 in
/-- takes the next bags -/
theorem c_X6_takeNextf (l : Launch) (g : gG) (gh : gGh) (pA bA nA : Nat) (nr : Nat) (cl : Nat → Int) (I : gI) (R : gR) (J : gJ) (AI : gI) (AJ : gJ) (AR : gR) (x : Nat) (hv : gInv g gh R AR I AI) (hx : xS g gh R AR x pA bA nA) (hlen : (I pA 1).toInt = (nr : Int)) (hnr : nr ≤ 16) (hbg : ∀ r, r < nr → bgOK (rfC gh AR I AI bA) cl r) (hbn : ∀ r, r < nr → bgOK (rfC gh AR I AI nA) cl r) (hDm : rsD AR (gh 35 0) 16) : gMet l g yX6_takeNext wsX6_takeNext rmX6_takeNextf [.ref x] (I, R, J, AI, AJ, AR) (gQv g (fun w : gS => J = w.2.2.1 ∧ AJ = w.2.2.2.2.1 ∧ AR = w.2.2.2.2.2 ∧ (gInv g gh (w.2.1) AR (w.1) (w.2.2.2.1)) ∧ (rF g I (w.1)) ∧ (xS g gh (w.2.1) AR x pA nA bA) ∧ (∀ b k, b ≠ x ∨ (k ≠ 5 ∧ k ≠ 6) → (w.2.1) b k = R b k) ∧ (∀ b, (∀ r, r < 16 → rob AR (gh 35 0) r ≠ b) → (w.1) b = I b) ∧ (∀ b, (∀ r, r < 16 → gh 0 (rob AR (gh 35 0) r) ≠ b) → (w.2.2.2.1) b = AI b) ∧ (∀ r, r < nr → mvQ gh AR I AI bA nA (w.1) (w.2.2.2.1) r))) := by
  refine gStart (cc := cX6_takeNext) (maxL := 2) (ret := none) (by decide) rfl (Nat.le_of_ble_eq_true rfl) ?_
  intro p e s m below meth c ls F hr hlk hH hz hS hl
  have hl : lv_has ls 2 [(0, .ref x)] := hl
  have hS : va_S (gA g) s.heap s.heap [] := hS
  obtain ⟨H, hHe⟩ : ∃ H : Heap, H = s.heap := ⟨_, rfl⟩
  obtain ⟨locs, hlo⟩ : ∃ k : List Loc, k = [] := ⟨_, rfl⟩
  have hH : gH g I R J AI AJ AR H := by rw [hHe]; exact hH
  have hS : va_S (gA g) s.heap H locs := by rw [hHe, hlo]; exact hS
  suffices hw : W p l e rmX6_takeNextf s m ([.ref x] : List Value).toArray below meth c H locs 0 0 (MQ below (gQv g (fun w : gS => J = w.2.2.1 ∧ AJ = w.2.2.2.2.1 ∧ AR = w.2.2.2.2.2 ∧ (gInv g gh (w.2.1) AR (w.1) (w.2.2.2.1)) ∧ (rF g I (w.1)) ∧ (xS g gh (w.2.1) AR x pA nA bA) ∧ (∀ b k, b ≠ x ∨ (k ≠ 5 ∧ k ≠ 6) → (w.2.1) b k = R b k) ∧ (∀ b, (∀ r, r < 16 → rob AR (gh 35 0) r ≠ b) → (w.1) b = I b) ∧ (∀ b, (∀ r, r < 16 → gh 0 (rob AR (gh 35 0) r) ≠ b) → (w.2.2.2.1) b = AI b) ∧ (∀ r, r < nr → mvQ gh AR I AI bA nA (w.1) (w.2.2.2.1) r))) ([.ref x] : List Value).toArray s 0 0 (gA g)) (F0 m 0 ls []) by
    rw [hHe, hlo] at hw; exact hw
  clear hHe hlo
  have rf : rF g I I := rF_r
  have h35 := gR_x7 hv hx.1
  have iX6 : ∀ w ∈ u_ws RX6 TX6 18, w ∈ wsX6_takeNext := (by decide +kernel)
  have iX2 : ∀ w ∈ u_ws RX2 TX2 3, w ∈ wsX6_takeNext := (by decide +kernel)
  have k23 : Cond.fieldLink RX6 23 (TX6 3).1 (TX6 3).2.1 (TX6 3).2.2.1 ∈ wsX6_takeNext := List.mem_of_getElem? (i := 1) rfl
  have k96 : Cond.fieldLink RX6 96 (TX2 1).1 (TX2 1).2.1 (TX2 1).2.2.1 ∈ wsX6_takeNext := List.mem_of_getElem? (i := 2) rfl
  have k45 : Cond.fieldLink RX6 45 (TX6 7).1 (TX6 7).2.1 (TX6 7).2.2.1 ∈ wsX6_takeNext := List.mem_of_getElem? (i := 3) rfl
  have k42 : Cond.fieldLink RX6 42 (TX6 6).1 (TX6 6).2.1 (TX6 6).2.2.1 ∈ wsX6_takeNext := List.mem_of_getElem? (i := 4) rfl
  have k38 : Cond.fieldLink RX6 38 (TX6 5).1 (TX6 5).2.1 (TX6 5).2.2.1 ∈ wsX6_takeNext := List.mem_of_getElem? (i := 5) rfl
  refine z_iconst F dX6_takeNext_0 ?_
  refine lv_istore_n (lv' := [(1, .int (iI 0)), (0, .ref x)]) F.1 F.2.1 dX6_takeNext_1 rfl hl (by decide) rfl (fun ls hl => ?_)
  have cut_2_2 : ∀ (NN : Nat) (i : Int) (I_1 : gI) (AI_2 : gI) (H : Heap) (locs : List Loc) (ls : Array Slot), zr i → (gInv g gh R AR I_1 AI_2) → (rF g I I_1) → (0 ≤ i ∧ i ≤ 16) → (∀ b, (∀ r, r < 16 → rob AR (gh 35 0) r ≠ b) → I_1 b = I b) → (∀ b, (∀ r, r < 16 → gh 0 (rob AR (gh 35 0) r) ≠ b) → AI_2 b = AI b) → (∀ r : Nat, (r : Int) < i → mvQ gh AR I AI bA nA I_1 AI_2 r) → (16 - i) < ((NN : Nat) : Int) → gH g I_1 R J AI_2 AJ AR H → va_S (gA g) s.heap H locs → lv_has ls 2 [(1, .int (iI i)), (0, .ref x)] → W p l e rmX6_takeNextf s m ([.ref x] : List Value).toArray below meth c H locs 0 0 (MQ below (gQv g (fun w : gS => J = w.2.2.1 ∧ AJ = w.2.2.2.2.1 ∧ AR = w.2.2.2.2.2 ∧ (gInv g gh (w.2.1) AR (w.1) (w.2.2.2.1)) ∧ (rF g I (w.1)) ∧ (xS g gh (w.2.1) AR x pA nA bA) ∧ (∀ b k, b ≠ x ∨ (k ≠ 5 ∧ k ≠ 6) → (w.2.1) b k = R b k) ∧ (∀ b, (∀ r, r < 16 → rob AR (gh 35 0) r ≠ b) → (w.1) b = I b) ∧ (∀ b, (∀ r, r < 16 → gh 0 (rob AR (gh 35 0) r) ≠ b) → (w.2.2.2.1) b = AI b) ∧ (∀ r, r < nr → mvQ gh AR I AI bA nA (w.1) (w.2.2.2.1) r))) ([.ref x] : List Value).toArray s 0 0 (gA g)) (F0 m 2 ls []) := by
    intro NN2
    induction NN2 with
    | zero =>
      intro i I_1 AI_2 H locs ls zi hv rf hi fT fM hmv hm2 hH hS hl
      exact absurd hm2 (by omega)
    | succ NN2 ih2 =>
      intro i I_1 AI_2 H locs ls zi hv rf hi fT fM hmv hm2 hH hS hl
      have hpI : I_1 pA = I pA := rf pA 2 hx.2.2.1 (by decide)
      have hp1 : (I_1 pA 1).toInt = (nr : Int) := by rw [hpI]; exact hlen
      refine lv_iload_n F.1 F.2.1 dX6_takeNext_2 rfl (lv_at hl 0 rfl) ?_
      refine lv_aload_n F.1 F.2.1 dX6_takeNext_3 rfl (lv_at hl 1 rfl) ?_
      refine g_getR (ci := 6) (k := 3) F hH rfl (by decide) iX6 hx.1 (by decide) rfl (b := pA) hx.2.1 k23 dX6_takeNext_4 ?_
      refine g_getI (ci := 2) (k := 1) F hH rfl (by decide) iX2 hx.2.2.1 (by decide) rfl k96 dX6_takeNext_7 ?_
      have b_4 := gI_plan hv hx.2.2.1
      refine z_icmp_ge (tgt := 42) F dX6_takeNext_10 (by decide) zi (zr_t _) (fun c_5 => ?_) (fun c_5 => ?_)
      · refine lv_aload_n F.1 F.2.1 dX6_takeNext_42 rfl (lv_at hl 1 rfl) ?_
        refine g_getR (ci := 6) (k := 5) F hH rfl (by decide) iX6 hx.1 (by decide) rfl (b := bA) hx.2.2.2.1 k38 dX6_takeNext_43 ?_
        refine lv_astore_n (lv' := [(1, .ref bA), (0, .ref x)]) F.1 F.2.1 dX6_takeNext_46 rfl hl (by decide) rfl (fun ls hl => ?_)
        refine lv_aload_n F.1 F.2.1 dX6_takeNext_47 rfl (lv_at hl 1 rfl) ?_
        refine lv_aload_n F.1 F.2.1 dX6_takeNext_48 rfl (lv_at hl 1 rfl) ?_
        refine g_getR (ci := 6) (k := 6) F hH rfl (by decide) iX6 hx.1 (by decide) rfl (b := nA) hx.2.2.2.2.2.1 k42 dX6_takeNext_49 ?_
        refine g_putR (ci := 6) (k := 5) F hH hS rfl (by decide) iX6 hx.1 (by decide) tyX6 tyX6_ok nmX6 rfl (ty := tyX6 5) rfl rfl rfl rfl k38 dX6_takeNext_52 (fun H locs hH hS => ?_)
        obtain ⟨R_6, eR_6⟩ : ∃ qQ, qQ = gup2 R x 5 (some (nA)) := ⟨_, rfl⟩
        rw [← eR_6] at hH
        have kR_6 : ∀ b, b ≠ x → R_6 b = R b := fun b hb => by rw [eR_6]; exact funext fun j => gup2_a _ _ hb
        have hv : gInv g gh R_6 AR I_1 AI_2 := by rw [eR_6]; exact gInv_Rx hv hx.1 (Or.inr ⟨Or.inl rfl, hx.2.2.2.2.2.2⟩)
        refine lv_aload_n F.1 F.2.1 dX6_takeNext_55 rfl (lv_at hl 1 rfl) ?_
        refine lv_aload_n F.1 F.2.1 dX6_takeNext_56 rfl (lv_at hl 0 rfl) ?_
        refine g_putR (ci := 6) (k := 6) F hH hS rfl (by decide) iX6 hx.1 (by decide) tyX6 tyX6_ok nmX6 rfl (ty := tyX6 6) rfl rfl rfl rfl k42 dX6_takeNext_57 (fun H locs hH hS => ?_)
        obtain ⟨R_7, eR_7⟩ : ∃ qQ, qQ = gup2 R_6 x 6 (some (bA)) := ⟨_, rfl⟩
        rw [← eR_7] at hH
        have kR_7 : ∀ b, b ≠ x → R_7 b = R_6 b := fun b hb => by rw [eR_7]; exact funext fun j => gup2_a _ _ hb
        have hv : gInv g gh R_7 AR I_1 AI_2 := by rw [eR_7]; exact gInv_Rx hv hx.1 (Or.inr ⟨Or.inr rfl, hx.2.2.2.2.1⟩)
        have xs2 : xS g gh R_7 AR x pA nA bA := ⟨hx.1, by rw [eR_7, gup2_k _ _ (by decide), eR_6, gup2_k _ _ (by decide)]; exact hx.2.1, hx.2.2.1, by rw [eR_7, gup2_k _ _ (by decide), eR_6, gup2_s], hx.2.2.2.2.2.2, by rw [eR_7, gup2_s], hx.2.2.2.2.1⟩
        have rk : ∀ b k, b ≠ x ∨ (k ≠ 5 ∧ k ≠ 6) → R_7 b k = R b k := fun b k h => by
          rw [eR_7, eR_6]
          rcases h with h | h
          · rw [gup2_a _ _ h, gup2_a _ _ h]
          · rw [gup2_k _ _ h.2, gup2_k _ _ h.1]
        exact g_vret F hr hlk hH hS hz ⟨rfl, rfl, rfl, hv, rf, xs2, rk, fT, fM, fun r hr => hmv r (by omega)⟩ dX6_takeNext_60
      · refine lv_aload_n F.1 F.2.1 dX6_takeNext_13 rfl (lv_at hl 1 rfl) ?_
        obtain ⟨r_8a, r_8b⟩ := gR_x7 hv hx.1
        refine g_getR (ci := 6) (k := 7) F hH rfl (by decide) iX6 hx.1 (by decide) rfl (b := gh 35 0) r_8a k45 dX6_takeNext_14 ?_
        refine lv_iload_n F.1 F.2.1 dX6_takeNext_17 rfl (lv_at hl 0 rfl) ?_
        have hx18 : 0 ≤ i ∧ i < ((16 : Nat) : Int) ∧ i ≤ 2147483647 := ⟨by omega, by omega, by omega⟩
        obtain ⟨y_9, y_9a, y_9b, y_9c, y_9d, y_9e⟩ := r_8b.2 (i).toNat (by omega)
        refine g_aldR F hH r_8b.1 hx18.1 hx18.2.1 hx18.2.2 (b := y_9) y_9a dX6_takeNext_18 ?_
        refine lv_aload_n F.1 F.2.1 dX6_takeNext_19 rfl (lv_at hl 1 rfl) ?_
        refine g_getR (ci := 6) (k := 6) F hH rfl (by decide) iX6 hx.1 (by decide) rfl (b := nA) hx.2.2.2.2.2.1 k42 dX6_takeNext_20 ?_
        refine lv_iload_n F.1 F.2.1 dX6_takeNext_23 rfl (lv_at hl 0 rfl) ?_
        have hx24 : 0 ≤ i ∧ i < ((16 : Nat) : Int) ∧ i ≤ 2147483647 := ⟨by omega, by omega, by omega⟩
        obtain ⟨y_10, y_10a, y_10b, y_10c, y_10d, y_10e⟩ := hx.2.2.2.2.2.2.2 (i).toNat (by omega)
        refine g_aldR F hH hx.2.2.2.2.2.2.1 hx24.1 hx24.2.1 hx24.2.2 (b := y_10) y_10a dX6_takeNext_24 ?_
        refine lv_aload_n F.1 F.2.1 dX6_takeNext_25 rfl (lv_at hl 1 rfl) ?_
        refine g_getR (ci := 6) (k := 5) F hH rfl (by decide) iX6 hx.1 (by decide) rfl (b := bA) hx.2.2.2.1 k38 dX6_takeNext_26 ?_
        refine lv_iload_n F.1 F.2.1 dX6_takeNext_29 rfl (lv_at hl 0 rfl) ?_
        have hx30 : 0 ≤ i ∧ i < ((16 : Nat) : Int) ∧ i ≤ 2147483647 := ⟨by omega, by omega, by omega⟩
        obtain ⟨y_11, y_11a, y_11b, y_11c, y_11d, y_11e⟩ := hx.2.2.2.2.1.2 (i).toNat (by omega)
        refine g_aldR F hH hx.2.2.2.2.1.1 hx30.1 hx30.2.1 hx30.2.2 (b := y_11) y_11a dX6_takeNext_30 ?_
        refine z_iconst F dX6_takeNext_31 ?_
        have rm : rob AR (gh 35 0) i.toNat = y_9 := rob_e y_9a
        have rn : rob AR nA i.toNat = y_10 := rob_e y_10a
        have rb : rob AR bA i.toNat = y_11 := rob_e y_11a
        have hmn : ∀ r, r < 16 → rob AR (gh 35 0) r ≠ y_10 := fun r hr e9 => by have q9 := (isRA_o h35.2 hr).2.2.1; rw [e9, y_10c] at q9; exact absurd q9 (by decide)
        have hcn : ∀ r, r < 16 → gh 0 (rob AR (gh 35 0) r) ≠ gh 0 y_10 := fun r hr => cells_ne hv y_10b (isRA_o h35.2 hr).2.1 (hmn r hr)
        have hIn : I_1 y_10 = I y_10 := fT _ hmn
        have hAn : AI_2 (gh 0 y_10) = AI (gh 0 y_10) := fM _ hcn
        have hln : (I_1 y_10 3).toInt = (((I y_10 3).toInt.toNat : Nat) : Int) := by have q9 := (gI_rows hv y_10b).2.2.1; rw [hIn] at q9 ⊢; omega
        have hkn := hbn i.toNat (by omega)
        unfold bgOK rfC at hkn; rw [rn] at hkn; dsimp only at hkn
        have hon : okB (AI_2 (gh 0 y_10)) (I y_10 3).toInt.toNat := by rw [hAn]; exact hkn.1
        have hmb : ∀ r, r < 16 → rob AR (gh 35 0) r ≠ y_11 := fun r hr e9 => by have q9 := (isRA_o h35.2 hr).2.2.1; rw [e9, y_11c] at q9; exact absurd q9 (by decide)
        have hcb : ∀ r, r < 16 → gh 0 (rob AR (gh 35 0) r) ≠ gh 0 y_11 := fun r hr => cells_ne hv y_11b (isRA_o h35.2 hr).2.1 (hmb r hr)
        have hIb : I_1 y_11 = I y_11 := fT _ hmb
        have hAb : AI_2 (gh 0 y_11) = AI (gh 0 y_11) := fM _ hcb
        have hlb : (I_1 y_11 3).toInt = (((I y_11 3).toInt.toNat : Nat) : Int) := by have q9 := (gI_rows hv y_11b).2.2.1; rw [hIb] at q9 ⊢; omega
        have hkb := hbg i.toNat (by omega)
        unfold bgOK rfC at hkb; rw [rb] at hkb; dsimp only at hkb
        have hob : okB (AI_2 (gh 0 y_11)) (I y_11 3).toInt.toNat := by rw [hAb]; exact hkb.1
        obtain ⟨b_12a, b_12b, b_12c, b_12d, b_12e, b_12f, b_12g, b_12h⟩ := gI_rows hv y_9b
        obtain ⟨b_13a, b_13b, b_13c, b_13d, b_13e, b_13f, b_13g, b_13h⟩ := gI_rows hv y_10b
        obtain ⟨b_14a, b_14b, b_14c, b_14d, b_14e, b_14f, b_14g, b_14h⟩ := gI_rows hv y_11b
        refine g_calli (g_runV (As := [.ref y_10, .ref y_11, .int (iI ((-1)))]) (rest := []) (ci := 4) F hl.1 hH hS hz (c_X4_gatherf l g gh ((I y_10 3).toInt.toNat) ((I y_11 3).toInt.toNat) (fun t => bS (AI_2 (gh 0 y_10)) (I y_10 3).toInt.toNat t + iI (-1) * bS (AI_2 (gh 0 y_11)) (I y_11 3).toInt.toNat t) I_1 R J AI_2 AJ AR y_9 y_10 y_11 (-1) ⟨by decide, by decide⟩ hv y_9b y_10b y_11b (by omega) (by omega) (by rw [← rm]; exact (hmn i.toNat (by omega)).symm) (by rw [← rm]; exact (hmb i.toNat (by omega)).symm) (by omega) hln hlb hon hob (fun _ => rfl)) (cwV 3 F.2.2.2.2.1 gX6_takeNext_X4_gather rfl rfl rfl hdX4_gather ⟨Nat.le_of_ble_eq_true rfl, Nat.le_of_ble_eq_true rfl⟩) y_9b (by decide) rfl rfl rfl (Nat.le_of_ble_eq_true rfl) dX6_takeNext_32 ⟨Nat.zero_le _, Nat.zero_le _⟩) hS (fun v_21 I_15 R_16 J_17 AI_18 AJ_19 AR_20 H locs zv_21 hp_22 hH hS => ?_)
        dsimp only at hp_22
        obtain ⟨rfl, rfl, rfl, rfl, hv, q_23, q_24, qga⟩ := hp_22
        have rf := rF_t rf (rF_o y_9b q_23)
        have u_25p : I_15 pA = I pA := rf pA 2 hx.2.2.1 (by decide)
        have u_25p1 : (I_15 pA 1).toInt = (I pA 1).toInt := by rw [u_25p]
        have u_25p2 : (I_15 pA 2).toInt = (I pA 2).toInt := by rw [u_25p]
        refine lv_pop F.1 F.2.1 dX6_takeNext_35 rfl ?_
        have hfi : ∀ b, b ≠ rob AR (gh 35 0) i.toNat → I_15 b = I_1 b := by rw [rm]; exact q_23
        have hfa : ∀ b, b ≠ gh 0 (rob AR (gh 35 0) i.toNat) → AI_18 b = AI_2 b := by rw [rm]; exact q_24
        have hga9 := (qga.resolve_right (fun h => by have q8 := ga_cnt hkn.1 hkb.1 (by rw [← hAn, ← hAb]; exact h.2); rw [y_9c] at q8; have q7 := hkn.2.1; have q6 := hkb.2.1; omega)).2
        have hl0 := (gI_rows hv y_9b).2.2.1
        have fT : ∀ b, (∀ r, r < 16 → rob AR (gh 35 0) r ≠ b) → I_15 b = I b := fun b hb => (hfi b (fun e9 => hb i.toNat (by omega) e9.symm)).trans (fT b hb)
        have fM : ∀ b, (∀ r, r < 16 → gh 0 (rob AR (gh 35 0) r) ≠ b) → AI_18 b = AI b := fun b hb => (hfa b (fun e9 => hb i.toNat (by omega) e9.symm)).trans (fM b hb)
        have hmv9 : ∀ r : Nat, (r : Int) < i + 1 → mvQ gh AR I AI bA nA I_15 AI_18 r := fun r hr => by
          by_cases e9 : (r : Int) < i
          · have q9 := hmv r e9
            have ne : rob AR (gh 35 0) r ≠ rob AR (gh 35 0) i.toNat := fun e8 => absurd (hDm r i.toNat (by omega) (by omega) e8) (by omega)
            unfold mvQ at q9 ⊢
            rw [hfi _ ne, hfa _ (cells_ne hv (isRA_o h35.2 (by omega)).2.1 (isRA_o h35.2 (by omega)).2.1 ne)]; exact q9
          · rw [show r = i.toNat by omega]; unfold mvQ; rw [rm, rn, rb, ← hAn, ← hAb]; exact ⟨hga9, by omega⟩
        refine z_iinc (lv' := [(1, .int (iI (i + 1))), (0, .ref x)]) F dX6_takeNext_36 hl (k := 0) rfl (by decide) rfl (fun ls hl => ?_)
        refine z_goto (tgt := 2) F dX6_takeNext_39 (by decide) ?_
        exact ih2 (i + 1) I_15 AI_18 H locs ls ⟨by omega, by omega⟩ hv rf (by omega) fT fM hmv9 (by omega) hH hS (lv_sub hl [0, 1] rfl)
  exact cut_2_2 (((16 - 0) + 1 : Int).toNat) 0 I AI H locs ls ⟨by decide, by decide⟩ hv rf (by omega) (fun _ _ => rfl) (fun _ _ => rfl) (fun r hr => absurd hr (by omega)) (by omega) hH hS (lv_sub hl [0, 1] rfl)
