def rmX6_fallsBelowZerof : Room := { frames := 3, cells := 0, slots := 0, locals := 83 }
set_option maxHeartbeats 4000000 in
set_option maxRecDepth 100000 in
/-- an amount below zero -/
theorem c_X6_fallsBelowZerof (l : Launch) (g : gG) (gh : gGh) (pA bA nA : Nat) (nb : Nat) (I : gI) (R : gR) (J : gJ) (AI : gI) (AJ : gJ) (AR : gR) (x : Nat) (ch : Nat) (sg : Int) (zsg : zr sg) (hv : gInv g gh R AR I AI) (hx : xS g gh R AR x pA bA nA) (hch : gO g ch 4) (h5 : gh 2 ch = 5) (hnb : (I ch 3).toInt = (nb : Int)) (hFb : ∀ i, i < nb → okB ((rfC gh AR I AI bA) ((AI (gh 0 ch)) (6 * i)).toInt.toNat).2 ((rfC gh AR I AI bA) ((AI (gh 0 ch)) (6 * i)).toInt.toNat).1) : gMet l g yX6_fallsBelowZero wsX6_fallsBelowZero rmX6_fallsBelowZerof [.ref x, .ref ch, .int (iI sg)] (I, R, J, AI, AJ, AR) (gQi g (fun (z : Int) (w : gS) => I = w.1 ∧ R = w.2.1 ∧ J = w.2.2.1 ∧ AJ = w.2.2.2.2.1 ∧ AR = w.2.2.2.2.2 ∧ (gInv g gh R AR I (w.2.2.2.1)) ∧ (z = 0 ∨ z = 1) ∧ (∀ b, b ≠ gh 29 0 → (w.2.2.2.1) b = AI b) ∧ (tIz z (∃ i, i < nb ∧ blw (AI (gh 0 ch)) (rfC gh AR I AI bA) sg i)))) := by
  refine gStart (cc := cX6_fallsBelowZero) (maxL := 5) (ret := (some (.boolean))) (by decide) rfl (Nat.le_of_ble_eq_true rfl) ?_
  intro p e s m below meth c ls F hr hlk hH hz hS hl
  have hl : lv_has ls 5 [(0, .ref x), (1, .ref ch), (2, .int (iI sg))] := hl
  have hS : va_S (gA g) s.heap s.heap [] := hS
  obtain ⟨H, hHe⟩ : ∃ H : Heap, H = s.heap := ⟨_, rfl⟩
  obtain ⟨locs, hlo⟩ : ∃ k : List Loc, k = [] := ⟨_, rfl⟩
  have hH : gH g I R J AI AJ AR H := by rw [hHe]; exact hH
  have hS : va_S (gA g) s.heap H locs := by rw [hHe, hlo]; exact hS
  suffices hw : W p l e rmX6_fallsBelowZerof s m ([.ref x, .ref ch, .int (iI sg)] : List Value).toArray below meth c H locs 0 0 (MQ below (gQi g (fun (z : Int) (w : gS) => I = w.1 ∧ R = w.2.1 ∧ J = w.2.2.1 ∧ AJ = w.2.2.2.2.1 ∧ AR = w.2.2.2.2.2 ∧ (gInv g gh R AR I (w.2.2.2.1)) ∧ (z = 0 ∨ z = 1) ∧ (∀ b, b ≠ gh 29 0 → (w.2.2.2.1) b = AI b) ∧ (tIz z (∃ i, i < nb ∧ blw (AI (gh 0 ch)) (rfC gh AR I AI bA) sg i)))) ([.ref x, .ref ch, .int (iI sg)] : List Value).toArray s 0 0 (gA g)) (F0 m 0 ls []) by
    rw [hHe, hlo] at hw; exact hw
  clear hHe hlo
  have hcc : gh 0 ch ≠ gh 29 0 := ne_9 (cells_9 hv hch) (ro29 hv hx.1) (by decide)
  have iX6 : ∀ w ∈ u_ws RX6 TX6 18, w ∈ wsX6_fallsBelowZero := (by decide +kernel)
  have iX4 : ∀ w ∈ u_ws RX4 TX4 4, w ∈ wsX6_fallsBelowZero := (by decide +kernel)
  have k99 : Cond.fieldLink RX6 99 (TX4 3).1 (TX4 3).2.1 (TX4 3).2.2.1 ∈ wsX6_fallsBelowZero := List.mem_of_getElem? (i := 1) rfl
  have k66 : Cond.fieldLink RX6 66 (TX6 12).1 (TX6 12).2.1 (TX6 12).2.2.1 ∈ wsX6_fallsBelowZero := List.mem_of_getElem? (i := 2) rfl
  have k38 : Cond.fieldLink RX6 38 (TX6 5).1 (TX6 5).2.1 (TX6 5).2.2.1 ∈ wsX6_fallsBelowZero := List.mem_of_getElem? (i := 3) rfl
  refine z_iconst F dX6_fallsBelowZero_0 ?_
  refine lv_istore_n (lv' := [(3, .int (iI 0)), (0, .ref x), (1, .ref ch), (2, .int (iI sg))]) F.1 F.2.1 dX6_fallsBelowZero_1 rfl hl (by decide) rfl (fun ls hl => ?_)
  have cut_2_1 : ∀ (NN : Nat) (i : Int) (AI_1 : gI) (H : Heap) (locs : List Loc) (ls : Array Slot), zr i → (gInv g gh R AR I AI_1) → (0 ≤ i ∧ i ≤ 240) → (∀ b, b ≠ gh 29 0 → AI_1 b = AI b) → (∀ j : Nat, (j : Int) < i → ¬ blw (AI (gh 0 ch)) (rfC gh AR I AI bA) sg j) → (240 - i) < ((NN : Nat) : Int) → gH g I R J AI_1 AJ AR H → va_S (gA g) s.heap H locs → lv_has ls 5 [(3, .int (iI i)), (0, .ref x), (1, .ref ch), (2, .int (iI sg))] → W p l e rmX6_fallsBelowZerof s m ([.ref x, .ref ch, .int (iI sg)] : List Value).toArray below meth c H locs 0 0 (MQ below (gQi g (fun (z : Int) (w : gS) => I = w.1 ∧ R = w.2.1 ∧ J = w.2.2.1 ∧ AJ = w.2.2.2.2.1 ∧ AR = w.2.2.2.2.2 ∧ (gInv g gh R AR I (w.2.2.2.1)) ∧ (z = 0 ∨ z = 1) ∧ (∀ b, b ≠ gh 29 0 → (w.2.2.2.1) b = AI b) ∧ (tIz z (∃ i, i < nb ∧ blw (AI (gh 0 ch)) (rfC gh AR I AI bA) sg i)))) ([.ref x, .ref ch, .int (iI sg)] : List Value).toArray s 0 0 (gA g)) (F0 m 2 ls []) := by
    intro NN2
    induction NN2 with
    | zero =>
      intro i AI_1 H locs ls zi hv hi fA9 hno hm2 hH hS hl
      exact absurd hm2 (by omega)
    | succ NN2 ih2 =>
      intro i AI_1 H locs ls zi hv hi fA9 hno hm2 hH hS hl
      refine lv_iload_n F.1 F.2.1 dX6_fallsBelowZero_2 rfl (lv_at hl 0 rfl) ?_
      refine lv_aload_n F.1 F.2.1 dX6_fallsBelowZero_3 rfl (lv_at hl 2 rfl) ?_
      refine g_getI (ci := 4) (k := 3) F hH rfl (by decide) iX4 hch (by decide) rfl k99 dX6_fallsBelowZero_4 ?_
      obtain ⟨b_3a, b_3b, b_3c, b_3d, b_3e, b_3f, b_3g, b_3h⟩ := gI_rows hv hch
      refine z_icmp_ge (tgt := 61) F dX6_fallsBelowZero_7 (by decide) zi (zr_t _) (fun c_4 => ?_) (fun c_4 => ?_)
      · refine z_iconst F dX6_fallsBelowZero_61 ?_
        exact g_zret F hr hlk hH hS hz (by omega) ⟨rfl, rfl, rfl, rfl, rfl, hv, by first | omega | rfl | (dsimp only; omega), fun b hb => fA9 b hb, tIz_f (fun ⟨j, h1, h2⟩ => hno j (by omega) h2)⟩ dX6_fallsBelowZero_62
      · refine lv_aload_n F.1 F.2.1 dX6_fallsBelowZero_10 rfl (lv_at hl 2 rfl) ?_
        refine lv_iload_n F.1 F.2.1 dX6_fallsBelowZero_11 rfl (lv_at hl 0 rfl) ?_
        refine z_iconst F dX6_fallsBelowZero_12 ?_
        refine lv_aload_n F.1 F.2.1 dX6_fallsBelowZero_13 rfl (lv_at hl 1 rfl) ?_
        obtain ⟨r_5a, r_5b⟩ := gR_x12 hv hx.1
        refine g_getR (ci := 6) (k := 12) F hH rfl (by decide) iX6 hx.1 (by decide) rfl (b := gh 29 0) r_5a k66 dX6_fallsBelowZero_14 ?_
        refine g_callv (g_runV (As := [.int (iI i), .int (iI 1), .ref (gh 29 0)]) (rest := []) (ci := 4) F hl.1 hH hS hz (c_X4_copyKeyf l g gh I R J AI_1 AJ AR ch i 1 (gh 29 0) zi ⟨by decide, by decide⟩ hv hch (by omega) (by omega) r_5b (ro29 hv hx.1) (by omega) (by omega)) (cwV 3 F.2.2.2.2.1 gX6_fallsBelowZero_X4_copyKey rfl rfl rfl hdX4_copyKey ⟨Nat.le_of_ble_eq_true rfl, Nat.le_of_ble_eq_true rfl⟩) hch (by decide) rfl rfl rfl (Nat.le_of_ble_eq_true rfl) dX6_fallsBelowZero_17 ⟨Nat.zero_le _, Nat.zero_le _⟩) hS (fun I_6 R_7 J_8 AI_9 AJ_10 AR_11 H locs hp_12 hH hS => ?_)
        dsimp only at hp_12
        obtain ⟨rfl, rfl, rfl, rfl, rfl, q_13, hv, qck⟩ := hp_12
        have hbk : ∀ j, j < 4 → AI_9 (gh 29 0) j = tg (btu (AI (gh 0 ch)) i.toNat) j := fun j hj => by rw [qck, h5, fA9 _ hcc]; unfold va_cpy; rw [if_pos ⟨by omega, by omega⟩, btu_at hj]; congr 1; omega
        have fA9 : ∀ b, b ≠ gh 29 0 → AI_9 b = AI b := fun b hb => (q_13 b hb).trans (fA9 b hb)
        refine lv_aload_n F.1 F.2.1 dX6_fallsBelowZero_20 rfl (lv_at hl 1 rfl) ?_
        refine g_getR (ci := 6) (k := 5) F hH rfl (by decide) iX6 hx.1 (by decide) rfl (b := bA) hx.2.2.2.1 k38 dX6_fallsBelowZero_21 ?_
        refine lv_aload_n F.1 F.2.1 dX6_fallsBelowZero_24 rfl (lv_at hl 2 rfl) ?_
        refine lv_iload_n F.1 F.2.1 dX6_fallsBelowZero_25 rfl (lv_at hl 0 rfl) ?_
        refine z_iconst F dX6_fallsBelowZero_26 ?_
        refine g_calli (g_runV (As := [.int (iI i), .int (iI 0)]) (rest := [.ref bA]) (ci := 4) F hl.1 hH hS hz (c_X4_cell l g gh I R J AI_9 AJ AR ch i 0 zi ⟨by decide, by decide⟩ hv hch (by omega) (by omega) (by omega) (by omega)) (cwV 2 F.2.2.2.2.1 gX6_fallsBelowZero_X4_cell rfl rfl rfl hdX4_cell ⟨Nat.le_of_ble_eq_true rfl, Nat.le_of_ble_eq_true rfl⟩) hch (by decide) rfl rfl rfl (Nat.le_of_ble_eq_true rfl) dX6_fallsBelowZero_27 ⟨Nat.zero_le _, Nat.zero_le _⟩) hS (fun v_20 I_14 R_15 J_16 AI_17 AJ_18 AR_19 H locs zv_20 hp_21 hH hS => ?_)
        dsimp only at hp_21
        obtain ⟨rfl, rfl, rfl, rfl, rfl, rfl, qc⟩ := hp_21
        have hc5 := hv.2.1 ch hch h5 i.toNat (by omega)
        rw [show 6 * i.toNat = (i * 6 + 0).toNat from by omega, ← qc] at hc5
        have hq27 : v_20 = ((AI (gh 0 ch)) (6 * i.toNat)).toInt := by rw [qc, fA9 _ hcc]; congr 2; omega
        have hx30 : 0 ≤ v_20 ∧ v_20 < ((16 : Nat) : Int) ∧ v_20 ≤ 2147483647 := ⟨by omega, by omega, by omega⟩
        obtain ⟨y_22, y_22a, y_22b, y_22c, y_22d, y_22e⟩ := hx.2.2.2.2.1.2 (v_20).toNat (by omega)
        refine g_aldR F hH hx.2.2.2.2.1.1 hx30.1 hx30.2.1 hx30.2.2 (b := y_22) y_22a dX6_fallsBelowZero_30 ?_
        have erb : rob AR bA ((AI (gh 0 ch)) (6 * i.toNat)).toInt.toNat = y_22 := rob_e (by rw [← hq27]; exact y_22a)
        have hbo := hFb i.toNat (by omega)
        unfold rfC at hbo; rw [erb] at hbo; dsimp only at hbo
        have hyc : AI_9 (gh 0 y_22) = AI (gh 0 y_22) := fA9 _ (ne_9 (cells_9 hv y_22b) (ro29 hv hx.1) (by decide))
        have hyl : (I y_22 3).toInt = (((I y_22 3).toInt.toNat : Nat) : Int) := by have q9 := (gI_rows hv y_22b).2.2.1; omega
        refine lv_aload_n F.1 F.2.1 dX6_fallsBelowZero_31 rfl (lv_at hl 1 rfl) ?_
        refine g_getR (ci := 6) (k := 12) F hH rfl (by decide) iX6 hx.1 (by decide) rfl (b := gh 29 0) r_5a k66 dX6_fallsBelowZero_32 ?_
        obtain ⟨b_23a, b_23b, b_23c, b_23d, b_23e, b_23f, b_23g, b_23h⟩ := gI_rows hv y_22b
        refine g_calli (g_runV (As := [.ref (gh 29 0)]) (rest := []) (ci := 4) F hl.1 hH hS hz (c_X4_amountOff l g gh ((I y_22 3).toInt.toNat) (btu (AI (gh 0 ch)) i.toNat) I R J AI_9 AJ AR y_22 (gh 29 0) hv y_22b r_5b hyl (by rw [hyc]; exact hbo) (by omega) hbk) (cwV 1 F.2.2.2.2.1 gX6_fallsBelowZero_X4_amountOf rfl rfl rfl hdX4_amountOf ⟨Nat.le_of_ble_eq_true rfl, Nat.le_of_ble_eq_true rfl⟩) y_22b (by decide) rfl rfl rfl (Nat.le_of_ble_eq_true rfl) dX6_fallsBelowZero_35 ⟨Nat.zero_le _, Nat.zero_le _⟩) hS (fun v_30 I_24 R_25 J_26 AI_27 AJ_28 AR_29 H locs zv_30 hp_31 hH hS => ?_)
        dsimp only at hp_31
        obtain ⟨rfl, rfl, rfl, rfl, rfl, rfl, qam⟩ := hp_31
        refine lv_istore (lv' := [(4, .int (iI v_30)), (3, .int (iI i)), (0, .ref x), (1, .ref ch), (2, .int (iI sg))]) F.1 F.2.1 dX6_fallsBelowZero_38 hl (by decide) rfl (fun ls hl => ?_)
        refine lv_iload F.1 F.2.1 dX6_fallsBelowZero_40 (lv_at hl 0 rfl) ?_
        refine lv_iload_n F.1 F.2.1 dX6_fallsBelowZero_42 rfl (lv_at hl 4 rfl) ?_
        refine lv_aload_n F.1 F.2.1 dX6_fallsBelowZero_43 rfl (lv_at hl 3 rfl) ?_
        refine lv_iload_n F.1 F.2.1 dX6_fallsBelowZero_44 rfl (lv_at hl 1 rfl) ?_
        refine g_calli (g_runV (As := [.int (iI i)]) (rest := [.int (iI sg), .int (iI v_30)]) (ci := 4) F hl.1 hH hS hz (c_X4_amount l g gh I R J AI_9 AJ AR ch i zi hv hch (by omega) (by omega)) (cwV 1 F.2.2.2.2.1 gX6_fallsBelowZero_X4_amount rfl rfl rfl hdX4_amount ⟨Nat.le_of_ble_eq_true rfl, Nat.le_of_ble_eq_true rfl⟩) hch (by decide) rfl rfl rfl (Nat.le_of_ble_eq_true rfl) dX6_fallsBelowZero_45 ⟨Nat.zero_le _, Nat.zero_le _⟩) hS (fun v_38 I_32 R_33 J_34 AI_35 AJ_36 AR_37 H locs zv_38 hp_39 hH hS => ?_)
        dsimp only at hp_39
        obtain ⟨rfl, rfl, rfl, rfl, rfl, rfl, qc45⟩ := hp_39
        have hq45 : iI v_38 = (AI (gh 0 ch)) (6 * i.toNat + 5) := by rw [qc45, iI_self, fA9 _ hcc]; congr 1; omega
        refine z_imul F dX6_fallsBelowZero_48 ?_
        refine z_norm (fun v_40 zv_40 ev_40 => ?_)
        refine z_iadd F dX6_fallsBelowZero_49 ?_
        refine z_norm (fun v_41 zv_41 ev_41 => ?_)
        have hq49 : v_41 = (bS ((rfC gh AR I AI bA) ((AI (gh 0 ch)) (6 * i.toNat)).toInt.toNat).2 ((rfC gh AR I AI bA) ((AI (gh 0 ch)) (6 * i.toNat)).toInt.toNat).1 (btu (AI (gh 0 ch)) i.toNat) + iI sg * (AI (gh 0 ch)) (6 * i.toNat + 5)).toInt := by
          rw [← iI_val zv_41, ev_41, ← iI_add, ev_40, ← iI_mul, hq45, qam, iI_self]; unfold rfC; rw [erb, hyc]
        refine z_if_ge (tgt := 55) F dX6_fallsBelowZero_50 (by decide) zv_41 (fun c_42 => ?_) (fun c_42 => ?_)
        · refine z_iinc (lv' := [(3, .int (iI (i + 1))), (4, .int (iI v_30)), (0, .ref x), (1, .ref ch), (2, .int (iI sg))]) F dX6_fallsBelowZero_55 hl (k := 1) rfl (by decide) rfl (fun ls hl => ?_)
          refine z_goto (tgt := 2) F dX6_fallsBelowZero_58 (by decide) ?_
          exact ih2 (i + 1) AI_9 H locs ls ⟨by omega, by omega⟩ hv (by omega) (fun b hb => fA9 b hb) (ix_step (P := fun j => ¬ blw (AI (gh 0 ch)) (rfC gh AR I AI bA) sg j) hno (by omega) (by unfold blw; rw [← hq49]; omega)) (by omega) hH hS (lv_sub hl [0, 2, 3, 4] rfl)
        · refine z_iconst F dX6_fallsBelowZero_53 ?_
          exact g_zret F hr hlk hH hS hz (by omega) ⟨rfl, rfl, rfl, rfl, rfl, hv, by first | omega | rfl | (dsimp only; omega), fun b hb => fA9 b hb, tIz_t ⟨i.toNat, by omega, by unfold blw; rw [← hq49]; omega⟩⟩ dX6_fallsBelowZero_54
  exact cut_2_1 (((240 - 0) + 1 : Int).toNat) 0 AI H locs ls ⟨by decide, by decide⟩ hv (by omega) (fun _ _ => rfl) (fun j hj => absurd hj (by omega)) (by omega) hH hS (lv_sub hl [0, 1, 2, 3] rfl)

def rmX6_pickChangesf : Room := { frames := 2, cells := 0, slots := 0, locals := 84 }
set_option maxHeartbeats 4000000 in
set_option maxRecDepth 100000 in
/-- the changes of a table -/
theorem c_X6_pickChangesf (l : Launch) (g : gG) (gh : gGh) (pA bA nA : Nat) (nb : Nat) (I : gI) (R : gR) (J : gJ) (AI : gI) (AJ : gJ) (AR : gR) (x : Nat) (ch : Nat) (tb : Int) (ztb : zr tb) (hv : gInv g gh R AR I AI) (hx : xS g gh R AR x pA bA nA) (hch : gO g ch 4) (h5 : gh 2 ch = 5) (hnb : (I ch 3).toInt = (nb : Int)) (hbt : btO (AI (gh 0 ch)) nb) (hc39 : ch ≠ gh 39 0) (hc40 : gh 1 ch = 40) : gMet l g yX6_pickChanges wsX6_pickChanges rmX6_pickChangesf [.ref x, .ref ch, .int (iI tb)] (I, R, J, AI, AJ, AR) (gQv g (fun w : gS => R = w.2.1 ∧ J = w.2.2.1 ∧ AJ = w.2.2.2.2.1 ∧ AR = w.2.2.2.2.2 ∧ (gInv g gh R AR (w.1) (w.2.2.2.1)) ∧ (rF g I (w.1)) ∧ (∀ b, b ≠ gh 39 0 → (w.1) b = I b) ∧ (∀ b, b ≠ gh 0 (gh 39 0) → b ≠ gh 29 0 → (w.2.2.2.1) b = AI b) ∧ (isB ((w.2.2.2.1) (gh 0 (gh 39 0))) ((w.1) (gh 39 0) 3).toInt.toNat (fun t => cS (AI (gh 0 ch)) tb nb t) zM ∧ 0 ≤ ((w.1) (gh 39 0) 3).toInt))) := by
  refine gStart (cc := cX6_pickChanges) (maxL := 4) (ret := none) (by decide) rfl (Nat.le_of_ble_eq_true rfl) ?_
  intro p e s m below meth c ls F hr hlk hH hz hS hl
  have hl : lv_has ls 4 [(0, .ref x), (1, .ref ch), (2, .int (iI tb))] := hl
  have hS : va_S (gA g) s.heap s.heap [] := hS
  obtain ⟨H, hHe⟩ : ∃ H : Heap, H = s.heap := ⟨_, rfl⟩
  obtain ⟨locs, hlo⟩ : ∃ k : List Loc, k = [] := ⟨_, rfl⟩
  have hH : gH g I R J AI AJ AR H := by rw [hHe]; exact hH
  have hS : va_S (gA g) s.heap H locs := by rw [hHe, hlo]; exact hS
  suffices hw : W p l e rmX6_pickChangesf s m ([.ref x, .ref ch, .int (iI tb)] : List Value).toArray below meth c H locs 0 0 (MQ below (gQv g (fun w : gS => R = w.2.1 ∧ J = w.2.2.1 ∧ AJ = w.2.2.2.2.1 ∧ AR = w.2.2.2.2.2 ∧ (gInv g gh R AR (w.1) (w.2.2.2.1)) ∧ (rF g I (w.1)) ∧ (∀ b, b ≠ gh 39 0 → (w.1) b = I b) ∧ (∀ b, b ≠ gh 0 (gh 39 0) → b ≠ gh 29 0 → (w.2.2.2.1) b = AI b) ∧ (isB ((w.2.2.2.1) (gh 0 (gh 39 0))) ((w.1) (gh 39 0) 3).toInt.toNat (fun t => cS (AI (gh 0 ch)) tb nb t) zM ∧ 0 ≤ ((w.1) (gh 39 0) 3).toInt))) ([.ref x, .ref ch, .int (iI tb)] : List Value).toArray s 0 0 (gA g)) (F0 m 0 ls []) by
    rw [hHe, hlo] at hw; exact hw
  clear hHe hlo
  have rf : rF g I I := rF_r
  have h3g := gR_x10 hv hx.1
  have h3l := h3g.2.2.1
  have hcc : gh 0 ch ≠ gh 29 0 := ne_9 (cells_9 hv hch) (ro29 hv hx.1) (by decide)
  have hct : gh 0 ch ≠ gh 0 (gh 39 0) := cells_ne hv h3g.2.1 hch hc39
  have htk : gh 0 (gh 39 0) ≠ gh 29 0 := ne_9 (cells_9 hv h3g.2.1) (ro29 hv hx.1) (by decide)
  have hnb4 : nb ≤ gh 1 ch := by have := (gI_rows hv hch).2.2.2.1; omega
  have iX6 : ∀ w ∈ u_ws RX6 TX6 18, w ∈ wsX6_pickChanges := (by decide +kernel)
  have iX4 : ∀ w ∈ u_ws RX4 TX4 4, w ∈ wsX6_pickChanges := (by decide +kernel)
  have k60 : Cond.fieldLink RX6 60 (TX6 10).1 (TX6 10).2.1 (TX6 10).2.2.1 ∈ wsX6_pickChanges := List.mem_of_getElem? (i := 1) rfl
  have k99 : Cond.fieldLink RX6 99 (TX4 3).1 (TX4 3).2.1 (TX4 3).2.2.1 ∈ wsX6_pickChanges := List.mem_of_getElem? (i := 2) rfl
  have k66 : Cond.fieldLink RX6 66 (TX6 12).1 (TX6 12).2.1 (TX6 12).2.2.1 ∈ wsX6_pickChanges := List.mem_of_getElem? (i := 3) rfl
  refine lv_aload_n F.1 F.2.1 dX6_pickChanges_0 rfl (lv_at hl 0 rfl) ?_
  obtain ⟨r_1a, r_1b, r_1c, r_1d⟩ := gR_x10 hv hx.1
  refine g_getR (ci := 6) (k := 10) F hH rfl (by decide) iX6 hx.1 (by decide) rfl (b := gh 39 0) r_1a k60 dX6_pickChanges_1 ?_
  refine z_iconst F dX6_pickChanges_4 ?_
  refine g_putI (ci := 4) (k := 3) F hH hS rfl (by decide) iX4 r_1b (by decide) tyX4 tyX4_ok nmX4 rfl rfl rfl k99 dX6_pickChanges_5 (fun H locs hH hS => ?_)
  obtain ⟨I_2, eI_2⟩ : ∃ qQ, qQ = gup2 I (gh 39 0) 3 (iI (0)) := ⟨_, rfl⟩
  rw [← eI_2] at hH
  have kI_2 : ∀ b, b ≠ (gh 39 0) → I_2 b = I b := fun b hb => by rw [eI_2]; exact funext fun j => gup2_a _ _ hb
  have w_3 : (I_2 (gh 39 0) 3).toInt = 0 := by rw [eI_2, gup2_s]; exact iI_val ⟨by omega, by omega⟩
  have hv : gInv g gh R AR I_2 AI := by rw [eI_2]; exact gInv_len hv r_1b (by omega) (by omega) (by first | exact hfz | omega)
  have rf := rF_t rf (rF_o r_1b kI_2)
  have fT : ∀ b, b ≠ gh 39 0 → I_2 b = I b := fun b hb => kI_2 b hb
  have hml : (I_2 (gh 39 0) 3).toInt = 0 := by omega
  refine z_iconst F dX6_pickChanges_8 ?_
  refine lv_istore_n (lv' := [(3, .int (iI 0)), (0, .ref x), (1, .ref ch), (2, .int (iI tb))]) F.1 F.2.1 dX6_pickChanges_9 rfl hl (by decide) rfl (fun ls hl => ?_)
  have cut_10_5 : ∀ (NN : Nat) (i : Int) (I_4 : gI) (AI_5 : gI) (H : Heap) (locs : List Loc) (ls : Array Slot), zr i → (gInv g gh R AR I_4 AI_5) → (rF g I I_4) → (0 ≤ i ∧ i ≤ 240) → (∀ b, b ≠ gh 39 0 → I_4 b = I b) → (∀ b, b ≠ gh 0 (gh 39 0) → b ≠ gh 29 0 → AI_5 b = AI b) → (pkI (AI (gh 0 ch)) (AI_5 (gh 0 (gh 39 0))) nb tb (I_4 (gh 39 0) 3).toInt.toNat i.toNat) → (0 ≤ (I_4 (gh 39 0) 3).toInt ∧ i ≤ (nb : Int)) → (240 - i) < ((NN : Nat) : Int) → gH g I_4 R J AI_5 AJ AR H → va_S (gA g) s.heap H locs → lv_has ls 4 [(3, .int (iI i)), (0, .ref x), (1, .ref ch), (2, .int (iI tb))] → W p l e rmX6_pickChangesf s m ([.ref x, .ref ch, .int (iI tb)] : List Value).toArray below meth c H locs 0 0 (MQ below (gQv g (fun w : gS => R = w.2.1 ∧ J = w.2.2.1 ∧ AJ = w.2.2.2.2.1 ∧ AR = w.2.2.2.2.2 ∧ (gInv g gh R AR (w.1) (w.2.2.2.1)) ∧ (rF g I (w.1)) ∧ (∀ b, b ≠ gh 39 0 → (w.1) b = I b) ∧ (∀ b, b ≠ gh 0 (gh 39 0) → b ≠ gh 29 0 → (w.2.2.2.1) b = AI b) ∧ (isB ((w.2.2.2.1) (gh 0 (gh 39 0))) ((w.1) (gh 39 0) 3).toInt.toNat (fun t => cS (AI (gh 0 ch)) tb nb t) zM ∧ 0 ≤ ((w.1) (gh 39 0) 3).toInt))) ([.ref x, .ref ch, .int (iI tb)] : List Value).toArray s 0 0 (gA g)) (F0 m 10 ls []) := by
    intro NN10
    induction NN10 with
    | zero =>
      intro i I_4 AI_5 H locs ls zi hv rf hi fT fM hpk hml hm10 hH hS hl
      exact absurd hm10 (by omega)
    | succ NN10 ih10 =>
      intro i I_4 AI_5 H locs ls zi hv rf hi fT fM hpk hml hm10 hH hS hl
      have hCH : AI_5 (gh 0 ch) = AI (gh 0 ch) := fM _ hct hcc
      have hnb : (I_4 ch 3).toInt = (nb : Int) := by rw [fT _ hc39]; exact hnb
      have hle := hpk.2.1
      refine lv_iload_n F.1 F.2.1 dX6_pickChanges_10 rfl (lv_at hl 0 rfl) ?_
      refine lv_aload_n F.1 F.2.1 dX6_pickChanges_11 rfl (lv_at hl 2 rfl) ?_
      refine g_getI (ci := 4) (k := 3) F hH rfl (by decide) iX4 hch (by decide) rfl k99 dX6_pickChanges_12 ?_
      obtain ⟨b_7a, b_7b, b_7c, b_7d, b_7e, b_7f, b_7g, b_7h⟩ := gI_rows hv hch
      refine z_icmp_ge (tgt := 68) F dX6_pickChanges_15 (by decide) zi (zr_t _) (fun c_8 => ?_) (fun c_8 => ?_)
      · exact g_vret F hr hlk hH hS hz ⟨rfl, rfl, rfl, rfl, hv, rf, fT, fM, ⟨by (try dsimp only); rw [← show i.toNat = nb by omega]; exact hpk.1, by (try dsimp only); omega⟩⟩ dX6_pickChanges_68
      · refine lv_aload_n F.1 F.2.1 dX6_pickChanges_18 rfl (lv_at hl 2 rfl) ?_
        refine lv_iload_n F.1 F.2.1 dX6_pickChanges_19 rfl (lv_at hl 0 rfl) ?_
        refine z_iconst F dX6_pickChanges_20 ?_
        refine g_calli (g_runV (As := [.int (iI i), .int (iI 0)]) (rest := []) (ci := 4) F hl.1 hH hS hz (c_X4_cell l g gh I_4 R J AI_5 AJ AR ch i 0 zi ⟨by decide, by decide⟩ hv hch (by omega) (by omega) (by omega) (by omega)) (cwV 2 F.2.2.2.2.1 gX6_pickChanges_X4_cell rfl rfl rfl hdX4_cell ⟨Nat.le_of_ble_eq_true rfl, Nat.le_of_ble_eq_true rfl⟩) hch (by decide) rfl rfl rfl (Nat.le_of_ble_eq_true rfl) dX6_pickChanges_21 ⟨Nat.zero_le _, Nat.zero_le _⟩) hS (fun v_15 I_9 R_10 J_11 AI_12 AJ_13 AR_14 H locs zv_15 hp_16 hH hS => ?_)
        dsimp only at hp_16
        obtain ⟨rfl, rfl, rfl, rfl, rfl, rfl, qc⟩ := hp_16
        have hq21 : v_15 = ((AI (gh 0 ch)) (6 * i.toNat)).toInt := by rw [qc, hCH]; congr 2; omega
        refine lv_iload_n F.1 F.2.1 dX6_pickChanges_24 rfl (lv_at hl 3 rfl) ?_
        refine z_icmp_ne (tgt := 62) F dX6_pickChanges_25 (by decide) zv_15 ztb (fun c_17 => ?_) (fun c_17 => ?_)
        · have hpk9 := pkI_n (f := (AI (gh 0 ch))) hpk (by rw [← hq21]; omega)
          rw [show i.toNat + 1 = (i + 1).toNat by omega] at hpk9
          refine z_iinc (lv' := [(3, .int (iI (i + 1))), (0, .ref x), (1, .ref ch), (2, .int (iI tb))]) F dX6_pickChanges_62 hl (k := 0) rfl (by decide) rfl (fun ls hl => ?_)
          refine z_goto (tgt := 10) F dX6_pickChanges_65 (by decide) ?_
          exact ih10 (i + 1) I_4 AI_5 H locs ls ⟨by omega, by omega⟩ hv rf (by omega) fT fM hpk9 (by omega) (by omega) hH hS (lv_sub hl [0, 1, 2, 3] rfl)
        · refine lv_aload_n F.1 F.2.1 dX6_pickChanges_28 rfl (lv_at hl 2 rfl) ?_
          refine lv_iload_n F.1 F.2.1 dX6_pickChanges_29 rfl (lv_at hl 0 rfl) ?_
          refine z_iconst F dX6_pickChanges_30 ?_
          refine lv_aload_n F.1 F.2.1 dX6_pickChanges_31 rfl (lv_at hl 1 rfl) ?_
          obtain ⟨r_18a, r_18b⟩ := gR_x12 hv hx.1
          refine g_getR (ci := 6) (k := 12) F hH rfl (by decide) iX6 hx.1 (by decide) rfl (b := gh 29 0) r_18a k66 dX6_pickChanges_32 ?_
          refine g_callv (g_runV (As := [.int (iI i), .int (iI 1), .ref (gh 29 0)]) (rest := []) (ci := 4) F hl.1 hH hS hz (c_X4_copyKeyf l g gh I_4 R J AI_5 AJ AR ch i 1 (gh 29 0) zi ⟨by decide, by decide⟩ hv hch (by omega) (by omega) r_18b (ro29 hv hx.1) (by omega) (by omega)) (cwV 3 F.2.2.2.2.1 gX6_pickChanges_X4_copyKey rfl rfl rfl hdX4_copyKey ⟨Nat.le_of_ble_eq_true rfl, Nat.le_of_ble_eq_true rfl⟩) hch (by decide) rfl rfl rfl (Nat.le_of_ble_eq_true rfl) dX6_pickChanges_35 ⟨Nat.zero_le _, Nat.zero_le _⟩) hS (fun I_19 R_20 J_21 AI_22 AJ_23 AR_24 H locs hp_25 hH hS => ?_)
          dsimp only at hp_25
          obtain ⟨rfl, rfl, rfl, rfl, rfl, q_26, hv, qck⟩ := hp_25
          have hbk : ∀ j, j < 4 → AI_22 (gh 29 0) j = tg (btu (AI (gh 0 ch)) i.toNat) j := fun j hj => by rw [qck, h5, hCH]; unfold va_cpy; rw [if_pos ⟨by omega, by omega⟩, btu_at hj]; congr 1; omega
          have fM : ∀ b, b ≠ gh 0 (gh 39 0) → b ≠ gh 29 0 → AI_22 b = AI b := fun b h1 h2 => (q_26 b h2).trans (fM b h1 h2)
          have hCH : AI_22 (gh 0 ch) = AI (gh 0 ch) := fM _ hct hcc
          have hpk : pkI (AI (gh 0 ch)) (AI_22 (gh 0 (gh 39 0))) nb tb (I_4 (gh 39 0) 3).toInt.toNat i.toNat := by rw [q_26 _ htk]; exact hpk
          refine lv_aload_n F.1 F.2.1 dX6_pickChanges_38 rfl (lv_at hl 1 rfl) ?_
          refine g_getR (ci := 6) (k := 10) F hH rfl (by decide) iX6 hx.1 (by decide) rfl (b := gh 39 0) r_1a k60 dX6_pickChanges_39 ?_
          refine lv_aload_n F.1 F.2.1 dX6_pickChanges_42 rfl (lv_at hl 1 rfl) ?_
          refine g_getR (ci := 6) (k := 10) F hH rfl (by decide) iX6 hx.1 (by decide) rfl (b := gh 39 0) r_1a k60 dX6_pickChanges_43 ?_
          refine g_getI (ci := 4) (k := 3) F hH rfl (by decide) iX4 r_1b (by decide) rfl k99 dX6_pickChanges_46 ?_
          obtain ⟨b_27a, b_27b, b_27c, b_27d, b_27e, b_27f, b_27g, b_27h⟩ := gI_rows hv r_1b
          refine lv_aload_n F.1 F.2.1 dX6_pickChanges_49 rfl (lv_at hl 1 rfl) ?_
          refine g_getR (ci := 6) (k := 12) F hH rfl (by decide) iX6 hx.1 (by decide) rfl (b := gh 29 0) r_18a k66 dX6_pickChanges_50 ?_
          refine lv_aload_n F.1 F.2.1 dX6_pickChanges_53 rfl (lv_at hl 2 rfl) ?_
          refine lv_iload_n F.1 F.2.1 dX6_pickChanges_54 rfl (lv_at hl 0 rfl) ?_
          refine g_calli (g_runV (As := [.int (iI i)]) (rest := [.ref (gh 29 0), .int (iI ((I_4 (gh 39 0) 3).toInt)), .ref (gh 39 0)]) (ci := 4) F hl.1 hH hS hz (c_X4_amount l g gh I_4 R J AI_22 AJ AR ch i zi hv hch (by omega) (by omega)) (cwV 1 F.2.2.2.2.1 gX6_pickChanges_X4_amount rfl rfl rfl hdX4_amount ⟨Nat.le_of_ble_eq_true rfl, Nat.le_of_ble_eq_true rfl⟩) hch (by decide) rfl rfl rfl (Nat.le_of_ble_eq_true rfl) dX6_pickChanges_55 ⟨Nat.zero_le _, Nat.zero_le _⟩) hS (fun v_34 I_28 R_29 J_30 AI_31 AJ_32 AR_33 H locs zv_34 hp_35 hH hS => ?_)
          dsimp only at hp_35
          obtain ⟨rfl, rfl, rfl, rfl, rfl, rfl, qc55⟩ := hp_35
          have hq55 : iI v_34 = (AI (gh 0 ch)) (6 * i.toNat + 5) := by rw [qc55, iI_self, hCH]; congr 1; omega
          refine g_calli (g_runV (As := [.int (iI ((I_4 (gh 39 0) 3).toInt)), .ref (gh 29 0), .int (iI v_34)]) (rest := []) (ci := 4) F hl.1 hH hS hz (c_X4_insertf l g gh I_4 R J AI_22 AJ AR (gh 39 0) ((I_4 (gh 39 0) 3).toInt) (gh 29 0) v_34 (zr_t _) zv_34 hv r_1b r_18b (ro29 hv hx.1) (fun h => absurd h (by omega)) (by first | exact hfz | omega)) (cwV 3 F.2.2.2.2.1 gX6_pickChanges_X4_insert rfl rfl rfl hdX4_insert ⟨Nat.le_of_ble_eq_true rfl, Nat.le_of_ble_eq_true rfl⟩) r_1b (by decide) rfl rfl rfl (Nat.le_of_ble_eq_true rfl) dX6_pickChanges_58 ⟨Nat.zero_le _, Nat.zero_le _⟩) hS (fun v_42 I_36 R_37 J_38 AI_39 AJ_40 AR_41 H locs zv_42 hp_43 hH hS => ?_)
          dsimp only at hp_43
          obtain ⟨rfl, rfl, rfl, rfl, hv, q_44, q_45, q_46, q_47, qin⟩ := hp_43
          have rf := rF_t rf (rF_o r_1b q_44)
          have u_48p : I_36 pA = I pA := rf pA 2 hx.2.2.1 (by decide)
          have u_48p1 : (I_36 pA 1).toInt = (I pA 1).toInt := by rw [u_48p]
          have u_48p2 : (I_36 pA 2).toInt = (I pA 2).toInt := by rw [u_48p]
          have fT : ∀ b, b ≠ gh 39 0 → I_36 b = I b := fun b hb => (q_44 b hb).trans (fT b hb)
          have fM : ∀ b, b ≠ gh 0 (gh 39 0) → b ≠ gh 29 0 → AI_39 b = AI b := fun b h1 h2 => (q_45 b h1).trans (fM b h1 h2)
          obtain ⟨qz, qi⟩ := qin.resolve_left (fun h => absurd h.2.2 (by omega))
          rw [h3g.2.2.2] at qi
          have hiw := insP_W (n := (I_4 (gh 39 0) 3).toInt.toNat) (key_tu hbk) (by omega) (by omega) qi
          rw [hq55] at hiw
          have hpk9 := pkI_y hbt (by omega) hpk (by rw [← hq21]; omega) hiw
          rw [show (I_4 (gh 39 0) 3).toInt.toNat + 1 = (I_36 (gh 39 0) 3).toInt.toNat by omega, show i.toNat + 1 = (i + 1).toNat by omega] at hpk9
          refine lv_pop F.1 F.2.1 dX6_pickChanges_61 rfl ?_
          refine z_iinc (lv' := [(3, .int (iI (i + 1))), (0, .ref x), (1, .ref ch), (2, .int (iI tb))]) F dX6_pickChanges_62 hl (k := 0) rfl (by decide) rfl (fun ls hl => ?_)
          refine z_goto (tgt := 10) F dX6_pickChanges_65 (by decide) ?_
          exact ih10 (i + 1) I_36 AI_39 H locs ls ⟨by omega, by omega⟩ hv rf (by omega) fT fM hpk9 (by omega) (by omega) hH hS (lv_sub hl [0, 1, 2, 3] rfl)
  exact cut_10_5 (((240 - 0) + 1 : Int).toNat) 0 I_2 AI H locs ls ⟨by decide, by decide⟩ hv rf (by omega) fT (fun _ _ _ => rfl) (by rw [show (I_2 (gh 39 0) 3).toInt = 0 by omega]; exact pkI_0) (by omega) (by omega) hH hS (lv_sub hl [0, 1, 2, 3] rfl)
