def rmX6_rememberf : Room := { frames := 2, cells := 0, slots := 0, locals := 81 }
set_option maxHeartbeats 4000000 in
set_option maxRecDepth 100000 in
/-- remembers a batch -/
theorem c_X6_rememberf (l : Launch) (g : gG) (gh : gGh) (pA bA nA : Nat) (nb : Nat) (I : gI) (R : gR) (J : gJ) (AI : gI) (AJ : gJ) (AR : gR) (x : Nat) (ch : Nat) (hv : gInv g gh R AR I AI) (hx : xS g gh R AR x pA bA nA) (hch : gO g ch 4) (h5 : gh 2 ch = 5) (hnb : (I ch 3).toInt = (nb : Int)) (hnb4 : nb ≤ 40) : gMet l g yX6_remember wsX6_remember rmX6_rememberf [.ref x, .ref ch] (I, R, J, AI, AJ, AR) (gQv g (fun w : gS => R = w.2.1 ∧ J = w.2.2.1 ∧ AJ = w.2.2.2.2.1 ∧ AR = w.2.2.2.2.2 ∧ (gInv g gh R AR (w.1) (w.2.2.2.1)) ∧ (xF g x I (w.1)) ∧ (∀ b j, b ≠ x ∨ (j ≠ 14 ∧ j ≠ 15) → b ≠ rob AR (gh 36 0) (I x 14).toInt.toNat → (w.1) b j = I b j) ∧ (∀ b, b ≠ gh 0 (rob AR (gh 36 0) (I x 14).toInt.toNat) → (w.2.2.2.1) b = AI b) ∧ (((w.1) x 14).toInt = ((I x 14).toInt + 1) % 8 ∧ ((I x 15).toInt < 8 → ((w.1) x 15).toInt = (I x 15).toInt + 1) ∧ ((I x 15).toInt = 8 → ((w.1) x 15).toInt = 8)) ∧ (((w.1) (rob AR (gh 36 0) (I x 14).toInt.toNat) 3).toInt = (nb : Int) ∧ rwA ((w.2.2.2.1) (gh 0 (rob AR (gh 36 0) (I x 14).toInt.toNat))) (AI (gh 0 ch)) nb))) := by
  refine gStart (cc := cX6_remember) (maxL := 2) (ret := none) (by decide) rfl (Nat.le_of_ble_eq_true rfl) ?_
  intro p e s m below meth c ls F hr hlk hH hz hS hl
  have hl : lv_has ls 2 [(0, .ref x), (1, .ref ch)] := hl
  have hS : va_S (gA g) s.heap s.heap [] := hS
  obtain ⟨H, hHe⟩ : ∃ H : Heap, H = s.heap := ⟨_, rfl⟩
  obtain ⟨locs, hlo⟩ : ∃ k : List Loc, k = [] := ⟨_, rfl⟩
  have hH : gH g I R J AI AJ AR H := by rw [hHe]; exact hH
  have hS : va_S (gA g) s.heap H locs := by rw [hHe, hlo]; exact hS
  suffices hw : W p l e rmX6_rememberf s m ([.ref x, .ref ch] : List Value).toArray below meth c H locs 0 0 (MQ below (gQv g (fun w : gS => R = w.2.1 ∧ J = w.2.2.1 ∧ AJ = w.2.2.2.2.1 ∧ AR = w.2.2.2.2.2 ∧ (gInv g gh R AR (w.1) (w.2.2.2.1)) ∧ (xF g x I (w.1)) ∧ (∀ b j, b ≠ x ∨ (j ≠ 14 ∧ j ≠ 15) → b ≠ rob AR (gh 36 0) (I x 14).toInt.toNat → (w.1) b j = I b j) ∧ (∀ b, b ≠ gh 0 (rob AR (gh 36 0) (I x 14).toInt.toNat) → (w.2.2.2.1) b = AI b) ∧ (((w.1) x 14).toInt = ((I x 14).toInt + 1) % 8 ∧ ((I x 15).toInt < 8 → ((w.1) x 15).toInt = (I x 15).toInt + 1) ∧ ((I x 15).toInt = 8 → ((w.1) x 15).toInt = 8)) ∧ (((w.1) (rob AR (gh 36 0) (I x 14).toInt.toNat) 3).toInt = (nb : Int) ∧ rwA ((w.2.2.2.1) (gh 0 (rob AR (gh 36 0) (I x 14).toInt.toNat))) (AI (gh 0 ch)) nb))) ([.ref x, .ref ch] : List Value).toArray s 0 0 (gA g)) (F0 m 0 ls []) by
    rw [hHe, hlo] at hw; exact hw
  clear hHe hlo
  have xf : xF g x I I := xF_r
  have iX6 : ∀ w ∈ u_ws RX6 TX6 18, w ∈ wsX6_remember := (by decide +kernel)
  have k74 : Cond.fieldLink RX6 74 (TX6 13).1 (TX6 13).2.1 (TX6 13).2.2.1 ∈ wsX6_remember := List.mem_of_getElem? (i := 1) rfl
  have k160 : Cond.fieldLink RX6 160 (TX6 14).1 (TX6 14).2.1 (TX6 14).2.2.1 ∈ wsX6_remember := List.mem_of_getElem? (i := 2) rfl
  have k100 : Cond.fieldLink RX6 100 (TX6 15).1 (TX6 15).2.1 (TX6 15).2.2.1 ∈ wsX6_remember := List.mem_of_getElem? (i := 3) rfl
  refine lv_aload_n F.1 F.2.1 dX6_remember_0 rfl (lv_at hl 0 rfl) ?_
  obtain ⟨r_1a, r_1b⟩ := gR_x13 hv hx.1
  refine g_getR (ci := 6) (k := 13) F hH rfl (by decide) iX6 hx.1 (by decide) rfl (b := gh 36 0) r_1a k74 dX6_remember_1 ?_
  refine lv_aload_n F.1 F.2.1 dX6_remember_4 rfl (lv_at hl 0 rfl) ?_
  refine g_getI (ci := 6) (k := 14) F hH rfl (by decide) iX6 hx.1 (by decide) rfl k160 dX6_remember_5 ?_
  have b_2 := gI_x hv hx.1
  have hx8 : 0 ≤ ((I x 14).toInt) ∧ ((I x 14).toInt) < ((8 : Nat) : Int) ∧ ((I x 14).toInt) ≤ 2147483647 := ⟨by omega, by omega, by omega⟩
  obtain ⟨y_3, y_3a, y_3b, y_3c, y_3d, y_3e⟩ := r_1b.2 (((I x 14).toInt)).toNat (by omega)
  refine g_aldR F hH r_1b.1 hx8.1 hx8.2.1 hx8.2.2 (b := y_3) y_3a dX6_remember_8 ?_
  have rh : rob AR (gh 36 0) (I x 14).toInt.toNat = y_3 := rob_e y_3a
  refine lv_aload_n F.1 F.2.1 dX6_remember_9 rfl (lv_at hl 1 rfl) ?_
  obtain ⟨b_4a, b_4b, b_4c, b_4d, b_4e, b_4f, b_4g, b_4h⟩ := gI_rows hv y_3b
  obtain ⟨b_5a, b_5b, b_5c, b_5d, b_5e, b_5f, b_5g, b_5h⟩ := gI_rows hv hch
  refine g_callv (g_runV (As := [.ref ch]) (rest := []) (ci := 4) F hl.1 hH hS hz (c_X4_copyFromf l g gh I R J AI AJ AR y_3 ch hv y_3b hch (by omega) (by first | exact hfz | omega)) (cwV 1 F.2.2.2.2.1 gX6_remember_X4_copyFrom rfl rfl rfl hdX4_copyFrom ⟨Nat.le_of_ble_eq_true rfl, Nat.le_of_ble_eq_true rfl⟩) y_3b (by decide) rfl rfl rfl (Nat.le_of_ble_eq_true rfl) dX6_remember_10 ⟨Nat.zero_le _, Nat.zero_le _⟩) hS (fun I_6 R_7 J_8 AI_9 AJ_10 AR_11 H locs hp_12 hH hS => ?_)
  dsimp only at hp_12
  obtain ⟨rfl, rfl, rfl, rfl, hv, q_13, q_14, qcp⟩ := hp_12
  have xf := xF_t xf (xF_rF hx.1 (rF_o y_3b q_13))
  have u_15 : (I_6 x 1).toInt = (I x 1).toInt := by rw [xf.2]
  have u_15p : I_6 pA = I pA := xf.1 pA 2 hx.2.2.1 (by decide) (by decide)
  have u_15p1 : (I_6 pA 1).toInt = (I pA 1).toInt := by rw [u_15p]
  have u_15p2 : (I_6 pA 2).toInt = (I pA 2).toInt := by rw [u_15p]
  have rI1 : ∀ b, b ≠ y_3 → I_6 b = I b := q_13
  have rA1 : ∀ b, b ≠ gh 0 y_3 → AI_9 b = AI b := q_14
  have hcp := qcp (by rw [y_3c, hnb]; omega)
  refine lv_aload_n F.1 F.2.1 dX6_remember_13 rfl (lv_at hl 0 rfl) ?_
  refine lv_aload_n F.1 F.2.1 dX6_remember_14 rfl (lv_at hl 0 rfl) ?_
  refine g_getI (ci := 6) (k := 14) F hH rfl (by decide) iX6 hx.1 (by decide) rfl k160 dX6_remember_15 ?_
  have b_16 := gI_x hv hx.1
  refine z_iconst F dX6_remember_18 ?_
  refine z_iadd F dX6_remember_19 ?_
  refine z_bipush F dX6_remember_20 (by decide) ?_
  refine z_irem F (by omega) (by omega) (by omega) (by omega) dX6_remember_22 ?_
  refine g_putI (ci := 6) (k := 14) F hH hS rfl (by decide) iX6 hx.1 (by decide) tyX6 tyX6_ok nmX6 rfl rfl rfl k160 dX6_remember_23 (fun H locs hH hS => ?_)
  obtain ⟨I_17, eI_17⟩ : ∃ qQ, qQ = gup2 I_6 x 14 (iI ((((I_6 x 14).toInt) + 1) % 8)) := ⟨_, rfl⟩
  rw [← eI_17] at hH
  have kI_17 : ∀ b, b ≠ x → I_17 b = I_6 b := fun b hb => by rw [eI_17]; exact funext fun j => gup2_a _ _ hb
  have w_18 : (I_17 x 14).toInt = (((I_6 x 14).toInt) + 1) % 8 := by rw [eI_17, gup2_s]; exact iI_val ⟨by omega, by omega⟩
  have hv : gInv g gh R AR I_17 AI_9 := by rw [eI_17]; exact gInv_x14 hv hx.1 (by omega) (by omega)
  have xf : xF g x I I_17 := xF_t xf (by rw [eI_17]; exact xF_k hx.1 (by decide))
  have w_18t : (I_17 x 1).toInt = (I x 1).toInt := by rw [xf.2]
  have w_18_15 : (I_17 x 15).toInt = (I_6 x 15).toInt := by rw [eI_17, gup2_k _ _ (by decide)]
  have rx14 : ∀ b j, b ≠ x ∨ (j ≠ 14 ∧ j ≠ 15) → I_17 b j = I_6 b j := fun b j h => by rw [eI_17]; rcases h with h | h; (· rw [gup2_a _ _ h]); (· rw [gup2_k _ _ (by omega)])
  have rv14 : (I_17 x 14).toInt = (((I_6 x 14).toInt) + 1) % 8 := by rw [eI_17, gup2_s]; exact iI_val ⟨by omega, by omega⟩
  refine lv_aload_n F.1 F.2.1 dX6_remember_26 rfl (lv_at hl 0 rfl) ?_
  refine lv_aload_n F.1 F.2.1 dX6_remember_27 rfl (lv_at hl 0 rfl) ?_
  refine g_getI (ci := 6) (k := 15) F hH rfl (by decide) iX6 hx.1 (by decide) rfl k100 dX6_remember_28 ?_
  have b_19 := gI_x hv hx.1
  refine z_iconst F dX6_remember_31 ?_
  refine z_iadd F dX6_remember_32 ?_
  refine z_bipush F dX6_remember_33 (by decide) ?_
  refine z_mmin (rest := [.ref x]) F hl.1 (List.mem_of_getElem? (i := 4) rfl) (List.mem_of_getElem? (i := 5) rfl) (List.mem_of_getElem? (i := 6) rfl) (List.mem_of_getElem? (i := 7) rfl) (Nat.le_of_ble_eq_true rfl) (Nat.le_of_ble_eq_true rfl) (Nat.zero_le _) (Nat.zero_le _) ⟨by omega, by omega⟩ ⟨by decide, by decide⟩ dX6_remember_35 (fun v_20 zv_20 qv_20 => ?_)
  refine g_putI (ci := 6) (k := 15) F hH hS rfl (by decide) iX6 hx.1 (by decide) tyX6 tyX6_ok nmX6 rfl rfl rfl k100 dX6_remember_38 (fun H locs hH hS => ?_)
  obtain ⟨I_21, eI_21⟩ : ∃ qQ, qQ = gup2 I_17 x 15 (iI (v_20)) := ⟨_, rfl⟩
  rw [← eI_21] at hH
  have kI_21 : ∀ b, b ≠ x → I_21 b = I_17 b := fun b hb => by rw [eI_21]; exact funext fun j => gup2_a _ _ hb
  have w_22 : (I_21 x 15).toInt = v_20 := by rw [eI_21, gup2_s]; exact iI_val ⟨by omega, by omega⟩
  have hv : gInv g gh R AR I_21 AI_9 := by rw [eI_21]; exact gInv_x15 hv hx.1 (by omega) (by omega)
  have xf : xF g x I I_21 := xF_t xf (by rw [eI_21]; exact xF_k hx.1 (by decide))
  have w_22t : (I_21 x 1).toInt = (I x 1).toInt := by rw [xf.2]
  have w_22_14 : (I_21 x 14).toInt = (I_17 x 14).toInt := by rw [eI_21, gup2_k _ _ (by decide)]
  have rx15 : ∀ b j, b ≠ x ∨ (j ≠ 14 ∧ j ≠ 15) → I_21 b j = I_6 b j := fun b j h => by rw [eI_21]; rcases h with h | h; (· rw [gup2_a _ _ h]; exact rx14 b j (Or.inl h)); (· rw [gup2_k _ _ (by omega)]; exact rx14 b j (Or.inr h))
  have rv15 : (I_21 x 15).toInt = v_20 := by rw [eI_21, gup2_s]; exact iI_val zv_20
  have rv14 : (I_21 x 14).toInt = (((I_6 x 14).toInt) + 1) % 8 := by rw [eI_21, gup2_k _ _ (by decide)]; exact rv14
  exact g_vret F hr hlk hH hS hz ⟨rfl, rfl, rfl, rfl, hv, xf, fun b j h h2 => (rx15 b j h).trans (congrFun (rI1 b (by rw [← rh]; exact h2)) j), by (try dsimp only); rw [rh]; exact rA1, by
      (try dsimp only)
      rw [rv14, rv15]
      have e14 : (I_6 x 14).toInt = (I x 14).toInt := by rw [rI1 x (gO_ne hx.1 y_3b (by decide))]
      have e15 : (I_6 x 15).toInt = (I x 15).toInt := by rw [rI1 x (gO_ne hx.1 y_3b (by decide))]
      exact ⟨by omega, fun h => by omega, fun h => by omega⟩, by
      (try dsimp only)
      rw [rh, rx15 _ 3 (Or.inr (by decide)), ← hnb]
      rw [show (I ch 3).toInt.toNat = nb by omega] at hcp
      exact ⟨hcp.1, hcp.2⟩⟩ dX6_remember_41
