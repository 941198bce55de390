def rmX0_addTestg : Room := { frames := 0, cells := 0, slots := 0, locals := 0 }
set_option maxHeartbeats 4000000 in
set_option maxRecDepth 100000 in
/-- one test more -/
theorem c_X0_addTestg (l : Launch) (g : gG) (gh : gGh) (I : gI) (R : gR) (J : gJ) (AI : gI) (AJ : gJ) (AR : gR) (a : Nat) (col : Int) (sign : Int) (oc : Int) (num : Int) (zcol : zr col) (zsign : zr sign) (zoc : zr oc) (znum : zr num) (hv : gInv g gh R AR I AI) (ha : gO g a 0) (hkd : (I a 0).toInt = 1) (hpc : (I a 8).toInt ≤ 7) (hc : 0 ≤ col ∧ col ≤ 3) (hc2 : -1 ≤ oc ∧ oc ≤ 3) : gMet l g yX0_addTest wsX0_addTest rmX0_addTestg [.ref a, .int (iI col), .int (iI sign), .int (iI oc), .int (iI num)] (I, R, J, AI, AJ, AR) (gQv g (fun w : gS => R = w.2.1 ∧ J = w.2.2.1 ∧ AJ = w.2.2.2.2.1 ∧ AR = w.2.2.2.2.2 ∧ (gInv g gh R AR (w.1) (w.2.2.2.1)) ∧ (∀ b, b ≠ a → (w.1) b = I b) ∧ (∀ b, b ≠ gh 3 a → (w.2.2.2.1) b = AI b) ∧ ((w.1) a 0 = I a 0) ∧ (((w.1) a 8).toInt = (I a 8).toInt + 1) ∧ (∀ j, j ≠ 8 → (w.1) a j = I a j) ∧ (∀ j : Nat, (j : Int) < 4 * (I a 8).toInt → (w.2.2.2.1) (gh 3 a) j = AI (gh 3 a) j) ∧ (((w.2.2.2.1) (gh 3 a) (4 * (I a 8).toInt + 0).toNat).toInt = col) ∧ (((w.2.2.2.1) (gh 3 a) (4 * (I a 8).toInt + 1).toNat).toInt = sign) ∧ (((w.2.2.2.1) (gh 3 a) (4 * (I a 8).toInt + 2).toNat).toInt = oc) ∧ (((w.2.2.2.1) (gh 3 a) (4 * (I a 8).toInt + 3).toNat).toInt = num))) := by
  refine gStart (cc := cX0_addTest) (maxL := 6) (ret := none) (by decide) rfl (Nat.le_of_ble_eq_true rfl) ?_
  intro p e s m below meth c ls F hr hlk hH hz hS hl
  have hl : lv_has ls 6 [(0, .ref a), (1, .int (iI col)), (2, .int (iI sign)), (3, .int (iI oc)), (4, .int (iI num))] := hl
  have hS : va_S (gA g) s.heap s.heap [] := hS
  obtain ⟨H, hHe⟩ : ∃ H : Heap, H = s.heap := ⟨_, rfl⟩
  obtain ⟨locs, hlo⟩ : ∃ k : List Loc, k = [] := ⟨_, rfl⟩
  have hH : gH g I R J AI AJ AR H := by rw [hHe]; exact hH
  have hS : va_S (gA g) s.heap H locs := by rw [hHe, hlo]; exact hS
  suffices hw : W p l e rmX0_addTestg s m ([.ref a, .int (iI col), .int (iI sign), .int (iI oc), .int (iI num)] : List Value).toArray below meth c H locs 0 0 (MQ below (gQv g (fun w : gS => R = w.2.1 ∧ J = w.2.2.1 ∧ AJ = w.2.2.2.2.1 ∧ AR = w.2.2.2.2.2 ∧ (gInv g gh R AR (w.1) (w.2.2.2.1)) ∧ (∀ b, b ≠ a → (w.1) b = I b) ∧ (∀ b, b ≠ gh 3 a → (w.2.2.2.1) b = AI b) ∧ ((w.1) a 0 = I a 0) ∧ (((w.1) a 8).toInt = (I a 8).toInt + 1) ∧ (∀ j, j ≠ 8 → (w.1) a j = I a j) ∧ (∀ j : Nat, (j : Int) < 4 * (I a 8).toInt → (w.2.2.2.1) (gh 3 a) j = AI (gh 3 a) j) ∧ (((w.2.2.2.1) (gh 3 a) (4 * (I a 8).toInt + 0).toNat).toInt = col) ∧ (((w.2.2.2.1) (gh 3 a) (4 * (I a 8).toInt + 1).toNat).toInt = sign) ∧ (((w.2.2.2.1) (gh 3 a) (4 * (I a 8).toInt + 2).toNat).toInt = oc) ∧ (((w.2.2.2.1) (gh 3 a) (4 * (I a 8).toInt + 3).toNat).toInt = num))) ([.ref a, .int (iI col), .int (iI sign), .int (iI oc), .int (iI num)] : List Value).toArray s 0 0 (gA g)) (F0 m 0 ls []) by
    rw [hHe, hlo] at hw; exact hw
  clear hHe hlo
  have iX0 : ∀ w ∈ u_ws RX0 TX0 15, w ∈ wsX0_addTest := (by decide +kernel)
  have k34 : Cond.fieldLink RX0 34 (TX0 8).1 (TX0 8).2.1 (TX0 8).2.2.1 ∈ wsX0_addTest := List.mem_of_getElem? (i := 1) rfl
  have k11 : Cond.fieldLink RX0 11 (TX0 7).1 (TX0 7).2.1 (TX0 7).2.2.1 ∈ wsX0_addTest := List.mem_of_getElem? (i := 2) rfl
  refine lv_aload_n F.1 F.2.1 dX0_addTest_0 rfl (lv_at hl 0 rfl) ?_
  refine g_getI (ci := 0) (k := 8) F hH rfl (by decide) iX0 ha (by decide) rfl k34 dX0_addTest_1 ?_
  have b_1 := gI_line hv ha
  unfold vLineI at b_1
  refine z_iconst F dX0_addTest_4 ?_
  refine z_imul F dX0_addTest_5 ?_
  refine lv_istore (lv' := [(5, .int (iI (((I a 8).toInt) * 4))), (0, .ref a), (1, .int (iI col)), (2, .int (iI sign)), (3, .int (iI oc)), (4, .int (iI num))]) F.1 F.2.1 dX0_addTest_6 hl (by decide) rfl (fun ls hl => ?_)
  refine lv_aload_n F.1 F.2.1 dX0_addTest_8 rfl (lv_at hl 1 rfl) ?_
  obtain ⟨r_2a, r_2b⟩ := gR_parts hv ha
  refine g_getR (ci := 0) (k := 7) F hH rfl (by decide) iX0 ha (by decide) rfl (b := gh 3 a) r_2a k11 dX0_addTest_9 ?_
  refine lv_iload F.1 F.2.1 dX0_addTest_12 (lv_at hl 0 rfl) ?_
  refine lv_iload_n F.1 F.2.1 dX0_addTest_14 rfl (lv_at hl 2 rfl) ?_
  have hx15 : 0 ≤ (((I a 8).toInt) * 4) ∧ (((I a 8).toInt) * 4) < ((32 : Nat) : Int) ∧ (((I a 8).toInt) * 4) ≤ 2147483647 := ⟨by omega, by omega, by omega⟩
  refine g_iast F hH hS r_2b hx15.1 hx15.2.1 hx15.2.2 dX0_addTest_15 (fun H locs hH hS => ?_)
  obtain ⟨AI_3, eAI_3⟩ : ∃ qQ, qQ = gup2 AI (gh 3 a) ((((I a 8).toInt) * 4)).toNat (iI (col)) := ⟨_, rfl⟩
  rw [← eAI_3] at hH
  have kAI_3 : ∀ b, b ≠ (gh 3 a) → AI_3 b = AI b := fun b hb => by rw [eAI_3]; exact funext fun j => gup2_a _ _ hb
  refine lv_aload_n F.1 F.2.1 dX0_addTest_16 rfl (lv_at hl 1 rfl) ?_
  refine g_getR (ci := 0) (k := 7) F hH rfl (by decide) iX0 ha (by decide) rfl (b := gh 3 a) r_2a k11 dX0_addTest_17 ?_
  refine lv_iload F.1 F.2.1 dX0_addTest_20 (lv_at hl 0 rfl) ?_
  refine z_iconst F dX0_addTest_22 ?_
  refine z_iadd F dX0_addTest_23 ?_
  refine lv_iload_n F.1 F.2.1 dX0_addTest_24 rfl (lv_at hl 3 rfl) ?_
  have hx25 : 0 ≤ ((((I a 8).toInt) * 4) + 1) ∧ ((((I a 8).toInt) * 4) + 1) < ((32 : Nat) : Int) ∧ ((((I a 8).toInt) * 4) + 1) ≤ 2147483647 := ⟨by omega, by omega, by omega⟩
  refine g_iast F hH hS r_2b hx25.1 hx25.2.1 hx25.2.2 dX0_addTest_25 (fun H locs hH hS => ?_)
  obtain ⟨AI_4, eAI_4⟩ : ∃ qQ, qQ = gup2 AI_3 (gh 3 a) (((((I a 8).toInt) * 4) + 1)).toNat (iI (sign)) := ⟨_, rfl⟩
  rw [← eAI_4] at hH
  have kAI_4 : ∀ b, b ≠ (gh 3 a) → AI_4 b = AI_3 b := fun b hb => by rw [eAI_4]; exact funext fun j => gup2_a _ _ hb
  refine lv_aload_n F.1 F.2.1 dX0_addTest_26 rfl (lv_at hl 1 rfl) ?_
  refine g_getR (ci := 0) (k := 7) F hH rfl (by decide) iX0 ha (by decide) rfl (b := gh 3 a) r_2a k11 dX0_addTest_27 ?_
  refine lv_iload F.1 F.2.1 dX0_addTest_30 (lv_at hl 0 rfl) ?_
  refine z_iconst F dX0_addTest_32 ?_
  refine z_iadd F dX0_addTest_33 ?_
  refine lv_iload_n F.1 F.2.1 dX0_addTest_34 rfl (lv_at hl 4 rfl) ?_
  have hx35 : 0 ≤ ((((I a 8).toInt) * 4) + 2) ∧ ((((I a 8).toInt) * 4) + 2) < ((32 : Nat) : Int) ∧ ((((I a 8).toInt) * 4) + 2) ≤ 2147483647 := ⟨by omega, by omega, by omega⟩
  refine g_iast F hH hS r_2b hx35.1 hx35.2.1 hx35.2.2 dX0_addTest_35 (fun H locs hH hS => ?_)
  obtain ⟨AI_5, eAI_5⟩ : ∃ qQ, qQ = gup2 AI_4 (gh 3 a) (((((I a 8).toInt) * 4) + 2)).toNat (iI (oc)) := ⟨_, rfl⟩
  rw [← eAI_5] at hH
  have kAI_5 : ∀ b, b ≠ (gh 3 a) → AI_5 b = AI_4 b := fun b hb => by rw [eAI_5]; exact funext fun j => gup2_a _ _ hb
  refine lv_aload_n F.1 F.2.1 dX0_addTest_36 rfl (lv_at hl 1 rfl) ?_
  refine g_getR (ci := 0) (k := 7) F hH rfl (by decide) iX0 ha (by decide) rfl (b := gh 3 a) r_2a k11 dX0_addTest_37 ?_
  refine lv_iload F.1 F.2.1 dX0_addTest_40 (lv_at hl 0 rfl) ?_
  refine z_iconst F dX0_addTest_42 ?_
  refine z_iadd F dX0_addTest_43 ?_
  refine lv_iload F.1 F.2.1 dX0_addTest_44 (lv_at hl 5 rfl) ?_
  have hx46 : 0 ≤ ((((I a 8).toInt) * 4) + 3) ∧ ((((I a 8).toInt) * 4) + 3) < ((32 : Nat) : Int) ∧ ((((I a 8).toInt) * 4) + 3) ≤ 2147483647 := ⟨by omega, by omega, by omega⟩
  refine g_iast F hH hS r_2b hx46.1 hx46.2.1 hx46.2.2 dX0_addTest_46 (fun H locs hH hS => ?_)
  obtain ⟨AI_6, eAI_6⟩ : ∃ qQ, qQ = gup2 AI_5 (gh 3 a) (((((I a 8).toInt) * 4) + 3)).toNat (iI (num)) := ⟨_, rfl⟩
  rw [← eAI_6] at hH
  have kAI_6 : ∀ b, b ≠ (gh 3 a) → AI_6 b = AI_5 b := fun b hb => by rw [eAI_6]; exact funext fun j => gup2_a _ _ hb
  refine lv_aload_n F.1 F.2.1 dX0_addTest_47 rfl (lv_at hl 1 rfl) ?_
  refine lv_dup F.1 F.2.1 dX0_addTest_48 rfl ?_
  refine g_getI (ci := 0) (k := 8) F hH rfl (by decide) iX0 ha (by decide) rfl k34 dX0_addTest_49 ?_
  refine z_iconst F dX0_addTest_52 ?_
  refine z_iadd F dX0_addTest_53 ?_
  refine g_putI (ci := 0) (k := 8) F hH hS rfl (by decide) iX0 ha (by decide) tyX0 tyX0_ok nmX0 rfl rfl rfl k34 dX0_addTest_54 (fun H locs hH hS => ?_)
  obtain ⟨I_7, eI_7⟩ : ∃ qQ, qQ = gup2 I a 8 (iI (((I a 8).toInt) + 1)) := ⟨_, rfl⟩
  rw [← eI_7] at hH
  have kI_7 : ∀ b, b ≠ a → I_7 b = I b := fun b hb => by rw [eI_7]; exact funext fun j => gup2_a _ _ hb
  have hold := gI_line hv ha
  unfold vLineI at hold
  have e8 : (I_7 a 8).toInt = (I a 8).toInt + 1 := by rw [eI_7, gup2_s]; exact iI_val ⟨by omega, by omega⟩
  have e0 : I_7 a 0 = I a 0 := by rw [eI_7]; exact gup2_k _ _ (by decide)
  have hv : gInv g gh R AR I_7 AI_6 := by
    refine gInv_line hv ha kI_7 (fun b hb => (((kAI_6 b hb).trans (kAI_5 b hb)).trans (kAI_4 b hb)).trans (kAI_3 b hb)) ?_ ?_ (by rw [eI_7, gup2_k _ _ (by decide)]; exact (hv.2.2.1 a ha).2.2.2)
    · unfold vLineI
      rw [eI_7, gup2_k (j := 0) (k := 8) _ _ (by decide), gup2_k (j := 2) (k := 8) _ _ (by decide), gup2_k (j := 3) (k := 8) _ _ (by decide), gup2_k (j := 4) (k := 8) _ _ (by decide), gup2_k (j := 5) (k := 8) _ _ (by decide), gup2_k (j := 6) (k := 8) _ _ (by decide), gup2_k (j := 9) (k := 8) _ _ (by decide), gup2_k (j := 10) (k := 8) _ _ (by decide), gup2_k (j := 12) (k := 8) _ _ (by decide), gup2_s, iI_val ⟨by omega, by omega⟩]
      omega
    · rw [e0, e8]
      exact okPart_test hkd (gP_line hv ha) (by omega) hc hc2 (fun j hj => by rw [eAI_6, gup2_k _ _ (by omega), eAI_5, gup2_k _ _ (by omega), eAI_4, gup2_k _ _ (by omega), eAI_3, gup2_k _ _ (by omega)]) (by rw [eAI_6, gup2_k _ _ (by omega), eAI_5, gup2_k _ _ (by omega), eAI_4, gup2_k _ _ (by omega), eAI_3, gup2_e _ _ (by omega)]) (by rw [eAI_6, gup2_k _ _ (by omega), eAI_5, gup2_e _ _ (by omega)])
  exact g_vret F hr hlk hH hS hz ⟨rfl, rfl, rfl, rfl, hv, fun b hb => kI_7 b hb, fun b hb => (((kAI_6 b hb).trans (kAI_5 b hb)).trans (kAI_4 b hb)).trans (kAI_3 b hb), e0, e8, fun j hj => by (try dsimp only); rw [eI_7]; exact gup2_k _ _ hj, fun j hj => by (try dsimp only); rw [eAI_6, gup2_k _ _ (by omega), eAI_5, gup2_k _ _ (by omega), eAI_4, gup2_k _ _ (by omega), eAI_3, gup2_k _ _ (by omega)], by (try dsimp only); rw [eAI_6, gup2_k _ _ (by omega), eAI_5, gup2_k _ _ (by omega), eAI_4, gup2_k _ _ (by omega), eAI_3, gup2_e _ _ (by omega)]; exact iI_val zcol, by (try dsimp only); rw [eAI_6, gup2_k _ _ (by omega), eAI_5, gup2_k _ _ (by omega), eAI_4, gup2_e _ _ (by omega)]; exact iI_val zsign, by (try dsimp only); rw [eAI_6, gup2_k _ _ (by omega), eAI_5, gup2_e _ _ (by omega)]; exact iI_val zoc, by (try dsimp only); rw [eAI_6, gup2_e _ _ (by omega)]; exact iI_val znum⟩ dX0_addTest_57

def rmX0_addTwog : Room := { frames := 0, cells := 0, slots := 0, locals := 0 }
set_option maxHeartbeats 4000000 in
set_option maxRecDepth 100000 in
/-- one term or pair more -/
theorem c_X0_addTwog (l : Launch) (g : gG) (gh : gGh) (I : gI) (R : gR) (J : gJ) (AI : gI) (AJ : gJ) (AR : gR) (a : Nat) (one : Int) (two : Int) (zone : zr one) (ztwo : zr two) (hv : gInv g gh R AR I AI) (ha : gO g a 0) (hkd : (I a 0).toInt = 2 ∨ (I a 0).toInt = 8 ∨ (I a 0).toInt = 3) (hpc : (I a 8).toInt ≤ 3) (hc : -1 ≤ one ∧ one ≤ 3) (hc2 : (I a 0).toInt = 3 → 0 ≤ one ∧ 0 ≤ two ∧ two ≤ 3) : gMet l g yX0_addTwo wsX0_addTwo rmX0_addTwog [.ref a, .int (iI one), .int (iI two)] (I, R, J, AI, AJ, AR) (gQv g (fun w : gS => R = w.2.1 ∧ J = w.2.2.1 ∧ AJ = w.2.2.2.2.1 ∧ AR = w.2.2.2.2.2 ∧ (gInv g gh R AR (w.1) (w.2.2.2.1)) ∧ (∀ b, b ≠ a → (w.1) b = I b) ∧ (∀ b, b ≠ gh 3 a → (w.2.2.2.1) b = AI b) ∧ ((w.1) a 0 = I a 0) ∧ (((w.1) a 8).toInt = (I a 8).toInt + 1) ∧ (∀ j, j ≠ 8 → (w.1) a j = I a j) ∧ (∀ j : Nat, (j : Int) < 2 * (I a 8).toInt → (w.2.2.2.1) (gh 3 a) j = AI (gh 3 a) j) ∧ (((w.2.2.2.1) (gh 3 a) (2 * (I a 8).toInt + 1).toNat).toInt = two) ∧ (((w.2.2.2.1) (gh 3 a) (2 * (I a 8).toInt).toNat).toInt = one))) := by
  refine gStart (cc := cX0_addTwo) (maxL := 3) (ret := none) (by decide) rfl (Nat.le_of_ble_eq_true rfl) ?_
  intro p e s m below meth c ls F hr hlk hH hz hS hl
  have hl : lv_has ls 3 [(0, .ref a), (1, .int (iI one)), (2, .int (iI two))] := hl
  have hS : va_S (gA g) s.heap s.heap [] := hS
  obtain ⟨H, hHe⟩ : ∃ H : Heap, H = s.heap := ⟨_, rfl⟩
  obtain ⟨locs, hlo⟩ : ∃ k : List Loc, k = [] := ⟨_, rfl⟩
  have hH : gH g I R J AI AJ AR H := by rw [hHe]; exact hH
  have hS : va_S (gA g) s.heap H locs := by rw [hHe, hlo]; exact hS
  suffices hw : W p l e rmX0_addTwog s m ([.ref a, .int (iI one), .int (iI two)] : List Value).toArray below meth c H locs 0 0 (MQ below (gQv g (fun w : gS => R = w.2.1 ∧ J = w.2.2.1 ∧ AJ = w.2.2.2.2.1 ∧ AR = w.2.2.2.2.2 ∧ (gInv g gh R AR (w.1) (w.2.2.2.1)) ∧ (∀ b, b ≠ a → (w.1) b = I b) ∧ (∀ b, b ≠ gh 3 a → (w.2.2.2.1) b = AI b) ∧ ((w.1) a 0 = I a 0) ∧ (((w.1) a 8).toInt = (I a 8).toInt + 1) ∧ (∀ j, j ≠ 8 → (w.1) a j = I a j) ∧ (∀ j : Nat, (j : Int) < 2 * (I a 8).toInt → (w.2.2.2.1) (gh 3 a) j = AI (gh 3 a) j) ∧ (((w.2.2.2.1) (gh 3 a) (2 * (I a 8).toInt + 1).toNat).toInt = two) ∧ (((w.2.2.2.1) (gh 3 a) (2 * (I a 8).toInt).toNat).toInt = one))) ([.ref a, .int (iI one), .int (iI two)] : List Value).toArray s 0 0 (gA g)) (F0 m 0 ls []) by
    rw [hHe, hlo] at hw; exact hw
  clear hHe hlo
  have iX0 : ∀ w ∈ u_ws RX0 TX0 15, w ∈ wsX0_addTwo := (by decide +kernel)
  have k11 : Cond.fieldLink RX0 11 (TX0 7).1 (TX0 7).2.1 (TX0 7).2.2.1 ∈ wsX0_addTwo := List.mem_of_getElem? (i := 1) rfl
  have k34 : Cond.fieldLink RX0 34 (TX0 8).1 (TX0 8).2.1 (TX0 8).2.2.1 ∈ wsX0_addTwo := List.mem_of_getElem? (i := 2) rfl
  refine lv_aload_n F.1 F.2.1 dX0_addTwo_0 rfl (lv_at hl 0 rfl) ?_
  obtain ⟨r_1a, r_1b⟩ := gR_parts hv ha
  refine g_getR (ci := 0) (k := 7) F hH rfl (by decide) iX0 ha (by decide) rfl (b := gh 3 a) r_1a k11 dX0_addTwo_1 ?_
  refine z_iconst F dX0_addTwo_4 ?_
  refine lv_aload_n F.1 F.2.1 dX0_addTwo_5 rfl (lv_at hl 0 rfl) ?_
  refine g_getI (ci := 0) (k := 8) F hH rfl (by decide) iX0 ha (by decide) rfl k34 dX0_addTwo_6 ?_
  have b_2 := gI_line hv ha
  unfold vLineI at b_2
  refine z_imul F dX0_addTwo_9 ?_
  refine lv_iload_n F.1 F.2.1 dX0_addTwo_10 rfl (lv_at hl 1 rfl) ?_
  have hx11 : 0 ≤ (2 * ((I a 8).toInt)) ∧ (2 * ((I a 8).toInt)) < ((32 : Nat) : Int) ∧ (2 * ((I a 8).toInt)) ≤ 2147483647 := ⟨by omega, by omega, by omega⟩
  refine g_iast F hH hS r_1b hx11.1 hx11.2.1 hx11.2.2 dX0_addTwo_11 (fun H locs hH hS => ?_)
  obtain ⟨AI_3, eAI_3⟩ : ∃ qQ, qQ = gup2 AI (gh 3 a) ((2 * ((I a 8).toInt))).toNat (iI (one)) := ⟨_, rfl⟩
  rw [← eAI_3] at hH
  have kAI_3 : ∀ b, b ≠ (gh 3 a) → AI_3 b = AI b := fun b hb => by rw [eAI_3]; exact funext fun j => gup2_a _ _ hb
  refine lv_aload_n F.1 F.2.1 dX0_addTwo_12 rfl (lv_at hl 0 rfl) ?_
  refine g_getR (ci := 0) (k := 7) F hH rfl (by decide) iX0 ha (by decide) rfl (b := gh 3 a) r_1a k11 dX0_addTwo_13 ?_
  refine z_iconst F dX0_addTwo_16 ?_
  refine lv_aload_n F.1 F.2.1 dX0_addTwo_17 rfl (lv_at hl 0 rfl) ?_
  refine g_getI (ci := 0) (k := 8) F hH rfl (by decide) iX0 ha (by decide) rfl k34 dX0_addTwo_18 ?_
  refine z_imul F dX0_addTwo_21 ?_
  refine z_iconst F dX0_addTwo_22 ?_
  refine z_iadd F dX0_addTwo_23 ?_
  refine lv_iload_n F.1 F.2.1 dX0_addTwo_24 rfl (lv_at hl 2 rfl) ?_
  have hx25 : 0 ≤ ((2 * ((I a 8).toInt)) + 1) ∧ ((2 * ((I a 8).toInt)) + 1) < ((32 : Nat) : Int) ∧ ((2 * ((I a 8).toInt)) + 1) ≤ 2147483647 := ⟨by omega, by omega, by omega⟩
  refine g_iast F hH hS r_1b hx25.1 hx25.2.1 hx25.2.2 dX0_addTwo_25 (fun H locs hH hS => ?_)
  obtain ⟨AI_4, eAI_4⟩ : ∃ qQ, qQ = gup2 AI_3 (gh 3 a) (((2 * ((I a 8).toInt)) + 1)).toNat (iI (two)) := ⟨_, rfl⟩
  rw [← eAI_4] at hH
  have kAI_4 : ∀ b, b ≠ (gh 3 a) → AI_4 b = AI_3 b := fun b hb => by rw [eAI_4]; exact funext fun j => gup2_a _ _ hb
  refine lv_aload_n F.1 F.2.1 dX0_addTwo_26 rfl (lv_at hl 0 rfl) ?_
  refine lv_dup F.1 F.2.1 dX0_addTwo_27 rfl ?_
  refine g_getI (ci := 0) (k := 8) F hH rfl (by decide) iX0 ha (by decide) rfl k34 dX0_addTwo_28 ?_
  refine z_iconst F dX0_addTwo_31 ?_
  refine z_iadd F dX0_addTwo_32 ?_
  refine g_putI (ci := 0) (k := 8) F hH hS rfl (by decide) iX0 ha (by decide) tyX0 tyX0_ok nmX0 rfl rfl rfl k34 dX0_addTwo_33 (fun H locs hH hS => ?_)
  obtain ⟨I_5, eI_5⟩ : ∃ qQ, qQ = gup2 I a 8 (iI (((I a 8).toInt) + 1)) := ⟨_, rfl⟩
  rw [← eI_5] at hH
  have kI_5 : ∀ b, b ≠ a → I_5 b = I b := fun b hb => by rw [eI_5]; exact funext fun j => gup2_a _ _ hb
  have hold := gI_line hv ha
  unfold vLineI at hold
  have e8 : (I_5 a 8).toInt = (I a 8).toInt + 1 := by rw [eI_5, gup2_s]; exact iI_val ⟨by omega, by omega⟩
  have e0 : I_5 a 0 = I a 0 := by rw [eI_5]; exact gup2_k _ _ (by decide)
  have hv : gInv g gh R AR I_5 AI_4 := by
    refine gInv_line hv ha kI_5 (fun b hb => (kAI_4 b hb).trans (kAI_3 b hb)) ?_ ?_ (by rw [eI_5, gup2_k _ _ (by decide)]; exact (hv.2.2.1 a ha).2.2.2)
    · unfold vLineI
      rw [eI_5, gup2_k (j := 0) (k := 8) _ _ (by decide), gup2_k (j := 2) (k := 8) _ _ (by decide), gup2_k (j := 3) (k := 8) _ _ (by decide), gup2_k (j := 4) (k := 8) _ _ (by decide), gup2_k (j := 5) (k := 8) _ _ (by decide), gup2_k (j := 6) (k := 8) _ _ (by decide), gup2_k (j := 9) (k := 8) _ _ (by decide), gup2_k (j := 10) (k := 8) _ _ (by decide), gup2_k (j := 12) (k := 8) _ _ (by decide), gup2_s, iI_val ⟨by omega, by omega⟩]
      omega
    · rw [e0, e8]
      exact okPart_two hkd (gP_line hv ha) (by omega) (by omega) hc hc2 (by omega) (fun j hj => by rw [eAI_4, gup2_k _ _ (by omega), eAI_3, gup2_k _ _ (by omega)]) (by rw [eAI_4, gup2_k _ _ (by omega), eAI_3, gup2_e _ _ (by omega)]) (by rw [eAI_4, gup2_e _ _ (by omega)])
  exact g_vret F hr hlk hH hS hz ⟨rfl, rfl, rfl, rfl, hv, fun b hb => kI_5 b hb, fun b hb => (kAI_4 b hb).trans (kAI_3 b hb), e0, e8, fun j hj => by (try dsimp only); rw [eI_5]; exact gup2_k _ _ hj, fun j hj => by (try dsimp only); rw [eAI_4, gup2_k _ _ (by omega), eAI_3, gup2_k _ _ (by omega)], by (try dsimp only); rw [eAI_4, gup2_e _ _ (by omega)]; exact iI_val ztwo, by (try dsimp only); rw [eAI_4, gup2_k _ _ (by omega), eAI_3, gup2_e _ _ (by omega)]; exact iI_val zone⟩ dX0_addTwo_36

def rmX0_addColumng : Room := { frames := 0, cells := 0, slots := 0, locals := 0 }
set_option maxHeartbeats 4000000 in
set_option maxRecDepth 100000 in
/-- one column more -/
theorem c_X0_addColumng (l : Launch) (g : gG) (gh : gGh) (I : gI) (R : gR) (J : gJ) (AI : gI) (AJ : gJ) (AR : gR) (a : Nat) (col : Int) (zcol : zr col) (hv : gInv g gh R AR I AI) (ha : gO g a 0) (hkd : (I a 0).toInt = 7) (hpc : (I a 8).toInt ≤ 2) (hc : 0 ≤ col ∧ col ≤ 3) : gMet l g yX0_addColumn wsX0_addColumn rmX0_addColumng [.ref a, .int (iI col)] (I, R, J, AI, AJ, AR) (gQv g (fun w : gS => R = w.2.1 ∧ J = w.2.2.1 ∧ AJ = w.2.2.2.2.1 ∧ AR = w.2.2.2.2.2 ∧ (gInv g gh R AR (w.1) (w.2.2.2.1)) ∧ (∀ b, b ≠ a → (w.1) b = I b) ∧ (∀ b, b ≠ gh 3 a → (w.2.2.2.1) b = AI b) ∧ ((w.1) a 0 = I a 0) ∧ (((w.1) a 8).toInt = (I a 8).toInt + 1) ∧ (∀ j, j ≠ 8 → (w.1) a j = I a j) ∧ (∀ j : Nat, (j : Int) < (I a 8).toInt → (w.2.2.2.1) (gh 3 a) j = AI (gh 3 a) j) ∧ (((w.2.2.2.1) (gh 3 a) (I a 8).toInt.toNat).toInt = col))) := by
  refine gStart (cc := cX0_addColumn) (maxL := 2) (ret := none) (by decide) rfl (Nat.le_of_ble_eq_true rfl) ?_
  intro p e s m below meth c ls F hr hlk hH hz hS hl
  have hl : lv_has ls 2 [(0, .ref a), (1, .int (iI col))] := hl
  have hS : va_S (gA g) s.heap s.heap [] := hS
  obtain ⟨H, hHe⟩ : ∃ H : Heap, H = s.heap := ⟨_, rfl⟩
  obtain ⟨locs, hlo⟩ : ∃ k : List Loc, k = [] := ⟨_, rfl⟩
  have hH : gH g I R J AI AJ AR H := by rw [hHe]; exact hH
  have hS : va_S (gA g) s.heap H locs := by rw [hHe, hlo]; exact hS
  suffices hw : W p l e rmX0_addColumng s m ([.ref a, .int (iI col)] : List Value).toArray below meth c H locs 0 0 (MQ below (gQv g (fun w : gS => R = w.2.1 ∧ J = w.2.2.1 ∧ AJ = w.2.2.2.2.1 ∧ AR = w.2.2.2.2.2 ∧ (gInv g gh R AR (w.1) (w.2.2.2.1)) ∧ (∀ b, b ≠ a → (w.1) b = I b) ∧ (∀ b, b ≠ gh 3 a → (w.2.2.2.1) b = AI b) ∧ ((w.1) a 0 = I a 0) ∧ (((w.1) a 8).toInt = (I a 8).toInt + 1) ∧ (∀ j, j ≠ 8 → (w.1) a j = I a j) ∧ (∀ j : Nat, (j : Int) < (I a 8).toInt → (w.2.2.2.1) (gh 3 a) j = AI (gh 3 a) j) ∧ (((w.2.2.2.1) (gh 3 a) (I a 8).toInt.toNat).toInt = col))) ([.ref a, .int (iI col)] : List Value).toArray s 0 0 (gA g)) (F0 m 0 ls []) by
    rw [hHe, hlo] at hw; exact hw
  clear hHe hlo
  have iX0 : ∀ w ∈ u_ws RX0 TX0 15, w ∈ wsX0_addColumn := (by decide +kernel)
  have k11 : Cond.fieldLink RX0 11 (TX0 7).1 (TX0 7).2.1 (TX0 7).2.2.1 ∈ wsX0_addColumn := List.mem_of_getElem? (i := 1) rfl
  have k34 : Cond.fieldLink RX0 34 (TX0 8).1 (TX0 8).2.1 (TX0 8).2.2.1 ∈ wsX0_addColumn := List.mem_of_getElem? (i := 2) rfl
  refine lv_aload_n F.1 F.2.1 dX0_addColumn_0 rfl (lv_at hl 0 rfl) ?_
  obtain ⟨r_1a, r_1b⟩ := gR_parts hv ha
  refine g_getR (ci := 0) (k := 7) F hH rfl (by decide) iX0 ha (by decide) rfl (b := gh 3 a) r_1a k11 dX0_addColumn_1 ?_
  refine lv_aload_n F.1 F.2.1 dX0_addColumn_4 rfl (lv_at hl 0 rfl) ?_
  refine g_getI (ci := 0) (k := 8) F hH rfl (by decide) iX0 ha (by decide) rfl k34 dX0_addColumn_5 ?_
  have b_2 := gI_line hv ha
  unfold vLineI at b_2
  refine lv_iload_n F.1 F.2.1 dX0_addColumn_8 rfl (lv_at hl 1 rfl) ?_
  have hx9 : 0 ≤ ((I a 8).toInt) ∧ ((I a 8).toInt) < ((32 : Nat) : Int) ∧ ((I a 8).toInt) ≤ 2147483647 := ⟨by omega, by omega, by omega⟩
  refine g_iast F hH hS r_1b hx9.1 hx9.2.1 hx9.2.2 dX0_addColumn_9 (fun H locs hH hS => ?_)
  obtain ⟨AI_3, eAI_3⟩ : ∃ qQ, qQ = gup2 AI (gh 3 a) (((I a 8).toInt)).toNat (iI (col)) := ⟨_, rfl⟩
  rw [← eAI_3] at hH
  have kAI_3 : ∀ b, b ≠ (gh 3 a) → AI_3 b = AI b := fun b hb => by rw [eAI_3]; exact funext fun j => gup2_a _ _ hb
  refine lv_aload_n F.1 F.2.1 dX0_addColumn_10 rfl (lv_at hl 0 rfl) ?_
  refine lv_dup F.1 F.2.1 dX0_addColumn_11 rfl ?_
  refine g_getI (ci := 0) (k := 8) F hH rfl (by decide) iX0 ha (by decide) rfl k34 dX0_addColumn_12 ?_
  refine z_iconst F dX0_addColumn_15 ?_
  refine z_iadd F dX0_addColumn_16 ?_
  refine g_putI (ci := 0) (k := 8) F hH hS rfl (by decide) iX0 ha (by decide) tyX0 tyX0_ok nmX0 rfl rfl rfl k34 dX0_addColumn_17 (fun H locs hH hS => ?_)
  obtain ⟨I_4, eI_4⟩ : ∃ qQ, qQ = gup2 I a 8 (iI (((I a 8).toInt) + 1)) := ⟨_, rfl⟩
  rw [← eI_4] at hH
  have kI_4 : ∀ b, b ≠ a → I_4 b = I b := fun b hb => by rw [eI_4]; exact funext fun j => gup2_a _ _ hb
  have hold := gI_line hv ha
  unfold vLineI at hold
  have e8 : (I_4 a 8).toInt = (I a 8).toInt + 1 := by rw [eI_4, gup2_s]; exact iI_val ⟨by omega, by omega⟩
  have e0 : I_4 a 0 = I a 0 := by rw [eI_4]; exact gup2_k _ _ (by decide)
  have hv : gInv g gh R AR I_4 AI_3 := by
    refine gInv_line hv ha kI_4 (fun b hb => kAI_3 b hb) ?_ ?_ (by rw [eI_4, gup2_k _ _ (by decide)]; exact (hv.2.2.1 a ha).2.2.2)
    · unfold vLineI
      rw [eI_4, gup2_k (j := 0) (k := 8) _ _ (by decide), gup2_k (j := 2) (k := 8) _ _ (by decide), gup2_k (j := 3) (k := 8) _ _ (by decide), gup2_k (j := 4) (k := 8) _ _ (by decide), gup2_k (j := 5) (k := 8) _ _ (by decide), gup2_k (j := 6) (k := 8) _ _ (by decide), gup2_k (j := 9) (k := 8) _ _ (by decide), gup2_k (j := 10) (k := 8) _ _ (by decide), gup2_k (j := 12) (k := 8) _ _ (by decide), gup2_s, iI_val ⟨by omega, by omega⟩]
      omega
    · rw [e0, e8]
      exact okPart_col hkd (gP_line hv ha) (by omega) (by omega) hc (fun j hj => by rw [eAI_3, gup2_k _ _ (by omega)]) (by rw [eAI_3, gup2_e _ _ (by omega)])
  exact g_vret F hr hlk hH hS hz ⟨rfl, rfl, rfl, rfl, hv, fun b hb => kI_4 b hb, fun b hb => kAI_3 b hb, e0, e8, fun j hj => by (try dsimp only); rw [eI_4]; exact gup2_k _ _ hj, fun j hj => by (try dsimp only); rw [eAI_3, gup2_k _ _ (by omega)], by (try dsimp only); rw [eAI_3, gup2_e _ _ (by omega)]; exact iI_val zcol⟩ dX0_addColumn_20

def rmX0_hasColumng : Room := { frames := 0, cells := 0, slots := 0, locals := 0 }
set_option maxHeartbeats 4000000 in
set_option maxRecDepth 100000 in
/-- whether a column is told -/
theorem c_X0_hasColumng (l : Launch) (g : gG) (gh : gGh) (I : gI) (R : gR) (J : gJ) (AI : gI) (AJ : gJ) (AR : gR) (a : Nat) (col : Int) (zcol : zr col) (hv : gInv g gh R AR I AI) (ha : gO g a 0) : gMet l g yX0_hasColumn wsX0_hasColumn rmX0_hasColumng [.ref a, .int (iI col)] (I, R, J, AI, AJ, AR) (gQi g (fun (z : Int) (w : gS) => I = w.1 ∧ R = w.2.1 ∧ J = w.2.2.1 ∧ AI = w.2.2.2.1 ∧ AJ = w.2.2.2.2.1 ∧ AR = w.2.2.2.2.2 ∧ (z = 0 ∨ z = 1) ∧ (tIz z (∃ j : Nat, (j : Int) < (I a 8).toInt ∧ (AI (gh 3 a) j).toInt = col)))) := by
  refine gStart (cc := cX0_hasColumn) (maxL := 3) (ret := (some (.boolean))) (by decide) rfl (Nat.le_of_ble_eq_true rfl) ?_
  intro p e s m below meth c ls F hr hlk hH hz hS hl
  have hl : lv_has ls 3 [(0, .ref a), (1, .int (iI col))] := hl
  have hS : va_S (gA g) s.heap s.heap [] := hS
  obtain ⟨H, hHe⟩ : ∃ H : Heap, H = s.heap := ⟨_, rfl⟩
  obtain ⟨locs, hlo⟩ : ∃ k : List Loc, k = [] := ⟨_, rfl⟩
  have hH : gH g I R J AI AJ AR H := by rw [hHe]; exact hH
  have hS : va_S (gA g) s.heap H locs := by rw [hHe, hlo]; exact hS
  suffices hw : W p l e rmX0_hasColumng s m ([.ref a, .int (iI col)] : List Value).toArray below meth c H locs 0 0 (MQ below (gQi g (fun (z : Int) (w : gS) => I = w.1 ∧ R = w.2.1 ∧ J = w.2.2.1 ∧ AI = w.2.2.2.1 ∧ AJ = w.2.2.2.2.1 ∧ AR = w.2.2.2.2.2 ∧ (z = 0 ∨ z = 1) ∧ (tIz z (∃ j : Nat, (j : Int) < (I a 8).toInt ∧ (AI (gh 3 a) j).toInt = col)))) ([.ref a, .int (iI col)] : List Value).toArray s 0 0 (gA g)) (F0 m 0 ls []) by
    rw [hHe, hlo] at hw; exact hw
  clear hHe hlo
  have iX0 : ∀ w ∈ u_ws RX0 TX0 15, w ∈ wsX0_hasColumn := (by decide +kernel)
  have k34 : Cond.fieldLink RX0 34 (TX0 8).1 (TX0 8).2.1 (TX0 8).2.2.1 ∈ wsX0_hasColumn := List.mem_of_getElem? (i := 1) rfl
  have k11 : Cond.fieldLink RX0 11 (TX0 7).1 (TX0 7).2.1 (TX0 7).2.2.1 ∈ wsX0_hasColumn := List.mem_of_getElem? (i := 2) rfl
  refine z_iconst F dX0_hasColumn_0 ?_
  refine lv_istore_n (lv' := [(2, .int (iI 0)), (0, .ref a), (1, .int (iI col))]) F.1 F.2.1 dX0_hasColumn_1 rfl hl (by decide) rfl (fun ls hl => ?_)
  have cut_2_0 : ∀ (NN : Nat) (i : Int) (H : Heap) (locs : List Loc) (ls : Array Slot), zr i → (0 ≤ i ∧ i ≤ 8) → (∀ j : Nat, (j : Int) < i → (AI (gh 3 a) j).toInt ≠ col) → (8 - i) < ((NN : Nat) : Int) → gH g I R J AI AJ AR H → va_S (gA g) s.heap H locs → lv_has ls 3 [(2, .int (iI i)), (0, .ref a), (1, .int (iI col))] → W p l e rmX0_hasColumng s m ([.ref a, .int (iI col)] : List Value).toArray below meth c H locs 0 0 (MQ below (gQi g (fun (z : Int) (w : gS) => I = w.1 ∧ R = w.2.1 ∧ J = w.2.2.1 ∧ AI = w.2.2.2.1 ∧ AJ = w.2.2.2.2.1 ∧ AR = w.2.2.2.2.2 ∧ (z = 0 ∨ z = 1) ∧ (tIz z (∃ j : Nat, (j : Int) < (I a 8).toInt ∧ (AI (gh 3 a) j).toInt = col)))) ([.ref a, .int (iI col)] : List Value).toArray s 0 0 (gA g)) (F0 m 2 ls []) := by
    intro NN2
    induction NN2 with
    | zero =>
      intro i H locs ls zi hi hno hm2 hH hS hl
      exact absurd hm2 (by omega)
    | succ NN2 ih2 =>
      intro i H locs ls zi hi hno hm2 hH hS hl
      refine lv_iload_n F.1 F.2.1 dX0_hasColumn_2 rfl (lv_at hl 0 rfl) ?_
      refine lv_aload_n F.1 F.2.1 dX0_hasColumn_3 rfl (lv_at hl 1 rfl) ?_
      refine g_getI (ci := 0) (k := 8) F hH rfl (by decide) iX0 ha (by decide) rfl k34 dX0_hasColumn_4 ?_
      have b_2 := gI_line hv ha
      unfold vLineI at b_2
      refine z_icmp_ge (tgt := 28) F dX0_hasColumn_7 (by decide) zi (zr_t _) (fun c_3 => ?_) (fun c_3 => ?_)
      · refine z_iconst F dX0_hasColumn_28 ?_
        exact g_zret F hr hlk hH hS hz (by omega) ⟨rfl, rfl, rfl, rfl, rfl, rfl, by first | omega | rfl | (dsimp only; omega), tIz_f (fun ⟨j, h1, h2⟩ => hno j (by omega) h2)⟩ dX0_hasColumn_29
      · refine lv_aload_n F.1 F.2.1 dX0_hasColumn_10 rfl (lv_at hl 1 rfl) ?_
        obtain ⟨r_4a, r_4b⟩ := gR_parts hv ha
        refine g_getR (ci := 0) (k := 7) F hH rfl (by decide) iX0 ha (by decide) rfl (b := gh 3 a) r_4a k11 dX0_hasColumn_11 ?_
        refine lv_iload_n F.1 F.2.1 dX0_hasColumn_14 rfl (lv_at hl 0 rfl) ?_
        have hx15 : 0 ≤ i ∧ i < ((32 : Nat) : Int) ∧ i ≤ 2147483647 := ⟨by omega, by omega, by omega⟩
        refine g_iald F hH r_4b hx15.1 hx15.2.1 hx15.2.2 dX0_hasColumn_15 ?_
        refine z_name (fun v_5 ev_5 => ?_)
        have zv_5 : zr v_5 := by rw [ev_5]; exact zr_t _
        have t15 : (AI (gh 3 a) (i.toNat)).toInt = v_5 := by rw [ev_5]
        refine lv_iload_n F.1 F.2.1 dX0_hasColumn_16 rfl (lv_at hl 2 rfl) ?_
        refine z_icmp_ne (tgt := 22) F dX0_hasColumn_17 (by decide) zv_5 zcol (fun c_6 => ?_) (fun c_6 => ?_)
        · refine z_iinc (lv' := [(2, .int (iI (i + 1))), (0, .ref a), (1, .int (iI col))]) F dX0_hasColumn_22 hl (k := 0) rfl (by decide) rfl (fun ls hl => ?_)
          refine z_goto (tgt := 2) F dX0_hasColumn_25 (by decide) ?_
          exact ih2 (i + 1) H locs ls ⟨by omega, by omega⟩ (by omega) (by first | exact (fun k hk => absurd hk (by omega)) | exact ix_step (P := fun j => (AI (gh 3 a) j).toInt ≠ col) hno (by omega) (by omega)) (by omega) hH hS (lv_sub hl [0, 1, 2] rfl)
        · refine z_iconst F dX0_hasColumn_20 ?_
          exact g_zret F hr hlk hH hS hz (by omega) ⟨rfl, rfl, rfl, rfl, rfl, rfl, by first | omega | rfl | (dsimp only; omega), tIz_t ⟨i.toNat, by omega, by omega⟩⟩ dX0_hasColumn_21
  exact cut_2_0 (((8 - 0) + 1 : Int).toNat) 0 H locs ls ⟨by decide, by decide⟩ (by omega) (by first | exact (fun k hk => absurd hk (by omega)) | exact ix_step (P := fun j => (AI (gh 3 a) j).toInt ≠ col) hno (by omega) (by omega)) (by omega) hH hS (lv_sub hl [0, 1, 2] rfl)

def rmX0_tellsSecondg : Room := { frames := 0, cells := 0, slots := 0, locals := 0 }
set_option maxHeartbeats 4000000 in
set_option maxRecDepth 100000 in
/-- whether a pair tells this column -/
theorem c_X0_tellsSecondg (l : Launch) (g : gG) (gh : gGh) (I : gI) (R : gR) (J : gJ) (AI : gI) (AJ : gJ) (AR : gR) (a : Nat) (col : Int) (zcol : zr col) (hv : gInv g gh R AR I AI) (ha : gO g a 0) : gMet l g yX0_tellsSecond wsX0_tellsSecond rmX0_tellsSecondg [.ref a, .int (iI col)] (I, R, J, AI, AJ, AR) (gQi g (fun (z : Int) (w : gS) => I = w.1 ∧ R = w.2.1 ∧ J = w.2.2.1 ∧ AI = w.2.2.2.1 ∧ AJ = w.2.2.2.2.1 ∧ AR = w.2.2.2.2.2 ∧ (z = 0 ∨ z = 1) ∧ (tIz z (∃ j : Nat, (j : Int) < (I a 8).toInt ∧ (AI (gh 3 a) (2 * j + 1)).toInt = col)))) := by
  refine gStart (cc := cX0_tellsSecond) (maxL := 3) (ret := (some (.boolean))) (by decide) rfl (Nat.le_of_ble_eq_true rfl) ?_
  intro p e s m below meth c ls F hr hlk hH hz hS hl
  have hl : lv_has ls 3 [(0, .ref a), (1, .int (iI col))] := hl
  have hS : va_S (gA g) s.heap s.heap [] := hS
  obtain ⟨H, hHe⟩ : ∃ H : Heap, H = s.heap := ⟨_, rfl⟩
  obtain ⟨locs, hlo⟩ : ∃ k : List Loc, k = [] := ⟨_, rfl⟩
  have hH : gH g I R J AI AJ AR H := by rw [hHe]; exact hH
  have hS : va_S (gA g) s.heap H locs := by rw [hHe, hlo]; exact hS
  suffices hw : W p l e rmX0_tellsSecondg s m ([.ref a, .int (iI col)] : List Value).toArray below meth c H locs 0 0 (MQ below (gQi g (fun (z : Int) (w : gS) => I = w.1 ∧ R = w.2.1 ∧ J = w.2.2.1 ∧ AI = w.2.2.2.1 ∧ AJ = w.2.2.2.2.1 ∧ AR = w.2.2.2.2.2 ∧ (z = 0 ∨ z = 1) ∧ (tIz z (∃ j : Nat, (j : Int) < (I a 8).toInt ∧ (AI (gh 3 a) (2 * j + 1)).toInt = col)))) ([.ref a, .int (iI col)] : List Value).toArray s 0 0 (gA g)) (F0 m 0 ls []) by
    rw [hHe, hlo] at hw; exact hw
  clear hHe hlo
  have iX0 : ∀ w ∈ u_ws RX0 TX0 15, w ∈ wsX0_tellsSecond := (by decide +kernel)
  have k34 : Cond.fieldLink RX0 34 (TX0 8).1 (TX0 8).2.1 (TX0 8).2.2.1 ∈ wsX0_tellsSecond := List.mem_of_getElem? (i := 1) rfl
  have k11 : Cond.fieldLink RX0 11 (TX0 7).1 (TX0 7).2.1 (TX0 7).2.2.1 ∈ wsX0_tellsSecond := List.mem_of_getElem? (i := 2) rfl
  refine z_iconst F dX0_tellsSecond_0 ?_
  refine lv_istore_n (lv' := [(2, .int (iI 0)), (0, .ref a), (1, .int (iI col))]) F.1 F.2.1 dX0_tellsSecond_1 rfl hl (by decide) rfl (fun ls hl => ?_)
  have cut_2_0 : ∀ (NN : Nat) (i : Int) (H : Heap) (locs : List Loc) (ls : Array Slot), zr i → (0 ≤ i ∧ i ≤ 8) → (∀ j : Nat, (j : Int) < i → (AI (gh 3 a) (2 * j + 1)).toInt ≠ col) → (8 - i) < ((NN : Nat) : Int) → gH g I R J AI AJ AR H → va_S (gA g) s.heap H locs → lv_has ls 3 [(2, .int (iI i)), (0, .ref a), (1, .int (iI col))] → W p l e rmX0_tellsSecondg s m ([.ref a, .int (iI col)] : List Value).toArray below meth c H locs 0 0 (MQ below (gQi g (fun (z : Int) (w : gS) => I = w.1 ∧ R = w.2.1 ∧ J = w.2.2.1 ∧ AI = w.2.2.2.1 ∧ AJ = w.2.2.2.2.1 ∧ AR = w.2.2.2.2.2 ∧ (z = 0 ∨ z = 1) ∧ (tIz z (∃ j : Nat, (j : Int) < (I a 8).toInt ∧ (AI (gh 3 a) (2 * j + 1)).toInt = col)))) ([.ref a, .int (iI col)] : List Value).toArray s 0 0 (gA g)) (F0 m 2 ls []) := by
    intro NN2
    induction NN2 with
    | zero =>
      intro i H locs ls zi hi hno hm2 hH hS hl
      exact absurd hm2 (by omega)
    | succ NN2 ih2 =>
      intro i H locs ls zi hi hno hm2 hH hS hl
      refine lv_iload_n F.1 F.2.1 dX0_tellsSecond_2 rfl (lv_at hl 0 rfl) ?_
      refine lv_aload_n F.1 F.2.1 dX0_tellsSecond_3 rfl (lv_at hl 1 rfl) ?_
      refine g_getI (ci := 0) (k := 8) F hH rfl (by decide) iX0 ha (by decide) rfl k34 dX0_tellsSecond_4 ?_
      have b_2 := gI_line hv ha
      unfold vLineI at b_2
      refine z_icmp_ge (tgt := 32) F dX0_tellsSecond_7 (by decide) zi (zr_t _) (fun c_3 => ?_) (fun c_3 => ?_)
      · refine z_iconst F dX0_tellsSecond_32 ?_
        exact g_zret F hr hlk hH hS hz (by omega) ⟨rfl, rfl, rfl, rfl, rfl, rfl, by first | omega | rfl | (dsimp only; omega), tIz_f (fun ⟨j, h1, h2⟩ => hno j (by omega) h2)⟩ dX0_tellsSecond_33
      · refine lv_aload_n F.1 F.2.1 dX0_tellsSecond_10 rfl (lv_at hl 1 rfl) ?_
        obtain ⟨r_4a, r_4b⟩ := gR_parts hv ha
        refine g_getR (ci := 0) (k := 7) F hH rfl (by decide) iX0 ha (by decide) rfl (b := gh 3 a) r_4a k11 dX0_tellsSecond_11 ?_
        refine z_iconst F dX0_tellsSecond_14 ?_
        refine lv_iload_n F.1 F.2.1 dX0_tellsSecond_15 rfl (lv_at hl 0 rfl) ?_
        refine z_imul F dX0_tellsSecond_16 ?_
        refine z_iconst F dX0_tellsSecond_17 ?_
        refine z_iadd F dX0_tellsSecond_18 ?_
        have hx19 : 0 ≤ ((2 * i) + 1) ∧ ((2 * i) + 1) < ((32 : Nat) : Int) ∧ ((2 * i) + 1) ≤ 2147483647 := ⟨by omega, by omega, by omega⟩
        refine g_iald F hH r_4b hx19.1 hx19.2.1 hx19.2.2 dX0_tellsSecond_19 ?_
        refine z_name (fun v_5 ev_5 => ?_)
        have zv_5 : zr v_5 := by rw [ev_5]; exact zr_t _
        have t15 : (AI (gh 3 a) (2 * i.toNat + 1)).toInt = v_5 := by rw [ev_5]; rw [show (2 * i + 1).toNat = 2 * i.toNat + 1 by omega]
        refine lv_iload_n F.1 F.2.1 dX0_tellsSecond_20 rfl (lv_at hl 2 rfl) ?_
        refine z_icmp_ne (tgt := 26) F dX0_tellsSecond_21 (by decide) zv_5 zcol (fun c_6 => ?_) (fun c_6 => ?_)
        · refine z_iinc (lv' := [(2, .int (iI (i + 1))), (0, .ref a), (1, .int (iI col))]) F dX0_tellsSecond_26 hl (k := 0) rfl (by decide) rfl (fun ls hl => ?_)
          refine z_goto (tgt := 2) F dX0_tellsSecond_29 (by decide) ?_
          exact ih2 (i + 1) H locs ls ⟨by omega, by omega⟩ (by omega) (by first | exact (fun k hk => absurd hk (by omega)) | exact ix_step (P := fun j => (AI (gh 3 a) (2 * j + 1)).toInt ≠ col) hno (by omega) (by omega)) (by omega) hH hS (lv_sub hl [0, 1, 2] rfl)
        · refine z_iconst F dX0_tellsSecond_24 ?_
          exact g_zret F hr hlk hH hS hz (by omega) ⟨rfl, rfl, rfl, rfl, rfl, rfl, by first | omega | rfl | (dsimp only; omega), tIz_t ⟨i.toNat, by omega, by omega⟩⟩ dX0_tellsSecond_25
  exact cut_2_0 (((8 - 0) + 1 : Int).toNat) 0 H locs ls ⟨by decide, by decide⟩ (by omega) (by first | exact (fun k hk => absurd hk (by omega)) | exact ix_step (P := fun j => (AI (gh 3 a) (2 * j + 1)).toInt ≠ col) hno (by omega) (by omega)) (by omega) hH hS (lv_sub hl [0, 1, 2] rfl)

def rmX0_columnsOfJoing : Room := { frames := 1, cells := 0, slots := 0, locals := 22 }
set_option maxHeartbeats 4000000 in
set_option maxRecDepth 100000 in
/-- the columns of a join -/
theorem c_X0_columnsOfJoing (l : Launch) (g : gG) (gh : gGh) (L : List Int) (I : gI) (R : gR) (J : gJ) (AI : gI) (AJ : gJ) (AR : gR) (a : Nat) (hv : gInv g gh R AR I AI) (ha : gO g a 0) (hL : pCn (AI (gh 3 a)) (I a 8).toInt L) : gMet l g yX0_columnsOfJoin wsX0_columnsOfJoin rmX0_columnsOfJoing [.ref a] (I, R, J, AI, AJ, AR) (gQi g (fun (z : Int) (w : gS) => I = w.1 ∧ R = w.2.1 ∧ J = w.2.2.1 ∧ AI = w.2.2.2.1 ∧ AJ = w.2.2.2.2.1 ∧ AR = w.2.2.2.2.2 ∧ (0 ≤ z ∧ z ≤ 8) ∧ (z = (I a 5).toInt + jC L (I a 6).toInt.toNat))) := by
  refine gStart (cc := cX0_columnsOfJoin) (maxL := 3) (ret := (some (.int))) (by decide) rfl (Nat.le_of_ble_eq_true rfl) ?_
  intro p e s m below meth c ls F hr hlk hH hz hS hl
  have hl : lv_has ls 3 [(0, .ref a)] := hl
  have hS : va_S (gA g) s.heap s.heap [] := hS
  obtain ⟨H, hHe⟩ : ∃ H : Heap, H = s.heap := ⟨_, rfl⟩
  obtain ⟨locs, hlo⟩ : ∃ k : List Loc, k = [] := ⟨_, rfl⟩
  have hH : gH g I R J AI AJ AR H := by rw [hHe]; exact hH
  have hS : va_S (gA g) s.heap H locs := by rw [hHe, hlo]; exact hS
  suffices hw : W p l e rmX0_columnsOfJoing s m ([.ref a] : List Value).toArray below meth c H locs 0 0 (MQ below (gQi g (fun (z : Int) (w : gS) => I = w.1 ∧ R = w.2.1 ∧ J = w.2.2.1 ∧ AI = w.2.2.2.1 ∧ AJ = w.2.2.2.2.1 ∧ AR = w.2.2.2.2.2 ∧ (0 ≤ z ∧ z ≤ 8) ∧ (z = (I a 5).toInt + jC L (I a 6).toInt.toNat))) ([.ref a] : List Value).toArray s 0 0 (gA g)) (F0 m 0 ls []) by
    rw [hHe, hlo] at hw; exact hw
  clear hHe hlo
  have iX0 : ∀ w ∈ u_ws RX0 TX0 15, w ∈ wsX0_columnsOfJoin := (by decide +kernel)
  have k28 : Cond.fieldLink RX0 28 (TX0 5).1 (TX0 5).2.1 (TX0 5).2.2.1 ∈ wsX0_columnsOfJoin := List.mem_of_getElem? (i := 1) rfl
  have k31 : Cond.fieldLink RX0 31 (TX0 6).1 (TX0 6).2.1 (TX0 6).2.2.1 ∈ wsX0_columnsOfJoin := List.mem_of_getElem? (i := 2) rfl
  refine lv_aload_n F.1 F.2.1 dX0_columnsOfJoin_0 rfl (lv_at hl 0 rfl) ?_
  refine g_getI (ci := 0) (k := 5) F hH rfl (by decide) iX0 ha (by decide) rfl k28 dX0_columnsOfJoin_1 ?_
  have b_1 := gI_line hv ha
  unfold vLineI at b_1
  refine lv_istore_n (lv' := [(1, .int (iI ((I a 5).toInt))), (0, .ref a)]) F.1 F.2.1 dX0_columnsOfJoin_4 rfl hl (by decide) rfl (fun ls hl => ?_)
  refine z_iconst F dX0_columnsOfJoin_5 ?_
  refine lv_istore_n (lv' := [(2, .int (iI 0)), (1, .int (iI ((I a 5).toInt))), (0, .ref a)]) F.1 F.2.1 dX0_columnsOfJoin_6 rfl hl (by decide) rfl (fun ls hl => ?_)
  have cut_7_1 : ∀ (NN : Nat) (sm i : Int) (H : Heap) (locs : List Loc) (ls : Array Slot), zr sm → zr i → (0 ≤ i ∧ i ≤ 4 ∧ 0 ≤ sm ∧ sm ≤ 4 + i) → (i ≤ (I a 6).toInt) → (sm = (I a 5).toInt + jC L i.toNat) → (4 - i) < ((NN : Nat) : Int) → gH g I R J AI AJ AR H → va_S (gA g) s.heap H locs → lv_has ls 3 [(2, .int (iI i)), (1, .int (iI sm)), (0, .ref a)] → W p l e rmX0_columnsOfJoing s m ([.ref a] : List Value).toArray below meth c H locs 0 0 (MQ below (gQi g (fun (z : Int) (w : gS) => I = w.1 ∧ R = w.2.1 ∧ J = w.2.2.1 ∧ AI = w.2.2.2.1 ∧ AJ = w.2.2.2.2.1 ∧ AR = w.2.2.2.2.2 ∧ (0 ≤ z ∧ z ≤ 8) ∧ (z = (I a 5).toInt + jC L (I a 6).toInt.toNat))) ([.ref a] : List Value).toArray s 0 0 (gA g)) (F0 m 7 ls []) := by
    intro NN7
    induction NN7 with
    | zero =>
      intro sm i H locs ls zsm zi hi hi6 hj hm7 hH hS hl
      exact absurd hm7 (by omega)
    | succ NN7 ih7 =>
      intro sm i H locs ls zsm zi hi hi6 hj hm7 hH hS hl
      refine lv_iload_n F.1 F.2.1 dX0_columnsOfJoin_7 rfl (lv_at hl 0 rfl) ?_
      refine lv_aload_n F.1 F.2.1 dX0_columnsOfJoin_8 rfl (lv_at hl 2 rfl) ?_
      refine g_getI (ci := 0) (k := 6) F hH rfl (by decide) iX0 ha (by decide) rfl k31 dX0_columnsOfJoin_9 ?_
      refine z_icmp_ge (tgt := 37) F dX0_columnsOfJoin_12 (by decide) zi (zr_t _) (fun c_3 => ?_) (fun c_3 => ?_)
      · refine lv_iload_n F.1 F.2.1 dX0_columnsOfJoin_37 rfl (lv_at hl 1 rfl) ?_
        exact g_iret F hr hlk hH hS hz zsm ⟨rfl, rfl, rfl, rfl, rfl, rfl, by first | omega | rfl | (dsimp only; omega), by (try dsimp only); rw [hj, show i = (I a 6).toInt by omega]⟩ dX0_columnsOfJoin_38
      · refine lv_iload_n F.1 F.2.1 dX0_columnsOfJoin_15 rfl (lv_at hl 1 rfl) ?_
        refine lv_aload_n F.1 F.2.1 dX0_columnsOfJoin_16 rfl (lv_at hl 2 rfl) ?_
        refine lv_iload_n F.1 F.2.1 dX0_columnsOfJoin_17 rfl (lv_at hl 0 rfl) ?_
        refine g_calli (g_runV (As := [.int (iI i)]) (rest := [.int (iI sm)]) (ci := 0) F hl.1 hH hS hz (c_X0_tellsSecondg l g gh I R J AI AJ AR a i zi hv ha) (cwV 1 F.2.2.2.2.1 gX0_columnsOfJoin_X0_tellsSecond rfl rfl rfl hdX0_tellsSecond ⟨Nat.le_of_ble_eq_true rfl, Nat.le_of_ble_eq_true rfl⟩) ha (by decide) rfl rfl rfl (Nat.le_of_ble_eq_true rfl) dX0_columnsOfJoin_18 ⟨Nat.zero_le _, Nat.zero_le _⟩) hS (fun v_10 I_4 R_5 J_6 AI_7 AJ_8 AR_9 H locs zv_10 hp_11 hH hS => ?_)
        dsimp only at hp_11
        obtain ⟨rfl, rfl, rfl, rfl, rfl, rfl, q_12, q18⟩ := hp_11
        refine z_if_eq (tgt := 28) F dX0_columnsOfJoin_21 (by decide) zv_10 (fun c_13 => ?_) (fun c_13 => ?_)
        · refine z_iconst F dX0_columnsOfJoin_28 ?_
          refine z_iadd F dX0_columnsOfJoin_29 ?_
          refine lv_istore_n (lv' := [(1, .int (iI (sm + 1))), (2, .int (iI i)), (0, .ref a)]) F.1 F.2.1 dX0_columnsOfJoin_30 rfl hl (by decide) rfl (fun ls hl => ?_)
          refine z_iinc (lv' := [(2, .int (iI (i + 1))), (1, .int (iI (sm + 1))), (0, .ref a)]) F dX0_columnsOfJoin_31 hl (k := 1) rfl (by decide) rfl (fun ls hl => ?_)
          refine z_goto (tgt := 7) F dX0_columnsOfJoin_34 (by decide) ?_
          exact ih7 (sm + 1) (i + 1) H locs ls ⟨by omega, by omega⟩ ⟨by omega, by omega⟩ (by omega) (by omega) (by first | (show _ = _ + (0 : Int); omega) | (rw [jC_y (by omega) ((hL _).mp (tIz_1 q18 (by omega)))]; omega) | (rw [jC_n (by omega) (fun h => tIz_0 q18 (by omega) ((hL _).mpr h))]; omega)) (by omega) hH hS (lv_sub hl [0, 1, 2] rfl)
        · refine z_iconst F dX0_columnsOfJoin_24 ?_
          refine z_goto (tgt := 29) F dX0_columnsOfJoin_25 (by decide) ?_
          refine z_iadd F dX0_columnsOfJoin_29 ?_
          refine lv_istore_n (lv' := [(1, .int (iI (sm + 0))), (2, .int (iI i)), (0, .ref a)]) F.1 F.2.1 dX0_columnsOfJoin_30 rfl hl (by decide) rfl (fun ls hl => ?_)
          refine z_iinc (lv' := [(2, .int (iI (i + 1))), (1, .int (iI (sm + 0))), (0, .ref a)]) F dX0_columnsOfJoin_31 hl (k := 1) rfl (by decide) rfl (fun ls hl => ?_)
          refine z_goto (tgt := 7) F dX0_columnsOfJoin_34 (by decide) ?_
          exact ih7 (sm + 0) (i + 1) H locs ls ⟨by omega, by omega⟩ ⟨by omega, by omega⟩ (by omega) (by omega) (by first | (show _ = _ + (0 : Int); omega) | (rw [jC_y (by omega) ((hL _).mp (tIz_1 q18 (by omega)))]; omega) | (rw [jC_n (by omega) (fun h => tIz_0 q18 (by omega) ((hL _).mpr h))]; omega)) (by omega) hH hS (lv_sub hl [0, 1, 2] rfl)
  exact cut_7_1 (((4 - 0) + 1 : Int).toNat) ((I a 5).toInt) 0 H locs ls (zr_t _) ⟨by decide, by decide⟩ (by omega) (by omega) (by first | (show _ = _ + (0 : Int); omega) | (rw [jC_y (by omega) ((hL _).mp (tIz_1 q18 (by omega)))]; omega) | (rw [jC_n (by omega) (fun h => tIz_0 q18 (by omega) ((hL _).mpr h))]; omega)) (by omega) hH hS (lv_sub hl [0, 1, 2] rfl)

def rmX1_isKindg : Room := { frames := 0, cells := 0, slots := 0, locals := 0 }
set_option maxHeartbeats 4000000 in
set_option maxRecDepth 100000 in
/-- the token is of a kind -/
theorem c_X1_isKindg (l : Launch) (g : gG) (gh : gGh) (q : Nat) (b : tTx) (n : Nat) (tl : Int) (nr : Nat) (nt : Nat → Nat) (cl : Nat → Int) (h : Nat) (I : gI) (R : gR) (J : gJ) (AI : gI) (AJ : gJ) (AR : gR) (a : Nat) (kd : Int) (zkd : zr kd) (hv : gInv g gh R AR I AI) (h1 : gO g a 1) (hh : (I a 3).toInt < (I (gh 22 0) 4).toInt) (hP : pH gh AR I J AI AJ a q b n tl nr nt cl h) : gMet l g yX1_isKind wsX1_isKind rmX1_isKindg [.ref a, .int (iI kd)] (I, R, J, AI, AJ, AR) (gQi g (fun (z : Int) (w : gS) => I = w.1 ∧ R = w.2.1 ∧ J = w.2.2.1 ∧ AI = w.2.2.2.1 ∧ AJ = w.2.2.2.2.1 ∧ AR = w.2.2.2.2.2 ∧ ((z = 0 ∨ z = 1) ∧ (z = 1 → (AI (gh 24 0) (I a 3).toInt.toNat).toInt = kd)) ∧ (tIz z (pK b n h = kd)))) := by
  refine gStart (cc := cX1_isKind) (maxL := 2) (ret := (some (.boolean))) (by decide) rfl (Nat.le_of_ble_eq_true rfl) ?_
  intro p e s m below meth c ls F hr hlk hH hz hS hl
  have hl : lv_has ls 2 [(0, .ref a), (1, .int (iI kd))] := hl
  have hS : va_S (gA g) s.heap s.heap [] := hS
  obtain ⟨H, hHe⟩ : ∃ H : Heap, H = s.heap := ⟨_, rfl⟩
  obtain ⟨locs, hlo⟩ : ∃ k : List Loc, k = [] := ⟨_, rfl⟩
  have hH : gH g I R J AI AJ AR H := by rw [hHe]; exact hH
  have hS : va_S (gA g) s.heap H locs := by rw [hHe, hlo]; exact hS
  suffices hw : W p l e rmX1_isKindg s m ([.ref a, .int (iI kd)] : List Value).toArray below meth c H locs 0 0 (MQ below (gQi g (fun (z : Int) (w : gS) => I = w.1 ∧ R = w.2.1 ∧ J = w.2.2.1 ∧ AI = w.2.2.2.1 ∧ AJ = w.2.2.2.2.1 ∧ AR = w.2.2.2.2.2 ∧ ((z = 0 ∨ z = 1) ∧ (z = 1 → (AI (gh 24 0) (I a 3).toInt.toNat).toInt = kd)) ∧ (tIz z (pK b n h = kd)))) ([.ref a, .int (iI kd)] : List Value).toArray s 0 0 (gA g)) (F0 m 0 ls []) by
    rw [hHe, hlo] at hw; exact hw
  clear hHe hlo
  have iX5 : ∀ w ∈ u_ws RX5 TX5 5, w ∈ wsX1_isKind := (by decide +kernel)
  have iX1 : ∀ w ∈ u_ws RX1 TX1 4, w ∈ wsX1_isKind := (by decide +kernel)
  have k12 : Cond.fieldLink RX1 12 (TX1 0).1 (TX1 0).2.1 (TX1 0).2.2.1 ∈ wsX1_isKind := List.mem_of_getElem? (i := 1) rfl
  have k47 : Cond.fieldLink RX1 47 (TX5 0).1 (TX5 0).2.1 (TX5 0).2.2.1 ∈ wsX1_isKind := List.mem_of_getElem? (i := 2) rfl
  have k44 : Cond.fieldLink RX1 44 (TX1 3).1 (TX1 3).2.1 (TX1 3).2.2.1 ∈ wsX1_isKind := List.mem_of_getElem? (i := 3) rfl
  refine lv_aload_n F.1 F.2.1 dX1_isKind_0 rfl (lv_at hl 0 rfl) ?_
  refine g_getR (ci := 1) (k := 0) F hH rfl (by decide) iX1 h1 (by decide) rfl (b := gh 22 0) (gR_pr0 hv h1).1 k12 dX1_isKind_1 ?_
  obtain ⟨r_1a, r_1b⟩ := gR_tk0 hv (gR_pr0 hv h1).2
  refine g_getR (ci := 5) (k := 0) F hH rfl (by decide) iX5 (gR_pr0 hv h1).2 (by decide) rfl (b := gh 24 0) r_1a k47 dX1_isKind_4 ?_
  refine lv_aload_n F.1 F.2.1 dX1_isKind_7 rfl (lv_at hl 0 rfl) ?_
  refine g_getI (ci := 1) (k := 3) F hH rfl (by decide) iX1 h1 (by decide) rfl k44 dX1_isKind_8 ?_
  have b_2 := gI_pr hv h1
  have b_2t := gI_tk hv (gR_pr0 hv h1).2
  have hx11 : 0 ≤ ((I a 3).toInt) ∧ ((I a 3).toInt) < ((901 : Nat) : Int) ∧ ((I a 3).toInt) ≤ 2147483647 := ⟨by omega, by omega, by omega⟩
  refine g_iald F hH r_1b hx11.1 hx11.2.1 hx11.2.2 dX1_isKind_11 ?_
  refine z_name (fun v_3 ev_3 => ?_)
  have zv_3 : zr v_3 := by rw [ev_3]; exact zr_t _
  have t11 : v_3 = pK b n (h) := by rw [ev_3]; exact pH_K hP
  refine lv_iload_n F.1 F.2.1 dX1_isKind_12 rfl (lv_at hl 1 rfl) ?_
  refine z_icmp_ne (tgt := 20) F dX1_isKind_13 (by decide) zv_3 zkd (fun c_4 => ?_) (fun c_4 => ?_)
  · refine z_iconst F dX1_isKind_20 ?_
    exact g_zret F hr hlk hH hS hz (by omega) ⟨rfl, rfl, rfl, rfl, rfl, rfl, ⟨by omega, fun _ => by omega⟩, by first | exact tIz_t (by omega) | exact tIz_f (by omega)⟩ dX1_isKind_21
  · refine z_iconst F dX1_isKind_16 ?_
    refine z_goto (tgt := 21) F dX1_isKind_17 (by decide) ?_
    exact g_zret F hr hlk hH hS hz (by omega) ⟨rfl, rfl, rfl, rfl, rfl, rfl, ⟨by omega, fun _ => by omega⟩, by first | exact tIz_t (by omega) | exact tIz_f (by omega)⟩ dX1_isKind_21

def rmX1_isWordg : Room := { frames := 1, cells := 0, slots := 0, locals := 21 }
set_option maxHeartbeats 4000000 in
set_option maxRecDepth 100000 in
/-- the token is a word -/
theorem c_X1_isWordg (l : Launch) (g : gG) (gh : gGh) (q : Nat) (b : tTx) (n : Nat) (tl : Int) (nr : Nat) (nt : Nat → Nat) (cl : Nat → Int) (h : Nat) (I : gI) (R : gR) (J : gJ) (AI : gI) (AJ : gJ) (AR : gR) (a : Nat) (wn : Int) (zwn : zr wn) (hv : gInv g gh R AR I AI) (h1 : gO g a 1) (hh : (I a 3).toInt < (I (gh 22 0) 4).toInt) (hP : pH gh AR I J AI AJ a q b n tl nr nt cl h) : gMet l g yX1_isWord wsX1_isWord rmX1_isWordg [.ref a, .int (iI wn)] (I, R, J, AI, AJ, AR) (gQi g (fun (z : Int) (w : gS) => I = w.1 ∧ R = w.2.1 ∧ J = w.2.2.1 ∧ AI = w.2.2.2.1 ∧ AJ = w.2.2.2.2.1 ∧ AR = w.2.2.2.2.2 ∧ (z = 0 ∨ z = 1) ∧ (tIz z (pK b n h = 3 ∧ pV b n h = wn)))) := by
  refine gStart (cc := cX1_isWord) (maxL := 2) (ret := (some (.boolean))) (by decide) rfl (Nat.le_of_ble_eq_true rfl) ?_
  intro p e s m below meth c ls F hr hlk hH hz hS hl
  have hl : lv_has ls 2 [(0, .ref a), (1, .int (iI wn))] := hl
  have hS : va_S (gA g) s.heap s.heap [] := hS
  obtain ⟨H, hHe⟩ : ∃ H : Heap, H = s.heap := ⟨_, rfl⟩
  obtain ⟨locs, hlo⟩ : ∃ k : List Loc, k = [] := ⟨_, rfl⟩
  have hH : gH g I R J AI AJ AR H := by rw [hHe]; exact hH
  have hS : va_S (gA g) s.heap H locs := by rw [hHe, hlo]; exact hS
  suffices hw : W p l e rmX1_isWordg s m ([.ref a, .int (iI wn)] : List Value).toArray below meth c H locs 0 0 (MQ below (gQi g (fun (z : Int) (w : gS) => I = w.1 ∧ R = w.2.1 ∧ J = w.2.2.1 ∧ AI = w.2.2.2.1 ∧ AJ = w.2.2.2.2.1 ∧ AR = w.2.2.2.2.2 ∧ (z = 0 ∨ z = 1) ∧ (tIz z (pK b n h = 3 ∧ pV b n h = wn)))) ([.ref a, .int (iI wn)] : List Value).toArray s 0 0 (gA g)) (F0 m 0 ls []) by
    rw [hHe, hlo] at hw; exact hw
  clear hHe hlo
  have iX5 : ∀ w ∈ u_ws RX5 TX5 5, w ∈ wsX1_isWord := (by decide +kernel)
  have iX1 : ∀ w ∈ u_ws RX1 TX1 4, w ∈ wsX1_isWord := (by decide +kernel)
  have k12 : Cond.fieldLink RX1 12 (TX1 0).1 (TX1 0).2.1 (TX1 0).2.2.1 ∈ wsX1_isWord := List.mem_of_getElem? (i := 1) rfl
  have k71 : Cond.fieldLink RX1 71 (TX5 2).1 (TX5 2).2.1 (TX5 2).2.2.1 ∈ wsX1_isWord := List.mem_of_getElem? (i := 2) rfl
  have k44 : Cond.fieldLink RX1 44 (TX1 3).1 (TX1 3).2.1 (TX1 3).2.2.1 ∈ wsX1_isWord := List.mem_of_getElem? (i := 3) rfl
  refine lv_aload_n F.1 F.2.1 dX1_isWord_0 rfl (lv_at hl 0 rfl) ?_
  refine z_iconst F dX1_isWord_1 ?_
  refine g_calli (g_runV (As := [.int (iI 3)]) (rest := []) (ci := 1) F hl.1 hH hS hz (c_X1_isKindg l g gh q b n tl nr nt cl h I R J AI AJ AR a 3 ⟨by decide, by decide⟩ hv h1 (by first | exact hp.2.2.2.2.2.2.2 | exact hh | omega) hP) (cwV 1 F.2.2.2.2.1 gX1_isWord_X1_isKind rfl rfl rfl hdX1_isKind ⟨Nat.le_of_ble_eq_true rfl, Nat.le_of_ble_eq_true rfl⟩) h1 (by decide) rfl rfl rfl (Nat.le_of_ble_eq_true rfl) dX1_isWord_2 ⟨Nat.zero_le _, Nat.zero_le _⟩) hS (fun v_7 I_1 R_2 J_3 AI_4 AJ_5 AR_6 H locs zv_7 hp_8 hH hS => ?_)
  dsimp only at hp_8
  obtain ⟨rfl, rfl, rfl, rfl, rfl, rfl, q_9, q_10⟩ := hp_8
  refine z_if_eq (tgt := 28) F dX1_isWord_5 (by decide) zv_7 (fun c_11 => ?_) (fun c_11 => ?_)
  · have t_12 := tIz_0 q_10 (by omega)
    refine z_iconst F dX1_isWord_28 ?_
    exact g_zret F hr hlk hH hS hz (by omega) ⟨rfl, rfl, rfl, rfl, rfl, rfl, by first | omega | rfl | (dsimp only; omega), by first | exact tIz_t (by omega) | exact tIz_f (by omega)⟩ dX1_isWord_29
  · have t_13 := tIz_1 q_10 (by omega)
    refine lv_aload_n F.1 F.2.1 dX1_isWord_8 rfl (lv_at hl 0 rfl) ?_
    refine g_getR (ci := 1) (k := 0) F hH rfl (by decide) iX1 h1 (by decide) rfl (b := gh 22 0) (gR_pr0 hv h1).1 k12 dX1_isWord_9 ?_
    obtain ⟨r_14a, r_14b⟩ := gR_tk2 hv (gR_pr0 hv h1).2
    refine g_getR (ci := 5) (k := 2) F hH rfl (by decide) iX5 (gR_pr0 hv h1).2 (by decide) rfl (b := gh 26 0) r_14a k71 dX1_isWord_12 ?_
    refine lv_aload_n F.1 F.2.1 dX1_isWord_15 rfl (lv_at hl 0 rfl) ?_
    refine g_getI (ci := 1) (k := 3) F hH rfl (by decide) iX1 h1 (by decide) rfl k44 dX1_isWord_16 ?_
    have b_15 := gI_pr hv h1
    have b_15t := gI_tk hv (gR_pr0 hv h1).2
    have hx19 : 0 ≤ ((I a 3).toInt) ∧ ((I a 3).toInt) < ((901 : Nat) : Int) ∧ ((I a 3).toInt) ≤ 2147483647 := ⟨by omega, by omega, by omega⟩
    refine g_iald F hH r_14b hx19.1 hx19.2.1 hx19.2.2 dX1_isWord_19 ?_
    refine z_name (fun v_16 ev_16 => ?_)
    have zv_16 : zr v_16 := by rw [ev_16]; exact zr_t _
    have t19 : v_16 = pV b n (h) := by rw [ev_16]; exact pH_V hP
    refine lv_iload_n F.1 F.2.1 dX1_isWord_20 rfl (lv_at hl 1 rfl) ?_
    refine z_icmp_ne (tgt := 28) F dX1_isWord_21 (by decide) zv_16 zwn (fun c_17 => ?_) (fun c_17 => ?_)
    · refine z_iconst F dX1_isWord_28 ?_
      exact g_zret F hr hlk hH hS hz (by omega) ⟨rfl, rfl, rfl, rfl, rfl, rfl, by first | omega | rfl | (dsimp only; omega), by first | exact tIz_t (by omega) | exact tIz_f (by omega)⟩ dX1_isWord_29
    · refine z_iconst F dX1_isWord_24 ?_
      refine z_goto (tgt := 29) F dX1_isWord_25 (by decide) ?_
      exact g_zret F hr hlk hH hS hz (by omega) ⟨rfl, rfl, rfl, rfl, rfl, rfl, by first | omega | rfl | (dsimp only; omega), by first | exact tIz_t (by omega) | exact tIz_f (by omega)⟩ dX1_isWord_29

def rmX1_stepg : Room := { frames := 0, cells := 0, slots := 0, locals := 0 }
set_option maxHeartbeats 4000000 in
set_option maxRecDepth 100000 in
/-- the next token -/
theorem c_X1_stepg (l : Launch) (g : gG) (gh : gGh) (q : Nat) (b : tTx) (n : Nat) (tl : Int) (nr : Nat) (nt : Nat → Nat) (cl : Nat → Int) (h : Nat) (I : gI) (R : gR) (J : gJ) (AI : gI) (AJ : gJ) (AR : gR) (a : Nat) (hv : gInv g gh R AR I AI) (h1 : gO g a 1) (hh : (I a 3).toInt < (I (gh 22 0) 4).toInt) (hP : pH gh AR I J AI AJ a q b n tl nr nt cl h) (hqq : gO g q 2) (hkn : pK b n h ≠ 0) : gMet l g yX1_step wsX1_step rmX1_stepg [.ref a] (I, R, J, AI, AJ, AR) (gQv g (fun w : gS => R = w.2.1 ∧ J = w.2.2.1 ∧ AI = w.2.2.2.1 ∧ AJ = w.2.2.2.2.1 ∧ AR = w.2.2.2.2.2 ∧ (gInv g gh R AR (w.1) AI) ∧ (∀ b, b ≠ a → (w.1) b = I b) ∧ (((w.1) a 3).toInt < (I (gh 22 0) 4).toInt) ∧ (pH gh AR (w.1) J AI AJ a q b n tl nr nt cl (h + 1)))) := by
  refine gStart (cc := cX1_step) (maxL := 1) (ret := none) (by decide) rfl (Nat.le_of_ble_eq_true rfl) ?_
  intro p e s m below meth c ls F hr hlk hH hz hS hl
  have hl : lv_has ls 1 [(0, .ref a)] := hl
  have hS : va_S (gA g) s.heap s.heap [] := hS
  obtain ⟨H, hHe⟩ : ∃ H : Heap, H = s.heap := ⟨_, rfl⟩
  obtain ⟨locs, hlo⟩ : ∃ k : List Loc, k = [] := ⟨_, rfl⟩
  have hH : gH g I R J AI AJ AR H := by rw [hHe]; exact hH
  have hS : va_S (gA g) s.heap H locs := by rw [hHe, hlo]; exact hS
  suffices hw : W p l e rmX1_stepg s m ([.ref a] : List Value).toArray below meth c H locs 0 0 (MQ below (gQv g (fun w : gS => R = w.2.1 ∧ J = w.2.2.1 ∧ AI = w.2.2.2.1 ∧ AJ = w.2.2.2.2.1 ∧ AR = w.2.2.2.2.2 ∧ (gInv g gh R AR (w.1) AI) ∧ (∀ b, b ≠ a → (w.1) b = I b) ∧ (((w.1) a 3).toInt < (I (gh 22 0) 4).toInt) ∧ (pH gh AR (w.1) J AI AJ a q b n tl nr nt cl (h + 1)))) ([.ref a] : List Value).toArray s 0 0 (gA g)) (F0 m 0 ls []) by
    rw [hHe, hlo] at hw; exact hw
  clear hHe hlo
  have hsl := pH_s hP hkn
  have iX5 : ∀ w ∈ u_ws RX5 TX5 5, w ∈ wsX1_step := (by decide +kernel)
  have iX1 : ∀ w ∈ u_ws RX1 TX1 4, w ∈ wsX1_step := (by decide +kernel)
  have k44 : Cond.fieldLink RX1 44 (TX1 3).1 (TX1 3).2.1 (TX1 3).2.2.1 ∈ wsX1_step := List.mem_of_getElem? (i := 1) rfl
  have k12 : Cond.fieldLink RX1 12 (TX1 0).1 (TX1 0).2.1 (TX1 0).2.2.1 ∈ wsX1_step := List.mem_of_getElem? (i := 2) rfl
  have k74 : Cond.fieldLink RX1 74 (TX5 4).1 (TX5 4).2.1 (TX5 4).2.2.1 ∈ wsX1_step := List.mem_of_getElem? (i := 3) rfl
  refine lv_aload_n F.1 F.2.1 dX1_step_0 rfl (lv_at hl 0 rfl) ?_
  refine g_getI (ci := 1) (k := 3) F hH rfl (by decide) iX1 h1 (by decide) rfl k44 dX1_step_1 ?_
  have b_1 := gI_pr hv h1
  have b_1t := gI_tk hv (gR_pr0 hv h1).2
  refine lv_aload_n F.1 F.2.1 dX1_step_4 rfl (lv_at hl 0 rfl) ?_
  refine g_getR (ci := 1) (k := 0) F hH rfl (by decide) iX1 h1 (by decide) rfl (b := gh 22 0) (gR_pr0 hv h1).1 k12 dX1_step_5 ?_
  refine g_getI (ci := 5) (k := 4) F hH rfl (by decide) iX5 (gR_pr0 hv h1).2 (by decide) rfl k74 dX1_step_8 ?_
  have b_2 := gI_tk hv (gR_pr0 hv h1).2
  refine z_iconst F dX1_step_11 ?_
  refine z_isub F dX1_step_12 ?_
  refine z_icmp_ge (tgt := 26) F dX1_step_13 (by decide) (zr_t _) ⟨by omega, by omega⟩ (fun c_3 => ?_) (fun c_3 => ?_)
  · exact g_vret F hr hlk hH hS hz ⟨rfl, rfl, rfl, rfl, rfl, hv, fun _ _ => rfl, by first | omega | rfl | (dsimp only; omega), by first | exact pH_st hv0 h1 hqq hP (fun _ _ => rfl) hkn (by (try dsimp only); omega) | exact absurd hsl (by omega)⟩ dX1_step_26
  · refine lv_aload_n F.1 F.2.1 dX1_step_16 rfl (lv_at hl 0 rfl) ?_
    refine lv_dup F.1 F.2.1 dX1_step_17 rfl ?_
    refine g_getI (ci := 1) (k := 3) F hH rfl (by decide) iX1 h1 (by decide) rfl k44 dX1_step_18 ?_
    refine z_iconst F dX1_step_21 ?_
    refine z_iadd F dX1_step_22 ?_
    refine g_putI (ci := 1) (k := 3) F hH hS rfl (by decide) iX1 h1 (by decide) tyX1 tyX1_ok nmX1 rfl rfl rfl k44 dX1_step_23 (fun H locs hH hS => ?_)
    obtain ⟨I_4, eI_4⟩ : ∃ qQ, qQ = gup2 I a 3 (iI (((I a 3).toInt) + 1)) := ⟨_, rfl⟩
    rw [← eI_4] at hH
    have kI_4 : ∀ b, b ≠ a → I_4 b = I b := fun b hb => by rw [eI_4]; exact funext fun j => gup2_a _ _ hb
    have hv0 := hv
    have w3 : (I_4 a 3).toInt = ((I a 3).toInt) + 1 := by rw [eI_4, gup2_s]; exact iI_val ⟨by omega, by omega⟩
    have hv : gInv g gh R AR I_4 AI := by rw [eI_4]; exact gInv_here hv h1 (by omega) (by omega)
    exact g_vret F hr hlk hH hS hz ⟨rfl, rfl, rfl, rfl, rfl, hv, fun b hb => kI_4 b hb, by first | omega | rfl | (dsimp only; omega), by first | exact pH_st hv0 h1 hqq hP (fun b hb => kI_4 b hb) hkn (by (try dsimp only); omega) | exact absurd hsl (by omega)⟩ dX1_step_26

def rmX1_seeColumng : Room := { frames := 1, cells := 0, slots := 0, locals := 21 }
set_option maxHeartbeats 4000000 in
set_option maxRecDepth 100000 in
/-- a column is here -/
theorem c_X1_seeColumng (l : Launch) (g : gG) (gh : gGh) (q : Nat) (b : tTx) (n : Nat) (tl : Int) (nr : Nat) (nt : Nat → Nat) (cl : Nat → Int) (h : Nat) (I : gI) (R : gR) (J : gJ) (AI : gI) (AJ : gJ) (AR : gR) (a : Nat) (cols : Int) (zcols : zr cols) (hv : gInv g gh R AR I AI) (h1 : gO g a 1) (hh : (I a 3).toInt < (I (gh 22 0) 4).toInt) (hP : pH gh AR I J AI AJ a q b n tl nr nt cl h) : gMet l g yX1_seeColumn wsX1_seeColumn rmX1_seeColumng [.ref a, .int (iI cols)] (I, R, J, AI, AJ, AR) (gQi g (fun (z : Int) (w : gS) => I = w.1 ∧ R = w.2.1 ∧ J = w.2.2.1 ∧ AI = w.2.2.2.1 ∧ AJ = w.2.2.2.2.1 ∧ AR = w.2.2.2.2.2 ∧ (0 ≤ z ∧ z ≤ 2) ∧ (z = 0 → 0 ≤ (AI (gh 26 0) (I a 3).toInt.toNat).toInt ∧ (AI (gh 26 0) (I a 3).toInt.toNat).toInt ≤ 3) ∧ (z = pCf b n cols h))) := by
  refine gStart (cc := cX1_seeColumn) (maxL := 2) (ret := (some (.int))) (by decide) rfl (Nat.le_of_ble_eq_true rfl) ?_
  intro p e s m below meth c ls F hr hlk hH hz hS hl
  have hl : lv_has ls 2 [(0, .ref a), (1, .int (iI cols))] := hl
  have hS : va_S (gA g) s.heap s.heap [] := hS
  obtain ⟨H, hHe⟩ : ∃ H : Heap, H = s.heap := ⟨_, rfl⟩
  obtain ⟨locs, hlo⟩ : ∃ k : List Loc, k = [] := ⟨_, rfl⟩
  have hH : gH g I R J AI AJ AR H := by rw [hHe]; exact hH
  have hS : va_S (gA g) s.heap H locs := by rw [hHe, hlo]; exact hS
  suffices hw : W p l e rmX1_seeColumng s m ([.ref a, .int (iI cols)] : List Value).toArray below meth c H locs 0 0 (MQ below (gQi g (fun (z : Int) (w : gS) => I = w.1 ∧ R = w.2.1 ∧ J = w.2.2.1 ∧ AI = w.2.2.2.1 ∧ AJ = w.2.2.2.2.1 ∧ AR = w.2.2.2.2.2 ∧ (0 ≤ z ∧ z ≤ 2) ∧ (z = 0 → 0 ≤ (AI (gh 26 0) (I a 3).toInt.toNat).toInt ∧ (AI (gh 26 0) (I a 3).toInt.toNat).toInt ≤ 3) ∧ (z = pCf b n cols h))) ([.ref a, .int (iI cols)] : List Value).toArray s 0 0 (gA g)) (F0 m 0 ls []) by
    rw [hHe, hlo] at hw; exact hw
  clear hHe hlo
  have iX5 : ∀ w ∈ u_ws RX5 TX5 5, w ∈ wsX1_seeColumn := (by decide +kernel)
  have iX1 : ∀ w ∈ u_ws RX1 TX1 4, w ∈ wsX1_seeColumn := (by decide +kernel)
  have k12 : Cond.fieldLink RX1 12 (TX1 0).1 (TX1 0).2.1 (TX1 0).2.2.1 ∈ wsX1_seeColumn := List.mem_of_getElem? (i := 1) rfl
  have k71 : Cond.fieldLink RX1 71 (TX5 2).1 (TX5 2).2.1 (TX5 2).2.2.1 ∈ wsX1_seeColumn := List.mem_of_getElem? (i := 2) rfl
  have k44 : Cond.fieldLink RX1 44 (TX1 3).1 (TX1 3).2.1 (TX1 3).2.2.1 ∈ wsX1_seeColumn := List.mem_of_getElem? (i := 3) rfl
  refine lv_aload_n F.1 F.2.1 dX1_seeColumn_0 rfl (lv_at hl 0 rfl) ?_
  refine z_iconst F dX1_seeColumn_1 ?_
  refine g_calli (g_runV (As := [.int (iI 2)]) (rest := []) (ci := 1) F hl.1 hH hS hz (c_X1_isKindg l g gh q b n tl nr nt cl h I R J AI AJ AR a 2 ⟨by decide, by decide⟩ hv h1 (by first | exact hp.2.2.2.2.2.2.2 | exact hh | omega) hP) (cwV 1 F.2.2.2.2.1 gX1_seeColumn_X1_isKind rfl rfl rfl hdX1_isKind ⟨Nat.le_of_ble_eq_true rfl, Nat.le_of_ble_eq_true rfl⟩) h1 (by decide) rfl rfl rfl (Nat.le_of_ble_eq_true rfl) dX1_seeColumn_2 ⟨Nat.zero_le _, Nat.zero_le _⟩) hS (fun v_7 I_1 R_2 J_3 AI_4 AJ_5 AR_6 H locs zv_7 hp_8 hH hS => ?_)
  dsimp only at hp_8
  obtain ⟨rfl, rfl, rfl, rfl, rfl, rfl, q_9, q_10⟩ := hp_8
  refine z_if_ne (tgt := 10) F dX1_seeColumn_5 (by decide) zv_7 (fun c_11 => ?_) (fun c_11 => ?_)
  · have t_12 := tIz_1 q_10 (by omega)
    refine lv_aload_n F.1 F.2.1 dX1_seeColumn_10 rfl (lv_at hl 0 rfl) ?_
    refine g_getR (ci := 1) (k := 0) F hH rfl (by decide) iX1 h1 (by decide) rfl (b := gh 22 0) (gR_pr0 hv h1).1 k12 dX1_seeColumn_11 ?_
    obtain ⟨r_13a, r_13b⟩ := gR_tk2 hv (gR_pr0 hv h1).2
    refine g_getR (ci := 5) (k := 2) F hH rfl (by decide) iX5 (gR_pr0 hv h1).2 (by decide) rfl (b := gh 26 0) r_13a k71 dX1_seeColumn_14 ?_
    refine lv_aload_n F.1 F.2.1 dX1_seeColumn_17 rfl (lv_at hl 0 rfl) ?_
    refine g_getI (ci := 1) (k := 3) F hH rfl (by decide) iX1 h1 (by decide) rfl k44 dX1_seeColumn_18 ?_
    have b_14 := gI_pr hv h1
    have b_14t := gI_tk hv (gR_pr0 hv h1).2
    have hx21 : 0 ≤ ((I a 3).toInt) ∧ ((I a 3).toInt) < ((901 : Nat) : Int) ∧ ((I a 3).toInt) ≤ 2147483647 := ⟨by omega, by omega, by omega⟩
    refine g_iald F hH r_13b hx21.1 hx21.2.1 hx21.2.2 dX1_seeColumn_21 ?_
    refine z_name (fun v_15 ev_15 => ?_)
    have zv_15 : zr v_15 := by rw [ev_15]; exact zr_t _
    have t21 : v_15 = pV b n (h) := by rw [ev_15]; exact pH_V hP
    refine lv_iload_n F.1 F.2.1 dX1_seeColumn_22 rfl (lv_at hl 1 rfl) ?_
    refine z_icmp_lt (tgt := 30) F dX1_seeColumn_23 (by decide) zv_15 zcols (fun c_16 => ?_) (fun c_16 => ?_)
    · refine z_iconst F dX1_seeColumn_30 ?_
      exact g_iret F hr hlk hH hS hz ⟨by decide, by decide⟩ ⟨rfl, rfl, rfl, rfl, rfl, rfl, by first | omega | rfl | (dsimp only; omega), fun _ => gC_tok hv (gR_pr0 hv h1).2 (z := (I a 3).toInt) (by omega) (by omega) (by omega), by (try dsimp only); first | (rw [pCf_no (by omega)]) | (rw [pCf_big (by omega) (by omega)]) | (rw [pCf_ok (by omega) (by omega)])⟩ dX1_seeColumn_31
    · refine z_iconst F dX1_seeColumn_26 ?_
      refine z_goto (tgt := 31) F dX1_seeColumn_27 (by decide) ?_
      exact g_iret F hr hlk hH hS hz ⟨by decide, by decide⟩ ⟨rfl, rfl, rfl, rfl, rfl, rfl, by first | omega | rfl | (dsimp only; omega), fun _ => gC_tok hv (gR_pr0 hv h1).2 (z := (I a 3).toInt) (by omega) (by omega) (by omega), by (try dsimp only); first | (rw [pCf_no (by omega)]) | (rw [pCf_big (by omega) (by omega)]) | (rw [pCf_ok (by omega) (by omega)])⟩ dX1_seeColumn_31
  · have t_17 := tIz_0 q_10 (by omega)
    refine z_iconst F dX1_seeColumn_8 ?_
    exact g_iret F hr hlk hH hS hz ⟨by decide, by decide⟩ ⟨rfl, rfl, rfl, rfl, rfl, rfl, by first | omega | rfl | (dsimp only; omega), fun h => absurd h (by omega), by (try dsimp only); first | (rw [pCf_no (by omega)]) | (rw [pCf_big (by omega) (by omega)]) | (rw [pCf_ok (by omega) (by omega)])⟩ dX1_seeColumn_9

def rmX1_takeKindg : Room := { frames := 1, cells := 0, slots := 0, locals := 21 }
set_option maxHeartbeats 4000000 in
set_option maxRecDepth 100000 in
/-- takes a kind -/
theorem c_X1_takeKindg (l : Launch) (g : gG) (gh : gGh) (q ln : Nat) (b : tTx) (n : Nat) (tl : Int) (nr : Nat) (nt : Nat → Nat) (cl : Nat → Int) (h : Nat) (I : gI) (R : gR) (J : gJ) (AI : gI) (AJ : gJ) (AR : gR) (a : Nat) (kd : Int) (zkd : zr kd) (hv : gInv g gh R AR I AI) (hp : pS g gh R I a q ln) (hP : pH gh AR I J AI AJ a q b n tl nr nt cl h) (hk0 : kd ≠ 0) : gMet l g yX1_takeKind wsX1_takeKind rmX1_takeKindg [.ref a, .int (iI kd)] (I, R, J, AI, AJ, AR) (gQi g (fun (z : Int) (w : gS) => R = w.2.1 ∧ J = w.2.2.1 ∧ AI = w.2.2.2.1 ∧ AJ = w.2.2.2.2.1 ∧ AR = w.2.2.2.2.2 ∧ (gInv g gh R AR (w.1) AI) ∧ (pS g gh R (w.1) a q ln) ∧ (pF a ln I (w.1)) ∧ ((w.1) ln = I ln) ∧ (z = 0 ∨ z = 1) ∧ (z = (sTk b n kd h).1) ∧ (pH gh AR (w.1) J AI AJ a q b n tl nr nt cl (sTk b n kd h).2.1))) := by
  refine gStart (cc := cX1_takeKind) (maxL := 2) (ret := (some (.int))) (by decide) rfl (Nat.le_of_ble_eq_true rfl) ?_
  intro p e s m below meth c ls F hr hlk hH hz hS hl
  have hl : lv_has ls 2 [(0, .ref a), (1, .int (iI kd))] := hl
  have hS : va_S (gA g) s.heap s.heap [] := hS
  obtain ⟨H, hHe⟩ : ∃ H : Heap, H = s.heap := ⟨_, rfl⟩
  obtain ⟨locs, hlo⟩ : ∃ k : List Loc, k = [] := ⟨_, rfl⟩
  have hH : gH g I R J AI AJ AR H := by rw [hHe]; exact hH
  have hS : va_S (gA g) s.heap H locs := by rw [hHe, hlo]; exact hS
  suffices hw : W p l e rmX1_takeKindg s m ([.ref a, .int (iI kd)] : List Value).toArray below meth c H locs 0 0 (MQ below (gQi g (fun (z : Int) (w : gS) => R = w.2.1 ∧ J = w.2.2.1 ∧ AI = w.2.2.2.1 ∧ AJ = w.2.2.2.2.1 ∧ AR = w.2.2.2.2.2 ∧ (gInv g gh R AR (w.1) AI) ∧ (pS g gh R (w.1) a q ln) ∧ (pF a ln I (w.1)) ∧ ((w.1) ln = I ln) ∧ (z = 0 ∨ z = 1) ∧ (z = (sTk b n kd h).1) ∧ (pH gh AR (w.1) J AI AJ a q b n tl nr nt cl (sTk b n kd h).2.1))) ([.ref a, .int (iI kd)] : List Value).toArray s 0 0 (gA g)) (F0 m 0 ls []) by
    rw [hHe, hlo] at hw; exact hw
  clear hHe hlo
  have pf : pF a ln I I := pF_r
  refine lv_aload_n F.1 F.2.1 dX1_takeKind_0 rfl (lv_at hl 0 rfl) ?_
  refine lv_iload_n F.1 F.2.1 dX1_takeKind_1 rfl (lv_at hl 1 rfl) ?_
  refine g_calli (g_runV (As := [.int (iI kd)]) (rest := []) (ci := 1) F hl.1 hH hS hz (c_X1_isKindg l g gh q b n tl nr nt cl h I R J AI AJ AR a kd zkd hv hp.1 (by first | exact hp.2.2.2.2.2.2.2 | exact hh | omega) hP) (cwV 1 F.2.2.2.2.1 gX1_takeKind_X1_isKind rfl rfl rfl hdX1_isKind ⟨Nat.le_of_ble_eq_true rfl, Nat.le_of_ble_eq_true rfl⟩) hp.1 (by decide) rfl rfl rfl (Nat.le_of_ble_eq_true rfl) dX1_takeKind_2 ⟨Nat.zero_le _, Nat.zero_le _⟩) hS (fun v_7 I_1 R_2 J_3 AI_4 AJ_5 AR_6 H locs zv_7 hp_8 hH hS => ?_)
  dsimp only at hp_8
  obtain ⟨rfl, rfl, rfl, rfl, rfl, rfl, q_9, q_10⟩ := hp_8
  refine z_if_ne (tgt := 10) F dX1_takeKind_5 (by decide) zv_7 (fun c_11 => ?_) (fun c_11 => ?_)
  · have t_12 := tIz_1 q_10 (by omega)
    refine lv_aload_n F.1 F.2.1 dX1_takeKind_10 rfl (lv_at hl 0 rfl) ?_
    have hv0 := hv
    refine g_callv (g_runV (As := []) (rest := []) (ci := 1) F hl.1 hH hS hz (c_X1_stepg l g gh q b n tl nr nt cl h I R J AI AJ AR a hv hp.1 (by first | exact hp.2.2.2.2.2.2.2 | exact hh | omega) hP (by first | exact hp.2.2.1 | exact hq) (by omega)) (cwV 0 F.2.2.2.2.1 gX1_takeKind_X1_step rfl rfl rfl hdX1_step ⟨Nat.le_of_ble_eq_true rfl, Nat.le_of_ble_eq_true rfl⟩) hp.1 (by decide) rfl rfl rfl (Nat.le_of_ble_eq_true rfl) dX1_takeKind_11 ⟨Nat.zero_le _, Nat.zero_le _⟩) hS (fun I_13 R_14 J_15 AI_16 AJ_17 AR_18 H locs hp_19 hH hS => ?_)
    dsimp only at hp_19
    obtain ⟨rfl, rfl, rfl, rfl, rfl, hv, fs, hs, hP⟩ := hp_19
    have hP : pH gh AR I_13 J AI AJ a q b n tl nr nt cl (h + 1) := hP
    obtain ⟨hp, pfq, fls⟩ := pS_step hv0 hp fs hs
    have pf := pF_t pf pfq
    have u_20q : (I_13 q 1).toInt = (I q 1).toInt := by rw [pF_q hp pfq]
    have u_20_0 : (I_13 ln 0).toInt = (I ln 0).toInt := by rw [fls]
    have u_20_8 : (I_13 ln 8).toInt = (I ln 8).toInt := by rw [fls]
    have u_21 : (I_13 ln 2).toInt = (I ln 2).toInt := by rw [fls]
    have u_22 : (I_13 ln 3).toInt = (I ln 3).toInt := by rw [fls]
    have u_23 : (I_13 ln 4).toInt = (I ln 4).toInt := by rw [fls]
    have u_24 : (I_13 ln 5).toInt = (I ln 5).toInt := by rw [fls]
    have u_25 : (I_13 ln 6).toInt = (I ln 6).toInt := by rw [fls]
    have u_26 : (I_13 ln 9).toInt = (I ln 9).toInt := by rw [fls]
    have u_27 : (I_13 ln 10).toInt = (I ln 10).toInt := by rw [fls]
    have u_28 : (I_13 ln 11).toInt = (I ln 11).toInt := by rw [fls]
    have u_29 : (I_13 ln 12).toInt = (I ln 12).toInt := by rw [fls]
    refine z_iconst F dX1_takeKind_14 ?_
    have hfin : sTk b n kd h = (0, h + 1, 0) := by
      unfold sTk
      repeat (first | with_reducible rfl | refine ite_y (by omega) ?_ | refine ite_n (by omega) ?_ | exact pr_e (by omega) (by omega) (by omega))
    exact g_iret F hr hlk hH hS hz ⟨by decide, by decide⟩ ⟨rfl, rfl, rfl, rfl, rfl, hv, hp, pf, fls, by first | omega | rfl | (dsimp only; omega), by (try dsimp only); rw [hfin]; first | done | omega | rfl, by (try dsimp only); rw [hfin]; exact hP⟩ dX1_takeKind_15
  · have t_30 := tIz_0 q_10 (by omega)
    refine z_iconst F dX1_takeKind_8 ?_
    have hfin : sTk b n kd h = (1, h, 0) := by
      unfold sTk
      repeat (first | with_reducible rfl | refine ite_y (by omega) ?_ | refine ite_n (by omega) ?_ | exact pr_e (by omega) (by omega) (by omega))
    exact g_iret F hr hlk hH hS hz ⟨by decide, by decide⟩ ⟨rfl, rfl, rfl, rfl, rfl, hv, hp, pf, rfl, by first | omega | rfl | (dsimp only; omega), by (try dsimp only); rw [hfin]; first | done | omega | rfl, by (try dsimp only); rw [hfin]; exact hP⟩ dX1_takeKind_9

def rmX1_takeWordg : Room := { frames := 2, cells := 0, slots := 0, locals := 42 }
set_option maxHeartbeats 4000000 in
set_option maxRecDepth 100000 in
/-- takes a word -/
theorem c_X1_takeWordg (l : Launch) (g : gG) (gh : gGh) (q ln : Nat) (b : tTx) (n : Nat) (tl : Int) (nr : Nat) (nt : Nat → Nat) (cl : Nat → Int) (h : Nat) (I : gI) (R : gR) (J : gJ) (AI : gI) (AJ : gJ) (AR : gR) (a : Nat) (wn : Int) (zwn : zr wn) (hv : gInv g gh R AR I AI) (hp : pS g gh R I a q ln) (hP : pH gh AR I J AI AJ a q b n tl nr nt cl h) : gMet l g yX1_takeWord wsX1_takeWord rmX1_takeWordg [.ref a, .int (iI wn)] (I, R, J, AI, AJ, AR) (gQi g (fun (z : Int) (w : gS) => R = w.2.1 ∧ J = w.2.2.1 ∧ AI = w.2.2.2.1 ∧ AJ = w.2.2.2.2.1 ∧ AR = w.2.2.2.2.2 ∧ (gInv g gh R AR (w.1) AI) ∧ (pS g gh R (w.1) a q ln) ∧ (pF a ln I (w.1)) ∧ ((w.1) ln = I ln) ∧ (z = 0 ∨ z = 1) ∧ (z = (sTw b n wn h).1) ∧ (pH gh AR (w.1) J AI AJ a q b n tl nr nt cl (sTw b n wn h).2.1))) := by
  refine gStart (cc := cX1_takeWord) (maxL := 2) (ret := (some (.int))) (by decide) rfl (Nat.le_of_ble_eq_true rfl) ?_
  intro p e s m below meth c ls F hr hlk hH hz hS hl
  have hl : lv_has ls 2 [(0, .ref a), (1, .int (iI wn))] := hl
  have hS : va_S (gA g) s.heap s.heap [] := hS
  obtain ⟨H, hHe⟩ : ∃ H : Heap, H = s.heap := ⟨_, rfl⟩
  obtain ⟨locs, hlo⟩ : ∃ k : List Loc, k = [] := ⟨_, rfl⟩
  have hH : gH g I R J AI AJ AR H := by rw [hHe]; exact hH
  have hS : va_S (gA g) s.heap H locs := by rw [hHe, hlo]; exact hS
  suffices hw : W p l e rmX1_takeWordg s m ([.ref a, .int (iI wn)] : List Value).toArray below meth c H locs 0 0 (MQ below (gQi g (fun (z : Int) (w : gS) => R = w.2.1 ∧ J = w.2.2.1 ∧ AI = w.2.2.2.1 ∧ AJ = w.2.2.2.2.1 ∧ AR = w.2.2.2.2.2 ∧ (gInv g gh R AR (w.1) AI) ∧ (pS g gh R (w.1) a q ln) ∧ (pF a ln I (w.1)) ∧ ((w.1) ln = I ln) ∧ (z = 0 ∨ z = 1) ∧ (z = (sTw b n wn h).1) ∧ (pH gh AR (w.1) J AI AJ a q b n tl nr nt cl (sTw b n wn h).2.1))) ([.ref a, .int (iI wn)] : List Value).toArray s 0 0 (gA g)) (F0 m 0 ls []) by
    rw [hHe, hlo] at hw; exact hw
  clear hHe hlo
  have pf : pF a ln I I := pF_r
  refine lv_aload_n F.1 F.2.1 dX1_takeWord_0 rfl (lv_at hl 0 rfl) ?_
  refine lv_iload_n F.1 F.2.1 dX1_takeWord_1 rfl (lv_at hl 1 rfl) ?_
  refine g_calli (g_runV (As := [.int (iI wn)]) (rest := []) (ci := 1) F hl.1 hH hS hz (c_X1_isWordg l g gh q b n tl nr nt cl h I R J AI AJ AR a wn zwn hv hp.1 (by first | exact hp.2.2.2.2.2.2.2 | exact hh | omega) hP) (cwV 1 F.2.2.2.2.1 gX1_takeWord_X1_isWord rfl rfl rfl hdX1_isWord ⟨Nat.le_of_ble_eq_true rfl, Nat.le_of_ble_eq_true rfl⟩) hp.1 (by decide) rfl rfl rfl (Nat.le_of_ble_eq_true rfl) dX1_takeWord_2 ⟨Nat.zero_le _, Nat.zero_le _⟩) hS (fun v_7 I_1 R_2 J_3 AI_4 AJ_5 AR_6 H locs zv_7 hp_8 hH hS => ?_)
  dsimp only at hp_8
  obtain ⟨rfl, rfl, rfl, rfl, rfl, rfl, q_9, q_10⟩ := hp_8
  refine z_if_ne (tgt := 10) F dX1_takeWord_5 (by decide) zv_7 (fun c_11 => ?_) (fun c_11 => ?_)
  · have t_12 := tIz_1 q_10 (by omega)
    refine lv_aload_n F.1 F.2.1 dX1_takeWord_10 rfl (lv_at hl 0 rfl) ?_
    have hv0 := hv
    refine g_callv (g_runV (As := []) (rest := []) (ci := 1) F hl.1 hH hS hz (c_X1_stepg l g gh q b n tl nr nt cl h I R J AI AJ AR a hv hp.1 (by first | exact hp.2.2.2.2.2.2.2 | exact hh | omega) hP (by first | exact hp.2.2.1 | exact hq) (by omega)) (cwV 0 F.2.2.2.2.1 gX1_takeWord_X1_step rfl rfl rfl hdX1_step ⟨Nat.le_of_ble_eq_true rfl, Nat.le_of_ble_eq_true rfl⟩) hp.1 (by decide) rfl rfl rfl (Nat.le_of_ble_eq_true rfl) dX1_takeWord_11 ⟨Nat.zero_le _, Nat.zero_le _⟩) hS (fun I_13 R_14 J_15 AI_16 AJ_17 AR_18 H locs hp_19 hH hS => ?_)
    dsimp only at hp_19
    obtain ⟨rfl, rfl, rfl, rfl, rfl, hv, fs, hs, hP⟩ := hp_19
    have hP : pH gh AR I_13 J AI AJ a q b n tl nr nt cl (h + 1) := hP
    obtain ⟨hp, pfq, fls⟩ := pS_step hv0 hp fs hs
    have pf := pF_t pf pfq
    have u_20q : (I_13 q 1).toInt = (I q 1).toInt := by rw [pF_q hp pfq]
    have u_20_0 : (I_13 ln 0).toInt = (I ln 0).toInt := by rw [fls]
    have u_20_8 : (I_13 ln 8).toInt = (I ln 8).toInt := by rw [fls]
    have u_21 : (I_13 ln 2).toInt = (I ln 2).toInt := by rw [fls]
    have u_22 : (I_13 ln 3).toInt = (I ln 3).toInt := by rw [fls]
    have u_23 : (I_13 ln 4).toInt = (I ln 4).toInt := by rw [fls]
    have u_24 : (I_13 ln 5).toInt = (I ln 5).toInt := by rw [fls]
    have u_25 : (I_13 ln 6).toInt = (I ln 6).toInt := by rw [fls]
    have u_26 : (I_13 ln 9).toInt = (I ln 9).toInt := by rw [fls]
    have u_27 : (I_13 ln 10).toInt = (I ln 10).toInt := by rw [fls]
    have u_28 : (I_13 ln 11).toInt = (I ln 11).toInt := by rw [fls]
    have u_29 : (I_13 ln 12).toInt = (I ln 12).toInt := by rw [fls]
    refine z_iconst F dX1_takeWord_14 ?_
    have hfin : sTw b n wn h = (0, h + 1, 0) := by
      unfold sTw
      repeat (first | with_reducible rfl | refine ite_y (by omega) ?_ | refine ite_n (by omega) ?_ | exact pr_e (by omega) (by omega) (by omega))
    exact g_iret F hr hlk hH hS hz ⟨by decide, by decide⟩ ⟨rfl, rfl, rfl, rfl, rfl, hv, hp, pf, fls, by first | omega | rfl | (dsimp only; omega), by (try dsimp only); rw [hfin]; first | done | omega | rfl, by (try dsimp only); rw [hfin]; exact hP⟩ dX1_takeWord_15
  · have t_30 := tIz_0 q_10 (by omega)
    refine z_iconst F dX1_takeWord_8 ?_
    have hfin : sTw b n wn h = (1, h, 0) := by
      unfold sTw
      repeat (first | with_reducible rfl | refine ite_y (by omega) ?_ | refine ite_n (by omega) ?_ | exact pr_e (by omega) (by omega) (by omega))
    exact g_iret F hr hlk hH hS hz ⟨by decide, by decide⟩ ⟨rfl, rfl, rfl, rfl, rfl, hv, hp, pf, rfl, by first | omega | rfl | (dsimp only; omega), by (try dsimp only); rw [hfin]; first | done | omega | rfl, by (try dsimp only); rw [hfin]; exact hP⟩ dX1_takeWord_9

def rmX1_seeRelationg : Room := { frames := 2, cells := 0, slots := 0, locals := 42 }
set_option maxHeartbeats 4000000 in
set_option maxRecDepth 100000 in
/-- a relation is here -/
theorem c_X1_seeRelationg (l : Launch) (g : gG) (gh : gGh) (q ln : Nat) (b : tTx) (n : Nat) (tl : Int) (nr : Nat) (nt : Nat → Nat) (cl : Nat → Int) (h : Nat) (I : gI) (R : gR) (J : gJ) (AI : gI) (AJ : gJ) (AR : gR) (a : Nat) (hv : gInv g gh R AR I AI) (hp : pS g gh R I a q ln) (hP : pH gh AR I J AI AJ a q b n tl nr nt cl h) : gMet l g yX1_seeRelation wsX1_seeRelation rmX1_seeRelationg [.ref a] (I, R, J, AI, AJ, AR) (gQi g (fun (z : Int) (w : gS) => I = w.1 ∧ R = w.2.1 ∧ J = w.2.2.1 ∧ AI = w.2.2.2.1 ∧ AJ = w.2.2.2.2.1 ∧ AR = w.2.2.2.2.2 ∧ (0 ≤ z ∧ z ≤ 3) ∧ (z = 0 → ∃ (j : Nat) (b : Nat), (j : Int) < (I q 1).toInt ∧ AR (gh 6 q) j = some b ∧ J b 1 = AJ (gh 27 0) (I a 3).toInt.toNat) ∧ (z = pRf b n nt nr h))) := by
  refine gStart (cc := cX1_seeRelation) (maxL := 1) (ret := (some (.int))) (by decide) rfl (Nat.le_of_ble_eq_true rfl) ?_
  intro p e s m below meth c ls F hr hlk hH hz hS hl
  have hl : lv_has ls 1 [(0, .ref a)] := hl
  have hS : va_S (gA g) s.heap s.heap [] := hS
  obtain ⟨H, hHe⟩ : ∃ H : Heap, H = s.heap := ⟨_, rfl⟩
  obtain ⟨locs, hlo⟩ : ∃ k : List Loc, k = [] := ⟨_, rfl⟩
  have hH : gH g I R J AI AJ AR H := by rw [hHe]; exact hH
  have hS : va_S (gA g) s.heap H locs := by rw [hHe, hlo]; exact hS
  suffices hw : W p l e rmX1_seeRelationg s m ([.ref a] : List Value).toArray below meth c H locs 0 0 (MQ below (gQi g (fun (z : Int) (w : gS) => I = w.1 ∧ R = w.2.1 ∧ J = w.2.2.1 ∧ AI = w.2.2.2.1 ∧ AJ = w.2.2.2.2.1 ∧ AR = w.2.2.2.2.2 ∧ (0 ≤ z ∧ z ≤ 3) ∧ (z = 0 → ∃ (j : Nat) (b : Nat), (j : Int) < (I q 1).toInt ∧ AR (gh 6 q) j = some b ∧ J b 1 = AJ (gh 27 0) (I a 3).toInt.toNat) ∧ (z = pRf b n nt nr h))) ([.ref a] : List Value).toArray s 0 0 (gA g)) (F0 m 0 ls []) by
    rw [hHe, hlo] at hw; exact hw
  clear hHe hlo
  have iX5 : ∀ w ∈ u_ws RX5 TX5 5, w ∈ wsX1_seeRelation := (by decide +kernel)
  have iX1 : ∀ w ∈ u_ws RX1 TX1 4, w ∈ wsX1_seeRelation := (by decide +kernel)
  have k21 : Cond.fieldLink RX1 21 (TX1 1).1 (TX1 1).2.1 (TX1 1).2.2.1 ∈ wsX1_seeRelation := List.mem_of_getElem? (i := 1) rfl
  have k12 : Cond.fieldLink RX1 12 (TX1 0).1 (TX1 0).2.1 (TX1 0).2.2.1 ∈ wsX1_seeRelation := List.mem_of_getElem? (i := 2) rfl
  have k93 : Cond.fieldLink RX1 93 (TX5 3).1 (TX5 3).2.1 (TX5 3).2.2.1 ∈ wsX1_seeRelation := List.mem_of_getElem? (i := 3) rfl
  have k44 : Cond.fieldLink RX1 44 (TX1 3).1 (TX1 3).2.1 (TX1 3).2.2.1 ∈ wsX1_seeRelation := List.mem_of_getElem? (i := 4) rfl
  refine lv_aload_n F.1 F.2.1 dX1_seeRelation_0 rfl (lv_at hl 0 rfl) ?_
  refine z_iconst F dX1_seeRelation_1 ?_
  refine g_calli (g_runV (As := [.int (iI ((-1)))]) (rest := []) (ci := 1) F hl.1 hH hS hz (c_X1_isWordg l g gh q b n tl nr nt cl h I R J AI AJ AR a (-1) ⟨by decide, by decide⟩ hv hp.1 (by first | exact hp.2.2.2.2.2.2.2 | exact hh | omega) hP) (cwV 1 F.2.2.2.2.1 gX1_seeRelation_X1_isWord rfl rfl rfl hdX1_isWord ⟨Nat.le_of_ble_eq_true rfl, Nat.le_of_ble_eq_true rfl⟩) hp.1 (by decide) rfl rfl rfl (Nat.le_of_ble_eq_true rfl) dX1_seeRelation_2 ⟨Nat.zero_le _, Nat.zero_le _⟩) hS (fun v_7 I_1 R_2 J_3 AI_4 AJ_5 AR_6 H locs zv_7 hp_8 hH hS => ?_)
  dsimp only at hp_8
  obtain ⟨rfl, rfl, rfl, rfl, rfl, rfl, q_9, q_10⟩ := hp_8
  refine z_if_ne (tgt := 10) F dX1_seeRelation_5 (by decide) zv_7 (fun c_11 => ?_) (fun c_11 => ?_)
  · have t_12 := tIz_1 q_10 (by omega)
    refine lv_aload_n F.1 F.2.1 dX1_seeRelation_10 rfl (lv_at hl 0 rfl) ?_
    refine g_getR (ci := 1) (k := 1) F hH rfl (by decide) iX1 hp.1 (by decide) rfl (b := q) hp.2.1 k21 dX1_seeRelation_11 ?_
    refine lv_aload_n F.1 F.2.1 dX1_seeRelation_14 rfl (lv_at hl 0 rfl) ?_
    refine g_getR (ci := 1) (k := 0) F hH rfl (by decide) iX1 hp.1 (by decide) rfl (b := gh 22 0) (gR_pr0 hv hp.1).1 k12 dX1_seeRelation_15 ?_
    obtain ⟨r_13a, r_13b⟩ := gR_tk3 hv (gR_pr0 hv hp.1).2
    refine g_getR (ci := 5) (k := 3) F hH rfl (by decide) iX5 (gR_pr0 hv hp.1).2 (by decide) rfl (b := gh 27 0) r_13a k93 dX1_seeRelation_18 ?_
    refine lv_aload_n F.1 F.2.1 dX1_seeRelation_21 rfl (lv_at hl 0 rfl) ?_
    refine g_getI (ci := 1) (k := 3) F hH rfl (by decide) iX1 hp.1 (by decide) rfl k44 dX1_seeRelation_22 ?_
    have b_14h := hp.2.2.2.2.2.2.2
    have b_14 := gI_pr hv hp.1
    have b_14t := gI_tk hv (gR_pr0 hv hp.1).2
    have hx25 : 0 ≤ ((I a 3).toInt) ∧ ((I a 3).toInt) < ((901 : Nat) : Int) ∧ ((I a 3).toInt) ≤ 2147483647 := ⟨by omega, by omega, by omega⟩
    refine g_lald F hH r_13b hx25.1 hx25.2.1 hx25.2.2 dX1_seeRelation_25 ?_
    refine lv_topl (fun j_15 ej_15 => ?_)
    have ejn := ej_15
    have b_16 := gI_plan hv hp.2.2.1
    refine g_calli (g_runV (As := [.long j_15]) (rest := []) (ci := 2) F hl.1 hH hS hz (c_X2_relationOf l g gh I R J AI AJ AR q j_15 hv hp.2.2.1) (cwV 1 F.2.2.2.2.1 gX1_seeRelation_X2_relationOf rfl rfl rfl hdX2_relationOf ⟨Nat.le_of_ble_eq_true rfl, Nat.le_of_ble_eq_true rfl⟩) hp.2.2.1 (by decide) rfl rfl rfl (Nat.le_of_ble_eq_true rfl) dX1_seeRelation_26 ⟨Nat.zero_le _, Nat.zero_le _⟩) hS (fun v_23 I_17 R_18 J_19 AI_20 AJ_21 AR_22 H locs zv_23 hp_24 hH hS => ?_)
    dsimp only at hp_24
    obtain ⟨rfl, rfl, rfl, rfl, rfl, rfl, qr⟩ := hp_24
    have hfd := pH_fd hv hp.2.2.1 hP ejn qr
    refine z_iconst F dX1_seeRelation_29 ?_
    refine z_icmp_ne (tgt := 37) F dX1_seeRelation_30 (by decide) zv_23 ⟨by decide, by decide⟩ (fun c_25 => ?_) (fun c_25 => ?_)
    · refine z_iconst F dX1_seeRelation_37 ?_
      exact g_iret F hr hlk hH hS hz ⟨by decide, by decide⟩ ⟨rfl, rfl, rfl, rfl, rfl, rfl, by first | omega | rfl | (dsimp only; omega), fun h0 => by
        rcases qr with ⟨h, _⟩ | ⟨h1, h2, b, h3, h4⟩
        · exact absurd h (by omega)
        · exact ⟨_, b, by omega, h3, h4.trans ejn⟩, by (try dsimp only); first | (rw [pRf_1 (by omega)]) | (rw [pRf_3 (by omega) (by omega)]) | (rw [pRf_0 (by omega) (by omega)])⟩ dX1_seeRelation_38
    · refine z_iconst F dX1_seeRelation_33 ?_
      refine z_goto (tgt := 38) F dX1_seeRelation_34 (by decide) ?_
      exact g_iret F hr hlk hH hS hz ⟨by decide, by decide⟩ ⟨rfl, rfl, rfl, rfl, rfl, rfl, by first | omega | rfl | (dsimp only; omega), fun h0 => by
        rcases qr with ⟨h, _⟩ | ⟨h1, h2, b, h3, h4⟩
        · exact absurd h (by omega)
        · exact ⟨_, b, by omega, h3, h4.trans ejn⟩, by (try dsimp only); first | (rw [pRf_1 (by omega)]) | (rw [pRf_3 (by omega) (by omega)]) | (rw [pRf_0 (by omega) (by omega)])⟩ dX1_seeRelation_38
  · have t_26 := tIz_0 q_10 (by omega)
    refine z_iconst F dX1_seeRelation_8 ?_
    exact g_iret F hr hlk hH hS hz ⟨by decide, by decide⟩ ⟨rfl, rfl, rfl, rfl, rfl, rfl, by first | omega | rfl | (dsimp only; omega), fun h => absurd h (by omega), by (try dsimp only); first | (rw [pRf_1 (by omega)]) | (rw [pRf_3 (by omega) (by omega)]) | (rw [pRf_0 (by omega) (by omega)])⟩ dX1_seeRelation_9

def rmX1_readFirstg : Room := { frames := 3, cells := 0, slots := 0, locals := 62 }
set_option maxHeartbeats 4000000 in
set_option maxRecDepth 100000 in
/-- the first relation -/
theorem c_X1_readFirstg (l : Launch) (g : gG) (gh : gGh) (q ln : Nat) (b : tTx) (n : Nat) (tl : Int) (nr : Nat) (nt : Nat → Nat) (cl : Nat → Int) (h : Nat) (I : gI) (R : gR) (J : gJ) (AI : gI) (AJ : gJ) (AR : gR) (a : Nat) (hv : gInv g gh R AR I AI) (hp : pS g gh R I a q ln) (hk0 : (I ln 0).toInt ≠ 0) (hP : pH gh AR I J AI AJ a q b n tl nr nt cl h) : gMet l g yX1_readFirst wsX1_readFirst rmX1_readFirstg [.ref a] (I, R, J, AI, AJ, AR) (gQi g (fun (z : Int) (w : gS) => R = w.2.1 ∧ J = w.2.2.1 ∧ AI = w.2.2.2.1 ∧ AJ = w.2.2.2.2.1 ∧ AR = w.2.2.2.2.2 ∧ (gInv g gh R AR (w.1) AI) ∧ (pS g gh R (w.1) a q ln) ∧ (pF a ln I (w.1)) ∧ (((w.1) ln 8).toInt = (I ln 8).toInt) ∧ (0 ≤ z ∧ z ≤ 3) ∧ (z = (sRl b n nr nt cl h).1) ∧ (pH gh AR (w.1) J AI AJ a q b n tl nr nt cl (sRl b n nr nt cl h).2.1) ∧ (((w.1) ln 2).toInt = (I ln 2).toInt ∧ ((w.1) ln 6).toInt = (I ln 6).toInt ∧ ((w.1) ln 8).toInt = (I ln 8).toInt ∧ ((w.1) ln 4).toInt = (I ln 4).toInt ∧ ((w.1) ln 9).toInt = (I ln 9).toInt ∧ ((w.1) ln 10).toInt = (I ln 10).toInt ∧ ((w.1) ln 11).toInt = (I ln 11).toInt ∧ ((w.1) ln 12).toInt = (I ln 12).toInt) ∧ (pIm z (((w.1) ln 5).toInt) ((sRl b n nr nt cl h).2.2)) ∧ (zIf z (((w.1) ln 3).toInt = pFd b n nt nr h)))) := by
  refine gStart (cc := cX1_readFirst) (maxL := 2) (ret := (some (.int))) (by decide) rfl (Nat.le_of_ble_eq_true rfl) ?_
  intro p e s m below meth c ls F hr hlk hH hz hS hl
  have hl : lv_has ls 2 [(0, .ref a)] := hl
  have hS : va_S (gA g) s.heap s.heap [] := hS
  obtain ⟨H, hHe⟩ : ∃ H : Heap, H = s.heap := ⟨_, rfl⟩
  obtain ⟨locs, hlo⟩ : ∃ k : List Loc, k = [] := ⟨_, rfl⟩
  have hH : gH g I R J AI AJ AR H := by rw [hHe]; exact hH
  have hS : va_S (gA g) s.heap H locs := by rw [hHe, hlo]; exact hS
  suffices hw : W p l e rmX1_readFirstg s m ([.ref a] : List Value).toArray below meth c H locs 0 0 (MQ below (gQi g (fun (z : Int) (w : gS) => R = w.2.1 ∧ J = w.2.2.1 ∧ AI = w.2.2.2.1 ∧ AJ = w.2.2.2.2.1 ∧ AR = w.2.2.2.2.2 ∧ (gInv g gh R AR (w.1) AI) ∧ (pS g gh R (w.1) a q ln) ∧ (pF a ln I (w.1)) ∧ (((w.1) ln 8).toInt = (I ln 8).toInt) ∧ (0 ≤ z ∧ z ≤ 3) ∧ (z = (sRl b n nr nt cl h).1) ∧ (pH gh AR (w.1) J AI AJ a q b n tl nr nt cl (sRl b n nr nt cl h).2.1) ∧ (((w.1) ln 2).toInt = (I ln 2).toInt ∧ ((w.1) ln 6).toInt = (I ln 6).toInt ∧ ((w.1) ln 8).toInt = (I ln 8).toInt ∧ ((w.1) ln 4).toInt = (I ln 4).toInt ∧ ((w.1) ln 9).toInt = (I ln 9).toInt ∧ ((w.1) ln 10).toInt = (I ln 10).toInt ∧ ((w.1) ln 11).toInt = (I ln 11).toInt ∧ ((w.1) ln 12).toInt = (I ln 12).toInt) ∧ (pIm z (((w.1) ln 5).toInt) ((sRl b n nr nt cl h).2.2)) ∧ (zIf z (((w.1) ln 3).toInt = pFd b n nt nr h)))) ([.ref a] : List Value).toArray s 0 0 (gA g)) (F0 m 0 ls []) by
    rw [hHe, hlo] at hw; exact hw
  clear hHe hlo
  have pf : pF a ln I I := pF_r
  have iX5 : ∀ w ∈ u_ws RX5 TX5 5, w ∈ wsX1_readFirst := (by decide +kernel)
  have iX2 : ∀ w ∈ u_ws RX2 TX2 3, w ∈ wsX1_readFirst := (by decide +kernel)
  have iX1 : ∀ w ∈ u_ws RX1 TX1 4, w ∈ wsX1_readFirst := (by decide +kernel)
  have iX0 : ∀ w ∈ u_ws RX0 TX0 15, w ∈ wsX1_readFirst := (by decide +kernel)
  have k29 : Cond.fieldLink RX1 29 (TX1 2).1 (TX1 2).2.1 (TX1 2).2.2.1 ∈ wsX1_readFirst := List.mem_of_getElem? (i := 1) rfl
  have k21 : Cond.fieldLink RX1 21 (TX1 1).1 (TX1 1).2.1 (TX1 1).2.2.1 ∈ wsX1_readFirst := List.mem_of_getElem? (i := 2) rfl
  have k12 : Cond.fieldLink RX1 12 (TX1 0).1 (TX1 0).2.1 (TX1 0).2.2.1 ∈ wsX1_readFirst := List.mem_of_getElem? (i := 3) rfl
  have k93 : Cond.fieldLink RX1 93 (TX5 3).1 (TX5 3).2.1 (TX5 3).2.2.1 ∈ wsX1_readFirst := List.mem_of_getElem? (i := 4) rfl
  have k44 : Cond.fieldLink RX1 44 (TX1 3).1 (TX1 3).2.1 (TX1 3).2.2.1 ∈ wsX1_readFirst := List.mem_of_getElem? (i := 5) rfl
  have k155 : Cond.fieldLink RX1 155 (TX0 3).1 (TX0 3).2.1 (TX0 3).2.2.1 ∈ wsX1_readFirst := List.mem_of_getElem? (i := 6) rfl
  have k25 : Cond.fieldLink RX1 25 (TX2 0).1 (TX2 0).2.1 (TX2 0).2.2.1 ∈ wsX1_readFirst := List.mem_of_getElem? (i := 7) rfl
  have k136 : Cond.fieldLink RX1 136 (TX0 2).1 (TX0 2).2.1 (TX0 2).2.2.1 ∈ wsX1_readFirst := List.mem_of_getElem? (i := 8) rfl
  have k143 : Cond.fieldLink RX1 143 (TX0 5).1 (TX0 5).2.1 (TX0 5).2.2.1 ∈ wsX1_readFirst := List.mem_of_getElem? (i := 9) rfl
  refine lv_aload_n F.1 F.2.1 dX1_readFirst_0 rfl (lv_at hl 0 rfl) ?_
  refine g_calli (g_runV (As := []) (rest := []) (ci := 1) F hl.1 hH hS hz (c_X1_seeRelationg l g gh q ln b n tl nr nt cl h I R J AI AJ AR a hv hp hP) (cwV 0 F.2.2.2.2.1 gX1_readFirst_X1_seeRelation rfl rfl rfl hdX1_seeRelation ⟨Nat.le_of_ble_eq_true rfl, Nat.le_of_ble_eq_true rfl⟩) hp.1 (by decide) rfl rfl rfl (Nat.le_of_ble_eq_true rfl) dX1_readFirst_1 ⟨Nat.zero_le _, Nat.zero_le _⟩) hS (fun v_7 I_1 R_2 J_3 AI_4 AJ_5 AR_6 H locs zv_7 hp_8 hH hS => ?_)
  dsimp only at hp_8
  obtain ⟨rfl, rfl, rfl, rfl, rfl, rfl, qz, qs, qf⟩ := hp_8
  refine lv_istore_n (lv' := [(1, .int (iI v_7)), (0, .ref a)]) F.1 F.2.1 dX1_readFirst_4 rfl hl (by decide) rfl (fun ls hl => ?_)
  refine lv_iload_n F.1 F.2.1 dX1_readFirst_5 rfl (lv_at hl 0 rfl) ?_
  refine z_if_ne (tgt := 64) F dX1_readFirst_6 (by decide) zv_7 (fun c_9 => ?_) (fun c_9 => ?_)
  · refine lv_iload_n F.1 F.2.1 dX1_readFirst_64 rfl (lv_at hl 0 rfl) ?_
    have hfin : sRl b n nr nt cl h = (v_7, h, 0) := by
      unfold sRl
      repeat (first | with_reducible rfl | refine ite_y (by omega) ?_ | refine ite_n (by omega) ?_ | exact pr_e (by omega) (by omega) (by omega))
    exact g_iret F hr hlk hH hS hz zv_7 ⟨rfl, rfl, rfl, rfl, rfl, hv, hp, pf, by first | omega | rfl | (dsimp only; omega), by first | omega | rfl | (dsimp only; omega), by (try dsimp only); rw [hfin]; first | done | omega | rfl, by (try dsimp only); rw [hfin]; exact hP, by (try dsimp only); omega, by (try dsimp only); first | exact pIm_n (by omega) | (rw [hfin]; (try dsimp only); exact pIm_y (by first | omega | rfl)) | exact pIm_y (by omega), by (try dsimp only); first | exact zIf_n (by omega) | exact zIf_y (by omega)⟩ dX1_readFirst_65
  · refine lv_aload_n F.1 F.2.1 dX1_readFirst_9 rfl (lv_at hl 1 rfl) ?_
    refine g_getR (ci := 1) (k := 2) F hH rfl (by decide) iX1 hp.1 (by decide) rfl (b := ln) hp.2.2.2.1 k29 dX1_readFirst_10 ?_
    refine lv_aload_n F.1 F.2.1 dX1_readFirst_13 rfl (lv_at hl 1 rfl) ?_
    refine g_getR (ci := 1) (k := 1) F hH rfl (by decide) iX1 hp.1 (by decide) rfl (b := q) hp.2.1 k21 dX1_readFirst_14 ?_
    refine lv_aload_n F.1 F.2.1 dX1_readFirst_17 rfl (lv_at hl 1 rfl) ?_
    refine g_getR (ci := 1) (k := 0) F hH rfl (by decide) iX1 hp.1 (by decide) rfl (b := gh 22 0) (gR_pr0 hv hp.1).1 k12 dX1_readFirst_18 ?_
    obtain ⟨r_10a, r_10b⟩ := gR_tk3 hv (gR_pr0 hv hp.1).2
    refine g_getR (ci := 5) (k := 3) F hH rfl (by decide) iX5 (gR_pr0 hv hp.1).2 (by decide) rfl (b := gh 27 0) r_10a k93 dX1_readFirst_21 ?_
    refine lv_aload_n F.1 F.2.1 dX1_readFirst_24 rfl (lv_at hl 1 rfl) ?_
    refine g_getI (ci := 1) (k := 3) F hH rfl (by decide) iX1 hp.1 (by decide) rfl k44 dX1_readFirst_25 ?_
    have b_11h := hp.2.2.2.2.2.2.2
    have b_11 := gI_pr hv hp.1
    have b_11t := gI_tk hv (gR_pr0 hv hp.1).2
    have hx28 : 0 ≤ ((I a 3).toInt) ∧ ((I a 3).toInt) < ((901 : Nat) : Int) ∧ ((I a 3).toInt) ≤ 2147483647 := ⟨by omega, by omega, by omega⟩
    refine g_lald F hH r_10b hx28.1 hx28.2.1 hx28.2.2 dX1_readFirst_28 ?_
    refine lv_topl (fun j_12 ej_12 => ?_)
    have ejn := ej_12
    have b_13 := gI_plan hv hp.2.2.1
    refine g_calli (g_runV (As := [.long j_12]) (rest := [.ref ln]) (ci := 2) F hl.1 hH hS hz (c_X2_relationOf l g gh I R J AI AJ AR q j_12 hv hp.2.2.1) (cwV 1 F.2.2.2.2.1 gX1_readFirst_X2_relationOf rfl rfl rfl hdX2_relationOf ⟨Nat.le_of_ble_eq_true rfl, Nat.le_of_ble_eq_true rfl⟩) hp.2.2.1 (by decide) rfl rfl rfl (Nat.le_of_ble_eq_true rfl) dX1_readFirst_29 ⟨Nat.zero_le _, Nat.zero_le _⟩) hS (fun v_20 I_14 R_15 J_16 AI_17 AJ_18 AR_19 H locs zv_20 hp_21 hH hS => ?_)
    dsimp only at hp_21
    obtain ⟨rfl, rfl, rfl, rfl, rfl, rfl, qr⟩ := hp_21
    have hfd : v_20 = pFd b n nt nr h := pH_fd hv hp.2.2.1 hP ejn qr
    have hvr : 0 ≤ v_20 ∧ v_20 < (I q 1).toInt := by
        rcases qr with ⟨h, h2⟩ | ⟨h1, h2, b, h3, h4⟩
        · obtain ⟨j, b, hj, hb, hJ⟩ := qs (by omega)
          exact absurd (hJ.trans ejn.symm) (h2 j hj b hb)
        · exact ⟨h1, h2⟩
    clear qs qr
    refine g_putI (ci := 0) (k := 3) F hH hS rfl (by decide) iX0 hp.2.2.2.2.1 (by decide) tyX0 tyX0_ok nmX0 rfl rfl rfl k155 dX1_readFirst_32 (fun H locs hH hS => ?_)
    obtain ⟨I_22, eI_22⟩ : ∃ qQ, qQ = gup2 I ln 3 (iI (v_20)) := ⟨_, rfl⟩
    rw [← eI_22] at hH
    have kI_22 : ∀ b, b ≠ ln → I_22 b = I b := fun b hb => by rw [eI_22]; exact funext fun j => gup2_a _ _ hb
    have hP := pH_ln hv hp hP kI_22
    have w_23 : (I_22 ln 3).toInt = v_20 := by rw [eI_22, gup2_s]; exact iI_val ⟨by omega, by omega⟩
    have hp2 : pS g gh R I_22 a q ln := pS_ln hv hp kI_22
    have hv : gInv g gh R AR I_22 AI := by rw [eI_22]; exact gInv_line3 hv hp.2.2.2.2.1 (by omega) (by omega) (by omega)
    have hp := hp2
    have pf : pF a ln I I_22 := pF_t pf (by rw [eI_22]; exact pF_ln (by decide))
    have w_23_k : ∀ j, j ≠ 3 → I_22 ln j = I ln j := fun j hj => by rw [eI_22]; exact gup2_k _ _ hj
    have u_24q : (I_22 q 1).toInt = (I q 1).toInt := by rw [kI_22 q (gO_ne hp.2.2.1 hp.2.2.2.2.1 (by decide))]
    have u_24_0 : (I_22 ln 0).toInt = (I ln 0).toInt := by rw [w_23_k 0 (by decide)]
    have u_24_8 : (I_22 ln 8).toInt = (I ln 8).toInt := by rw [w_23_k 8 (by decide)]
    have u_25 : (I_22 ln 2).toInt = (I ln 2).toInt := by rw [w_23_k 2 (by decide)]
    have u_26 : (I_22 ln 4).toInt = (I ln 4).toInt := by rw [w_23_k 4 (by decide)]
    have u_27 : (I_22 ln 5).toInt = (I ln 5).toInt := by rw [w_23_k 5 (by decide)]
    have u_28 : (I_22 ln 6).toInt = (I ln 6).toInt := by rw [w_23_k 6 (by decide)]
    have u_29 : (I_22 ln 9).toInt = (I ln 9).toInt := by rw [w_23_k 9 (by decide)]
    have u_30 : (I_22 ln 10).toInt = (I ln 10).toInt := by rw [w_23_k 10 (by decide)]
    have u_31 : (I_22 ln 11).toInt = (I ln 11).toInt := by rw [w_23_k 11 (by decide)]
    have u_32 : (I_22 ln 12).toInt = (I ln 12).toInt := by rw [w_23_k 12 (by decide)]
    refine lv_aload_n F.1 F.2.1 dX1_readFirst_35 rfl (lv_at hl 1 rfl) ?_
    refine g_getR (ci := 1) (k := 2) F hH rfl (by decide) iX1 hp.1 (by decide) rfl (b := ln) hp.2.2.2.1 k29 dX1_readFirst_36 ?_
    refine lv_aload_n F.1 F.2.1 dX1_readFirst_39 rfl (lv_at hl 1 rfl) ?_
    refine g_getR (ci := 1) (k := 1) F hH rfl (by decide) iX1 hp.1 (by decide) rfl (b := q) hp.2.1 k21 dX1_readFirst_40 ?_
    obtain ⟨r_33a, r_33b⟩ := gR_lines hv hp.2.2.1
    refine g_getR (ci := 2) (k := 0) F hH rfl (by decide) iX2 hp.2.2.1 (by decide) rfl (b := gh 6 q) r_33a k25 dX1_readFirst_43 ?_
    refine lv_aload_n F.1 F.2.1 dX1_readFirst_46 rfl (lv_at hl 1 rfl) ?_
    refine g_getR (ci := 1) (k := 2) F hH rfl (by decide) iX1 hp.1 (by decide) rfl (b := ln) hp.2.2.2.1 k29 dX1_readFirst_47 ?_
    refine g_getI (ci := 0) (k := 3) F hH rfl (by decide) iX0 hp.2.2.2.2.1 (by decide) rfl k155 dX1_readFirst_50 ?_
    have b_34 := gI_line hv hp.2.2.2.2.1
    unfold vLineI at b_34
    have hx53 : 0 ≤ ((I_22 ln 3).toInt) ∧ ((I_22 ln 3).toInt) < ((16 : Nat) : Int) ∧ ((I_22 ln 3).toInt) ≤ 2147483647 := ⟨by omega, by omega, by omega⟩
    obtain ⟨y_35, y_35a, y_35b, y_35c, y_35d⟩ := gA_lines hv hp.2.2.1 (z := (I_22 ln 3).toInt) (by omega) (by omega)
    refine g_aldL F hH r_33b hx53.1 hx53.2.1 hx53.2.2 (b := y_35) y_35a dX1_readFirst_53 ?_
    have hc4 := (hv.2.2.1 y_35 y_35b).2.2.2 (by rw [y_35c]; omega)
    have hcl : (I_22 y_35 2).toInt = cF b n nr nt cl h := (pH_c hP (by omega) (by omega) y_35a).trans (by unfold cF; rw [show (I_22 ln 3).toInt = pFd b n nt nr h by omega])
    refine g_getI (ci := 0) (k := 2) F hH rfl (by decide) iX0 y_35b (by decide) rfl k136 dX1_readFirst_54 ?_
    have b_36 := gI_line hv y_35b
    unfold vLineI at b_36
    refine g_putI (ci := 0) (k := 5) F hH hS rfl (by decide) iX0 hp.2.2.2.2.1 (by decide) tyX0 tyX0_ok nmX0 rfl rfl rfl k143 dX1_readFirst_57 (fun H locs hH hS => ?_)
    obtain ⟨I_37, eI_37⟩ : ∃ qQ, qQ = gup2 I_22 ln 5 (iI ((I_22 y_35 2).toInt)) := ⟨_, rfl⟩
    rw [← eI_37] at hH
    have kI_37 : ∀ b, b ≠ ln → I_37 b = I_22 b := fun b hb => by rw [eI_37]; exact funext fun j => gup2_a _ _ hb
    have hP := pH_ln hv hp hP kI_37
    have w_38 : (I_37 ln 5).toInt = (I_22 y_35 2).toInt := by rw [eI_37, gup2_s]; exact iI_val ⟨by omega, by omega⟩
    have hp2 : pS g gh R I_37 a q ln := pS_ln hv hp kI_37
    have hv : gInv g gh R AR I_37 AI := by rw [eI_37]; exact gInv_line5 hv hp.2.2.2.2.1 (by omega) (by omega)
    have hp := hp2
    have pf : pF a ln I I_37 := pF_t pf (by rw [eI_37]; exact pF_ln (by decide))
    have w_38_k : ∀ j, j ≠ 5 → I_37 ln j = I_22 ln j := fun j hj => by rw [eI_37]; exact gup2_k _ _ hj
    have u_39q : (I_37 q 1).toInt = (I_22 q 1).toInt := by rw [kI_37 q (gO_ne hp.2.2.1 hp.2.2.2.2.1 (by decide))]
    have u_39_0 : (I_37 ln 0).toInt = (I_22 ln 0).toInt := by rw [w_38_k 0 (by decide)]
    have u_39_8 : (I_37 ln 8).toInt = (I_22 ln 8).toInt := by rw [w_38_k 8 (by decide)]
    have u_40 : (I_37 ln 2).toInt = (I_22 ln 2).toInt := by rw [w_38_k 2 (by decide)]
    have u_41 : (I_37 ln 3).toInt = (I_22 ln 3).toInt := by rw [w_38_k 3 (by decide)]
    have u_42 : (I_37 ln 4).toInt = (I_22 ln 4).toInt := by rw [w_38_k 4 (by decide)]
    have u_43 : (I_37 ln 6).toInt = (I_22 ln 6).toInt := by rw [w_38_k 6 (by decide)]
    have u_44 : (I_37 ln 9).toInt = (I_22 ln 9).toInt := by rw [w_38_k 9 (by decide)]
    have u_45 : (I_37 ln 10).toInt = (I_22 ln 10).toInt := by rw [w_38_k 10 (by decide)]
    have u_46 : (I_37 ln 11).toInt = (I_22 ln 11).toInt := by rw [w_38_k 11 (by decide)]
    have u_47 : (I_37 ln 12).toInt = (I_22 ln 12).toInt := by rw [w_38_k 12 (by decide)]
    have hkr := (pRf_i (b := b) (n := n) (nt := nt) (nr := nr) (h := h) (by omega)).1.1
    refine lv_aload_n F.1 F.2.1 dX1_readFirst_60 rfl (lv_at hl 1 rfl) ?_
    have hv0 := hv
    refine g_callv (g_runV (As := []) (rest := []) (ci := 1) F hl.1 hH hS hz (c_X1_stepg l g gh q b n tl nr nt cl h I_37 R J AI AJ AR a hv hp.1 (by first | exact hp.2.2.2.2.2.2.2 | exact hh | omega) hP (by first | exact hp.2.2.1 | exact hq) (by omega)) (cwV 0 F.2.2.2.2.1 gX1_readFirst_X1_step rfl rfl rfl hdX1_step ⟨Nat.le_of_ble_eq_true rfl, Nat.le_of_ble_eq_true rfl⟩) hp.1 (by decide) rfl rfl rfl (Nat.le_of_ble_eq_true rfl) dX1_readFirst_61 ⟨Nat.zero_le _, Nat.zero_le _⟩) hS (fun I_48 R_49 J_50 AI_51 AJ_52 AR_53 H locs hp_54 hH hS => ?_)
    dsimp only at hp_54
    obtain ⟨rfl, rfl, rfl, rfl, rfl, hv, fs, hs, hP⟩ := hp_54
    have hP : pH gh AR I_48 J AI AJ a q b n tl nr nt cl (h + 1) := hP
    obtain ⟨hp, pfq, fls⟩ := pS_step hv0 hp fs hs
    have pf := pF_t pf pfq
    have u_55q : (I_48 q 1).toInt = (I_37 q 1).toInt := by rw [pF_q hp pfq]
    have u_55_0 : (I_48 ln 0).toInt = (I_37 ln 0).toInt := by rw [fls]
    have u_55_8 : (I_48 ln 8).toInt = (I_37 ln 8).toInt := by rw [fls]
    have u_56 : (I_48 ln 2).toInt = (I_37 ln 2).toInt := by rw [fls]
    have u_57 : (I_48 ln 3).toInt = (I_37 ln 3).toInt := by rw [fls]
    have u_58 : (I_48 ln 4).toInt = (I_37 ln 4).toInt := by rw [fls]
    have u_59 : (I_48 ln 5).toInt = (I_37 ln 5).toInt := by rw [fls]
    have u_60 : (I_48 ln 6).toInt = (I_37 ln 6).toInt := by rw [fls]
    have u_61 : (I_48 ln 9).toInt = (I_37 ln 9).toInt := by rw [fls]
    have u_62 : (I_48 ln 10).toInt = (I_37 ln 10).toInt := by rw [fls]
    have u_63 : (I_48 ln 11).toInt = (I_37 ln 11).toInt := by rw [fls]
    have u_64 : (I_48 ln 12).toInt = (I_37 ln 12).toInt := by rw [fls]
    refine lv_iload_n F.1 F.2.1 dX1_readFirst_64 rfl (lv_at hl 0 rfl) ?_
    have hfin : sRl b n nr nt cl h = (v_7, h + 1, cF b n nr nt cl h) := by
      unfold sRl
      repeat (first | with_reducible rfl | refine ite_y (by omega) ?_ | refine ite_n (by omega) ?_ | exact pr_e (by omega) (by omega) (by omega))
    exact g_iret F hr hlk hH hS hz zv_7 ⟨rfl, rfl, rfl, rfl, rfl, hv, hp, pf, by first | omega | rfl | (dsimp only; omega), by first | omega | rfl | (dsimp only; omega), by (try dsimp only); rw [hfin]; first | done | omega | rfl, by (try dsimp only); rw [hfin]; exact hP, by (try dsimp only); omega, by (try dsimp only); first | exact pIm_n (by omega) | (rw [hfin]; (try dsimp only); exact pIm_y (by first | omega | rfl)) | exact pIm_y (by omega), by (try dsimp only); first | exact zIf_n (by omega) | exact zIf_y (by omega)⟩ dX1_readFirst_65

def rmX1_readSecondg : Room := { frames := 3, cells := 0, slots := 0, locals := 62 }
set_option maxHeartbeats 4000000 in
set_option maxRecDepth 100000 in
/-- the second relation -/
theorem c_X1_readSecondg (l : Launch) (g : gG) (gh : gGh) (q ln : Nat) (b : tTx) (n : Nat) (tl : Int) (nr : Nat) (nt : Nat → Nat) (cl : Nat → Int) (h : Nat) (I : gI) (R : gR) (J : gJ) (AI : gI) (AJ : gJ) (AR : gR) (a : Nat) (hv : gInv g gh R AR I AI) (hp : pS g gh R I a q ln) (hk0 : (I ln 0).toInt ≠ 0) (hP : pH gh AR I J AI AJ a q b n tl nr nt cl h) : gMet l g yX1_readSecond wsX1_readSecond rmX1_readSecondg [.ref a] (I, R, J, AI, AJ, AR) (gQi g (fun (z : Int) (w : gS) => R = w.2.1 ∧ J = w.2.2.1 ∧ AI = w.2.2.2.1 ∧ AJ = w.2.2.2.2.1 ∧ AR = w.2.2.2.2.2 ∧ (gInv g gh R AR (w.1) AI) ∧ (pS g gh R (w.1) a q ln) ∧ (pF a ln I (w.1)) ∧ (((w.1) ln 8).toInt = (I ln 8).toInt) ∧ (0 ≤ z ∧ z ≤ 3) ∧ (z = (sRl b n nr nt cl h).1) ∧ (pH gh AR (w.1) J AI AJ a q b n tl nr nt cl (sRl b n nr nt cl h).2.1) ∧ (((w.1) ln 2).toInt = (I ln 2).toInt ∧ ((w.1) ln 5).toInt = (I ln 5).toInt ∧ ((w.1) ln 8).toInt = (I ln 8).toInt ∧ ((w.1) ln 3).toInt = (I ln 3).toInt ∧ ((w.1) ln 9).toInt = (I ln 9).toInt ∧ ((w.1) ln 10).toInt = (I ln 10).toInt ∧ ((w.1) ln 11).toInt = (I ln 11).toInt ∧ ((w.1) ln 12).toInt = (I ln 12).toInt) ∧ (pIm z (((w.1) ln 6).toInt) ((sRl b n nr nt cl h).2.2)) ∧ (zIf z (((w.1) ln 4).toInt = pFd b n nt nr h)))) := by
  refine gStart (cc := cX1_readSecond) (maxL := 2) (ret := (some (.int))) (by decide) rfl (Nat.le_of_ble_eq_true rfl) ?_
  intro p e s m below meth c ls F hr hlk hH hz hS hl
  have hl : lv_has ls 2 [(0, .ref a)] := hl
  have hS : va_S (gA g) s.heap s.heap [] := hS
  obtain ⟨H, hHe⟩ : ∃ H : Heap, H = s.heap := ⟨_, rfl⟩
  obtain ⟨locs, hlo⟩ : ∃ k : List Loc, k = [] := ⟨_, rfl⟩
  have hH : gH g I R J AI AJ AR H := by rw [hHe]; exact hH
  have hS : va_S (gA g) s.heap H locs := by rw [hHe, hlo]; exact hS
  suffices hw : W p l e rmX1_readSecondg s m ([.ref a] : List Value).toArray below meth c H locs 0 0 (MQ below (gQi g (fun (z : Int) (w : gS) => R = w.2.1 ∧ J = w.2.2.1 ∧ AI = w.2.2.2.1 ∧ AJ = w.2.2.2.2.1 ∧ AR = w.2.2.2.2.2 ∧ (gInv g gh R AR (w.1) AI) ∧ (pS g gh R (w.1) a q ln) ∧ (pF a ln I (w.1)) ∧ (((w.1) ln 8).toInt = (I ln 8).toInt) ∧ (0 ≤ z ∧ z ≤ 3) ∧ (z = (sRl b n nr nt cl h).1) ∧ (pH gh AR (w.1) J AI AJ a q b n tl nr nt cl (sRl b n nr nt cl h).2.1) ∧ (((w.1) ln 2).toInt = (I ln 2).toInt ∧ ((w.1) ln 5).toInt = (I ln 5).toInt ∧ ((w.1) ln 8).toInt = (I ln 8).toInt ∧ ((w.1) ln 3).toInt = (I ln 3).toInt ∧ ((w.1) ln 9).toInt = (I ln 9).toInt ∧ ((w.1) ln 10).toInt = (I ln 10).toInt ∧ ((w.1) ln 11).toInt = (I ln 11).toInt ∧ ((w.1) ln 12).toInt = (I ln 12).toInt) ∧ (pIm z (((w.1) ln 6).toInt) ((sRl b n nr nt cl h).2.2)) ∧ (zIf z (((w.1) ln 4).toInt = pFd b n nt nr h)))) ([.ref a] : List Value).toArray s 0 0 (gA g)) (F0 m 0 ls []) by
    rw [hHe, hlo] at hw; exact hw
  clear hHe hlo
  have pf : pF a ln I I := pF_r
  have iX5 : ∀ w ∈ u_ws RX5 TX5 5, w ∈ wsX1_readSecond := (by decide +kernel)
  have iX2 : ∀ w ∈ u_ws RX2 TX2 3, w ∈ wsX1_readSecond := (by decide +kernel)
  have iX1 : ∀ w ∈ u_ws RX1 TX1 4, w ∈ wsX1_readSecond := (by decide +kernel)
  have iX0 : ∀ w ∈ u_ws RX0 TX0 15, w ∈ wsX1_readSecond := (by decide +kernel)
  have k29 : Cond.fieldLink RX1 29 (TX1 2).1 (TX1 2).2.1 (TX1 2).2.2.1 ∈ wsX1_readSecond := List.mem_of_getElem? (i := 1) rfl
  have k21 : Cond.fieldLink RX1 21 (TX1 1).1 (TX1 1).2.1 (TX1 1).2.2.1 ∈ wsX1_readSecond := List.mem_of_getElem? (i := 2) rfl
  have k12 : Cond.fieldLink RX1 12 (TX1 0).1 (TX1 0).2.1 (TX1 0).2.2.1 ∈ wsX1_readSecond := List.mem_of_getElem? (i := 3) rfl
  have k93 : Cond.fieldLink RX1 93 (TX5 3).1 (TX5 3).2.1 (TX5 3).2.2.1 ∈ wsX1_readSecond := List.mem_of_getElem? (i := 4) rfl
  have k44 : Cond.fieldLink RX1 44 (TX1 3).1 (TX1 3).2.1 (TX1 3).2.2.1 ∈ wsX1_readSecond := List.mem_of_getElem? (i := 5) rfl
  have k158 : Cond.fieldLink RX1 158 (TX0 4).1 (TX0 4).2.1 (TX0 4).2.2.1 ∈ wsX1_readSecond := List.mem_of_getElem? (i := 6) rfl
  have k25 : Cond.fieldLink RX1 25 (TX2 0).1 (TX2 0).2.1 (TX2 0).2.2.1 ∈ wsX1_readSecond := List.mem_of_getElem? (i := 7) rfl
  have k136 : Cond.fieldLink RX1 136 (TX0 2).1 (TX0 2).2.1 (TX0 2).2.2.1 ∈ wsX1_readSecond := List.mem_of_getElem? (i := 8) rfl
  have k146 : Cond.fieldLink RX1 146 (TX0 6).1 (TX0 6).2.1 (TX0 6).2.2.1 ∈ wsX1_readSecond := List.mem_of_getElem? (i := 9) rfl
  refine lv_aload_n F.1 F.2.1 dX1_readSecond_0 rfl (lv_at hl 0 rfl) ?_
  refine g_calli (g_runV (As := []) (rest := []) (ci := 1) F hl.1 hH hS hz (c_X1_seeRelationg l g gh q ln b n tl nr nt cl h I R J AI AJ AR a hv hp hP) (cwV 0 F.2.2.2.2.1 gX1_readSecond_X1_seeRelation rfl rfl rfl hdX1_seeRelation ⟨Nat.le_of_ble_eq_true rfl, Nat.le_of_ble_eq_true rfl⟩) hp.1 (by decide) rfl rfl rfl (Nat.le_of_ble_eq_true rfl) dX1_readSecond_1 ⟨Nat.zero_le _, Nat.zero_le _⟩) hS (fun v_7 I_1 R_2 J_3 AI_4 AJ_5 AR_6 H locs zv_7 hp_8 hH hS => ?_)
  dsimp only at hp_8
  obtain ⟨rfl, rfl, rfl, rfl, rfl, rfl, qz, qs, qf⟩ := hp_8
  refine lv_istore_n (lv' := [(1, .int (iI v_7)), (0, .ref a)]) F.1 F.2.1 dX1_readSecond_4 rfl hl (by decide) rfl (fun ls hl => ?_)
  refine lv_iload_n F.1 F.2.1 dX1_readSecond_5 rfl (lv_at hl 0 rfl) ?_
  refine z_if_ne (tgt := 64) F dX1_readSecond_6 (by decide) zv_7 (fun c_9 => ?_) (fun c_9 => ?_)
  · refine lv_iload_n F.1 F.2.1 dX1_readSecond_64 rfl (lv_at hl 0 rfl) ?_
    have hfin : sRl b n nr nt cl h = (v_7, h, 0) := by
      unfold sRl
      repeat (first | with_reducible rfl | refine ite_y (by omega) ?_ | refine ite_n (by omega) ?_ | exact pr_e (by omega) (by omega) (by omega))
    exact g_iret F hr hlk hH hS hz zv_7 ⟨rfl, rfl, rfl, rfl, rfl, hv, hp, pf, by first | omega | rfl | (dsimp only; omega), by first | omega | rfl | (dsimp only; omega), by (try dsimp only); rw [hfin]; first | done | omega | rfl, by (try dsimp only); rw [hfin]; exact hP, by (try dsimp only); omega, by (try dsimp only); first | exact pIm_n (by omega) | (rw [hfin]; (try dsimp only); exact pIm_y (by first | omega | rfl)) | exact pIm_y (by omega), by (try dsimp only); first | exact zIf_n (by omega) | exact zIf_y (by omega)⟩ dX1_readSecond_65
  · refine lv_aload_n F.1 F.2.1 dX1_readSecond_9 rfl (lv_at hl 1 rfl) ?_
    refine g_getR (ci := 1) (k := 2) F hH rfl (by decide) iX1 hp.1 (by decide) rfl (b := ln) hp.2.2.2.1 k29 dX1_readSecond_10 ?_
    refine lv_aload_n F.1 F.2.1 dX1_readSecond_13 rfl (lv_at hl 1 rfl) ?_
    refine g_getR (ci := 1) (k := 1) F hH rfl (by decide) iX1 hp.1 (by decide) rfl (b := q) hp.2.1 k21 dX1_readSecond_14 ?_
    refine lv_aload_n F.1 F.2.1 dX1_readSecond_17 rfl (lv_at hl 1 rfl) ?_
    refine g_getR (ci := 1) (k := 0) F hH rfl (by decide) iX1 hp.1 (by decide) rfl (b := gh 22 0) (gR_pr0 hv hp.1).1 k12 dX1_readSecond_18 ?_
    obtain ⟨r_10a, r_10b⟩ := gR_tk3 hv (gR_pr0 hv hp.1).2
    refine g_getR (ci := 5) (k := 3) F hH rfl (by decide) iX5 (gR_pr0 hv hp.1).2 (by decide) rfl (b := gh 27 0) r_10a k93 dX1_readSecond_21 ?_
    refine lv_aload_n F.1 F.2.1 dX1_readSecond_24 rfl (lv_at hl 1 rfl) ?_
    refine g_getI (ci := 1) (k := 3) F hH rfl (by decide) iX1 hp.1 (by decide) rfl k44 dX1_readSecond_25 ?_
    have b_11h := hp.2.2.2.2.2.2.2
    have b_11 := gI_pr hv hp.1
    have b_11t := gI_tk hv (gR_pr0 hv hp.1).2
    have hx28 : 0 ≤ ((I a 3).toInt) ∧ ((I a 3).toInt) < ((901 : Nat) : Int) ∧ ((I a 3).toInt) ≤ 2147483647 := ⟨by omega, by omega, by omega⟩
    refine g_lald F hH r_10b hx28.1 hx28.2.1 hx28.2.2 dX1_readSecond_28 ?_
    refine lv_topl (fun j_12 ej_12 => ?_)
    have ejn := ej_12
    have b_13 := gI_plan hv hp.2.2.1
    refine g_calli (g_runV (As := [.long j_12]) (rest := [.ref ln]) (ci := 2) F hl.1 hH hS hz (c_X2_relationOf l g gh I R J AI AJ AR q j_12 hv hp.2.2.1) (cwV 1 F.2.2.2.2.1 gX1_readSecond_X2_relationOf rfl rfl rfl hdX2_relationOf ⟨Nat.le_of_ble_eq_true rfl, Nat.le_of_ble_eq_true rfl⟩) hp.2.2.1 (by decide) rfl rfl rfl (Nat.le_of_ble_eq_true rfl) dX1_readSecond_29 ⟨Nat.zero_le _, Nat.zero_le _⟩) hS (fun v_20 I_14 R_15 J_16 AI_17 AJ_18 AR_19 H locs zv_20 hp_21 hH hS => ?_)
    dsimp only at hp_21
    obtain ⟨rfl, rfl, rfl, rfl, rfl, rfl, qr⟩ := hp_21
    have hfd : v_20 = pFd b n nt nr h := pH_fd hv hp.2.2.1 hP ejn qr
    have hvr : 0 ≤ v_20 ∧ v_20 < (I q 1).toInt := by
        rcases qr with ⟨h, h2⟩ | ⟨h1, h2, b, h3, h4⟩
        · obtain ⟨j, b, hj, hb, hJ⟩ := qs (by omega)
          exact absurd (hJ.trans ejn.symm) (h2 j hj b hb)
        · exact ⟨h1, h2⟩
    clear qs qr
    refine g_putI (ci := 0) (k := 4) F hH hS rfl (by decide) iX0 hp.2.2.2.2.1 (by decide) tyX0 tyX0_ok nmX0 rfl rfl rfl k158 dX1_readSecond_32 (fun H locs hH hS => ?_)
    obtain ⟨I_22, eI_22⟩ : ∃ qQ, qQ = gup2 I ln 4 (iI (v_20)) := ⟨_, rfl⟩
    rw [← eI_22] at hH
    have kI_22 : ∀ b, b ≠ ln → I_22 b = I b := fun b hb => by rw [eI_22]; exact funext fun j => gup2_a _ _ hb
    have hP := pH_ln hv hp hP kI_22
    have w_23 : (I_22 ln 4).toInt = v_20 := by rw [eI_22, gup2_s]; exact iI_val ⟨by omega, by omega⟩
    have hp2 : pS g gh R I_22 a q ln := pS_ln hv hp kI_22
    have hv : gInv g gh R AR I_22 AI := by rw [eI_22]; exact gInv_line4 hv hp.2.2.2.2.1 (by omega) (by omega)
    have hp := hp2
    have pf : pF a ln I I_22 := pF_t pf (by rw [eI_22]; exact pF_ln (by decide))
    have w_23_k : ∀ j, j ≠ 4 → I_22 ln j = I ln j := fun j hj => by rw [eI_22]; exact gup2_k _ _ hj
    have u_24q : (I_22 q 1).toInt = (I q 1).toInt := by rw [kI_22 q (gO_ne hp.2.2.1 hp.2.2.2.2.1 (by decide))]
    have u_24_0 : (I_22 ln 0).toInt = (I ln 0).toInt := by rw [w_23_k 0 (by decide)]
    have u_24_8 : (I_22 ln 8).toInt = (I ln 8).toInt := by rw [w_23_k 8 (by decide)]
    have u_25 : (I_22 ln 2).toInt = (I ln 2).toInt := by rw [w_23_k 2 (by decide)]
    have u_26 : (I_22 ln 3).toInt = (I ln 3).toInt := by rw [w_23_k 3 (by decide)]
    have u_27 : (I_22 ln 5).toInt = (I ln 5).toInt := by rw [w_23_k 5 (by decide)]
    have u_28 : (I_22 ln 6).toInt = (I ln 6).toInt := by rw [w_23_k 6 (by decide)]
    have u_29 : (I_22 ln 9).toInt = (I ln 9).toInt := by rw [w_23_k 9 (by decide)]
    have u_30 : (I_22 ln 10).toInt = (I ln 10).toInt := by rw [w_23_k 10 (by decide)]
    have u_31 : (I_22 ln 11).toInt = (I ln 11).toInt := by rw [w_23_k 11 (by decide)]
    have u_32 : (I_22 ln 12).toInt = (I ln 12).toInt := by rw [w_23_k 12 (by decide)]
    refine lv_aload_n F.1 F.2.1 dX1_readSecond_35 rfl (lv_at hl 1 rfl) ?_
    refine g_getR (ci := 1) (k := 2) F hH rfl (by decide) iX1 hp.1 (by decide) rfl (b := ln) hp.2.2.2.1 k29 dX1_readSecond_36 ?_
    refine lv_aload_n F.1 F.2.1 dX1_readSecond_39 rfl (lv_at hl 1 rfl) ?_
    refine g_getR (ci := 1) (k := 1) F hH rfl (by decide) iX1 hp.1 (by decide) rfl (b := q) hp.2.1 k21 dX1_readSecond_40 ?_
    obtain ⟨r_33a, r_33b⟩ := gR_lines hv hp.2.2.1
    refine g_getR (ci := 2) (k := 0) F hH rfl (by decide) iX2 hp.2.2.1 (by decide) rfl (b := gh 6 q) r_33a k25 dX1_readSecond_43 ?_
    refine lv_aload_n F.1 F.2.1 dX1_readSecond_46 rfl (lv_at hl 1 rfl) ?_
    refine g_getR (ci := 1) (k := 2) F hH rfl (by decide) iX1 hp.1 (by decide) rfl (b := ln) hp.2.2.2.1 k29 dX1_readSecond_47 ?_
    refine g_getI (ci := 0) (k := 4) F hH rfl (by decide) iX0 hp.2.2.2.2.1 (by decide) rfl k158 dX1_readSecond_50 ?_
    have b_34 := gI_line hv hp.2.2.2.2.1
    unfold vLineI at b_34
    have hx53 : 0 ≤ ((I_22 ln 4).toInt) ∧ ((I_22 ln 4).toInt) < ((16 : Nat) : Int) ∧ ((I_22 ln 4).toInt) ≤ 2147483647 := ⟨by omega, by omega, by omega⟩
    obtain ⟨y_35, y_35a, y_35b, y_35c, y_35d⟩ := gA_lines hv hp.2.2.1 (z := (I_22 ln 4).toInt) (by omega) (by omega)
    refine g_aldL F hH r_33b hx53.1 hx53.2.1 hx53.2.2 (b := y_35) y_35a dX1_readSecond_53 ?_
    have hc4 := (hv.2.2.1 y_35 y_35b).2.2.2 (by rw [y_35c]; omega)
    have hcl : (I_22 y_35 2).toInt = cF b n nr nt cl h := (pH_c hP (by omega) (by omega) y_35a).trans (by unfold cF; rw [show (I_22 ln 4).toInt = pFd b n nt nr h by omega])
    refine g_getI (ci := 0) (k := 2) F hH rfl (by decide) iX0 y_35b (by decide) rfl k136 dX1_readSecond_54 ?_
    have b_36 := gI_line hv y_35b
    unfold vLineI at b_36
    refine g_putI (ci := 0) (k := 6) F hH hS rfl (by decide) iX0 hp.2.2.2.2.1 (by decide) tyX0 tyX0_ok nmX0 rfl rfl rfl k146 dX1_readSecond_57 (fun H locs hH hS => ?_)
    obtain ⟨I_37, eI_37⟩ : ∃ qQ, qQ = gup2 I_22 ln 6 (iI ((I_22 y_35 2).toInt)) := ⟨_, rfl⟩
    rw [← eI_37] at hH
    have kI_37 : ∀ b, b ≠ ln → I_37 b = I_22 b := fun b hb => by rw [eI_37]; exact funext fun j => gup2_a _ _ hb
    have hP := pH_ln hv hp hP kI_37
    have w_38 : (I_37 ln 6).toInt = (I_22 y_35 2).toInt := by rw [eI_37, gup2_s]; exact iI_val ⟨by omega, by omega⟩
    have hp2 : pS g gh R I_37 a q ln := pS_ln hv hp kI_37
    have hv : gInv g gh R AR I_37 AI := by rw [eI_37]; exact gInv_line6 hv hp.2.2.2.2.1 (by omega) (by omega)
    have hp := hp2
    have pf : pF a ln I I_37 := pF_t pf (by rw [eI_37]; exact pF_ln (by decide))
    have w_38_k : ∀ j, j ≠ 6 → I_37 ln j = I_22 ln j := fun j hj => by rw [eI_37]; exact gup2_k _ _ hj
    have u_39q : (I_37 q 1).toInt = (I_22 q 1).toInt := by rw [kI_37 q (gO_ne hp.2.2.1 hp.2.2.2.2.1 (by decide))]
    have u_39_0 : (I_37 ln 0).toInt = (I_22 ln 0).toInt := by rw [w_38_k 0 (by decide)]
    have u_39_8 : (I_37 ln 8).toInt = (I_22 ln 8).toInt := by rw [w_38_k 8 (by decide)]
    have u_40 : (I_37 ln 2).toInt = (I_22 ln 2).toInt := by rw [w_38_k 2 (by decide)]
    have u_41 : (I_37 ln 3).toInt = (I_22 ln 3).toInt := by rw [w_38_k 3 (by decide)]
    have u_42 : (I_37 ln 4).toInt = (I_22 ln 4).toInt := by rw [w_38_k 4 (by decide)]
    have u_43 : (I_37 ln 5).toInt = (I_22 ln 5).toInt := by rw [w_38_k 5 (by decide)]
    have u_44 : (I_37 ln 9).toInt = (I_22 ln 9).toInt := by rw [w_38_k 9 (by decide)]
    have u_45 : (I_37 ln 10).toInt = (I_22 ln 10).toInt := by rw [w_38_k 10 (by decide)]
    have u_46 : (I_37 ln 11).toInt = (I_22 ln 11).toInt := by rw [w_38_k 11 (by decide)]
    have u_47 : (I_37 ln 12).toInt = (I_22 ln 12).toInt := by rw [w_38_k 12 (by decide)]
    have hkr := (pRf_i (b := b) (n := n) (nt := nt) (nr := nr) (h := h) (by omega)).1.1
    refine lv_aload_n F.1 F.2.1 dX1_readSecond_60 rfl (lv_at hl 1 rfl) ?_
    have hv0 := hv
    refine g_callv (g_runV (As := []) (rest := []) (ci := 1) F hl.1 hH hS hz (c_X1_stepg l g gh q b n tl nr nt cl h I_37 R J AI AJ AR a hv hp.1 (by first | exact hp.2.2.2.2.2.2.2 | exact hh | omega) hP (by first | exact hp.2.2.1 | exact hq) (by omega)) (cwV 0 F.2.2.2.2.1 gX1_readSecond_X1_step rfl rfl rfl hdX1_step ⟨Nat.le_of_ble_eq_true rfl, Nat.le_of_ble_eq_true rfl⟩) hp.1 (by decide) rfl rfl rfl (Nat.le_of_ble_eq_true rfl) dX1_readSecond_61 ⟨Nat.zero_le _, Nat.zero_le _⟩) hS (fun I_48 R_49 J_50 AI_51 AJ_52 AR_53 H locs hp_54 hH hS => ?_)
    dsimp only at hp_54
    obtain ⟨rfl, rfl, rfl, rfl, rfl, hv, fs, hs, hP⟩ := hp_54
    have hP : pH gh AR I_48 J AI AJ a q b n tl nr nt cl (h + 1) := hP
    obtain ⟨hp, pfq, fls⟩ := pS_step hv0 hp fs hs
    have pf := pF_t pf pfq
    have u_55q : (I_48 q 1).toInt = (I_37 q 1).toInt := by rw [pF_q hp pfq]
    have u_55_0 : (I_48 ln 0).toInt = (I_37 ln 0).toInt := by rw [fls]
    have u_55_8 : (I_48 ln 8).toInt = (I_37 ln 8).toInt := by rw [fls]
    have u_56 : (I_48 ln 2).toInt = (I_37 ln 2).toInt := by rw [fls]
    have u_57 : (I_48 ln 3).toInt = (I_37 ln 3).toInt := by rw [fls]
    have u_58 : (I_48 ln 4).toInt = (I_37 ln 4).toInt := by rw [fls]
    have u_59 : (I_48 ln 5).toInt = (I_37 ln 5).toInt := by rw [fls]
    have u_60 : (I_48 ln 6).toInt = (I_37 ln 6).toInt := by rw [fls]
    have u_61 : (I_48 ln 9).toInt = (I_37 ln 9).toInt := by rw [fls]
    have u_62 : (I_48 ln 10).toInt = (I_37 ln 10).toInt := by rw [fls]
    have u_63 : (I_48 ln 11).toInt = (I_37 ln 11).toInt := by rw [fls]
    have u_64 : (I_48 ln 12).toInt = (I_37 ln 12).toInt := by rw [fls]
    refine lv_iload_n F.1 F.2.1 dX1_readSecond_64 rfl (lv_at hl 0 rfl) ?_
    have hfin : sRl b n nr nt cl h = (v_7, h + 1, cF b n nr nt cl h) := by
      unfold sRl
      repeat (first | with_reducible rfl | refine ite_y (by omega) ?_ | refine ite_n (by omega) ?_ | exact pr_e (by omega) (by omega) (by omega))
    exact g_iret F hr hlk hH hS hz zv_7 ⟨rfl, rfl, rfl, rfl, rfl, hv, hp, pf, by first | omega | rfl | (dsimp only; omega), by first | omega | rfl | (dsimp only; omega), by (try dsimp only); rw [hfin]; first | done | omega | rfl, by (try dsimp only); rw [hfin]; exact hP, by (try dsimp only); omega, by (try dsimp only); first | exact pIm_n (by omega) | (rw [hfin]; (try dsimp only); exact pIm_y (by first | omega | rfl)) | exact pIm_y (by omega), by (try dsimp only); first | exact zIf_n (by omega) | exact zIf_y (by omega)⟩ dX1_readSecond_65
