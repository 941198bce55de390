def rmL_pendingj : Room := { frames := 7, cells := 1, slots := 6, locals := 105 }
set_option maxHeartbeats 4000000 in
set_option maxRecDepth 100000 in
/-- pending, caught -/
theorem c_L_pendingj (l : Launch) (g : gG) (gh : gGh) (pA bA nA : Nat) (I : gI) (R : gR) (J : gJ) (AI : gI) (AJ : gJ) (AR : gR) (x : Nat) (i : Int) (pl : Int) (ou : Nat) (zi : zr i) (zpl : zr pl) (hv : gInv g gh R AR I AI) (hx : xS g gh R AR x pA bA nA) (hou : gAr g ou 10 1) (hst : l.stackTraces = false) : gMetX l g yL_pending tsL_pending rmL_pendingj [.ref x, .int (iI i), .int (iI pl), .ref ou] (I, R, J, AI, AJ, AR) (gQi g (fun (z : Int) (w : gS) => I = w.1 ∧ R = w.2.1 ∧ J = w.2.2.1 ∧ AI = w.2.2.2.1 ∧ AR = w.2.2.2.2.2 ∧ (gInv g gh R AR I AI) ∧ (z = 0 ∨ z = 1) ∧ (∀ b, b ≠ ou → (w.2.2.2.2.1) b = AJ b))) (fun _ : gS => False) := by
  refine gStartW (cc := cL_pending) (maxL := 5) (ret := (some (.int))) (by decide) rfl (Nat.le_of_ble_eq_true rfl) ?_
  intro p e s m below meth c ls F hr hlk hH hz hS hxt hTh hl
  have hl : lv_has ls 5 [(0, .ref x), (1, .int (iI i)), (2, .int (iI pl)), (3, .ref ou)] := hl
  have hS : va_S (gA g) s.heap s.heap [] := hS
  obtain ⟨H, hHe⟩ : ∃ H : Heap, H = s.heap := ⟨_, rfl⟩
  obtain ⟨locs, hlo⟩ : ∃ k : List Loc, k = [] := ⟨_, rfl⟩
  have hH : gH g I R J AI AJ AR H := by rw [hHe]; exact hH
  have hS : va_S (gA g) s.heap H locs := by rw [hHe, hlo]; exact hS
  suffices hw : W p l e rmL_pendingj s m ([.ref x, .int (iI i), .int (iI pl), .ref ou] : List Value).toArray below meth c H locs 0 0 (vx_MQ below (gQi g (fun (z : Int) (w : gS) => I = w.1 ∧ R = w.2.1 ∧ J = w.2.2.1 ∧ AI = w.2.2.2.1 ∧ AR = w.2.2.2.2.2 ∧ (gInv g gh R AR I AI) ∧ (z = 0 ∨ z = 1) ∧ (∀ b, b ≠ ou → (w.2.2.2.2.1) b = AJ b))) (vx_X (fun _ : gS => False) (gBX g) (gA g)) ([.ref x, .int (iI i), .int (iI pl), .ref ou] : List Value).toArray s 1 6 (gA g)) (F0 m 0 ls []) by
    rw [hHe, hlo] at hw; exact hw
  clear hHe hlo
  refine lv_aload_n F.1 F.2.1 dL_pending_0 rfl (lv_at hl 3 rfl) ?_
  refine z_iconst F dL_pending_1 ?_
  refine lv_aload_n F.1 F.2.1 dL_pending_2 rfl (lv_at hl 0 rfl) ?_
  refine lv_iload_n F.1 F.2.1 dL_pending_3 rfl (lv_at hl 1 rfl) ?_
  refine lv_iload_n F.1 F.2.1 dL_pending_4 rfl (lv_at hl 2 rfl) ?_
  refine g_calliX (g_runVX (As := [.int (iI i), .int (iI pl)]) (rest := [.int (iI 0), .ref ou]) (ci := 6) F hTh hl.1 hH hS hz (c_X6_pending l g gh pA bA nA I R J AI AJ AR x i pl zi zpl hv hx hst) (cwV 2 F.2.2.2.2.1 (good_up gTB_L_pending_X6_pending) rfl rfl rfl hdX6_pending ⟨Nat.le_of_ble_eq_true rfl, Nat.le_of_ble_eq_true rfl⟩) hx.1 (by decide) rfl rfl rfl (Nat.le_of_ble_eq_true rfl) dL_pending_5 ⟨Nat.le_refl _, Nat.le_refl _⟩) hS (fun ce9 q9 I_1 R_2 J_3 AI_4 AJ_5 AR_6 H locs hp hH hS h1 h2 h3 => ?_) (fun z I_1 R_2 J_3 AI_4 AJ_5 AR_6 H locs zz hp hH hS => ?_)
  · dsimp only at hp
    obtain ⟨rfl, rfl, rfl, rfl, rfl, rfl⟩ := hp
    refine g_catch F hTh hxt (by decide) (by decide) (List.mem_cons_of_mem _ (TBm (tk4 (List.mem_of_getElem? (i := 151) rfl)) rfl)) h1 h2 h3 ?_
    refine lv_astore (lv' := [(4, .ref q9), (0, .ref x), (1, .int (iI i)), (2, .int (iI pl)), (3, .ref ou)]) F.1 F.2.1 dL_pending_13 hl (by decide) rfl (fun ls hl => ?_)
    refine z_iconst F dL_pending_15 ?_
    exact g_iretX F hr hlk hH hS hz ⟨by decide, by decide⟩ ⟨rfl, rfl, rfl, rfl, rfl, hv, by first | omega | rfl | (dsimp only; omega), fun _ _ => rfl⟩ (by decide) (by decide) dL_pending_16
  dsimp only at hp
  obtain ⟨rfl, rfl, rfl, rfl, rfl, rfl⟩ := hp
  refine lv_i2l F.1 F.2.1 dL_pending_8 rfl ?_
  refine lv_topl (fun j_7 ej_7 => ?_)
  have hx9 : 0 ≤ (0 : Int) ∧ (0 : Int) < ((1 : Nat) : Int) ∧ (0 : Int) ≤ 2147483647 := ⟨by omega, by omega, by omega⟩
  refine g_last F hH hS hou hx9.1 hx9.2.1 hx9.2.2 dL_pending_9 (fun H locs hH hS => ?_)
  obtain ⟨AJ_8, eAJ_8⟩ : ∃ qQ, qQ = gup2 AJ ou ((0 : Int)).toNat (j_7) := ⟨_, rfl⟩
  rw [← eAJ_8] at hH
  have kAJ_8 : ∀ b, b ≠ ou → AJ_8 b = AJ b := fun b hb => by rw [eAJ_8]; exact funext fun j => gup2_a _ _ hb
  refine z_goto (tgt := 17) F dL_pending_10 (by decide) ?_
  refine z_iconst F dL_pending_17 ?_
  exact g_iretX F hr hlk hH hS hz ⟨by decide, by decide⟩ ⟨rfl, rfl, rfl, rfl, rfl, hv, by first | omega | rfl | (dsimp only; omega), kAJ_8⟩ (by decide) (by decide) dL_pending_18
def rmL_columnj : Room := { frames := 7, cells := 1, slots := 6, locals := 154 }
set_option maxHeartbeats 4000000 in
set_option maxRecDepth 100000 in
/-- column, caught -/
theorem c_L_columnj (l : Launch) (g : gG) (gh : gGh) (pA bA nA : Nat) (I : gI) (R : gR) (J : gJ) (AI : gI) (AJ : gJ) (AR : gR) (x : Nat) (rel : Int) (col : Int) (wh : Int) (ou : Nat) (zrel : zr rel) (zcol : zr col) (zwh : zr wh) (hv : gInv g gh R AR I AI) (hx : xS g gh R AR x pA bA nA) (hou : gAr g ou 10 1) (hst : l.stackTraces = false) : gMetX l g yL_column tsL_column rmL_columnj [.ref x, .int (iI rel), .int (iI col), .int (iI wh), .ref ou] (I, R, J, AI, AJ, AR) (gQi g (fun (z : Int) (w : gS) => R = w.2.1 ∧ J = w.2.2.1 ∧ AR = w.2.2.2.2.2 ∧ (gInv g gh R AR (w.1) (w.2.2.2.1)) ∧ (rF g I (w.1)) ∧ (z = 0 ∨ z = 1) ∧ (∀ b, b ≠ gh 40 0 → (w.1) b = I b) ∧ (∀ b, b ≠ gh 29 0 → b ≠ gh 0 (gh 40 0) → (w.2.2.2.1) b = AI b) ∧ (∀ b, b ≠ ou → (w.2.2.2.2.1) b = AJ b))) (fun _ : gS => False) := by
  refine gStartW (cc := cL_column) (maxL := 6) (ret := (some (.int))) (by decide) rfl (Nat.le_of_ble_eq_true rfl) ?_
  intro p e s m below meth c ls F hr hlk hH hz hS hxt hTh hl
  have hl : lv_has ls 6 [(0, .ref x), (1, .int (iI rel)), (2, .int (iI col)), (3, .int (iI wh)), (4, .ref ou)] := hl
  have hS : va_S (gA g) s.heap s.heap [] := hS
  obtain ⟨H, hHe⟩ : ∃ H : Heap, H = s.heap := ⟨_, rfl⟩
  obtain ⟨locs, hlo⟩ : ∃ k : List Loc, k = [] := ⟨_, rfl⟩
  have hH : gH g I R J AI AJ AR H := by rw [hHe]; exact hH
  have hS : va_S (gA g) s.heap H locs := by rw [hHe, hlo]; exact hS
  suffices hw : W p l e rmL_columnj s m ([.ref x, .int (iI rel), .int (iI col), .int (iI wh), .ref ou] : List Value).toArray below meth c H locs 0 0 (vx_MQ below (gQi g (fun (z : Int) (w : gS) => R = w.2.1 ∧ J = w.2.2.1 ∧ AR = w.2.2.2.2.2 ∧ (gInv g gh R AR (w.1) (w.2.2.2.1)) ∧ (rF g I (w.1)) ∧ (z = 0 ∨ z = 1) ∧ (∀ b, b ≠ gh 40 0 → (w.1) b = I b) ∧ (∀ b, b ≠ gh 29 0 → b ≠ gh 0 (gh 40 0) → (w.2.2.2.1) b = AI b) ∧ (∀ b, b ≠ ou → (w.2.2.2.2.1) b = AJ b))) (vx_X (fun _ : gS => False) (gBX g) (gA g)) ([.ref x, .int (iI rel), .int (iI col), .int (iI wh), .ref ou] : List Value).toArray s 1 6 (gA g)) (F0 m 0 ls []) by
    rw [hHe, hlo] at hw; exact hw
  clear hHe hlo
  have rf : rF g I I := rF_r
  refine lv_aload F.1 F.2.1 dL_column_0 (lv_at hl 4 rfl) ?_
  refine z_iconst F dL_column_2 ?_
  refine lv_aload_n F.1 F.2.1 dL_column_3 rfl (lv_at hl 0 rfl) ?_
  refine lv_iload_n F.1 F.2.1 dL_column_4 rfl (lv_at hl 1 rfl) ?_
  refine lv_iload_n F.1 F.2.1 dL_column_5 rfl (lv_at hl 2 rfl) ?_
  refine lv_iload_n F.1 F.2.1 dL_column_6 rfl (lv_at hl 3 rfl) ?_
  refine g_calliX (g_runVX (As := [.int (iI rel), .int (iI col), .int (iI wh)]) (rest := [.int (iI 0), .ref ou]) (ci := 6) F hTh hl.1 hH hS hz (c_X6_columng l g gh pA bA nA I R J AI AJ AR x rel col wh zrel zcol zwh hv hx  hst) (cwV 3 F.2.2.2.2.1 (good_up gTB_L_column_X6_column) rfl rfl rfl hdX6_column ⟨Nat.le_of_ble_eq_true rfl, Nat.le_of_ble_eq_true rfl⟩) hx.1 (by decide) rfl rfl rfl (Nat.le_of_ble_eq_true rfl) dL_column_7 ⟨Nat.le_refl _, Nat.le_refl _⟩) hS (fun ce9 q9 I_1 R_2 J_3 AI_4 AJ_5 AR_6 H locs hp hH hS h1 h2 h3 => ?_) (fun z I_1 R_2 J_3 AI_4 AJ_5 AR_6 H locs zz hp hH hS => ?_)
  · dsimp only at hp
    obtain ⟨rfl, rfl, rfl, rfl, hv, rfq, fIq9, fAq9⟩ := hp
    have rf := rF_t rf rfq
    refine g_catch F hTh hxt (by decide) (by decide) (List.mem_cons_of_mem _ (TBm (tk4 (List.mem_of_getElem? (i := 151) rfl)) rfl)) h1 h2 h3 ?_
    refine lv_astore (lv' := [(5, .ref q9), (0, .ref x), (1, .int (iI rel)), (2, .int (iI col)), (3, .int (iI wh)), (4, .ref ou)]) F.1 F.2.1 dL_column_15 hl (by decide) rfl (fun ls hl => ?_)
    refine z_iconst F dL_column_17 ?_
    exact g_iretX F hr hlk hH hS hz ⟨by decide, by decide⟩ ⟨rfl, rfl, rfl, hv, rf, by first | omega | rfl | (dsimp only; omega), fIq9, fAq9, fun _ _ => rfl⟩ (by decide) (by decide) dL_column_18
  dsimp only at hp
  obtain ⟨rfl, rfl, rfl, rfl, hv, rfq, fIq9, fAq9⟩ := hp
  have rf := rF_t rf rfq
  have u_7p : I_1 pA = I pA := rf pA 2 hx.2.2.1 (by decide)
  have u_7p1 : (I_1 pA 1).toInt = (I pA 1).toInt := by rw [u_7p]
  have u_7p2 : (I_1 pA 2).toInt = (I pA 2).toInt := by rw [u_7p]
  refine lv_i2l F.1 F.2.1 dL_column_10 rfl ?_
  refine lv_topl (fun j_8 ej_8 => ?_)
  have hx11 : 0 ≤ (0 : Int) ∧ (0 : Int) < ((1 : Nat) : Int) ∧ (0 : Int) ≤ 2147483647 := ⟨by omega, by omega, by omega⟩
  refine g_last F hH hS hou hx11.1 hx11.2.1 hx11.2.2 dL_column_11 (fun H locs hH hS => ?_)
  obtain ⟨AJ_9, eAJ_9⟩ : ∃ qQ, qQ = gup2 AJ ou ((0 : Int)).toNat (j_8) := ⟨_, rfl⟩
  rw [← eAJ_9] at hH
  have kAJ_9 : ∀ b, b ≠ ou → AJ_9 b = AJ b := fun b hb => by rw [eAJ_9]; exact funext fun j => gup2_a _ _ hb
  refine z_goto (tgt := 19) F dL_column_12 (by decide) ?_
  refine z_iconst F dL_column_19 ?_
  exact g_iretX F hr hlk hH hS hz ⟨by decide, by decide⟩ ⟨rfl, rfl, rfl, hv, rf, by first | omega | rfl | (dsimp only; omega), fIq9, fAq9, kAJ_9⟩ (by decide) (by decide) dL_column_20
