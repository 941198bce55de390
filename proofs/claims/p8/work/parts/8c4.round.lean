def rmX6_setKeyf : Room := { frames := 0, cells := 0, slots := 0, locals := 0 }
set_option maxHeartbeats 4000000 in
set_option maxRecDepth 100000 in
/-- a key -/
theorem c_X6_setKeyf (l : Launch) (g : gG) (gh : gGh) (pA bA nA : Nat) (I : gI) (R : gR) (J : gJ) (AI : gI) (AJ : gJ) (AR : gR) (x : Nat) (cols : Int) (ca : Int) (cb : Int) (c3 : Int) (c4 : Int) (zcols : zr cols) (zca : zr ca) (zcb : zr cb) (zc3 : zr c3) (zc4 : zr c4) (hv : gInv g gh R AR I AI) (hx : xS g gh R AR x pA bA nA) : gMet l g yX6_setKey wsX6_setKey rmX6_setKeyf [.ref x, .int (iI cols), .int (iI ca), .int (iI cb), .int (iI c3), .int (iI c4)] (I, R, J, AI, AJ, AR) (gQv g (fun w : gS => I = w.1 ∧ R = w.2.1 ∧ J = w.2.2.1 ∧ AJ = w.2.2.2.2.1 ∧ AR = w.2.2.2.2.2 ∧ (gInv g gh R AR I (w.2.2.2.1)) ∧ (∀ b, b ≠ gh 29 0 → (w.2.2.2.1) b = AI b) ∧ (∀ j, j < 4 → (w.2.2.2.1) (gh 29 0) j = tg (kyT cols ca cb c3 c4) j))) := by
  refine gStart (cc := cX6_setKey) (maxL := 6) (ret := none) (by decide) rfl (Nat.le_of_ble_eq_true rfl) ?_
  intro p e s m below meth c ls F hr hlk hH hz hS hl
  have hl : lv_has ls 6 [(0, .ref x), (1, .int (iI cols)), (2, .int (iI ca)), (3, .int (iI cb)), (4, .int (iI c3)), (5, .int (iI c4))] := hl
  have hS : va_S (gA g) s.heap s.heap [] := hS
  obtain ⟨H, hHe⟩ : ∃ H : Heap, H = s.heap := ⟨_, rfl⟩
  obtain ⟨locs, hlo⟩ : ∃ k : List Loc, k = [] := ⟨_, rfl⟩
  have hH : gH g I R J AI AJ AR H := by rw [hHe]; exact hH
  have hS : va_S (gA g) s.heap H locs := by rw [hHe, hlo]; exact hS
  suffices hw : W p l e rmX6_setKeyf s m ([.ref x, .int (iI cols), .int (iI ca), .int (iI cb), .int (iI c3), .int (iI c4)] : List Value).toArray below meth c H locs 0 0 (MQ below (gQv g (fun w : gS => I = w.1 ∧ R = w.2.1 ∧ J = w.2.2.1 ∧ AJ = w.2.2.2.2.1 ∧ AR = w.2.2.2.2.2 ∧ (gInv g gh R AR I (w.2.2.2.1)) ∧ (∀ b, b ≠ gh 29 0 → (w.2.2.2.1) b = AI b) ∧ (∀ j, j < 4 → (w.2.2.2.1) (gh 29 0) j = tg (kyT cols ca cb c3 c4) j))) ([.ref x, .int (iI cols), .int (iI ca), .int (iI cb), .int (iI c3), .int (iI c4)] : List Value).toArray s 0 0 (gA g)) (F0 m 0 ls []) by
    rw [hHe, hlo] at hw; exact hw
  clear hHe hlo
  have iX6 : ∀ w ∈ u_ws RX6 TX6 18, w ∈ wsX6_setKey := (by decide +kernel)
  have k66 : Cond.fieldLink RX6 66 (TX6 12).1 (TX6 12).2.1 (TX6 12).2.2.1 ∈ wsX6_setKey := List.mem_of_getElem? (i := 1) rfl
  refine lv_aload_n F.1 F.2.1 dX6_setKey_0 rfl (lv_at hl 0 rfl) ?_
  obtain ⟨r_1a, r_1b⟩ := gR_x12 hv hx.1
  refine g_getR (ci := 6) (k := 12) F hH rfl (by decide) iX6 hx.1 (by decide) rfl (b := gh 29 0) r_1a k66 dX6_setKey_1 ?_
  refine z_iconst F dX6_setKey_4 ?_
  refine lv_iload_n F.1 F.2.1 dX6_setKey_5 rfl (lv_at hl 2 rfl) ?_
  have hx6 : 0 ≤ (0 : Int) ∧ (0 : Int) < ((5 : Nat) : Int) ∧ (0 : Int) ≤ 2147483647 := ⟨by omega, by omega, by omega⟩
  refine g_iast F hH hS r_1b hx6.1 hx6.2.1 hx6.2.2 dX6_setKey_6 (fun H locs hH hS => ?_)
  obtain ⟨AI_2, eAI_2⟩ : ∃ qQ, qQ = gup2 AI (gh 29 0) ((0 : Int)).toNat (iI (ca)) := ⟨_, rfl⟩
  rw [← eAI_2] at hH
  have kAI_2 : ∀ b, b ≠ (gh 29 0) → AI_2 b = AI b := fun b hb => by rw [eAI_2]; exact funext fun j => gup2_a _ _ hb
  have hv : gInv g gh R AR I AI_2 := gInv_plain hv (ro29 hv hx.1) kAI_2
  have key0 : AI_2 (gh 29 0) 0 = iI ca := by rw [eAI_2, gup2_e _ _ (by decide)]
  have fW : ∀ b, b ≠ gh 29 0 → AI_2 b = AI b := fun b hb => kAI_2 b hb
  refine lv_aload_n F.1 F.2.1 dX6_setKey_7 rfl (lv_at hl 0 rfl) ?_
  refine g_getR (ci := 6) (k := 12) F hH rfl (by decide) iX6 hx.1 (by decide) rfl (b := gh 29 0) r_1a k66 dX6_setKey_8 ?_
  refine z_iconst F dX6_setKey_11 ?_
  have cut_22_2 : ∀ (k2 : Int) (H : Heap) (locs : List Loc) (ls : Array Slot), zr k2 → (k2 = if 1 < cols then cb else 0) → gH g I R J AI_2 AJ AR H → va_S (gA g) s.heap H locs → lv_has ls 6 [(0, .ref x), (1, .int (iI cols)), (2, .int (iI ca)), (3, .int (iI cb)), (4, .int (iI c3)), (5, .int (iI c4))] → W p l e rmX6_setKeyf s m ([.ref x, .int (iI cols), .int (iI ca), .int (iI cb), .int (iI c3), .int (iI c4)] : List Value).toArray below meth c H locs 0 0 (MQ below (gQv g (fun w : gS => I = w.1 ∧ R = w.2.1 ∧ J = w.2.2.1 ∧ AJ = w.2.2.2.2.1 ∧ AR = w.2.2.2.2.2 ∧ (gInv g gh R AR I (w.2.2.2.1)) ∧ (∀ b, b ≠ gh 29 0 → (w.2.2.2.1) b = AI b) ∧ (∀ j, j < 4 → (w.2.2.2.1) (gh 29 0) j = tg (kyT cols ca cb c3 c4) j))) ([.ref x, .int (iI cols), .int (iI ca), .int (iI cb), .int (iI c3), .int (iI c4)] : List Value).toArray s 0 0 (gA g)) (F0 m 22 ls [.int (iI k2), .int (iI 1), .ref (gh 29 0)]) := by
    intro k2 H locs ls zk2 hk2 hH hS hl
    have hx22 : 0 ≤ (1 : Int) ∧ (1 : Int) < ((5 : Nat) : Int) ∧ (1 : Int) ≤ 2147483647 := ⟨by omega, by omega, by omega⟩
    refine g_iast F hH hS r_1b hx22.1 hx22.2.1 hx22.2.2 dX6_setKey_22 (fun H locs hH hS => ?_)
    obtain ⟨AI_4, eAI_4⟩ : ∃ qQ, qQ = gup2 AI_2 (gh 29 0) ((1 : Int)).toNat (iI (k2)) := ⟨_, rfl⟩
    rw [← eAI_4] at hH
    have kAI_4 : ∀ b, b ≠ (gh 29 0) → AI_4 b = AI_2 b := fun b hb => by rw [eAI_4]; exact funext fun j => gup2_a _ _ hb
    have hv : gInv g gh R AR I AI_4 := gInv_plain hv (ro29 hv hx.1) kAI_4
    have key0 : AI_4 (gh 29 0) 0 = iI ca := by rw [eAI_4, gup2_k _ _ (by decide)]; exact key0
    have key1 : AI_4 (gh 29 0) 1 = iI k2 := by rw [eAI_4, gup2_e _ _ (by decide)]
    have fW : ∀ b, b ≠ gh 29 0 → AI_4 b = AI b := fun b hb => (kAI_4 b hb).trans (fW b hb)
    refine lv_aload_n F.1 F.2.1 dX6_setKey_23 rfl (lv_at hl 0 rfl) ?_
    refine g_getR (ci := 6) (k := 12) F hH rfl (by decide) iX6 hx.1 (by decide) rfl (b := gh 29 0) r_1a k66 dX6_setKey_24 ?_
    refine z_iconst F dX6_setKey_27 ?_
    have cut_39_4 : ∀ (k3 : Int) (H : Heap) (locs : List Loc) (ls : Array Slot), zr k3 → (k3 = if 2 < cols then c3 else 0) → gH g I R J AI_4 AJ AR H → va_S (gA g) s.heap H locs → lv_has ls 6 [(0, .ref x), (1, .int (iI cols)), (2, .int (iI ca)), (3, .int (iI cb)), (4, .int (iI c3)), (5, .int (iI c4))] → W p l e rmX6_setKeyf s m ([.ref x, .int (iI cols), .int (iI ca), .int (iI cb), .int (iI c3), .int (iI c4)] : List Value).toArray below meth c H locs 0 0 (MQ below (gQv g (fun w : gS => I = w.1 ∧ R = w.2.1 ∧ J = w.2.2.1 ∧ AJ = w.2.2.2.2.1 ∧ AR = w.2.2.2.2.2 ∧ (gInv g gh R AR I (w.2.2.2.1)) ∧ (∀ b, b ≠ gh 29 0 → (w.2.2.2.1) b = AI b) ∧ (∀ j, j < 4 → (w.2.2.2.1) (gh 29 0) j = tg (kyT cols ca cb c3 c4) j))) ([.ref x, .int (iI cols), .int (iI ca), .int (iI cb), .int (iI c3), .int (iI c4)] : List Value).toArray s 0 0 (gA g)) (F0 m 39 ls [.int (iI k3), .int (iI 2), .ref (gh 29 0)]) := by
      intro k3 H locs ls zk3 hk3 hH hS hl
      have hx39 : 0 ≤ (2 : Int) ∧ (2 : Int) < ((5 : Nat) : Int) ∧ (2 : Int) ≤ 2147483647 := ⟨by omega, by omega, by omega⟩
      refine g_iast F hH hS r_1b hx39.1 hx39.2.1 hx39.2.2 dX6_setKey_39 (fun H locs hH hS => ?_)
      obtain ⟨AI_6, eAI_6⟩ : ∃ qQ, qQ = gup2 AI_4 (gh 29 0) ((2 : Int)).toNat (iI (k3)) := ⟨_, rfl⟩
      rw [← eAI_6] at hH
      have kAI_6 : ∀ b, b ≠ (gh 29 0) → AI_6 b = AI_4 b := fun b hb => by rw [eAI_6]; exact funext fun j => gup2_a _ _ hb
      have hv : gInv g gh R AR I AI_6 := gInv_plain hv (ro29 hv hx.1) kAI_6
      have key0 : AI_6 (gh 29 0) 0 = iI ca := by rw [eAI_6, gup2_k _ _ (by decide)]; exact key0
      have key1 : AI_6 (gh 29 0) 1 = iI k2 := by rw [eAI_6, gup2_k _ _ (by decide)]; exact key1
      have key2 : AI_6 (gh 29 0) 2 = iI k3 := by rw [eAI_6, gup2_e _ _ (by decide)]
      have fW : ∀ b, b ≠ gh 29 0 → AI_6 b = AI b := fun b hb => (kAI_6 b hb).trans (fW b hb)
      refine lv_aload_n F.1 F.2.1 dX6_setKey_40 rfl (lv_at hl 0 rfl) ?_
      refine g_getR (ci := 6) (k := 12) F hH rfl (by decide) iX6 hx.1 (by decide) rfl (b := gh 29 0) r_1a k66 dX6_setKey_41 ?_
      refine z_iconst F dX6_setKey_44 ?_
      have cut_56_6 : ∀ (k4 : Int) (H : Heap) (locs : List Loc) (ls : Array Slot), zr k4 → (k4 = if 3 < cols then c4 else 0) → gH g I R J AI_6 AJ AR H → va_S (gA g) s.heap H locs → lv_has ls 6 [(0, .ref x), (1, .int (iI cols)), (2, .int (iI ca)), (3, .int (iI cb)), (4, .int (iI c3)), (5, .int (iI c4))] → W p l e rmX6_setKeyf s m ([.ref x, .int (iI cols), .int (iI ca), .int (iI cb), .int (iI c3), .int (iI c4)] : List Value).toArray below meth c H locs 0 0 (MQ below (gQv g (fun w : gS => I = w.1 ∧ R = w.2.1 ∧ J = w.2.2.1 ∧ AJ = w.2.2.2.2.1 ∧ AR = w.2.2.2.2.2 ∧ (gInv g gh R AR I (w.2.2.2.1)) ∧ (∀ b, b ≠ gh 29 0 → (w.2.2.2.1) b = AI b) ∧ (∀ j, j < 4 → (w.2.2.2.1) (gh 29 0) j = tg (kyT cols ca cb c3 c4) j))) ([.ref x, .int (iI cols), .int (iI ca), .int (iI cb), .int (iI c3), .int (iI c4)] : List Value).toArray s 0 0 (gA g)) (F0 m 56 ls [.int (iI k4), .int (iI 3), .ref (gh 29 0)]) := by
        intro k4 H locs ls zk4 hk4 hH hS hl
        have hx56 : 0 ≤ (3 : Int) ∧ (3 : Int) < ((5 : Nat) : Int) ∧ (3 : Int) ≤ 2147483647 := ⟨by omega, by omega, by omega⟩
        refine g_iast F hH hS r_1b hx56.1 hx56.2.1 hx56.2.2 dX6_setKey_56 (fun H locs hH hS => ?_)
        obtain ⟨AI_8, eAI_8⟩ : ∃ qQ, qQ = gup2 AI_6 (gh 29 0) ((3 : Int)).toNat (iI (k4)) := ⟨_, rfl⟩
        rw [← eAI_8] at hH
        have kAI_8 : ∀ b, b ≠ (gh 29 0) → AI_8 b = AI_6 b := fun b hb => by rw [eAI_8]; exact funext fun j => gup2_a _ _ hb
        have hv : gInv g gh R AR I AI_8 := gInv_plain hv (ro29 hv hx.1) kAI_8
        have key0 : AI_8 (gh 29 0) 0 = iI ca := by rw [eAI_8, gup2_k _ _ (by decide)]; exact key0
        have key1 : AI_8 (gh 29 0) 1 = iI k2 := by rw [eAI_8, gup2_k _ _ (by decide)]; exact key1
        have key2 : AI_8 (gh 29 0) 2 = iI k3 := by rw [eAI_8, gup2_k _ _ (by decide)]; exact key2
        have key3 : AI_8 (gh 29 0) 3 = iI k4 := by rw [eAI_8, gup2_e _ _ (by decide)]
        have fW : ∀ b, b ≠ gh 29 0 → AI_8 b = AI b := fun b hb => (kAI_8 b hb).trans (fW b hb)
        exact g_vret F hr hlk hH hS hz ⟨rfl, rfl, rfl, rfl, rfl, hv, fW, kyT_of key0 key1 key2 key3 rfl hk2 hk3 hk4⟩ dX6_setKey_57
      refine lv_iload_n F.1 F.2.1 dX6_setKey_45 rfl (lv_at hl 1 rfl) ?_
      refine z_iconst F dX6_setKey_46 ?_
      refine z_icmp_le (tgt := 55) F dX6_setKey_47 (by decide) zcols ⟨by decide, by decide⟩ (fun c_9 => ?_) (fun c_9 => ?_)
      · refine z_iconst F dX6_setKey_55 ?_
        exact cut_56_6 0 H locs ls ⟨by decide, by decide⟩ (by first | exact (if_neg (by omega)).symm | exact (if_pos (by omega)).symm) hH hS (lv_sub hl [0, 1, 2, 3, 4, 5] rfl)
      · refine lv_iload F.1 F.2.1 dX6_setKey_50 (lv_at hl 5 rfl) ?_
        refine z_goto (tgt := 56) F dX6_setKey_52 (by decide) ?_
        exact cut_56_6 c4 H locs ls zc4 (by first | exact (if_neg (by omega)).symm | exact (if_pos (by omega)).symm) hH hS (lv_sub hl [0, 1, 2, 3, 4, 5] rfl)
    refine lv_iload_n F.1 F.2.1 dX6_setKey_28 rfl (lv_at hl 1 rfl) ?_
    refine z_iconst F dX6_setKey_29 ?_
    refine z_icmp_le (tgt := 38) F dX6_setKey_30 (by decide) zcols ⟨by decide, by decide⟩ (fun c_10 => ?_) (fun c_10 => ?_)
    · refine z_iconst F dX6_setKey_38 ?_
      exact cut_39_4 0 H locs ls ⟨by decide, by decide⟩ (by first | exact (if_neg (by omega)).symm | exact (if_pos (by omega)).symm) hH hS (lv_sub hl [0, 1, 2, 3, 4, 5] rfl)
    · refine lv_iload F.1 F.2.1 dX6_setKey_33 (lv_at hl 4 rfl) ?_
      refine z_goto (tgt := 39) F dX6_setKey_35 (by decide) ?_
      exact cut_39_4 c3 H locs ls zc3 (by first | exact (if_neg (by omega)).symm | exact (if_pos (by omega)).symm) hH hS (lv_sub hl [0, 1, 2, 3, 4, 5] rfl)
  refine lv_iload_n F.1 F.2.1 dX6_setKey_12 rfl (lv_at hl 1 rfl) ?_
  refine z_iconst F dX6_setKey_13 ?_
  refine z_icmp_le (tgt := 21) F dX6_setKey_14 (by decide) zcols ⟨by decide, by decide⟩ (fun c_11 => ?_) (fun c_11 => ?_)
  · refine z_iconst F dX6_setKey_21 ?_
    exact cut_22_2 0 H locs ls ⟨by decide, by decide⟩ (by first | exact (if_neg (by omega)).symm | exact (if_pos (by omega)).symm) hH hS (lv_sub hl [0, 1, 2, 3, 4, 5] rfl)
  · refine lv_iload_n F.1 F.2.1 dX6_setKey_17 rfl (lv_at hl 3 rfl) ?_
    refine z_goto (tgt := 22) F dX6_setKey_18 (by decide) ?_
    exact cut_22_2 cb H locs ls zcb (by first | exact (if_neg (by omega)).symm | exact (if_pos (by omega)).symm) hH hS (lv_sub hl [0, 1, 2, 3, 4, 5] rfl)

def rmX6_isRingf : Room := { frames := 1, cells := 0, slots := 0, locals := 21 }
set_option maxHeartbeats 4000000 in
set_option maxRecDepth 100000 in
/-- a ring -/
theorem c_X6_isRingf (l : Launch) (g : gG) (gh : gGh) (pA bA nA : Nat) (nr : Nat) (cc : Nat → LC) (I : gI) (R : gR) (J : gJ) (AI : gI) (AJ : gJ) (AR : gR) (x : Nat) (rel : Int) (zrel : zr rel) (hv : gInv g gh R AR I AI) (hx : xS g gh R AR x pA bA nA) (hlen : (I pA 1).toInt = (nr : Int)) (hln : ∀ r, r < nr → lnC (I (rob AR (gh 6 pA) r)) (AI (gh 3 (rob AR (gh 6 pA) r))) (cc r)) : gMet l g yX6_isRing wsX6_isRing rmX6_isRingf [.ref x, .int (iI rel)] (I, R, J, AI, AJ, AR) (gQi g (fun (z : Int) (w : gS) => I = w.1 ∧ R = w.2.1 ∧ J = w.2.2.1 ∧ AI = w.2.2.2.1 ∧ AJ = w.2.2.2.2.1 ∧ AR = w.2.2.2.2.2 ∧ ((z = 0 ∨ z = 1) ∧ (z = 1 → 0 ≤ rel ∧ rel < (I pA 1).toInt ∧ rel ≤ 15)) ∧ (tIz z ((0 ≤ rel ∧ rel < (nr : Int)) ∧ (cc rel.toNat).1 0 = 8)))) := by
  refine gStart (cc := cX6_isRing) (maxL := 2) (ret := (some (.boolean))) (by decide) rfl (Nat.le_of_ble_eq_true rfl) ?_
  intro p e s m below meth c ls F hr hlk hH hz hS hl
  have hl : lv_has ls 2 [(0, .ref x), (1, .int (iI rel))] := hl
  have hS : va_S (gA g) s.heap s.heap [] := hS
  obtain ⟨H, hHe⟩ : ∃ H : Heap, H = s.heap := ⟨_, rfl⟩
  obtain ⟨locs, hlo⟩ : ∃ k : List Loc, k = [] := ⟨_, rfl⟩
  have hH : gH g I R J AI AJ AR H := by rw [hHe]; exact hH
  have hS : va_S (gA g) s.heap H locs := by rw [hHe, hlo]; exact hS
  suffices hw : W p l e rmX6_isRingf s m ([.ref x, .int (iI rel)] : List Value).toArray below meth c H locs 0 0 (MQ below (gQi g (fun (z : Int) (w : gS) => I = w.1 ∧ R = w.2.1 ∧ J = w.2.2.1 ∧ AI = w.2.2.2.1 ∧ AJ = w.2.2.2.2.1 ∧ AR = w.2.2.2.2.2 ∧ ((z = 0 ∨ z = 1) ∧ (z = 1 → 0 ≤ rel ∧ rel < (I pA 1).toInt ∧ rel ≤ 15)) ∧ (tIz z ((0 ≤ rel ∧ rel < (nr : Int)) ∧ (cc rel.toNat).1 0 = 8)))) ([.ref x, .int (iI rel)] : List Value).toArray s 0 0 (gA g)) (F0 m 0 ls []) by
    rw [hHe, hlo] at hw; exact hw
  clear hHe hlo
  have iX6 : ∀ w ∈ u_ws RX6 TX6 18, w ∈ wsX6_isRing := (by decide +kernel)
  have iX2 : ∀ w ∈ u_ws RX2 TX2 3, w ∈ wsX6_isRing := (by decide +kernel)
  have iX0 : ∀ w ∈ u_ws RX0 TX0 15, w ∈ wsX6_isRing := (by decide +kernel)
  have k23 : Cond.fieldLink RX6 23 (TX6 3).1 (TX6 3).2.1 (TX6 3).2.2.1 ∈ wsX6_isRing := List.mem_of_getElem? (i := 1) rfl
  have k113 : Cond.fieldLink RX6 113 (TX2 0).1 (TX2 0).2.1 (TX2 0).2.2.1 ∈ wsX6_isRing := List.mem_of_getElem? (i := 2) rfl
  have k117 : Cond.fieldLink RX6 117 (TX0 0).1 (TX0 0).2.1 (TX0 0).2.2.1 ∈ wsX6_isRing := List.mem_of_getElem? (i := 3) rfl
  refine lv_aload_n F.1 F.2.1 dX6_isRing_0 rfl (lv_at hl 0 rfl) ?_
  refine lv_iload_n F.1 F.2.1 dX6_isRing_1 rfl (lv_at hl 1 rfl) ?_
  have b_1 := gI_x hv hx.1
  refine g_calli (g_runV (As := [.int (iI rel)]) (rest := []) (ci := 6) F hl.1 hH hS hz (c_X6_isRelationf l g gh pA bA nA I R J AI AJ AR x rel zrel hv hx) (cwV 1 F.2.2.2.2.1 gX6_isRing_X6_isRelation rfl rfl rfl hdX6_isRelation ⟨Nat.le_of_ble_eq_true rfl, Nat.le_of_ble_eq_true rfl⟩) hx.1 (by decide) rfl rfl rfl (Nat.le_of_ble_eq_true rfl) dX6_isRing_2 ⟨Nat.zero_le _, Nat.zero_le _⟩) hS (fun v_8 I_2 R_3 J_4 AI_5 AJ_6 AR_7 H locs zv_8 hp_9 hH hS => ?_)
  dsimp only at hp_9
  obtain ⟨rfl, rfl, rfl, rfl, rfl, rfl, q_10, qir⟩ := hp_9
  refine z_if_eq (tgt := 29) F dX6_isRing_5 (by decide) zv_8 (fun c_11 => ?_) (fun c_11 => ?_)
  · refine z_iconst F dX6_isRing_29 ?_
    exact g_zret F hr hlk hH hS hz (by omega) ⟨rfl, rfl, rfl, rfl, rfl, rfl, ⟨by omega, fun _ => by omega⟩, tIz_f (fun h9 => by have q9 := qir (by omega); have h8 := h9.1; omega)⟩ dX6_isRing_30
  · refine lv_aload_n F.1 F.2.1 dX6_isRing_8 rfl (lv_at hl 0 rfl) ?_
    refine g_getR (ci := 6) (k := 3) F hH rfl (by decide) iX6 hx.1 (by decide) rfl (b := pA) hx.2.1 k23 dX6_isRing_9 ?_
    obtain ⟨r_12a, r_12b⟩ := gR_lines hv hx.2.2.1
    refine g_getR (ci := 2) (k := 0) F hH rfl (by decide) iX2 hx.2.2.1 (by decide) rfl (b := gh 6 pA) r_12a k113 dX6_isRing_12 ?_
    refine lv_iload_n F.1 F.2.1 dX6_isRing_15 rfl (lv_at hl 1 rfl) ?_
    have hx16 : 0 ≤ rel ∧ rel < ((16 : Nat) : Int) ∧ rel ≤ 2147483647 := ⟨by omega, by omega, by omega⟩
    obtain ⟨y_13, y_13a, y_13b, y_13c, y_13d⟩ := gA_lines hv hx.2.2.1 (z := rel) (by omega) (by omega)
    refine g_aldL F hH r_12b hx16.1 hx16.2.1 hx16.2.2 (b := y_13) y_13a dX6_isRing_16 ?_
    have hl9 := (hln rel.toNat (by omega)).1
    rw [rob_e y_13a] at hl9
    refine g_getI (ci := 0) (k := 0) F hH rfl (by decide) iX0 y_13b (by decide) rfl k117 dX6_isRing_17 ?_
    have b_14 := gI_line hv y_13b
    unfold vLineI at b_14
    refine z_bipush F dX6_isRing_20 (by decide) ?_
    refine z_icmp_ne (tgt := 29) F dX6_isRing_22 (by decide) (zr_t _) ⟨by decide, by decide⟩ (fun c_15 => ?_) (fun c_15 => ?_)
    · refine z_iconst F dX6_isRing_29 ?_
      exact g_zret F hr hlk hH hS hz (by omega) ⟨rfl, rfl, rfl, rfl, rfl, rfl, ⟨by omega, fun _ => by omega⟩, tIz_f (fun h9 => by have h8 := h9.2; have h7 := hl9.1; omega)⟩ dX6_isRing_30
    · refine z_iconst F dX6_isRing_25 ?_
      refine z_goto (tgt := 30) F dX6_isRing_26 (by decide) ?_
      exact g_zret F hr hlk hH hS hz (by omega) ⟨rfl, rfl, rfl, rfl, rfl, rfl, ⟨by omega, fun _ => by omega⟩, tIz_t ⟨by omega, by have h9 := hl9.1; omega⟩⟩ dX6_isRing_30
