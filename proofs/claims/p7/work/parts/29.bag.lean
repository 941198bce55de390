theorem hdX6_putBytes : yX6_putBytes.cls = RX6 ∧ yX6_putBytes.cls ≠ "java/lang/invoke/MethodHandle" ∧ yX6_putBytes.cls ≠ "java/lang/invoke/VarHandle" ∧ (parseMethodDescriptor yX6_putBytes.desc).map (fun d => d.parameters.length) = some 1 := by decide +kernel
theorem hdX6_feed : yX6_feed.cls = RX6 ∧ yX6_feed.cls ≠ "java/lang/invoke/MethodHandle" ∧ yX6_feed.cls ≠ "java/lang/invoke/VarHandle" ∧ (parseMethodDescriptor yX6_feed.desc).map (fun d => d.parameters.length) = some 3 := by decide +kernel
def rmX6_end : Room := { frames := 0, cells := 0, slots := 0, locals := 0 }
theorem hdX6_end : yX6_end.cls = RX6 ∧ yX6_end.cls ≠ "java/lang/invoke/MethodHandle" ∧ yX6_end.cls ≠ "java/lang/invoke/VarHandle" ∧ (parseMethodDescriptor yX6_end.desc).map (fun d => d.parameters.length) = some 1 := by decide +kernel
set_option maxHeartbeats 4000000 in
set_option maxRecDepth 100000 in
/-- cuts the tape -/
theorem c_X6_end (l : Launch) (g : gG) (gh : gGh) (pA bA nA : Nat) (I : gI) (R : gR) (J : gJ) (AI : gI) (AJ : gJ) (AR : gR) (x : Nat) (n : Int) (zn : zr n) (hv : gInv g gh R AR I AI) (hx : xS g gh R AR x pA bA nA) : gMet l g yX6_end wsX6_end rmX6_end [.ref x, .int (iI n)] (I, R, J, AI, AJ, AR) (gQi g (fun (z : Int) (w : gS) => R = w.2.1 ∧ J = w.2.2.1 ∧ AI = w.2.2.2.1 ∧ AJ = w.2.2.2.2.1 ∧ AR = w.2.2.2.2.2 ∧ (gInv g gh R AR (w.1) AI) ∧ (∀ b, b ≠ x → (w.1) b = I b) ∧ (((n < 0 ∨ (I x 1).toInt < n) ∧ z = -1 ∧ ((w.1) x 1).toInt = (I x 1).toInt) ∨ (0 ≤ n ∧ n ≤ (I x 1).toInt ∧ z = n ∧ ((w.1) x 1).toInt = n)))) := by
  refine gStart (cc := cX6_end) (maxL := 2) (ret := (some (.int))) (by decide) rfl (Nat.le_of_ble_eq_true rfl) ?_
  intro p e s m below meth c ls F hr hlk hH hz hS hl
  have hl : lv_has ls 2 [(0, .ref x), (1, .int (iI n))] := hl
  have hS : va_S (gA g) s.heap s.heap [] := hS
  obtain ⟨H, hHe⟩ : ∃ H : Heap, H = s.heap := ⟨_, rfl⟩
  obtain ⟨locs, hlo⟩ : ∃ k : List Loc, k = [] := ⟨_, rfl⟩
  have hH : gH g I R J AI AJ AR H := by rw [hHe]; exact hH
  have hS : va_S (gA g) s.heap H locs := by rw [hHe, hlo]; exact hS
  suffices hw : W p l e rmX6_end s m ([.ref x, .int (iI n)] : List Value).toArray below meth c H locs 0 0 (MQ below (gQi g (fun (z : Int) (w : gS) => R = w.2.1 ∧ J = w.2.2.1 ∧ AI = w.2.2.2.1 ∧ AJ = w.2.2.2.2.1 ∧ AR = w.2.2.2.2.2 ∧ (gInv g gh R AR (w.1) AI) ∧ (∀ b, b ≠ x → (w.1) b = I b) ∧ (((n < 0 ∨ (I x 1).toInt < n) ∧ z = -1 ∧ ((w.1) x 1).toInt = (I x 1).toInt) ∨ (0 ≤ n ∧ n ≤ (I x 1).toInt ∧ z = n ∧ ((w.1) x 1).toInt = n)))) ([.ref x, .int (iI n)] : List Value).toArray s 0 0 (gA g)) (F0 m 0 ls []) by
    rw [hHe, hlo] at hw; exact hw
  clear hHe hlo
  have iX6 : ∀ w ∈ u_ws RX6 TX6 18, w ∈ wsX6_end := (by decide +kernel)
  have k77 : Cond.fieldLink RX6 77 (TX6 1).1 (TX6 1).2.1 (TX6 1).2.2.1 ∈ wsX6_end := List.mem_of_getElem? (i := 1) rfl
  refine lv_iload_n F.1 F.2.1 dX6_end_0 rfl (lv_at hl 1 rfl) ?_
  refine z_if_lt (tgt := 12) F dX6_end_1 (by decide) zn (fun c_1 => ?_) (fun c_1 => ?_)
  · refine z_iconst F dX6_end_12 ?_
    exact g_iret F hr hlk hH hS hz ⟨by decide, by decide⟩ ⟨rfl, rfl, rfl, rfl, rfl, hv, fun _ _ => rfl, by first | omega | rfl | (dsimp only; omega)⟩ dX6_end_13
  · refine lv_iload_n F.1 F.2.1 dX6_end_4 rfl (lv_at hl 1 rfl) ?_
    refine lv_aload_n F.1 F.2.1 dX6_end_5 rfl (lv_at hl 0 rfl) ?_
    refine g_getI (ci := 6) (k := 1) F hH rfl (by decide) iX6 hx.1 (by decide) rfl k77 dX6_end_6 ?_
    have b_2 := gI_x hv hx.1
    refine z_icmp_le (tgt := 14) F dX6_end_9 (by decide) zn (zr_t _) (fun c_3 => ?_) (fun c_3 => ?_)
    · refine lv_aload_n F.1 F.2.1 dX6_end_14 rfl (lv_at hl 0 rfl) ?_
      refine lv_iload_n F.1 F.2.1 dX6_end_15 rfl (lv_at hl 1 rfl) ?_
      refine g_putI (ci := 6) (k := 1) F hH hS rfl (by decide) iX6 hx.1 (by decide) tyX6 tyX6_ok nmX6 rfl rfl rfl k77 dX6_end_16 (fun H locs hH hS => ?_)
      obtain ⟨I_4, eI_4⟩ : ∃ qQ, qQ = gup2 I x 1 (iI (n)) := ⟨_, rfl⟩
      rw [← eI_4] at hH
      have kI_4 : ∀ b, b ≠ x → I_4 b = I b := fun b hb => by rw [eI_4]; exact funext fun j => gup2_a _ _ hb
      have w_5 : (I_4 x 1).toInt = n := by rw [eI_4, gup2_s]; exact iI_val ⟨by omega, by omega⟩
      have hv : gInv g gh R AR I_4 AI := by rw [eI_4]; exact gInv_x1 hv hx.1 (by omega) (by omega)
      have w_5_14 : (I_4 x 14).toInt = (I x 14).toInt := by rw [eI_4, gup2_k _ _ (by decide)]
      have w_5_15 : (I_4 x 15).toInt = (I x 15).toInt := by rw [eI_4, gup2_k _ _ (by decide)]
      refine lv_iload_n F.1 F.2.1 dX6_end_19 rfl (lv_at hl 1 rfl) ?_
      exact g_iret F hr hlk hH hS hz zn ⟨rfl, rfl, rfl, rfl, rfl, hv, fun b hb => kI_4 b hb, by first | omega | rfl | (dsimp only; omega)⟩ dX6_end_20
    · refine z_iconst F dX6_end_12 ?_
      exact g_iret F hr hlk hH hS hz ⟨by decide, by decide⟩ ⟨rfl, rfl, rfl, rfl, rfl, hv, fun _ _ => rfl, by first | omega | rfl | (dsimp only; omega)⟩ dX6_end_13

def rmX6_isRelation : Room := { frames := 0, cells := 0, slots := 0, locals := 0 }
theorem hdX6_isRelation : yX6_isRelation.cls = RX6 ∧ yX6_isRelation.cls ≠ "java/lang/invoke/MethodHandle" ∧ yX6_isRelation.cls ≠ "java/lang/invoke/VarHandle" ∧ (parseMethodDescriptor yX6_isRelation.desc).map (fun d => d.parameters.length) = some 1 := by decide +kernel
set_option maxHeartbeats 4000000 in
set_option maxRecDepth 100000 in
/-- a relation -/
theorem c_X6_isRelation (l : Launch) (g : gG) (gh : gGh) (pA bA nA : Nat) (I : gI) (R : gR) (J : gJ) (AI : gI) (AJ : gJ) (AR : gR) (x : Nat) (rel : Int) (zrel : zr rel) (hv : gInv g gh R AR I AI) (hx : xS g gh R AR x pA bA nA) : gMet l g yX6_isRelation wsX6_isRelation rmX6_isRelation [.ref x, .int (iI rel)] (I, R, J, AI, AJ, AR) (gQi g (fun (z : Int) (w : gS) => I = w.1 ∧ R = w.2.1 ∧ J = w.2.2.1 ∧ AI = w.2.2.2.1 ∧ AJ = w.2.2.2.2.1 ∧ AR = w.2.2.2.2.2 ∧ ((z = 0 ∨ z = 1) ∧ (z = 1 → 0 ≤ rel ∧ rel < (I pA 1).toInt ∧ rel ≤ 15)))) := by
  refine gStart (cc := cX6_isRelation) (maxL := 2) (ret := (some (.boolean))) (by decide) rfl (Nat.le_of_ble_eq_true rfl) ?_
  intro p e s m below meth c ls F hr hlk hH hz hS hl
  have hl : lv_has ls 2 [(0, .ref x), (1, .int (iI rel))] := hl
  have hS : va_S (gA g) s.heap s.heap [] := hS
  obtain ⟨H, hHe⟩ : ∃ H : Heap, H = s.heap := ⟨_, rfl⟩
  obtain ⟨locs, hlo⟩ : ∃ k : List Loc, k = [] := ⟨_, rfl⟩
  have hH : gH g I R J AI AJ AR H := by rw [hHe]; exact hH
  have hS : va_S (gA g) s.heap H locs := by rw [hHe, hlo]; exact hS
  suffices hw : W p l e rmX6_isRelation s m ([.ref x, .int (iI rel)] : List Value).toArray below meth c H locs 0 0 (MQ below (gQi g (fun (z : Int) (w : gS) => I = w.1 ∧ R = w.2.1 ∧ J = w.2.2.1 ∧ AI = w.2.2.2.1 ∧ AJ = w.2.2.2.2.1 ∧ AR = w.2.2.2.2.2 ∧ ((z = 0 ∨ z = 1) ∧ (z = 1 → 0 ≤ rel ∧ rel < (I pA 1).toInt ∧ rel ≤ 15)))) ([.ref x, .int (iI rel)] : List Value).toArray s 0 0 (gA g)) (F0 m 0 ls []) by
    rw [hHe, hlo] at hw; exact hw
  clear hHe hlo
  have iX6 : ∀ w ∈ u_ws RX6 TX6 18, w ∈ wsX6_isRelation := (by decide +kernel)
  have iX2 : ∀ w ∈ u_ws RX2 TX2 3, w ∈ wsX6_isRelation := (by decide +kernel)
  have k23 : Cond.fieldLink RX6 23 (TX6 3).1 (TX6 3).2.1 (TX6 3).2.2.1 ∈ wsX6_isRelation := List.mem_of_getElem? (i := 1) rfl
  have k96 : Cond.fieldLink RX6 96 (TX2 1).1 (TX2 1).2.1 (TX2 1).2.2.1 ∈ wsX6_isRelation := List.mem_of_getElem? (i := 2) rfl
  refine lv_iload_n F.1 F.2.1 dX6_isRelation_0 rfl (lv_at hl 1 rfl) ?_
  refine z_if_lt (tgt := 19) F dX6_isRelation_1 (by decide) zrel (fun c_1 => ?_) (fun c_1 => ?_)
  · refine z_iconst F dX6_isRelation_19 ?_
    exact g_zret F hr hlk hH hS hz (by omega) ⟨rfl, rfl, rfl, rfl, rfl, rfl, ⟨by omega, fun _ => by omega⟩⟩ dX6_isRelation_20
  · refine lv_iload_n F.1 F.2.1 dX6_isRelation_4 rfl (lv_at hl 1 rfl) ?_
    refine lv_aload_n F.1 F.2.1 dX6_isRelation_5 rfl (lv_at hl 0 rfl) ?_
    refine g_getR (ci := 6) (k := 3) F hH rfl (by decide) iX6 hx.1 (by decide) rfl (b := pA) hx.2.1 k23 dX6_isRelation_6 ?_
    refine g_getI (ci := 2) (k := 1) F hH rfl (by decide) iX2 hx.2.2.1 (by decide) rfl k96 dX6_isRelation_9 ?_
    have b_2 := gI_plan hv hx.2.2.1
    refine z_icmp_ge (tgt := 19) F dX6_isRelation_12 (by decide) zrel (zr_t _) (fun c_3 => ?_) (fun c_3 => ?_)
    · refine z_iconst F dX6_isRelation_19 ?_
      exact g_zret F hr hlk hH hS hz (by omega) ⟨rfl, rfl, rfl, rfl, rfl, rfl, ⟨by omega, fun _ => by omega⟩⟩ dX6_isRelation_20
    · refine z_iconst F dX6_isRelation_15 ?_
      refine z_goto (tgt := 20) F dX6_isRelation_16 (by decide) ?_
      exact g_zret F hr hlk hH hS hz (by omega) ⟨rfl, rfl, rfl, rfl, rfl, rfl, ⟨by omega, fun _ => by omega⟩⟩ dX6_isRelation_20

def rmX6_isRing : Room := { frames := 1, cells := 0, slots := 0, locals := 21 }
theorem hdX6_isRing : yX6_isRing.cls = RX6 ∧ yX6_isRing.cls ≠ "java/lang/invoke/MethodHandle" ∧ yX6_isRing.cls ≠ "java/lang/invoke/VarHandle" ∧ (parseMethodDescriptor yX6_isRing.desc).map (fun d => d.parameters.length) = some 1 := by decide +kernel
set_option maxHeartbeats 4000000 in
set_option maxRecDepth 100000 in
/-- a ring -/
theorem c_X6_isRing (l : Launch) (g : gG) (gh : gGh) (pA bA nA : Nat) (I : gI) (R : gR) (J : gJ) (AI : gI) (AJ : gJ) (AR : gR) (x : Nat) (rel : Int) (zrel : zr rel) (hv : gInv g gh R AR I AI) (hx : xS g gh R AR x pA bA nA) : gMet l g yX6_isRing wsX6_isRing rmX6_isRing [.ref x, .int (iI rel)] (I, R, J, AI, AJ, AR) (gQi g (fun (z : Int) (w : gS) => I = w.1 ∧ R = w.2.1 ∧ J = w.2.2.1 ∧ AI = w.2.2.2.1 ∧ AJ = w.2.2.2.2.1 ∧ AR = w.2.2.2.2.2 ∧ ((z = 0 ∨ z = 1) ∧ (z = 1 → 0 ≤ rel ∧ rel < (I pA 1).toInt ∧ rel ≤ 15)))) := by
  refine gStart (cc := cX6_isRing) (maxL := 2) (ret := (some (.boolean))) (by decide) rfl (Nat.le_of_ble_eq_true rfl) ?_
  intro p e s m below meth c ls F hr hlk hH hz hS hl
  have hl : lv_has ls 2 [(0, .ref x), (1, .int (iI rel))] := hl
  have hS : va_S (gA g) s.heap s.heap [] := hS
  obtain ⟨H, hHe⟩ : ∃ H : Heap, H = s.heap := ⟨_, rfl⟩
  obtain ⟨locs, hlo⟩ : ∃ k : List Loc, k = [] := ⟨_, rfl⟩
  have hH : gH g I R J AI AJ AR H := by rw [hHe]; exact hH
  have hS : va_S (gA g) s.heap H locs := by rw [hHe, hlo]; exact hS
  suffices hw : W p l e rmX6_isRing s m ([.ref x, .int (iI rel)] : List Value).toArray below meth c H locs 0 0 (MQ below (gQi g (fun (z : Int) (w : gS) => I = w.1 ∧ R = w.2.1 ∧ J = w.2.2.1 ∧ AI = w.2.2.2.1 ∧ AJ = w.2.2.2.2.1 ∧ AR = w.2.2.2.2.2 ∧ ((z = 0 ∨ z = 1) ∧ (z = 1 → 0 ≤ rel ∧ rel < (I pA 1).toInt ∧ rel ≤ 15)))) ([.ref x, .int (iI rel)] : List Value).toArray s 0 0 (gA g)) (F0 m 0 ls []) by
    rw [hHe, hlo] at hw; exact hw
  clear hHe hlo
  have iX6 : ∀ w ∈ u_ws RX6 TX6 18, w ∈ wsX6_isRing := (by decide +kernel)
  have iX2 : ∀ w ∈ u_ws RX2 TX2 3, w ∈ wsX6_isRing := (by decide +kernel)
  have iX0 : ∀ w ∈ u_ws RX0 TX0 15, w ∈ wsX6_isRing := (by decide +kernel)
  have k23 : Cond.fieldLink RX6 23 (TX6 3).1 (TX6 3).2.1 (TX6 3).2.2.1 ∈ wsX6_isRing := List.mem_of_getElem? (i := 1) rfl
  have k113 : Cond.fieldLink RX6 113 (TX2 0).1 (TX2 0).2.1 (TX2 0).2.2.1 ∈ wsX6_isRing := List.mem_of_getElem? (i := 2) rfl
  have k117 : Cond.fieldLink RX6 117 (TX0 0).1 (TX0 0).2.1 (TX0 0).2.2.1 ∈ wsX6_isRing := List.mem_of_getElem? (i := 3) rfl
  refine lv_aload_n F.1 F.2.1 dX6_isRing_0 rfl (lv_at hl 0 rfl) ?_
  refine lv_iload_n F.1 F.2.1 dX6_isRing_1 rfl (lv_at hl 1 rfl) ?_
  have b_1 := gI_x hv hx.1
  refine g_calli (g_runV (As := [.int (iI rel)]) (rest := []) (ci := 6) F hl.1 hH hS hz (c_X6_isRelation l g gh pA bA nA I R J AI AJ AR x rel zrel hv hx) (cwV 1 F.2.2.2.2.1 gX6_isRing_X6_isRelation rfl rfl rfl hdX6_isRelation ⟨Nat.le_of_ble_eq_true rfl, Nat.le_of_ble_eq_true rfl⟩) hx.1 (by decide) rfl rfl rfl (Nat.le_of_ble_eq_true rfl) dX6_isRing_2 ⟨Nat.zero_le _, Nat.zero_le _⟩) hS (fun v_8 I_2 R_3 J_4 AI_5 AJ_6 AR_7 H locs zv_8 hp_9 hH hS => ?_)
  dsimp only at hp_9
  obtain ⟨rfl, rfl, rfl, rfl, rfl, rfl, q_10⟩ := hp_9
  refine z_if_eq (tgt := 29) F dX6_isRing_5 (by decide) zv_8 (fun c_11 => ?_) (fun c_11 => ?_)
  · refine z_iconst F dX6_isRing_29 ?_
    exact g_zret F hr hlk hH hS hz (by omega) ⟨rfl, rfl, rfl, rfl, rfl, rfl, ⟨by omega, fun _ => by omega⟩⟩ dX6_isRing_30
  · refine lv_aload_n F.1 F.2.1 dX6_isRing_8 rfl (lv_at hl 0 rfl) ?_
    refine g_getR (ci := 6) (k := 3) F hH rfl (by decide) iX6 hx.1 (by decide) rfl (b := pA) hx.2.1 k23 dX6_isRing_9 ?_
    obtain ⟨r_12a, r_12b⟩ := gR_lines hv hx.2.2.1
    refine g_getR (ci := 2) (k := 0) F hH rfl (by decide) iX2 hx.2.2.1 (by decide) rfl (b := gh 6 pA) r_12a k113 dX6_isRing_12 ?_
    refine lv_iload_n F.1 F.2.1 dX6_isRing_15 rfl (lv_at hl 1 rfl) ?_
    have hx16 : 0 ≤ rel ∧ rel < ((16 : Nat) : Int) ∧ rel ≤ 2147483647 := ⟨by omega, by omega, by omega⟩
    obtain ⟨y_13, y_13a, y_13b, y_13c, y_13d⟩ := gA_lines hv hx.2.2.1 (z := rel) (by omega) (by omega)
    refine g_aldL F hH r_12b hx16.1 hx16.2.1 hx16.2.2 (b := y_13) y_13a dX6_isRing_16 ?_
    refine g_getI (ci := 0) (k := 0) F hH rfl (by decide) iX0 y_13b (by decide) rfl k117 dX6_isRing_17 ?_
    have b_14 := gI_line hv y_13b
    unfold vLineI at b_14
    refine z_bipush F dX6_isRing_20 (by decide) ?_
    refine z_icmp_ne (tgt := 29) F dX6_isRing_22 (by decide) (zr_t _) ⟨by decide, by decide⟩ (fun c_15 => ?_) (fun c_15 => ?_)
    · refine z_iconst F dX6_isRing_29 ?_
      exact g_zret F hr hlk hH hS hz (by omega) ⟨rfl, rfl, rfl, rfl, rfl, rfl, ⟨by omega, fun _ => by omega⟩⟩ dX6_isRing_30
    · refine z_iconst F dX6_isRing_25 ?_
      refine z_goto (tgt := 30) F dX6_isRing_26 (by decide) ?_
      exact g_zret F hr hlk hH hS hz (by omega) ⟨rfl, rfl, rfl, rfl, rfl, rfl, ⟨by omega, fun _ => by omega⟩⟩ dX6_isRing_30

theorem hdX6_change : yX6_change.cls = RX6 ∧ yX6_change.cls ≠ "java/lang/invoke/MethodHandle" ∧ yX6_change.cls ≠ "java/lang/invoke/VarHandle" ∧ (parseMethodDescriptor yX6_change.desc).map (fun d => d.parameters.length) = some 6 := by decide +kernel
def rmX6_cancel : Room := { frames := 0, cells := 0, slots := 0, locals := 0 }
theorem hdX6_cancel : yX6_cancel.cls = RX6 ∧ yX6_cancel.cls ≠ "java/lang/invoke/MethodHandle" ∧ yX6_cancel.cls ≠ "java/lang/invoke/VarHandle" ∧ (parseMethodDescriptor yX6_cancel.desc).map (fun d => d.parameters.length) = some 0 := by decide +kernel
set_option maxHeartbeats 4000000 in
set_option maxRecDepth 100000 in
/-- empties the batch -/
theorem c_X6_cancel (l : Launch) (g : gG) (gh : gGh) (pA bA nA : Nat) (I : gI) (R : gR) (J : gJ) (AI : gI) (AJ : gJ) (AR : gR) (x : Nat) (hv : gInv g gh R AR I AI) (hx : xS g gh R AR x pA bA nA) (h37 : gh 42 0 ≠ 1) : gMet l g yX6_cancel wsX6_cancel rmX6_cancel [.ref x] (I, R, J, AI, AJ, AR) (gQi g (fun (z : Int) (w : gS) => R = w.2.1 ∧ J = w.2.2.1 ∧ AI = w.2.2.2.1 ∧ AJ = w.2.2.2.2.1 ∧ AR = w.2.2.2.2.2 ∧ (gInv g gh R AR (w.1) AI) ∧ (rF g I (w.1)) ∧ (z = (I (gh 37 0) 3).toInt) ∧ (((w.1) (gh 37 0) 3).toInt = 0))) := by
  refine gStart (cc := cX6_cancel) (maxL := 2) (ret := (some (.int))) (by decide) rfl (Nat.le_of_ble_eq_true rfl) ?_
  intro p e s m below meth c ls F hr hlk hH hz hS hl
  have hl : lv_has ls 2 [(0, .ref x)] := hl
  have hS : va_S (gA g) s.heap s.heap [] := hS
  obtain ⟨H, hHe⟩ : ∃ H : Heap, H = s.heap := ⟨_, rfl⟩
  obtain ⟨locs, hlo⟩ : ∃ k : List Loc, k = [] := ⟨_, rfl⟩
  have hH : gH g I R J AI AJ AR H := by rw [hHe]; exact hH
  have hS : va_S (gA g) s.heap H locs := by rw [hHe, hlo]; exact hS
  suffices hw : W p l e rmX6_cancel s m ([.ref x] : List Value).toArray below meth c H locs 0 0 (MQ below (gQi g (fun (z : Int) (w : gS) => R = w.2.1 ∧ J = w.2.2.1 ∧ AI = w.2.2.2.1 ∧ AJ = w.2.2.2.2.1 ∧ AR = w.2.2.2.2.2 ∧ (gInv g gh R AR (w.1) AI) ∧ (rF g I (w.1)) ∧ (z = (I (gh 37 0) 3).toInt) ∧ (((w.1) (gh 37 0) 3).toInt = 0))) ([.ref x] : List Value).toArray s 0 0 (gA g)) (F0 m 0 ls []) by
    rw [hHe, hlo] at hw; exact hw
  clear hHe hlo
  have rf : rF g I I := rF_r
  have iX6 : ∀ w ∈ u_ws RX6 TX6 18, w ∈ wsX6_cancel := (by decide +kernel)
  have iX4 : ∀ w ∈ u_ws RX4 TX4 4, w ∈ wsX6_cancel := (by decide +kernel)
  have k53 : Cond.fieldLink RX6 53 (TX6 8).1 (TX6 8).2.1 (TX6 8).2.2.1 ∈ wsX6_cancel := List.mem_of_getElem? (i := 1) rfl
  have k99 : Cond.fieldLink RX6 99 (TX4 3).1 (TX4 3).2.1 (TX4 3).2.2.1 ∈ wsX6_cancel := List.mem_of_getElem? (i := 2) rfl
  refine lv_aload_n F.1 F.2.1 dX6_cancel_0 rfl (lv_at hl 0 rfl) ?_
  obtain ⟨r_1a, r_1b, r_1c, r_1d⟩ := gR_x8 hv hx.1
  refine g_getR (ci := 6) (k := 8) F hH rfl (by decide) iX6 hx.1 (by decide) rfl (b := gh 37 0) r_1a k53 dX6_cancel_1 ?_
  refine g_getI (ci := 4) (k := 3) F hH rfl (by decide) iX4 r_1b (by decide) rfl k99 dX6_cancel_4 ?_
  obtain ⟨b_2a, b_2b, b_2c, b_2d, b_2e, b_2f, b_2g, b_2h⟩ := gI_rows hv r_1b
  refine lv_istore_n (lv' := [(1, .int (iI ((I (gh 37 0) 3).toInt))), (0, .ref x)]) F.1 F.2.1 dX6_cancel_7 rfl hl (by decide) rfl (fun ls hl => ?_)
  refine lv_aload_n F.1 F.2.1 dX6_cancel_8 rfl (lv_at hl 1 rfl) ?_
  refine g_getR (ci := 6) (k := 8) F hH rfl (by decide) iX6 hx.1 (by decide) rfl (b := gh 37 0) r_1a k53 dX6_cancel_9 ?_
  refine z_iconst F dX6_cancel_12 ?_
  refine g_putI (ci := 4) (k := 3) F hH hS rfl (by decide) iX4 r_1b (by decide) tyX4 tyX4_ok nmX4 rfl rfl rfl k99 dX6_cancel_13 (fun H locs hH hS => ?_)
  obtain ⟨I_3, eI_3⟩ : ∃ qQ, qQ = gup2 I (gh 37 0) 3 (iI (0)) := ⟨_, rfl⟩
  rw [← eI_3] at hH
  have kI_3 : ∀ b, b ≠ (gh 37 0) → I_3 b = I b := fun b hb => by rw [eI_3]; exact funext fun j => gup2_a _ _ hb
  have w_4 : (I_3 (gh 37 0) 3).toInt = 0 := by rw [eI_3, gup2_s]; exact iI_val ⟨by omega, by omega⟩
  have hv : gInv g gh R AR I_3 AI := by rw [eI_3]; exact gInv_len hv r_1b (by omega) (by omega) (by first | exact hfz | omega)
  have rf := rF_t rf (rF_o r_1b kI_3)
  refine lv_iload_n F.1 F.2.1 dX6_cancel_16 rfl (lv_at hl 0 rfl) ?_
  exact g_iret F hr hlk hH hS hz (zr_t _) ⟨rfl, rfl, rfl, rfl, rfl, hv, rf, by first | omega | rfl | (dsimp only; omega), by first | omega | rfl | (dsimp only; omega)⟩ dX6_cancel_17

def rmX6_setKey : Room := { frames := 0, cells := 0, slots := 0, locals := 0 }
theorem hdX6_setKey : yX6_setKey.cls = RX6 ∧ yX6_setKey.cls ≠ "java/lang/invoke/MethodHandle" ∧ yX6_setKey.cls ≠ "java/lang/invoke/VarHandle" ∧ (parseMethodDescriptor yX6_setKey.desc).map (fun d => d.parameters.length) = some 5 := by decide +kernel
set_option maxHeartbeats 4000000 in
set_option maxRecDepth 100000 in
/-- a key -/
theorem c_X6_setKey (l : Launch) (g : gG) (gh : gGh) (pA bA nA : Nat) (I : gI) (R : gR) (J : gJ) (AI : gI) (AJ : gJ) (AR : gR) (x : Nat) (cols : Int) (ca : Int) (cb : Int) (c3 : Int) (c4 : Int) (zcols : zr cols) (zca : zr ca) (zcb : zr cb) (zc3 : zr c3) (zc4 : zr c4) (hv : gInv g gh R AR I AI) (hx : xS g gh R AR x pA bA nA) : gMet l g yX6_setKey wsX6_setKey rmX6_setKey [.ref x, .int (iI cols), .int (iI ca), .int (iI cb), .int (iI c3), .int (iI c4)] (I, R, J, AI, AJ, AR) (gQv g (fun w : gS => I = w.1 ∧ R = w.2.1 ∧ J = w.2.2.1 ∧ AJ = w.2.2.2.2.1 ∧ AR = w.2.2.2.2.2 ∧ (gInv g gh R AR I (w.2.2.2.1)))) := by
  refine gStart (cc := cX6_setKey) (maxL := 6) (ret := none) (by decide) rfl (Nat.le_of_ble_eq_true rfl) ?_
  intro p e s m below meth c ls F hr hlk hH hz hS hl
  have hl : lv_has ls 6 [(0, .ref x), (1, .int (iI cols)), (2, .int (iI ca)), (3, .int (iI cb)), (4, .int (iI c3)), (5, .int (iI c4))] := hl
  have hS : va_S (gA g) s.heap s.heap [] := hS
  obtain ⟨H, hHe⟩ : ∃ H : Heap, H = s.heap := ⟨_, rfl⟩
  obtain ⟨locs, hlo⟩ : ∃ k : List Loc, k = [] := ⟨_, rfl⟩
  have hH : gH g I R J AI AJ AR H := by rw [hHe]; exact hH
  have hS : va_S (gA g) s.heap H locs := by rw [hHe, hlo]; exact hS
  suffices hw : W p l e rmX6_setKey s m ([.ref x, .int (iI cols), .int (iI ca), .int (iI cb), .int (iI c3), .int (iI c4)] : List Value).toArray below meth c H locs 0 0 (MQ below (gQv g (fun w : gS => I = w.1 ∧ R = w.2.1 ∧ J = w.2.2.1 ∧ AJ = w.2.2.2.2.1 ∧ AR = w.2.2.2.2.2 ∧ (gInv g gh R AR I (w.2.2.2.1)))) ([.ref x, .int (iI cols), .int (iI ca), .int (iI cb), .int (iI c3), .int (iI c4)] : List Value).toArray s 0 0 (gA g)) (F0 m 0 ls []) by
    rw [hHe, hlo] at hw; exact hw
  clear hHe hlo
  have iX6 : ∀ w ∈ u_ws RX6 TX6 18, w ∈ wsX6_setKey := (by decide +kernel)
  have k66 : Cond.fieldLink RX6 66 (TX6 12).1 (TX6 12).2.1 (TX6 12).2.2.1 ∈ wsX6_setKey := List.mem_of_getElem? (i := 1) rfl
  refine lv_aload_n F.1 F.2.1 dX6_setKey_0 rfl (lv_at hl 0 rfl) ?_
  obtain ⟨r_1a, r_1b⟩ := gR_x12 hv hx.1
  refine g_getR (ci := 6) (k := 12) F hH rfl (by decide) iX6 hx.1 (by decide) rfl (b := gh 29 0) r_1a k66 dX6_setKey_1 ?_
  refine z_iconst F dX6_setKey_4 ?_
  refine lv_iload_n F.1 F.2.1 dX6_setKey_5 rfl (lv_at hl 2 rfl) ?_
  have hx6 : 0 ≤ (0 : Int) ∧ (0 : Int) < ((5 : Nat) : Int) ∧ (0 : Int) ≤ 2147483647 := ⟨by omega, by omega, by omega⟩
  refine g_iast F hH hS r_1b hx6.1 hx6.2.1 hx6.2.2 dX6_setKey_6 (fun H locs hH hS => ?_)
  obtain ⟨AI_2, eAI_2⟩ : ∃ qQ, qQ = gup2 AI (gh 29 0) ((0 : Int)).toNat (iI (ca)) := ⟨_, rfl⟩
  rw [← eAI_2] at hH
  have kAI_2 : ∀ b, b ≠ (gh 29 0) → AI_2 b = AI b := fun b hb => by rw [eAI_2]; exact funext fun j => gup2_a _ _ hb
  have hv : gInv g gh R AR I AI_2 := gInv_plain hv (ro29 hv hx.1) kAI_2
  refine lv_aload_n F.1 F.2.1 dX6_setKey_7 rfl (lv_at hl 0 rfl) ?_
  refine g_getR (ci := 6) (k := 12) F hH rfl (by decide) iX6 hx.1 (by decide) rfl (b := gh 29 0) r_1a k66 dX6_setKey_8 ?_
  refine z_iconst F dX6_setKey_11 ?_
  have cut_22_2 : ∀ (k2 : Int) (H : Heap) (locs : List Loc) (ls : Array Slot), zr k2 → gH g I R J AI_2 AJ AR H → va_S (gA g) s.heap H locs → lv_has ls 6 [(0, .ref x), (1, .int (iI cols)), (2, .int (iI ca)), (3, .int (iI cb)), (4, .int (iI c3)), (5, .int (iI c4))] → W p l e rmX6_setKey s m ([.ref x, .int (iI cols), .int (iI ca), .int (iI cb), .int (iI c3), .int (iI c4)] : List Value).toArray below meth c H locs 0 0 (MQ below (gQv g (fun w : gS => I = w.1 ∧ R = w.2.1 ∧ J = w.2.2.1 ∧ AJ = w.2.2.2.2.1 ∧ AR = w.2.2.2.2.2 ∧ (gInv g gh R AR I (w.2.2.2.1)))) ([.ref x, .int (iI cols), .int (iI ca), .int (iI cb), .int (iI c3), .int (iI c4)] : List Value).toArray s 0 0 (gA g)) (F0 m 22 ls [.int (iI k2), .int (iI 1), .ref (gh 29 0)]) := by
    intro k2 H locs ls zk2 hH hS hl
    have hx22 : 0 ≤ (1 : Int) ∧ (1 : Int) < ((5 : Nat) : Int) ∧ (1 : Int) ≤ 2147483647 := ⟨by omega, by omega, by omega⟩
    refine g_iast F hH hS r_1b hx22.1 hx22.2.1 hx22.2.2 dX6_setKey_22 (fun H locs hH hS => ?_)
    obtain ⟨AI_4, eAI_4⟩ : ∃ qQ, qQ = gup2 AI_2 (gh 29 0) ((1 : Int)).toNat (iI (k2)) := ⟨_, rfl⟩
    rw [← eAI_4] at hH
    have kAI_4 : ∀ b, b ≠ (gh 29 0) → AI_4 b = AI_2 b := fun b hb => by rw [eAI_4]; exact funext fun j => gup2_a _ _ hb
    have hv : gInv g gh R AR I AI_4 := gInv_plain hv (ro29 hv hx.1) kAI_4
    refine lv_aload_n F.1 F.2.1 dX6_setKey_23 rfl (lv_at hl 0 rfl) ?_
    refine g_getR (ci := 6) (k := 12) F hH rfl (by decide) iX6 hx.1 (by decide) rfl (b := gh 29 0) r_1a k66 dX6_setKey_24 ?_
    refine z_iconst F dX6_setKey_27 ?_
    have cut_39_4 : ∀ (k3 : Int) (H : Heap) (locs : List Loc) (ls : Array Slot), zr k3 → gH g I R J AI_4 AJ AR H → va_S (gA g) s.heap H locs → lv_has ls 6 [(0, .ref x), (1, .int (iI cols)), (2, .int (iI ca)), (3, .int (iI cb)), (4, .int (iI c3)), (5, .int (iI c4))] → W p l e rmX6_setKey s m ([.ref x, .int (iI cols), .int (iI ca), .int (iI cb), .int (iI c3), .int (iI c4)] : List Value).toArray below meth c H locs 0 0 (MQ below (gQv g (fun w : gS => I = w.1 ∧ R = w.2.1 ∧ J = w.2.2.1 ∧ AJ = w.2.2.2.2.1 ∧ AR = w.2.2.2.2.2 ∧ (gInv g gh R AR I (w.2.2.2.1)))) ([.ref x, .int (iI cols), .int (iI ca), .int (iI cb), .int (iI c3), .int (iI c4)] : List Value).toArray s 0 0 (gA g)) (F0 m 39 ls [.int (iI k3), .int (iI 2), .ref (gh 29 0)]) := by
      intro k3 H locs ls zk3 hH hS hl
      have hx39 : 0 ≤ (2 : Int) ∧ (2 : Int) < ((5 : Nat) : Int) ∧ (2 : Int) ≤ 2147483647 := ⟨by omega, by omega, by omega⟩
      refine g_iast F hH hS r_1b hx39.1 hx39.2.1 hx39.2.2 dX6_setKey_39 (fun H locs hH hS => ?_)
      obtain ⟨AI_6, eAI_6⟩ : ∃ qQ, qQ = gup2 AI_4 (gh 29 0) ((2 : Int)).toNat (iI (k3)) := ⟨_, rfl⟩
      rw [← eAI_6] at hH
      have kAI_6 : ∀ b, b ≠ (gh 29 0) → AI_6 b = AI_4 b := fun b hb => by rw [eAI_6]; exact funext fun j => gup2_a _ _ hb
      have hv : gInv g gh R AR I AI_6 := gInv_plain hv (ro29 hv hx.1) kAI_6
      refine lv_aload_n F.1 F.2.1 dX6_setKey_40 rfl (lv_at hl 0 rfl) ?_
      refine g_getR (ci := 6) (k := 12) F hH rfl (by decide) iX6 hx.1 (by decide) rfl (b := gh 29 0) r_1a k66 dX6_setKey_41 ?_
      refine z_iconst F dX6_setKey_44 ?_
      have cut_56_6 : ∀ (k4 : Int) (H : Heap) (locs : List Loc) (ls : Array Slot), zr k4 → gH g I R J AI_6 AJ AR H → va_S (gA g) s.heap H locs → lv_has ls 6 [(0, .ref x), (1, .int (iI cols)), (2, .int (iI ca)), (3, .int (iI cb)), (4, .int (iI c3)), (5, .int (iI c4))] → W p l e rmX6_setKey s m ([.ref x, .int (iI cols), .int (iI ca), .int (iI cb), .int (iI c3), .int (iI c4)] : List Value).toArray below meth c H locs 0 0 (MQ below (gQv g (fun w : gS => I = w.1 ∧ R = w.2.1 ∧ J = w.2.2.1 ∧ AJ = w.2.2.2.2.1 ∧ AR = w.2.2.2.2.2 ∧ (gInv g gh R AR I (w.2.2.2.1)))) ([.ref x, .int (iI cols), .int (iI ca), .int (iI cb), .int (iI c3), .int (iI c4)] : List Value).toArray s 0 0 (gA g)) (F0 m 56 ls [.int (iI k4), .int (iI 3), .ref (gh 29 0)]) := by
        intro k4 H locs ls zk4 hH hS hl
        have hx56 : 0 ≤ (3 : Int) ∧ (3 : Int) < ((5 : Nat) : Int) ∧ (3 : Int) ≤ 2147483647 := ⟨by omega, by omega, by omega⟩
        refine g_iast F hH hS r_1b hx56.1 hx56.2.1 hx56.2.2 dX6_setKey_56 (fun H locs hH hS => ?_)
        obtain ⟨AI_8, eAI_8⟩ : ∃ qQ, qQ = gup2 AI_6 (gh 29 0) ((3 : Int)).toNat (iI (k4)) := ⟨_, rfl⟩
        rw [← eAI_8] at hH
        have kAI_8 : ∀ b, b ≠ (gh 29 0) → AI_8 b = AI_6 b := fun b hb => by rw [eAI_8]; exact funext fun j => gup2_a _ _ hb
        have hv : gInv g gh R AR I AI_8 := gInv_plain hv (ro29 hv hx.1) kAI_8
        exact g_vret F hr hlk hH hS hz ⟨rfl, rfl, rfl, rfl, rfl, hv⟩ dX6_setKey_57
      refine lv_iload_n F.1 F.2.1 dX6_setKey_45 rfl (lv_at hl 1 rfl) ?_
      refine z_iconst F dX6_setKey_46 ?_
      refine z_icmp_le (tgt := 55) F dX6_setKey_47 (by decide) zcols ⟨by decide, by decide⟩ (fun c_9 => ?_) (fun c_9 => ?_)
      · refine z_iconst F dX6_setKey_55 ?_
        exact cut_56_6 0 H locs ls ⟨by decide, by decide⟩ hH hS (lv_sub hl [0, 1, 2, 3, 4, 5] rfl)
      · refine lv_iload F.1 F.2.1 dX6_setKey_50 (lv_at hl 5 rfl) ?_
        refine z_goto (tgt := 56) F dX6_setKey_52 (by decide) ?_
        exact cut_56_6 c4 H locs ls zc4 hH hS (lv_sub hl [0, 1, 2, 3, 4, 5] rfl)
    refine lv_iload_n F.1 F.2.1 dX6_setKey_28 rfl (lv_at hl 1 rfl) ?_
    refine z_iconst F dX6_setKey_29 ?_
    refine z_icmp_le (tgt := 38) F dX6_setKey_30 (by decide) zcols ⟨by decide, by decide⟩ (fun c_10 => ?_) (fun c_10 => ?_)
    · refine z_iconst F dX6_setKey_38 ?_
      exact cut_39_4 0 H locs ls ⟨by decide, by decide⟩ hH hS (lv_sub hl [0, 1, 2, 3, 4, 5] rfl)
    · refine lv_iload F.1 F.2.1 dX6_setKey_33 (lv_at hl 4 rfl) ?_
      refine z_goto (tgt := 39) F dX6_setKey_35 (by decide) ?_
      exact cut_39_4 c3 H locs ls zc3 hH hS (lv_sub hl [0, 1, 2, 3, 4, 5] rfl)
  refine lv_iload_n F.1 F.2.1 dX6_setKey_12 rfl (lv_at hl 1 rfl) ?_
  refine z_iconst F dX6_setKey_13 ?_
  refine z_icmp_le (tgt := 21) F dX6_setKey_14 (by decide) zcols ⟨by decide, by decide⟩ (fun c_11 => ?_) (fun c_11 => ?_)
  · refine z_iconst F dX6_setKey_21 ?_
    exact cut_22_2 0 H locs ls ⟨by decide, by decide⟩ hH hS (lv_sub hl [0, 1, 2, 3, 4, 5] rfl)
  · refine lv_iload_n F.1 F.2.1 dX6_setKey_17 rfl (lv_at hl 3 rfl) ?_
    refine z_goto (tgt := 22) F dX6_setKey_18 (by decide) ?_
    exact cut_22_2 cb H locs ls zcb hH hS (lv_sub hl [0, 1, 2, 3, 4, 5] rfl)

def rmX6_fallsBelowZero : Room := { frames := 3, cells := 0, slots := 0, locals := 83 }
theorem hdX6_fallsBelowZero : yX6_fallsBelowZero.cls = RX6 ∧ yX6_fallsBelowZero.cls ≠ "java/lang/invoke/MethodHandle" ∧ yX6_fallsBelowZero.cls ≠ "java/lang/invoke/VarHandle" ∧ (parseMethodDescriptor yX6_fallsBelowZero.desc).map (fun d => d.parameters.length) = some 2 := by decide +kernel
set_option maxHeartbeats 4000000 in
set_option maxRecDepth 100000 in
/-- an amount below zero -/
theorem c_X6_fallsBelowZero (l : Launch) (g : gG) (gh : gGh) (pA bA nA : Nat) (I : gI) (R : gR) (J : gJ) (AI : gI) (AJ : gJ) (AR : gR) (x : Nat) (ch : Nat) (sg : Int) (zsg : zr sg) (hv : gInv g gh R AR I AI) (hx : xS g gh R AR x pA bA nA) (hch : gO g ch 4) (h5 : gh 2 ch = 5) : gMet l g yX6_fallsBelowZero wsX6_fallsBelowZero rmX6_fallsBelowZero [.ref x, .ref ch, .int (iI sg)] (I, R, J, AI, AJ, AR) (gQi g (fun (z : Int) (w : gS) => I = w.1 ∧ R = w.2.1 ∧ J = w.2.2.1 ∧ AJ = w.2.2.2.2.1 ∧ AR = w.2.2.2.2.2 ∧ (gInv g gh R AR I (w.2.2.2.1)) ∧ (z = 0 ∨ z = 1))) := by
  refine gStart (cc := cX6_fallsBelowZero) (maxL := 5) (ret := (some (.boolean))) (by decide) rfl (Nat.le_of_ble_eq_true rfl) ?_
  intro p e s m below meth c ls F hr hlk hH hz hS hl
  have hl : lv_has ls 5 [(0, .ref x), (1, .ref ch), (2, .int (iI sg))] := hl
  have hS : va_S (gA g) s.heap s.heap [] := hS
  obtain ⟨H, hHe⟩ : ∃ H : Heap, H = s.heap := ⟨_, rfl⟩
  obtain ⟨locs, hlo⟩ : ∃ k : List Loc, k = [] := ⟨_, rfl⟩
  have hH : gH g I R J AI AJ AR H := by rw [hHe]; exact hH
  have hS : va_S (gA g) s.heap H locs := by rw [hHe, hlo]; exact hS
  suffices hw : W p l e rmX6_fallsBelowZero s m ([.ref x, .ref ch, .int (iI sg)] : List Value).toArray below meth c H locs 0 0 (MQ below (gQi g (fun (z : Int) (w : gS) => I = w.1 ∧ R = w.2.1 ∧ J = w.2.2.1 ∧ AJ = w.2.2.2.2.1 ∧ AR = w.2.2.2.2.2 ∧ (gInv g gh R AR I (w.2.2.2.1)) ∧ (z = 0 ∨ z = 1))) ([.ref x, .ref ch, .int (iI sg)] : List Value).toArray s 0 0 (gA g)) (F0 m 0 ls []) by
    rw [hHe, hlo] at hw; exact hw
  clear hHe hlo
  have iX6 : ∀ w ∈ u_ws RX6 TX6 18, w ∈ wsX6_fallsBelowZero := (by decide +kernel)
  have iX4 : ∀ w ∈ u_ws RX4 TX4 4, w ∈ wsX6_fallsBelowZero := (by decide +kernel)
  have k99 : Cond.fieldLink RX6 99 (TX4 3).1 (TX4 3).2.1 (TX4 3).2.2.1 ∈ wsX6_fallsBelowZero := List.mem_of_getElem? (i := 1) rfl
  have k66 : Cond.fieldLink RX6 66 (TX6 12).1 (TX6 12).2.1 (TX6 12).2.2.1 ∈ wsX6_fallsBelowZero := List.mem_of_getElem? (i := 2) rfl
  have k38 : Cond.fieldLink RX6 38 (TX6 5).1 (TX6 5).2.1 (TX6 5).2.2.1 ∈ wsX6_fallsBelowZero := List.mem_of_getElem? (i := 3) rfl
  refine z_iconst F dX6_fallsBelowZero_0 ?_
  refine lv_istore_n (lv' := [(3, .int (iI 0)), (0, .ref x), (1, .ref ch), (2, .int (iI sg))]) F.1 F.2.1 dX6_fallsBelowZero_1 rfl hl (by decide) rfl (fun ls hl => ?_)
  have cut_2_1 : ∀ (NN : Nat) (i : Int) (AI_1 : gI) (H : Heap) (locs : List Loc) (ls : Array Slot), zr i → (gInv g gh R AR I AI_1) → (0 ≤ i ∧ i ≤ 240) → (240 - i) < ((NN : Nat) : Int) → gH g I R J AI_1 AJ AR H → va_S (gA g) s.heap H locs → lv_has ls 5 [(3, .int (iI i)), (0, .ref x), (1, .ref ch), (2, .int (iI sg))] → W p l e rmX6_fallsBelowZero s m ([.ref x, .ref ch, .int (iI sg)] : List Value).toArray below meth c H locs 0 0 (MQ below (gQi g (fun (z : Int) (w : gS) => I = w.1 ∧ R = w.2.1 ∧ J = w.2.2.1 ∧ AJ = w.2.2.2.2.1 ∧ AR = w.2.2.2.2.2 ∧ (gInv g gh R AR I (w.2.2.2.1)) ∧ (z = 0 ∨ z = 1))) ([.ref x, .ref ch, .int (iI sg)] : List Value).toArray s 0 0 (gA g)) (F0 m 2 ls []) := by
    intro NN2
    induction NN2 with
    | zero =>
      intro i AI_1 H locs ls zi hv hi hm2 hH hS hl
      exact absurd hm2 (by omega)
    | succ NN2 ih2 =>
      intro i AI_1 H locs ls zi hv hi hm2 hH hS hl
      refine lv_iload_n F.1 F.2.1 dX6_fallsBelowZero_2 rfl (lv_at hl 0 rfl) ?_
      refine lv_aload_n F.1 F.2.1 dX6_fallsBelowZero_3 rfl (lv_at hl 2 rfl) ?_
      refine g_getI (ci := 4) (k := 3) F hH rfl (by decide) iX4 hch (by decide) rfl k99 dX6_fallsBelowZero_4 ?_
      obtain ⟨b_3a, b_3b, b_3c, b_3d, b_3e, b_3f, b_3g, b_3h⟩ := gI_rows hv hch
      refine z_icmp_ge (tgt := 61) F dX6_fallsBelowZero_7 (by decide) zi (zr_t _) (fun c_4 => ?_) (fun c_4 => ?_)
      · refine z_iconst F dX6_fallsBelowZero_61 ?_
        exact g_zret F hr hlk hH hS hz (by omega) ⟨rfl, rfl, rfl, rfl, rfl, hv, by first | omega | rfl | (dsimp only; omega)⟩ dX6_fallsBelowZero_62
      · refine lv_aload_n F.1 F.2.1 dX6_fallsBelowZero_10 rfl (lv_at hl 2 rfl) ?_
        refine lv_iload_n F.1 F.2.1 dX6_fallsBelowZero_11 rfl (lv_at hl 0 rfl) ?_
        refine z_iconst F dX6_fallsBelowZero_12 ?_
        refine lv_aload_n F.1 F.2.1 dX6_fallsBelowZero_13 rfl (lv_at hl 1 rfl) ?_
        obtain ⟨r_5a, r_5b⟩ := gR_x12 hv hx.1
        refine g_getR (ci := 6) (k := 12) F hH rfl (by decide) iX6 hx.1 (by decide) rfl (b := gh 29 0) r_5a k66 dX6_fallsBelowZero_14 ?_
        refine g_callv (g_runV (As := [.int (iI i), .int (iI 1), .ref (gh 29 0)]) (rest := []) (ci := 4) F hl.1 hH hS hz (c_X4_copyKey l g gh I R J AI_1 AJ AR ch i 1 (gh 29 0) zi ⟨by decide, by decide⟩ hv hch (by omega) (by omega) r_5b (ro29 hv hx.1) (by omega) (by omega)) (cwV 3 F.2.2.2.2.1 gX6_fallsBelowZero_X4_copyKey rfl rfl rfl hdX4_copyKey ⟨Nat.le_of_ble_eq_true rfl, Nat.le_of_ble_eq_true rfl⟩) hch (by decide) rfl rfl rfl (Nat.le_of_ble_eq_true rfl) dX6_fallsBelowZero_17 ⟨Nat.zero_le _, Nat.zero_le _⟩) hS (fun I_6 R_7 J_8 AI_9 AJ_10 AR_11 H locs hp_12 hH hS => ?_)
        dsimp only at hp_12
        obtain ⟨rfl, rfl, rfl, rfl, rfl, q_13, hv⟩ := hp_12
        refine lv_aload_n F.1 F.2.1 dX6_fallsBelowZero_20 rfl (lv_at hl 1 rfl) ?_
        refine g_getR (ci := 6) (k := 5) F hH rfl (by decide) iX6 hx.1 (by decide) rfl (b := bA) hx.2.2.2.1 k38 dX6_fallsBelowZero_21 ?_
        refine lv_aload_n F.1 F.2.1 dX6_fallsBelowZero_24 rfl (lv_at hl 2 rfl) ?_
        refine lv_iload_n F.1 F.2.1 dX6_fallsBelowZero_25 rfl (lv_at hl 0 rfl) ?_
        refine z_iconst F dX6_fallsBelowZero_26 ?_
        refine g_calli (g_runV (As := [.int (iI i), .int (iI 0)]) (rest := [.ref bA]) (ci := 4) F hl.1 hH hS hz (c_X4_cell l g gh I R J AI_9 AJ AR ch i 0 zi ⟨by decide, by decide⟩ hv hch (by omega) (by omega) (by omega) (by omega)) (cwV 2 F.2.2.2.2.1 gX6_fallsBelowZero_X4_cell rfl rfl rfl hdX4_cell ⟨Nat.le_of_ble_eq_true rfl, Nat.le_of_ble_eq_true rfl⟩) hch (by decide) rfl rfl rfl (Nat.le_of_ble_eq_true rfl) dX6_fallsBelowZero_27 ⟨Nat.zero_le _, Nat.zero_le _⟩) hS (fun v_20 I_14 R_15 J_16 AI_17 AJ_18 AR_19 H locs zv_20 hp_21 hH hS => ?_)
        dsimp only at hp_21
        obtain ⟨rfl, rfl, rfl, rfl, rfl, rfl, qc⟩ := hp_21
        have hc5 := hv.2.1 ch hch h5 i.toNat (by omega)
        rw [show 6 * i.toNat = (i * 6 + 0).toNat from by omega, ← qc] at hc5
        have hx30 : 0 ≤ v_20 ∧ v_20 < ((16 : Nat) : Int) ∧ v_20 ≤ 2147483647 := ⟨by omega, by omega, by omega⟩
        obtain ⟨y_22, y_22a, y_22b, y_22c, y_22d, y_22e⟩ := hx.2.2.2.2.1.2 (v_20).toNat (by omega)
        refine g_aldR F hH hx.2.2.2.2.1.1 hx30.1 hx30.2.1 hx30.2.2 (b := y_22) y_22a dX6_fallsBelowZero_30 ?_
        refine lv_aload_n F.1 F.2.1 dX6_fallsBelowZero_31 rfl (lv_at hl 1 rfl) ?_
        refine g_getR (ci := 6) (k := 12) F hH rfl (by decide) iX6 hx.1 (by decide) rfl (b := gh 29 0) r_5a k66 dX6_fallsBelowZero_32 ?_
        obtain ⟨b_23a, b_23b, b_23c, b_23d, b_23e, b_23f, b_23g, b_23h⟩ := gI_rows hv y_22b
        refine g_calli (g_runV (As := [.ref (gh 29 0)]) (rest := []) (ci := 4) F hl.1 hH hS hz (c_X4_amountOf l g gh I R J AI_9 AJ AR y_22 (gh 29 0) hv y_22b r_5b) (cwV 1 F.2.2.2.2.1 gX6_fallsBelowZero_X4_amountOf rfl rfl rfl hdX4_amountOf ⟨Nat.le_of_ble_eq_true rfl, Nat.le_of_ble_eq_true rfl⟩) y_22b (by decide) rfl rfl rfl (Nat.le_of_ble_eq_true rfl) dX6_fallsBelowZero_35 ⟨Nat.zero_le _, Nat.zero_le _⟩) hS (fun v_30 I_24 R_25 J_26 AI_27 AJ_28 AR_29 H locs zv_30 hp_31 hH hS => ?_)
        dsimp only at hp_31
        obtain ⟨rfl, rfl, rfl, rfl, rfl, rfl⟩ := hp_31
        refine lv_istore (lv' := [(4, .int (iI v_30)), (3, .int (iI i)), (0, .ref x), (1, .ref ch), (2, .int (iI sg))]) F.1 F.2.1 dX6_fallsBelowZero_38 hl (by decide) rfl (fun ls hl => ?_)
        refine lv_iload F.1 F.2.1 dX6_fallsBelowZero_40 (lv_at hl 0 rfl) ?_
        refine lv_iload_n F.1 F.2.1 dX6_fallsBelowZero_42 rfl (lv_at hl 4 rfl) ?_
        refine lv_aload_n F.1 F.2.1 dX6_fallsBelowZero_43 rfl (lv_at hl 3 rfl) ?_
        refine lv_iload_n F.1 F.2.1 dX6_fallsBelowZero_44 rfl (lv_at hl 1 rfl) ?_
        refine g_calli (g_runV (As := [.int (iI i)]) (rest := [.int (iI sg), .int (iI v_30)]) (ci := 4) F hl.1 hH hS hz (c_X4_amount l g gh I R J AI_9 AJ AR ch i zi hv hch (by omega) (by omega)) (cwV 1 F.2.2.2.2.1 gX6_fallsBelowZero_X4_amount rfl rfl rfl hdX4_amount ⟨Nat.le_of_ble_eq_true rfl, Nat.le_of_ble_eq_true rfl⟩) hch (by decide) rfl rfl rfl (Nat.le_of_ble_eq_true rfl) dX6_fallsBelowZero_45 ⟨Nat.zero_le _, Nat.zero_le _⟩) hS (fun v_38 I_32 R_33 J_34 AI_35 AJ_36 AR_37 H locs zv_38 hp_39 hH hS => ?_)
        dsimp only at hp_39
        obtain ⟨rfl, rfl, rfl, rfl, rfl, rfl, q_40⟩ := hp_39
        refine z_imul F dX6_fallsBelowZero_48 ?_
        refine z_norm (fun v_41 zv_41 ev_41 => ?_)
        refine z_iadd F dX6_fallsBelowZero_49 ?_
        refine z_norm (fun v_42 zv_42 ev_42 => ?_)
        refine z_if_ge (tgt := 55) F dX6_fallsBelowZero_50 (by decide) zv_42 (fun c_43 => ?_) (fun c_43 => ?_)
        · refine z_iinc (lv' := [(3, .int (iI (i + 1))), (4, .int (iI v_30)), (0, .ref x), (1, .ref ch), (2, .int (iI sg))]) F dX6_fallsBelowZero_55 hl (k := 1) rfl (by decide) rfl (fun ls hl => ?_)
          refine z_goto (tgt := 2) F dX6_fallsBelowZero_58 (by decide) ?_
          exact ih2 (i + 1) AI_9 H locs ls ⟨by omega, by omega⟩ hv (by omega) (by omega) hH hS (lv_sub hl [0, 2, 3, 4] rfl)
        · refine z_iconst F dX6_fallsBelowZero_53 ?_
          exact g_zret F hr hlk hH hS hz (by omega) ⟨rfl, rfl, rfl, rfl, rfl, hv, by first | omega | rfl | (dsimp only; omega)⟩ dX6_fallsBelowZero_54
  exact cut_2_1 (((240 - 0) + 1 : Int).toNat) 0 AI H locs ls ⟨by decide, by decide⟩ hv (by omega) (by omega) hH hS (lv_sub hl [0, 1, 2, 3] rfl)

def rmX6_pickChanges : Room := { frames := 2, cells := 0, slots := 0, locals := 84 }
theorem hdX6_pickChanges : yX6_pickChanges.cls = RX6 ∧ yX6_pickChanges.cls ≠ "java/lang/invoke/MethodHandle" ∧ yX6_pickChanges.cls ≠ "java/lang/invoke/VarHandle" ∧ (parseMethodDescriptor yX6_pickChanges.desc).map (fun d => d.parameters.length) = some 2 := by decide +kernel
set_option maxHeartbeats 4000000 in
set_option maxRecDepth 100000 in
/-- the changes of a table -/
theorem c_X6_pickChanges (l : Launch) (g : gG) (gh : gGh) (pA bA nA : Nat) (I : gI) (R : gR) (J : gJ) (AI : gI) (AJ : gJ) (AR : gR) (x : Nat) (ch : Nat) (tb : Int) (ztb : zr tb) (hv : gInv g gh R AR I AI) (hx : xS g gh R AR x pA bA nA) (hch : gO g ch 4) (h5 : gh 2 ch = 5) : gMet l g yX6_pickChanges wsX6_pickChanges rmX6_pickChanges [.ref x, .ref ch, .int (iI tb)] (I, R, J, AI, AJ, AR) (gQv g (fun w : gS => R = w.2.1 ∧ J = w.2.2.1 ∧ AJ = w.2.2.2.2.1 ∧ AR = w.2.2.2.2.2 ∧ (gInv g gh R AR (w.1) (w.2.2.2.1)) ∧ (rF g I (w.1)))) := by
  refine gStart (cc := cX6_pickChanges) (maxL := 4) (ret := none) (by decide) rfl (Nat.le_of_ble_eq_true rfl) ?_
  intro p e s m below meth c ls F hr hlk hH hz hS hl
  have hl : lv_has ls 4 [(0, .ref x), (1, .ref ch), (2, .int (iI tb))] := hl
  have hS : va_S (gA g) s.heap s.heap [] := hS
  obtain ⟨H, hHe⟩ : ∃ H : Heap, H = s.heap := ⟨_, rfl⟩
  obtain ⟨locs, hlo⟩ : ∃ k : List Loc, k = [] := ⟨_, rfl⟩
  have hH : gH g I R J AI AJ AR H := by rw [hHe]; exact hH
  have hS : va_S (gA g) s.heap H locs := by rw [hHe, hlo]; exact hS
  suffices hw : W p l e rmX6_pickChanges s m ([.ref x, .ref ch, .int (iI tb)] : List Value).toArray below meth c H locs 0 0 (MQ below (gQv g (fun w : gS => R = w.2.1 ∧ J = w.2.2.1 ∧ AJ = w.2.2.2.2.1 ∧ AR = w.2.2.2.2.2 ∧ (gInv g gh R AR (w.1) (w.2.2.2.1)) ∧ (rF g I (w.1)))) ([.ref x, .ref ch, .int (iI tb)] : List Value).toArray s 0 0 (gA g)) (F0 m 0 ls []) by
    rw [hHe, hlo] at hw; exact hw
  clear hHe hlo
  have rf : rF g I I := rF_r
  have iX6 : ∀ w ∈ u_ws RX6 TX6 18, w ∈ wsX6_pickChanges := (by decide +kernel)
  have iX4 : ∀ w ∈ u_ws RX4 TX4 4, w ∈ wsX6_pickChanges := (by decide +kernel)
  have k60 : Cond.fieldLink RX6 60 (TX6 10).1 (TX6 10).2.1 (TX6 10).2.2.1 ∈ wsX6_pickChanges := List.mem_of_getElem? (i := 1) rfl
  have k99 : Cond.fieldLink RX6 99 (TX4 3).1 (TX4 3).2.1 (TX4 3).2.2.1 ∈ wsX6_pickChanges := List.mem_of_getElem? (i := 2) rfl
  have k66 : Cond.fieldLink RX6 66 (TX6 12).1 (TX6 12).2.1 (TX6 12).2.2.1 ∈ wsX6_pickChanges := List.mem_of_getElem? (i := 3) rfl
  refine lv_aload_n F.1 F.2.1 dX6_pickChanges_0 rfl (lv_at hl 0 rfl) ?_
  obtain ⟨r_1a, r_1b, r_1c, r_1d⟩ := gR_x10 hv hx.1
  refine g_getR (ci := 6) (k := 10) F hH rfl (by decide) iX6 hx.1 (by decide) rfl (b := gh 39 0) r_1a k60 dX6_pickChanges_1 ?_
  refine z_iconst F dX6_pickChanges_4 ?_
  refine g_putI (ci := 4) (k := 3) F hH hS rfl (by decide) iX4 r_1b (by decide) tyX4 tyX4_ok nmX4 rfl rfl rfl k99 dX6_pickChanges_5 (fun H locs hH hS => ?_)
  obtain ⟨I_2, eI_2⟩ : ∃ qQ, qQ = gup2 I (gh 39 0) 3 (iI (0)) := ⟨_, rfl⟩
  rw [← eI_2] at hH
  have kI_2 : ∀ b, b ≠ (gh 39 0) → I_2 b = I b := fun b hb => by rw [eI_2]; exact funext fun j => gup2_a _ _ hb
  have w_3 : (I_2 (gh 39 0) 3).toInt = 0 := by rw [eI_2, gup2_s]; exact iI_val ⟨by omega, by omega⟩
  have hv : gInv g gh R AR I_2 AI := by rw [eI_2]; exact gInv_len hv r_1b (by omega) (by omega) (by first | exact hfz | omega)
  have rf := rF_t rf (rF_o r_1b kI_2)
  refine z_iconst F dX6_pickChanges_8 ?_
  refine lv_istore_n (lv' := [(3, .int (iI 0)), (0, .ref x), (1, .ref ch), (2, .int (iI tb))]) F.1 F.2.1 dX6_pickChanges_9 rfl hl (by decide) rfl (fun ls hl => ?_)
  have cut_10_5 : ∀ (NN : Nat) (i : Int) (I_4 : gI) (AI_5 : gI) (H : Heap) (locs : List Loc) (ls : Array Slot), zr i → (gInv g gh R AR I_4 AI_5) → (rF g I I_4) → (0 ≤ i ∧ i ≤ 240) → (240 - i) < ((NN : Nat) : Int) → gH g I_4 R J AI_5 AJ AR H → va_S (gA g) s.heap H locs → lv_has ls 4 [(3, .int (iI i)), (0, .ref x), (1, .ref ch), (2, .int (iI tb))] → W p l e rmX6_pickChanges s m ([.ref x, .ref ch, .int (iI tb)] : List Value).toArray below meth c H locs 0 0 (MQ below (gQv g (fun w : gS => R = w.2.1 ∧ J = w.2.2.1 ∧ AJ = w.2.2.2.2.1 ∧ AR = w.2.2.2.2.2 ∧ (gInv g gh R AR (w.1) (w.2.2.2.1)) ∧ (rF g I (w.1)))) ([.ref x, .ref ch, .int (iI tb)] : List Value).toArray s 0 0 (gA g)) (F0 m 10 ls []) := by
    intro NN10
    induction NN10 with
    | zero =>
      intro i I_4 AI_5 H locs ls zi hv rf hi hm10 hH hS hl
      exact absurd hm10 (by omega)
    | succ NN10 ih10 =>
      intro i I_4 AI_5 H locs ls zi hv rf hi hm10 hH hS hl
      refine lv_iload_n F.1 F.2.1 dX6_pickChanges_10 rfl (lv_at hl 0 rfl) ?_
      refine lv_aload_n F.1 F.2.1 dX6_pickChanges_11 rfl (lv_at hl 2 rfl) ?_
      refine g_getI (ci := 4) (k := 3) F hH rfl (by decide) iX4 hch (by decide) rfl k99 dX6_pickChanges_12 ?_
      obtain ⟨b_7a, b_7b, b_7c, b_7d, b_7e, b_7f, b_7g, b_7h⟩ := gI_rows hv hch
      refine z_icmp_ge (tgt := 68) F dX6_pickChanges_15 (by decide) zi (zr_t _) (fun c_8 => ?_) (fun c_8 => ?_)
      · exact g_vret F hr hlk hH hS hz ⟨rfl, rfl, rfl, rfl, hv, rf⟩ dX6_pickChanges_68
      · refine lv_aload_n F.1 F.2.1 dX6_pickChanges_18 rfl (lv_at hl 2 rfl) ?_
        refine lv_iload_n F.1 F.2.1 dX6_pickChanges_19 rfl (lv_at hl 0 rfl) ?_
        refine z_iconst F dX6_pickChanges_20 ?_
        refine g_calli (g_runV (As := [.int (iI i), .int (iI 0)]) (rest := []) (ci := 4) F hl.1 hH hS hz (c_X4_cell l g gh I_4 R J AI_5 AJ AR ch i 0 zi ⟨by decide, by decide⟩ hv hch (by omega) (by omega) (by omega) (by omega)) (cwV 2 F.2.2.2.2.1 gX6_pickChanges_X4_cell rfl rfl rfl hdX4_cell ⟨Nat.le_of_ble_eq_true rfl, Nat.le_of_ble_eq_true rfl⟩) hch (by decide) rfl rfl rfl (Nat.le_of_ble_eq_true rfl) dX6_pickChanges_21 ⟨Nat.zero_le _, Nat.zero_le _⟩) hS (fun v_15 I_9 R_10 J_11 AI_12 AJ_13 AR_14 H locs zv_15 hp_16 hH hS => ?_)
        dsimp only at hp_16
        obtain ⟨rfl, rfl, rfl, rfl, rfl, rfl, q_17⟩ := hp_16
        refine lv_iload_n F.1 F.2.1 dX6_pickChanges_24 rfl (lv_at hl 3 rfl) ?_
        refine z_icmp_ne (tgt := 62) F dX6_pickChanges_25 (by decide) zv_15 ztb (fun c_18 => ?_) (fun c_18 => ?_)
        · refine z_iinc (lv' := [(3, .int (iI (i + 1))), (0, .ref x), (1, .ref ch), (2, .int (iI tb))]) F dX6_pickChanges_62 hl (k := 0) rfl (by decide) rfl (fun ls hl => ?_)
          refine z_goto (tgt := 10) F dX6_pickChanges_65 (by decide) ?_
          exact ih10 (i + 1) I_4 AI_5 H locs ls ⟨by omega, by omega⟩ hv rf (by omega) (by omega) hH hS (lv_sub hl [0, 1, 2, 3] rfl)
        · refine lv_aload_n F.1 F.2.1 dX6_pickChanges_28 rfl (lv_at hl 2 rfl) ?_
          refine lv_iload_n F.1 F.2.1 dX6_pickChanges_29 rfl (lv_at hl 0 rfl) ?_
          refine z_iconst F dX6_pickChanges_30 ?_
          refine lv_aload_n F.1 F.2.1 dX6_pickChanges_31 rfl (lv_at hl 1 rfl) ?_
          obtain ⟨r_19a, r_19b⟩ := gR_x12 hv hx.1
          refine g_getR (ci := 6) (k := 12) F hH rfl (by decide) iX6 hx.1 (by decide) rfl (b := gh 29 0) r_19a k66 dX6_pickChanges_32 ?_
          refine g_callv (g_runV (As := [.int (iI i), .int (iI 1), .ref (gh 29 0)]) (rest := []) (ci := 4) F hl.1 hH hS hz (c_X4_copyKey l g gh I_4 R J AI_5 AJ AR ch i 1 (gh 29 0) zi ⟨by decide, by decide⟩ hv hch (by omega) (by omega) r_19b (ro29 hv hx.1) (by omega) (by omega)) (cwV 3 F.2.2.2.2.1 gX6_pickChanges_X4_copyKey rfl rfl rfl hdX4_copyKey ⟨Nat.le_of_ble_eq_true rfl, Nat.le_of_ble_eq_true rfl⟩) hch (by decide) rfl rfl rfl (Nat.le_of_ble_eq_true rfl) dX6_pickChanges_35 ⟨Nat.zero_le _, Nat.zero_le _⟩) hS (fun I_20 R_21 J_22 AI_23 AJ_24 AR_25 H locs hp_26 hH hS => ?_)
          dsimp only at hp_26
          obtain ⟨rfl, rfl, rfl, rfl, rfl, q_27, hv⟩ := hp_26
          refine lv_aload_n F.1 F.2.1 dX6_pickChanges_38 rfl (lv_at hl 1 rfl) ?_
          refine g_getR (ci := 6) (k := 10) F hH rfl (by decide) iX6 hx.1 (by decide) rfl (b := gh 39 0) r_1a k60 dX6_pickChanges_39 ?_
          refine lv_aload_n F.1 F.2.1 dX6_pickChanges_42 rfl (lv_at hl 1 rfl) ?_
          refine g_getR (ci := 6) (k := 10) F hH rfl (by decide) iX6 hx.1 (by decide) rfl (b := gh 39 0) r_1a k60 dX6_pickChanges_43 ?_
          refine g_getI (ci := 4) (k := 3) F hH rfl (by decide) iX4 r_1b (by decide) rfl k99 dX6_pickChanges_46 ?_
          obtain ⟨b_28a, b_28b, b_28c, b_28d, b_28e, b_28f, b_28g, b_28h⟩ := gI_rows hv r_1b
          refine lv_aload_n F.1 F.2.1 dX6_pickChanges_49 rfl (lv_at hl 1 rfl) ?_
          refine g_getR (ci := 6) (k := 12) F hH rfl (by decide) iX6 hx.1 (by decide) rfl (b := gh 29 0) r_19a k66 dX6_pickChanges_50 ?_
          refine lv_aload_n F.1 F.2.1 dX6_pickChanges_53 rfl (lv_at hl 2 rfl) ?_
          refine lv_iload_n F.1 F.2.1 dX6_pickChanges_54 rfl (lv_at hl 0 rfl) ?_
          refine g_calli (g_runV (As := [.int (iI i)]) (rest := [.ref (gh 29 0), .int (iI ((I_4 (gh 39 0) 3).toInt)), .ref (gh 39 0)]) (ci := 4) F hl.1 hH hS hz (c_X4_amount l g gh I_4 R J AI_23 AJ AR ch i zi hv hch (by omega) (by omega)) (cwV 1 F.2.2.2.2.1 gX6_pickChanges_X4_amount rfl rfl rfl hdX4_amount ⟨Nat.le_of_ble_eq_true rfl, Nat.le_of_ble_eq_true rfl⟩) hch (by decide) rfl rfl rfl (Nat.le_of_ble_eq_true rfl) dX6_pickChanges_55 ⟨Nat.zero_le _, Nat.zero_le _⟩) hS (fun v_35 I_29 R_30 J_31 AI_32 AJ_33 AR_34 H locs zv_35 hp_36 hH hS => ?_)
          dsimp only at hp_36
          obtain ⟨rfl, rfl, rfl, rfl, rfl, rfl, q_37⟩ := hp_36
          refine g_calli (g_runV (As := [.int (iI ((I_4 (gh 39 0) 3).toInt)), .ref (gh 29 0), .int (iI v_35)]) (rest := []) (ci := 4) F hl.1 hH hS hz (c_X4_insert l g gh I_4 R J AI_23 AJ AR (gh 39 0) ((I_4 (gh 39 0) 3).toInt) (gh 29 0) v_35 (zr_t _) zv_35 hv r_1b r_19b (ro29 hv hx.1) (fun h => absurd h (by omega)) (by first | exact hfz | omega)) (cwV 3 F.2.2.2.2.1 gX6_pickChanges_X4_insert rfl rfl rfl hdX4_insert ⟨Nat.le_of_ble_eq_true rfl, Nat.le_of_ble_eq_true rfl⟩) r_1b (by decide) rfl rfl rfl (Nat.le_of_ble_eq_true rfl) dX6_pickChanges_58 ⟨Nat.zero_le _, Nat.zero_le _⟩) hS (fun v_44 I_38 R_39 J_40 AI_41 AJ_42 AR_43 H locs zv_44 hp_45 hH hS => ?_)
          dsimp only at hp_45
          obtain ⟨rfl, rfl, rfl, rfl, hv, q_46, q_47, q_48, q_49⟩ := hp_45
          have rf := rF_t rf (rF_o r_1b q_46)
          have u_50p : I_38 pA = I pA := rf pA 2 hx.2.2.1 (by decide)
          have u_50p1 : (I_38 pA 1).toInt = (I pA 1).toInt := by rw [u_50p]
          have u_50p2 : (I_38 pA 2).toInt = (I pA 2).toInt := by rw [u_50p]
          refine lv_pop F.1 F.2.1 dX6_pickChanges_61 rfl ?_
          refine z_iinc (lv' := [(3, .int (iI (i + 1))), (0, .ref x), (1, .ref ch), (2, .int (iI tb))]) F dX6_pickChanges_62 hl (k := 0) rfl (by decide) rfl (fun ls hl => ?_)
          refine z_goto (tgt := 10) F dX6_pickChanges_65 (by decide) ?_
          exact ih10 (i + 1) I_38 AI_41 H locs ls ⟨by omega, by omega⟩ hv rf (by omega) (by omega) hH hS (lv_sub hl [0, 1, 2, 3] rfl)
  exact cut_10_5 (((240 - 0) + 1 : Int).toNat) 0 I_2 AI H locs ls ⟨by decide, by decide⟩ hv rf (by omega) (by omega) hH hS (lv_sub hl [0, 1, 2, 3] rfl)

def rmX6_reckonNext : Room := { frames := 6, cells := 0, slots := 0, locals := 190 }
theorem hdX6_reckonNext : yX6_reckonNext.cls = RX6 ∧ yX6_reckonNext.cls ≠ "java/lang/invoke/MethodHandle" ∧ yX6_reckonNext.cls ≠ "java/lang/invoke/VarHandle" ∧ (parseMethodDescriptor yX6_reckonNext.desc).map (fun d => d.parameters.length) = some 2 := by decide +kernel
set_option maxHeartbeats 4000000 in
set_option maxRecDepth 100000 in
/-- all relations as they were behind the changes -/
theorem c_X6_reckonNext (l : Launch) (g : gG) (gh : gGh) (pA bA nA : Nat) (I : gI) (R : gR) (J : gJ) (AI : gI) (AJ : gJ) (AR : gR) (x : Nat) (ch : Nat) (sg : Int) (zsg : zr sg) (hv : gInv g gh R AR I AI) (hx : xS g gh R AR x pA bA nA) (hch : gO g ch 4) (h5 : gh 2 ch = 5) : gMet l g yX6_reckonNext wsX6_reckonNext rmX6_reckonNext [.ref x, .ref ch, .int (iI sg)] (I, R, J, AI, AJ, AR) (gQi g (fun (z : Int) (w : gS) => R = w.2.1 ∧ J = w.2.2.1 ∧ AJ = w.2.2.2.2.1 ∧ AR = w.2.2.2.2.2 ∧ (gInv g gh R AR (w.1) (w.2.2.2.1)) ∧ (rF g I (w.1)) ∧ (-4 ≤ z ∧ z ≤ 0))) := by
  refine gStart (cc := cX6_reckonNext) (maxL := 5) (ret := (some (.int))) (by decide) rfl (Nat.le_of_ble_eq_true rfl) ?_
  intro p e s m below meth c ls F hr hlk hH hz hS hl
  have hl : lv_has ls 5 [(0, .ref x), (1, .ref ch), (2, .int (iI sg))] := hl
  have hS : va_S (gA g) s.heap s.heap [] := hS
  obtain ⟨H, hHe⟩ : ∃ H : Heap, H = s.heap := ⟨_, rfl⟩
  obtain ⟨locs, hlo⟩ : ∃ k : List Loc, k = [] := ⟨_, rfl⟩
  have hH : gH g I R J AI AJ AR H := by rw [hHe]; exact hH
  have hS : va_S (gA g) s.heap H locs := by rw [hHe, hlo]; exact hS
  suffices hw : W p l e rmX6_reckonNext s m ([.ref x, .ref ch, .int (iI sg)] : List Value).toArray below meth c H locs 0 0 (MQ below (gQi g (fun (z : Int) (w : gS) => R = w.2.1 ∧ J = w.2.2.1 ∧ AJ = w.2.2.2.2.1 ∧ AR = w.2.2.2.2.2 ∧ (gInv g gh R AR (w.1) (w.2.2.2.1)) ∧ (rF g I (w.1)) ∧ (-4 ≤ z ∧ z ≤ 0))) ([.ref x, .ref ch, .int (iI sg)] : List Value).toArray s 0 0 (gA g)) (F0 m 0 ls []) by
    rw [hHe, hlo] at hw; exact hw
  clear hHe hlo
  have rf : rF g I I := rF_r
  have iX6 : ∀ w ∈ u_ws RX6 TX6 18, w ∈ wsX6_reckonNext := (by decide +kernel)
  have iX2 : ∀ w ∈ u_ws RX2 TX2 3, w ∈ wsX6_reckonNext := (by decide +kernel)
  have k23 : Cond.fieldLink RX6 23 (TX6 3).1 (TX6 3).2.1 (TX6 3).2.2.1 ∈ wsX6_reckonNext := List.mem_of_getElem? (i := 1) rfl
  have k122 : Cond.fieldLink RX6 122 (TX2 2).1 (TX2 2).2.1 (TX2 2).2.2.1 ∈ wsX6_reckonNext := List.mem_of_getElem? (i := 2) rfl
  have k42 : Cond.fieldLink RX6 42 (TX6 6).1 (TX6 6).2.1 (TX6 6).2.2.1 ∈ wsX6_reckonNext := List.mem_of_getElem? (i := 3) rfl
  have k38 : Cond.fieldLink RX6 38 (TX6 5).1 (TX6 5).2.1 (TX6 5).2.2.1 ∈ wsX6_reckonNext := List.mem_of_getElem? (i := 4) rfl
  have k60 : Cond.fieldLink RX6 60 (TX6 10).1 (TX6 10).2.1 (TX6 10).2.2.1 ∈ wsX6_reckonNext := List.mem_of_getElem? (i := 5) rfl
  have k96 : Cond.fieldLink RX6 96 (TX2 1).1 (TX2 1).2.1 (TX2 1).2.2.1 ∈ wsX6_reckonNext := List.mem_of_getElem? (i := 6) rfl
  have k30 : Cond.fieldLink RX6 30 (TX6 4).1 (TX6 4).2.1 (TX6 4).2.2.1 ∈ wsX6_reckonNext := List.mem_of_getElem? (i := 7) rfl
  have k113 : Cond.fieldLink RX6 113 (TX2 0).1 (TX2 0).2.1 (TX2 0).2.2.1 ∈ wsX6_reckonNext := List.mem_of_getElem? (i := 8) rfl
  refine lv_aload_n F.1 F.2.1 dX6_reckonNext_0 rfl (lv_at hl 0 rfl) ?_
  refine lv_aload_n F.1 F.2.1 dX6_reckonNext_1 rfl (lv_at hl 1 rfl) ?_
  refine lv_iload_n F.1 F.2.1 dX6_reckonNext_2 rfl (lv_at hl 2 rfl) ?_
  have b_1 := gI_x hv hx.1
  obtain ⟨b_2a, b_2b, b_2c, b_2d, b_2e, b_2f, b_2g, b_2h⟩ := gI_rows hv hch
  refine g_calli (g_runV (As := [.ref ch, .int (iI sg)]) (rest := []) (ci := 6) F hl.1 hH hS hz (c_X6_fallsBelowZero l g gh pA bA nA I R J AI AJ AR x ch sg zsg hv hx hch (by omega)) (cwV 2 F.2.2.2.2.1 gX6_reckonNext_X6_fallsBelowZero rfl rfl rfl hdX6_fallsBelowZero ⟨Nat.le_of_ble_eq_true rfl, Nat.le_of_ble_eq_true rfl⟩) hx.1 (by decide) rfl rfl rfl (Nat.le_of_ble_eq_true rfl) dX6_reckonNext_3 ⟨Nat.zero_le _, Nat.zero_le _⟩) hS (fun v_9 I_3 R_4 J_5 AI_6 AJ_7 AR_8 H locs zv_9 hp_10 hH hS => ?_)
  dsimp only at hp_10
  obtain ⟨rfl, rfl, rfl, rfl, rfl, hv, q_11⟩ := hp_10
  refine z_if_eq (tgt := 12) F dX6_reckonNext_6 (by decide) zv_9 (fun c_12 => ?_) (fun c_12 => ?_)
  · refine z_iconst F dX6_reckonNext_12 ?_
    refine lv_istore_n (lv' := [(3, .int (iI 0)), (0, .ref x), (1, .ref ch), (2, .int (iI sg))]) F.1 F.2.1 dX6_reckonNext_13 rfl hl (by decide) rfl (fun ls hl => ?_)
    have cut_14_14 : ∀ (NN : Nat) (i : Int) (I_13 : gI) (AI_14 : gI) (H : Heap) (locs : List Loc) (ls : Array Slot), zr i → (gInv g gh R AR I_13 AI_14) → (rF g I I_13) → (0 ≤ i ∧ i ≤ 16) → (16 - i) < ((NN : Nat) : Int) → gH g I_13 R J AI_14 AJ AR H → va_S (gA g) s.heap H locs → lv_has ls 5 [(3, .int (iI i)), (0, .ref x), (1, .ref ch), (2, .int (iI sg))] → W p l e rmX6_reckonNext s m ([.ref x, .ref ch, .int (iI sg)] : List Value).toArray below meth c H locs 0 0 (MQ below (gQi g (fun (z : Int) (w : gS) => R = w.2.1 ∧ J = w.2.2.1 ∧ AJ = w.2.2.2.2.1 ∧ AR = w.2.2.2.2.2 ∧ (gInv g gh R AR (w.1) (w.2.2.2.1)) ∧ (rF g I (w.1)) ∧ (-4 ≤ z ∧ z ≤ 0))) ([.ref x, .ref ch, .int (iI sg)] : List Value).toArray s 0 0 (gA g)) (F0 m 14 ls []) := by
      intro NN14
      induction NN14 with
      | zero =>
        intro i I_13 AI_14 H locs ls zi hv rf hi hm14 hH hS hl
        exact absurd hm14 (by omega)
      | succ NN14 ih14 =>
        intro i I_13 AI_14 H locs ls zi hv rf hi hm14 hH hS hl
        refine lv_iload_n F.1 F.2.1 dX6_reckonNext_14 rfl (lv_at hl 0 rfl) ?_
        refine lv_aload_n F.1 F.2.1 dX6_reckonNext_15 rfl (lv_at hl 1 rfl) ?_
        refine g_getR (ci := 6) (k := 3) F hH rfl (by decide) iX6 hx.1 (by decide) rfl (b := pA) hx.2.1 k23 dX6_reckonNext_16 ?_
        refine g_getI (ci := 2) (k := 2) F hH rfl (by decide) iX2 hx.2.2.1 (by decide) rfl k122 dX6_reckonNext_19 ?_
        have b_16 := gI_plan hv hx.2.2.1
        refine z_icmp_ge (tgt := 63) F dX6_reckonNext_22 (by decide) zi (zr_t _) (fun c_17 => ?_) (fun c_17 => ?_)
        · refine lv_aload_n F.1 F.2.1 dX6_reckonNext_63 rfl (lv_at hl 1 rfl) ?_
          refine g_getR (ci := 6) (k := 3) F hH rfl (by decide) iX6 hx.1 (by decide) rfl (b := pA) hx.2.1 k23 dX6_reckonNext_64 ?_
          refine g_getI (ci := 2) (k := 2) F hH rfl (by decide) iX2 hx.2.2.1 (by decide) rfl k122 dX6_reckonNext_67 ?_
          refine lv_istore_n (lv' := [(3, .int (iI ((I_13 pA 2).toInt))), (0, .ref x), (1, .ref ch), (2, .int (iI sg))]) F.1 F.2.1 dX6_reckonNext_70 rfl hl (by decide) rfl (fun ls hl => ?_)
          have cut_71_19 : ∀ (NN : Nat) (j : Int) (I_18 : gI) (AI_19 : gI) (H : Heap) (locs : List Loc) (ls : Array Slot), zr j → (gInv g gh R AR I_18 AI_19) → (rF g I I_18) → (0 ≤ j ∧ j ≤ 16) → (16 - j) < ((NN : Nat) : Int) → gH g I_18 R J AI_19 AJ AR H → va_S (gA g) s.heap H locs → lv_has ls 5 [(3, .int (iI j)), (0, .ref x), (1, .ref ch), (2, .int (iI sg))] → W p l e rmX6_reckonNext s m ([.ref x, .ref ch, .int (iI sg)] : List Value).toArray below meth c H locs 0 0 (MQ below (gQi g (fun (z : Int) (w : gS) => R = w.2.1 ∧ J = w.2.2.1 ∧ AJ = w.2.2.2.2.1 ∧ AR = w.2.2.2.2.2 ∧ (gInv g gh R AR (w.1) (w.2.2.2.1)) ∧ (rF g I (w.1)) ∧ (-4 ≤ z ∧ z ≤ 0))) ([.ref x, .ref ch, .int (iI sg)] : List Value).toArray s 0 0 (gA g)) (F0 m 71 ls []) := by
            intro NN71
            induction NN71 with
            | zero =>
              intro j I_18 AI_19 H locs ls zj hv rf hj hm71 hH hS hl
              exact absurd hm71 (by omega)
            | succ NN71 ih71 =>
              intro j I_18 AI_19 H locs ls zj hv rf hj hm71 hH hS hl
              refine lv_iload_n F.1 F.2.1 dX6_reckonNext_71 rfl (lv_at hl 0 rfl) ?_
              refine lv_aload_n F.1 F.2.1 dX6_reckonNext_72 rfl (lv_at hl 1 rfl) ?_
              refine g_getR (ci := 6) (k := 3) F hH rfl (by decide) iX6 hx.1 (by decide) rfl (b := pA) hx.2.1 k23 dX6_reckonNext_73 ?_
              refine g_getI (ci := 2) (k := 1) F hH rfl (by decide) iX2 hx.2.2.1 (by decide) rfl k96 dX6_reckonNext_76 ?_
              have b_21 := gI_plan hv hx.2.2.1
              refine z_icmp_ge (tgt := 124) F dX6_reckonNext_79 (by decide) zj (zr_t _) (fun c_22 => ?_) (fun c_22 => ?_)
              · refine z_iconst F dX6_reckonNext_124 ?_
                exact g_iret F hr hlk hH hS hz ⟨by decide, by decide⟩ ⟨rfl, rfl, rfl, rfl, hv, rf, by first | omega | rfl | (dsimp only; omega)⟩ dX6_reckonNext_125
              · refine lv_aload_n F.1 F.2.1 dX6_reckonNext_82 rfl (lv_at hl 1 rfl) ?_
                obtain ⟨r_23a, r_23b⟩ := gR_x4 hv hx.1
                refine g_getR (ci := 6) (k := 4) F hH rfl (by decide) iX6 hx.1 (by decide) rfl (b := gh 23 0) r_23a k30 dX6_reckonNext_83 ?_
                refine lv_aload_n F.1 F.2.1 dX6_reckonNext_86 rfl (lv_at hl 1 rfl) ?_
                refine g_getR (ci := 6) (k := 3) F hH rfl (by decide) iX6 hx.1 (by decide) rfl (b := pA) hx.2.1 k23 dX6_reckonNext_87 ?_
                obtain ⟨r_24a, r_24b⟩ := gR_lines hv hx.2.2.1
                refine g_getR (ci := 2) (k := 0) F hH rfl (by decide) iX2 hx.2.2.1 (by decide) rfl (b := gh 6 pA) r_24a k113 dX6_reckonNext_90 ?_
                refine lv_iload_n F.1 F.2.1 dX6_reckonNext_93 rfl (lv_at hl 0 rfl) ?_
                have hx94 : 0 ≤ j ∧ j < ((16 : Nat) : Int) ∧ j ≤ 2147483647 := ⟨by omega, by omega, by omega⟩
                obtain ⟨y_25, y_25a, y_25b, y_25c, y_25d⟩ := gA_lines hv hx.2.2.1 (z := j) (by omega) (by omega)
                refine g_aldL F hH r_24b hx94.1 hx94.2.1 hx94.2.2 (b := y_25) y_25a dX6_reckonNext_94 ?_
                refine lv_aload_n F.1 F.2.1 dX6_reckonNext_95 rfl (lv_at hl 1 rfl) ?_
                refine g_getR (ci := 6) (k := 6) F hH rfl (by decide) iX6 hx.1 (by decide) rfl (b := nA) hx.2.2.2.2.2.1 k42 dX6_reckonNext_96 ?_
                refine lv_aload_n F.1 F.2.1 dX6_reckonNext_99 rfl (lv_at hl 1 rfl) ?_
                refine g_getR (ci := 6) (k := 6) F hH rfl (by decide) iX6 hx.1 (by decide) rfl (b := nA) hx.2.2.2.2.2.1 k42 dX6_reckonNext_100 ?_
                refine lv_iload_n F.1 F.2.1 dX6_reckonNext_103 rfl (lv_at hl 0 rfl) ?_
                have hx104 : 0 ≤ j ∧ j < ((16 : Nat) : Int) ∧ j ≤ 2147483647 := ⟨by omega, by omega, by omega⟩
                obtain ⟨y_26, y_26a, y_26b, y_26c, y_26d, y_26e⟩ := hx.2.2.2.2.2.2.2 (j).toNat (by omega)
                refine g_aldR F hH hx.2.2.2.2.2.2.1 hx104.1 hx104.2.1 hx104.2.2 (b := y_26) y_26a dX6_reckonNext_104 ?_
                have b_27 := gI_line hv y_25b
                unfold vLineI at b_27
                obtain ⟨b_28a, b_28b, b_28c, b_28d, b_28e, b_28f, b_28g, b_28h⟩ := gI_rows hv y_26b
                refine g_calli (g_runV (As := [.ref y_25, .ref nA, .ref y_26]) (rest := []) (ci := 3) F hl.1 hH hS hz (c_X3_reckon l g gh I_18 R J AI_19 AJ AR (gh 23 0) y_25 nA y_26 hv r_23b y_25b y_26b (by omega) hx.2.2.2.2.2.2 (by omega)) (cwV 3 F.2.2.2.2.1 gX6_reckonNext_X3_reckon rfl rfl rfl hdX3_reckon ⟨Nat.le_of_ble_eq_true rfl, Nat.le_of_ble_eq_true rfl⟩) r_23b (by decide) rfl rfl rfl (Nat.le_of_ble_eq_true rfl) dX6_reckonNext_105 ⟨Nat.zero_le _, Nat.zero_le _⟩) hS (fun v_35 I_29 R_30 J_31 AI_32 AJ_33 AR_34 H locs zv_35 hp_36 hH hS => ?_)
                dsimp only at hp_36
                obtain ⟨rfl, rfl, rfl, rfl, hv, rfq, q_37⟩ := hp_36
                have rf := rF_t rf rfq
                have u_38p : I_29 pA = I pA := rf pA 2 hx.2.2.1 (by decide)
                have u_38p1 : (I_29 pA 1).toInt = (I pA 1).toInt := by rw [u_38p]
                have u_38p2 : (I_29 pA 2).toInt = (I pA 2).toInt := by rw [u_38p]
                refine lv_istore (lv' := [(4, .int (iI v_35)), (3, .int (iI j)), (0, .ref x), (1, .ref ch), (2, .int (iI sg))]) F.1 F.2.1 dX6_reckonNext_108 hl (by decide) rfl (fun ls hl => ?_)
                refine lv_iload F.1 F.2.1 dX6_reckonNext_110 (lv_at hl 0 rfl) ?_
                refine z_if_eq (tgt := 118) F dX6_reckonNext_112 (by decide) zv_35 (fun c_39 => ?_) (fun c_39 => ?_)
                · refine z_iinc (lv' := [(3, .int (iI (j + 1))), (4, .int (iI v_35)), (0, .ref x), (1, .ref ch), (2, .int (iI sg))]) F dX6_reckonNext_118 hl (k := 1) rfl (by decide) rfl (fun ls hl => ?_)
                  refine z_goto (tgt := 71) F dX6_reckonNext_121 (by decide) ?_
                  exact ih71 (j + 1) I_29 AI_32 H locs ls ⟨by omega, by omega⟩ hv rf (by omega) (by omega) hH hS (lv_sub hl [0, 2, 3, 4] rfl)
                · refine lv_iload F.1 F.2.1 dX6_reckonNext_115 (lv_at hl 0 rfl) ?_
                  exact g_iret F hr hlk hH hS hz zv_35 ⟨rfl, rfl, rfl, rfl, hv, rf, by first | omega | rfl | (dsimp only; omega)⟩ dX6_reckonNext_117
          exact cut_71_19 (((16 - ((I_13 pA 2).toInt)) + 1 : Int).toNat) ((I_13 pA 2).toInt) I_13 AI_14 H locs ls (zr_t _) hv rf (by omega) (by omega) hH hS (lv_sub hl [0, 1, 2, 3] rfl)
        · refine lv_aload_n F.1 F.2.1 dX6_reckonNext_25 rfl (lv_at hl 1 rfl) ?_
          refine lv_aload_n F.1 F.2.1 dX6_reckonNext_26 rfl (lv_at hl 2 rfl) ?_
          refine lv_iload_n F.1 F.2.1 dX6_reckonNext_27 rfl (lv_at hl 0 rfl) ?_
          have b_40 := gI_x hv hx.1
          obtain ⟨b_41a, b_41b, b_41c, b_41d, b_41e, b_41f, b_41g, b_41h⟩ := gI_rows hv hch
          refine g_callv (g_runV (As := [.ref ch, .int (iI i)]) (rest := []) (ci := 6) F hl.1 hH hS hz (c_X6_pickChanges l g gh pA bA nA I_13 R J AI_14 AJ AR x ch i zi hv hx hch (by omega)) (cwV 2 F.2.2.2.2.1 gX6_reckonNext_X6_pickChanges rfl rfl rfl hdX6_pickChanges ⟨Nat.le_of_ble_eq_true rfl, Nat.le_of_ble_eq_true rfl⟩) hx.1 (by decide) rfl rfl rfl (Nat.le_of_ble_eq_true rfl) dX6_reckonNext_28 ⟨Nat.zero_le _, Nat.zero_le _⟩) hS (fun I_42 R_43 J_44 AI_45 AJ_46 AR_47 H locs hp_48 hH hS => ?_)
          dsimp only at hp_48
          obtain ⟨rfl, rfl, rfl, rfl, hv, rfq⟩ := hp_48
          have rf := rF_t rf rfq
          have u_49p : I_42 pA = I pA := rf pA 2 hx.2.2.1 (by decide)
          have u_49p1 : (I_42 pA 1).toInt = (I pA 1).toInt := by rw [u_49p]
          have u_49p2 : (I_42 pA 2).toInt = (I pA 2).toInt := by rw [u_49p]
          refine lv_aload_n F.1 F.2.1 dX6_reckonNext_31 rfl (lv_at hl 1 rfl) ?_
          refine g_getR (ci := 6) (k := 6) F hH rfl (by decide) iX6 hx.1 (by decide) rfl (b := nA) hx.2.2.2.2.2.1 k42 dX6_reckonNext_32 ?_
          refine lv_iload_n F.1 F.2.1 dX6_reckonNext_35 rfl (lv_at hl 0 rfl) ?_
          have hx36 : 0 ≤ i ∧ i < ((16 : Nat) : Int) ∧ i ≤ 2147483647 := ⟨by omega, by omega, by omega⟩
          obtain ⟨y_50, y_50a, y_50b, y_50c, y_50d, y_50e⟩ := hx.2.2.2.2.2.2.2 (i).toNat (by omega)
          refine g_aldR F hH hx.2.2.2.2.2.2.1 hx36.1 hx36.2.1 hx36.2.2 (b := y_50) y_50a dX6_reckonNext_36 ?_
          refine lv_aload_n F.1 F.2.1 dX6_reckonNext_37 rfl (lv_at hl 1 rfl) ?_
          refine g_getR (ci := 6) (k := 5) F hH rfl (by decide) iX6 hx.1 (by decide) rfl (b := bA) hx.2.2.2.1 k38 dX6_reckonNext_38 ?_
          refine lv_iload_n F.1 F.2.1 dX6_reckonNext_41 rfl (lv_at hl 0 rfl) ?_
          have hx42 : 0 ≤ i ∧ i < ((16 : Nat) : Int) ∧ i ≤ 2147483647 := ⟨by omega, by omega, by omega⟩
          obtain ⟨y_51, y_51a, y_51b, y_51c, y_51d, y_51e⟩ := hx.2.2.2.2.1.2 (i).toNat (by omega)
          refine g_aldR F hH hx.2.2.2.2.1.1 hx42.1 hx42.2.1 hx42.2.2 (b := y_51) y_51a dX6_reckonNext_42 ?_
          refine lv_aload_n F.1 F.2.1 dX6_reckonNext_43 rfl (lv_at hl 1 rfl) ?_
          obtain ⟨r_52a, r_52b, r_52c, r_52d⟩ := gR_x10 hv hx.1
          refine g_getR (ci := 6) (k := 10) F hH rfl (by decide) iX6 hx.1 (by decide) rfl (b := gh 39 0) r_52a k60 dX6_reckonNext_44 ?_
          refine lv_iload_n F.1 F.2.1 dX6_reckonNext_47 rfl (lv_at hl 3 rfl) ?_
          obtain ⟨b_53a, b_53b, b_53c, b_53d, b_53e, b_53f, b_53g, b_53h⟩ := gI_rows hv y_50b
          obtain ⟨b_54a, b_54b, b_54c, b_54d, b_54e, b_54f, b_54g, b_54h⟩ := gI_rows hv y_51b
          obtain ⟨b_55a, b_55b, b_55c, b_55d, b_55e, b_55f, b_55g, b_55h⟩ := gI_rows hv r_52b
          refine g_calli (g_runV (As := [.ref y_51, .ref (gh 39 0), .int (iI sg)]) (rest := []) (ci := 4) F hl.1 hH hS hz (c_X4_gather l g gh I_42 R J AI_45 AJ AR y_50 y_51 (gh 39 0) sg zsg hv y_50b y_51b r_52b (by omega) (by omega)) (cwV 3 F.2.2.2.2.1 gX6_reckonNext_X4_gather rfl rfl rfl hdX4_gather ⟨Nat.le_of_ble_eq_true rfl, Nat.le_of_ble_eq_true rfl⟩) y_50b (by decide) rfl rfl rfl (Nat.le_of_ble_eq_true rfl) dX6_reckonNext_48 ⟨Nat.zero_le _, Nat.zero_le _⟩) hS (fun v_62 I_56 R_57 J_58 AI_59 AJ_60 AR_61 H locs zv_62 hp_63 hH hS => ?_)
          dsimp only at hp_63
          obtain ⟨rfl, rfl, rfl, rfl, hv, q_64, q_65⟩ := hp_63
          have rf := rF_t rf (rF_o y_50b q_64)
          have u_66p : I_56 pA = I pA := rf pA 2 hx.2.2.1 (by decide)
          have u_66p1 : (I_56 pA 1).toInt = (I pA 1).toInt := by rw [u_66p]
          have u_66p2 : (I_56 pA 2).toInt = (I pA 2).toInt := by rw [u_66p]
          refine z_if_ne (tgt := 57) F dX6_reckonNext_51 (by decide) zv_62 (fun c_67 => ?_) (fun c_67 => ?_)
          · refine z_iinc (lv' := [(3, .int (iI (i + 1))), (0, .ref x), (1, .ref ch), (2, .int (iI sg))]) F dX6_reckonNext_57 hl (k := 0) rfl (by decide) rfl (fun ls hl => ?_)
            refine z_goto (tgt := 14) F dX6_reckonNext_60 (by decide) ?_
            exact ih14 (i + 1) I_56 AI_59 H locs ls ⟨by omega, by omega⟩ hv rf (by omega) (by omega) hH hS (lv_sub hl [0, 1, 2, 3] rfl)
          · refine z_bipush F dX6_reckonNext_54 (by decide) ?_
            exact g_iret F hr hlk hH hS hz ⟨by decide, by decide⟩ ⟨rfl, rfl, rfl, rfl, hv, rf, by first | omega | rfl | (dsimp only; omega)⟩ dX6_reckonNext_56
    exact cut_14_14 (((16 - 0) + 1 : Int).toNat) 0 I AI_6 H locs ls ⟨by decide, by decide⟩ hv rf (by omega) (by omega) hH hS (lv_sub hl [0, 1, 2, 3] rfl)
  · refine z_bipush F dX6_reckonNext_9 (by decide) ?_
    exact g_iret F hr hlk hH hS hz ⟨by decide, by decide⟩ ⟨rfl, rfl, rfl, rfl, hv, rf, by first | omega | rfl | (dsimp only; omega)⟩ dX6_reckonNext_11

def rmX6_movedInViews : Room := { frames := 0, cells := 0, slots := 0, locals := 0 }
theorem hdX6_movedInViews : yX6_movedInViews.cls = RX6 ∧ yX6_movedInViews.cls ≠ "java/lang/invoke/MethodHandle" ∧ yX6_movedInViews.cls ≠ "java/lang/invoke/VarHandle" ∧ (parseMethodDescriptor yX6_movedInViews.desc).map (fun d => d.parameters.length) = some 0 := by decide +kernel
set_option maxHeartbeats 4000000 in
set_option maxRecDepth 100000 in
/-- what moved in views -/
theorem c_X6_movedInViews (l : Launch) (g : gG) (gh : gGh) (pA bA nA : Nat) (I : gI) (R : gR) (J : gJ) (AI : gI) (AJ : gJ) (AR : gR) (x : Nat) (hv : gInv g gh R AR I AI) (hx : xS g gh R AR x pA bA nA) : gMet l g yX6_movedInViews wsX6_movedInViews rmX6_movedInViews [.ref x] (I, R, J, AI, AJ, AR) (gQi g (fun (z : Int) (w : gS) => I = w.1 ∧ R = w.2.1 ∧ J = w.2.2.1 ∧ AI = w.2.2.2.1 ∧ AJ = w.2.2.2.2.1 ∧ AR = w.2.2.2.2.2 ∧ (0 ≤ z ∧ z ≤ 3840))) := by
  refine gStart (cc := cX6_movedInViews) (maxL := 3) (ret := (some (.int))) (by decide) rfl (Nat.le_of_ble_eq_true rfl) ?_
  intro p e s m below meth c ls F hr hlk hH hz hS hl
  have hl : lv_has ls 3 [(0, .ref x)] := hl
  have hS : va_S (gA g) s.heap s.heap [] := hS
  obtain ⟨H, hHe⟩ : ∃ H : Heap, H = s.heap := ⟨_, rfl⟩
  obtain ⟨locs, hlo⟩ : ∃ k : List Loc, k = [] := ⟨_, rfl⟩
  have hH : gH g I R J AI AJ AR H := by rw [hHe]; exact hH
  have hS : va_S (gA g) s.heap H locs := by rw [hHe, hlo]; exact hS
  suffices hw : W p l e rmX6_movedInViews s m ([.ref x] : List Value).toArray below meth c H locs 0 0 (MQ below (gQi g (fun (z : Int) (w : gS) => I = w.1 ∧ R = w.2.1 ∧ J = w.2.2.1 ∧ AI = w.2.2.2.1 ∧ AJ = w.2.2.2.2.1 ∧ AR = w.2.2.2.2.2 ∧ (0 ≤ z ∧ z ≤ 3840))) ([.ref x] : List Value).toArray s 0 0 (gA g)) (F0 m 0 ls []) by
    rw [hHe, hlo] at hw; exact hw
  clear hHe hlo
  have iX6 : ∀ w ∈ u_ws RX6 TX6 18, w ∈ wsX6_movedInViews := (by decide +kernel)
  have iX4 : ∀ w ∈ u_ws RX4 TX4 4, w ∈ wsX6_movedInViews := (by decide +kernel)
  have iX2 : ∀ w ∈ u_ws RX2 TX2 3, w ∈ wsX6_movedInViews := (by decide +kernel)
  have k23 : Cond.fieldLink RX6 23 (TX6 3).1 (TX6 3).2.1 (TX6 3).2.2.1 ∈ wsX6_movedInViews := List.mem_of_getElem? (i := 1) rfl
  have k122 : Cond.fieldLink RX6 122 (TX2 2).1 (TX2 2).2.1 (TX2 2).2.2.1 ∈ wsX6_movedInViews := List.mem_of_getElem? (i := 2) rfl
  have k96 : Cond.fieldLink RX6 96 (TX2 1).1 (TX2 1).2.1 (TX2 1).2.2.1 ∈ wsX6_movedInViews := List.mem_of_getElem? (i := 3) rfl
  have k45 : Cond.fieldLink RX6 45 (TX6 7).1 (TX6 7).2.1 (TX6 7).2.2.1 ∈ wsX6_movedInViews := List.mem_of_getElem? (i := 4) rfl
  have k99 : Cond.fieldLink RX6 99 (TX4 3).1 (TX4 3).2.1 (TX4 3).2.2.1 ∈ wsX6_movedInViews := List.mem_of_getElem? (i := 5) rfl
  refine z_iconst F dX6_movedInViews_0 ?_
  refine lv_istore_n (lv' := [(1, .int (iI 0)), (0, .ref x)]) F.1 F.2.1 dX6_movedInViews_1 rfl hl (by decide) rfl (fun ls hl => ?_)
  refine lv_aload_n F.1 F.2.1 dX6_movedInViews_2 rfl (lv_at hl 1 rfl) ?_
  refine g_getR (ci := 6) (k := 3) F hH rfl (by decide) iX6 hx.1 (by decide) rfl (b := pA) hx.2.1 k23 dX6_movedInViews_3 ?_
  refine g_getI (ci := 2) (k := 2) F hH rfl (by decide) iX2 hx.2.2.1 (by decide) rfl k122 dX6_movedInViews_6 ?_
  have b_1 := gI_plan hv hx.2.2.1
  refine lv_istore_n (lv' := [(2, .int (iI ((I pA 2).toInt))), (1, .int (iI 0)), (0, .ref x)]) F.1 F.2.1 dX6_movedInViews_9 rfl hl (by decide) rfl (fun ls hl => ?_)
  have cut_10_1 : ∀ (NN : Nat) (sm i : Int) (H : Heap) (locs : List Loc) (ls : Array Slot), zr sm → zr i → (0 ≤ i ∧ i ≤ 16 ∧ 0 ≤ sm ∧ sm ≤ 240 * i) → (16 - i) < ((NN : Nat) : Int) → gH g I R J AI AJ AR H → va_S (gA g) s.heap H locs → lv_has ls 3 [(2, .int (iI i)), (1, .int (iI sm)), (0, .ref x)] → W p l e rmX6_movedInViews s m ([.ref x] : List Value).toArray below meth c H locs 0 0 (MQ below (gQi g (fun (z : Int) (w : gS) => I = w.1 ∧ R = w.2.1 ∧ J = w.2.2.1 ∧ AI = w.2.2.2.1 ∧ AJ = w.2.2.2.2.1 ∧ AR = w.2.2.2.2.2 ∧ (0 ≤ z ∧ z ≤ 3840))) ([.ref x] : List Value).toArray s 0 0 (gA g)) (F0 m 10 ls []) := by
    intro NN10
    induction NN10 with
    | zero =>
      intro sm i H locs ls zsm zi hi hm10 hH hS hl
      exact absurd hm10 (by omega)
    | succ NN10 ih10 =>
      intro sm i H locs ls zsm zi hi hm10 hH hS hl
      refine lv_iload_n F.1 F.2.1 dX6_movedInViews_10 rfl (lv_at hl 0 rfl) ?_
      refine lv_aload_n F.1 F.2.1 dX6_movedInViews_11 rfl (lv_at hl 2 rfl) ?_
      refine g_getR (ci := 6) (k := 3) F hH rfl (by decide) iX6 hx.1 (by decide) rfl (b := pA) hx.2.1 k23 dX6_movedInViews_12 ?_
      refine g_getI (ci := 2) (k := 1) F hH rfl (by decide) iX2 hx.2.2.1 (by decide) rfl k96 dX6_movedInViews_15 ?_
      refine z_icmp_ge (tgt := 39) F dX6_movedInViews_18 (by decide) zi (zr_t _) (fun c_3 => ?_) (fun c_3 => ?_)
      · refine lv_iload_n F.1 F.2.1 dX6_movedInViews_39 rfl (lv_at hl 1 rfl) ?_
        exact g_iret F hr hlk hH hS hz zsm ⟨rfl, rfl, rfl, rfl, rfl, rfl, by first | omega | rfl | (dsimp only; omega)⟩ dX6_movedInViews_40
      · refine lv_iload_n F.1 F.2.1 dX6_movedInViews_21 rfl (lv_at hl 1 rfl) ?_
        refine lv_aload_n F.1 F.2.1 dX6_movedInViews_22 rfl (lv_at hl 2 rfl) ?_
        obtain ⟨r_4a, r_4b⟩ := gR_x7 hv hx.1
        refine g_getR (ci := 6) (k := 7) F hH rfl (by decide) iX6 hx.1 (by decide) rfl (b := gh 35 0) r_4a k45 dX6_movedInViews_23 ?_
        refine lv_iload_n F.1 F.2.1 dX6_movedInViews_26 rfl (lv_at hl 0 rfl) ?_
        have hx27 : 0 ≤ i ∧ i < ((16 : Nat) : Int) ∧ i ≤ 2147483647 := ⟨by omega, by omega, by omega⟩
        obtain ⟨y_5, y_5a, y_5b, y_5c, y_5d, y_5e⟩ := r_4b.2 (i).toNat (by omega)
        refine g_aldR F hH r_4b.1 hx27.1 hx27.2.1 hx27.2.2 (b := y_5) y_5a dX6_movedInViews_27 ?_
        refine g_getI (ci := 4) (k := 3) F hH rfl (by decide) iX4 y_5b (by decide) rfl k99 dX6_movedInViews_28 ?_
        obtain ⟨b_6a, b_6b, b_6c, b_6d, b_6e, b_6f, b_6g, b_6h⟩ := gI_rows hv y_5b
        refine z_iadd F dX6_movedInViews_31 ?_
        refine lv_istore_n (lv' := [(1, .int (iI (sm + ((I y_5 3).toInt)))), (2, .int (iI i)), (0, .ref x)]) F.1 F.2.1 dX6_movedInViews_32 rfl hl (by decide) rfl (fun ls hl => ?_)
        refine z_iinc (lv' := [(2, .int (iI (i + 1))), (1, .int (iI (sm + ((I y_5 3).toInt)))), (0, .ref x)]) F dX6_movedInViews_33 hl (k := 1) rfl (by decide) rfl (fun ls hl => ?_)
        refine z_goto (tgt := 10) F dX6_movedInViews_36 (by decide) ?_
        exact ih10 (sm + ((I y_5 3).toInt)) (i + 1) H locs ls ⟨by omega, by omega⟩ ⟨by omega, by omega⟩ (by omega) (by omega) hH hS (lv_sub hl [0, 1, 2] rfl)
  exact cut_10_1 (((16 - ((I pA 2).toInt)) + 1 : Int).toNat) 0 ((I pA 2).toInt) H locs ls ⟨by decide, by decide⟩ (zr_t _) (by omega) (by omega) hH hS (lv_sub hl [0, 1, 2] rfl)

def rmX6_cameTo : Room := { frames := 0, cells := 0, slots := 0, locals := 0 }
theorem hdX6_cameTo : yX6_cameTo.cls = RX6 ∧ yX6_cameTo.cls ≠ "java/lang/invoke/MethodHandle" ∧ yX6_cameTo.cls ≠ "java/lang/invoke/VarHandle" ∧ (parseMethodDescriptor yX6_cameTo.desc).map (fun d => d.parameters.length) = some 1 := by decide +kernel
set_option maxHeartbeats 4000000 in
set_option maxRecDepth 100000 in
/-- what came to a line -/
theorem c_X6_cameTo (l : Launch) (g : gG) (gh : gGh) (pA bA nA : Nat) (I : gI) (R : gR) (J : gJ) (AI : gI) (AJ : gJ) (AR : gR) (x : Nat) (ln : Nat) (hv : gInv g gh R AR I AI) (hx : xS g gh R AR x pA bA nA) (hln : gO g ln 0) : gMet l g yX6_cameTo wsX6_cameTo rmX6_cameTo [.ref x, .ref ln] (I, R, J, AI, AJ, AR) (gQi g (fun (z : Int) (w : gS) => I = w.1 ∧ R = w.2.1 ∧ J = w.2.2.1 ∧ AI = w.2.2.2.1 ∧ AJ = w.2.2.2.2.1 ∧ AR = w.2.2.2.2.2 ∧ (0 ≤ z ∧ z ≤ 480))) := by
  refine gStart (cc := cX6_cameTo) (maxL := 3) (ret := (some (.int))) (by decide) rfl (Nat.le_of_ble_eq_true rfl) ?_
  intro p e s m below meth c ls F hr hlk hH hz hS hl
  have hl : lv_has ls 3 [(0, .ref x), (1, .ref ln)] := hl
  have hS : va_S (gA g) s.heap s.heap [] := hS
  obtain ⟨H, hHe⟩ : ∃ H : Heap, H = s.heap := ⟨_, rfl⟩
  obtain ⟨locs, hlo⟩ : ∃ k : List Loc, k = [] := ⟨_, rfl⟩
  have hH : gH g I R J AI AJ AR H := by rw [hHe]; exact hH
  have hS : va_S (gA g) s.heap H locs := by rw [hHe, hlo]; exact hS
  suffices hw : W p l e rmX6_cameTo s m ([.ref x, .ref ln] : List Value).toArray below meth c H locs 0 0 (MQ below (gQi g (fun (z : Int) (w : gS) => I = w.1 ∧ R = w.2.1 ∧ J = w.2.2.1 ∧ AI = w.2.2.2.1 ∧ AJ = w.2.2.2.2.1 ∧ AR = w.2.2.2.2.2 ∧ (0 ≤ z ∧ z ≤ 480))) ([.ref x, .ref ln] : List Value).toArray s 0 0 (gA g)) (F0 m 0 ls []) by
    rw [hHe, hlo] at hw; exact hw
  clear hHe hlo
  have iX6 : ∀ w ∈ u_ws RX6 TX6 18, w ∈ wsX6_cameTo := (by decide +kernel)
  have iX4 : ∀ w ∈ u_ws RX4 TX4 4, w ∈ wsX6_cameTo := (by decide +kernel)
  have iX0 : ∀ w ∈ u_ws RX0 TX0 15, w ∈ wsX6_cameTo := (by decide +kernel)
  have k224 : Cond.fieldLink RX6 224 (TX0 3).1 (TX0 3).2.1 (TX0 3).2.2.1 ∈ wsX6_cameTo := List.mem_of_getElem? (i := 1) rfl
  have k45 : Cond.fieldLink RX6 45 (TX6 7).1 (TX6 7).2.1 (TX6 7).2.2.1 ∈ wsX6_cameTo := List.mem_of_getElem? (i := 2) rfl
  have k99 : Cond.fieldLink RX6 99 (TX4 3).1 (TX4 3).2.1 (TX4 3).2.2.1 ∈ wsX6_cameTo := List.mem_of_getElem? (i := 3) rfl
  have k227 : Cond.fieldLink RX6 227 (TX0 4).1 (TX0 4).2.1 (TX0 4).2.2.1 ∈ wsX6_cameTo := List.mem_of_getElem? (i := 4) rfl
  refine lv_aload_n F.1 F.2.1 dX6_cameTo_0 rfl (lv_at hl 1 rfl) ?_
  refine g_getI (ci := 0) (k := 3) F hH rfl (by decide) iX0 hln (by decide) rfl k224 dX6_cameTo_1 ?_
  have b_1 := gI_line hv hln
  unfold vLineI at b_1
  refine z_iconst F dX6_cameTo_4 ?_
  refine z_icmp_ne (tgt := 12) F dX6_cameTo_5 (by decide) (zr_t _) ⟨by decide, by decide⟩ (fun c_2 => ?_) (fun c_2 => ?_)
  · refine lv_aload_n F.1 F.2.1 dX6_cameTo_12 rfl (lv_at hl 0 rfl) ?_
    obtain ⟨r_3a, r_3b⟩ := gR_x7 hv hx.1
    refine g_getR (ci := 6) (k := 7) F hH rfl (by decide) iX6 hx.1 (by decide) rfl (b := gh 35 0) r_3a k45 dX6_cameTo_13 ?_
    refine lv_aload_n F.1 F.2.1 dX6_cameTo_16 rfl (lv_at hl 1 rfl) ?_
    refine g_getI (ci := 0) (k := 3) F hH rfl (by decide) iX0 hln (by decide) rfl k224 dX6_cameTo_17 ?_
    have hx20 : 0 ≤ ((I ln 3).toInt) ∧ ((I ln 3).toInt) < ((16 : Nat) : Int) ∧ ((I ln 3).toInt) ≤ 2147483647 := ⟨by omega, by omega, by omega⟩
    obtain ⟨y_4, y_4a, y_4b, y_4c, y_4d, y_4e⟩ := r_3b.2 (((I ln 3).toInt)).toNat (by omega)
    refine g_aldR F hH r_3b.1 hx20.1 hx20.2.1 hx20.2.2 (b := y_4) y_4a dX6_cameTo_20 ?_
    refine g_getI (ci := 4) (k := 3) F hH rfl (by decide) iX4 y_4b (by decide) rfl k99 dX6_cameTo_21 ?_
    obtain ⟨b_5a, b_5b, b_5c, b_5d, b_5e, b_5f, b_5g, b_5h⟩ := gI_rows hv y_4b
    refine lv_istore_n (lv' := [(2, .int (iI ((I y_4 3).toInt))), (0, .ref x), (1, .ref ln)]) F.1 F.2.1 dX6_cameTo_24 rfl hl (by decide) rfl (fun ls hl => ?_)
    refine lv_iload_n F.1 F.2.1 dX6_cameTo_25 rfl (lv_at hl 0 rfl) ?_
    refine lv_aload_n F.1 F.2.1 dX6_cameTo_26 rfl (lv_at hl 2 rfl) ?_
    refine g_getI (ci := 0) (k := 4) F hH rfl (by decide) iX0 hln (by decide) rfl k227 dX6_cameTo_27 ?_
    refine z_iconst F dX6_cameTo_30 ?_
    refine z_icmp_ne (tgt := 38) F dX6_cameTo_31 (by decide) (zr_t _) ⟨by decide, by decide⟩ (fun c_6 => ?_) (fun c_6 => ?_)
    · refine lv_aload_n F.1 F.2.1 dX6_cameTo_38 rfl (lv_at hl 1 rfl) ?_
      refine g_getR (ci := 6) (k := 7) F hH rfl (by decide) iX6 hx.1 (by decide) rfl (b := gh 35 0) r_3a k45 dX6_cameTo_39 ?_
      refine lv_aload_n F.1 F.2.1 dX6_cameTo_42 rfl (lv_at hl 2 rfl) ?_
      refine g_getI (ci := 0) (k := 4) F hH rfl (by decide) iX0 hln (by decide) rfl k227 dX6_cameTo_43 ?_
      have hx46 : 0 ≤ ((I ln 4).toInt) ∧ ((I ln 4).toInt) < ((16 : Nat) : Int) ∧ ((I ln 4).toInt) ≤ 2147483647 := ⟨by omega, by omega, by omega⟩
      obtain ⟨y_7, y_7a, y_7b, y_7c, y_7d, y_7e⟩ := r_3b.2 (((I ln 4).toInt)).toNat (by omega)
      refine g_aldR F hH r_3b.1 hx46.1 hx46.2.1 hx46.2.2 (b := y_7) y_7a dX6_cameTo_46 ?_
      refine g_getI (ci := 4) (k := 3) F hH rfl (by decide) iX4 y_7b (by decide) rfl k99 dX6_cameTo_47 ?_
      obtain ⟨b_8a, b_8b, b_8c, b_8d, b_8e, b_8f, b_8g, b_8h⟩ := gI_rows hv y_7b
      refine z_iadd F dX6_cameTo_50 ?_
      exact g_iret F hr hlk hH hS hz ⟨by omega, by omega⟩ ⟨rfl, rfl, rfl, rfl, rfl, rfl, by first | omega | rfl | (dsimp only; omega)⟩ dX6_cameTo_51
    · refine z_iconst F dX6_cameTo_34 ?_
      refine z_goto (tgt := 50) F dX6_cameTo_35 (by decide) ?_
      refine z_iadd F dX6_cameTo_50 ?_
      exact g_iret F hr hlk hH hS hz ⟨by omega, by omega⟩ ⟨rfl, rfl, rfl, rfl, rfl, rfl, by first | omega | rfl | (dsimp only; omega)⟩ dX6_cameTo_51
  · refine z_iconst F dX6_cameTo_8 ?_
    refine z_goto (tgt := 24) F dX6_cameTo_9 (by decide) ?_
    refine lv_istore_n (lv' := [(2, .int (iI 0)), (0, .ref x), (1, .ref ln)]) F.1 F.2.1 dX6_cameTo_24 rfl hl (by decide) rfl (fun ls hl => ?_)
    refine lv_iload_n F.1 F.2.1 dX6_cameTo_25 rfl (lv_at hl 0 rfl) ?_
    refine lv_aload_n F.1 F.2.1 dX6_cameTo_26 rfl (lv_at hl 2 rfl) ?_
    refine g_getI (ci := 0) (k := 4) F hH rfl (by decide) iX0 hln (by decide) rfl k227 dX6_cameTo_27 ?_
    refine z_iconst F dX6_cameTo_30 ?_
    refine z_icmp_ne (tgt := 38) F dX6_cameTo_31 (by decide) (zr_t _) ⟨by decide, by decide⟩ (fun c_9 => ?_) (fun c_9 => ?_)
    · refine lv_aload_n F.1 F.2.1 dX6_cameTo_38 rfl (lv_at hl 1 rfl) ?_
      obtain ⟨r_10a, r_10b⟩ := gR_x7 hv hx.1
      refine g_getR (ci := 6) (k := 7) F hH rfl (by decide) iX6 hx.1 (by decide) rfl (b := gh 35 0) r_10a k45 dX6_cameTo_39 ?_
      refine lv_aload_n F.1 F.2.1 dX6_cameTo_42 rfl (lv_at hl 2 rfl) ?_
      refine g_getI (ci := 0) (k := 4) F hH rfl (by decide) iX0 hln (by decide) rfl k227 dX6_cameTo_43 ?_
      have hx46 : 0 ≤ ((I ln 4).toInt) ∧ ((I ln 4).toInt) < ((16 : Nat) : Int) ∧ ((I ln 4).toInt) ≤ 2147483647 := ⟨by omega, by omega, by omega⟩
      obtain ⟨y_11, y_11a, y_11b, y_11c, y_11d, y_11e⟩ := r_10b.2 (((I ln 4).toInt)).toNat (by omega)
      refine g_aldR F hH r_10b.1 hx46.1 hx46.2.1 hx46.2.2 (b := y_11) y_11a dX6_cameTo_46 ?_
      refine g_getI (ci := 4) (k := 3) F hH rfl (by decide) iX4 y_11b (by decide) rfl k99 dX6_cameTo_47 ?_
      obtain ⟨b_12a, b_12b, b_12c, b_12d, b_12e, b_12f, b_12g, b_12h⟩ := gI_rows hv y_11b
      refine z_iadd F dX6_cameTo_50 ?_
      exact g_iret F hr hlk hH hS hz ⟨by omega, by omega⟩ ⟨rfl, rfl, rfl, rfl, rfl, rfl, by first | omega | rfl | (dsimp only; omega)⟩ dX6_cameTo_51
    · refine z_iconst F dX6_cameTo_34 ?_
      refine z_goto (tgt := 50) F dX6_cameTo_35 (by decide) ?_
      refine z_iadd F dX6_cameTo_50 ?_
      exact g_iret F hr hlk hH hS hz ⟨by omega, by omega⟩ ⟨rfl, rfl, rfl, rfl, rfl, rfl, by first | omega | rfl | (dsimp only; omega)⟩ dX6_cameTo_51

def rmX6_cameToViews : Room := { frames := 1, cells := 0, slots := 0, locals := 22 }
theorem hdX6_cameToViews : yX6_cameToViews.cls = RX6 ∧ yX6_cameToViews.cls ≠ "java/lang/invoke/MethodHandle" ∧ yX6_cameToViews.cls ≠ "java/lang/invoke/VarHandle" ∧ (parseMethodDescriptor yX6_cameToViews.desc).map (fun d => d.parameters.length) = some 0 := by decide +kernel
set_option maxHeartbeats 4000000 in
set_option maxRecDepth 100000 in
/-- what came to views -/
theorem c_X6_cameToViews (l : Launch) (g : gG) (gh : gGh) (pA bA nA : Nat) (I : gI) (R : gR) (J : gJ) (AI : gI) (AJ : gJ) (AR : gR) (x : Nat) (hv : gInv g gh R AR I AI) (hx : xS g gh R AR x pA bA nA) : gMet l g yX6_cameToViews wsX6_cameToViews rmX6_cameToViews [.ref x] (I, R, J, AI, AJ, AR) (gQi g (fun (z : Int) (w : gS) => I = w.1 ∧ R = w.2.1 ∧ J = w.2.2.1 ∧ AI = w.2.2.2.1 ∧ AJ = w.2.2.2.2.1 ∧ AR = w.2.2.2.2.2 ∧ (0 ≤ z ∧ z ≤ 7680))) := by
  refine gStart (cc := cX6_cameToViews) (maxL := 3) (ret := (some (.int))) (by decide) rfl (Nat.le_of_ble_eq_true rfl) ?_
  intro p e s m below meth c ls F hr hlk hH hz hS hl
  have hl : lv_has ls 3 [(0, .ref x)] := hl
  have hS : va_S (gA g) s.heap s.heap [] := hS
  obtain ⟨H, hHe⟩ : ∃ H : Heap, H = s.heap := ⟨_, rfl⟩
  obtain ⟨locs, hlo⟩ : ∃ k : List Loc, k = [] := ⟨_, rfl⟩
  have hH : gH g I R J AI AJ AR H := by rw [hHe]; exact hH
  have hS : va_S (gA g) s.heap H locs := by rw [hHe, hlo]; exact hS
  suffices hw : W p l e rmX6_cameToViews s m ([.ref x] : List Value).toArray below meth c H locs 0 0 (MQ below (gQi g (fun (z : Int) (w : gS) => I = w.1 ∧ R = w.2.1 ∧ J = w.2.2.1 ∧ AI = w.2.2.2.1 ∧ AJ = w.2.2.2.2.1 ∧ AR = w.2.2.2.2.2 ∧ (0 ≤ z ∧ z ≤ 7680))) ([.ref x] : List Value).toArray s 0 0 (gA g)) (F0 m 0 ls []) by
    rw [hHe, hlo] at hw; exact hw
  clear hHe hlo
  have iX6 : ∀ w ∈ u_ws RX6 TX6 18, w ∈ wsX6_cameToViews := (by decide +kernel)
  have iX2 : ∀ w ∈ u_ws RX2 TX2 3, w ∈ wsX6_cameToViews := (by decide +kernel)
  have k23 : Cond.fieldLink RX6 23 (TX6 3).1 (TX6 3).2.1 (TX6 3).2.2.1 ∈ wsX6_cameToViews := List.mem_of_getElem? (i := 1) rfl
  have k122 : Cond.fieldLink RX6 122 (TX2 2).1 (TX2 2).2.1 (TX2 2).2.2.1 ∈ wsX6_cameToViews := List.mem_of_getElem? (i := 2) rfl
  have k96 : Cond.fieldLink RX6 96 (TX2 1).1 (TX2 1).2.1 (TX2 1).2.2.1 ∈ wsX6_cameToViews := List.mem_of_getElem? (i := 3) rfl
  have k113 : Cond.fieldLink RX6 113 (TX2 0).1 (TX2 0).2.1 (TX2 0).2.2.1 ∈ wsX6_cameToViews := List.mem_of_getElem? (i := 4) rfl
  refine z_iconst F dX6_cameToViews_0 ?_
  refine lv_istore_n (lv' := [(1, .int (iI 0)), (0, .ref x)]) F.1 F.2.1 dX6_cameToViews_1 rfl hl (by decide) rfl (fun ls hl => ?_)
  refine lv_aload_n F.1 F.2.1 dX6_cameToViews_2 rfl (lv_at hl 1 rfl) ?_
  refine g_getR (ci := 6) (k := 3) F hH rfl (by decide) iX6 hx.1 (by decide) rfl (b := pA) hx.2.1 k23 dX6_cameToViews_3 ?_
  refine g_getI (ci := 2) (k := 2) F hH rfl (by decide) iX2 hx.2.2.1 (by decide) rfl k122 dX6_cameToViews_6 ?_
  have b_1 := gI_plan hv hx.2.2.1
  refine lv_istore_n (lv' := [(2, .int (iI ((I pA 2).toInt))), (1, .int (iI 0)), (0, .ref x)]) F.1 F.2.1 dX6_cameToViews_9 rfl hl (by decide) rfl (fun ls hl => ?_)
  have cut_10_1 : ∀ (NN : Nat) (sm i : Int) (H : Heap) (locs : List Loc) (ls : Array Slot), zr sm → zr i → (0 ≤ i ∧ i ≤ 16 ∧ 0 ≤ sm ∧ sm ≤ 480 * i) → (16 - i) < ((NN : Nat) : Int) → gH g I R J AI AJ AR H → va_S (gA g) s.heap H locs → lv_has ls 3 [(2, .int (iI i)), (1, .int (iI sm)), (0, .ref x)] → W p l e rmX6_cameToViews s m ([.ref x] : List Value).toArray below meth c H locs 0 0 (MQ below (gQi g (fun (z : Int) (w : gS) => I = w.1 ∧ R = w.2.1 ∧ J = w.2.2.1 ∧ AI = w.2.2.2.1 ∧ AJ = w.2.2.2.2.1 ∧ AR = w.2.2.2.2.2 ∧ (0 ≤ z ∧ z ≤ 7680))) ([.ref x] : List Value).toArray s 0 0 (gA g)) (F0 m 10 ls []) := by
    intro NN10
    induction NN10 with
    | zero =>
      intro sm i H locs ls zsm zi hi hm10 hH hS hl
      exact absurd hm10 (by omega)
    | succ NN10 ih10 =>
      intro sm i H locs ls zsm zi hi hm10 hH hS hl
      refine lv_iload_n F.1 F.2.1 dX6_cameToViews_10 rfl (lv_at hl 0 rfl) ?_
      refine lv_aload_n F.1 F.2.1 dX6_cameToViews_11 rfl (lv_at hl 2 rfl) ?_
      refine g_getR (ci := 6) (k := 3) F hH rfl (by decide) iX6 hx.1 (by decide) rfl (b := pA) hx.2.1 k23 dX6_cameToViews_12 ?_
      refine g_getI (ci := 2) (k := 1) F hH rfl (by decide) iX2 hx.2.2.1 (by decide) rfl k96 dX6_cameToViews_15 ?_
      refine z_icmp_ge (tgt := 43) F dX6_cameToViews_18 (by decide) zi (zr_t _) (fun c_3 => ?_) (fun c_3 => ?_)
      · refine lv_iload_n F.1 F.2.1 dX6_cameToViews_43 rfl (lv_at hl 1 rfl) ?_
        exact g_iret F hr hlk hH hS hz zsm ⟨rfl, rfl, rfl, rfl, rfl, rfl, by first | omega | rfl | (dsimp only; omega)⟩ dX6_cameToViews_44
      · refine lv_iload_n F.1 F.2.1 dX6_cameToViews_21 rfl (lv_at hl 1 rfl) ?_
        refine lv_aload_n F.1 F.2.1 dX6_cameToViews_22 rfl (lv_at hl 2 rfl) ?_
        refine lv_aload_n F.1 F.2.1 dX6_cameToViews_23 rfl (lv_at hl 2 rfl) ?_
        refine g_getR (ci := 6) (k := 3) F hH rfl (by decide) iX6 hx.1 (by decide) rfl (b := pA) hx.2.1 k23 dX6_cameToViews_24 ?_
        obtain ⟨r_4a, r_4b⟩ := gR_lines hv hx.2.2.1
        refine g_getR (ci := 2) (k := 0) F hH rfl (by decide) iX2 hx.2.2.1 (by decide) rfl (b := gh 6 pA) r_4a k113 dX6_cameToViews_27 ?_
        refine lv_iload_n F.1 F.2.1 dX6_cameToViews_30 rfl (lv_at hl 0 rfl) ?_
        have hx31 : 0 ≤ i ∧ i < ((16 : Nat) : Int) ∧ i ≤ 2147483647 := ⟨by omega, by omega, by omega⟩
        obtain ⟨y_5, y_5a, y_5b, y_5c, y_5d⟩ := gA_lines hv hx.2.2.1 (z := i) (by omega) (by omega)
        refine g_aldL F hH r_4b hx31.1 hx31.2.1 hx31.2.2 (b := y_5) y_5a dX6_cameToViews_31 ?_
        have b_6 := gI_x hv hx.1
        have b_7 := gI_line hv y_5b
        unfold vLineI at b_7
        refine g_calli (g_runV (As := [.ref y_5]) (rest := [.int (iI sm)]) (ci := 6) F hl.1 hH hS hz (c_X6_cameTo l g gh pA bA nA I R J AI AJ AR x y_5 hv hx y_5b) (cwV 1 F.2.2.2.2.1 gX6_cameToViews_X6_cameTo rfl rfl rfl hdX6_cameTo ⟨Nat.le_of_ble_eq_true rfl, Nat.le_of_ble_eq_true rfl⟩) hx.1 (by decide) rfl rfl rfl (Nat.le_of_ble_eq_true rfl) dX6_cameToViews_32 ⟨Nat.zero_le _, Nat.zero_le _⟩) hS (fun v_14 I_8 R_9 J_10 AI_11 AJ_12 AR_13 H locs zv_14 hp_15 hH hS => ?_)
        dsimp only at hp_15
        obtain ⟨rfl, rfl, rfl, rfl, rfl, rfl, q_16⟩ := hp_15
        refine z_iadd F dX6_cameToViews_35 ?_
        refine lv_istore_n (lv' := [(1, .int (iI (sm + v_14))), (2, .int (iI i)), (0, .ref x)]) F.1 F.2.1 dX6_cameToViews_36 rfl hl (by decide) rfl (fun ls hl => ?_)
        refine z_iinc (lv' := [(2, .int (iI (i + 1))), (1, .int (iI (sm + v_14))), (0, .ref x)]) F dX6_cameToViews_37 hl (k := 1) rfl (by decide) rfl (fun ls hl => ?_)
        refine z_goto (tgt := 10) F dX6_cameToViews_40 (by decide) ?_
        exact ih10 (sm + v_14) (i + 1) H locs ls ⟨by omega, by omega⟩ ⟨by omega, by omega⟩ (by omega) (by omega) hH hS (lv_sub hl [0, 1, 2] rfl)
  exact cut_10_1 (((16 - ((I pA 2).toInt)) + 1 : Int).toNat) 0 ((I pA 2).toInt) H locs ls ⟨by decide, by decide⟩ (zr_t _) (by omega) (by omega) hH hS (lv_sub hl [0, 1, 2] rfl)

def rmX6_tuplesOfViews : Room := { frames := 0, cells := 0, slots := 0, locals := 0 }
theorem hdX6_tuplesOfViews : yX6_tuplesOfViews.cls = RX6 ∧ yX6_tuplesOfViews.cls ≠ "java/lang/invoke/MethodHandle" ∧ yX6_tuplesOfViews.cls ≠ "java/lang/invoke/VarHandle" ∧ (parseMethodDescriptor yX6_tuplesOfViews.desc).map (fun d => d.parameters.length) = some 0 := by decide +kernel
set_option maxHeartbeats 4000000 in
set_option maxRecDepth 100000 in
/-- the tuples of views -/
theorem c_X6_tuplesOfViews (l : Launch) (g : gG) (gh : gGh) (pA bA nA : Nat) (I : gI) (R : gR) (J : gJ) (AI : gI) (AJ : gJ) (AR : gR) (x : Nat) (hv : gInv g gh R AR I AI) (hx : xS g gh R AR x pA bA nA) : gMet l g yX6_tuplesOfViews wsX6_tuplesOfViews rmX6_tuplesOfViews [.ref x] (I, R, J, AI, AJ, AR) (gQi g (fun (z : Int) (w : gS) => I = w.1 ∧ R = w.2.1 ∧ J = w.2.2.1 ∧ AI = w.2.2.2.1 ∧ AJ = w.2.2.2.2.1 ∧ AR = w.2.2.2.2.2 ∧ (0 ≤ z ∧ z ≤ 3840))) := by
  refine gStart (cc := cX6_tuplesOfViews) (maxL := 3) (ret := (some (.int))) (by decide) rfl (Nat.le_of_ble_eq_true rfl) ?_
  intro p e s m below meth c ls F hr hlk hH hz hS hl
  have hl : lv_has ls 3 [(0, .ref x)] := hl
  have hS : va_S (gA g) s.heap s.heap [] := hS
  obtain ⟨H, hHe⟩ : ∃ H : Heap, H = s.heap := ⟨_, rfl⟩
  obtain ⟨locs, hlo⟩ : ∃ k : List Loc, k = [] := ⟨_, rfl⟩
  have hH : gH g I R J AI AJ AR H := by rw [hHe]; exact hH
  have hS : va_S (gA g) s.heap H locs := by rw [hHe, hlo]; exact hS
  suffices hw : W p l e rmX6_tuplesOfViews s m ([.ref x] : List Value).toArray below meth c H locs 0 0 (MQ below (gQi g (fun (z : Int) (w : gS) => I = w.1 ∧ R = w.2.1 ∧ J = w.2.2.1 ∧ AI = w.2.2.2.1 ∧ AJ = w.2.2.2.2.1 ∧ AR = w.2.2.2.2.2 ∧ (0 ≤ z ∧ z ≤ 3840))) ([.ref x] : List Value).toArray s 0 0 (gA g)) (F0 m 0 ls []) by
    rw [hHe, hlo] at hw; exact hw
  clear hHe hlo
  have iX6 : ∀ w ∈ u_ws RX6 TX6 18, w ∈ wsX6_tuplesOfViews := (by decide +kernel)
  have iX4 : ∀ w ∈ u_ws RX4 TX4 4, w ∈ wsX6_tuplesOfViews := (by decide +kernel)
  have iX2 : ∀ w ∈ u_ws RX2 TX2 3, w ∈ wsX6_tuplesOfViews := (by decide +kernel)
  have k23 : Cond.fieldLink RX6 23 (TX6 3).1 (TX6 3).2.1 (TX6 3).2.2.1 ∈ wsX6_tuplesOfViews := List.mem_of_getElem? (i := 1) rfl
  have k122 : Cond.fieldLink RX6 122 (TX2 2).1 (TX2 2).2.1 (TX2 2).2.2.1 ∈ wsX6_tuplesOfViews := List.mem_of_getElem? (i := 2) rfl
  have k96 : Cond.fieldLink RX6 96 (TX2 1).1 (TX2 1).2.1 (TX2 1).2.2.1 ∈ wsX6_tuplesOfViews := List.mem_of_getElem? (i := 3) rfl
  have k38 : Cond.fieldLink RX6 38 (TX6 5).1 (TX6 5).2.1 (TX6 5).2.2.1 ∈ wsX6_tuplesOfViews := List.mem_of_getElem? (i := 4) rfl
  have k99 : Cond.fieldLink RX6 99 (TX4 3).1 (TX4 3).2.1 (TX4 3).2.2.1 ∈ wsX6_tuplesOfViews := List.mem_of_getElem? (i := 5) rfl
  refine z_iconst F dX6_tuplesOfViews_0 ?_
  refine lv_istore_n (lv' := [(1, .int (iI 0)), (0, .ref x)]) F.1 F.2.1 dX6_tuplesOfViews_1 rfl hl (by decide) rfl (fun ls hl => ?_)
  refine lv_aload_n F.1 F.2.1 dX6_tuplesOfViews_2 rfl (lv_at hl 1 rfl) ?_
  refine g_getR (ci := 6) (k := 3) F hH rfl (by decide) iX6 hx.1 (by decide) rfl (b := pA) hx.2.1 k23 dX6_tuplesOfViews_3 ?_
  refine g_getI (ci := 2) (k := 2) F hH rfl (by decide) iX2 hx.2.2.1 (by decide) rfl k122 dX6_tuplesOfViews_6 ?_
  have b_1 := gI_plan hv hx.2.2.1
  refine lv_istore_n (lv' := [(2, .int (iI ((I pA 2).toInt))), (1, .int (iI 0)), (0, .ref x)]) F.1 F.2.1 dX6_tuplesOfViews_9 rfl hl (by decide) rfl (fun ls hl => ?_)
  have cut_10_1 : ∀ (NN : Nat) (sm i : Int) (H : Heap) (locs : List Loc) (ls : Array Slot), zr sm → zr i → (0 ≤ i ∧ i ≤ 16 ∧ 0 ≤ sm ∧ sm ≤ 240 * i) → (16 - i) < ((NN : Nat) : Int) → gH g I R J AI AJ AR H → va_S (gA g) s.heap H locs → lv_has ls 3 [(2, .int (iI i)), (1, .int (iI sm)), (0, .ref x)] → W p l e rmX6_tuplesOfViews s m ([.ref x] : List Value).toArray below meth c H locs 0 0 (MQ below (gQi g (fun (z : Int) (w : gS) => I = w.1 ∧ R = w.2.1 ∧ J = w.2.2.1 ∧ AI = w.2.2.2.1 ∧ AJ = w.2.2.2.2.1 ∧ AR = w.2.2.2.2.2 ∧ (0 ≤ z ∧ z ≤ 3840))) ([.ref x] : List Value).toArray s 0 0 (gA g)) (F0 m 10 ls []) := by
    intro NN10
    induction NN10 with
    | zero =>
      intro sm i H locs ls zsm zi hi hm10 hH hS hl
      exact absurd hm10 (by omega)
    | succ NN10 ih10 =>
      intro sm i H locs ls zsm zi hi hm10 hH hS hl
      refine lv_iload_n F.1 F.2.1 dX6_tuplesOfViews_10 rfl (lv_at hl 0 rfl) ?_
      refine lv_aload_n F.1 F.2.1 dX6_tuplesOfViews_11 rfl (lv_at hl 2 rfl) ?_
      refine g_getR (ci := 6) (k := 3) F hH rfl (by decide) iX6 hx.1 (by decide) rfl (b := pA) hx.2.1 k23 dX6_tuplesOfViews_12 ?_
      refine g_getI (ci := 2) (k := 1) F hH rfl (by decide) iX2 hx.2.2.1 (by decide) rfl k96 dX6_tuplesOfViews_15 ?_
      refine z_icmp_ge (tgt := 39) F dX6_tuplesOfViews_18 (by decide) zi (zr_t _) (fun c_3 => ?_) (fun c_3 => ?_)
      · refine lv_iload_n F.1 F.2.1 dX6_tuplesOfViews_39 rfl (lv_at hl 1 rfl) ?_
        exact g_iret F hr hlk hH hS hz zsm ⟨rfl, rfl, rfl, rfl, rfl, rfl, by first | omega | rfl | (dsimp only; omega)⟩ dX6_tuplesOfViews_40
      · refine lv_iload_n F.1 F.2.1 dX6_tuplesOfViews_21 rfl (lv_at hl 1 rfl) ?_
        refine lv_aload_n F.1 F.2.1 dX6_tuplesOfViews_22 rfl (lv_at hl 2 rfl) ?_
        refine g_getR (ci := 6) (k := 5) F hH rfl (by decide) iX6 hx.1 (by decide) rfl (b := bA) hx.2.2.2.1 k38 dX6_tuplesOfViews_23 ?_
        refine lv_iload_n F.1 F.2.1 dX6_tuplesOfViews_26 rfl (lv_at hl 0 rfl) ?_
        have hx27 : 0 ≤ i ∧ i < ((16 : Nat) : Int) ∧ i ≤ 2147483647 := ⟨by omega, by omega, by omega⟩
        obtain ⟨y_4, y_4a, y_4b, y_4c, y_4d, y_4e⟩ := hx.2.2.2.2.1.2 (i).toNat (by omega)
        refine g_aldR F hH hx.2.2.2.2.1.1 hx27.1 hx27.2.1 hx27.2.2 (b := y_4) y_4a dX6_tuplesOfViews_27 ?_
        refine g_getI (ci := 4) (k := 3) F hH rfl (by decide) iX4 y_4b (by decide) rfl k99 dX6_tuplesOfViews_28 ?_
        obtain ⟨b_5a, b_5b, b_5c, b_5d, b_5e, b_5f, b_5g, b_5h⟩ := gI_rows hv y_4b
        refine z_iadd F dX6_tuplesOfViews_31 ?_
        refine lv_istore_n (lv' := [(1, .int (iI (sm + ((I y_4 3).toInt)))), (2, .int (iI i)), (0, .ref x)]) F.1 F.2.1 dX6_tuplesOfViews_32 rfl hl (by decide) rfl (fun ls hl => ?_)
        refine z_iinc (lv' := [(2, .int (iI (i + 1))), (1, .int (iI (sm + ((I y_4 3).toInt)))), (0, .ref x)]) F dX6_tuplesOfViews_33 hl (k := 1) rfl (by decide) rfl (fun ls hl => ?_)
        refine z_goto (tgt := 10) F dX6_tuplesOfViews_36 (by decide) ?_
        exact ih10 (sm + ((I y_4 3).toInt)) (i + 1) H locs ls ⟨by omega, by omega⟩ ⟨by omega, by omega⟩ (by omega) (by omega) hH hS (lv_sub hl [0, 1, 2] rfl)
  exact cut_10_1 (((16 - ((I pA 2).toInt)) + 1 : Int).toNat) 0 ((I pA 2).toInt) H locs ls ⟨by decide, by decide⟩ (zr_t _) (by omega) (by omega) hH hS (lv_sub hl [0, 1, 2] rfl)

def rmX6_size : Room := { frames := 1, cells := 0, slots := 0, locals := 21 }
theorem hdX6_size : yX6_size.cls = RX6 ∧ yX6_size.cls ≠ "java/lang/invoke/MethodHandle" ∧ yX6_size.cls ≠ "java/lang/invoke/VarHandle" ∧ (parseMethodDescriptor yX6_size.desc).map (fun d => d.parameters.length) = some 1 := by decide +kernel
set_option maxHeartbeats 4000000 in
set_option maxRecDepth 100000 in
/-- size -/
theorem c_X6_size (l : Launch) (g : gG) (gh : gGh) (pA bA nA : Nat) (I : gI) (R : gR) (J : gJ) (AI : gI) (AJ : gJ) (AR : gR) (x : Nat) (rel : Int) (zrel : zr rel) (hv : gInv g gh R AR I AI) (hx : xS g gh R AR x pA bA nA) : gMet l g yX6_size wsX6_size rmX6_size [.ref x, .int (iI rel)] (I, R, J, AI, AJ, AR) (gQi g (fun (z : Int) (w : gS) => I = w.1 ∧ R = w.2.1 ∧ J = w.2.2.1 ∧ AI = w.2.2.2.1 ∧ AJ = w.2.2.2.2.1 ∧ AR = w.2.2.2.2.2)) := by
  refine gStart (cc := cX6_size) (maxL := 2) (ret := (some (.int))) (by decide) rfl (Nat.le_of_ble_eq_true rfl) ?_
  intro p e s m below meth c ls F hr hlk hH hz hS hl
  have hl : lv_has ls 2 [(0, .ref x), (1, .int (iI rel))] := hl
  have hS : va_S (gA g) s.heap s.heap [] := hS
  obtain ⟨H, hHe⟩ : ∃ H : Heap, H = s.heap := ⟨_, rfl⟩
  obtain ⟨locs, hlo⟩ : ∃ k : List Loc, k = [] := ⟨_, rfl⟩
  have hH : gH g I R J AI AJ AR H := by rw [hHe]; exact hH
  have hS : va_S (gA g) s.heap H locs := by rw [hHe, hlo]; exact hS
  suffices hw : W p l e rmX6_size s m ([.ref x, .int (iI rel)] : List Value).toArray below meth c H locs 0 0 (MQ below (gQi g (fun (z : Int) (w : gS) => I = w.1 ∧ R = w.2.1 ∧ J = w.2.2.1 ∧ AI = w.2.2.2.1 ∧ AJ = w.2.2.2.2.1 ∧ AR = w.2.2.2.2.2)) ([.ref x, .int (iI rel)] : List Value).toArray s 0 0 (gA g)) (F0 m 0 ls []) by
    rw [hHe, hlo] at hw; exact hw
  clear hHe hlo
  have iX6 : ∀ w ∈ u_ws RX6 TX6 18, w ∈ wsX6_size := (by decide +kernel)
  have iX4 : ∀ w ∈ u_ws RX4 TX4 4, w ∈ wsX6_size := (by decide +kernel)
  have k38 : Cond.fieldLink RX6 38 (TX6 5).1 (TX6 5).2.1 (TX6 5).2.2.1 ∈ wsX6_size := List.mem_of_getElem? (i := 1) rfl
  have k99 : Cond.fieldLink RX6 99 (TX4 3).1 (TX4 3).2.1 (TX4 3).2.2.1 ∈ wsX6_size := List.mem_of_getElem? (i := 2) rfl
  refine lv_aload_n F.1 F.2.1 dX6_size_0 rfl (lv_at hl 0 rfl) ?_
  refine lv_iload_n F.1 F.2.1 dX6_size_1 rfl (lv_at hl 1 rfl) ?_
  have b_1 := gI_x hv hx.1
  refine g_calli (g_runV (As := [.int (iI rel)]) (rest := []) (ci := 6) F hl.1 hH hS hz (c_X6_isRelation l g gh pA bA nA I R J AI AJ AR x rel zrel hv hx) (cwV 1 F.2.2.2.2.1 gX6_size_X6_isRelation rfl rfl rfl hdX6_isRelation ⟨Nat.le_of_ble_eq_true rfl, Nat.le_of_ble_eq_true rfl⟩) hx.1 (by decide) rfl rfl rfl (Nat.le_of_ble_eq_true rfl) dX6_size_2 ⟨Nat.zero_le _, Nat.zero_le _⟩) hS (fun v_8 I_2 R_3 J_4 AI_5 AJ_6 AR_7 H locs zv_8 hp_9 hH hS => ?_)
  dsimp only at hp_9
  obtain ⟨rfl, rfl, rfl, rfl, rfl, rfl, q_10⟩ := hp_9
  refine z_if_eq (tgt := 20) F dX6_size_5 (by decide) zv_8 (fun c_11 => ?_) (fun c_11 => ?_)
  · refine z_iconst F dX6_size_20 ?_
    exact g_iret F hr hlk hH hS hz ⟨by decide, by decide⟩ ⟨rfl, rfl, rfl, rfl, rfl, rfl⟩ dX6_size_21
  · refine lv_aload_n F.1 F.2.1 dX6_size_8 rfl (lv_at hl 0 rfl) ?_
    refine g_getR (ci := 6) (k := 5) F hH rfl (by decide) iX6 hx.1 (by decide) rfl (b := bA) hx.2.2.2.1 k38 dX6_size_9 ?_
    refine lv_iload_n F.1 F.2.1 dX6_size_12 rfl (lv_at hl 1 rfl) ?_
    have hx13 : 0 ≤ rel ∧ rel < ((16 : Nat) : Int) ∧ rel ≤ 2147483647 := ⟨by omega, by omega, by omega⟩
    obtain ⟨y_12, y_12a, y_12b, y_12c, y_12d, y_12e⟩ := hx.2.2.2.2.1.2 (rel).toNat (by omega)
    refine g_aldR F hH hx.2.2.2.2.1.1 hx13.1 hx13.2.1 hx13.2.2 (b := y_12) y_12a dX6_size_13 ?_
    refine g_getI (ci := 4) (k := 3) F hH rfl (by decide) iX4 y_12b (by decide) rfl k99 dX6_size_14 ?_
    obtain ⟨b_13a, b_13b, b_13c, b_13d, b_13e, b_13f, b_13g, b_13h⟩ := gI_rows hv y_12b
    refine z_goto (tgt := 21) F dX6_size_17 (by decide) ?_
    exact g_iret F hr hlk hH hS hz (zr_t _) ⟨rfl, rfl, rfl, rfl, rfl, rfl⟩ dX6_size_21

def rmX6_moved : Room := { frames := 1, cells := 0, slots := 0, locals := 21 }
theorem hdX6_moved : yX6_moved.cls = RX6 ∧ yX6_moved.cls ≠ "java/lang/invoke/MethodHandle" ∧ yX6_moved.cls ≠ "java/lang/invoke/VarHandle" ∧ (parseMethodDescriptor yX6_moved.desc).map (fun d => d.parameters.length) = some 1 := by decide +kernel
set_option maxHeartbeats 4000000 in
set_option maxRecDepth 100000 in
/-- moved -/
theorem c_X6_moved (l : Launch) (g : gG) (gh : gGh) (pA bA nA : Nat) (I : gI) (R : gR) (J : gJ) (AI : gI) (AJ : gJ) (AR : gR) (x : Nat) (rel : Int) (zrel : zr rel) (hv : gInv g gh R AR I AI) (hx : xS g gh R AR x pA bA nA) : gMet l g yX6_moved wsX6_moved rmX6_moved [.ref x, .int (iI rel)] (I, R, J, AI, AJ, AR) (gQi g (fun (z : Int) (w : gS) => I = w.1 ∧ R = w.2.1 ∧ J = w.2.2.1 ∧ AI = w.2.2.2.1 ∧ AJ = w.2.2.2.2.1 ∧ AR = w.2.2.2.2.2)) := by
  refine gStart (cc := cX6_moved) (maxL := 2) (ret := (some (.int))) (by decide) rfl (Nat.le_of_ble_eq_true rfl) ?_
  intro p e s m below meth c ls F hr hlk hH hz hS hl
  have hl : lv_has ls 2 [(0, .ref x), (1, .int (iI rel))] := hl
  have hS : va_S (gA g) s.heap s.heap [] := hS
  obtain ⟨H, hHe⟩ : ∃ H : Heap, H = s.heap := ⟨_, rfl⟩
  obtain ⟨locs, hlo⟩ : ∃ k : List Loc, k = [] := ⟨_, rfl⟩
  have hH : gH g I R J AI AJ AR H := by rw [hHe]; exact hH
  have hS : va_S (gA g) s.heap H locs := by rw [hHe, hlo]; exact hS
  suffices hw : W p l e rmX6_moved s m ([.ref x, .int (iI rel)] : List Value).toArray below meth c H locs 0 0 (MQ below (gQi g (fun (z : Int) (w : gS) => I = w.1 ∧ R = w.2.1 ∧ J = w.2.2.1 ∧ AI = w.2.2.2.1 ∧ AJ = w.2.2.2.2.1 ∧ AR = w.2.2.2.2.2)) ([.ref x, .int (iI rel)] : List Value).toArray s 0 0 (gA g)) (F0 m 0 ls []) by
    rw [hHe, hlo] at hw; exact hw
  clear hHe hlo
  have iX6 : ∀ w ∈ u_ws RX6 TX6 18, w ∈ wsX6_moved := (by decide +kernel)
  have iX4 : ∀ w ∈ u_ws RX4 TX4 4, w ∈ wsX6_moved := (by decide +kernel)
  have k45 : Cond.fieldLink RX6 45 (TX6 7).1 (TX6 7).2.1 (TX6 7).2.2.1 ∈ wsX6_moved := List.mem_of_getElem? (i := 1) rfl
  have k99 : Cond.fieldLink RX6 99 (TX4 3).1 (TX4 3).2.1 (TX4 3).2.2.1 ∈ wsX6_moved := List.mem_of_getElem? (i := 2) rfl
  refine lv_aload_n F.1 F.2.1 dX6_moved_0 rfl (lv_at hl 0 rfl) ?_
  refine lv_iload_n F.1 F.2.1 dX6_moved_1 rfl (lv_at hl 1 rfl) ?_
  have b_1 := gI_x hv hx.1
  refine g_calli (g_runV (As := [.int (iI rel)]) (rest := []) (ci := 6) F hl.1 hH hS hz (c_X6_isRelation l g gh pA bA nA I R J AI AJ AR x rel zrel hv hx) (cwV 1 F.2.2.2.2.1 gX6_moved_X6_isRelation rfl rfl rfl hdX6_isRelation ⟨Nat.le_of_ble_eq_true rfl, Nat.le_of_ble_eq_true rfl⟩) hx.1 (by decide) rfl rfl rfl (Nat.le_of_ble_eq_true rfl) dX6_moved_2 ⟨Nat.zero_le _, Nat.zero_le _⟩) hS (fun v_8 I_2 R_3 J_4 AI_5 AJ_6 AR_7 H locs zv_8 hp_9 hH hS => ?_)
  dsimp only at hp_9
  obtain ⟨rfl, rfl, rfl, rfl, rfl, rfl, q_10⟩ := hp_9
  refine z_if_eq (tgt := 20) F dX6_moved_5 (by decide) zv_8 (fun c_11 => ?_) (fun c_11 => ?_)
  · refine z_iconst F dX6_moved_20 ?_
    exact g_iret F hr hlk hH hS hz ⟨by decide, by decide⟩ ⟨rfl, rfl, rfl, rfl, rfl, rfl⟩ dX6_moved_21
  · refine lv_aload_n F.1 F.2.1 dX6_moved_8 rfl (lv_at hl 0 rfl) ?_
    obtain ⟨r_12a, r_12b⟩ := gR_x7 hv hx.1
    refine g_getR (ci := 6) (k := 7) F hH rfl (by decide) iX6 hx.1 (by decide) rfl (b := gh 35 0) r_12a k45 dX6_moved_9 ?_
    refine lv_iload_n F.1 F.2.1 dX6_moved_12 rfl (lv_at hl 1 rfl) ?_
    have hx13 : 0 ≤ rel ∧ rel < ((16 : Nat) : Int) ∧ rel ≤ 2147483647 := ⟨by omega, by omega, by omega⟩
    obtain ⟨y_13, y_13a, y_13b, y_13c, y_13d, y_13e⟩ := r_12b.2 (rel).toNat (by omega)
    refine g_aldR F hH r_12b.1 hx13.1 hx13.2.1 hx13.2.2 (b := y_13) y_13a dX6_moved_13 ?_
    refine g_getI (ci := 4) (k := 3) F hH rfl (by decide) iX4 y_13b (by decide) rfl k99 dX6_moved_14 ?_
    obtain ⟨b_14a, b_14b, b_14c, b_14d, b_14e, b_14f, b_14g, b_14h⟩ := gI_rows hv y_13b
    refine z_goto (tgt := 21) F dX6_moved_17 (by decide) ?_
    exact g_iret F hr hlk hH hS hz (zr_t _) ⟨rfl, rfl, rfl, rfl, rfl, rfl⟩ dX6_moved_21

def rmX6_came : Room := { frames := 1, cells := 0, slots := 0, locals := 22 }
theorem hdX6_came : yX6_came.cls = RX6 ∧ yX6_came.cls ≠ "java/lang/invoke/MethodHandle" ∧ yX6_came.cls ≠ "java/lang/invoke/VarHandle" ∧ (parseMethodDescriptor yX6_came.desc).map (fun d => d.parameters.length) = some 1 := by decide +kernel
set_option maxHeartbeats 4000000 in
set_option maxRecDepth 100000 in
/-- came -/
theorem c_X6_came (l : Launch) (g : gG) (gh : gGh) (pA bA nA : Nat) (I : gI) (R : gR) (J : gJ) (AI : gI) (AJ : gJ) (AR : gR) (x : Nat) (rel : Int) (zrel : zr rel) (hv : gInv g gh R AR I AI) (hx : xS g gh R AR x pA bA nA) : gMet l g yX6_came wsX6_came rmX6_came [.ref x, .int (iI rel)] (I, R, J, AI, AJ, AR) (gQi g (fun (z : Int) (w : gS) => I = w.1 ∧ R = w.2.1 ∧ J = w.2.2.1 ∧ AI = w.2.2.2.1 ∧ AJ = w.2.2.2.2.1 ∧ AR = w.2.2.2.2.2)) := by
  refine gStart (cc := cX6_came) (maxL := 2) (ret := (some (.int))) (by decide) rfl (Nat.le_of_ble_eq_true rfl) ?_
  intro p e s m below meth c ls F hr hlk hH hz hS hl
  have hl : lv_has ls 2 [(0, .ref x), (1, .int (iI rel))] := hl
  have hS : va_S (gA g) s.heap s.heap [] := hS
  obtain ⟨H, hHe⟩ : ∃ H : Heap, H = s.heap := ⟨_, rfl⟩
  obtain ⟨locs, hlo⟩ : ∃ k : List Loc, k = [] := ⟨_, rfl⟩
  have hH : gH g I R J AI AJ AR H := by rw [hHe]; exact hH
  have hS : va_S (gA g) s.heap H locs := by rw [hHe, hlo]; exact hS
  suffices hw : W p l e rmX6_came s m ([.ref x, .int (iI rel)] : List Value).toArray below meth c H locs 0 0 (MQ below (gQi g (fun (z : Int) (w : gS) => I = w.1 ∧ R = w.2.1 ∧ J = w.2.2.1 ∧ AI = w.2.2.2.1 ∧ AJ = w.2.2.2.2.1 ∧ AR = w.2.2.2.2.2)) ([.ref x, .int (iI rel)] : List Value).toArray s 0 0 (gA g)) (F0 m 0 ls []) by
    rw [hHe, hlo] at hw; exact hw
  clear hHe hlo
  have iX6 : ∀ w ∈ u_ws RX6 TX6 18, w ∈ wsX6_came := (by decide +kernel)
  have iX2 : ∀ w ∈ u_ws RX2 TX2 3, w ∈ wsX6_came := (by decide +kernel)
  have k23 : Cond.fieldLink RX6 23 (TX6 3).1 (TX6 3).2.1 (TX6 3).2.2.1 ∈ wsX6_came := List.mem_of_getElem? (i := 1) rfl
  have k122 : Cond.fieldLink RX6 122 (TX2 2).1 (TX2 2).2.1 (TX2 2).2.2.1 ∈ wsX6_came := List.mem_of_getElem? (i := 2) rfl
  have k113 : Cond.fieldLink RX6 113 (TX2 0).1 (TX2 0).2.1 (TX2 0).2.2.1 ∈ wsX6_came := List.mem_of_getElem? (i := 3) rfl
  refine lv_aload_n F.1 F.2.1 dX6_came_0 rfl (lv_at hl 0 rfl) ?_
  refine lv_iload_n F.1 F.2.1 dX6_came_1 rfl (lv_at hl 1 rfl) ?_
  have b_1 := gI_x hv hx.1
  refine g_calli (g_runV (As := [.int (iI rel)]) (rest := []) (ci := 6) F hl.1 hH hS hz (c_X6_isRelation l g gh pA bA nA I R J AI AJ AR x rel zrel hv hx) (cwV 1 F.2.2.2.2.1 gX6_came_X6_isRelation rfl rfl rfl hdX6_isRelation ⟨Nat.le_of_ble_eq_true rfl, Nat.le_of_ble_eq_true rfl⟩) hx.1 (by decide) rfl rfl rfl (Nat.le_of_ble_eq_true rfl) dX6_came_2 ⟨Nat.zero_le _, Nat.zero_le _⟩) hS (fun v_8 I_2 R_3 J_4 AI_5 AJ_6 AR_7 H locs zv_8 hp_9 hH hS => ?_)
  dsimp only at hp_9
  obtain ⟨rfl, rfl, rfl, rfl, rfl, rfl, q_10⟩ := hp_9
  refine z_if_eq (tgt := 35) F dX6_came_5 (by decide) zv_8 (fun c_11 => ?_) (fun c_11 => ?_)
  · refine z_iconst F dX6_came_35 ?_
    exact g_iret F hr hlk hH hS hz ⟨by decide, by decide⟩ ⟨rfl, rfl, rfl, rfl, rfl, rfl⟩ dX6_came_36
  · refine lv_iload_n F.1 F.2.1 dX6_came_8 rfl (lv_at hl 1 rfl) ?_
    refine lv_aload_n F.1 F.2.1 dX6_came_9 rfl (lv_at hl 0 rfl) ?_
    refine g_getR (ci := 6) (k := 3) F hH rfl (by decide) iX6 hx.1 (by decide) rfl (b := pA) hx.2.1 k23 dX6_came_10 ?_
    refine g_getI (ci := 2) (k := 2) F hH rfl (by decide) iX2 hx.2.2.1 (by decide) rfl k122 dX6_came_13 ?_
    have b_12 := gI_plan hv hx.2.2.1
    refine z_icmp_lt (tgt := 35) F dX6_came_16 (by decide) zrel (zr_t _) (fun c_13 => ?_) (fun c_13 => ?_)
    · refine z_iconst F dX6_came_35 ?_
      exact g_iret F hr hlk hH hS hz ⟨by decide, by decide⟩ ⟨rfl, rfl, rfl, rfl, rfl, rfl⟩ dX6_came_36
    · refine lv_aload_n F.1 F.2.1 dX6_came_19 rfl (lv_at hl 0 rfl) ?_
      refine lv_aload_n F.1 F.2.1 dX6_came_20 rfl (lv_at hl 0 rfl) ?_
      refine g_getR (ci := 6) (k := 3) F hH rfl (by decide) iX6 hx.1 (by decide) rfl (b := pA) hx.2.1 k23 dX6_came_21 ?_
      obtain ⟨r_14a, r_14b⟩ := gR_lines hv hx.2.2.1
      refine g_getR (ci := 2) (k := 0) F hH rfl (by decide) iX2 hx.2.2.1 (by decide) rfl (b := gh 6 pA) r_14a k113 dX6_came_24 ?_
      refine lv_iload_n F.1 F.2.1 dX6_came_27 rfl (lv_at hl 1 rfl) ?_
      have hx28 : 0 ≤ rel ∧ rel < ((16 : Nat) : Int) ∧ rel ≤ 2147483647 := ⟨by omega, by omega, by omega⟩
      obtain ⟨y_15, y_15a, y_15b, y_15c, y_15d⟩ := gA_lines hv hx.2.2.1 (z := rel) (by omega) (by omega)
      refine g_aldL F hH r_14b hx28.1 hx28.2.1 hx28.2.2 (b := y_15) y_15a dX6_came_28 ?_
      have b_16 := gI_line hv y_15b
      unfold vLineI at b_16
      refine g_calli (g_runV (As := [.ref y_15]) (rest := []) (ci := 6) F hl.1 hH hS hz (c_X6_cameTo l g gh pA bA nA I R J AI AJ AR x y_15 hv hx y_15b) (cwV 1 F.2.2.2.2.1 gX6_came_X6_cameTo rfl rfl rfl hdX6_cameTo ⟨Nat.le_of_ble_eq_true rfl, Nat.le_of_ble_eq_true rfl⟩) hx.1 (by decide) rfl rfl rfl (Nat.le_of_ble_eq_true rfl) dX6_came_29 ⟨Nat.zero_le _, Nat.zero_le _⟩) hS (fun v_23 I_17 R_18 J_19 AI_20 AJ_21 AR_22 H locs zv_23 hp_24 hH hS => ?_)
      dsimp only at hp_24
      obtain ⟨rfl, rfl, rfl, rfl, rfl, rfl, q_25⟩ := hp_24
      refine z_goto (tgt := 36) F dX6_came_32 (by decide) ?_
      exact g_iret F hr hlk hH hS hz zv_23 ⟨rfl, rfl, rfl, rfl, rfl, rfl⟩ dX6_came_36

def rmX6_would : Room := { frames := 7, cells := 0, slots := 0, locals := 214 }
theorem hdX6_would : yX6_would.cls = RX6 ∧ yX6_would.cls ≠ "java/lang/invoke/MethodHandle" ∧ yX6_would.cls ≠ "java/lang/invoke/VarHandle" ∧ (parseMethodDescriptor yX6_would.desc).map (fun d => d.parameters.length) = some 1 := by decide +kernel
set_option maxHeartbeats 4000000 in
set_option maxRecDepth 100000 in
/-- would -/
theorem c_X6_would (l : Launch) (g : gG) (gh : gGh) (pA bA nA : Nat) (I : gI) (R : gR) (J : gJ) (AI : gI) (AJ : gJ) (AR : gR) (x : Nat) (rel : Int) (zrel : zr rel) (hv : gInv g gh R AR I AI) (hx : xS g gh R AR x pA bA nA) : gMet l g yX6_would wsX6_would rmX6_would [.ref x, .int (iI rel)] (I, R, J, AI, AJ, AR) (gQi g (fun (z : Int) (w : gS) => R = w.2.1 ∧ J = w.2.2.1 ∧ AJ = w.2.2.2.2.1 ∧ AR = w.2.2.2.2.2 ∧ (gInv g gh R AR (w.1) (w.2.2.2.1)) ∧ (rF g I (w.1)))) := by
  refine gStart (cc := cX6_would) (maxL := 3) (ret := (some (.int))) (by decide) rfl (Nat.le_of_ble_eq_true rfl) ?_
  intro p e s m below meth c ls F hr hlk hH hz hS hl
  have hl : lv_has ls 3 [(0, .ref x), (1, .int (iI rel))] := hl
  have hS : va_S (gA g) s.heap s.heap [] := hS
  obtain ⟨H, hHe⟩ : ∃ H : Heap, H = s.heap := ⟨_, rfl⟩
  obtain ⟨locs, hlo⟩ : ∃ k : List Loc, k = [] := ⟨_, rfl⟩
  have hH : gH g I R J AI AJ AR H := by rw [hHe]; exact hH
  have hS : va_S (gA g) s.heap H locs := by rw [hHe, hlo]; exact hS
  suffices hw : W p l e rmX6_would s m ([.ref x, .int (iI rel)] : List Value).toArray below meth c H locs 0 0 (MQ below (gQi g (fun (z : Int) (w : gS) => R = w.2.1 ∧ J = w.2.2.1 ∧ AJ = w.2.2.2.2.1 ∧ AR = w.2.2.2.2.2 ∧ (gInv g gh R AR (w.1) (w.2.2.2.1)) ∧ (rF g I (w.1)))) ([.ref x, .int (iI rel)] : List Value).toArray s 0 0 (gA g)) (F0 m 0 ls []) by
    rw [hHe, hlo] at hw; exact hw
  clear hHe hlo
  have rf : rF g I I := rF_r
  have iX6 : ∀ w ∈ u_ws RX6 TX6 18, w ∈ wsX6_would := (by decide +kernel)
  have iX4 : ∀ w ∈ u_ws RX4 TX4 4, w ∈ wsX6_would := (by decide +kernel)
  have k53 : Cond.fieldLink RX6 53 (TX6 8).1 (TX6 8).2.1 (TX6 8).2.2.1 ∈ wsX6_would := List.mem_of_getElem? (i := 1) rfl
  have k42 : Cond.fieldLink RX6 42 (TX6 6).1 (TX6 6).2.1 (TX6 6).2.2.1 ∈ wsX6_would := List.mem_of_getElem? (i := 2) rfl
  have k99 : Cond.fieldLink RX6 99 (TX4 3).1 (TX4 3).2.1 (TX4 3).2.2.1 ∈ wsX6_would := List.mem_of_getElem? (i := 3) rfl
  refine lv_aload_n F.1 F.2.1 dX6_would_0 rfl (lv_at hl 0 rfl) ?_
  refine lv_iload_n F.1 F.2.1 dX6_would_1 rfl (lv_at hl 1 rfl) ?_
  have b_1 := gI_x hv hx.1
  refine g_calli (g_runV (As := [.int (iI rel)]) (rest := []) (ci := 6) F hl.1 hH hS hz (c_X6_isRelation l g gh pA bA nA I R J AI AJ AR x rel zrel hv hx) (cwV 1 F.2.2.2.2.1 gX6_would_X6_isRelation rfl rfl rfl hdX6_isRelation ⟨Nat.le_of_ble_eq_true rfl, Nat.le_of_ble_eq_true rfl⟩) hx.1 (by decide) rfl rfl rfl (Nat.le_of_ble_eq_true rfl) dX6_would_2 ⟨Nat.zero_le _, Nat.zero_le _⟩) hS (fun v_8 I_2 R_3 J_4 AI_5 AJ_6 AR_7 H locs zv_8 hp_9 hH hS => ?_)
  dsimp only at hp_9
  obtain ⟨rfl, rfl, rfl, rfl, rfl, rfl, q_10⟩ := hp_9
  refine z_if_ne (tgt := 10) F dX6_would_5 (by decide) zv_8 (fun c_11 => ?_) (fun c_11 => ?_)
  · refine lv_aload_n F.1 F.2.1 dX6_would_10 rfl (lv_at hl 0 rfl) ?_
    refine lv_aload_n F.1 F.2.1 dX6_would_11 rfl (lv_at hl 0 rfl) ?_
    obtain ⟨r_12a, r_12b, r_12c, r_12d⟩ := gR_x8 hv hx.1
    refine g_getR (ci := 6) (k := 8) F hH rfl (by decide) iX6 hx.1 (by decide) rfl (b := gh 37 0) r_12a k53 dX6_would_12 ?_
    refine z_iconst F dX6_would_15 ?_
    obtain ⟨b_13a, b_13b, b_13c, b_13d, b_13e, b_13f, b_13g, b_13h⟩ := gI_rows hv r_12b
    refine g_calli (g_runV (As := [.ref (gh 37 0), .int (iI 1)]) (rest := []) (ci := 6) F hl.1 hH hS hz (c_X6_reckonNext l g gh pA bA nA I R J AI AJ AR x (gh 37 0) 1 ⟨by decide, by decide⟩ hv hx r_12b (by omega)) (cwV 2 F.2.2.2.2.1 gX6_would_X6_reckonNext rfl rfl rfl hdX6_reckonNext ⟨Nat.le_of_ble_eq_true rfl, Nat.le_of_ble_eq_true rfl⟩) hx.1 (by decide) rfl rfl rfl (Nat.le_of_ble_eq_true rfl) dX6_would_16 ⟨Nat.zero_le _, Nat.zero_le _⟩) hS (fun v_20 I_14 R_15 J_16 AI_17 AJ_18 AR_19 H locs zv_20 hp_21 hH hS => ?_)
    dsimp only at hp_21
    obtain ⟨rfl, rfl, rfl, rfl, hv, rfq, q_22⟩ := hp_21
    have rf := rF_t rf rfq
    have u_23p : I_14 pA = I pA := rf pA 2 hx.2.2.1 (by decide)
    have u_23p1 : (I_14 pA 1).toInt = (I pA 1).toInt := by rw [u_23p]
    have u_23p2 : (I_14 pA 2).toInt = (I pA 2).toInt := by rw [u_23p]
    refine lv_istore_n (lv' := [(2, .int (iI v_20)), (0, .ref x), (1, .int (iI rel))]) F.1 F.2.1 dX6_would_19 rfl hl (by decide) rfl (fun ls hl => ?_)
    refine lv_iload_n F.1 F.2.1 dX6_would_20 rfl (lv_at hl 0 rfl) ?_
    refine z_if_eq (tgt := 28) F dX6_would_21 (by decide) zv_20 (fun c_24 => ?_) (fun c_24 => ?_)
    · refine lv_aload_n F.1 F.2.1 dX6_would_28 rfl (lv_at hl 1 rfl) ?_
      refine g_getR (ci := 6) (k := 6) F hH rfl (by decide) iX6 hx.1 (by decide) rfl (b := nA) hx.2.2.2.2.2.1 k42 dX6_would_29 ?_
      refine lv_iload_n F.1 F.2.1 dX6_would_32 rfl (lv_at hl 2 rfl) ?_
      have hx33 : 0 ≤ rel ∧ rel < ((16 : Nat) : Int) ∧ rel ≤ 2147483647 := ⟨by omega, by omega, by omega⟩
      obtain ⟨y_25, y_25a, y_25b, y_25c, y_25d, y_25e⟩ := hx.2.2.2.2.2.2.2 (rel).toNat (by omega)
      refine g_aldR F hH hx.2.2.2.2.2.2.1 hx33.1 hx33.2.1 hx33.2.2 (b := y_25) y_25a dX6_would_33 ?_
      refine g_getI (ci := 4) (k := 3) F hH rfl (by decide) iX4 y_25b (by decide) rfl k99 dX6_would_34 ?_
      obtain ⟨b_26a, b_26b, b_26c, b_26d, b_26e, b_26f, b_26g, b_26h⟩ := gI_rows hv y_25b
      exact g_iret F hr hlk hH hS hz (zr_t _) ⟨rfl, rfl, rfl, rfl, hv, rf⟩ dX6_would_37
    · refine lv_iload_n F.1 F.2.1 dX6_would_24 rfl (lv_at hl 0 rfl) ?_
      refine z_goto (tgt := 37) F dX6_would_25 (by decide) ?_
      exact g_iret F hr hlk hH hS hz zv_20 ⟨rfl, rfl, rfl, rfl, hv, rf⟩ dX6_would_37
  · refine z_iconst F dX6_would_8 ?_
    exact g_iret F hr hlk hH hS hz ⟨by decide, by decide⟩ ⟨rfl, rfl, rfl, rfl, hv, rf⟩ dX6_would_9

def rmX6_round : Room := { frames := 2, cells := 0, slots := 0, locals := 52 }
theorem hdX6_round : yX6_round.cls = RX6 ∧ yX6_round.cls ≠ "java/lang/invoke/MethodHandle" ∧ yX6_round.cls ≠ "java/lang/invoke/VarHandle" ∧ (parseMethodDescriptor yX6_round.desc).map (fun d => d.parameters.length) = some 5 := by decide +kernel
set_option maxHeartbeats 4000000 in
set_option maxRecDepth 100000 in
/-- round -/
theorem c_X6_round (l : Launch) (g : gG) (gh : gGh) (pA bA nA : Nat) (I : gI) (R : gR) (J : gJ) (AI : gI) (AJ : gJ) (AR : gR) (x : Nat) (rel : Int) (ca : Int) (cb : Int) (c3 : Int) (c4 : Int) (zrel : zr rel) (zca : zr ca) (zcb : zr cb) (zc3 : zr c3) (zc4 : zr c4) (hv : gInv g gh R AR I AI) (hx : xS g gh R AR x pA bA nA) : gMet l g yX6_round wsX6_round rmX6_round [.ref x, .int (iI rel), .int (iI ca), .int (iI cb), .int (iI c3), .int (iI c4)] (I, R, J, AI, AJ, AR) (gQi g (fun (z : Int) (w : gS) => I = w.1 ∧ R = w.2.1 ∧ J = w.2.2.1 ∧ AJ = w.2.2.2.2.1 ∧ AR = w.2.2.2.2.2 ∧ (gInv g gh R AR I (w.2.2.2.1)))) := by
  refine gStart (cc := cX6_round) (maxL := 7) (ret := (some (.int))) (by decide) rfl (Nat.le_of_ble_eq_true rfl) ?_
  intro p e s m below meth c ls F hr hlk hH hz hS hl
  have hl : lv_has ls 7 [(0, .ref x), (1, .int (iI rel)), (2, .int (iI ca)), (3, .int (iI cb)), (4, .int (iI c3)), (5, .int (iI c4))] := hl
  have hS : va_S (gA g) s.heap s.heap [] := hS
  obtain ⟨H, hHe⟩ : ∃ H : Heap, H = s.heap := ⟨_, rfl⟩
  obtain ⟨locs, hlo⟩ : ∃ k : List Loc, k = [] := ⟨_, rfl⟩
  have hH : gH g I R J AI AJ AR H := by rw [hHe]; exact hH
  have hS : va_S (gA g) s.heap H locs := by rw [hHe, hlo]; exact hS
  suffices hw : W p l e rmX6_round s m ([.ref x, .int (iI rel), .int (iI ca), .int (iI cb), .int (iI c3), .int (iI c4)] : List Value).toArray below meth c H locs 0 0 (MQ below (gQi g (fun (z : Int) (w : gS) => I = w.1 ∧ R = w.2.1 ∧ J = w.2.2.1 ∧ AJ = w.2.2.2.2.1 ∧ AR = w.2.2.2.2.2 ∧ (gInv g gh R AR I (w.2.2.2.1)))) ([.ref x, .int (iI rel), .int (iI ca), .int (iI cb), .int (iI c3), .int (iI c4)] : List Value).toArray s 0 0 (gA g)) (F0 m 0 ls []) by
    rw [hHe, hlo] at hw; exact hw
  clear hHe hlo
  have iX6 : ∀ w ∈ u_ws RX6 TX6 18, w ∈ wsX6_round := (by decide +kernel)
  have iX2 : ∀ w ∈ u_ws RX2 TX2 3, w ∈ wsX6_round := (by decide +kernel)
  have iX0 : ∀ w ∈ u_ws RX0 TX0 15, w ∈ wsX6_round := (by decide +kernel)
  have k23 : Cond.fieldLink RX6 23 (TX6 3).1 (TX6 3).2.1 (TX6 3).2.2.1 ∈ wsX6_round := List.mem_of_getElem? (i := 1) rfl
  have k113 : Cond.fieldLink RX6 113 (TX2 0).1 (TX2 0).2.1 (TX2 0).2.2.1 ∈ wsX6_round := List.mem_of_getElem? (i := 2) rfl
  have k125 : Cond.fieldLink RX6 125 (TX0 2).1 (TX0 2).2.1 (TX0 2).2.2.1 ∈ wsX6_round := List.mem_of_getElem? (i := 3) rfl
  have k38 : Cond.fieldLink RX6 38 (TX6 5).1 (TX6 5).2.1 (TX6 5).2.2.1 ∈ wsX6_round := List.mem_of_getElem? (i := 4) rfl
  have k66 : Cond.fieldLink RX6 66 (TX6 12).1 (TX6 12).2.1 (TX6 12).2.2.1 ∈ wsX6_round := List.mem_of_getElem? (i := 5) rfl
  refine lv_aload_n F.1 F.2.1 dX6_round_0 rfl (lv_at hl 0 rfl) ?_
  refine lv_iload_n F.1 F.2.1 dX6_round_1 rfl (lv_at hl 1 rfl) ?_
  have b_1 := gI_x hv hx.1
  refine g_calli (g_runV (As := [.int (iI rel)]) (rest := []) (ci := 6) F hl.1 hH hS hz (c_X6_isRing l g gh pA bA nA I R J AI AJ AR x rel zrel hv hx) (cwV 1 F.2.2.2.2.1 gX6_round_X6_isRing rfl rfl rfl hdX6_isRing ⟨Nat.le_of_ble_eq_true rfl, Nat.le_of_ble_eq_true rfl⟩) hx.1 (by decide) rfl rfl rfl (Nat.le_of_ble_eq_true rfl) dX6_round_2 ⟨Nat.zero_le _, Nat.zero_le _⟩) hS (fun v_8 I_2 R_3 J_4 AI_5 AJ_6 AR_7 H locs zv_8 hp_9 hH hS => ?_)
  dsimp only at hp_9
  obtain ⟨rfl, rfl, rfl, rfl, rfl, rfl, q_10⟩ := hp_9
  refine z_if_ne (tgt := 10) F dX6_round_5 (by decide) zv_8 (fun c_11 => ?_) (fun c_11 => ?_)
  · refine lv_aload_n F.1 F.2.1 dX6_round_10 rfl (lv_at hl 0 rfl) ?_
    refine lv_aload_n F.1 F.2.1 dX6_round_11 rfl (lv_at hl 0 rfl) ?_
    refine g_getR (ci := 6) (k := 3) F hH rfl (by decide) iX6 hx.1 (by decide) rfl (b := pA) hx.2.1 k23 dX6_round_12 ?_
    obtain ⟨r_12a, r_12b⟩ := gR_lines hv hx.2.2.1
    refine g_getR (ci := 2) (k := 0) F hH rfl (by decide) iX2 hx.2.2.1 (by decide) rfl (b := gh 6 pA) r_12a k113 dX6_round_15 ?_
    refine lv_iload_n F.1 F.2.1 dX6_round_18 rfl (lv_at hl 1 rfl) ?_
    have hx19 : 0 ≤ rel ∧ rel < ((16 : Nat) : Int) ∧ rel ≤ 2147483647 := ⟨by omega, by omega, by omega⟩
    obtain ⟨y_13, y_13a, y_13b, y_13c, y_13d⟩ := gA_lines hv hx.2.2.1 (z := rel) (by omega) (by omega)
    refine g_aldL F hH r_12b hx19.1 hx19.2.1 hx19.2.2 (b := y_13) y_13a dX6_round_19 ?_
    refine g_getI (ci := 0) (k := 2) F hH rfl (by decide) iX0 y_13b (by decide) rfl k125 dX6_round_20 ?_
    have b_14 := gI_line hv y_13b
    unfold vLineI at b_14
    refine lv_iload_n F.1 F.2.1 dX6_round_23 rfl (lv_at hl 2 rfl) ?_
    refine lv_iload_n F.1 F.2.1 dX6_round_24 rfl (lv_at hl 3 rfl) ?_
    refine lv_iload F.1 F.2.1 dX6_round_25 (lv_at hl 4 rfl) ?_
    refine lv_iload F.1 F.2.1 dX6_round_27 (lv_at hl 5 rfl) ?_
    refine g_callv (g_runV (As := [.int (iI ((I y_13 2).toInt)), .int (iI ca), .int (iI cb), .int (iI c3), .int (iI c4)]) (rest := []) (ci := 6) F hl.1 hH hS hz (c_X6_setKey l g gh pA bA nA I R J AI AJ AR x ((I y_13 2).toInt) ca cb c3 c4 (zr_t _) zca zcb zc3 zc4 hv hx) (cwV 5 F.2.2.2.2.1 gX6_round_X6_setKey rfl rfl rfl hdX6_setKey ⟨Nat.le_of_ble_eq_true rfl, Nat.le_of_ble_eq_true rfl⟩) hx.1 (by decide) rfl rfl rfl (Nat.le_of_ble_eq_true rfl) dX6_round_29 ⟨Nat.zero_le _, Nat.zero_le _⟩) hS (fun I_15 R_16 J_17 AI_18 AJ_19 AR_20 H locs hp_21 hH hS => ?_)
    dsimp only at hp_21
    obtain ⟨rfl, rfl, rfl, rfl, rfl, hv⟩ := hp_21
    refine lv_aload_n F.1 F.2.1 dX6_round_32 rfl (lv_at hl 0 rfl) ?_
    refine g_getR (ci := 6) (k := 5) F hH rfl (by decide) iX6 hx.1 (by decide) rfl (b := bA) hx.2.2.2.1 k38 dX6_round_33 ?_
    refine lv_iload_n F.1 F.2.1 dX6_round_36 rfl (lv_at hl 1 rfl) ?_
    have hx37 : 0 ≤ rel ∧ rel < ((16 : Nat) : Int) ∧ rel ≤ 2147483647 := ⟨by omega, by omega, by omega⟩
    obtain ⟨y_22, y_22a, y_22b, y_22c, y_22d, y_22e⟩ := hx.2.2.2.2.1.2 (rel).toNat (by omega)
    refine g_aldR F hH hx.2.2.2.2.1.1 hx37.1 hx37.2.1 hx37.2.2 (b := y_22) y_22a dX6_round_37 ?_
    refine lv_aload_n F.1 F.2.1 dX6_round_38 rfl (lv_at hl 0 rfl) ?_
    obtain ⟨r_23a, r_23b⟩ := gR_x12 hv hx.1
    refine g_getR (ci := 6) (k := 12) F hH rfl (by decide) iX6 hx.1 (by decide) rfl (b := gh 29 0) r_23a k66 dX6_round_39 ?_
    obtain ⟨b_24a, b_24b, b_24c, b_24d, b_24e, b_24f, b_24g, b_24h⟩ := gI_rows hv y_22b
    refine g_calli (g_runV (As := [.ref (gh 29 0)]) (rest := []) (ci := 4) F hl.1 hH hS hz (c_X4_find l g gh I R J AI_18 AJ AR y_22 (gh 29 0) hv y_22b r_23b) (cwV 1 F.2.2.2.2.1 gX6_round_X4_find rfl rfl rfl hdX4_find ⟨Nat.le_of_ble_eq_true rfl, Nat.le_of_ble_eq_true rfl⟩) y_22b (by decide) rfl rfl rfl (Nat.le_of_ble_eq_true rfl) dX6_round_42 ⟨Nat.zero_le _, Nat.zero_le _⟩) hS (fun v_31 I_25 R_26 J_27 AI_28 AJ_29 AR_30 H locs zv_31 hp_32 hH hS => ?_)
    dsimp only at hp_32
    obtain ⟨rfl, rfl, rfl, rfl, rfl, rfl, q_33⟩ := hp_32
    refine lv_istore (lv' := [(6, .int (iI v_31)), (0, .ref x), (1, .int (iI rel)), (2, .int (iI ca)), (3, .int (iI cb)), (4, .int (iI c3)), (5, .int (iI c4))]) F.1 F.2.1 dX6_round_45 hl (by decide) rfl (fun ls hl => ?_)
    refine lv_iload F.1 F.2.1 dX6_round_47 (lv_at hl 0 rfl) ?_
    refine z_if_ge (tgt := 56) F dX6_round_49 (by decide) zv_31 (fun c_34 => ?_) (fun c_34 => ?_)
    · refine lv_aload_n F.1 F.2.1 dX6_round_56 rfl (lv_at hl 1 rfl) ?_
      refine g_getR (ci := 6) (k := 5) F hH rfl (by decide) iX6 hx.1 (by decide) rfl (b := bA) hx.2.2.2.1 k38 dX6_round_57 ?_
      refine lv_iload_n F.1 F.2.1 dX6_round_60 rfl (lv_at hl 2 rfl) ?_
      have hx61 : 0 ≤ rel ∧ rel < ((16 : Nat) : Int) ∧ rel ≤ 2147483647 := ⟨by omega, by omega, by omega⟩
      obtain ⟨y_35, y_35a, y_35b, y_35c, y_35d, y_35e⟩ := hx.2.2.2.2.1.2 (rel).toNat (by omega)
      refine g_aldR F hH hx.2.2.2.2.1.1 hx61.1 hx61.2.1 hx61.2.2 (b := y_35) y_35a dX6_round_61 ?_
      refine lv_iload F.1 F.2.1 dX6_round_62 (lv_at hl 0 rfl) ?_
      refine z_iconst F dX6_round_64 ?_
      obtain ⟨b_36a, b_36b, b_36c, b_36d, b_36e, b_36f, b_36g, b_36h⟩ := gI_rows hv y_35b
      refine g_calli (g_runV (As := [.int (iI v_31), .int (iI 5)]) (rest := []) (ci := 4) F hl.1 hH hS hz (c_X4_cell l g gh I R J AI_18 AJ AR y_35 v_31 5 zv_31 ⟨by decide, by decide⟩ hv y_35b (by omega) (by omega) (by omega) (by omega)) (cwV 2 F.2.2.2.2.1 gX6_round_X4_cell rfl rfl rfl hdX4_cell ⟨Nat.le_of_ble_eq_true rfl, Nat.le_of_ble_eq_true rfl⟩) y_35b (by decide) rfl rfl rfl (Nat.le_of_ble_eq_true rfl) dX6_round_65 ⟨Nat.zero_le _, Nat.zero_le _⟩) hS (fun v_43 I_37 R_38 J_39 AI_40 AJ_41 AR_42 H locs zv_43 hp_44 hH hS => ?_)
      dsimp only at hp_44
      obtain ⟨rfl, rfl, rfl, rfl, rfl, rfl, q_45⟩ := hp_44
      exact g_iret F hr hlk hH hS hz zv_43 ⟨rfl, rfl, rfl, rfl, rfl, hv⟩ dX6_round_68
    · refine z_iconst F dX6_round_52 ?_
      refine z_goto (tgt := 68) F dX6_round_53 (by decide) ?_
      exact g_iret F hr hlk hH hS hz ⟨by decide, by decide⟩ ⟨rfl, rfl, rfl, rfl, rfl, hv⟩ dX6_round_68
  · refine z_iconst F dX6_round_8 ?_
    exact g_iret F hr hlk hH hS hz ⟨by decide, by decide⟩ ⟨rfl, rfl, rfl, rfl, rfl, hv⟩ dX6_round_9

def rmX6_rounds : Room := { frames := 2, cells := 0, slots := 0, locals := 42 }
theorem hdX6_rounds : yX6_rounds.cls = RX6 ∧ yX6_rounds.cls ≠ "java/lang/invoke/MethodHandle" ∧ yX6_rounds.cls ≠ "java/lang/invoke/VarHandle" ∧ (parseMethodDescriptor yX6_rounds.desc).map (fun d => d.parameters.length) = some 1 := by decide +kernel
set_option maxHeartbeats 4000000 in
set_option maxRecDepth 100000 in
/-- rounds -/
theorem c_X6_rounds (l : Launch) (g : gG) (gh : gGh) (pA bA nA : Nat) (I : gI) (R : gR) (J : gJ) (AI : gI) (AJ : gJ) (AR : gR) (x : Nat) (rel : Int) (zrel : zr rel) (hv : gInv g gh R AR I AI) (hx : xS g gh R AR x pA bA nA) : gMet l g yX6_rounds wsX6_rounds rmX6_rounds [.ref x, .int (iI rel)] (I, R, J, AI, AJ, AR) (gQi g (fun (z : Int) (w : gS) => I = w.1 ∧ R = w.2.1 ∧ J = w.2.2.1 ∧ AI = w.2.2.2.1 ∧ AJ = w.2.2.2.2.1 ∧ AR = w.2.2.2.2.2)) := by
  refine gStart (cc := cX6_rounds) (maxL := 5) (ret := (some (.int))) (by decide) rfl (Nat.le_of_ble_eq_true rfl) ?_
  intro p e s m below meth c ls F hr hlk hH hz hS hl
  have hl : lv_has ls 5 [(0, .ref x), (1, .int (iI rel))] := hl
  have hS : va_S (gA g) s.heap s.heap [] := hS
  obtain ⟨H, hHe⟩ : ∃ H : Heap, H = s.heap := ⟨_, rfl⟩
  obtain ⟨locs, hlo⟩ : ∃ k : List Loc, k = [] := ⟨_, rfl⟩
  have hH : gH g I R J AI AJ AR H := by rw [hHe]; exact hH
  have hS : va_S (gA g) s.heap H locs := by rw [hHe, hlo]; exact hS
  suffices hw : W p l e rmX6_rounds s m ([.ref x, .int (iI rel)] : List Value).toArray below meth c H locs 0 0 (MQ below (gQi g (fun (z : Int) (w : gS) => I = w.1 ∧ R = w.2.1 ∧ J = w.2.2.1 ∧ AI = w.2.2.2.1 ∧ AJ = w.2.2.2.2.1 ∧ AR = w.2.2.2.2.2)) ([.ref x, .int (iI rel)] : List Value).toArray s 0 0 (gA g)) (F0 m 0 ls []) by
    rw [hHe, hlo] at hw; exact hw
  clear hHe hlo
  have iX6 : ∀ w ∈ u_ws RX6 TX6 18, w ∈ wsX6_rounds := (by decide +kernel)
  have iX4 : ∀ w ∈ u_ws RX4 TX4 4, w ∈ wsX6_rounds := (by decide +kernel)
  have k38 : Cond.fieldLink RX6 38 (TX6 5).1 (TX6 5).2.1 (TX6 5).2.2.1 ∈ wsX6_rounds := List.mem_of_getElem? (i := 1) rfl
  have k99 : Cond.fieldLink RX6 99 (TX4 3).1 (TX4 3).2.1 (TX4 3).2.2.1 ∈ wsX6_rounds := List.mem_of_getElem? (i := 2) rfl
  refine lv_aload_n F.1 F.2.1 dX6_rounds_0 rfl (lv_at hl 0 rfl) ?_
  refine lv_iload_n F.1 F.2.1 dX6_rounds_1 rfl (lv_at hl 1 rfl) ?_
  have b_1 := gI_x hv hx.1
  refine g_calli (g_runV (As := [.int (iI rel)]) (rest := []) (ci := 6) F hl.1 hH hS hz (c_X6_isRing l g gh pA bA nA I R J AI AJ AR x rel zrel hv hx) (cwV 1 F.2.2.2.2.1 gX6_rounds_X6_isRing rfl rfl rfl hdX6_isRing ⟨Nat.le_of_ble_eq_true rfl, Nat.le_of_ble_eq_true rfl⟩) hx.1 (by decide) rfl rfl rfl (Nat.le_of_ble_eq_true rfl) dX6_rounds_2 ⟨Nat.zero_le _, Nat.zero_le _⟩) hS (fun v_8 I_2 R_3 J_4 AI_5 AJ_6 AR_7 H locs zv_8 hp_9 hH hS => ?_)
  dsimp only at hp_9
  obtain ⟨rfl, rfl, rfl, rfl, rfl, rfl, q_10⟩ := hp_9
  refine z_if_ne (tgt := 10) F dX6_rounds_5 (by decide) zv_8 (fun c_11 => ?_) (fun c_11 => ?_)
  · refine lv_aload_n F.1 F.2.1 dX6_rounds_10 rfl (lv_at hl 0 rfl) ?_
    refine g_getR (ci := 6) (k := 5) F hH rfl (by decide) iX6 hx.1 (by decide) rfl (b := bA) hx.2.2.2.1 k38 dX6_rounds_11 ?_
    refine lv_iload_n F.1 F.2.1 dX6_rounds_14 rfl (lv_at hl 1 rfl) ?_
    have hx15 : 0 ≤ rel ∧ rel < ((16 : Nat) : Int) ∧ rel ≤ 2147483647 := ⟨by omega, by omega, by omega⟩
    obtain ⟨y_12, y_12a, y_12b, y_12c, y_12d, y_12e⟩ := hx.2.2.2.2.1.2 (rel).toNat (by omega)
    refine g_aldR F hH hx.2.2.2.2.1.1 hx15.1 hx15.2.1 hx15.2.2 (b := y_12) y_12a dX6_rounds_15 ?_
    refine lv_astore_n (lv' := [(2, .ref y_12), (0, .ref x), (1, .int (iI rel))]) F.1 F.2.1 dX6_rounds_16 rfl hl (by decide) rfl (fun ls hl => ?_)
    refine z_iconst F dX6_rounds_17 ?_
    refine lv_istore_n (lv' := [(3, .int (iI 0)), (2, .ref y_12), (0, .ref x), (1, .int (iI rel))]) F.1 F.2.1 dX6_rounds_18 rfl hl (by decide) rfl (fun ls hl => ?_)
    refine z_iconst F dX6_rounds_19 ?_
    refine lv_istore (lv' := [(4, .int (iI 0)), (3, .int (iI 0)), (2, .ref y_12), (0, .ref x), (1, .int (iI rel))]) F.1 F.2.1 dX6_rounds_20 hl (by decide) rfl (fun ls hl => ?_)
    have cut_22_12 : ∀ (NN : Nat) (la i : Int) (H : Heap) (locs : List Loc) (ls : Array Slot), zr la → zr i → (0 ≤ i ∧ i ≤ 240) → (240 - i) < ((NN : Nat) : Int) → gH g I R J AI AJ AR H → va_S (gA g) s.heap H locs → lv_has ls 5 [(4, .int (iI i)), (3, .int (iI la)), (2, .ref y_12), (0, .ref x), (1, .int (iI rel))] → W p l e rmX6_rounds s m ([.ref x, .int (iI rel)] : List Value).toArray below meth c H locs 0 0 (MQ below (gQi g (fun (z : Int) (w : gS) => I = w.1 ∧ R = w.2.1 ∧ J = w.2.2.1 ∧ AI = w.2.2.2.1 ∧ AJ = w.2.2.2.2.1 ∧ AR = w.2.2.2.2.2)) ([.ref x, .int (iI rel)] : List Value).toArray s 0 0 (gA g)) (F0 m 22 ls []) := by
      intro NN22
      induction NN22 with
      | zero =>
        intro la i H locs ls zla zi hi hm22 hH hS hl
        exact absurd hm22 (by omega)
      | succ NN22 ih22 =>
        intro la i H locs ls zla zi hi hm22 hH hS hl
        refine lv_iload F.1 F.2.1 dX6_rounds_22 (lv_at hl 0 rfl) ?_
        refine lv_aload_n F.1 F.2.1 dX6_rounds_24 rfl (lv_at hl 2 rfl) ?_
        refine g_getI (ci := 4) (k := 3) F hH rfl (by decide) iX4 y_12b (by decide) rfl k99 dX6_rounds_25 ?_
        obtain ⟨b_14a, b_14b, b_14c, b_14d, b_14e, b_14f, b_14g, b_14h⟩ := gI_rows hv y_12b
        refine z_icmp_ge (tgt := 49) F dX6_rounds_28 (by decide) zi (zr_t _) (fun c_15 => ?_) (fun c_15 => ?_)
        · refine lv_iload_n F.1 F.2.1 dX6_rounds_49 rfl (lv_at hl 1 rfl) ?_
          exact g_iret F hr hlk hH hS hz zla ⟨rfl, rfl, rfl, rfl, rfl, rfl⟩ dX6_rounds_50
        · refine lv_iload_n F.1 F.2.1 dX6_rounds_31 rfl (lv_at hl 1 rfl) ?_
          refine lv_aload_n F.1 F.2.1 dX6_rounds_32 rfl (lv_at hl 2 rfl) ?_
          refine lv_iload F.1 F.2.1 dX6_rounds_33 (lv_at hl 0 rfl) ?_
          refine z_iconst F dX6_rounds_35 ?_
          refine g_calli (g_runV (As := [.int (iI i), .int (iI 5)]) (rest := [.int (iI la)]) (ci := 4) F hl.1 hH hS hz (c_X4_cell l g gh I R J AI AJ AR y_12 i 5 zi ⟨by decide, by decide⟩ hv y_12b (by omega) (by omega) (by omega) (by omega)) (cwV 2 F.2.2.2.2.1 gX6_rounds_X4_cell rfl rfl rfl hdX4_cell ⟨Nat.le_of_ble_eq_true rfl, Nat.le_of_ble_eq_true rfl⟩) y_12b (by decide) rfl rfl rfl (Nat.le_of_ble_eq_true rfl) dX6_rounds_36 ⟨Nat.zero_le _, Nat.zero_le _⟩) hS (fun v_22 I_16 R_17 J_18 AI_19 AJ_20 AR_21 H locs zv_22 hp_23 hH hS => ?_)
          dsimp only at hp_23
          obtain ⟨rfl, rfl, rfl, rfl, rfl, rfl, q_24⟩ := hp_23
          refine z_mmax (rest := []) F hl.1 (List.mem_of_getElem? (i := 3) rfl) (List.mem_of_getElem? (i := 4) rfl) (List.mem_of_getElem? (i := 5) rfl) (List.mem_of_getElem? (i := 6) rfl) (Nat.le_of_ble_eq_true rfl) (Nat.le_of_ble_eq_true rfl) (Nat.zero_le _) (Nat.zero_le _) zla zv_22 dX6_rounds_39 (fun v_25 zv_25 qv_25 => ?_)
          refine lv_istore_n (lv' := [(3, .int (iI v_25)), (4, .int (iI i)), (2, .ref y_12), (0, .ref x), (1, .int (iI rel))]) F.1 F.2.1 dX6_rounds_42 rfl hl (by decide) rfl (fun ls hl => ?_)
          refine z_iinc (lv' := [(4, .int (iI (i + 1))), (3, .int (iI v_25)), (2, .ref y_12), (0, .ref x), (1, .int (iI rel))]) F dX6_rounds_43 hl (k := 1) rfl (by decide) rfl (fun ls hl => ?_)
          refine z_goto (tgt := 22) F dX6_rounds_46 (by decide) ?_
          exact ih22 v_25 (i + 1) H locs ls zv_25 ⟨by omega, by omega⟩ (by omega) (by omega) hH hS (lv_sub hl [0, 1, 2, 3, 4] rfl)
    exact cut_22_12 (((240 - 0) + 1 : Int).toNat) 0 0 H locs ls ⟨by decide, by decide⟩ ⟨by decide, by decide⟩ (by omega) (by omega) hH hS (lv_sub hl [0, 1, 2, 3, 4] rfl)
  · refine z_iconst F dX6_rounds_8 ?_
    exact g_iret F hr hlk hH hS hz ⟨by decide, by decide⟩ ⟨rfl, rfl, rfl, rfl, rfl, rfl⟩ dX6_rounds_9

def rmX6_differs : Room := { frames := 7, cells := 0, slots := 0, locals := 214 }
theorem hdX6_differs : yX6_differs.cls = RX6 ∧ yX6_differs.cls ≠ "java/lang/invoke/MethodHandle" ∧ yX6_differs.cls ≠ "java/lang/invoke/VarHandle" ∧ (parseMethodDescriptor yX6_differs.desc).map (fun d => d.parameters.length) = some 1 := by decide +kernel
set_option maxHeartbeats 4000000 in
set_option maxRecDepth 100000 in
/-- differs -/
theorem c_X6_differs (l : Launch) (g : gG) (gh : gGh) (pA bA nA : Nat) (I : gI) (R : gR) (J : gJ) (AI : gI) (AJ : gJ) (AR : gR) (x : Nat) (rel : Int) (zrel : zr rel) (hv : gInv g gh R AR I AI) (hx : xS g gh R AR x pA bA nA) : gMet l g yX6_differs wsX6_differs rmX6_differs [.ref x, .int (iI rel)] (I, R, J, AI, AJ, AR) (gQi g (fun (z : Int) (w : gS) => R = w.2.1 ∧ J = w.2.2.1 ∧ AJ = w.2.2.2.2.1 ∧ AR = w.2.2.2.2.2 ∧ (gInv g gh R AR (w.1) (w.2.2.2.1)) ∧ (rF g I (w.1)))) := by
  refine gStart (cc := cX6_differs) (maxL := 2) (ret := (some (.int))) (by decide) rfl (Nat.le_of_ble_eq_true rfl) ?_
  intro p e s m below meth c ls F hr hlk hH hz hS hl
  have hl : lv_has ls 2 [(0, .ref x), (1, .int (iI rel))] := hl
  have hS : va_S (gA g) s.heap s.heap [] := hS
  obtain ⟨H, hHe⟩ : ∃ H : Heap, H = s.heap := ⟨_, rfl⟩
  obtain ⟨locs, hlo⟩ : ∃ k : List Loc, k = [] := ⟨_, rfl⟩
  have hH : gH g I R J AI AJ AR H := by rw [hHe]; exact hH
  have hS : va_S (gA g) s.heap H locs := by rw [hHe, hlo]; exact hS
  suffices hw : W p l e rmX6_differs s m ([.ref x, .int (iI rel)] : List Value).toArray below meth c H locs 0 0 (MQ below (gQi g (fun (z : Int) (w : gS) => R = w.2.1 ∧ J = w.2.2.1 ∧ AJ = w.2.2.2.2.1 ∧ AR = w.2.2.2.2.2 ∧ (gInv g gh R AR (w.1) (w.2.2.2.1)) ∧ (rF g I (w.1)))) ([.ref x, .int (iI rel)] : List Value).toArray s 0 0 (gA g)) (F0 m 0 ls []) by
    rw [hHe, hlo] at hw; exact hw
  clear hHe hlo
  have rf : rF g I I := rF_r
  have iX6 : ∀ w ∈ u_ws RX6 TX6 18, w ∈ wsX6_differs := (by decide +kernel)
  have iX4 : ∀ w ∈ u_ws RX4 TX4 4, w ∈ wsX6_differs := (by decide +kernel)
  have k57 : Cond.fieldLink RX6 57 (TX6 9).1 (TX6 9).2.1 (TX6 9).2.2.1 ∈ wsX6_differs := List.mem_of_getElem? (i := 1) rfl
  have k63 : Cond.fieldLink RX6 63 (TX6 11).1 (TX6 11).2.1 (TX6 11).2.2.1 ∈ wsX6_differs := List.mem_of_getElem? (i := 2) rfl
  have k42 : Cond.fieldLink RX6 42 (TX6 6).1 (TX6 6).2.1 (TX6 6).2.2.1 ∈ wsX6_differs := List.mem_of_getElem? (i := 3) rfl
  have k38 : Cond.fieldLink RX6 38 (TX6 5).1 (TX6 5).2.1 (TX6 5).2.2.1 ∈ wsX6_differs := List.mem_of_getElem? (i := 4) rfl
  have k99 : Cond.fieldLink RX6 99 (TX4 3).1 (TX4 3).2.1 (TX4 3).2.2.1 ∈ wsX6_differs := List.mem_of_getElem? (i := 5) rfl
  refine lv_aload_n F.1 F.2.1 dX6_differs_0 rfl (lv_at hl 0 rfl) ?_
  refine lv_iload_n F.1 F.2.1 dX6_differs_1 rfl (lv_at hl 1 rfl) ?_
  have b_1 := gI_x hv hx.1
  refine g_calli (g_runV (As := [.int (iI rel)]) (rest := []) (ci := 6) F hl.1 hH hS hz (c_X6_isRelation l g gh pA bA nA I R J AI AJ AR x rel zrel hv hx) (cwV 1 F.2.2.2.2.1 gX6_differs_X6_isRelation rfl rfl rfl hdX6_isRelation ⟨Nat.le_of_ble_eq_true rfl, Nat.le_of_ble_eq_true rfl⟩) hx.1 (by decide) rfl rfl rfl (Nat.le_of_ble_eq_true rfl) dX6_differs_2 ⟨Nat.zero_le _, Nat.zero_le _⟩) hS (fun v_8 I_2 R_3 J_4 AI_5 AJ_6 AR_7 H locs zv_8 hp_9 hH hS => ?_)
  dsimp only at hp_9
  obtain ⟨rfl, rfl, rfl, rfl, rfl, rfl, q_10⟩ := hp_9
  refine z_if_ne (tgt := 10) F dX6_differs_5 (by decide) zv_8 (fun c_11 => ?_) (fun c_11 => ?_)
  · refine lv_aload_n F.1 F.2.1 dX6_differs_10 rfl (lv_at hl 0 rfl) ?_
    refine lv_aload_n F.1 F.2.1 dX6_differs_11 rfl (lv_at hl 0 rfl) ?_
    obtain ⟨r_12a, r_12b, r_12c, r_12d⟩ := gR_x9 hv hx.1
    refine g_getR (ci := 6) (k := 9) F hH rfl (by decide) iX6 hx.1 (by decide) rfl (b := gh 38 0) r_12a k57 dX6_differs_12 ?_
    refine z_iconst F dX6_differs_15 ?_
    obtain ⟨b_13a, b_13b, b_13c, b_13d, b_13e, b_13f, b_13g, b_13h⟩ := gI_rows hv r_12b
    refine g_calli (g_runV (As := [.ref (gh 38 0), .int (iI 1)]) (rest := []) (ci := 6) F hl.1 hH hS hz (c_X6_reckonNext l g gh pA bA nA I R J AI AJ AR x (gh 38 0) 1 ⟨by decide, by decide⟩ hv hx r_12b (by omega)) (cwV 2 F.2.2.2.2.1 gX6_differs_X6_reckonNext rfl rfl rfl hdX6_reckonNext ⟨Nat.le_of_ble_eq_true rfl, Nat.le_of_ble_eq_true rfl⟩) hx.1 (by decide) rfl rfl rfl (Nat.le_of_ble_eq_true rfl) dX6_differs_16 ⟨Nat.zero_le _, Nat.zero_le _⟩) hS (fun v_20 I_14 R_15 J_16 AI_17 AJ_18 AR_19 H locs zv_20 hp_21 hH hS => ?_)
    dsimp only at hp_21
    obtain ⟨rfl, rfl, rfl, rfl, hv, rfq, q_22⟩ := hp_21
    have rf := rF_t rf rfq
    have u_23p : I_14 pA = I pA := rf pA 2 hx.2.2.1 (by decide)
    have u_23p1 : (I_14 pA 1).toInt = (I pA 1).toInt := by rw [u_23p]
    have u_23p2 : (I_14 pA 2).toInt = (I pA 2).toInt := by rw [u_23p]
    refine lv_pop F.1 F.2.1 dX6_differs_19 rfl ?_
    refine lv_aload_n F.1 F.2.1 dX6_differs_20 rfl (lv_at hl 0 rfl) ?_
    obtain ⟨r_24a, r_24b, r_24c, r_24d⟩ := gR_x11 hv hx.1
    refine g_getR (ci := 6) (k := 11) F hH rfl (by decide) iX6 hx.1 (by decide) rfl (b := gh 40 0) r_24a k63 dX6_differs_21 ?_
    refine lv_aload_n F.1 F.2.1 dX6_differs_24 rfl (lv_at hl 0 rfl) ?_
    refine g_getR (ci := 6) (k := 6) F hH rfl (by decide) iX6 hx.1 (by decide) rfl (b := nA) hx.2.2.2.2.2.1 k42 dX6_differs_25 ?_
    refine lv_iload_n F.1 F.2.1 dX6_differs_28 rfl (lv_at hl 1 rfl) ?_
    have hx29 : 0 ≤ rel ∧ rel < ((16 : Nat) : Int) ∧ rel ≤ 2147483647 := ⟨by omega, by omega, by omega⟩
    obtain ⟨y_25, y_25a, y_25b, y_25c, y_25d, y_25e⟩ := hx.2.2.2.2.2.2.2 (rel).toNat (by omega)
    refine g_aldR F hH hx.2.2.2.2.2.2.1 hx29.1 hx29.2.1 hx29.2.2 (b := y_25) y_25a dX6_differs_29 ?_
    refine lv_aload_n F.1 F.2.1 dX6_differs_30 rfl (lv_at hl 0 rfl) ?_
    refine g_getR (ci := 6) (k := 5) F hH rfl (by decide) iX6 hx.1 (by decide) rfl (b := bA) hx.2.2.2.1 k38 dX6_differs_31 ?_
    refine lv_iload_n F.1 F.2.1 dX6_differs_34 rfl (lv_at hl 1 rfl) ?_
    have hx35 : 0 ≤ rel ∧ rel < ((16 : Nat) : Int) ∧ rel ≤ 2147483647 := ⟨by omega, by omega, by omega⟩
    obtain ⟨y_26, y_26a, y_26b, y_26c, y_26d, y_26e⟩ := hx.2.2.2.2.1.2 (rel).toNat (by omega)
    refine g_aldR F hH hx.2.2.2.2.1.1 hx35.1 hx35.2.1 hx35.2.2 (b := y_26) y_26a dX6_differs_35 ?_
    refine z_iconst F dX6_differs_36 ?_
    obtain ⟨b_27a, b_27b, b_27c, b_27d, b_27e, b_27f, b_27g, b_27h⟩ := gI_rows hv r_24b
    obtain ⟨b_28a, b_28b, b_28c, b_28d, b_28e, b_28f, b_28g, b_28h⟩ := gI_rows hv y_25b
    obtain ⟨b_29a, b_29b, b_29c, b_29d, b_29e, b_29f, b_29g, b_29h⟩ := gI_rows hv y_26b
    refine g_calli (g_runV (As := [.ref y_25, .ref y_26, .int (iI ((-1)))]) (rest := []) (ci := 4) F hl.1 hH hS hz (c_X4_gather l g gh I_14 R J AI_17 AJ AR (gh 40 0) y_25 y_26 (-1) ⟨by decide, by decide⟩ hv r_24b y_25b y_26b (by omega) (by omega)) (cwV 3 F.2.2.2.2.1 gX6_differs_X4_gather rfl rfl rfl hdX4_gather ⟨Nat.le_of_ble_eq_true rfl, Nat.le_of_ble_eq_true rfl⟩) r_24b (by decide) rfl rfl rfl (Nat.le_of_ble_eq_true rfl) dX6_differs_37 ⟨Nat.zero_le _, Nat.zero_le _⟩) hS (fun v_36 I_30 R_31 J_32 AI_33 AJ_34 AR_35 H locs zv_36 hp_37 hH hS => ?_)
    dsimp only at hp_37
    obtain ⟨rfl, rfl, rfl, rfl, hv, q_38, q_39⟩ := hp_37
    have rf := rF_t rf (rF_o r_24b q_38)
    have u_40p : I_30 pA = I pA := rf pA 2 hx.2.2.1 (by decide)
    have u_40p1 : (I_30 pA 1).toInt = (I pA 1).toInt := by rw [u_40p]
    have u_40p2 : (I_30 pA 2).toInt = (I pA 2).toInt := by rw [u_40p]
    refine lv_pop F.1 F.2.1 dX6_differs_40 rfl ?_
    refine lv_aload_n F.1 F.2.1 dX6_differs_41 rfl (lv_at hl 0 rfl) ?_
    refine g_getR (ci := 6) (k := 11) F hH rfl (by decide) iX6 hx.1 (by decide) rfl (b := gh 40 0) r_24a k63 dX6_differs_42 ?_
    refine g_getI (ci := 4) (k := 3) F hH rfl (by decide) iX4 r_24b (by decide) rfl k99 dX6_differs_45 ?_
    obtain ⟨b_41a, b_41b, b_41c, b_41d, b_41e, b_41f, b_41g, b_41h⟩ := gI_rows hv r_24b
    exact g_iret F hr hlk hH hS hz (zr_t _) ⟨rfl, rfl, rfl, rfl, hv, rf⟩ dX6_differs_48
  · refine z_iconst F dX6_differs_8 ?_
    exact g_iret F hr hlk hH hS hz ⟨by decide, by decide⟩ ⟨rfl, rfl, rfl, rfl, hv, rf⟩ dX6_differs_9

def rmX6_of : Room := { frames := 1, cells := 0, slots := 0, locals := 23 }
theorem hdX6_of : yX6_of.cls = RX6 ∧ yX6_of.cls ≠ "java/lang/invoke/MethodHandle" ∧ yX6_of.cls ≠ "java/lang/invoke/VarHandle" ∧ (parseMethodDescriptor yX6_of.desc).map (fun d => d.parameters.length) = some 2 := by decide +kernel
set_option maxHeartbeats 4000000 in
set_option maxRecDepth 100000 in
/-- of -/
theorem c_X6_of (l : Launch) (g : gG) (gh : gGh) (pA bA nA : Nat) (I : gI) (R : gR) (J : gJ) (AI : gI) (AJ : gJ) (AR : gR) (x : Nat) (rel : Int) (wh : Int) (zrel : zr rel) (zwh : zr wh) (hv : gInv g gh R AR I AI) (hx : xS g gh R AR x pA bA nA) : gMet l g yX6_of wsX6_of rmX6_of [.ref x, .int (iI rel), .int (iI wh)] (I, R, J, AI, AJ, AR) (gQi g (fun (z : Int) (w : gS) => I = w.1 ∧ R = w.2.1 ∧ J = w.2.2.1 ∧ AI = w.2.2.2.1 ∧ AJ = w.2.2.2.2.1 ∧ AR = w.2.2.2.2.2)) := by
  refine gStart (cc := cX6_of) (maxL := 4) (ret := (some (.int))) (by decide) rfl (Nat.le_of_ble_eq_true rfl) ?_
  intro p e s m below meth c ls F hr hlk hH hz hS hl
  have hl : lv_has ls 4 [(0, .ref x), (1, .int (iI rel)), (2, .int (iI wh))] := hl
  have hS : va_S (gA g) s.heap s.heap [] := hS
  obtain ⟨H, hHe⟩ : ∃ H : Heap, H = s.heap := ⟨_, rfl⟩
  obtain ⟨locs, hlo⟩ : ∃ k : List Loc, k = [] := ⟨_, rfl⟩
  have hH : gH g I R J AI AJ AR H := by rw [hHe]; exact hH
  have hS : va_S (gA g) s.heap H locs := by rw [hHe, hlo]; exact hS
  suffices hw : W p l e rmX6_of s m ([.ref x, .int (iI rel), .int (iI wh)] : List Value).toArray below meth c H locs 0 0 (MQ below (gQi g (fun (z : Int) (w : gS) => I = w.1 ∧ R = w.2.1 ∧ J = w.2.2.1 ∧ AI = w.2.2.2.1 ∧ AJ = w.2.2.2.2.1 ∧ AR = w.2.2.2.2.2)) ([.ref x, .int (iI rel), .int (iI wh)] : List Value).toArray s 0 0 (gA g)) (F0 m 0 ls []) by
    rw [hHe, hlo] at hw; exact hw
  clear hHe hlo
  have iX6 : ∀ w ∈ u_ws RX6 TX6 18, w ∈ wsX6_of := (by decide +kernel)
  have iX2 : ∀ w ∈ u_ws RX2 TX2 3, w ∈ wsX6_of := (by decide +kernel)
  have iX0 : ∀ w ∈ u_ws RX0 TX0 15, w ∈ wsX6_of := (by decide +kernel)
  have k23 : Cond.fieldLink RX6 23 (TX6 3).1 (TX6 3).2.1 (TX6 3).2.2.1 ∈ wsX6_of := List.mem_of_getElem? (i := 1) rfl
  have k113 : Cond.fieldLink RX6 113 (TX2 0).1 (TX2 0).2.1 (TX2 0).2.2.1 ∈ wsX6_of := List.mem_of_getElem? (i := 2) rfl
  have k117 : Cond.fieldLink RX6 117 (TX0 0).1 (TX0 0).2.1 (TX0 0).2.2.1 ∈ wsX6_of := List.mem_of_getElem? (i := 3) rfl
  have k125 : Cond.fieldLink RX6 125 (TX0 2).1 (TX0 2).2.1 (TX0 2).2.2.1 ∈ wsX6_of := List.mem_of_getElem? (i := 4) rfl
  have k224 : Cond.fieldLink RX6 224 (TX0 3).1 (TX0 3).2.1 (TX0 3).2.2.1 ∈ wsX6_of := List.mem_of_getElem? (i := 5) rfl
  have k227 : Cond.fieldLink RX6 227 (TX0 4).1 (TX0 4).2.1 (TX0 4).2.2.1 ∈ wsX6_of := List.mem_of_getElem? (i := 6) rfl
  have k239 : Cond.fieldLink RX6 239 (TX0 13).1 (TX0 13).2.1 (TX0 13).2.2.1 ∈ wsX6_of := List.mem_of_getElem? (i := 7) rfl
  have k245 : Cond.fieldLink RX6 245 (TX0 14).1 (TX0 14).2.1 (TX0 14).2.2.1 ∈ wsX6_of := List.mem_of_getElem? (i := 8) rfl
  refine lv_aload_n F.1 F.2.1 dX6_of_0 rfl (lv_at hl 0 rfl) ?_
  refine lv_iload_n F.1 F.2.1 dX6_of_1 rfl (lv_at hl 1 rfl) ?_
  have b_1 := gI_x hv hx.1
  refine g_calli (g_runV (As := [.int (iI rel)]) (rest := []) (ci := 6) F hl.1 hH hS hz (c_X6_isRelation l g gh pA bA nA I R J AI AJ AR x rel zrel hv hx) (cwV 1 F.2.2.2.2.1 gX6_of_X6_isRelation rfl rfl rfl hdX6_isRelation ⟨Nat.le_of_ble_eq_true rfl, Nat.le_of_ble_eq_true rfl⟩) hx.1 (by decide) rfl rfl rfl (Nat.le_of_ble_eq_true rfl) dX6_of_2 ⟨Nat.zero_le _, Nat.zero_le _⟩) hS (fun v_8 I_2 R_3 J_4 AI_5 AJ_6 AR_7 H locs zv_8 hp_9 hH hS => ?_)
  dsimp only at hp_9
  obtain ⟨rfl, rfl, rfl, rfl, rfl, rfl, q_10⟩ := hp_9
  refine z_if_ne (tgt := 10) F dX6_of_5 (by decide) zv_8 (fun c_11 => ?_) (fun c_11 => ?_)
  · refine lv_aload_n F.1 F.2.1 dX6_of_10 rfl (lv_at hl 0 rfl) ?_
    refine g_getR (ci := 6) (k := 3) F hH rfl (by decide) iX6 hx.1 (by decide) rfl (b := pA) hx.2.1 k23 dX6_of_11 ?_
    obtain ⟨r_12a, r_12b⟩ := gR_lines hv hx.2.2.1
    refine g_getR (ci := 2) (k := 0) F hH rfl (by decide) iX2 hx.2.2.1 (by decide) rfl (b := gh 6 pA) r_12a k113 dX6_of_14 ?_
    refine lv_iload_n F.1 F.2.1 dX6_of_17 rfl (lv_at hl 1 rfl) ?_
    have hx18 : 0 ≤ rel ∧ rel < ((16 : Nat) : Int) ∧ rel ≤ 2147483647 := ⟨by omega, by omega, by omega⟩
    obtain ⟨y_13, y_13a, y_13b, y_13c, y_13d⟩ := gA_lines hv hx.2.2.1 (z := rel) (by omega) (by omega)
    refine g_aldL F hH r_12b hx18.1 hx18.2.1 hx18.2.2 (b := y_13) y_13a dX6_of_18 ?_
    refine lv_astore_n (lv' := [(3, .ref y_13), (0, .ref x), (1, .int (iI rel)), (2, .int (iI wh))]) F.1 F.2.1 dX6_of_19 rfl hl (by decide) rfl (fun ls hl => ?_)
    refine lv_iload_n F.1 F.2.1 dX6_of_20 rfl (lv_at hl 3 rfl) ?_
    have ec_14 : (iI wh).toInt = wh := iI_val zwh
    by_cases c_14 : wh < 0 ∨ 8 < wh
    · refine lv_tableOut (tgt := 121) F.1 F.2.1 dX6_of_21 (by rw [ec_14]; exact c_14) (by decide) ?_
      refine z_iconst F dX6_of_121 ?_
      exact g_iret F hr hlk hH hS hz ⟨by decide, by decide⟩ ⟨rfl, rfl, rfl, rfl, rfl, rfl⟩ dX6_of_122
    by_cases c_14_0 : wh = 0
    · refine lv_tableIn (tgt := 72) (off := 51) F.1 F.2.1 dX6_of_21 (by rw [ec_14]; omega) (by rw [ec_14]; omega) (by rw [ec_14, c_14_0]; rfl) (by decide) ?_
      refine lv_aload_n F.1 F.2.1 dX6_of_72 rfl (lv_at hl 0 rfl) ?_
      refine g_getI (ci := 0) (k := 0) F hH rfl (by decide) iX0 y_13b (by decide) rfl k117 dX6_of_73 ?_
      have b_15 := gI_line hv y_13b
      unfold vLineI at b_15
      exact g_iret F hr hlk hH hS hz (zr_t _) ⟨rfl, rfl, rfl, rfl, rfl, rfl⟩ dX6_of_76
    by_cases c_14_1 : wh = 1
    · refine lv_tableIn (tgt := 77) (off := 56) F.1 F.2.1 dX6_of_21 (by rw [ec_14]; omega) (by rw [ec_14]; omega) (by rw [ec_14, c_14_1]; rfl) (by decide) ?_
      refine lv_aload_n F.1 F.2.1 dX6_of_77 rfl (lv_at hl 0 rfl) ?_
      refine g_getI (ci := 0) (k := 2) F hH rfl (by decide) iX0 y_13b (by decide) rfl k125 dX6_of_78 ?_
      have b_16 := gI_line hv y_13b
      unfold vLineI at b_16
      exact g_iret F hr hlk hH hS hz (zr_t _) ⟨rfl, rfl, rfl, rfl, rfl, rfl⟩ dX6_of_81
    by_cases c_14_2 : wh = 2
    · refine lv_tableIn (tgt := 82) (off := 61) F.1 F.2.1 dX6_of_21 (by rw [ec_14]; omega) (by rw [ec_14]; omega) (by rw [ec_14, c_14_2]; rfl) (by decide) ?_
      refine lv_aload_n F.1 F.2.1 dX6_of_82 rfl (lv_at hl 0 rfl) ?_
      refine g_getI (ci := 0) (k := 3) F hH rfl (by decide) iX0 y_13b (by decide) rfl k224 dX6_of_83 ?_
      have b_17 := gI_line hv y_13b
      unfold vLineI at b_17
      exact g_iret F hr hlk hH hS hz (zr_t _) ⟨rfl, rfl, rfl, rfl, rfl, rfl⟩ dX6_of_86
    by_cases c_14_3 : wh = 3
    · refine lv_tableIn (tgt := 87) (off := 66) F.1 F.2.1 dX6_of_21 (by rw [ec_14]; omega) (by rw [ec_14]; omega) (by rw [ec_14, c_14_3]; rfl) (by decide) ?_
      refine lv_aload_n F.1 F.2.1 dX6_of_87 rfl (lv_at hl 0 rfl) ?_
      refine g_getI (ci := 0) (k := 4) F hH rfl (by decide) iX0 y_13b (by decide) rfl k227 dX6_of_88 ?_
      have b_18 := gI_line hv y_13b
      unfold vLineI at b_18
      exact g_iret F hr hlk hH hS hz (zr_t _) ⟨rfl, rfl, rfl, rfl, rfl, rfl⟩ dX6_of_91
    by_cases c_14_4 : wh = 4
    · refine lv_tableIn (tgt := 92) (off := 71) F.1 F.2.1 dX6_of_21 (by rw [ec_14]; omega) (by rw [ec_14]; omega) (by rw [ec_14, c_14_4]; rfl) (by decide) ?_
      refine lv_aload_n F.1 F.2.1 dX6_of_92 rfl (lv_at hl 0 rfl) ?_
      refine g_getI (ci := 0) (k := 13) F hH rfl (by decide) iX0 y_13b (by decide) rfl k239 dX6_of_93 ?_
      refine z_norm (fun v_19 zv_19 ev_19 => ?_)
      exact g_iret F hr hlk hH hS hz zv_19 ⟨rfl, rfl, rfl, rfl, rfl, rfl⟩ dX6_of_96
    by_cases c_14_5 : wh = 5
    · refine lv_tableIn (tgt := 97) (off := 76) F.1 F.2.1 dX6_of_21 (by rw [ec_14]; omega) (by rw [ec_14]; omega) (by rw [ec_14, c_14_5]; rfl) (by decide) ?_
      refine lv_aload_n F.1 F.2.1 dX6_of_97 rfl (lv_at hl 1 rfl) ?_
      refine g_getR (ci := 6) (k := 3) F hH rfl (by decide) iX6 hx.1 (by decide) rfl (b := pA) hx.2.1 k23 dX6_of_98 ?_
      refine lv_iload_n F.1 F.2.1 dX6_of_101 rfl (lv_at hl 2 rfl) ?_
      have b_20 := gI_plan hv hx.2.2.1
      refine g_calli (g_runV (As := [.int (iI rel)]) (rest := []) (ci := 2) F hl.1 hH hS hz (c_X2_hangingOn l g gh I R J AI AJ AR pA rel zrel hv hx.2.2.1) (cwV 1 F.2.2.2.2.1 gX6_of_X2_hangingOn rfl rfl rfl hdX2_hangingOn ⟨Nat.le_of_ble_eq_true rfl, Nat.le_of_ble_eq_true rfl⟩) hx.2.2.1 (by decide) rfl rfl rfl (Nat.le_of_ble_eq_true rfl) dX6_of_102 ⟨Nat.zero_le _, Nat.zero_le _⟩) hS (fun v_27 I_21 R_22 J_23 AI_24 AJ_25 AR_26 H locs zv_27 hp_28 hH hS => ?_)
      dsimp only at hp_28
      obtain ⟨rfl, rfl, rfl, rfl, rfl, rfl⟩ := hp_28
      exact g_iret F hr hlk hH hS hz zv_27 ⟨rfl, rfl, rfl, rfl, rfl, rfl⟩ dX6_of_105
    by_cases c_14_6 : wh = 6
    · refine lv_tableIn (tgt := 106) (off := 85) F.1 F.2.1 dX6_of_21 (by rw [ec_14]; omega) (by rw [ec_14]; omega) (by rw [ec_14, c_14_6]; rfl) (by decide) ?_
      refine lv_aload_n F.1 F.2.1 dX6_of_106 rfl (lv_at hl 0 rfl) ?_
      refine g_getI (ci := 0) (k := 14) F hH rfl (by decide) iX0 y_13b (by decide) rfl k245 dX6_of_107 ?_
      refine z_norm (fun v_29 zv_29 ev_29 => ?_)
      exact g_iret F hr hlk hH hS hz zv_29 ⟨rfl, rfl, rfl, rfl, rfl, rfl⟩ dX6_of_110
    by_cases c_14_7 : wh = 7
    · refine lv_tableIn (tgt := 111) (off := 90) F.1 F.2.1 dX6_of_21 (by rw [ec_14]; omega) (by rw [ec_14]; omega) (by rw [ec_14, c_14_7]; rfl) (by decide) ?_
      refine lv_aload_n F.1 F.2.1 dX6_of_111 rfl (lv_at hl 0 rfl) ?_
      have b_30 := gI_line hv y_13b
      unfold vLineI at b_30
      refine g_calli (g_runV (As := []) (rest := []) (ci := 0) F hl.1 hH hS hz (c_X0_firstLetter l g gh I R J AI AJ AR y_13 hv y_13b) (cwV 0 F.2.2.2.2.1 gX6_of_X0_firstLetter rfl rfl rfl hdX0_firstLetter ⟨Nat.le_of_ble_eq_true rfl, Nat.le_of_ble_eq_true rfl⟩) y_13b (by decide) rfl rfl rfl (Nat.le_of_ble_eq_true rfl) dX6_of_112 ⟨Nat.zero_le _, Nat.zero_le _⟩) hS (fun v_37 I_31 R_32 J_33 AI_34 AJ_35 AR_36 H locs zv_37 hp_38 hH hS => ?_)
      dsimp only at hp_38
      obtain ⟨rfl, rfl, rfl, rfl, rfl, rfl⟩ := hp_38
      exact g_iret F hr hlk hH hS hz zv_37 ⟨rfl, rfl, rfl, rfl, rfl, rfl⟩ dX6_of_115
    have c_14_8 : wh = 8 := by omega
    refine lv_tableIn (tgt := 116) (off := 95) F.1 F.2.1 dX6_of_21 (by rw [ec_14]; omega) (by rw [ec_14]; omega) (by rw [ec_14, c_14_8]; rfl) (by decide) ?_
    refine lv_aload_n F.1 F.2.1 dX6_of_116 rfl (lv_at hl 0 rfl) ?_
    have b_39 := gI_line hv y_13b
    unfold vLineI at b_39
    refine g_calli (g_runV (As := []) (rest := []) (ci := 0) F hl.1 hH hS hz (c_X0_lastLetter l g gh I R J AI AJ AR y_13 hv y_13b) (cwV 0 F.2.2.2.2.1 gX6_of_X0_lastLetter rfl rfl rfl hdX0_lastLetter ⟨Nat.le_of_ble_eq_true rfl, Nat.le_of_ble_eq_true rfl⟩) y_13b (by decide) rfl rfl rfl (Nat.le_of_ble_eq_true rfl) dX6_of_117 ⟨Nat.zero_le _, Nat.zero_le _⟩) hS (fun v_46 I_40 R_41 J_42 AI_43 AJ_44 AR_45 H locs zv_46 hp_47 hH hS => ?_)
    dsimp only at hp_47
    obtain ⟨rfl, rfl, rfl, rfl, rfl, rfl⟩ := hp_47
    exact g_iret F hr hlk hH hS hz zv_46 ⟨rfl, rfl, rfl, rfl, rfl, rfl⟩ dX6_of_120
  · refine z_iconst F dX6_of_8 ?_
    exact g_iret F hr hlk hH hS hz ⟨by decide, by decide⟩ ⟨rfl, rfl, rfl, rfl, rfl, rfl⟩ dX6_of_9

def rmX6_told : Room := { frames := 2, cells := 0, slots := 0, locals := 44 }
theorem hdX6_told : yX6_told.cls = RX6 ∧ yX6_told.cls ≠ "java/lang/invoke/MethodHandle" ∧ yX6_told.cls ≠ "java/lang/invoke/VarHandle" ∧ (parseMethodDescriptor yX6_told.desc).map (fun d => d.parameters.length) = some 1 := by decide +kernel
set_option maxHeartbeats 4000000 in
set_option maxRecDepth 100000 in
/-- told -/
theorem c_X6_told (l : Launch) (g : gG) (gh : gGh) (pA bA nA : Nat) (I : gI) (R : gR) (J : gJ) (AI : gI) (AJ : gJ) (AR : gR) (x : Nat) (wh : Int) (zwh : zr wh) (hv : gInv g gh R AR I AI) (hx : xS g gh R AR x pA bA nA) : gMet l g yX6_told wsX6_told rmX6_told [.ref x, .int (iI wh)] (I, R, J, AI, AJ, AR) (gQi g (fun (z : Int) (w : gS) => I = w.1 ∧ R = w.2.1 ∧ J = w.2.2.1 ∧ AI = w.2.2.2.1 ∧ AJ = w.2.2.2.2.1 ∧ AR = w.2.2.2.2.2)) := by
  refine gStart (cc := cX6_told) (maxL := 2) (ret := (some (.int))) (by decide) rfl (Nat.le_of_ble_eq_true rfl) ?_
  intro p e s m below meth c ls F hr hlk hH hz hS hl
  have hl : lv_has ls 2 [(0, .ref x), (1, .int (iI wh))] := hl
  have hS : va_S (gA g) s.heap s.heap [] := hS
  obtain ⟨H, hHe⟩ : ∃ H : Heap, H = s.heap := ⟨_, rfl⟩
  obtain ⟨locs, hlo⟩ : ∃ k : List Loc, k = [] := ⟨_, rfl⟩
  have hH : gH g I R J AI AJ AR H := by rw [hHe]; exact hH
  have hS : va_S (gA g) s.heap H locs := by rw [hHe, hlo]; exact hS
  suffices hw : W p l e rmX6_told s m ([.ref x, .int (iI wh)] : List Value).toArray below meth c H locs 0 0 (MQ below (gQi g (fun (z : Int) (w : gS) => I = w.1 ∧ R = w.2.1 ∧ J = w.2.2.1 ∧ AI = w.2.2.2.1 ∧ AJ = w.2.2.2.2.1 ∧ AR = w.2.2.2.2.2)) ([.ref x, .int (iI wh)] : List Value).toArray s 0 0 (gA g)) (F0 m 0 ls []) by
    rw [hHe, hlo] at hw; exact hw
  clear hHe hlo
  have iX6 : ∀ w ∈ u_ws RX6 TX6 18, w ∈ wsX6_told := (by decide +kernel)
  have iX4 : ∀ w ∈ u_ws RX4 TX4 4, w ∈ wsX6_told := (by decide +kernel)
  have iX2 : ∀ w ∈ u_ws RX2 TX2 3, w ∈ wsX6_told := (by decide +kernel)
  have k23 : Cond.fieldLink RX6 23 (TX6 3).1 (TX6 3).2.1 (TX6 3).2.2.1 ∈ wsX6_told := List.mem_of_getElem? (i := 1) rfl
  have k122 : Cond.fieldLink RX6 122 (TX2 2).1 (TX2 2).2.1 (TX2 2).2.2.1 ∈ wsX6_told := List.mem_of_getElem? (i := 2) rfl
  have k96 : Cond.fieldLink RX6 96 (TX2 1).1 (TX2 1).2.1 (TX2 1).2.2.1 ∈ wsX6_told := List.mem_of_getElem? (i := 3) rfl
  have k103 : Cond.fieldLink RX6 103 (TX6 16).1 (TX6 16).2.1 (TX6 16).2.2.1 ∈ wsX6_told := List.mem_of_getElem? (i := 4) rfl
  have k106 : Cond.fieldLink RX6 106 (TX6 17).1 (TX6 17).2.1 (TX6 17).2.2.1 ∈ wsX6_told := List.mem_of_getElem? (i := 5) rfl
  have k100 : Cond.fieldLink RX6 100 (TX6 15).1 (TX6 15).2.1 (TX6 15).2.2.1 ∈ wsX6_told := List.mem_of_getElem? (i := 6) rfl
  have k53 : Cond.fieldLink RX6 53 (TX6 8).1 (TX6 8).2.1 (TX6 8).2.2.1 ∈ wsX6_told := List.mem_of_getElem? (i := 7) rfl
  have k99 : Cond.fieldLink RX6 99 (TX4 3).1 (TX4 3).2.1 (TX4 3).2.2.1 ∈ wsX6_told := List.mem_of_getElem? (i := 8) rfl
  have k77 : Cond.fieldLink RX6 77 (TX6 1).1 (TX6 1).2.1 (TX6 1).2.2.1 ∈ wsX6_told := List.mem_of_getElem? (i := 9) rfl
  refine lv_iload_n F.1 F.2.1 dX6_told_0 rfl (lv_at hl 1 rfl) ?_
  have ec_1 : (iI wh).toInt = wh := iI_val zwh
  by_cases c_1 : wh < 0 ∨ 9 < wh
  · refine lv_tableOut (tgt := 123) F.1 F.2.1 dX6_told_1 (by rw [ec_1]; exact c_1) (by decide) ?_
    refine z_iconst F dX6_told_123 ?_
    exact g_iret F hr hlk hH hS hz ⟨by decide, by decide⟩ ⟨rfl, rfl, rfl, rfl, rfl, rfl⟩ dX6_told_124
  by_cases c_1_0 : wh = 0
  · refine lv_tableIn (tgt := 56) (off := 55) F.1 F.2.1 dX6_told_1 (by rw [ec_1]; omega) (by rw [ec_1]; omega) (by rw [ec_1, c_1_0]; rfl) (by decide) ?_
    refine lv_aload_n F.1 F.2.1 dX6_told_56 rfl (lv_at hl 0 rfl) ?_
    refine g_getR (ci := 6) (k := 3) F hH rfl (by decide) iX6 hx.1 (by decide) rfl (b := pA) hx.2.1 k23 dX6_told_57 ?_
    refine g_getI (ci := 2) (k := 2) F hH rfl (by decide) iX2 hx.2.2.1 (by decide) rfl k122 dX6_told_60 ?_
    have b_2 := gI_plan hv hx.2.2.1
    exact g_iret F hr hlk hH hS hz (zr_t _) ⟨rfl, rfl, rfl, rfl, rfl, rfl⟩ dX6_told_63
  by_cases c_1_1 : wh = 1
  · refine lv_tableIn (tgt := 64) (off := 63) F.1 F.2.1 dX6_told_1 (by rw [ec_1]; omega) (by rw [ec_1]; omega) (by rw [ec_1, c_1_1]; rfl) (by decide) ?_
    refine lv_aload_n F.1 F.2.1 dX6_told_64 rfl (lv_at hl 0 rfl) ?_
    refine g_getR (ci := 6) (k := 3) F hH rfl (by decide) iX6 hx.1 (by decide) rfl (b := pA) hx.2.1 k23 dX6_told_65 ?_
    refine g_getI (ci := 2) (k := 1) F hH rfl (by decide) iX2 hx.2.2.1 (by decide) rfl k96 dX6_told_68 ?_
    have b_3 := gI_plan hv hx.2.2.1
    refine lv_aload_n F.1 F.2.1 dX6_told_71 rfl (lv_at hl 0 rfl) ?_
    refine g_getR (ci := 6) (k := 3) F hH rfl (by decide) iX6 hx.1 (by decide) rfl (b := pA) hx.2.1 k23 dX6_told_72 ?_
    refine g_getI (ci := 2) (k := 2) F hH rfl (by decide) iX2 hx.2.2.1 (by decide) rfl k122 dX6_told_75 ?_
    refine z_isub F dX6_told_78 ?_
    exact g_iret F hr hlk hH hS hz ⟨by omega, by omega⟩ ⟨rfl, rfl, rfl, rfl, rfl, rfl⟩ dX6_told_79
  by_cases c_1_2 : wh = 2
  · refine lv_tableIn (tgt := 80) (off := 79) F.1 F.2.1 dX6_told_1 (by rw [ec_1]; omega) (by rw [ec_1]; omega) (by rw [ec_1, c_1_2]; rfl) (by decide) ?_
    refine lv_aload_n F.1 F.2.1 dX6_told_80 rfl (lv_at hl 0 rfl) ?_
    refine g_getI (ci := 6) (k := 16) F hH rfl (by decide) iX6 hx.1 (by decide) rfl k103 dX6_told_81 ?_
    refine z_norm (fun v_4 zv_4 ev_4 => ?_)
    exact g_iret F hr hlk hH hS hz zv_4 ⟨rfl, rfl, rfl, rfl, rfl, rfl⟩ dX6_told_84
  by_cases c_1_3 : wh = 3
  · refine lv_tableIn (tgt := 85) (off := 84) F.1 F.2.1 dX6_told_1 (by rw [ec_1]; omega) (by rw [ec_1]; omega) (by rw [ec_1, c_1_3]; rfl) (by decide) ?_
    refine lv_aload_n F.1 F.2.1 dX6_told_85 rfl (lv_at hl 0 rfl) ?_
    refine g_getI (ci := 6) (k := 17) F hH rfl (by decide) iX6 hx.1 (by decide) rfl k106 dX6_told_86 ?_
    refine z_norm (fun v_5 zv_5 ev_5 => ?_)
    exact g_iret F hr hlk hH hS hz zv_5 ⟨rfl, rfl, rfl, rfl, rfl, rfl⟩ dX6_told_89
  by_cases c_1_4 : wh = 4
  · refine lv_tableIn (tgt := 90) (off := 89) F.1 F.2.1 dX6_told_1 (by rw [ec_1]; omega) (by rw [ec_1]; omega) (by rw [ec_1, c_1_4]; rfl) (by decide) ?_
    refine lv_aload_n F.1 F.2.1 dX6_told_90 rfl (lv_at hl 0 rfl) ?_
    refine g_getI (ci := 6) (k := 15) F hH rfl (by decide) iX6 hx.1 (by decide) rfl k100 dX6_told_91 ?_
    have b_6 := gI_x hv hx.1
    exact g_iret F hr hlk hH hS hz (zr_t _) ⟨rfl, rfl, rfl, rfl, rfl, rfl⟩ dX6_told_94
  by_cases c_1_5 : wh = 5
  · refine lv_tableIn (tgt := 95) (off := 94) F.1 F.2.1 dX6_told_1 (by rw [ec_1]; omega) (by rw [ec_1]; omega) (by rw [ec_1, c_1_5]; rfl) (by decide) ?_
    refine lv_aload_n F.1 F.2.1 dX6_told_95 rfl (lv_at hl 0 rfl) ?_
    obtain ⟨r_7a, r_7b, r_7c, r_7d⟩ := gR_x8 hv hx.1
    refine g_getR (ci := 6) (k := 8) F hH rfl (by decide) iX6 hx.1 (by decide) rfl (b := gh 37 0) r_7a k53 dX6_told_96 ?_
    refine g_getI (ci := 4) (k := 3) F hH rfl (by decide) iX4 r_7b (by decide) rfl k99 dX6_told_99 ?_
    obtain ⟨b_8a, b_8b, b_8c, b_8d, b_8e, b_8f, b_8g, b_8h⟩ := gI_rows hv r_7b
    exact g_iret F hr hlk hH hS hz (zr_t _) ⟨rfl, rfl, rfl, rfl, rfl, rfl⟩ dX6_told_102
  by_cases c_1_6 : wh = 6
  · refine lv_tableIn (tgt := 103) (off := 102) F.1 F.2.1 dX6_told_1 (by rw [ec_1]; omega) (by rw [ec_1]; omega) (by rw [ec_1, c_1_6]; rfl) (by decide) ?_
    refine lv_aload_n F.1 F.2.1 dX6_told_103 rfl (lv_at hl 0 rfl) ?_
    have b_9 := gI_x hv hx.1
    refine g_calli (g_runV (As := []) (rest := []) (ci := 6) F hl.1 hH hS hz (c_X6_tuplesOfViews l g gh pA bA nA I R J AI AJ AR x hv hx) (cwV 0 F.2.2.2.2.1 gX6_told_X6_tuplesOfViews rfl rfl rfl hdX6_tuplesOfViews ⟨Nat.le_of_ble_eq_true rfl, Nat.le_of_ble_eq_true rfl⟩) hx.1 (by decide) rfl rfl rfl (Nat.le_of_ble_eq_true rfl) dX6_told_104 ⟨Nat.zero_le _, Nat.zero_le _⟩) hS (fun v_16 I_10 R_11 J_12 AI_13 AJ_14 AR_15 H locs zv_16 hp_17 hH hS => ?_)
    dsimp only at hp_17
    obtain ⟨rfl, rfl, rfl, rfl, rfl, rfl, q_18⟩ := hp_17
    exact g_iret F hr hlk hH hS hz zv_16 ⟨rfl, rfl, rfl, rfl, rfl, rfl⟩ dX6_told_107
  by_cases c_1_7 : wh = 7
  · refine lv_tableIn (tgt := 108) (off := 107) F.1 F.2.1 dX6_told_1 (by rw [ec_1]; omega) (by rw [ec_1]; omega) (by rw [ec_1, c_1_7]; rfl) (by decide) ?_
    refine lv_aload_n F.1 F.2.1 dX6_told_108 rfl (lv_at hl 0 rfl) ?_
    have b_19 := gI_x hv hx.1
    refine g_calli (g_runV (As := []) (rest := []) (ci := 6) F hl.1 hH hS hz (c_X6_movedInViews l g gh pA bA nA I R J AI AJ AR x hv hx) (cwV 0 F.2.2.2.2.1 gX6_told_X6_movedInViews rfl rfl rfl hdX6_movedInViews ⟨Nat.le_of_ble_eq_true rfl, Nat.le_of_ble_eq_true rfl⟩) hx.1 (by decide) rfl rfl rfl (Nat.le_of_ble_eq_true rfl) dX6_told_109 ⟨Nat.zero_le _, Nat.zero_le _⟩) hS (fun v_26 I_20 R_21 J_22 AI_23 AJ_24 AR_25 H locs zv_26 hp_27 hH hS => ?_)
    dsimp only at hp_27
    obtain ⟨rfl, rfl, rfl, rfl, rfl, rfl, q_28⟩ := hp_27
    exact g_iret F hr hlk hH hS hz zv_26 ⟨rfl, rfl, rfl, rfl, rfl, rfl⟩ dX6_told_112
  by_cases c_1_8 : wh = 8
  · refine lv_tableIn (tgt := 113) (off := 112) F.1 F.2.1 dX6_told_1 (by rw [ec_1]; omega) (by rw [ec_1]; omega) (by rw [ec_1, c_1_8]; rfl) (by decide) ?_
    refine lv_aload_n F.1 F.2.1 dX6_told_113 rfl (lv_at hl 0 rfl) ?_
    have b_29 := gI_x hv hx.1
    refine g_calli (g_runV (As := []) (rest := []) (ci := 6) F hl.1 hH hS hz (c_X6_cameToViews l g gh pA bA nA I R J AI AJ AR x hv hx) (cwV 0 F.2.2.2.2.1 gX6_told_X6_cameToViews rfl rfl rfl hdX6_cameToViews ⟨Nat.le_of_ble_eq_true rfl, Nat.le_of_ble_eq_true rfl⟩) hx.1 (by decide) rfl rfl rfl (Nat.le_of_ble_eq_true rfl) dX6_told_114 ⟨Nat.zero_le _, Nat.zero_le _⟩) hS (fun v_36 I_30 R_31 J_32 AI_33 AJ_34 AR_35 H locs zv_36 hp_37 hH hS => ?_)
    dsimp only at hp_37
    obtain ⟨rfl, rfl, rfl, rfl, rfl, rfl, q_38⟩ := hp_37
    exact g_iret F hr hlk hH hS hz zv_36 ⟨rfl, rfl, rfl, rfl, rfl, rfl⟩ dX6_told_117
  have c_1_9 : wh = 9 := by omega
  refine lv_tableIn (tgt := 118) (off := 117) F.1 F.2.1 dX6_told_1 (by rw [ec_1]; omega) (by rw [ec_1]; omega) (by rw [ec_1, c_1_9]; rfl) (by decide) ?_
  refine lv_aload_n F.1 F.2.1 dX6_told_118 rfl (lv_at hl 0 rfl) ?_
  refine g_getI (ci := 6) (k := 1) F hH rfl (by decide) iX6 hx.1 (by decide) rfl k77 dX6_told_119 ?_
  have b_39 := gI_x hv hx.1
  exact g_iret F hr hlk hH hS hz (zr_t _) ⟨rfl, rfl, rfl, rfl, rfl, rfl⟩ dX6_told_122

def rmX6_gatherValues : Room := { frames := 3, cells := 0, slots := 0, locals := 108 }
theorem hdX6_gatherValues : yX6_gatherValues.cls = RX6 ∧ yX6_gatherValues.cls ≠ "java/lang/invoke/MethodHandle" ∧ yX6_gatherValues.cls ≠ "java/lang/invoke/VarHandle" ∧ (parseMethodDescriptor yX6_gatherValues.desc).map (fun d => d.parameters.length) = some 2 := by decide +kernel
set_option maxHeartbeats 4000000 in
set_option maxRecDepth 100000 in
/-- the values of a column -/
theorem c_X6_gatherValues (l : Launch) (g : gG) (gh : gGh) (pA bA nA : Nat) (I : gI) (R : gR) (J : gJ) (AI : gI) (AJ : gJ) (AR : gR) (x : Nat) (ch : Nat) (col : Int) (zcol : zr col) (hv : gInv g gh R AR I AI) (hx : xS g gh R AR x pA bA nA) (hch : gO g ch 4) (h0 : 0 ≤ col ∧ col ≤ 5) : gMet l g yX6_gatherValues wsX6_gatherValues rmX6_gatherValues [.ref x, .ref ch, .int (iI col)] (I, R, J, AI, AJ, AR) (gQv g (fun w : gS => R = w.2.1 ∧ J = w.2.2.1 ∧ AJ = w.2.2.2.2.1 ∧ AR = w.2.2.2.2.2 ∧ (gInv g gh R AR (w.1) (w.2.2.2.1)) ∧ (rF g I (w.1)))) := by
  refine gStart (cc := cX6_gatherValues) (maxL := 4) (ret := none) (by decide) rfl (Nat.le_of_ble_eq_true rfl) ?_
  intro p e s m below meth c ls F hr hlk hH hz hS hl
  have hl : lv_has ls 4 [(0, .ref x), (1, .ref ch), (2, .int (iI col))] := hl
  have hS : va_S (gA g) s.heap s.heap [] := hS
  obtain ⟨H, hHe⟩ : ∃ H : Heap, H = s.heap := ⟨_, rfl⟩
  obtain ⟨locs, hlo⟩ : ∃ k : List Loc, k = [] := ⟨_, rfl⟩
  have hH : gH g I R J AI AJ AR H := by rw [hHe]; exact hH
  have hS : va_S (gA g) s.heap H locs := by rw [hHe, hlo]; exact hS
  suffices hw : W p l e rmX6_gatherValues s m ([.ref x, .ref ch, .int (iI col)] : List Value).toArray below meth c H locs 0 0 (MQ below (gQv g (fun w : gS => R = w.2.1 ∧ J = w.2.2.1 ∧ AJ = w.2.2.2.2.1 ∧ AR = w.2.2.2.2.2 ∧ (gInv g gh R AR (w.1) (w.2.2.2.1)) ∧ (rF g I (w.1)))) ([.ref x, .ref ch, .int (iI col)] : List Value).toArray s 0 0 (gA g)) (F0 m 0 ls []) by
    rw [hHe, hlo] at hw; exact hw
  clear hHe hlo
  have rf : rF g I I := rF_r
  have iX6 : ∀ w ∈ u_ws RX6 TX6 18, w ∈ wsX6_gatherValues := (by decide +kernel)
  have iX4 : ∀ w ∈ u_ws RX4 TX4 4, w ∈ wsX6_gatherValues := (by decide +kernel)
  have k63 : Cond.fieldLink RX6 63 (TX6 11).1 (TX6 11).2.1 (TX6 11).2.2.1 ∈ wsX6_gatherValues := List.mem_of_getElem? (i := 1) rfl
  have k99 : Cond.fieldLink RX6 99 (TX4 3).1 (TX4 3).2.1 (TX4 3).2.2.1 ∈ wsX6_gatherValues := List.mem_of_getElem? (i := 2) rfl
  have k66 : Cond.fieldLink RX6 66 (TX6 12).1 (TX6 12).2.1 (TX6 12).2.2.1 ∈ wsX6_gatherValues := List.mem_of_getElem? (i := 3) rfl
  refine lv_aload_n F.1 F.2.1 dX6_gatherValues_0 rfl (lv_at hl 0 rfl) ?_
  obtain ⟨r_1a, r_1b, r_1c, r_1d⟩ := gR_x11 hv hx.1
  refine g_getR (ci := 6) (k := 11) F hH rfl (by decide) iX6 hx.1 (by decide) rfl (b := gh 40 0) r_1a k63 dX6_gatherValues_1 ?_
  refine z_iconst F dX6_gatherValues_4 ?_
  refine g_putI (ci := 4) (k := 3) F hH hS rfl (by decide) iX4 r_1b (by decide) tyX4 tyX4_ok nmX4 rfl rfl rfl k99 dX6_gatherValues_5 (fun H locs hH hS => ?_)
  obtain ⟨I_2, eI_2⟩ : ∃ qQ, qQ = gup2 I (gh 40 0) 3 (iI (0)) := ⟨_, rfl⟩
  rw [← eI_2] at hH
  have kI_2 : ∀ b, b ≠ (gh 40 0) → I_2 b = I b := fun b hb => by rw [eI_2]; exact funext fun j => gup2_a _ _ hb
  have w_3 : (I_2 (gh 40 0) 3).toInt = 0 := by rw [eI_2, gup2_s]; exact iI_val ⟨by omega, by omega⟩
  have hv : gInv g gh R AR I_2 AI := by rw [eI_2]; exact gInv_len hv r_1b (by omega) (by omega) (by first | exact hfz | omega)
  have rf := rF_t rf (rF_o r_1b kI_2)
  refine lv_aload_n F.1 F.2.1 dX6_gatherValues_8 rfl (lv_at hl 0 rfl) ?_
  refine z_iconst F dX6_gatherValues_9 ?_
  refine z_iconst F dX6_gatherValues_10 ?_
  refine z_iconst F dX6_gatherValues_11 ?_
  refine z_iconst F dX6_gatherValues_12 ?_
  refine z_iconst F dX6_gatherValues_13 ?_
  have b_4 := gI_x hv hx.1
  refine g_callv (g_runV (As := [.int (iI 1), .int (iI 0), .int (iI 0), .int (iI 0), .int (iI 0)]) (rest := []) (ci := 6) F hl.1 hH hS hz (c_X6_setKey l g gh pA bA nA I_2 R J AI AJ AR x 1 0 0 0 0 ⟨by decide, by decide⟩ ⟨by decide, by decide⟩ ⟨by decide, by decide⟩ ⟨by decide, by decide⟩ ⟨by decide, by decide⟩ hv hx) (cwV 5 F.2.2.2.2.1 gX6_gatherValues_X6_setKey rfl rfl rfl hdX6_setKey ⟨Nat.le_of_ble_eq_true rfl, Nat.le_of_ble_eq_true rfl⟩) hx.1 (by decide) rfl rfl rfl (Nat.le_of_ble_eq_true rfl) dX6_gatherValues_14 ⟨Nat.zero_le _, Nat.zero_le _⟩) hS (fun I_5 R_6 J_7 AI_8 AJ_9 AR_10 H locs hp_11 hH hS => ?_)
  dsimp only at hp_11
  obtain ⟨rfl, rfl, rfl, rfl, rfl, hv⟩ := hp_11
  refine z_iconst F dX6_gatherValues_17 ?_
  refine lv_istore_n (lv' := [(3, .int (iI 0)), (0, .ref x), (1, .ref ch), (2, .int (iI col))]) F.1 F.2.1 dX6_gatherValues_18 rfl hl (by decide) rfl (fun ls hl => ?_)
  have cut_19_13 : ∀ (NN : Nat) (i : Int) (I_12 : gI) (AI_13 : gI) (H : Heap) (locs : List Loc) (ls : Array Slot), zr i → (gInv g gh R AR I_12 AI_13) → (rF g I I_12) → (0 ≤ i ∧ i ≤ 240) → (240 - i) < ((NN : Nat) : Int) → gH g I_12 R J AI_13 AJ AR H → va_S (gA g) s.heap H locs → lv_has ls 4 [(3, .int (iI i)), (0, .ref x), (1, .ref ch), (2, .int (iI col))] → W p l e rmX6_gatherValues s m ([.ref x, .ref ch, .int (iI col)] : List Value).toArray below meth c H locs 0 0 (MQ below (gQv g (fun w : gS => R = w.2.1 ∧ J = w.2.2.1 ∧ AJ = w.2.2.2.2.1 ∧ AR = w.2.2.2.2.2 ∧ (gInv g gh R AR (w.1) (w.2.2.2.1)) ∧ (rF g I (w.1)))) ([.ref x, .ref ch, .int (iI col)] : List Value).toArray s 0 0 (gA g)) (F0 m 19 ls []) := by
    intro NN19
    induction NN19 with
    | zero =>
      intro i I_12 AI_13 H locs ls zi hv rf hi hm19 hH hS hl
      exact absurd hm19 (by omega)
    | succ NN19 ih19 =>
      intro i I_12 AI_13 H locs ls zi hv rf hi hm19 hH hS hl
      refine lv_iload_n F.1 F.2.1 dX6_gatherValues_19 rfl (lv_at hl 0 rfl) ?_
      refine lv_aload_n F.1 F.2.1 dX6_gatherValues_20 rfl (lv_at hl 2 rfl) ?_
      refine g_getI (ci := 4) (k := 3) F hH rfl (by decide) iX4 hch (by decide) rfl k99 dX6_gatherValues_21 ?_
      obtain ⟨b_15a, b_15b, b_15c, b_15d, b_15e, b_15f, b_15g, b_15h⟩ := gI_rows hv hch
      refine z_icmp_ge (tgt := 58) F dX6_gatherValues_24 (by decide) zi (zr_t _) (fun c_16 => ?_) (fun c_16 => ?_)
      · exact g_vret F hr hlk hH hS hz ⟨rfl, rfl, rfl, rfl, hv, rf⟩ dX6_gatherValues_58
      · refine lv_aload_n F.1 F.2.1 dX6_gatherValues_27 rfl (lv_at hl 1 rfl) ?_
        obtain ⟨r_17a, r_17b⟩ := gR_x12 hv hx.1
        refine g_getR (ci := 6) (k := 12) F hH rfl (by decide) iX6 hx.1 (by decide) rfl (b := gh 29 0) r_17a k66 dX6_gatherValues_28 ?_
        refine z_iconst F dX6_gatherValues_31 ?_
        refine lv_aload_n F.1 F.2.1 dX6_gatherValues_32 rfl (lv_at hl 2 rfl) ?_
        refine lv_iload_n F.1 F.2.1 dX6_gatherValues_33 rfl (lv_at hl 0 rfl) ?_
        refine lv_iload_n F.1 F.2.1 dX6_gatherValues_34 rfl (lv_at hl 3 rfl) ?_
        refine g_calli (g_runV (As := [.int (iI i), .int (iI col)]) (rest := [.int (iI 0), .ref (gh 29 0)]) (ci := 4) F hl.1 hH hS hz (c_X4_cell l g gh I_12 R J AI_13 AJ AR ch i col zi zcol hv hch (by omega) (by omega) (by omega) (by omega)) (cwV 2 F.2.2.2.2.1 gX6_gatherValues_X4_cell rfl rfl rfl hdX4_cell ⟨Nat.le_of_ble_eq_true rfl, Nat.le_of_ble_eq_true rfl⟩) hch (by decide) rfl rfl rfl (Nat.le_of_ble_eq_true rfl) dX6_gatherValues_35 ⟨Nat.zero_le _, Nat.zero_le _⟩) hS (fun v_24 I_18 R_19 J_20 AI_21 AJ_22 AR_23 H locs zv_24 hp_25 hH hS => ?_)
        dsimp only at hp_25
        obtain ⟨rfl, rfl, rfl, rfl, rfl, rfl, q_26⟩ := hp_25
        have hx38 : 0 ≤ (0 : Int) ∧ (0 : Int) < ((5 : Nat) : Int) ∧ (0 : Int) ≤ 2147483647 := ⟨by omega, by omega, by omega⟩
        refine g_iast F hH hS r_17b hx38.1 hx38.2.1 hx38.2.2 dX6_gatherValues_38 (fun H locs hH hS => ?_)
        obtain ⟨AI_27, eAI_27⟩ : ∃ qQ, qQ = gup2 AI_13 (gh 29 0) ((0 : Int)).toNat (iI (v_24)) := ⟨_, rfl⟩
        rw [← eAI_27] at hH
        have kAI_27 : ∀ b, b ≠ (gh 29 0) → AI_27 b = AI_13 b := fun b hb => by rw [eAI_27]; exact funext fun j => gup2_a _ _ hb
        have hv : gInv g gh R AR I_12 AI_27 := gInv_plain hv (ro29 hv hx.1) kAI_27
        refine lv_aload_n F.1 F.2.1 dX6_gatherValues_39 rfl (lv_at hl 1 rfl) ?_
        refine g_getR (ci := 6) (k := 11) F hH rfl (by decide) iX6 hx.1 (by decide) rfl (b := gh 40 0) r_1a k63 dX6_gatherValues_40 ?_
        refine lv_aload_n F.1 F.2.1 dX6_gatherValues_43 rfl (lv_at hl 1 rfl) ?_
        refine g_getR (ci := 6) (k := 12) F hH rfl (by decide) iX6 hx.1 (by decide) rfl (b := gh 29 0) r_17a k66 dX6_gatherValues_44 ?_
        refine z_iconst F dX6_gatherValues_47 ?_
        obtain ⟨b_28a, b_28b, b_28c, b_28d, b_28e, b_28f, b_28g, b_28h⟩ := gI_rows hv r_1b
        refine g_calli (g_runV (As := [.ref (gh 29 0), .int (iI 1)]) (rest := []) (ci := 4) F hl.1 hH hS hz (c_X4_addAmount l g gh I_12 R J AI_27 AJ AR (gh 40 0) (gh 29 0) 1 ⟨by decide, by decide⟩ hv r_1b r_17b (ro29 hv hx.1) (fun h => absurd h (by omega)) (by first | exact hfz | omega)) (cwV 2 F.2.2.2.2.1 gX6_gatherValues_X4_addAmount rfl rfl rfl hdX4_addAmount ⟨Nat.le_of_ble_eq_true rfl, Nat.le_of_ble_eq_true rfl⟩) r_1b (by decide) rfl rfl rfl (Nat.le_of_ble_eq_true rfl) dX6_gatherValues_48 ⟨Nat.zero_le _, Nat.zero_le _⟩) hS (fun v_35 I_29 R_30 J_31 AI_32 AJ_33 AR_34 H locs zv_35 hp_36 hH hS => ?_)
        dsimp only at hp_36
        obtain ⟨rfl, rfl, rfl, rfl, hv, q_37, q_38⟩ := hp_36
        have rf := rF_t rf (rF_o r_1b q_37)
        have u_39p : I_29 pA = I pA := rf pA 2 hx.2.2.1 (by decide)
        have u_39p1 : (I_29 pA 1).toInt = (I pA 1).toInt := by rw [u_39p]
        have u_39p2 : (I_29 pA 2).toInt = (I pA 2).toInt := by rw [u_39p]
        refine lv_pop F.1 F.2.1 dX6_gatherValues_51 rfl ?_
        refine z_iinc (lv' := [(3, .int (iI (i + 1))), (0, .ref x), (1, .ref ch), (2, .int (iI col))]) F dX6_gatherValues_52 hl (k := 0) rfl (by decide) rfl (fun ls hl => ?_)
        refine z_goto (tgt := 19) F dX6_gatherValues_55 (by decide) ?_
        exact ih19 (i + 1) I_29 AI_32 H locs ls ⟨by omega, by omega⟩ hv rf (by omega) (by omega) hH hS (lv_sub hl [0, 1, 2, 3] rfl)
  exact cut_19_13 (((240 - 0) + 1 : Int).toNat) 0 I_2 AI_8 H locs ls ⟨by decide, by decide⟩ hv rf (by omega) (by omega) hH hS (lv_sub hl [0, 1, 2, 3] rfl)

def rmX6_remember : Room := { frames := 2, cells := 0, slots := 0, locals := 81 }
theorem hdX6_remember : yX6_remember.cls = RX6 ∧ yX6_remember.cls ≠ "java/lang/invoke/MethodHandle" ∧ yX6_remember.cls ≠ "java/lang/invoke/VarHandle" ∧ (parseMethodDescriptor yX6_remember.desc).map (fun d => d.parameters.length) = some 1 := by decide +kernel
set_option maxHeartbeats 4000000 in
set_option maxRecDepth 100000 in
/-- remembers a batch -/
theorem c_X6_remember (l : Launch) (g : gG) (gh : gGh) (pA bA nA : Nat) (I : gI) (R : gR) (J : gJ) (AI : gI) (AJ : gJ) (AR : gR) (x : Nat) (ch : Nat) (hv : gInv g gh R AR I AI) (hx : xS g gh R AR x pA bA nA) (hch : gO g ch 4) (h5 : gh 2 ch = 5) : gMet l g yX6_remember wsX6_remember rmX6_remember [.ref x, .ref ch] (I, R, J, AI, AJ, AR) (gQv g (fun w : gS => R = w.2.1 ∧ J = w.2.2.1 ∧ AJ = w.2.2.2.2.1 ∧ AR = w.2.2.2.2.2 ∧ (gInv g gh R AR (w.1) (w.2.2.2.1)) ∧ (xF g x I (w.1)))) := by
  refine gStart (cc := cX6_remember) (maxL := 2) (ret := none) (by decide) rfl (Nat.le_of_ble_eq_true rfl) ?_
  intro p e s m below meth c ls F hr hlk hH hz hS hl
  have hl : lv_has ls 2 [(0, .ref x), (1, .ref ch)] := hl
  have hS : va_S (gA g) s.heap s.heap [] := hS
  obtain ⟨H, hHe⟩ : ∃ H : Heap, H = s.heap := ⟨_, rfl⟩
  obtain ⟨locs, hlo⟩ : ∃ k : List Loc, k = [] := ⟨_, rfl⟩
  have hH : gH g I R J AI AJ AR H := by rw [hHe]; exact hH
  have hS : va_S (gA g) s.heap H locs := by rw [hHe, hlo]; exact hS
  suffices hw : W p l e rmX6_remember s m ([.ref x, .ref ch] : List Value).toArray below meth c H locs 0 0 (MQ below (gQv g (fun w : gS => R = w.2.1 ∧ J = w.2.2.1 ∧ AJ = w.2.2.2.2.1 ∧ AR = w.2.2.2.2.2 ∧ (gInv g gh R AR (w.1) (w.2.2.2.1)) ∧ (xF g x I (w.1)))) ([.ref x, .ref ch] : List Value).toArray s 0 0 (gA g)) (F0 m 0 ls []) by
    rw [hHe, hlo] at hw; exact hw
  clear hHe hlo
  have xf : xF g x I I := xF_r
  have iX6 : ∀ w ∈ u_ws RX6 TX6 18, w ∈ wsX6_remember := (by decide +kernel)
  have k74 : Cond.fieldLink RX6 74 (TX6 13).1 (TX6 13).2.1 (TX6 13).2.2.1 ∈ wsX6_remember := List.mem_of_getElem? (i := 1) rfl
  have k160 : Cond.fieldLink RX6 160 (TX6 14).1 (TX6 14).2.1 (TX6 14).2.2.1 ∈ wsX6_remember := List.mem_of_getElem? (i := 2) rfl
  have k100 : Cond.fieldLink RX6 100 (TX6 15).1 (TX6 15).2.1 (TX6 15).2.2.1 ∈ wsX6_remember := List.mem_of_getElem? (i := 3) rfl
  refine lv_aload_n F.1 F.2.1 dX6_remember_0 rfl (lv_at hl 0 rfl) ?_
  obtain ⟨r_1a, r_1b⟩ := gR_x13 hv hx.1
  refine g_getR (ci := 6) (k := 13) F hH rfl (by decide) iX6 hx.1 (by decide) rfl (b := gh 36 0) r_1a k74 dX6_remember_1 ?_
  refine lv_aload_n F.1 F.2.1 dX6_remember_4 rfl (lv_at hl 0 rfl) ?_
  refine g_getI (ci := 6) (k := 14) F hH rfl (by decide) iX6 hx.1 (by decide) rfl k160 dX6_remember_5 ?_
  have b_2 := gI_x hv hx.1
  have hx8 : 0 ≤ ((I x 14).toInt) ∧ ((I x 14).toInt) < ((8 : Nat) : Int) ∧ ((I x 14).toInt) ≤ 2147483647 := ⟨by omega, by omega, by omega⟩
  obtain ⟨y_3, y_3a, y_3b, y_3c, y_3d, y_3e⟩ := r_1b.2 (((I x 14).toInt)).toNat (by omega)
  refine g_aldR F hH r_1b.1 hx8.1 hx8.2.1 hx8.2.2 (b := y_3) y_3a dX6_remember_8 ?_
  refine lv_aload_n F.1 F.2.1 dX6_remember_9 rfl (lv_at hl 1 rfl) ?_
  obtain ⟨b_4a, b_4b, b_4c, b_4d, b_4e, b_4f, b_4g, b_4h⟩ := gI_rows hv y_3b
  obtain ⟨b_5a, b_5b, b_5c, b_5d, b_5e, b_5f, b_5g, b_5h⟩ := gI_rows hv hch
  refine g_callv (g_runV (As := [.ref ch]) (rest := []) (ci := 4) F hl.1 hH hS hz (c_X4_copyFrom l g gh I R J AI AJ AR y_3 ch hv y_3b hch (by omega) (by first | exact hfz | omega)) (cwV 1 F.2.2.2.2.1 gX6_remember_X4_copyFrom rfl rfl rfl hdX4_copyFrom ⟨Nat.le_of_ble_eq_true rfl, Nat.le_of_ble_eq_true rfl⟩) y_3b (by decide) rfl rfl rfl (Nat.le_of_ble_eq_true rfl) dX6_remember_10 ⟨Nat.zero_le _, Nat.zero_le _⟩) hS (fun I_6 R_7 J_8 AI_9 AJ_10 AR_11 H locs hp_12 hH hS => ?_)
  dsimp only at hp_12
  obtain ⟨rfl, rfl, rfl, rfl, hv, q_13, q_14⟩ := hp_12
  have xf := xF_t xf (xF_rF hx.1 (rF_o y_3b q_13))
  have u_15 : (I_6 x 1).toInt = (I x 1).toInt := by rw [xf.2]
  have u_15p : I_6 pA = I pA := xf.1 pA 2 hx.2.2.1 (by decide) (by decide)
  have u_15p1 : (I_6 pA 1).toInt = (I pA 1).toInt := by rw [u_15p]
  have u_15p2 : (I_6 pA 2).toInt = (I pA 2).toInt := by rw [u_15p]
  refine lv_aload_n F.1 F.2.1 dX6_remember_13 rfl (lv_at hl 0 rfl) ?_
  refine lv_aload_n F.1 F.2.1 dX6_remember_14 rfl (lv_at hl 0 rfl) ?_
  refine g_getI (ci := 6) (k := 14) F hH rfl (by decide) iX6 hx.1 (by decide) rfl k160 dX6_remember_15 ?_
  have b_16 := gI_x hv hx.1
  refine z_iconst F dX6_remember_18 ?_
  refine z_iadd F dX6_remember_19 ?_
  refine z_bipush F dX6_remember_20 (by decide) ?_
  refine z_irem F (by omega) (by omega) (by omega) (by omega) dX6_remember_22 ?_
  refine g_putI (ci := 6) (k := 14) F hH hS rfl (by decide) iX6 hx.1 (by decide) tyX6 tyX6_ok nmX6 rfl rfl rfl k160 dX6_remember_23 (fun H locs hH hS => ?_)
  obtain ⟨I_17, eI_17⟩ : ∃ qQ, qQ = gup2 I_6 x 14 (iI ((((I_6 x 14).toInt) + 1) % 8)) := ⟨_, rfl⟩
  rw [← eI_17] at hH
  have kI_17 : ∀ b, b ≠ x → I_17 b = I_6 b := fun b hb => by rw [eI_17]; exact funext fun j => gup2_a _ _ hb
  have w_18 : (I_17 x 14).toInt = (((I_6 x 14).toInt) + 1) % 8 := by rw [eI_17, gup2_s]; exact iI_val ⟨by omega, by omega⟩
  have hv : gInv g gh R AR I_17 AI_9 := by rw [eI_17]; exact gInv_x14 hv hx.1 (by omega) (by omega)
  have xf : xF g x I I_17 := xF_t xf (by rw [eI_17]; exact xF_k hx.1 (by decide))
  have w_18t : (I_17 x 1).toInt = (I x 1).toInt := by rw [xf.2]
  have w_18_15 : (I_17 x 15).toInt = (I_6 x 15).toInt := by rw [eI_17, gup2_k _ _ (by decide)]
  refine lv_aload_n F.1 F.2.1 dX6_remember_26 rfl (lv_at hl 0 rfl) ?_
  refine lv_aload_n F.1 F.2.1 dX6_remember_27 rfl (lv_at hl 0 rfl) ?_
  refine g_getI (ci := 6) (k := 15) F hH rfl (by decide) iX6 hx.1 (by decide) rfl k100 dX6_remember_28 ?_
  have b_19 := gI_x hv hx.1
  refine z_iconst F dX6_remember_31 ?_
  refine z_iadd F dX6_remember_32 ?_
  refine z_bipush F dX6_remember_33 (by decide) ?_
  refine z_mmin (rest := [.ref x]) F hl.1 (List.mem_of_getElem? (i := 4) rfl) (List.mem_of_getElem? (i := 5) rfl) (List.mem_of_getElem? (i := 6) rfl) (List.mem_of_getElem? (i := 7) rfl) (Nat.le_of_ble_eq_true rfl) (Nat.le_of_ble_eq_true rfl) (Nat.zero_le _) (Nat.zero_le _) ⟨by omega, by omega⟩ ⟨by decide, by decide⟩ dX6_remember_35 (fun v_20 zv_20 qv_20 => ?_)
  refine g_putI (ci := 6) (k := 15) F hH hS rfl (by decide) iX6 hx.1 (by decide) tyX6 tyX6_ok nmX6 rfl rfl rfl k100 dX6_remember_38 (fun H locs hH hS => ?_)
  obtain ⟨I_21, eI_21⟩ : ∃ qQ, qQ = gup2 I_17 x 15 (iI (v_20)) := ⟨_, rfl⟩
  rw [← eI_21] at hH
  have kI_21 : ∀ b, b ≠ x → I_21 b = I_17 b := fun b hb => by rw [eI_21]; exact funext fun j => gup2_a _ _ hb
  have w_22 : (I_21 x 15).toInt = v_20 := by rw [eI_21, gup2_s]; exact iI_val ⟨by omega, by omega⟩
  have hv : gInv g gh R AR I_21 AI_9 := by rw [eI_21]; exact gInv_x15 hv hx.1 (by omega) (by omega)
  have xf : xF g x I I_21 := xF_t xf (by rw [eI_21]; exact xF_k hx.1 (by decide))
  have w_22t : (I_21 x 1).toInt = (I x 1).toInt := by rw [xf.2]
  have w_22_14 : (I_21 x 14).toInt = (I_17 x 14).toInt := by rw [eI_21, gup2_k _ _ (by decide)]
  exact g_vret F hr hlk hH hS hz ⟨rfl, rfl, rfl, rfl, hv, xf⟩ dX6_remember_41
