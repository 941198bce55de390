section
def rmX7_within : Room := { frames := 0, cells := 0, slots := 0, locals := 0 }
theorem hdX7_within : yX7_within.cls = RX7 ∧ yX7_within.cls ≠ "java/lang/invoke/MethodHandle" ∧ yX7_within.cls ≠ "java/lang/invoke/VarHandle" ∧ (parseMethodDescriptor yX7_within.desc).map (fun d => d.parameters.length) = some 3 := by decide +kernel
set_option maxHeartbeats 4000000 in
set_option maxRecDepth 100000 in
/-- within -/
theorem c_X7_within (l : Launch) (g : gG)  (I : gI) (R : gR) (J : gJ) (AI : gI) (AJ : gJ) (AR : gR) (va : Int) (lw : Int) (hg : Int) (zva : zr va) (zlw : zr lw) (zhg : zr hg) : gMet l g yX7_within tsX7_within rmX7_within [.int (iI va), .int (iI lw), .int (iI hg)] (I, R, J, AI, AJ, AR) (gQi g (fun (z : Int) (w : gS) => I = w.1 ∧ R = w.2.1 ∧ J = w.2.2.1 ∧ AI = w.2.2.2.1 ∧ AJ = w.2.2.2.2.1 ∧ AR = w.2.2.2.2.2 ∧ ((z = 0 ∨ z = 1) ∧ (z = 1 → lw ≤ va ∧ va ≤ hg) ∧ (z = 0 → va < lw ∨ hg < va)))) := by
  refine gStart (cc := cX7_within) (maxL := 3) (ret := (some (.boolean))) (by decide) rfl (Nat.le_of_ble_eq_true rfl) ?_
  intro p e s m below meth c ls F hr hlk hH hz hS hl
  have hl : lv_has ls 3 [(0, .int (iI va)), (1, .int (iI lw)), (2, .int (iI hg))] := hl
  have hS : va_S (gA g) s.heap s.heap [] := hS
  obtain ⟨H, hHe⟩ : ∃ H : Heap, H = s.heap := ⟨_, rfl⟩
  obtain ⟨locs, hlo⟩ : ∃ k : List Loc, k = [] := ⟨_, rfl⟩
  have hH : gH g I R J AI AJ AR H := by rw [hHe]; exact hH
  have hS : va_S (gA g) s.heap H locs := by rw [hHe, hlo]; exact hS
  suffices hw : W p l e rmX7_within s m ([.int (iI va), .int (iI lw), .int (iI hg)] : List Value).toArray below meth c H locs 0 0 (MQ below (gQi g (fun (z : Int) (w : gS) => I = w.1 ∧ R = w.2.1 ∧ J = w.2.2.1 ∧ AI = w.2.2.2.1 ∧ AJ = w.2.2.2.2.1 ∧ AR = w.2.2.2.2.2 ∧ ((z = 0 ∨ z = 1) ∧ (z = 1 → lw ≤ va ∧ va ≤ hg) ∧ (z = 0 → va < lw ∨ hg < va)))) ([.int (iI va), .int (iI lw), .int (iI hg)] : List Value).toArray s 0 0 (gA g)) (F0 m 0 ls []) by
    rw [hHe, hlo] at hw; exact hw
  clear hHe hlo
  refine lv_iload_n F.1 F.2.1 dX7_within_0 rfl (lv_at hl 0 rfl) ?_
  refine lv_iload_n F.1 F.2.1 dX7_within_1 rfl (lv_at hl 1 rfl) ?_
  refine z_icmp_lt (tgt := 14) F dX7_within_2 (by decide) zva zlw (fun c_1 => ?_) (fun c_1 => ?_)
  · refine z_iconst F dX7_within_14 ?_
    exact g_zret F hr hlk hH hS hz (by omega) ⟨rfl, rfl, rfl, rfl, rfl, rfl, ⟨by omega, fun _ => by omega, fun _ => by omega⟩⟩ dX7_within_15
  · refine lv_iload_n F.1 F.2.1 dX7_within_5 rfl (lv_at hl 0 rfl) ?_
    refine lv_iload_n F.1 F.2.1 dX7_within_6 rfl (lv_at hl 2 rfl) ?_
    refine z_icmp_gt (tgt := 14) F dX7_within_7 (by decide) zva zhg (fun c_2 => ?_) (fun c_2 => ?_)
    · refine z_iconst F dX7_within_14 ?_
      exact g_zret F hr hlk hH hS hz (by omega) ⟨rfl, rfl, rfl, rfl, rfl, rfl, ⟨by omega, fun _ => by omega, fun _ => by omega⟩⟩ dX7_within_15
    · refine z_iconst F dX7_within_10 ?_
      refine z_goto (tgt := 15) F dX7_within_11 (by decide) ?_
      exact g_zret F hr hlk hH hS hz (by omega) ⟨rfl, rfl, rfl, rfl, rfl, rfl, ⟨by omega, fun _ => by omega, fun _ => by omega⟩⟩ dX7_within_15

theorem hdX7_isRelation : yX7_isRelation.cls = RX7 ∧ yX7_isRelation.cls ≠ "java/lang/invoke/MethodHandle" ∧ yX7_isRelation.cls ≠ "java/lang/invoke/VarHandle" ∧ (parseMethodDescriptor yX7_isRelation.desc).map (fun d => d.parameters.length) = some 1 := by decide +kernel
def rmX7_kindOf : Room := { frames := 0, cells := 0, slots := 0, locals := 0 }
theorem hdX7_kindOf : yX7_kindOf.cls = RX7 ∧ yX7_kindOf.cls ≠ "java/lang/invoke/MethodHandle" ∧ yX7_kindOf.cls ≠ "java/lang/invoke/VarHandle" ∧ (parseMethodDescriptor yX7_kindOf.desc).map (fun d => d.parameters.length) = some 1 := by decide +kernel
set_option maxHeartbeats 4000000 in
set_option maxRecDepth 100000 in
/-- kindOf -/
theorem c_X7_kindOf (l : Launch) (g : gG) (gh : gGh) (T : Nat → Int32) (I : gI) (R : gR) (J : gJ) (AI : gI) (AJ : gJ) (AR : gR) (mo : Nat) (rr : Int) (zrr : zr rr) (hv : mInv g gh R I AI) (hm : gO g mo 7) (hT : AI (gh 50 0) = T) (h0 : 0 ≤ rr ∧ rr ≤ 15) : gMet l g yX7_kindOf tsX7_kindOf rmX7_kindOf [.ref mo, .int (iI rr)] (I, R, J, AI, AJ, AR) (gQi g (fun (z : Int) (w : gS) => I = w.1 ∧ R = w.2.1 ∧ J = w.2.2.1 ∧ AI = w.2.2.2.1 ∧ AJ = w.2.2.2.2.1 ∧ AR = w.2.2.2.2.2 ∧ (z = tI T (40 * rr)))) := by
  refine gStart (cc := cX7_kindOf) (maxL := 2) (ret := (some (.int))) (by decide) rfl (Nat.le_of_ble_eq_true rfl) ?_
  intro p e s m below meth c ls F hr hlk hH hz hS hl
  have hl : lv_has ls 2 [(0, .ref mo), (1, .int (iI rr))] := hl
  have hS : va_S (gA g) s.heap s.heap [] := hS
  obtain ⟨H, hHe⟩ : ∃ H : Heap, H = s.heap := ⟨_, rfl⟩
  obtain ⟨locs, hlo⟩ : ∃ k : List Loc, k = [] := ⟨_, rfl⟩
  have hH : gH g I R J AI AJ AR H := by rw [hHe]; exact hH
  have hS : va_S (gA g) s.heap H locs := by rw [hHe, hlo]; exact hS
  suffices hw : W p l e rmX7_kindOf s m ([.ref mo, .int (iI rr)] : List Value).toArray below meth c H locs 0 0 (MQ below (gQi g (fun (z : Int) (w : gS) => I = w.1 ∧ R = w.2.1 ∧ J = w.2.2.1 ∧ AI = w.2.2.2.1 ∧ AJ = w.2.2.2.2.1 ∧ AR = w.2.2.2.2.2 ∧ (z = tI T (40 * rr)))) ([.ref mo, .int (iI rr)] : List Value).toArray s 0 0 (gA g)) (F0 m 0 ls []) by
    rw [hHe, hlo] at hw; exact hw
  clear hHe hlo
  have iX7 : ∀ w ∈ u_ws RX7 TX7 32, w ∈ tsX7_kindOf := fun w h => List.mem_cons_of_mem _ (inTB7 w h)
  have k7 : Cond.fieldLink RX7 7 (TX7 0).1 (TX7 0).2.1 (TX7 0).2.2.1 ∈ tsX7_kindOf := List.mem_cons_of_mem _ fl_7
  refine lv_aload_n F.1 F.2.1 dX7_kindOf_0 rfl (lv_at hl 0 rfl) ?_
  obtain ⟨r_1a, r_1b⟩ : R mo 0 = some (gh 50 0) ∧ gAr g (gh 50 0) 9 640 := mR hv hm (q := (0, 640)) (by decide)
  refine g_getR (ci := 7) (k := 0) F hH rfl (by decide) iX7 hm (by decide) rfl (b := gh 50 0) r_1a k7 dX7_kindOf_1 ?_
  refine z_bipush F dX7_kindOf_4 (by decide) ?_
  refine lv_iload_n F.1 F.2.1 dX7_kindOf_6 rfl (lv_at hl 1 rfl) ?_
  refine z_imul F dX7_kindOf_7 ?_
  have hx8 : 0 ≤ (40 * rr) ∧ (40 * rr) < ((640 : Nat) : Int) ∧ (40 * rr) ≤ 2147483647 := ⟨by omega, by omega, by omega⟩
  refine g_iald F hH r_1b hx8.1 hx8.2.1 hx8.2.2 dX7_kindOf_8 ?_
  exact g_iret F hr hlk hH hS hz (zr_t _) ⟨rfl, rfl, rfl, rfl, rfl, rfl, by rw [← hT]; rfl⟩ dX7_kindOf_9

def rmX7_columnsOf : Room := { frames := 0, cells := 0, slots := 0, locals := 0 }
theorem hdX7_columnsOf : yX7_columnsOf.cls = RX7 ∧ yX7_columnsOf.cls ≠ "java/lang/invoke/MethodHandle" ∧ yX7_columnsOf.cls ≠ "java/lang/invoke/VarHandle" ∧ (parseMethodDescriptor yX7_columnsOf.desc).map (fun d => d.parameters.length) = some 1 := by decide +kernel
set_option maxHeartbeats 4000000 in
set_option maxRecDepth 100000 in
/-- columnsOf -/
theorem c_X7_columnsOf (l : Launch) (g : gG) (gh : gGh) (T : Nat → Int32) (I : gI) (R : gR) (J : gJ) (AI : gI) (AJ : gJ) (AR : gR) (mo : Nat) (rr : Int) (zrr : zr rr) (hv : mInv g gh R I AI) (hm : gO g mo 7) (hT : AI (gh 50 0) = T) (h0 : 0 ≤ rr ∧ rr ≤ 15) : gMet l g yX7_columnsOf tsX7_columnsOf rmX7_columnsOf [.ref mo, .int (iI rr)] (I, R, J, AI, AJ, AR) (gQi g (fun (z : Int) (w : gS) => I = w.1 ∧ R = w.2.1 ∧ J = w.2.2.1 ∧ AI = w.2.2.2.1 ∧ AJ = w.2.2.2.2.1 ∧ AR = w.2.2.2.2.2 ∧ (z = tI T (40 * rr + 1)))) := by
  refine gStart (cc := cX7_columnsOf) (maxL := 2) (ret := (some (.int))) (by decide) rfl (Nat.le_of_ble_eq_true rfl) ?_
  intro p e s m below meth c ls F hr hlk hH hz hS hl
  have hl : lv_has ls 2 [(0, .ref mo), (1, .int (iI rr))] := hl
  have hS : va_S (gA g) s.heap s.heap [] := hS
  obtain ⟨H, hHe⟩ : ∃ H : Heap, H = s.heap := ⟨_, rfl⟩
  obtain ⟨locs, hlo⟩ : ∃ k : List Loc, k = [] := ⟨_, rfl⟩
  have hH : gH g I R J AI AJ AR H := by rw [hHe]; exact hH
  have hS : va_S (gA g) s.heap H locs := by rw [hHe, hlo]; exact hS
  suffices hw : W p l e rmX7_columnsOf s m ([.ref mo, .int (iI rr)] : List Value).toArray below meth c H locs 0 0 (MQ below (gQi g (fun (z : Int) (w : gS) => I = w.1 ∧ R = w.2.1 ∧ J = w.2.2.1 ∧ AI = w.2.2.2.1 ∧ AJ = w.2.2.2.2.1 ∧ AR = w.2.2.2.2.2 ∧ (z = tI T (40 * rr + 1)))) ([.ref mo, .int (iI rr)] : List Value).toArray s 0 0 (gA g)) (F0 m 0 ls []) by
    rw [hHe, hlo] at hw; exact hw
  clear hHe hlo
  have iX7 : ∀ w ∈ u_ws RX7 TX7 32, w ∈ tsX7_columnsOf := fun w h => List.mem_cons_of_mem _ (inTB7 w h)
  have k7 : Cond.fieldLink RX7 7 (TX7 0).1 (TX7 0).2.1 (TX7 0).2.2.1 ∈ tsX7_columnsOf := List.mem_cons_of_mem _ fl_7
  refine lv_aload_n F.1 F.2.1 dX7_columnsOf_0 rfl (lv_at hl 0 rfl) ?_
  obtain ⟨r_1a, r_1b⟩ : R mo 0 = some (gh 50 0) ∧ gAr g (gh 50 0) 9 640 := mR hv hm (q := (0, 640)) (by decide)
  refine g_getR (ci := 7) (k := 0) F hH rfl (by decide) iX7 hm (by decide) rfl (b := gh 50 0) r_1a k7 dX7_columnsOf_1 ?_
  refine z_bipush F dX7_columnsOf_4 (by decide) ?_
  refine lv_iload_n F.1 F.2.1 dX7_columnsOf_6 rfl (lv_at hl 1 rfl) ?_
  refine z_imul F dX7_columnsOf_7 ?_
  refine z_iconst F dX7_columnsOf_8 ?_
  refine z_iadd F dX7_columnsOf_9 ?_
  have hx10 : 0 ≤ ((40 * rr) + 1) ∧ ((40 * rr) + 1) < ((640 : Nat) : Int) ∧ ((40 * rr) + 1) ≤ 2147483647 := ⟨by omega, by omega, by omega⟩
  refine g_iald F hH r_1b hx10.1 hx10.2.1 hx10.2.2 dX7_columnsOf_10 ?_
  exact g_iret F hr hlk hH hS hz (zr_t _) ⟨rfl, rfl, rfl, rfl, rfl, rfl, by rw [← hT]; rfl⟩ dX7_columnsOf_11

def rmX7_firstOf : Room := { frames := 0, cells := 0, slots := 0, locals := 0 }
theorem hdX7_firstOf : yX7_firstOf.cls = RX7 ∧ yX7_firstOf.cls ≠ "java/lang/invoke/MethodHandle" ∧ yX7_firstOf.cls ≠ "java/lang/invoke/VarHandle" ∧ (parseMethodDescriptor yX7_firstOf.desc).map (fun d => d.parameters.length) = some 1 := by decide +kernel
set_option maxHeartbeats 4000000 in
set_option maxRecDepth 100000 in
/-- firstOf -/
theorem c_X7_firstOf (l : Launch) (g : gG) (gh : gGh) (T : Nat → Int32) (I : gI) (R : gR) (J : gJ) (AI : gI) (AJ : gJ) (AR : gR) (mo : Nat) (rr : Int) (zrr : zr rr) (hv : mInv g gh R I AI) (hm : gO g mo 7) (hT : AI (gh 50 0) = T) (h0 : 0 ≤ rr ∧ rr ≤ 15) : gMet l g yX7_firstOf tsX7_firstOf rmX7_firstOf [.ref mo, .int (iI rr)] (I, R, J, AI, AJ, AR) (gQi g (fun (z : Int) (w : gS) => I = w.1 ∧ R = w.2.1 ∧ J = w.2.2.1 ∧ AI = w.2.2.2.1 ∧ AJ = w.2.2.2.2.1 ∧ AR = w.2.2.2.2.2 ∧ (z = tI T (40 * rr + 2)))) := by
  refine gStart (cc := cX7_firstOf) (maxL := 2) (ret := (some (.int))) (by decide) rfl (Nat.le_of_ble_eq_true rfl) ?_
  intro p e s m below meth c ls F hr hlk hH hz hS hl
  have hl : lv_has ls 2 [(0, .ref mo), (1, .int (iI rr))] := hl
  have hS : va_S (gA g) s.heap s.heap [] := hS
  obtain ⟨H, hHe⟩ : ∃ H : Heap, H = s.heap := ⟨_, rfl⟩
  obtain ⟨locs, hlo⟩ : ∃ k : List Loc, k = [] := ⟨_, rfl⟩
  have hH : gH g I R J AI AJ AR H := by rw [hHe]; exact hH
  have hS : va_S (gA g) s.heap H locs := by rw [hHe, hlo]; exact hS
  suffices hw : W p l e rmX7_firstOf s m ([.ref mo, .int (iI rr)] : List Value).toArray below meth c H locs 0 0 (MQ below (gQi g (fun (z : Int) (w : gS) => I = w.1 ∧ R = w.2.1 ∧ J = w.2.2.1 ∧ AI = w.2.2.2.1 ∧ AJ = w.2.2.2.2.1 ∧ AR = w.2.2.2.2.2 ∧ (z = tI T (40 * rr + 2)))) ([.ref mo, .int (iI rr)] : List Value).toArray s 0 0 (gA g)) (F0 m 0 ls []) by
    rw [hHe, hlo] at hw; exact hw
  clear hHe hlo
  have iX7 : ∀ w ∈ u_ws RX7 TX7 32, w ∈ tsX7_firstOf := fun w h => List.mem_cons_of_mem _ (inTB7 w h)
  have k7 : Cond.fieldLink RX7 7 (TX7 0).1 (TX7 0).2.1 (TX7 0).2.2.1 ∈ tsX7_firstOf := List.mem_cons_of_mem _ fl_7
  refine lv_aload_n F.1 F.2.1 dX7_firstOf_0 rfl (lv_at hl 0 rfl) ?_
  obtain ⟨r_1a, r_1b⟩ : R mo 0 = some (gh 50 0) ∧ gAr g (gh 50 0) 9 640 := mR hv hm (q := (0, 640)) (by decide)
  refine g_getR (ci := 7) (k := 0) F hH rfl (by decide) iX7 hm (by decide) rfl (b := gh 50 0) r_1a k7 dX7_firstOf_1 ?_
  refine z_bipush F dX7_firstOf_4 (by decide) ?_
  refine lv_iload_n F.1 F.2.1 dX7_firstOf_6 rfl (lv_at hl 1 rfl) ?_
  refine z_imul F dX7_firstOf_7 ?_
  refine z_iconst F dX7_firstOf_8 ?_
  refine z_iadd F dX7_firstOf_9 ?_
  have hx10 : 0 ≤ ((40 * rr) + 2) ∧ ((40 * rr) + 2) < ((640 : Nat) : Int) ∧ ((40 * rr) + 2) ≤ 2147483647 := ⟨by omega, by omega, by omega⟩
  refine g_iald F hH r_1b hx10.1 hx10.2.1 hx10.2.2 dX7_firstOf_10 ?_
  exact g_iret F hr hlk hH hS hz (zr_t _) ⟨rfl, rfl, rfl, rfl, rfl, rfl, by rw [← hT]; rfl⟩ dX7_firstOf_11

def rmX7_secondOf : Room := { frames := 0, cells := 0, slots := 0, locals := 0 }
theorem hdX7_secondOf : yX7_secondOf.cls = RX7 ∧ yX7_secondOf.cls ≠ "java/lang/invoke/MethodHandle" ∧ yX7_secondOf.cls ≠ "java/lang/invoke/VarHandle" ∧ (parseMethodDescriptor yX7_secondOf.desc).map (fun d => d.parameters.length) = some 1 := by decide +kernel
set_option maxHeartbeats 4000000 in
set_option maxRecDepth 100000 in
/-- secondOf -/
theorem c_X7_secondOf (l : Launch) (g : gG) (gh : gGh) (T : Nat → Int32) (I : gI) (R : gR) (J : gJ) (AI : gI) (AJ : gJ) (AR : gR) (mo : Nat) (rr : Int) (zrr : zr rr) (hv : mInv g gh R I AI) (hm : gO g mo 7) (hT : AI (gh 50 0) = T) (h0 : 0 ≤ rr ∧ rr ≤ 15) : gMet l g yX7_secondOf tsX7_secondOf rmX7_secondOf [.ref mo, .int (iI rr)] (I, R, J, AI, AJ, AR) (gQi g (fun (z : Int) (w : gS) => I = w.1 ∧ R = w.2.1 ∧ J = w.2.2.1 ∧ AI = w.2.2.2.1 ∧ AJ = w.2.2.2.2.1 ∧ AR = w.2.2.2.2.2 ∧ (z = tI T (40 * rr + 3)))) := by
  refine gStart (cc := cX7_secondOf) (maxL := 2) (ret := (some (.int))) (by decide) rfl (Nat.le_of_ble_eq_true rfl) ?_
  intro p e s m below meth c ls F hr hlk hH hz hS hl
  have hl : lv_has ls 2 [(0, .ref mo), (1, .int (iI rr))] := hl
  have hS : va_S (gA g) s.heap s.heap [] := hS
  obtain ⟨H, hHe⟩ : ∃ H : Heap, H = s.heap := ⟨_, rfl⟩
  obtain ⟨locs, hlo⟩ : ∃ k : List Loc, k = [] := ⟨_, rfl⟩
  have hH : gH g I R J AI AJ AR H := by rw [hHe]; exact hH
  have hS : va_S (gA g) s.heap H locs := by rw [hHe, hlo]; exact hS
  suffices hw : W p l e rmX7_secondOf s m ([.ref mo, .int (iI rr)] : List Value).toArray below meth c H locs 0 0 (MQ below (gQi g (fun (z : Int) (w : gS) => I = w.1 ∧ R = w.2.1 ∧ J = w.2.2.1 ∧ AI = w.2.2.2.1 ∧ AJ = w.2.2.2.2.1 ∧ AR = w.2.2.2.2.2 ∧ (z = tI T (40 * rr + 3)))) ([.ref mo, .int (iI rr)] : List Value).toArray s 0 0 (gA g)) (F0 m 0 ls []) by
    rw [hHe, hlo] at hw; exact hw
  clear hHe hlo
  have iX7 : ∀ w ∈ u_ws RX7 TX7 32, w ∈ tsX7_secondOf := fun w h => List.mem_cons_of_mem _ (inTB7 w h)
  have k7 : Cond.fieldLink RX7 7 (TX7 0).1 (TX7 0).2.1 (TX7 0).2.2.1 ∈ tsX7_secondOf := List.mem_cons_of_mem _ fl_7
  refine lv_aload_n F.1 F.2.1 dX7_secondOf_0 rfl (lv_at hl 0 rfl) ?_
  obtain ⟨r_1a, r_1b⟩ : R mo 0 = some (gh 50 0) ∧ gAr g (gh 50 0) 9 640 := mR hv hm (q := (0, 640)) (by decide)
  refine g_getR (ci := 7) (k := 0) F hH rfl (by decide) iX7 hm (by decide) rfl (b := gh 50 0) r_1a k7 dX7_secondOf_1 ?_
  refine z_bipush F dX7_secondOf_4 (by decide) ?_
  refine lv_iload_n F.1 F.2.1 dX7_secondOf_6 rfl (lv_at hl 1 rfl) ?_
  refine z_imul F dX7_secondOf_7 ?_
  refine z_iconst F dX7_secondOf_8 ?_
  refine z_iadd F dX7_secondOf_9 ?_
  have hx10 : 0 ≤ ((40 * rr) + 3) ∧ ((40 * rr) + 3) < ((640 : Nat) : Int) ∧ ((40 * rr) + 3) ≤ 2147483647 := ⟨by omega, by omega, by omega⟩
  refine g_iald F hH r_1b hx10.1 hx10.2.1 hx10.2.2 dX7_secondOf_10 ?_
  exact g_iret F hr hlk hH hS hz (zr_t _) ⟨rfl, rfl, rfl, rfl, rfl, rfl, by rw [← hT]; rfl⟩ dX7_secondOf_11

def rmX7_partsOf : Room := { frames := 0, cells := 0, slots := 0, locals := 0 }
theorem hdX7_partsOf : yX7_partsOf.cls = RX7 ∧ yX7_partsOf.cls ≠ "java/lang/invoke/MethodHandle" ∧ yX7_partsOf.cls ≠ "java/lang/invoke/VarHandle" ∧ (parseMethodDescriptor yX7_partsOf.desc).map (fun d => d.parameters.length) = some 1 := by decide +kernel
set_option maxHeartbeats 4000000 in
set_option maxRecDepth 100000 in
/-- partsOf -/
theorem c_X7_partsOf (l : Launch) (g : gG) (gh : gGh) (T : Nat → Int32) (I : gI) (R : gR) (J : gJ) (AI : gI) (AJ : gJ) (AR : gR) (mo : Nat) (rr : Int) (zrr : zr rr) (hv : mInv g gh R I AI) (hm : gO g mo 7) (hT : AI (gh 50 0) = T) (h0 : 0 ≤ rr ∧ rr ≤ 15) : gMet l g yX7_partsOf tsX7_partsOf rmX7_partsOf [.ref mo, .int (iI rr)] (I, R, J, AI, AJ, AR) (gQi g (fun (z : Int) (w : gS) => I = w.1 ∧ R = w.2.1 ∧ J = w.2.2.1 ∧ AI = w.2.2.2.1 ∧ AJ = w.2.2.2.2.1 ∧ AR = w.2.2.2.2.2 ∧ (z = tI T (40 * rr + 4)))) := by
  refine gStart (cc := cX7_partsOf) (maxL := 2) (ret := (some (.int))) (by decide) rfl (Nat.le_of_ble_eq_true rfl) ?_
  intro p e s m below meth c ls F hr hlk hH hz hS hl
  have hl : lv_has ls 2 [(0, .ref mo), (1, .int (iI rr))] := hl
  have hS : va_S (gA g) s.heap s.heap [] := hS
  obtain ⟨H, hHe⟩ : ∃ H : Heap, H = s.heap := ⟨_, rfl⟩
  obtain ⟨locs, hlo⟩ : ∃ k : List Loc, k = [] := ⟨_, rfl⟩
  have hH : gH g I R J AI AJ AR H := by rw [hHe]; exact hH
  have hS : va_S (gA g) s.heap H locs := by rw [hHe, hlo]; exact hS
  suffices hw : W p l e rmX7_partsOf s m ([.ref mo, .int (iI rr)] : List Value).toArray below meth c H locs 0 0 (MQ below (gQi g (fun (z : Int) (w : gS) => I = w.1 ∧ R = w.2.1 ∧ J = w.2.2.1 ∧ AI = w.2.2.2.1 ∧ AJ = w.2.2.2.2.1 ∧ AR = w.2.2.2.2.2 ∧ (z = tI T (40 * rr + 4)))) ([.ref mo, .int (iI rr)] : List Value).toArray s 0 0 (gA g)) (F0 m 0 ls []) by
    rw [hHe, hlo] at hw; exact hw
  clear hHe hlo
  have iX7 : ∀ w ∈ u_ws RX7 TX7 32, w ∈ tsX7_partsOf := fun w h => List.mem_cons_of_mem _ (inTB7 w h)
  have k7 : Cond.fieldLink RX7 7 (TX7 0).1 (TX7 0).2.1 (TX7 0).2.2.1 ∈ tsX7_partsOf := List.mem_cons_of_mem _ fl_7
  refine lv_aload_n F.1 F.2.1 dX7_partsOf_0 rfl (lv_at hl 0 rfl) ?_
  obtain ⟨r_1a, r_1b⟩ : R mo 0 = some (gh 50 0) ∧ gAr g (gh 50 0) 9 640 := mR hv hm (q := (0, 640)) (by decide)
  refine g_getR (ci := 7) (k := 0) F hH rfl (by decide) iX7 hm (by decide) rfl (b := gh 50 0) r_1a k7 dX7_partsOf_1 ?_
  refine z_bipush F dX7_partsOf_4 (by decide) ?_
  refine lv_iload_n F.1 F.2.1 dX7_partsOf_6 rfl (lv_at hl 1 rfl) ?_
  refine z_imul F dX7_partsOf_7 ?_
  refine z_iconst F dX7_partsOf_8 ?_
  refine z_iadd F dX7_partsOf_9 ?_
  have hx10 : 0 ≤ ((40 * rr) + 4) ∧ ((40 * rr) + 4) < ((640 : Nat) : Int) ∧ ((40 * rr) + 4) ≤ 2147483647 := ⟨by omega, by omega, by omega⟩
  refine g_iald F hH r_1b hx10.1 hx10.2.1 hx10.2.2 dX7_partsOf_10 ?_
  exact g_iret F hr hlk hH hS hz (zr_t _) ⟨rfl, rfl, rfl, rfl, rfl, rfl, by rw [← hT]; rfl⟩ dX7_partsOf_11

def rmX7_part : Room := { frames := 0, cells := 0, slots := 0, locals := 0 }
theorem hdX7_part : yX7_part.cls = RX7 ∧ yX7_part.cls ≠ "java/lang/invoke/MethodHandle" ∧ yX7_part.cls ≠ "java/lang/invoke/VarHandle" ∧ (parseMethodDescriptor yX7_part.desc).map (fun d => d.parameters.length) = some 3 := by decide +kernel
set_option maxHeartbeats 4000000 in
set_option maxRecDepth 100000 in
/-- part -/
theorem c_X7_part (l : Launch) (g : gG) (gh : gGh) (T : Nat → Int32) (I : gI) (R : gR) (J : gJ) (AI : gI) (AJ : gJ) (AR : gR) (mo : Nat) (rr : Int) (kp : Int) (wh : Int) (zrr : zr rr) (zkp : zr kp) (zwh : zr wh) (hv : mInv g gh R I AI) (hm : gO g mo 7) (hT : AI (gh 50 0) = T) (h0 : 0 ≤ rr ∧ rr ≤ 15) (h1 : 0 ≤ kp ∧ kp ≤ 7) (h2 : 0 ≤ wh ∧ wh ≤ 3) : gMet l g yX7_part tsX7_part rmX7_part [.ref mo, .int (iI rr), .int (iI kp), .int (iI wh)] (I, R, J, AI, AJ, AR) (gQi g (fun (z : Int) (w : gS) => I = w.1 ∧ R = w.2.1 ∧ J = w.2.2.1 ∧ AI = w.2.2.2.1 ∧ AJ = w.2.2.2.2.1 ∧ AR = w.2.2.2.2.2 ∧ (z = mP T rr kp wh))) := by
  refine gStart (cc := cX7_part) (maxL := 4) (ret := (some (.int))) (by decide) rfl (Nat.le_of_ble_eq_true rfl) ?_
  intro p e s m below meth c ls F hr hlk hH hz hS hl
  have hl : lv_has ls 4 [(0, .ref mo), (1, .int (iI rr)), (2, .int (iI kp)), (3, .int (iI wh))] := hl
  have hS : va_S (gA g) s.heap s.heap [] := hS
  obtain ⟨H, hHe⟩ : ∃ H : Heap, H = s.heap := ⟨_, rfl⟩
  obtain ⟨locs, hlo⟩ : ∃ k : List Loc, k = [] := ⟨_, rfl⟩
  have hH : gH g I R J AI AJ AR H := by rw [hHe]; exact hH
  have hS : va_S (gA g) s.heap H locs := by rw [hHe, hlo]; exact hS
  suffices hw : W p l e rmX7_part s m ([.ref mo, .int (iI rr), .int (iI kp), .int (iI wh)] : List Value).toArray below meth c H locs 0 0 (MQ below (gQi g (fun (z : Int) (w : gS) => I = w.1 ∧ R = w.2.1 ∧ J = w.2.2.1 ∧ AI = w.2.2.2.1 ∧ AJ = w.2.2.2.2.1 ∧ AR = w.2.2.2.2.2 ∧ (z = mP T rr kp wh))) ([.ref mo, .int (iI rr), .int (iI kp), .int (iI wh)] : List Value).toArray s 0 0 (gA g)) (F0 m 0 ls []) by
    rw [hHe, hlo] at hw; exact hw
  clear hHe hlo
  have iX7 : ∀ w ∈ u_ws RX7 TX7 32, w ∈ tsX7_part := fun w h => List.mem_cons_of_mem _ (inTB7 w h)
  have k7 : Cond.fieldLink RX7 7 (TX7 0).1 (TX7 0).2.1 (TX7 0).2.2.1 ∈ tsX7_part := List.mem_cons_of_mem _ fl_7
  refine lv_aload_n F.1 F.2.1 dX7_part_0 rfl (lv_at hl 0 rfl) ?_
  obtain ⟨r_1a, r_1b⟩ : R mo 0 = some (gh 50 0) ∧ gAr g (gh 50 0) 9 640 := mR hv hm (q := (0, 640)) (by decide)
  refine g_getR (ci := 7) (k := 0) F hH rfl (by decide) iX7 hm (by decide) rfl (b := gh 50 0) r_1a k7 dX7_part_1 ?_
  refine z_bipush F dX7_part_4 (by decide) ?_
  refine lv_iload_n F.1 F.2.1 dX7_part_6 rfl (lv_at hl 1 rfl) ?_
  refine z_imul F dX7_part_7 ?_
  refine z_bipush F dX7_part_8 (by decide) ?_
  refine z_iadd F dX7_part_10 ?_
  refine z_iconst F dX7_part_11 ?_
  refine lv_iload_n F.1 F.2.1 dX7_part_12 rfl (lv_at hl 2 rfl) ?_
  refine z_imul F dX7_part_13 ?_
  refine z_iadd F dX7_part_14 ?_
  refine lv_iload_n F.1 F.2.1 dX7_part_15 rfl (lv_at hl 3 rfl) ?_
  refine z_iadd F dX7_part_16 ?_
  have hx17 : 0 ≤ ((((40 * rr) + 6) + (4 * kp)) + wh) ∧ ((((40 * rr) + 6) + (4 * kp)) + wh) < ((640 : Nat) : Int) ∧ ((((40 * rr) + 6) + (4 * kp)) + wh) ≤ 2147483647 := ⟨by omega, by omega, by omega⟩
  refine g_iald F hH r_1b hx17.1 hx17.2.1 hx17.2.2 dX7_part_17 ?_
  exact g_iret F hr hlk hH hS hz (zr_t _) ⟨rfl, rfl, rfl, rfl, rfl, rfl, by rw [← hT]; rfl⟩ dX7_part_18

def rmX7_spot : Room := { frames := 0, cells := 0, slots := 0, locals := 0 }
theorem hdX7_spot : yX7_spot.cls = RX7 ∧ yX7_spot.cls ≠ "java/lang/invoke/MethodHandle" ∧ yX7_spot.cls ≠ "java/lang/invoke/VarHandle" ∧ (parseMethodDescriptor yX7_spot.desc).map (fun d => d.parameters.length) = some 3 := by decide +kernel
set_option maxHeartbeats 4000000 in
set_option maxRecDepth 100000 in
/-- a spot -/
theorem c_X7_spot (l : Launch) (g : gG)  (I : gI) (R : gR) (J : gJ) (AI : gI) (AJ : gJ) (AR : gR) (sd : Int) (rr : Int) (ip : Int) (zsd : zr sd) (zrr : zr rr) (zip : zr ip) (h0 : 0 ≤ sd ∧ sd ≤ 10) (h1 : 0 ≤ rr ∧ rr ≤ 15) (h2 : 0 ≤ ip ∧ ip ≤ 120) : gMet l g yX7_spot tsX7_spot rmX7_spot [.int (iI sd), .int (iI rr), .int (iI ip)] (I, R, J, AI, AJ, AR) (gQi g (fun (z : Int) (w : gS) => I = w.1 ∧ R = w.2.1 ∧ J = w.2.2.1 ∧ AI = w.2.2.2.1 ∧ AJ = w.2.2.2.2.1 ∧ AR = w.2.2.2.2.2 ∧ (z = 11520 * sd + 720 * rr + 6 * ip))) := by
  refine gStart (cc := cX7_spot) (maxL := 3) (ret := (some (.int))) (by decide) rfl (Nat.le_of_ble_eq_true rfl) ?_
  intro p e s m below meth c ls F hr hlk hH hz hS hl
  have hl : lv_has ls 3 [(0, .int (iI sd)), (1, .int (iI rr)), (2, .int (iI ip))] := hl
  have hS : va_S (gA g) s.heap s.heap [] := hS
  obtain ⟨H, hHe⟩ : ∃ H : Heap, H = s.heap := ⟨_, rfl⟩
  obtain ⟨locs, hlo⟩ : ∃ k : List Loc, k = [] := ⟨_, rfl⟩
  have hH : gH g I R J AI AJ AR H := by rw [hHe]; exact hH
  have hS : va_S (gA g) s.heap H locs := by rw [hHe, hlo]; exact hS
  suffices hw : W p l e rmX7_spot s m ([.int (iI sd), .int (iI rr), .int (iI ip)] : List Value).toArray below meth c H locs 0 0 (MQ below (gQi g (fun (z : Int) (w : gS) => I = w.1 ∧ R = w.2.1 ∧ J = w.2.2.1 ∧ AI = w.2.2.2.1 ∧ AJ = w.2.2.2.2.1 ∧ AR = w.2.2.2.2.2 ∧ (z = 11520 * sd + 720 * rr + 6 * ip))) ([.int (iI sd), .int (iI rr), .int (iI ip)] : List Value).toArray s 0 0 (gA g)) (F0 m 0 ls []) by
    rw [hHe, hlo] at hw; exact hw
  clear hHe hlo
  refine z_sipush F dX7_spot_0 (by decide) ?_
  refine lv_iload_n F.1 F.2.1 dX7_spot_3 rfl (lv_at hl 0 rfl) ?_
  refine z_imul F dX7_spot_4 ?_
  refine z_sipush F dX7_spot_5 (by decide) ?_
  refine lv_iload_n F.1 F.2.1 dX7_spot_8 rfl (lv_at hl 1 rfl) ?_
  refine z_imul F dX7_spot_9 ?_
  refine z_iadd F dX7_spot_10 ?_
  refine z_bipush F dX7_spot_11 (by decide) ?_
  refine lv_iload_n F.1 F.2.1 dX7_spot_13 rfl (lv_at hl 2 rfl) ?_
  refine z_imul F dX7_spot_14 ?_
  refine z_iadd F dX7_spot_15 ?_
  exact g_iret F hr hlk hH hS hz ⟨by omega, by omega⟩ ⟨rfl, rfl, rfl, rfl, rfl, rfl, by first | omega | rfl | (dsimp only; omega)⟩ dX7_spot_16

def rmX7_sizeOf : Room := { frames := 0, cells := 0, slots := 0, locals := 0 }
theorem hdX7_sizeOf : yX7_sizeOf.cls = RX7 ∧ yX7_sizeOf.cls ≠ "java/lang/invoke/MethodHandle" ∧ yX7_sizeOf.cls ≠ "java/lang/invoke/VarHandle" ∧ (parseMethodDescriptor yX7_sizeOf.desc).map (fun d => d.parameters.length) = some 2 := by decide +kernel
set_option maxHeartbeats 4000000 in
set_option maxRecDepth 100000 in
/-- the size -/
theorem c_X7_sizeOf (l : Launch) (g : gG) (gh : gGh) (T : Nat → Int32) (I : gI) (R : gR) (J : gJ) (AI : gI) (AJ : gJ) (AR : gR) (mo : Nat) (sd : Int) (rr : Int) (zsd : zr sd) (zrr : zr rr) (hv : mInv g gh R I AI) (hm : gO g mo 7) (hT : AI (gh 50 0) = T) (h0 : 0 ≤ sd ∧ sd ≤ 10) (h1 : 0 ≤ rr ∧ rr ≤ 15) : gMet l g yX7_sizeOf tsX7_sizeOf rmX7_sizeOf [.ref mo, .int (iI sd), .int (iI rr)] (I, R, J, AI, AJ, AR) (gQi g (fun (z : Int) (w : gS) => I = w.1 ∧ R = w.2.1 ∧ J = w.2.2.1 ∧ AI = w.2.2.2.1 ∧ AJ = w.2.2.2.2.1 ∧ AR = w.2.2.2.2.2 ∧ (0 ≤ z ∧ z ≤ 120) ∧ (z = tI (AI (gh 57 0)) (16 * sd + rr)))) := by
  refine gStart (cc := cX7_sizeOf) (maxL := 3) (ret := (some (.int))) (by decide) rfl (Nat.le_of_ble_eq_true rfl) ?_
  intro p e s m below meth c ls F hr hlk hH hz hS hl
  have hl : lv_has ls 3 [(0, .ref mo), (1, .int (iI sd)), (2, .int (iI rr))] := hl
  have hS : va_S (gA g) s.heap s.heap [] := hS
  obtain ⟨H, hHe⟩ : ∃ H : Heap, H = s.heap := ⟨_, rfl⟩
  obtain ⟨locs, hlo⟩ : ∃ k : List Loc, k = [] := ⟨_, rfl⟩
  have hH : gH g I R J AI AJ AR H := by rw [hHe]; exact hH
  have hS : va_S (gA g) s.heap H locs := by rw [hHe, hlo]; exact hS
  suffices hw : W p l e rmX7_sizeOf s m ([.ref mo, .int (iI sd), .int (iI rr)] : List Value).toArray below meth c H locs 0 0 (MQ below (gQi g (fun (z : Int) (w : gS) => I = w.1 ∧ R = w.2.1 ∧ J = w.2.2.1 ∧ AI = w.2.2.2.1 ∧ AJ = w.2.2.2.2.1 ∧ AR = w.2.2.2.2.2 ∧ (0 ≤ z ∧ z ≤ 120) ∧ (z = tI (AI (gh 57 0)) (16 * sd + rr)))) ([.ref mo, .int (iI sd), .int (iI rr)] : List Value).toArray s 0 0 (gA g)) (F0 m 0 ls []) by
    rw [hHe, hlo] at hw; exact hw
  clear hHe hlo
  have iX7 : ∀ w ∈ u_ws RX7 TX7 32, w ∈ tsX7_sizeOf := fun w h => List.mem_cons_of_mem _ (inTB7 w h)
  have k27 : Cond.fieldLink RX7 27 (TX7 7).1 (TX7 7).2.1 (TX7 7).2.2.1 ∈ tsX7_sizeOf := List.mem_cons_of_mem _ fl_27
  refine lv_aload_n F.1 F.2.1 dX7_sizeOf_0 rfl (lv_at hl 0 rfl) ?_
  obtain ⟨r_1a, r_1b⟩ : R mo 7 = some (gh 57 0) ∧ gAr g (gh 57 0) 9 176 := mR hv hm (q := (7, 176)) (by decide)
  refine g_getR (ci := 7) (k := 7) F hH rfl (by decide) iX7 hm (by decide) rfl (b := gh 57 0) r_1a k27 dX7_sizeOf_1 ?_
  refine z_bipush F dX7_sizeOf_4 (by decide) ?_
  refine lv_iload_n F.1 F.2.1 dX7_sizeOf_6 rfl (lv_at hl 1 rfl) ?_
  refine z_imul F dX7_sizeOf_7 ?_
  refine lv_iload_n F.1 F.2.1 dX7_sizeOf_8 rfl (lv_at hl 2 rfl) ?_
  refine z_iadd F dX7_sizeOf_9 ?_
  have hx10 : 0 ≤ ((16 * sd) + rr) ∧ ((16 * sd) + rr) < ((176 : Nat) : Int) ∧ ((16 * sd) + rr) ≤ 2147483647 := ⟨by omega, by omega, by omega⟩
  refine g_iald F hH r_1b hx10.1 hx10.2.1 hx10.2.2 dX7_sizeOf_10 ?_
  exact g_iret F hr hlk hH hS hz (zr_t _) ⟨rfl, rfl, rfl, rfl, rfl, rfl, mSz hv hm (by omega) (by omega), rfl⟩ dX7_sizeOf_11

theorem hdX7_eight : yX7_eight.cls = RX7 ∧ yX7_eight.cls ≠ "java/lang/invoke/MethodHandle" ∧ yX7_eight.cls ≠ "java/lang/invoke/VarHandle" ∧ (parseMethodDescriptor yX7_eight.desc).map (fun d => d.parameters.length) = some 1 := by decide +kernel
theorem hdX7_feed : yX7_feed.cls = RX7 ∧ yX7_feed.cls ≠ "java/lang/invoke/MethodHandle" ∧ yX7_feed.cls ≠ "java/lang/invoke/VarHandle" ∧ (parseMethodDescriptor yX7_feed.desc).map (fun d => d.parameters.length) = some 3 := by decide +kernel
theorem hdX7_end : yX7_end.cls = RX7 ∧ yX7_end.cls ≠ "java/lang/invoke/MethodHandle" ∧ yX7_end.cls ≠ "java/lang/invoke/VarHandle" ∧ (parseMethodDescriptor yX7_end.desc).map (fun d => d.parameters.length) = some 1 := by decide +kernel
theorem hdX7_byteAt : yX7_byteAt.cls = RX7 ∧ yX7_byteAt.cls ≠ "java/lang/invoke/MethodHandle" ∧ yX7_byteAt.cls ≠ "java/lang/invoke/VarHandle" ∧ (parseMethodDescriptor yX7_byteAt.desc).map (fun d => d.parameters.length) = some 1 := by decide +kernel
theorem hdX7_isSmall : yX7_isSmall.cls = RX7 ∧ yX7_isSmall.cls ≠ "java/lang/invoke/MethodHandle" ∧ yX7_isSmall.cls ≠ "java/lang/invoke/VarHandle" ∧ (parseMethodDescriptor yX7_isSmall.desc).map (fun d => d.parameters.length) = some 1 := by decide +kernel
theorem hdX7_isDigit : yX7_isDigit.cls = RX7 ∧ yX7_isDigit.cls ≠ "java/lang/invoke/MethodHandle" ∧ yX7_isDigit.cls ≠ "java/lang/invoke/VarHandle" ∧ (parseMethodDescriptor yX7_isDigit.desc).map (fun d => d.parameters.length) = some 1 := by decide +kernel
theorem hdX7_compare : yX7_compare.cls = RX7 ∧ yX7_compare.cls ≠ "java/lang/invoke/MethodHandle" ∧ yX7_compare.cls ≠ "java/lang/invoke/VarHandle" ∧ (parseMethodDescriptor yX7_compare.desc).map (fun d => d.parameters.length) = some 4 := by decide +kernel
end
section
theorem hdX7_placeOf : yX7_placeOf.cls = RX7 ∧ yX7_placeOf.cls ≠ "java/lang/invoke/MethodHandle" ∧ yX7_placeOf.cls ≠ "java/lang/invoke/VarHandle" ∧ (parseMethodDescriptor yX7_placeOf.desc).map (fun d => d.parameters.length) = some 0 := by decide +kernel
theorem hdX7_gathers : yX7_gathers.cls = RX7 ∧ yX7_gathers.cls ≠ "java/lang/invoke/MethodHandle" ∧ yX7_gathers.cls ≠ "java/lang/invoke/VarHandle" ∧ (parseMethodDescriptor yX7_gathers.desc).map (fun d => d.parameters.length) = some 2 := by decide +kernel
theorem hdX7_lays : yX7_lays.cls = RX7 ∧ yX7_lays.cls ≠ "java/lang/invoke/MethodHandle" ∧ yX7_lays.cls ≠ "java/lang/invoke/VarHandle" ∧ (parseMethodDescriptor yX7_lays.desc).map (fun d => d.parameters.length) = some 2 := by decide +kernel
theorem hdX7_takes : yX7_takes.cls = RX7 ∧ yX7_takes.cls ≠ "java/lang/invoke/MethodHandle" ∧ yX7_takes.cls ≠ "java/lang/invoke/VarHandle" ∧ (parseMethodDescriptor yX7_takes.desc).map (fun d => d.parameters.length) = some 1 := by decide +kernel
theorem hdX7_holds : yX7_holds.cls = RX7 ∧ yX7_holds.cls ≠ "java/lang/invoke/MethodHandle" ∧ yX7_holds.cls ≠ "java/lang/invoke/VarHandle" ∧ (parseMethodDescriptor yX7_holds.desc).map (fun d => d.parameters.length) = some 2 := by decide +kernel
theorem hdX7_terms : yX7_terms.cls = RX7 ∧ yX7_terms.cls ≠ "java/lang/invoke/MethodHandle" ∧ yX7_terms.cls ≠ "java/lang/invoke/VarHandle" ∧ (parseMethodDescriptor yX7_terms.desc).map (fun d => d.parameters.length) = some 3 := by decide +kernel
theorem hdX7_areOneGroup : yX7_areOneGroup.cls = RX7 ∧ yX7_areOneGroup.cls ≠ "java/lang/invoke/MethodHandle" ∧ yX7_areOneGroup.cls ≠ "java/lang/invoke/VarHandle" ∧ (parseMethodDescriptor yX7_areOneGroup.desc).map (fun d => d.parameters.length) = some 3 := by decide +kernel
theorem hdX7_isFirstOfGroup : yX7_isFirstOfGroup.cls = RX7 ∧ yX7_isFirstOfGroup.cls ≠ "java/lang/invoke/MethodHandle" ∧ yX7_isFirstOfGroup.cls ≠ "java/lang/invoke/VarHandle" ∧ (parseMethodDescriptor yX7_isFirstOfGroup.desc).map (fun d => d.parameters.length) = some 3 := by decide +kernel
theorem hdX7_copies : yX7_copies.cls = RX7 ∧ yX7_copies.cls ≠ "java/lang/invoke/MethodHandle" ∧ yX7_copies.cls ≠ "java/lang/invoke/VarHandle" ∧ (parseMethodDescriptor yX7_copies.desc).map (fun d => d.parameters.length) = some 2 := by decide +kernel
theorem hdX7_tables : yX7_tables.cls = RX7 ∧ yX7_tables.cls ≠ "java/lang/invoke/MethodHandle" ∧ yX7_tables.cls ≠ "java/lang/invoke/VarHandle" ∧ (parseMethodDescriptor yX7_tables.desc).map (fun d => d.parameters.length) = some 0 := by decide +kernel
theorem hdX7_changesOf : yX7_changesOf.cls = RX7 ∧ yX7_changesOf.cls ≠ "java/lang/invoke/MethodHandle" ∧ yX7_changesOf.cls ≠ "java/lang/invoke/VarHandle" ∧ (parseMethodDescriptor yX7_changesOf.desc).map (fun d => d.parameters.length) = some 2 := by decide +kernel
end
section
theorem hdX7_joins : yX7_joins.cls = RX7 ∧ yX7_joins.cls ≠ "java/lang/invoke/MethodHandle" ∧ yX7_joins.cls ≠ "java/lang/invoke/VarHandle" ∧ (parseMethodDescriptor yX7_joins.desc).map (fun d => d.parameters.length) = some 2 := by decide +kernel
end
section
theorem hdX7_groups : yX7_groups.cls = RX7 ∧ yX7_groups.cls ≠ "java/lang/invoke/MethodHandle" ∧ yX7_groups.cls ≠ "java/lang/invoke/VarHandle" ∧ (parseMethodDescriptor yX7_groups.desc).map (fun d => d.parameters.length) = some 2 := by decide +kernel
end
section
theorem hdX7_ringsOnce : yX7_ringsOnce.cls = RX7 ∧ yX7_ringsOnce.cls ≠ "java/lang/invoke/MethodHandle" ∧ yX7_ringsOnce.cls ≠ "java/lang/invoke/VarHandle" ∧ (parseMethodDescriptor yX7_ringsOnce.desc).map (fun d => d.parameters.length) = some 5 := by decide +kernel
theorem hdX7_rings : yX7_rings.cls = RX7 ∧ yX7_rings.cls ≠ "java/lang/invoke/MethodHandle" ∧ yX7_rings.cls ≠ "java/lang/invoke/VarHandle" ∧ (parseMethodDescriptor yX7_rings.desc).map (fun d => d.parameters.length) = some 2 := by decide +kernel
end
section
theorem hdX7_reckons : yX7_reckons.cls = RX7 ∧ yX7_reckons.cls ≠ "java/lang/invoke/MethodHandle" ∧ yX7_reckons.cls ≠ "java/lang/invoke/VarHandle" ∧ (parseMethodDescriptor yX7_reckons.desc).map (fun d => d.parameters.length) = some 2 := by decide +kernel
theorem hdX7_drafts : yX7_drafts.cls = RX7 ∧ yX7_drafts.cls ≠ "java/lang/invoke/MethodHandle" ∧ yX7_drafts.cls ≠ "java/lang/invoke/VarHandle" ∧ (parseMethodDescriptor yX7_drafts.desc).map (fun d => d.parameters.length) = some 0 := by decide +kernel
end
section
theorem hdX7_moves : yX7_moves.cls = RX7 ∧ yX7_moves.cls ≠ "java/lang/invoke/MethodHandle" ∧ yX7_moves.cls ≠ "java/lang/invoke/VarHandle" ∧ (parseMethodDescriptor yX7_moves.desc).map (fun d => d.parameters.length) = some 2 := by decide +kernel
theorem hdX7_change : yX7_change.cls = RX7 ∧ yX7_change.cls ≠ "java/lang/invoke/MethodHandle" ∧ yX7_change.cls ≠ "java/lang/invoke/VarHandle" ∧ (parseMethodDescriptor yX7_change.desc).map (fun d => d.parameters.length) = some 6 := by decide +kernel
theorem hdX7_pending : yX7_pending.cls = RX7 ∧ yX7_pending.cls ≠ "java/lang/invoke/MethodHandle" ∧ yX7_pending.cls ≠ "java/lang/invoke/VarHandle" ∧ (parseMethodDescriptor yX7_pending.desc).map (fun d => d.parameters.length) = some 2 := by decide +kernel
theorem hdX7_cancel : yX7_cancel.cls = RX7 ∧ yX7_cancel.cls ≠ "java/lang/invoke/MethodHandle" ∧ yX7_cancel.cls ≠ "java/lang/invoke/VarHandle" ∧ (parseMethodDescriptor yX7_cancel.desc).map (fun d => d.parameters.length) = some 0 := by decide +kernel
theorem hdX7_laysMoved : yX7_laysMoved.cls = RX7 ∧ yX7_laysMoved.cls ≠ "java/lang/invoke/MethodHandle" ∧ yX7_laysMoved.cls ≠ "java/lang/invoke/VarHandle" ∧ (parseMethodDescriptor yX7_laysMoved.desc).map (fun d => d.parameters.length) = some 1 := by decide +kernel
theorem hdX7_movedInViews : yX7_movedInViews.cls = RX7 ∧ yX7_movedInViews.cls ≠ "java/lang/invoke/MethodHandle" ∧ yX7_movedInViews.cls ≠ "java/lang/invoke/VarHandle" ∧ (parseMethodDescriptor yX7_movedInViews.desc).map (fun d => d.parameters.length) = some 0 := by decide +kernel
theorem hdX7_cameTo : yX7_cameTo.cls = RX7 ∧ yX7_cameTo.cls ≠ "java/lang/invoke/MethodHandle" ∧ yX7_cameTo.cls ≠ "java/lang/invoke/VarHandle" ∧ (parseMethodDescriptor yX7_cameTo.desc).map (fun d => d.parameters.length) = some 1 := by decide +kernel
theorem hdX7_commit : yX7_commit.cls = RX7 ∧ yX7_commit.cls ≠ "java/lang/invoke/MethodHandle" ∧ yX7_commit.cls ≠ "java/lang/invoke/VarHandle" ∧ (parseMethodDescriptor yX7_commit.desc).map (fun d => d.parameters.length) = some 0 := by decide +kernel
theorem hdX7_would : yX7_would.cls = RX7 ∧ yX7_would.cls ≠ "java/lang/invoke/MethodHandle" ∧ yX7_would.cls ≠ "java/lang/invoke/VarHandle" ∧ (parseMethodDescriptor yX7_would.desc).map (fun d => d.parameters.length) = some 1 := by decide +kernel
theorem hdX7_undo : yX7_undo.cls = RX7 ∧ yX7_undo.cls ≠ "java/lang/invoke/MethodHandle" ∧ yX7_undo.cls ≠ "java/lang/invoke/VarHandle" ∧ (parseMethodDescriptor yX7_undo.desc).map (fun d => d.parameters.length) = some 0 := by decide +kernel
theorem hdX7_size : yX7_size.cls = RX7 ∧ yX7_size.cls ≠ "java/lang/invoke/MethodHandle" ∧ yX7_size.cls ≠ "java/lang/invoke/VarHandle" ∧ (parseMethodDescriptor yX7_size.desc).map (fun d => d.parameters.length) = some 1 := by decide +kernel
theorem hdX7_isTold : yX7_isTold.cls = RX7 ∧ yX7_isTold.cls ≠ "java/lang/invoke/MethodHandle" ∧ yX7_isTold.cls ≠ "java/lang/invoke/VarHandle" ∧ (parseMethodDescriptor yX7_isTold.desc).map (fun d => d.parameters.length) = some 2 := by decide +kernel
theorem hdX7_at : yX7_at.cls = RX7 ∧ yX7_at.cls ≠ "java/lang/invoke/MethodHandle" ∧ yX7_at.cls ≠ "java/lang/invoke/VarHandle" ∧ (parseMethodDescriptor yX7_at.desc).map (fun d => d.parameters.length) = some 3 := by decide +kernel
theorem hdX7_find : yX7_find.cls = RX7 ∧ yX7_find.cls ≠ "java/lang/invoke/MethodHandle" ∧ yX7_find.cls ≠ "java/lang/invoke/VarHandle" ∧ (parseMethodDescriptor yX7_find.desc).map (fun d => d.parameters.length) = some 6 := by decide +kernel
theorem hdX7_count : yX7_count.cls = RX7 ∧ yX7_count.cls ≠ "java/lang/invoke/MethodHandle" ∧ yX7_count.cls ≠ "java/lang/invoke/VarHandle" ∧ (parseMethodDescriptor yX7_count.desc).map (fun d => d.parameters.length) = some 5 := by decide +kernel
theorem hdX7_total : yX7_total.cls = RX7 ∧ yX7_total.cls ≠ "java/lang/invoke/MethodHandle" ∧ yX7_total.cls ≠ "java/lang/invoke/VarHandle" ∧ (parseMethodDescriptor yX7_total.desc).map (fun d => d.parameters.length) = some 1 := by decide +kernel
theorem hdX7_moved : yX7_moved.cls = RX7 ∧ yX7_moved.cls ≠ "java/lang/invoke/MethodHandle" ∧ yX7_moved.cls ≠ "java/lang/invoke/VarHandle" ∧ (parseMethodDescriptor yX7_moved.desc).map (fun d => d.parameters.length) = some 1 := by decide +kernel
theorem hdX7_movedAt : yX7_movedAt.cls = RX7 ∧ yX7_movedAt.cls ≠ "java/lang/invoke/MethodHandle" ∧ yX7_movedAt.cls ≠ "java/lang/invoke/VarHandle" ∧ (parseMethodDescriptor yX7_movedAt.desc).map (fun d => d.parameters.length) = some 3 := by decide +kernel
theorem hdX7_came : yX7_came.cls = RX7 ∧ yX7_came.cls ≠ "java/lang/invoke/MethodHandle" ∧ yX7_came.cls ≠ "java/lang/invoke/VarHandle" ∧ (parseMethodDescriptor yX7_came.desc).map (fun d => d.parameters.length) = some 1 := by decide +kernel
theorem hdX7_round : yX7_round.cls = RX7 ∧ yX7_round.cls ≠ "java/lang/invoke/MethodHandle" ∧ yX7_round.cls ≠ "java/lang/invoke/VarHandle" ∧ (parseMethodDescriptor yX7_round.desc).map (fun d => d.parameters.length) = some 5 := by decide +kernel
theorem hdX7_rounds : yX7_rounds.cls = RX7 ∧ yX7_rounds.cls ≠ "java/lang/invoke/MethodHandle" ∧ yX7_rounds.cls ≠ "java/lang/invoke/VarHandle" ∧ (parseMethodDescriptor yX7_rounds.desc).map (fun d => d.parameters.length) = some 1 := by decide +kernel
end
