def rmX0_clear : Room := { frames := 0, cells := 0, slots := 0, locals := 0 }
theorem hdX0_clear : yX0_clear.cls = RX0 ∧ yX0_clear.cls ≠ "java/lang/invoke/MethodHandle" ∧ yX0_clear.cls ≠ "java/lang/invoke/VarHandle" ∧ (parseMethodDescriptor yX0_clear.desc).map (fun d => d.parameters.length) = some 1 := by decide +kernel
set_option maxHeartbeats 4000000 in
set_option maxRecDepth 100000 in
/-- an empty line -/
theorem c_X0_clear (l : Launch) (g : gG) (gh : gGh) (I : gI) (R : gR) (J : gJ) (AI : gI) (AJ : gJ) (AR : gR) (a : Nat) (kd : Int) (zkd : zr kd) (hv : gInv g gh R AR I AI) (ha : gO g a 0) (h0 : kd = 0) : gMet l g yX0_clear wsX0_clear rmX0_clear [.ref a, .int (iI kd)] (I, R, J, AI, AJ, AR) (gQv g (fun w : gS => R = w.2.1 ∧ J = w.2.2.1 ∧ AI = w.2.2.2.1 ∧ AJ = w.2.2.2.2.1 ∧ AR = w.2.2.2.2.2 ∧ (gInv g gh R AR (w.1) AI) ∧ (∀ b, b ≠ a → (w.1) b = I b) ∧ (((w.1) a 0).toInt = 0 ∧ ((w.1) a 8).toInt = 0))) := by
  refine gStart (cc := cX0_clear) (maxL := 2) (ret := none) (by decide) rfl (Nat.le_of_ble_eq_true rfl) ?_
  intro p e s m below meth c ls F hr hlk hH hz hS hl
  have hl : lv_has ls 2 [(0, .ref a), (1, .int (iI kd))] := hl
  have hS : va_S (gA g) s.heap s.heap [] := hS
  obtain ⟨H, hHe⟩ : ∃ H : Heap, H = s.heap := ⟨_, rfl⟩
  obtain ⟨locs, hlo⟩ : ∃ k : List Loc, k = [] := ⟨_, rfl⟩
  have hH : gH g I R J AI AJ AR H := by rw [hHe]; exact hH
  have hS : va_S (gA g) s.heap H locs := by rw [hHe, hlo]; exact hS
  suffices hw : W p l e rmX0_clear s m ([.ref a, .int (iI kd)] : List Value).toArray below meth c H locs 0 0 (MQ below (gQv g (fun w : gS => R = w.2.1 ∧ J = w.2.2.1 ∧ AI = w.2.2.2.1 ∧ AJ = w.2.2.2.2.1 ∧ AR = w.2.2.2.2.2 ∧ (gInv g gh R AR (w.1) AI) ∧ (∀ b, b ≠ a → (w.1) b = I b) ∧ (((w.1) a 0).toInt = 0 ∧ ((w.1) a 8).toInt = 0))) ([.ref a, .int (iI kd)] : List Value).toArray s 0 0 (gA g)) (F0 m 0 ls []) by
    rw [hHe, hlo] at hw; exact hw
  clear hHe hlo
  have iX0 : ∀ w ∈ u_ws RX0 TX0 15, w ∈ wsX0_clear := (by decide +kernel)
  have k15 : Cond.fieldLink RX0 15 (TX0 0).1 (TX0 0).2.1 (TX0 0).2.2.1 ∈ wsX0_clear := List.mem_of_getElem? (i := 1) rfl
  have k19 : Cond.fieldLink RX0 19 (TX0 2).1 (TX0 2).2.1 (TX0 2).2.2.1 ∈ wsX0_clear := List.mem_of_getElem? (i := 2) rfl
  have k22 : Cond.fieldLink RX0 22 (TX0 3).1 (TX0 3).2.1 (TX0 3).2.2.1 ∈ wsX0_clear := List.mem_of_getElem? (i := 3) rfl
  have k25 : Cond.fieldLink RX0 25 (TX0 4).1 (TX0 4).2.1 (TX0 4).2.2.1 ∈ wsX0_clear := List.mem_of_getElem? (i := 4) rfl
  have k28 : Cond.fieldLink RX0 28 (TX0 5).1 (TX0 5).2.1 (TX0 5).2.2.1 ∈ wsX0_clear := List.mem_of_getElem? (i := 5) rfl
  have k31 : Cond.fieldLink RX0 31 (TX0 6).1 (TX0 6).2.1 (TX0 6).2.2.1 ∈ wsX0_clear := List.mem_of_getElem? (i := 6) rfl
  have k34 : Cond.fieldLink RX0 34 (TX0 8).1 (TX0 8).2.1 (TX0 8).2.2.1 ∈ wsX0_clear := List.mem_of_getElem? (i := 7) rfl
  have k37 : Cond.fieldLink RX0 37 (TX0 13).1 (TX0 13).2.1 (TX0 13).2.2.1 ∈ wsX0_clear := List.mem_of_getElem? (i := 8) rfl
  have k40 : Cond.fieldLink RX0 40 (TX0 14).1 (TX0 14).2.1 (TX0 14).2.2.1 ∈ wsX0_clear := List.mem_of_getElem? (i := 9) rfl
  refine lv_aload_n F.1 F.2.1 dX0_clear_0 rfl (lv_at hl 0 rfl) ?_
  refine lv_iload_n F.1 F.2.1 dX0_clear_1 rfl (lv_at hl 1 rfl) ?_
  refine g_putI (ci := 0) (k := 0) F hH hS rfl (by decide) iX0 ha (by decide) tyX0 tyX0_ok nmX0 rfl rfl rfl k15 dX0_clear_2 (fun H locs hH hS => ?_)
  obtain ⟨I_1, eI_1⟩ : ∃ qQ, qQ = gup2 I a 0 (iI (kd)) := ⟨_, rfl⟩
  rw [← eI_1] at hH
  have kI_1 : ∀ b, b ≠ a → I_1 b = I b := fun b hb => by rw [eI_1]; exact funext fun j => gup2_a _ _ hb
  refine lv_aload_n F.1 F.2.1 dX0_clear_5 rfl (lv_at hl 0 rfl) ?_
  refine z_iconst F dX0_clear_6 ?_
  refine g_putI (ci := 0) (k := 2) F hH hS rfl (by decide) iX0 ha (by decide) tyX0 tyX0_ok nmX0 rfl rfl rfl k19 dX0_clear_7 (fun H locs hH hS => ?_)
  obtain ⟨I_2, eI_2⟩ : ∃ qQ, qQ = gup2 I_1 a 2 (iI (0)) := ⟨_, rfl⟩
  rw [← eI_2] at hH
  have kI_2 : ∀ b, b ≠ a → I_2 b = I_1 b := fun b hb => by rw [eI_2]; exact funext fun j => gup2_a _ _ hb
  refine lv_aload_n F.1 F.2.1 dX0_clear_10 rfl (lv_at hl 0 rfl) ?_
  refine z_iconst F dX0_clear_11 ?_
  refine g_putI (ci := 0) (k := 3) F hH hS rfl (by decide) iX0 ha (by decide) tyX0 tyX0_ok nmX0 rfl rfl rfl k22 dX0_clear_12 (fun H locs hH hS => ?_)
  obtain ⟨I_3, eI_3⟩ : ∃ qQ, qQ = gup2 I_2 a 3 (iI ((-1))) := ⟨_, rfl⟩
  rw [← eI_3] at hH
  have kI_3 : ∀ b, b ≠ a → I_3 b = I_2 b := fun b hb => by rw [eI_3]; exact funext fun j => gup2_a _ _ hb
  refine lv_aload_n F.1 F.2.1 dX0_clear_15 rfl (lv_at hl 0 rfl) ?_
  refine z_iconst F dX0_clear_16 ?_
  refine g_putI (ci := 0) (k := 4) F hH hS rfl (by decide) iX0 ha (by decide) tyX0 tyX0_ok nmX0 rfl rfl rfl k25 dX0_clear_17 (fun H locs hH hS => ?_)
  obtain ⟨I_4, eI_4⟩ : ∃ qQ, qQ = gup2 I_3 a 4 (iI ((-1))) := ⟨_, rfl⟩
  rw [← eI_4] at hH
  have kI_4 : ∀ b, b ≠ a → I_4 b = I_3 b := fun b hb => by rw [eI_4]; exact funext fun j => gup2_a _ _ hb
  refine lv_aload_n F.1 F.2.1 dX0_clear_20 rfl (lv_at hl 0 rfl) ?_
  refine z_iconst F dX0_clear_21 ?_
  refine g_putI (ci := 0) (k := 5) F hH hS rfl (by decide) iX0 ha (by decide) tyX0 tyX0_ok nmX0 rfl rfl rfl k28 dX0_clear_22 (fun H locs hH hS => ?_)
  obtain ⟨I_5, eI_5⟩ : ∃ qQ, qQ = gup2 I_4 a 5 (iI (0)) := ⟨_, rfl⟩
  rw [← eI_5] at hH
  have kI_5 : ∀ b, b ≠ a → I_5 b = I_4 b := fun b hb => by rw [eI_5]; exact funext fun j => gup2_a _ _ hb
  refine lv_aload_n F.1 F.2.1 dX0_clear_25 rfl (lv_at hl 0 rfl) ?_
  refine z_iconst F dX0_clear_26 ?_
  refine g_putI (ci := 0) (k := 6) F hH hS rfl (by decide) iX0 ha (by decide) tyX0 tyX0_ok nmX0 rfl rfl rfl k31 dX0_clear_27 (fun H locs hH hS => ?_)
  obtain ⟨I_6, eI_6⟩ : ∃ qQ, qQ = gup2 I_5 a 6 (iI (0)) := ⟨_, rfl⟩
  rw [← eI_6] at hH
  have kI_6 : ∀ b, b ≠ a → I_6 b = I_5 b := fun b hb => by rw [eI_6]; exact funext fun j => gup2_a _ _ hb
  refine lv_aload_n F.1 F.2.1 dX0_clear_30 rfl (lv_at hl 0 rfl) ?_
  refine z_iconst F dX0_clear_31 ?_
  refine g_putI (ci := 0) (k := 8) F hH hS rfl (by decide) iX0 ha (by decide) tyX0 tyX0_ok nmX0 rfl rfl rfl k34 dX0_clear_32 (fun H locs hH hS => ?_)
  obtain ⟨I_7, eI_7⟩ : ∃ qQ, qQ = gup2 I_6 a 8 (iI (0)) := ⟨_, rfl⟩
  rw [← eI_7] at hH
  have kI_7 : ∀ b, b ≠ a → I_7 b = I_6 b := fun b hb => by rw [eI_7]; exact funext fun j => gup2_a _ _ hb
  refine lv_aload_n F.1 F.2.1 dX0_clear_35 rfl (lv_at hl 0 rfl) ?_
  refine z_iconst F dX0_clear_36 ?_
  refine g_putI (ci := 0) (k := 13) F hH hS rfl (by decide) iX0 ha (by decide) tyX0 tyX0_ok nmX0 rfl rfl rfl k37 dX0_clear_37 (fun H locs hH hS => ?_)
  obtain ⟨I_8, eI_8⟩ : ∃ qQ, qQ = gup2 I_7 a 13 (iI (0)) := ⟨_, rfl⟩
  rw [← eI_8] at hH
  have kI_8 : ∀ b, b ≠ a → I_8 b = I_7 b := fun b hb => by rw [eI_8]; exact funext fun j => gup2_a _ _ hb
  refine lv_aload_n F.1 F.2.1 dX0_clear_40 rfl (lv_at hl 0 rfl) ?_
  refine z_iconst F dX0_clear_41 ?_
  refine g_putI (ci := 0) (k := 14) F hH hS rfl (by decide) iX0 ha (by decide) tyX0 tyX0_ok nmX0 rfl rfl rfl k40 dX0_clear_42 (fun H locs hH hS => ?_)
  obtain ⟨I_9, eI_9⟩ : ∃ qQ, qQ = gup2 I_8 a 14 (iI (0)) := ⟨_, rfl⟩
  rw [← eI_9] at hH
  have kI_9 : ∀ b, b ≠ a → I_9 b = I_8 b := fun b hb => by rw [eI_9]; exact funext fun j => gup2_a _ _ hb
  have f0 : I_9 a 0 = iI kd := by simp [eI_9, eI_8, eI_7, eI_6, eI_5, eI_4, eI_3, eI_2, eI_1, gup2]
  have f2 : I_9 a 2 = iI (0) := by simp [eI_9, eI_8, eI_7, eI_6, eI_5, eI_4, eI_3, eI_2, eI_1, gup2]
  have f3 : I_9 a 3 = iI (-1) := by simp [eI_9, eI_8, eI_7, eI_6, eI_5, eI_4, eI_3, eI_2, eI_1, gup2]
  have f4 : I_9 a 4 = iI (-1) := by simp [eI_9, eI_8, eI_7, eI_6, eI_5, eI_4, eI_3, eI_2, eI_1, gup2]
  have f5 : I_9 a 5 = iI (0) := by simp [eI_9, eI_8, eI_7, eI_6, eI_5, eI_4, eI_3, eI_2, eI_1, gup2]
  have f6 : I_9 a 6 = iI (0) := by simp [eI_9, eI_8, eI_7, eI_6, eI_5, eI_4, eI_3, eI_2, eI_1, gup2]
  have f8 : I_9 a 8 = iI (0) := by simp [eI_9, eI_8, eI_7, eI_6, eI_5, eI_4, eI_3, eI_2, eI_1, gup2]
  have f9 : I_9 a 9 = I a 9 := by simp [eI_9, eI_8, eI_7, eI_6, eI_5, eI_4, eI_3, eI_2, eI_1, gup2]
  have f10 : I_9 a 10 = I a 10 := by simp [eI_9, eI_8, eI_7, eI_6, eI_5, eI_4, eI_3, eI_2, eI_1, gup2]
  have f12 : I_9 a 12 = I a 12 := by simp [eI_9, eI_8, eI_7, eI_6, eI_5, eI_4, eI_3, eI_2, eI_1, gup2]
  have hold := gI_line hv ha
  unfold vLineI at hold
  have hv : gInv g gh R AR I_9 AI := by
    refine gInv_line hv ha (fun b hb => ((((((((kI_9 b hb).trans (kI_8 b hb)).trans (kI_7 b hb)).trans (kI_6 b hb)).trans (kI_5 b hb)).trans (kI_4 b hb)).trans (kI_3 b hb)).trans (kI_2 b hb)).trans (kI_1 b hb)) (fun _ _ => rfl) ?_ ?_ ?_
    · unfold vLineI
      rw [f0, f2, f3, f4, f5, f6, f8, f9, f10, f12, h0, iI_val ⟨by decide, by decide⟩, iI_val ⟨by decide, by decide⟩]
      omega
    · rw [f0, f8, h0, iI_val ⟨by decide, by decide⟩]
      exact ⟨fun h => absurd h (by decide), fun _ => ⟨by decide, fun k hk => absurd hk (by omega)⟩, fun h => absurd h (by decide), fun h => absurd h (by decide)⟩
    · intro _
      rw [f2, iI_val ⟨by decide, by decide⟩]
      decide
  exact g_vret F hr hlk hH hS hz ⟨rfl, rfl, rfl, rfl, rfl, hv, fun b hb => ((((((((kI_9 b hb).trans (kI_8 b hb)).trans (kI_7 b hb)).trans (kI_6 b hb)).trans (kI_5 b hb)).trans (kI_4 b hb)).trans (kI_3 b hb)).trans (kI_2 b hb)).trans (kI_1 b hb), by dsimp only; rw [f0, f8, h0, iI_val ⟨by decide, by decide⟩]; exact ⟨rfl, rfl⟩⟩ dX0_clear_45

def rmX0_lastLetter : Room := { frames := 0, cells := 0, slots := 0, locals := 0 }
theorem hdX0_lastLetter : yX0_lastLetter.cls = RX0 ∧ yX0_lastLetter.cls ≠ "java/lang/invoke/MethodHandle" ∧ yX0_lastLetter.cls ≠ "java/lang/invoke/VarHandle" ∧ (parseMethodDescriptor yX0_lastLetter.desc).map (fun d => d.parameters.length) = some 0 := by decide +kernel
set_option maxHeartbeats 4000000 in
set_option maxRecDepth 100000 in
/-- a letter -/
theorem c_X0_lastLetter (l : Launch) (g : gG) (gh : gGh) (I : gI) (R : gR) (J : gJ) (AI : gI) (AJ : gJ) (AR : gR) (a : Nat) (hv : gInv g gh R AR I AI) (ha : gO g a 0) : gMet l g yX0_lastLetter wsX0_lastLetter rmX0_lastLetter [.ref a] (I, R, J, AI, AJ, AR) (gQi g (fun (z : Int) (w : gS) => I = w.1 ∧ R = w.2.1 ∧ J = w.2.2.1 ∧ AI = w.2.2.2.1 ∧ AJ = w.2.2.2.2.1 ∧ AR = w.2.2.2.2.2)) := by
  refine gStart (cc := cX0_lastLetter) (maxL := 1) (ret := (some (.int))) (by decide) rfl (Nat.le_of_ble_eq_true rfl) ?_
  intro p e s m below meth c ls F hr hlk hH hz hS hl
  have hl : lv_has ls 1 [(0, .ref a)] := hl
  have hS : va_S (gA g) s.heap s.heap [] := hS
  obtain ⟨H, hHe⟩ : ∃ H : Heap, H = s.heap := ⟨_, rfl⟩
  obtain ⟨locs, hlo⟩ : ∃ k : List Loc, k = [] := ⟨_, rfl⟩
  have hH : gH g I R J AI AJ AR H := by rw [hHe]; exact hH
  have hS : va_S (gA g) s.heap H locs := by rw [hHe, hlo]; exact hS
  suffices hw : W p l e rmX0_lastLetter s m ([.ref a] : List Value).toArray below meth c H locs 0 0 (MQ below (gQi g (fun (z : Int) (w : gS) => I = w.1 ∧ R = w.2.1 ∧ J = w.2.2.1 ∧ AI = w.2.2.2.1 ∧ AJ = w.2.2.2.2.1 ∧ AR = w.2.2.2.2.2)) ([.ref a] : List Value).toArray s 0 0 (gA g)) (F0 m 0 ls []) by
    rw [hHe, hlo] at hw; exact hw
  clear hHe hlo
  have iX0 : ∀ w ∈ u_ws RX0 TX0 15, w ∈ wsX0_lastLetter := (by decide +kernel)
  have k43 : Cond.fieldLink RX0 43 (TX0 1).1 (TX0 1).2.1 (TX0 1).2.2.1 ∈ wsX0_lastLetter := List.mem_of_getElem? (i := 1) rfl
  refine lv_aload_n F.1 F.2.1 dX0_lastLetter_0 rfl (lv_at hl 0 rfl) ?_
  refine g_getJ (ci := 0) (k := 1) F hH rfl (by decide) iX0 ha (by decide) rfl k43 dX0_lastLetter_1 ?_
  refine lv_topl (fun j_1 ej_1 => ?_)
  refine lv_ldc2 (v := 31) F.1 F.2.1 F.2.2.2.1 (F.2.2.2.2.1 _ (List.mem_of_getElem? (i := 2) rfl)) dX0_lastLetter_4 ?_
  refine lv_land F.1 F.2.1 dX0_lastLetter_7 ?_
  refine lv_topl (fun j_2 ej_2 => ?_)
  refine lv_l2i F.1 F.2.1 dX0_lastLetter_8 rfl ?_
  refine z_top (fun v_3 zv_3 ev_3 => ?_)
  exact g_iret F hr hlk hH hS hz zv_3 ⟨rfl, rfl, rfl, rfl, rfl, rfl⟩ dX0_lastLetter_9

def rmX0_firstLetter : Room := { frames := 0, cells := 0, slots := 0, locals := 0 }
theorem hdX0_firstLetter : yX0_firstLetter.cls = RX0 ∧ yX0_firstLetter.cls ≠ "java/lang/invoke/MethodHandle" ∧ yX0_firstLetter.cls ≠ "java/lang/invoke/VarHandle" ∧ (parseMethodDescriptor yX0_firstLetter.desc).map (fun d => d.parameters.length) = some 0 := by decide +kernel
set_option maxHeartbeats 4000000 in
set_option maxRecDepth 100000 in
/-- a letter -/
theorem c_X0_firstLetter (l : Launch) (g : gG) (gh : gGh) (I : gI) (R : gR) (J : gJ) (AI : gI) (AJ : gJ) (AR : gR) (a : Nat) (hv : gInv g gh R AR I AI) (ha : gO g a 0) : gMet l g yX0_firstLetter wsX0_firstLetter rmX0_firstLetter [.ref a] (I, R, J, AI, AJ, AR) (gQi g (fun (z : Int) (w : gS) => I = w.1 ∧ R = w.2.1 ∧ J = w.2.2.1 ∧ AI = w.2.2.2.1 ∧ AJ = w.2.2.2.2.1 ∧ AR = w.2.2.2.2.2)) := by
  refine gStart (cc := cX0_firstLetter) (maxL := 4) (ret := (some (.int))) (by decide) rfl (Nat.le_of_ble_eq_true rfl) ?_
  intro p e s m below meth c ls F hr hlk hH hz hS hl
  have hl : lv_has ls 4 [(0, .ref a)] := hl
  have hS : va_S (gA g) s.heap s.heap [] := hS
  obtain ⟨H, hHe⟩ : ∃ H : Heap, H = s.heap := ⟨_, rfl⟩
  obtain ⟨locs, hlo⟩ : ∃ k : List Loc, k = [] := ⟨_, rfl⟩
  have hH : gH g I R J AI AJ AR H := by rw [hHe]; exact hH
  have hS : va_S (gA g) s.heap H locs := by rw [hHe, hlo]; exact hS
  suffices hw : W p l e rmX0_firstLetter s m ([.ref a] : List Value).toArray below meth c H locs 0 0 (MQ below (gQi g (fun (z : Int) (w : gS) => I = w.1 ∧ R = w.2.1 ∧ J = w.2.2.1 ∧ AI = w.2.2.2.1 ∧ AJ = w.2.2.2.2.1 ∧ AR = w.2.2.2.2.2)) ([.ref a] : List Value).toArray s 0 0 (gA g)) (F0 m 0 ls []) by
    rw [hHe, hlo] at hw; exact hw
  clear hHe hlo
  have iX0 : ∀ w ∈ u_ws RX0 TX0 15, w ∈ wsX0_firstLetter := (by decide +kernel)
  have k43 : Cond.fieldLink RX0 43 (TX0 1).1 (TX0 1).2.1 (TX0 1).2.2.1 ∈ wsX0_firstLetter := List.mem_of_getElem? (i := 1) rfl
  refine lv_aload_n F.1 F.2.1 dX0_firstLetter_0 rfl (lv_at hl 0 rfl) ?_
  refine g_getJ (ci := 0) (k := 1) F hH rfl (by decide) iX0 ha (by decide) rfl k43 dX0_firstLetter_1 ?_
  refine lv_topl (fun j_1 ej_1 => ?_)
  refine lv_lstore_n (lv' := [(1, .long j_1), (0, .ref a)]) F.1 F.2.1 dX0_firstLetter_4 rfl hl (by decide) rfl (fun ls hl => ?_)
  refine z_iconst F dX0_firstLetter_5 ?_
  refine lv_istore_n (lv' := [(3, .int (iI 0)), (1, .long j_1), (0, .ref a)]) F.1 F.2.1 dX0_firstLetter_6 rfl hl (by decide) rfl (fun ls hl => ?_)
  have cut_7_1 : ∀ (NN : Nat) (k : Int) (nm : Int64) (H : Heap) (locs : List Loc) (ls : Array Slot), zr k → (0 ≤ k ∧ k ≤ 8) → (8 - k) < ((NN : Nat) : Int) → gH g I R J AI AJ AR H → va_S (gA g) s.heap H locs → lv_has ls 4 [(3, .int (iI k)), (1, .long nm), (0, .ref a)] → W p l e rmX0_firstLetter s m ([.ref a] : List Value).toArray below meth c H locs 0 0 (MQ below (gQi g (fun (z : Int) (w : gS) => I = w.1 ∧ R = w.2.1 ∧ J = w.2.2.1 ∧ AI = w.2.2.2.1 ∧ AJ = w.2.2.2.2.1 ∧ AR = w.2.2.2.2.2)) ([.ref a] : List Value).toArray s 0 0 (gA g)) (F0 m 7 ls []) := by
    intro NN7
    induction NN7 with
    | zero =>
      intro k nm H locs ls zk hk hm7 hH hS hl
      exact absurd hm7 (by omega)
    | succ NN7 ih7 =>
      intro k nm H locs ls zk hk hm7 hH hS hl
      refine lv_iload_n F.1 F.2.1 dX0_firstLetter_7 rfl (lv_at hl 0 rfl) ?_
      refine z_bipush F dX0_firstLetter_8 (by decide) ?_
      refine z_icmp_ge (tgt := 31) F dX0_firstLetter_10 (by decide) zk ⟨by decide, by decide⟩ (fun c_3 => ?_) (fun c_3 => ?_)
      · refine lv_lload_n F.1 F.2.1 dX0_firstLetter_31 rfl (lv_at hl 1 rfl) ?_
        refine lv_l2i F.1 F.2.1 dX0_firstLetter_32 rfl ?_
        refine z_top (fun v_4 zv_4 ev_4 => ?_)
        exact g_iret F hr hlk hH hS hz zv_4 ⟨rfl, rfl, rfl, rfl, rfl, rfl⟩ dX0_firstLetter_33
      · refine lv_lload_n F.1 F.2.1 dX0_firstLetter_13 rfl (lv_at hl 1 rfl) ?_
        refine lv_ldc2 (v := 31) F.1 F.2.1 F.2.2.2.1 (F.2.2.2.2.1 _ (List.mem_of_getElem? (i := 2) rfl)) dX0_firstLetter_14 ?_
        refine W.lcmp F.1 F.2.1 dX0_firstLetter_17 ?_
        refine z_top (fun v_5 zv_5 ev_5 => ?_)
        have lv_5 : v_5 = 0 ↔ nm = (31) := by rw [ev_5]; exact z_lcmp
        refine z_if_le (tgt := 31) F dX0_firstLetter_18 (by decide) zv_5 (fun c_6 => ?_) (fun c_6 => ?_)
        · refine lv_lload_n F.1 F.2.1 dX0_firstLetter_31 rfl (lv_at hl 1 rfl) ?_
          refine lv_l2i F.1 F.2.1 dX0_firstLetter_32 rfl ?_
          refine z_top (fun v_7 zv_7 ev_7 => ?_)
          exact g_iret F hr hlk hH hS hz zv_7 ⟨rfl, rfl, rfl, rfl, rfl, rfl⟩ dX0_firstLetter_33
        · refine lv_lload_n F.1 F.2.1 dX0_firstLetter_21 rfl (lv_at hl 1 rfl) ?_
          refine z_iconst F dX0_firstLetter_22 ?_
          refine lv_lushr F.1 F.2.1 dX0_firstLetter_23 rfl ?_
          refine lv_topl (fun j_8 ej_8 => ?_)
          refine lv_lstore_n (lv' := [(1, .long j_8), (3, .int (iI k)), (0, .ref a)]) F.1 F.2.1 dX0_firstLetter_24 rfl hl (by decide) rfl (fun ls hl => ?_)
          refine z_iinc (lv' := [(3, .int (iI (k + 1))), (1, .long j_8), (0, .ref a)]) F dX0_firstLetter_25 hl (k := 1) rfl (by decide) rfl (fun ls hl => ?_)
          refine z_goto (tgt := 7) F dX0_firstLetter_28 (by decide) ?_
          exact ih7 (k + 1) j_8 H locs ls ⟨by omega, by omega⟩ (by omega) (by omega) hH hS (lv_sub hl [0, 1, 2] rfl)
  exact cut_7_1 (((8 - 0) + 1 : Int).toNat) 0 j_1 H locs ls ⟨by decide, by decide⟩ (by omega) (by omega) hH hS (lv_sub hl [0, 1, 2] rfl)

def rmX0_holds : Room := { frames := 0, cells := 0, slots := 0, locals := 0 }
theorem hdX0_holds : yX0_holds.cls = RX0 ∧ yX0_holds.cls ≠ "java/lang/invoke/MethodHandle" ∧ yX0_holds.cls ≠ "java/lang/invoke/VarHandle" ∧ (parseMethodDescriptor yX0_holds.desc).map (fun d => d.parameters.length) = some 2 := by decide +kernel
set_option maxHeartbeats 4000000 in
set_option maxRecDepth 100000 in
/-- whether the tests hold -/
theorem c_X0_holds (l : Launch) (g : gG) (gh : gGh) (n : Nat) (I : gI) (R : gR) (J : gJ) (AI : gI) (AJ : gJ) (AR : gR) (a : Nat) (o : Nat) (fr : Int) (zfr : zr fr) (hv : gInv g gh R AR I AI) (ha : gO g a 0) (ho : gAr g o 9 n) (hkd : (I a 0).toInt = 1) (hn : n ≤ 1440) (h2 : 0 ≤ fr) (h3 : fr + 4 ≤ (n : Int)) : gMet l g yX0_holds wsX0_holds rmX0_holds [.ref a, .ref o, .int (iI fr)] (I, R, J, AI, AJ, AR) (gQi g (fun (z : Int) (w : gS) => I = w.1 ∧ R = w.2.1 ∧ J = w.2.2.1 ∧ AI = w.2.2.2.1 ∧ AJ = w.2.2.2.2.1 ∧ AR = w.2.2.2.2.2 ∧ (z = 0 ∨ z = 1))) := by
  refine gStart (cc := cX0_holds) (maxL := 8) (ret := (some (.boolean))) (by decide) rfl (Nat.le_of_ble_eq_true rfl) ?_
  intro p e s m below meth c ls F hr hlk hH hz hS hl
  have hl : lv_has ls 8 [(0, .ref a), (1, .ref o), (2, .int (iI fr))] := hl
  have hS : va_S (gA g) s.heap s.heap [] := hS
  obtain ⟨H, hHe⟩ : ∃ H : Heap, H = s.heap := ⟨_, rfl⟩
  obtain ⟨locs, hlo⟩ : ∃ k : List Loc, k = [] := ⟨_, rfl⟩
  have hH : gH g I R J AI AJ AR H := by rw [hHe]; exact hH
  have hS : va_S (gA g) s.heap H locs := by rw [hHe, hlo]; exact hS
  suffices hw : W p l e rmX0_holds s m ([.ref a, .ref o, .int (iI fr)] : List Value).toArray below meth c H locs 0 0 (MQ below (gQi g (fun (z : Int) (w : gS) => I = w.1 ∧ R = w.2.1 ∧ J = w.2.2.1 ∧ AI = w.2.2.2.1 ∧ AJ = w.2.2.2.2.1 ∧ AR = w.2.2.2.2.2 ∧ (z = 0 ∨ z = 1))) ([.ref a, .ref o, .int (iI fr)] : List Value).toArray s 0 0 (gA g)) (F0 m 0 ls []) by
    rw [hHe, hlo] at hw; exact hw
  clear hHe hlo
  have iX0 : ∀ w ∈ u_ws RX0 TX0 15, w ∈ wsX0_holds := (by decide +kernel)
  have k34 : Cond.fieldLink RX0 34 (TX0 8).1 (TX0 8).2.1 (TX0 8).2.2.1 ∈ wsX0_holds := List.mem_of_getElem? (i := 1) rfl
  have k11 : Cond.fieldLink RX0 11 (TX0 7).1 (TX0 7).2.1 (TX0 7).2.2.1 ∈ wsX0_holds := List.mem_of_getElem? (i := 2) rfl
  refine z_iconst F dX0_holds_0 ?_
  refine lv_istore_n (lv' := [(3, .int (iI 0)), (0, .ref a), (1, .ref o), (2, .int (iI fr))]) F.1 F.2.1 dX0_holds_1 rfl hl (by decide) rfl (fun ls hl => ?_)
  have cut_2_0 : ∀ (NN : Nat) (k : Int) (H : Heap) (locs : List Loc) (ls : Array Slot), zr k → (0 ≤ k ∧ k ≤ 8) → (8 - k) < ((NN : Nat) : Int) → gH g I R J AI AJ AR H → va_S (gA g) s.heap H locs → lv_has ls 8 [(3, .int (iI k)), (0, .ref a), (1, .ref o), (2, .int (iI fr))] → W p l e rmX0_holds s m ([.ref a, .ref o, .int (iI fr)] : List Value).toArray below meth c H locs 0 0 (MQ below (gQi g (fun (z : Int) (w : gS) => I = w.1 ∧ R = w.2.1 ∧ J = w.2.2.1 ∧ AI = w.2.2.2.1 ∧ AJ = w.2.2.2.2.1 ∧ AR = w.2.2.2.2.2 ∧ (z = 0 ∨ z = 1))) ([.ref a, .ref o, .int (iI fr)] : List Value).toArray s 0 0 (gA g)) (F0 m 2 ls []) := by
    intro NN2
    induction NN2 with
    | zero =>
      intro k H locs ls zk hk hm2 hH hS hl
      exact absurd hm2 (by omega)
    | succ NN2 ih2 =>
      intro k H locs ls zk hk hm2 hH hS hl
      refine lv_iload_n F.1 F.2.1 dX0_holds_2 rfl (lv_at hl 0 rfl) ?_
      refine lv_aload_n F.1 F.2.1 dX0_holds_3 rfl (lv_at hl 1 rfl) ?_
      refine g_getI (ci := 0) (k := 8) F hH rfl (by decide) iX0 ha (by decide) rfl k34 dX0_holds_4 ?_
      have b_2 := gI_line hv ha
      unfold vLineI at b_2
      refine z_icmp_ge (tgt := 128) F dX0_holds_7 (by decide) zk (zr_t _) (fun c_3 => ?_) (fun c_3 => ?_)
      · refine z_iconst F dX0_holds_128 ?_
        exact g_zret F hr hlk hH hS hz (by omega) ⟨rfl, rfl, rfl, rfl, rfl, rfl, by first | omega | rfl | (dsimp only; omega)⟩ dX0_holds_129
      · refine lv_iload_n F.1 F.2.1 dX0_holds_10 rfl (lv_at hl 0 rfl) ?_
        refine z_iconst F dX0_holds_11 ?_
        refine z_imul F dX0_holds_12 ?_
        refine lv_istore (lv' := [(4, .int (iI (k * 4))), (3, .int (iI k)), (0, .ref a), (1, .ref o), (2, .int (iI fr))]) F.1 F.2.1 dX0_holds_13 hl (by decide) rfl (fun ls hl => ?_)
        refine lv_aload_n F.1 F.2.1 dX0_holds_15 rfl (lv_at hl 3 rfl) ?_
        refine lv_iload_n F.1 F.2.1 dX0_holds_16 rfl (lv_at hl 4 rfl) ?_
        refine lv_aload_n F.1 F.2.1 dX0_holds_17 rfl (lv_at hl 2 rfl) ?_
        obtain ⟨r_4a, r_4b⟩ := gR_parts hv ha
        refine g_getR (ci := 0) (k := 7) F hH rfl (by decide) iX0 ha (by decide) rfl (b := gh 3 a) r_4a k11 dX0_holds_18 ?_
        refine lv_iload F.1 F.2.1 dX0_holds_21 (lv_at hl 0 rfl) ?_
        have hx23 : 0 ≤ (k * 4) ∧ (k * 4) < ((32 : Nat) : Int) ∧ (k * 4) ≤ 2147483647 := ⟨by omega, by omega, by omega⟩
        refine g_iald F hH r_4b hx23.1 hx23.2.1 hx23.2.2 dX0_holds_23 ?_
        refine z_name (fun v_5 ev_5 => ?_)
        have zv_5 : zr v_5 := by rw [ev_5]; exact zr_t _
        have qa := (gP_line hv ha).1 hkd k.toNat (by omega)
        rw [show 4 * k.toNat = (k * 4).toNat from by omega, show (k * 4).toNat + 2 = ((k * 4) + 2).toNat from by omega, ← ev_5] at qa
        refine z_iadd F dX0_holds_24 ?_
        have hx25 : 0 ≤ (fr + v_5) ∧ (fr + v_5) < ((n : Nat) : Int) ∧ (fr + v_5) ≤ 2147483647 := ⟨by omega, by omega, by omega⟩
        refine g_iald F hH ho hx25.1 hx25.2.1 hx25.2.2 dX0_holds_25 ?_
        refine z_name (fun v_6 ev_6 => ?_)
        have zv_6 : zr v_6 := by rw [ev_6]; exact zr_t _
        refine lv_istore (lv' := [(5, .int (iI v_6)), (4, .int (iI (k * 4))), (3, .int (iI k)), (0, .ref a), (1, .ref o), (2, .int (iI fr))]) F.1 F.2.1 dX0_holds_26 hl (by decide) rfl (fun ls hl => ?_)
        have cut_66_6 : ∀ (ov : Int) (H : Heap) (locs : List Loc) (ls : Array Slot), zr ov → gH g I R J AI AJ AR H → va_S (gA g) s.heap H locs → lv_has ls 8 [(5, .int (iI v_6)), (4, .int (iI (k * 4))), (3, .int (iI k)), (0, .ref a), (1, .ref o), (2, .int (iI fr))] → W p l e rmX0_holds s m ([.ref a, .ref o, .int (iI fr)] : List Value).toArray below meth c H locs 0 0 (MQ below (gQi g (fun (z : Int) (w : gS) => I = w.1 ∧ R = w.2.1 ∧ J = w.2.2.1 ∧ AI = w.2.2.2.1 ∧ AJ = w.2.2.2.2.1 ∧ AR = w.2.2.2.2.2 ∧ (z = 0 ∨ z = 1))) ([.ref a, .ref o, .int (iI fr)] : List Value).toArray s 0 0 (gA g)) (F0 m 66 ls [.int (iI ov)]) := by
          intro ov H locs ls zov hH hS hl
          refine lv_istore (lv' := [(6, .int (iI ov)), (5, .int (iI v_6)), (4, .int (iI (k * 4))), (3, .int (iI k)), (0, .ref a), (1, .ref o), (2, .int (iI fr))]) F.1 F.2.1 dX0_holds_66 hl (by decide) rfl (fun ls hl => ?_)
          refine lv_aload_n F.1 F.2.1 dX0_holds_68 rfl (lv_at hl 4 rfl) ?_
          refine g_getR (ci := 0) (k := 7) F hH rfl (by decide) iX0 ha (by decide) rfl (b := gh 3 a) r_4a k11 dX0_holds_69 ?_
          refine lv_iload F.1 F.2.1 dX0_holds_72 (lv_at hl 2 rfl) ?_
          refine z_iconst F dX0_holds_74 ?_
          refine z_iadd F dX0_holds_75 ?_
          have hx76 : 0 ≤ ((k * 4) + 1) ∧ ((k * 4) + 1) < ((32 : Nat) : Int) ∧ ((k * 4) + 1) ≤ 2147483647 := ⟨by omega, by omega, by omega⟩
          refine g_iald F hH r_4b hx76.1 hx76.2.1 hx76.2.2 dX0_holds_76 ?_
          refine z_name (fun v_8 ev_8 => ?_)
          have zv_8 : zr v_8 := by rw [ev_8]; exact zr_t _
          refine lv_istore (lv' := [(7, .int (iI v_8)), (6, .int (iI ov)), (5, .int (iI v_6)), (4, .int (iI (k * 4))), (3, .int (iI k)), (0, .ref a), (1, .ref o), (2, .int (iI fr))]) F.1 F.2.1 dX0_holds_77 hl (by decide) rfl (fun ls hl => ?_)
          refine lv_iload F.1 F.2.1 dX0_holds_79 (lv_at hl 0 rfl) ?_
          refine z_bipush F dX0_holds_81 (by decide) ?_
          refine z_icmp_ne (tgt := 96) F dX0_holds_83 (by decide) zv_8 ⟨by decide, by decide⟩ (fun c_9 => ?_) (fun c_9 => ?_)
          · refine lv_iload F.1 F.2.1 dX0_holds_96 (lv_at hl 0 rfl) ?_
            refine z_bipush F dX0_holds_98 (by decide) ?_
            refine z_icmp_ne (tgt := 113) F dX0_holds_100 (by decide) zv_8 ⟨by decide, by decide⟩ (fun c_10 => ?_) (fun c_10 => ?_)
            · refine lv_iload F.1 F.2.1 dX0_holds_113 (lv_at hl 2 rfl) ?_
              refine lv_iload F.1 F.2.1 dX0_holds_115 (lv_at hl 1 rfl) ?_
              refine z_icmp_gt (tgt := 122) F dX0_holds_117 (by decide) zv_6 zov (fun c_11 => ?_) (fun c_11 => ?_)
              · refine z_iinc (lv' := [(3, .int (iI (k + 1))), (7, .int (iI v_8)), (6, .int (iI ov)), (5, .int (iI v_6)), (4, .int (iI (k * 4))), (0, .ref a), (1, .ref o), (2, .int (iI fr))]) F dX0_holds_122 hl (k := 4) rfl (by decide) rfl (fun ls hl => ?_)
                refine z_goto (tgt := 2) F dX0_holds_125 (by decide) ?_
                exact ih2 (k + 1) H locs ls ⟨by omega, by omega⟩ (by omega) (by omega) hH hS (lv_sub hl [0, 5, 6, 7] rfl)
              · refine z_iconst F dX0_holds_120 ?_
                exact g_zret F hr hlk hH hS hz (by omega) ⟨rfl, rfl, rfl, rfl, rfl, rfl, by first | omega | rfl | (dsimp only; omega)⟩ dX0_holds_121
            · refine lv_iload F.1 F.2.1 dX0_holds_103 (lv_at hl 2 rfl) ?_
              refine lv_iload F.1 F.2.1 dX0_holds_105 (lv_at hl 1 rfl) ?_
              refine z_icmp_lt (tgt := 122) F dX0_holds_107 (by decide) zv_6 zov (fun c_12 => ?_) (fun c_12 => ?_)
              · refine z_iinc (lv' := [(3, .int (iI (k + 1))), (7, .int (iI v_8)), (6, .int (iI ov)), (5, .int (iI v_6)), (4, .int (iI (k * 4))), (0, .ref a), (1, .ref o), (2, .int (iI fr))]) F dX0_holds_122 hl (k := 4) rfl (by decide) rfl (fun ls hl => ?_)
                refine z_goto (tgt := 2) F dX0_holds_125 (by decide) ?_
                exact ih2 (k + 1) H locs ls ⟨by omega, by omega⟩ (by omega) (by omega) hH hS (lv_sub hl [0, 5, 6, 7] rfl)
              · refine z_goto (tgt := 120) F dX0_holds_110 (by decide) ?_
                refine z_iconst F dX0_holds_120 ?_
                exact g_zret F hr hlk hH hS hz (by omega) ⟨rfl, rfl, rfl, rfl, rfl, rfl, by first | omega | rfl | (dsimp only; omega)⟩ dX0_holds_121
          · refine lv_iload F.1 F.2.1 dX0_holds_86 (lv_at hl 2 rfl) ?_
            refine lv_iload F.1 F.2.1 dX0_holds_88 (lv_at hl 1 rfl) ?_
            refine z_icmp_eq (tgt := 122) F dX0_holds_90 (by decide) zv_6 zov (fun c_13 => ?_) (fun c_13 => ?_)
            · refine z_iinc (lv' := [(3, .int (iI (k + 1))), (7, .int (iI v_8)), (6, .int (iI ov)), (5, .int (iI v_6)), (4, .int (iI (k * 4))), (0, .ref a), (1, .ref o), (2, .int (iI fr))]) F dX0_holds_122 hl (k := 4) rfl (by decide) rfl (fun ls hl => ?_)
              refine z_goto (tgt := 2) F dX0_holds_125 (by decide) ?_
              exact ih2 (k + 1) H locs ls ⟨by omega, by omega⟩ (by omega) (by omega) hH hS (lv_sub hl [0, 5, 6, 7] rfl)
            · refine z_goto (tgt := 120) F dX0_holds_93 (by decide) ?_
              refine z_iconst F dX0_holds_120 ?_
              exact g_zret F hr hlk hH hS hz (by omega) ⟨rfl, rfl, rfl, rfl, rfl, rfl, by first | omega | rfl | (dsimp only; omega)⟩ dX0_holds_121
        refine lv_aload_n F.1 F.2.1 dX0_holds_28 rfl (lv_at hl 3 rfl) ?_
        refine g_getR (ci := 0) (k := 7) F hH rfl (by decide) iX0 ha (by decide) rfl (b := gh 3 a) r_4a k11 dX0_holds_29 ?_
        refine lv_iload F.1 F.2.1 dX0_holds_32 (lv_at hl 1 rfl) ?_
        refine z_iconst F dX0_holds_34 ?_
        refine z_iadd F dX0_holds_35 ?_
        have hx36 : 0 ≤ ((k * 4) + 2) ∧ ((k * 4) + 2) < ((32 : Nat) : Int) ∧ ((k * 4) + 2) ≤ 2147483647 := ⟨by omega, by omega, by omega⟩
        refine g_iald F hH r_4b hx36.1 hx36.2.1 hx36.2.2 dX0_holds_36 ?_
        refine z_name (fun v_14 ev_14 => ?_)
        have zv_14 : zr v_14 := by rw [ev_14]; exact zr_t _
        rw [← ev_14] at qa
        refine z_iconst F dX0_holds_37 ?_
        refine z_icmp_ne (tgt := 53) F dX0_holds_38 (by decide) zv_14 ⟨by decide, by decide⟩ (fun c_15 => ?_) (fun c_15 => ?_)
        · refine lv_aload_n F.1 F.2.1 dX0_holds_53 rfl (lv_at hl 4 rfl) ?_
          refine lv_iload_n F.1 F.2.1 dX0_holds_54 rfl (lv_at hl 5 rfl) ?_
          refine lv_aload_n F.1 F.2.1 dX0_holds_55 rfl (lv_at hl 3 rfl) ?_
          refine g_getR (ci := 0) (k := 7) F hH rfl (by decide) iX0 ha (by decide) rfl (b := gh 3 a) r_4a k11 dX0_holds_56 ?_
          refine lv_iload F.1 F.2.1 dX0_holds_59 (lv_at hl 1 rfl) ?_
          refine z_iconst F dX0_holds_61 ?_
          refine z_iadd F dX0_holds_62 ?_
          have hx63 : 0 ≤ ((k * 4) + 2) ∧ ((k * 4) + 2) < ((32 : Nat) : Int) ∧ ((k * 4) + 2) ≤ 2147483647 := ⟨by omega, by omega, by omega⟩
          refine g_iald F hH r_4b hx63.1 hx63.2.1 hx63.2.2 dX0_holds_63 ?_
          refine z_name (fun v_16 ev_16 => ?_)
          have zv_16 : zr v_16 := by rw [ev_16]; exact zr_t _
          have qb := (gP_line hv ha).1 hkd k.toNat (by omega)
          rw [show 4 * k.toNat = (k * 4).toNat from by omega, show (k * 4).toNat + 2 = ((k * 4) + 2).toNat from by omega, ← ev_16] at qb
          refine z_iadd F dX0_holds_64 ?_
          have hx65 : 0 ≤ (fr + v_16) ∧ (fr + v_16) < ((n : Nat) : Int) ∧ (fr + v_16) ≤ 2147483647 := ⟨by omega, by omega, by omega⟩
          refine g_iald F hH ho hx65.1 hx65.2.1 hx65.2.2 dX0_holds_65 ?_
          refine z_name (fun v_17 ev_17 => ?_)
          have zv_17 : zr v_17 := by rw [ev_17]; exact zr_t _
          exact cut_66_6 v_17 H locs ls zv_17 hH hS (lv_sub hl [0, 1, 2, 3, 4, 5] rfl)
        · refine lv_aload_n F.1 F.2.1 dX0_holds_41 rfl (lv_at hl 3 rfl) ?_
          refine g_getR (ci := 0) (k := 7) F hH rfl (by decide) iX0 ha (by decide) rfl (b := gh 3 a) r_4a k11 dX0_holds_42 ?_
          refine lv_iload F.1 F.2.1 dX0_holds_45 (lv_at hl 1 rfl) ?_
          refine z_iconst F dX0_holds_47 ?_
          refine z_iadd F dX0_holds_48 ?_
          have hx49 : 0 ≤ ((k * 4) + 3) ∧ ((k * 4) + 3) < ((32 : Nat) : Int) ∧ ((k * 4) + 3) ≤ 2147483647 := ⟨by omega, by omega, by omega⟩
          refine g_iald F hH r_4b hx49.1 hx49.2.1 hx49.2.2 dX0_holds_49 ?_
          refine z_name (fun v_18 ev_18 => ?_)
          have zv_18 : zr v_18 := by rw [ev_18]; exact zr_t _
          refine z_goto (tgt := 66) F dX0_holds_50 (by decide) ?_
          exact cut_66_6 v_18 H locs ls zv_18 hH hS (lv_sub hl [0, 1, 2, 3, 4, 5] rfl)
  exact cut_2_0 (((8 - 0) + 1 : Int).toNat) 0 H locs ls ⟨by decide, by decide⟩ (by omega) (by omega) hH hS (lv_sub hl [0, 1, 2, 3] rfl)

def rmX0_fillTerms : Room := { frames := 0, cells := 0, slots := 0, locals := 0 }
theorem hdX0_fillTerms : yX0_fillTerms.cls = RX0 ∧ yX0_fillTerms.cls ≠ "java/lang/invoke/MethodHandle" ∧ yX0_fillTerms.cls ≠ "java/lang/invoke/VarHandle" ∧ (parseMethodDescriptor yX0_fillTerms.desc).map (fun d => d.parameters.length) = some 3 := by decide +kernel
set_option maxHeartbeats 4000000 in
set_option maxRecDepth 100000 in
/-- the terms -/
theorem c_X0_fillTerms (l : Launch) (g : gG) (gh : gGh) (n : Nat) (I : gI) (R : gR) (J : gJ) (AI : gI) (AJ : gJ) (AR : gR) (a : Nat) (o : Nat) (fr : Int) (k : Nat) (zfr : zr fr) (hv : gInv g gh R AR I AI) (ha : gO g a 0) (ho : gAr g o 9 n) (hkd : (I a 0).toInt = 0 ∨ (I a 0).toInt = 2 ∨ (I a 0).toInt = 8) (hn : n ≤ 1440) (h2 : 0 ≤ fr) (h3 : fr + 4 ≤ (n : Int)) (hk : gAr g k 9 5) (hk0 : gh 9 k = 0) : gMet l g yX0_fillTerms wsX0_fillTerms rmX0_fillTerms [.ref a, .ref o, .int (iI fr), .ref k] (I, R, J, AI, AJ, AR) (gQv g (fun w : gS => I = w.1 ∧ R = w.2.1 ∧ J = w.2.2.1 ∧ AJ = w.2.2.2.2.1 ∧ AR = w.2.2.2.2.2 ∧ (gInv g gh R AR I (w.2.2.2.1)) ∧ (∀ b, b ≠ k → (w.2.2.2.1) b = AI b))) := by
  refine gStart (cc := cX0_fillTerms) (maxL := 6) (ret := none) (by decide) rfl (Nat.le_of_ble_eq_true rfl) ?_
  intro p e s m below meth c ls F hr hlk hH hz hS hl
  have hl : lv_has ls 6 [(0, .ref a), (1, .ref o), (2, .int (iI fr)), (3, .ref k)] := hl
  have hS : va_S (gA g) s.heap s.heap [] := hS
  obtain ⟨H, hHe⟩ : ∃ H : Heap, H = s.heap := ⟨_, rfl⟩
  obtain ⟨locs, hlo⟩ : ∃ k : List Loc, k = [] := ⟨_, rfl⟩
  have hH : gH g I R J AI AJ AR H := by rw [hHe]; exact hH
  have hS : va_S (gA g) s.heap H locs := by rw [hHe, hlo]; exact hS
  suffices hw : W p l e rmX0_fillTerms s m ([.ref a, .ref o, .int (iI fr), .ref k] : List Value).toArray below meth c H locs 0 0 (MQ below (gQv g (fun w : gS => I = w.1 ∧ R = w.2.1 ∧ J = w.2.2.1 ∧ AJ = w.2.2.2.2.1 ∧ AR = w.2.2.2.2.2 ∧ (gInv g gh R AR I (w.2.2.2.1)) ∧ (∀ b, b ≠ k → (w.2.2.2.1) b = AI b))) ([.ref a, .ref o, .int (iI fr), .ref k] : List Value).toArray s 0 0 (gA g)) (F0 m 0 ls []) by
    rw [hHe, hlo] at hw; exact hw
  clear hHe hlo
  have iX0 : ∀ w ∈ u_ws RX0 TX0 15, w ∈ wsX0_fillTerms := (by decide +kernel)
  have k34 : Cond.fieldLink RX0 34 (TX0 8).1 (TX0 8).2.1 (TX0 8).2.2.1 ∈ wsX0_fillTerms := List.mem_of_getElem? (i := 1) rfl
  have k11 : Cond.fieldLink RX0 11 (TX0 7).1 (TX0 7).2.1 (TX0 7).2.2.1 ∈ wsX0_fillTerms := List.mem_of_getElem? (i := 2) rfl
  refine z_iconst F dX0_fillTerms_0 ?_
  refine lv_istore (lv' := [(4, .int (iI 0)), (0, .ref a), (1, .ref o), (2, .int (iI fr)), (3, .ref k)]) F.1 F.2.1 dX0_fillTerms_1 hl (by decide) rfl (fun ls hl => ?_)
  have cut_3_1 : ∀ (NN : Nat) (i : Int) (AI_1 : gI) (H : Heap) (locs : List Loc) (ls : Array Slot), zr i → (gInv g gh R AR I AI_1) → (∀ b, b ≠ k → AI_1 b = AI b) → (0 ≤ i ∧ i ≤ 8) → (8 - i) < ((NN : Nat) : Int) → gH g I R J AI_1 AJ AR H → va_S (gA g) s.heap H locs → lv_has ls 6 [(4, .int (iI i)), (0, .ref a), (1, .ref o), (2, .int (iI fr)), (3, .ref k)] → W p l e rmX0_fillTerms s m ([.ref a, .ref o, .int (iI fr), .ref k] : List Value).toArray below meth c H locs 0 0 (MQ below (gQv g (fun w : gS => I = w.1 ∧ R = w.2.1 ∧ J = w.2.2.1 ∧ AJ = w.2.2.2.2.1 ∧ AR = w.2.2.2.2.2 ∧ (gInv g gh R AR I (w.2.2.2.1)) ∧ (∀ b, b ≠ k → (w.2.2.2.1) b = AI b))) ([.ref a, .ref o, .int (iI fr), .ref k] : List Value).toArray s 0 0 (gA g)) (F0 m 3 ls []) := by
    intro NN3
    induction NN3 with
    | zero =>
      intro i AI_1 H locs ls zi hv fA hi hm3 hH hS hl
      exact absurd hm3 (by omega)
    | succ NN3 ih3 =>
      intro i AI_1 H locs ls zi hv fA hi hm3 hH hS hl
      refine lv_iload F.1 F.2.1 dX0_fillTerms_3 (lv_at hl 0 rfl) ?_
      refine lv_aload_n F.1 F.2.1 dX0_fillTerms_5 rfl (lv_at hl 1 rfl) ?_
      refine g_getI (ci := 0) (k := 8) F hH rfl (by decide) iX0 ha (by decide) rfl k34 dX0_fillTerms_6 ?_
      have b_3 := gI_line hv ha
      unfold vLineI at b_3
      refine z_icmp_ge (tgt := 61) F dX0_fillTerms_9 (by decide) zi (zr_t _) (fun c_4 => ?_) (fun c_4 => ?_)
      · exact g_vret F hr hlk hH hS hz ⟨rfl, rfl, rfl, rfl, rfl, hv, fun b hb => fA b hb⟩ dX0_fillTerms_61
      · refine lv_aload_n F.1 F.2.1 dX0_fillTerms_12 rfl (lv_at hl 1 rfl) ?_
        obtain ⟨r_5a, r_5b⟩ := gR_parts hv ha
        refine g_getR (ci := 0) (k := 7) F hH rfl (by decide) iX0 ha (by decide) rfl (b := gh 3 a) r_5a k11 dX0_fillTerms_13 ?_
        refine z_iconst F dX0_fillTerms_16 ?_
        refine lv_iload F.1 F.2.1 dX0_fillTerms_17 (lv_at hl 0 rfl) ?_
        refine z_imul F dX0_fillTerms_19 ?_
        have hx20 : 0 ≤ (2 * i) ∧ (2 * i) < ((32 : Nat) : Int) ∧ (2 * i) ≤ 2147483647 := ⟨by omega, by omega, by omega⟩
        refine g_iald F hH r_5b hx20.1 hx20.2.1 hx20.2.2 dX0_fillTerms_20 ?_
        refine z_name (fun v_6 ev_6 => ?_)
        have zv_6 : zr v_6 := by rw [ev_6]; exact zr_t _
        have qp := (gP_line hv ha).2.1 hkd
        have qa := qp.2 i.toNat (by omega)
        rw [show 2 * i.toNat = (2 * i).toNat from by omega, ← ev_6] at qa
        refine lv_istore (lv' := [(5, .int (iI v_6)), (4, .int (iI i)), (0, .ref a), (1, .ref o), (2, .int (iI fr)), (3, .ref k)]) F.1 F.2.1 dX0_fillTerms_21 hl (by decide) rfl (fun ls hl => ?_)
        refine lv_aload_n F.1 F.2.1 dX0_fillTerms_23 rfl (lv_at hl 5 rfl) ?_
        refine lv_iload F.1 F.2.1 dX0_fillTerms_24 (lv_at hl 1 rfl) ?_
        have cut_42_6 : ∀ (tv : Int) (H : Heap) (locs : List Loc) (ls : Array Slot), zr tv → gH g I R J AI_1 AJ AR H → va_S (gA g) s.heap H locs → lv_has ls 6 [(5, .int (iI v_6)), (4, .int (iI i)), (0, .ref a), (1, .ref o), (2, .int (iI fr)), (3, .ref k)] → W p l e rmX0_fillTerms s m ([.ref a, .ref o, .int (iI fr), .ref k] : List Value).toArray below meth c H locs 0 0 (MQ below (gQv g (fun w : gS => I = w.1 ∧ R = w.2.1 ∧ J = w.2.2.1 ∧ AJ = w.2.2.2.2.1 ∧ AR = w.2.2.2.2.2 ∧ (gInv g gh R AR I (w.2.2.2.1)) ∧ (∀ b, b ≠ k → (w.2.2.2.1) b = AI b))) ([.ref a, .ref o, .int (iI fr), .ref k] : List Value).toArray s 0 0 (gA g)) (F0 m 42 ls [.int (iI tv), .int (iI i), .ref k]) := by
          intro tv H locs ls ztv hH hS hl
          refine lv_aload_n F.1 F.2.1 dX0_fillTerms_42 rfl (lv_at hl 2 rfl) ?_
          refine g_getR (ci := 0) (k := 7) F hH rfl (by decide) iX0 ha (by decide) rfl (b := gh 3 a) r_5a k11 dX0_fillTerms_43 ?_
          refine z_iconst F dX0_fillTerms_46 ?_
          refine lv_iload F.1 F.2.1 dX0_fillTerms_47 (lv_at hl 1 rfl) ?_
          refine z_imul F dX0_fillTerms_49 ?_
          refine z_iconst F dX0_fillTerms_50 ?_
          refine z_iadd F dX0_fillTerms_51 ?_
          have hx52 : 0 ≤ ((2 * i) + 1) ∧ ((2 * i) + 1) < ((32 : Nat) : Int) ∧ ((2 * i) + 1) ≤ 2147483647 := ⟨by omega, by omega, by omega⟩
          refine g_iald F hH r_5b hx52.1 hx52.2.1 hx52.2.2 dX0_fillTerms_52 ?_
          refine z_name (fun v_8 ev_8 => ?_)
          have zv_8 : zr v_8 := by rw [ev_8]; exact zr_t _
          refine z_iadd F dX0_fillTerms_53 ?_
          refine z_norm (fun v_9 zv_9 ev_9 => ?_)
          have hx54 : 0 ≤ i ∧ i < ((5 : Nat) : Int) ∧ i ≤ 2147483647 := ⟨by omega, by omega, by omega⟩
          refine g_iast F hH hS hk hx54.1 hx54.2.1 hx54.2.2 dX0_fillTerms_54 (fun H locs hH hS => ?_)
          obtain ⟨AI_10, eAI_10⟩ : ∃ qQ, qQ = gup2 AI_1 k (i).toNat (iI (v_9)) := ⟨_, rfl⟩
          rw [← eAI_10] at hH
          have kAI_10 : ∀ b, b ≠ k → AI_10 b = AI_1 b := fun b hb => by rw [eAI_10]; exact funext fun j => gup2_a _ _ hb
          have hv : gInv g gh R AR I AI_10 := gInv_plain hv hk0 kAI_10
          refine z_iinc (lv' := [(4, .int (iI (i + 1))), (5, .int (iI v_6)), (0, .ref a), (1, .ref o), (2, .int (iI fr)), (3, .ref k)]) F dX0_fillTerms_55 hl (k := 1) rfl (by decide) rfl (fun ls hl => ?_)
          refine z_goto (tgt := 3) F dX0_fillTerms_58 (by decide) ?_
          exact ih3 (i + 1) AI_10 H locs ls ⟨by omega, by omega⟩ hv (fun b hb => (kAI_10 b hb).trans (fA b hb)) (by omega) (by omega) hH hS (lv_sub hl [0, 2, 3, 4, 5] rfl)
        refine lv_iload F.1 F.2.1 dX0_fillTerms_26 (lv_at hl 0 rfl) ?_
        refine z_iconst F dX0_fillTerms_28 ?_
        refine z_icmp_ne (tgt := 36) F dX0_fillTerms_29 (by decide) zv_6 ⟨by decide, by decide⟩ (fun c_11 => ?_) (fun c_11 => ?_)
        · refine lv_aload_n F.1 F.2.1 dX0_fillTerms_36 rfl (lv_at hl 3 rfl) ?_
          refine lv_iload_n F.1 F.2.1 dX0_fillTerms_37 rfl (lv_at hl 4 rfl) ?_
          refine lv_iload F.1 F.2.1 dX0_fillTerms_38 (lv_at hl 0 rfl) ?_
          refine z_iadd F dX0_fillTerms_40 ?_
          have hx41 : 0 ≤ (fr + v_6) ∧ (fr + v_6) < ((n : Nat) : Int) ∧ (fr + v_6) ≤ 2147483647 := ⟨by omega, by omega, by omega⟩
          refine g_iald F hH ho hx41.1 hx41.2.1 hx41.2.2 dX0_fillTerms_41 ?_
          refine z_name (fun v_12 ev_12 => ?_)
          have zv_12 : zr v_12 := by rw [ev_12]; exact zr_t _
          exact cut_42_6 v_12 H locs ls zv_12 hH hS (lv_sub hl [0, 1, 2, 3, 4, 5] rfl)
        · refine z_iconst F dX0_fillTerms_32 ?_
          refine z_goto (tgt := 42) F dX0_fillTerms_33 (by decide) ?_
          exact cut_42_6 0 H locs ls ⟨by decide, by decide⟩ hH hS (lv_sub hl [0, 1, 2, 3, 4, 5] rfl)
  exact cut_3_1 (((8 - 0) + 1 : Int).toNat) 0 AI H locs ls ⟨by decide, by decide⟩ hv (fun _ _ => rfl) (by omega) (by omega) hH hS (lv_sub hl [0, 1, 2, 3, 4] rfl)

def rmX0_pairsAreAlike : Room := { frames := 0, cells := 0, slots := 0, locals := 0 }
theorem hdX0_pairsAreAlike : yX0_pairsAreAlike.cls = RX0 ∧ yX0_pairsAreAlike.cls ≠ "java/lang/invoke/MethodHandle" ∧ yX0_pairsAreAlike.cls ≠ "java/lang/invoke/VarHandle" ∧ (parseMethodDescriptor yX0_pairsAreAlike.desc).map (fun d => d.parameters.length) = some 4 := by decide +kernel
set_option maxHeartbeats 4000000 in
set_option maxRecDepth 100000 in
/-- whether the pairs are alike -/
theorem c_X0_pairsAreAlike (l : Launch) (g : gG) (gh : gGh) (n n2 : Nat) (I : gI) (R : gR) (J : gJ) (AI : gI) (AJ : gJ) (AR : gR) (a : Nat) (o : Nat) (fr : Int) (o2 : Nat) (fr2 : Int) (zfr : zr fr) (zfr2 : zr fr2) (hv : gInv g gh R AR I AI) (ha : gO g a 0) (ho : gAr g o 9 n) (hkd : (I a 0).toInt = 3) (hn : n ≤ 1440) (h2 : 0 ≤ fr) (h3 : fr + 4 ≤ (n : Int)) (ho2 : gAr g o2 9 n2) (hn2 : n2 ≤ 1440) (h4 : 0 ≤ fr2) (h5 : fr2 + 4 ≤ (n2 : Int)) : gMet l g yX0_pairsAreAlike wsX0_pairsAreAlike rmX0_pairsAreAlike [.ref a, .ref o, .int (iI fr), .ref o2, .int (iI fr2)] (I, R, J, AI, AJ, AR) (gQi g (fun (z : Int) (w : gS) => I = w.1 ∧ R = w.2.1 ∧ J = w.2.2.1 ∧ AI = w.2.2.2.1 ∧ AJ = w.2.2.2.2.1 ∧ AR = w.2.2.2.2.2 ∧ (z = 0 ∨ z = 1))) := by
  refine gStart (cc := cX0_pairsAreAlike) (maxL := 6) (ret := (some (.boolean))) (by decide) rfl (Nat.le_of_ble_eq_true rfl) ?_
  intro p e s m below meth c ls F hr hlk hH hz hS hl
  have hl : lv_has ls 6 [(0, .ref a), (1, .ref o), (2, .int (iI fr)), (3, .ref o2), (4, .int (iI fr2))] := hl
  have hS : va_S (gA g) s.heap s.heap [] := hS
  obtain ⟨H, hHe⟩ : ∃ H : Heap, H = s.heap := ⟨_, rfl⟩
  obtain ⟨locs, hlo⟩ : ∃ k : List Loc, k = [] := ⟨_, rfl⟩
  have hH : gH g I R J AI AJ AR H := by rw [hHe]; exact hH
  have hS : va_S (gA g) s.heap H locs := by rw [hHe, hlo]; exact hS
  suffices hw : W p l e rmX0_pairsAreAlike s m ([.ref a, .ref o, .int (iI fr), .ref o2, .int (iI fr2)] : List Value).toArray below meth c H locs 0 0 (MQ below (gQi g (fun (z : Int) (w : gS) => I = w.1 ∧ R = w.2.1 ∧ J = w.2.2.1 ∧ AI = w.2.2.2.1 ∧ AJ = w.2.2.2.2.1 ∧ AR = w.2.2.2.2.2 ∧ (z = 0 ∨ z = 1))) ([.ref a, .ref o, .int (iI fr), .ref o2, .int (iI fr2)] : List Value).toArray s 0 0 (gA g)) (F0 m 0 ls []) by
    rw [hHe, hlo] at hw; exact hw
  clear hHe hlo
  have iX0 : ∀ w ∈ u_ws RX0 TX0 15, w ∈ wsX0_pairsAreAlike := (by decide +kernel)
  have k34 : Cond.fieldLink RX0 34 (TX0 8).1 (TX0 8).2.1 (TX0 8).2.2.1 ∈ wsX0_pairsAreAlike := List.mem_of_getElem? (i := 1) rfl
  have k11 : Cond.fieldLink RX0 11 (TX0 7).1 (TX0 7).2.1 (TX0 7).2.2.1 ∈ wsX0_pairsAreAlike := List.mem_of_getElem? (i := 2) rfl
  refine z_iconst F dX0_pairsAreAlike_0 ?_
  refine lv_istore (lv' := [(5, .int (iI 0)), (0, .ref a), (1, .ref o), (2, .int (iI fr)), (3, .ref o2), (4, .int (iI fr2))]) F.1 F.2.1 dX0_pairsAreAlike_1 hl (by decide) rfl (fun ls hl => ?_)
  have cut_3_0 : ∀ (NN : Nat) (i : Int) (H : Heap) (locs : List Loc) (ls : Array Slot), zr i → (0 ≤ i ∧ i ≤ 8) → (8 - i) < ((NN : Nat) : Int) → gH g I R J AI AJ AR H → va_S (gA g) s.heap H locs → lv_has ls 6 [(5, .int (iI i)), (0, .ref a), (1, .ref o), (2, .int (iI fr)), (3, .ref o2), (4, .int (iI fr2))] → W p l e rmX0_pairsAreAlike s m ([.ref a, .ref o, .int (iI fr), .ref o2, .int (iI fr2)] : List Value).toArray below meth c H locs 0 0 (MQ below (gQi g (fun (z : Int) (w : gS) => I = w.1 ∧ R = w.2.1 ∧ J = w.2.2.1 ∧ AI = w.2.2.2.1 ∧ AJ = w.2.2.2.2.1 ∧ AR = w.2.2.2.2.2 ∧ (z = 0 ∨ z = 1))) ([.ref a, .ref o, .int (iI fr), .ref o2, .int (iI fr2)] : List Value).toArray s 0 0 (gA g)) (F0 m 3 ls []) := by
    intro NN3
    induction NN3 with
    | zero =>
      intro i H locs ls zi hi hm3 hH hS hl
      exact absurd hm3 (by omega)
    | succ NN3 ih3 =>
      intro i H locs ls zi hi hm3 hH hS hl
      refine lv_iload F.1 F.2.1 dX0_pairsAreAlike_3 (lv_at hl 0 rfl) ?_
      refine lv_aload_n F.1 F.2.1 dX0_pairsAreAlike_5 rfl (lv_at hl 1 rfl) ?_
      refine g_getI (ci := 0) (k := 8) F hH rfl (by decide) iX0 ha (by decide) rfl k34 dX0_pairsAreAlike_6 ?_
      have b_2 := gI_line hv ha
      unfold vLineI at b_2
      refine z_icmp_ge (tgt := 52) F dX0_pairsAreAlike_9 (by decide) zi (zr_t _) (fun c_3 => ?_) (fun c_3 => ?_)
      · refine z_iconst F dX0_pairsAreAlike_52 ?_
        exact g_zret F hr hlk hH hS hz (by omega) ⟨rfl, rfl, rfl, rfl, rfl, rfl, by first | omega | rfl | (dsimp only; omega)⟩ dX0_pairsAreAlike_53
      · refine lv_aload_n F.1 F.2.1 dX0_pairsAreAlike_12 rfl (lv_at hl 2 rfl) ?_
        refine lv_iload_n F.1 F.2.1 dX0_pairsAreAlike_13 rfl (lv_at hl 3 rfl) ?_
        refine lv_aload_n F.1 F.2.1 dX0_pairsAreAlike_14 rfl (lv_at hl 1 rfl) ?_
        obtain ⟨r_4a, r_4b⟩ := gR_parts hv ha
        refine g_getR (ci := 0) (k := 7) F hH rfl (by decide) iX0 ha (by decide) rfl (b := gh 3 a) r_4a k11 dX0_pairsAreAlike_15 ?_
        refine z_iconst F dX0_pairsAreAlike_18 ?_
        refine lv_iload F.1 F.2.1 dX0_pairsAreAlike_19 (lv_at hl 0 rfl) ?_
        refine z_imul F dX0_pairsAreAlike_21 ?_
        have hx22 : 0 ≤ (2 * i) ∧ (2 * i) < ((32 : Nat) : Int) ∧ (2 * i) ≤ 2147483647 := ⟨by omega, by omega, by omega⟩
        refine g_iald F hH r_4b hx22.1 hx22.2.1 hx22.2.2 dX0_pairsAreAlike_22 ?_
        refine z_name (fun v_5 ev_5 => ?_)
        have zv_5 : zr v_5 := by rw [ev_5]; exact zr_t _
        have qp := (gP_line hv ha).2.2.1 hkd
        have qa := qp.2 i.toNat (by omega)
        rw [show 2 * i.toNat = (2 * i).toNat from by omega, show (2 * i).toNat + 1 = ((2 * i) + 1).toNat from by omega, ← ev_5] at qa
        refine z_iadd F dX0_pairsAreAlike_23 ?_
        have hx24 : 0 ≤ (fr + v_5) ∧ (fr + v_5) < ((n : Nat) : Int) ∧ (fr + v_5) ≤ 2147483647 := ⟨by omega, by omega, by omega⟩
        refine g_iald F hH ho hx24.1 hx24.2.1 hx24.2.2 dX0_pairsAreAlike_24 ?_
        refine z_name (fun v_6 ev_6 => ?_)
        have zv_6 : zr v_6 := by rw [ev_6]; exact zr_t _
        refine lv_aload_n F.1 F.2.1 dX0_pairsAreAlike_25 rfl (lv_at hl 4 rfl) ?_
        refine lv_iload F.1 F.2.1 dX0_pairsAreAlike_26 (lv_at hl 5 rfl) ?_
        refine lv_aload_n F.1 F.2.1 dX0_pairsAreAlike_28 rfl (lv_at hl 1 rfl) ?_
        refine g_getR (ci := 0) (k := 7) F hH rfl (by decide) iX0 ha (by decide) rfl (b := gh 3 a) r_4a k11 dX0_pairsAreAlike_29 ?_
        refine z_iconst F dX0_pairsAreAlike_32 ?_
        refine lv_iload F.1 F.2.1 dX0_pairsAreAlike_33 (lv_at hl 0 rfl) ?_
        refine z_imul F dX0_pairsAreAlike_35 ?_
        refine z_iconst F dX0_pairsAreAlike_36 ?_
        refine z_iadd F dX0_pairsAreAlike_37 ?_
        have hx38 : 0 ≤ ((2 * i) + 1) ∧ ((2 * i) + 1) < ((32 : Nat) : Int) ∧ ((2 * i) + 1) ≤ 2147483647 := ⟨by omega, by omega, by omega⟩
        refine g_iald F hH r_4b hx38.1 hx38.2.1 hx38.2.2 dX0_pairsAreAlike_38 ?_
        refine z_name (fun v_7 ev_7 => ?_)
        have zv_7 : zr v_7 := by rw [ev_7]; exact zr_t _
        rw [← ev_7] at qa
        refine z_iadd F dX0_pairsAreAlike_39 ?_
        have hx40 : 0 ≤ (fr2 + v_7) ∧ (fr2 + v_7) < ((n2 : Nat) : Int) ∧ (fr2 + v_7) ≤ 2147483647 := ⟨by omega, by omega, by omega⟩
        refine g_iald F hH ho2 hx40.1 hx40.2.1 hx40.2.2 dX0_pairsAreAlike_40 ?_
        refine z_name (fun v_8 ev_8 => ?_)
        have zv_8 : zr v_8 := by rw [ev_8]; exact zr_t _
        refine z_icmp_eq (tgt := 46) F dX0_pairsAreAlike_41 (by decide) zv_6 zv_8 (fun c_9 => ?_) (fun c_9 => ?_)
        · refine z_iinc (lv' := [(5, .int (iI (i + 1))), (0, .ref a), (1, .ref o), (2, .int (iI fr)), (3, .ref o2), (4, .int (iI fr2))]) F dX0_pairsAreAlike_46 hl (k := 0) rfl (by decide) rfl (fun ls hl => ?_)
          refine z_goto (tgt := 3) F dX0_pairsAreAlike_49 (by decide) ?_
          exact ih3 (i + 1) H locs ls ⟨by omega, by omega⟩ (by omega) (by omega) hH hS (lv_sub hl [0, 1, 2, 3, 4, 5] rfl)
        · refine z_iconst F dX0_pairsAreAlike_44 ?_
          exact g_zret F hr hlk hH hS hz (by omega) ⟨rfl, rfl, rfl, rfl, rfl, rfl, by first | omega | rfl | (dsimp only; omega)⟩ dX0_pairsAreAlike_45
  exact cut_3_0 (((8 - 0) + 1 : Int).toNat) 0 H locs ls ⟨by decide, by decide⟩ (by omega) (by omega) hH hS (lv_sub hl [0, 1, 2, 3, 4, 5] rfl)

def rmX0_tellsSecond : Room := { frames := 0, cells := 0, slots := 0, locals := 0 }
theorem hdX0_tellsSecond : yX0_tellsSecond.cls = RX0 ∧ yX0_tellsSecond.cls ≠ "java/lang/invoke/MethodHandle" ∧ yX0_tellsSecond.cls ≠ "java/lang/invoke/VarHandle" ∧ (parseMethodDescriptor yX0_tellsSecond.desc).map (fun d => d.parameters.length) = some 1 := by decide +kernel
set_option maxHeartbeats 4000000 in
set_option maxRecDepth 100000 in
/-- whether a pair tells this column -/
theorem c_X0_tellsSecond (l : Launch) (g : gG) (gh : gGh) (I : gI) (R : gR) (J : gJ) (AI : gI) (AJ : gJ) (AR : gR) (a : Nat) (col : Int) (zcol : zr col) (hv : gInv g gh R AR I AI) (ha : gO g a 0) : gMet l g yX0_tellsSecond wsX0_tellsSecond rmX0_tellsSecond [.ref a, .int (iI col)] (I, R, J, AI, AJ, AR) (gQi g (fun (z : Int) (w : gS) => I = w.1 ∧ R = w.2.1 ∧ J = w.2.2.1 ∧ AI = w.2.2.2.1 ∧ AJ = w.2.2.2.2.1 ∧ AR = w.2.2.2.2.2 ∧ (z = 0 ∨ z = 1))) := by
  refine gStart (cc := cX0_tellsSecond) (maxL := 3) (ret := (some (.boolean))) (by decide) rfl (Nat.le_of_ble_eq_true rfl) ?_
  intro p e s m below meth c ls F hr hlk hH hz hS hl
  have hl : lv_has ls 3 [(0, .ref a), (1, .int (iI col))] := hl
  have hS : va_S (gA g) s.heap s.heap [] := hS
  obtain ⟨H, hHe⟩ : ∃ H : Heap, H = s.heap := ⟨_, rfl⟩
  obtain ⟨locs, hlo⟩ : ∃ k : List Loc, k = [] := ⟨_, rfl⟩
  have hH : gH g I R J AI AJ AR H := by rw [hHe]; exact hH
  have hS : va_S (gA g) s.heap H locs := by rw [hHe, hlo]; exact hS
  suffices hw : W p l e rmX0_tellsSecond s m ([.ref a, .int (iI col)] : List Value).toArray below meth c H locs 0 0 (MQ below (gQi g (fun (z : Int) (w : gS) => I = w.1 ∧ R = w.2.1 ∧ J = w.2.2.1 ∧ AI = w.2.2.2.1 ∧ AJ = w.2.2.2.2.1 ∧ AR = w.2.2.2.2.2 ∧ (z = 0 ∨ z = 1))) ([.ref a, .int (iI col)] : List Value).toArray s 0 0 (gA g)) (F0 m 0 ls []) by
    rw [hHe, hlo] at hw; exact hw
  clear hHe hlo
  have iX0 : ∀ w ∈ u_ws RX0 TX0 15, w ∈ wsX0_tellsSecond := (by decide +kernel)
  have k34 : Cond.fieldLink RX0 34 (TX0 8).1 (TX0 8).2.1 (TX0 8).2.2.1 ∈ wsX0_tellsSecond := List.mem_of_getElem? (i := 1) rfl
  have k11 : Cond.fieldLink RX0 11 (TX0 7).1 (TX0 7).2.1 (TX0 7).2.2.1 ∈ wsX0_tellsSecond := List.mem_of_getElem? (i := 2) rfl
  refine z_iconst F dX0_tellsSecond_0 ?_
  refine lv_istore_n (lv' := [(2, .int (iI 0)), (0, .ref a), (1, .int (iI col))]) F.1 F.2.1 dX0_tellsSecond_1 rfl hl (by decide) rfl (fun ls hl => ?_)
  have cut_2_0 : ∀ (NN : Nat) (i : Int) (H : Heap) (locs : List Loc) (ls : Array Slot), zr i → (0 ≤ i ∧ i ≤ 8) → (8 - i) < ((NN : Nat) : Int) → gH g I R J AI AJ AR H → va_S (gA g) s.heap H locs → lv_has ls 3 [(2, .int (iI i)), (0, .ref a), (1, .int (iI col))] → W p l e rmX0_tellsSecond s m ([.ref a, .int (iI col)] : List Value).toArray below meth c H locs 0 0 (MQ below (gQi g (fun (z : Int) (w : gS) => I = w.1 ∧ R = w.2.1 ∧ J = w.2.2.1 ∧ AI = w.2.2.2.1 ∧ AJ = w.2.2.2.2.1 ∧ AR = w.2.2.2.2.2 ∧ (z = 0 ∨ z = 1))) ([.ref a, .int (iI col)] : List Value).toArray s 0 0 (gA g)) (F0 m 2 ls []) := by
    intro NN2
    induction NN2 with
    | zero =>
      intro i H locs ls zi hi hm2 hH hS hl
      exact absurd hm2 (by omega)
    | succ NN2 ih2 =>
      intro i H locs ls zi hi hm2 hH hS hl
      refine lv_iload_n F.1 F.2.1 dX0_tellsSecond_2 rfl (lv_at hl 0 rfl) ?_
      refine lv_aload_n F.1 F.2.1 dX0_tellsSecond_3 rfl (lv_at hl 1 rfl) ?_
      refine g_getI (ci := 0) (k := 8) F hH rfl (by decide) iX0 ha (by decide) rfl k34 dX0_tellsSecond_4 ?_
      have b_2 := gI_line hv ha
      unfold vLineI at b_2
      refine z_icmp_ge (tgt := 32) F dX0_tellsSecond_7 (by decide) zi (zr_t _) (fun c_3 => ?_) (fun c_3 => ?_)
      · refine z_iconst F dX0_tellsSecond_32 ?_
        exact g_zret F hr hlk hH hS hz (by omega) ⟨rfl, rfl, rfl, rfl, rfl, rfl, by first | omega | rfl | (dsimp only; omega)⟩ dX0_tellsSecond_33
      · refine lv_aload_n F.1 F.2.1 dX0_tellsSecond_10 rfl (lv_at hl 1 rfl) ?_
        obtain ⟨r_4a, r_4b⟩ := gR_parts hv ha
        refine g_getR (ci := 0) (k := 7) F hH rfl (by decide) iX0 ha (by decide) rfl (b := gh 3 a) r_4a k11 dX0_tellsSecond_11 ?_
        refine z_iconst F dX0_tellsSecond_14 ?_
        refine lv_iload_n F.1 F.2.1 dX0_tellsSecond_15 rfl (lv_at hl 0 rfl) ?_
        refine z_imul F dX0_tellsSecond_16 ?_
        refine z_iconst F dX0_tellsSecond_17 ?_
        refine z_iadd F dX0_tellsSecond_18 ?_
        have hx19 : 0 ≤ ((2 * i) + 1) ∧ ((2 * i) + 1) < ((32 : Nat) : Int) ∧ ((2 * i) + 1) ≤ 2147483647 := ⟨by omega, by omega, by omega⟩
        refine g_iald F hH r_4b hx19.1 hx19.2.1 hx19.2.2 dX0_tellsSecond_19 ?_
        refine z_name (fun v_5 ev_5 => ?_)
        have zv_5 : zr v_5 := by rw [ev_5]; exact zr_t _
        refine lv_iload_n F.1 F.2.1 dX0_tellsSecond_20 rfl (lv_at hl 2 rfl) ?_
        refine z_icmp_ne (tgt := 26) F dX0_tellsSecond_21 (by decide) zv_5 zcol (fun c_6 => ?_) (fun c_6 => ?_)
        · refine z_iinc (lv' := [(2, .int (iI (i + 1))), (0, .ref a), (1, .int (iI col))]) F dX0_tellsSecond_26 hl (k := 0) rfl (by decide) rfl (fun ls hl => ?_)
          refine z_goto (tgt := 2) F dX0_tellsSecond_29 (by decide) ?_
          exact ih2 (i + 1) H locs ls ⟨by omega, by omega⟩ (by omega) (by omega) hH hS (lv_sub hl [0, 1, 2] rfl)
        · refine z_iconst F dX0_tellsSecond_24 ?_
          exact g_zret F hr hlk hH hS hz (by omega) ⟨rfl, rfl, rfl, rfl, rfl, rfl, by first | omega | rfl | (dsimp only; omega)⟩ dX0_tellsSecond_25
  exact cut_2_0 (((8 - 0) + 1 : Int).toNat) 0 H locs ls ⟨by decide, by decide⟩ (by omega) (by omega) hH hS (lv_sub hl [0, 1, 2] rfl)

theorem hdX0_columnsOfJoin : yX0_columnsOfJoin.cls = RX0 ∧ yX0_columnsOfJoin.cls ≠ "java/lang/invoke/MethodHandle" ∧ yX0_columnsOfJoin.cls ≠ "java/lang/invoke/VarHandle" ∧ (parseMethodDescriptor yX0_columnsOfJoin.desc).map (fun d => d.parameters.length) = some 0 := by decide +kernel
theorem hdX0_hasColumn : yX0_hasColumn.cls = RX0 ∧ yX0_hasColumn.cls ≠ "java/lang/invoke/MethodHandle" ∧ yX0_hasColumn.cls ≠ "java/lang/invoke/VarHandle" ∧ (parseMethodDescriptor yX0_hasColumn.desc).map (fun d => d.parameters.length) = some 1 := by decide +kernel
theorem hdX0_addTest : yX0_addTest.cls = RX0 ∧ yX0_addTest.cls ≠ "java/lang/invoke/MethodHandle" ∧ yX0_addTest.cls ≠ "java/lang/invoke/VarHandle" ∧ (parseMethodDescriptor yX0_addTest.desc).map (fun d => d.parameters.length) = some 4 := by decide +kernel
theorem hdX0_addTwo : yX0_addTwo.cls = RX0 ∧ yX0_addTwo.cls ≠ "java/lang/invoke/MethodHandle" ∧ yX0_addTwo.cls ≠ "java/lang/invoke/VarHandle" ∧ (parseMethodDescriptor yX0_addTwo.desc).map (fun d => d.parameters.length) = some 2 := by decide +kernel
theorem hdX0_addColumn : yX0_addColumn.cls = RX0 ∧ yX0_addColumn.cls ≠ "java/lang/invoke/MethodHandle" ∧ yX0_addColumn.cls ≠ "java/lang/invoke/VarHandle" ∧ (parseMethodDescriptor yX0_addColumn.desc).map (fun d => d.parameters.length) = some 1 := by decide +kernel