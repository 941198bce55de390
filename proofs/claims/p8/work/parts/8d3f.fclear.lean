def rmX0_clearg : Room := { frames := 0, cells := 0, slots := 0, locals := 0 }
set_option maxHeartbeats 4000000 in
set_option maxRecDepth 100000 in
/-- an empty line -/
theorem c_X0_clearg (l : Launch) (g : gG) (gh : gGh) (I : gI) (R : gR) (J : gJ) (AI : gI) (AJ : gJ) (AR : gR) (a : Nat) (kd : Int) (zkd : zr kd) (hv : gInv g gh R AR I AI) (ha : gO g a 0) (h0 : kd = 0) : gMet l g yX0_clear wsX0_clear rmX0_clearg [.ref a, .int (iI kd)] (I, R, J, AI, AJ, AR) (gQv g (fun w : gS => R = w.2.1 ∧ J = w.2.2.1 ∧ AI = w.2.2.2.1 ∧ AJ = w.2.2.2.2.1 ∧ AR = w.2.2.2.2.2 ∧ (gInv g gh R AR (w.1) AI) ∧ (∀ b, b ≠ a → (w.1) b = I b) ∧ (((w.1) a 0).toInt = 0 ∧ ((w.1) a 8).toInt = 0) ∧ (((w.1) a 3).toInt = -1 ∧ ((w.1) a 4).toInt = -1))) := by
  refine gStart (cc := cX0_clear) (maxL := 2) (ret := none) (by decide) rfl (Nat.le_of_ble_eq_true rfl) ?_
  intro p e s m below meth c ls F hr hlk hH hz hS hl
  have hl : lv_has ls 2 [(0, .ref a), (1, .int (iI kd))] := hl
  have hS : va_S (gA g) s.heap s.heap [] := hS
  obtain ⟨H, hHe⟩ : ∃ H : Heap, H = s.heap := ⟨_, rfl⟩
  obtain ⟨locs, hlo⟩ : ∃ k : List Loc, k = [] := ⟨_, rfl⟩
  have hH : gH g I R J AI AJ AR H := by rw [hHe]; exact hH
  have hS : va_S (gA g) s.heap H locs := by rw [hHe, hlo]; exact hS
  suffices hw : W p l e rmX0_clearg s m ([.ref a, .int (iI kd)] : List Value).toArray below meth c H locs 0 0 (MQ below (gQv g (fun w : gS => R = w.2.1 ∧ J = w.2.2.1 ∧ AI = w.2.2.2.1 ∧ AJ = w.2.2.2.2.1 ∧ AR = w.2.2.2.2.2 ∧ (gInv g gh R AR (w.1) AI) ∧ (∀ b, b ≠ a → (w.1) b = I b) ∧ (((w.1) a 0).toInt = 0 ∧ ((w.1) a 8).toInt = 0) ∧ (((w.1) a 3).toInt = -1 ∧ ((w.1) a 4).toInt = -1))) ([.ref a, .int (iI kd)] : List Value).toArray s 0 0 (gA g)) (F0 m 0 ls []) by
    rw [hHe, hlo] at hw; exact hw
  clear hHe hlo
  have iX0 : ∀ w ∈ u_ws RX0 TX0 15, w ∈ wsX0_clear := (by decide +kernel)
  have k15 : Cond.fieldLink RX0 15 (TX0 0).1 (TX0 0).2.1 (TX0 0).2.2.1 ∈ wsX0_clear := List.mem_of_getElem? (i := 1) rfl
  have k19 : Cond.fieldLink RX0 19 (TX0 2).1 (TX0 2).2.1 (TX0 2).2.2.1 ∈ wsX0_clear := List.mem_of_getElem? (i := 2) rfl
  have k22 : Cond.fieldLink RX0 22 (TX0 3).1 (TX0 3).2.1 (TX0 3).2.2.1 ∈ wsX0_clear := List.mem_of_getElem? (i := 3) rfl
  have k25 : Cond.fieldLink RX0 25 (TX0 4).1 (TX0 4).2.1 (TX0 4).2.2.1 ∈ wsX0_clear := List.mem_of_getElem? (i := 4) rfl
  have k28 : Cond.fieldLink RX0 28 (TX0 5).1 (TX0 5).2.1 (TX0 5).2.2.1 ∈ wsX0_clear := List.mem_of_getElem? (i := 5) rfl
  have k31 : Cond.fieldLink RX0 31 (TX0 6).1 (TX0 6).2.1 (TX0 6).2.2.1 ∈ wsX0_clear := List.mem_of_getElem? (i := 6) rfl
  have k34 : Cond.fieldLink RX0 34 (TX0 8).1 (TX0 8).2.1 (TX0 8).2.2.1 ∈ wsX0_clear := List.mem_of_getElem? (i := 7) rfl
  have k37 : Cond.fieldLink RX0 37 (TX0 13).1 (TX0 13).2.1 (TX0 13).2.2.1 ∈ wsX0_clear := List.mem_of_getElem? (i := 8) rfl
  have k40 : Cond.fieldLink RX0 40 (TX0 14).1 (TX0 14).2.1 (TX0 14).2.2.1 ∈ wsX0_clear := List.mem_of_getElem? (i := 9) rfl
  refine lv_aload_n F.1 F.2.1 dX0_clear_0 rfl (lv_at hl 0 rfl) ?_
  refine lv_iload_n F.1 F.2.1 dX0_clear_1 rfl (lv_at hl 1 rfl) ?_
  refine g_putI (ci := 0) (k := 0) F hH hS rfl (by decide) iX0 ha (by decide) tyX0 tyX0_ok nmX0 rfl rfl rfl k15 dX0_clear_2 (fun H locs hH hS => ?_)
  obtain ⟨I_1, eI_1⟩ : ∃ qQ, qQ = gup2 I a 0 (iI (kd)) := ⟨_, rfl⟩
  rw [← eI_1] at hH
  have kI_1 : ∀ b, b ≠ a → I_1 b = I b := fun b hb => by rw [eI_1]; exact funext fun j => gup2_a _ _ hb
  refine lv_aload_n F.1 F.2.1 dX0_clear_5 rfl (lv_at hl 0 rfl) ?_
  refine z_iconst F dX0_clear_6 ?_
  refine g_putI (ci := 0) (k := 2) F hH hS rfl (by decide) iX0 ha (by decide) tyX0 tyX0_ok nmX0 rfl rfl rfl k19 dX0_clear_7 (fun H locs hH hS => ?_)
  obtain ⟨I_2, eI_2⟩ : ∃ qQ, qQ = gup2 I_1 a 2 (iI (0)) := ⟨_, rfl⟩
  rw [← eI_2] at hH
  have kI_2 : ∀ b, b ≠ a → I_2 b = I_1 b := fun b hb => by rw [eI_2]; exact funext fun j => gup2_a _ _ hb
  refine lv_aload_n F.1 F.2.1 dX0_clear_10 rfl (lv_at hl 0 rfl) ?_
  refine z_iconst F dX0_clear_11 ?_
  refine g_putI (ci := 0) (k := 3) F hH hS rfl (by decide) iX0 ha (by decide) tyX0 tyX0_ok nmX0 rfl rfl rfl k22 dX0_clear_12 (fun H locs hH hS => ?_)
  obtain ⟨I_3, eI_3⟩ : ∃ qQ, qQ = gup2 I_2 a 3 (iI ((-1))) := ⟨_, rfl⟩
  rw [← eI_3] at hH
  have kI_3 : ∀ b, b ≠ a → I_3 b = I_2 b := fun b hb => by rw [eI_3]; exact funext fun j => gup2_a _ _ hb
  refine lv_aload_n F.1 F.2.1 dX0_clear_15 rfl (lv_at hl 0 rfl) ?_
  refine z_iconst F dX0_clear_16 ?_
  refine g_putI (ci := 0) (k := 4) F hH hS rfl (by decide) iX0 ha (by decide) tyX0 tyX0_ok nmX0 rfl rfl rfl k25 dX0_clear_17 (fun H locs hH hS => ?_)
  obtain ⟨I_4, eI_4⟩ : ∃ qQ, qQ = gup2 I_3 a 4 (iI ((-1))) := ⟨_, rfl⟩
  rw [← eI_4] at hH
  have kI_4 : ∀ b, b ≠ a → I_4 b = I_3 b := fun b hb => by rw [eI_4]; exact funext fun j => gup2_a _ _ hb
  refine lv_aload_n F.1 F.2.1 dX0_clear_20 rfl (lv_at hl 0 rfl) ?_
  refine z_iconst F dX0_clear_21 ?_
  refine g_putI (ci := 0) (k := 5) F hH hS rfl (by decide) iX0 ha (by decide) tyX0 tyX0_ok nmX0 rfl rfl rfl k28 dX0_clear_22 (fun H locs hH hS => ?_)
  obtain ⟨I_5, eI_5⟩ : ∃ qQ, qQ = gup2 I_4 a 5 (iI (0)) := ⟨_, rfl⟩
  rw [← eI_5] at hH
  have kI_5 : ∀ b, b ≠ a → I_5 b = I_4 b := fun b hb => by rw [eI_5]; exact funext fun j => gup2_a _ _ hb
  refine lv_aload_n F.1 F.2.1 dX0_clear_25 rfl (lv_at hl 0 rfl) ?_
  refine z_iconst F dX0_clear_26 ?_
  refine g_putI (ci := 0) (k := 6) F hH hS rfl (by decide) iX0 ha (by decide) tyX0 tyX0_ok nmX0 rfl rfl rfl k31 dX0_clear_27 (fun H locs hH hS => ?_)
  obtain ⟨I_6, eI_6⟩ : ∃ qQ, qQ = gup2 I_5 a 6 (iI (0)) := ⟨_, rfl⟩
  rw [← eI_6] at hH
  have kI_6 : ∀ b, b ≠ a → I_6 b = I_5 b := fun b hb => by rw [eI_6]; exact funext fun j => gup2_a _ _ hb
  refine lv_aload_n F.1 F.2.1 dX0_clear_30 rfl (lv_at hl 0 rfl) ?_
  refine z_iconst F dX0_clear_31 ?_
  refine g_putI (ci := 0) (k := 8) F hH hS rfl (by decide) iX0 ha (by decide) tyX0 tyX0_ok nmX0 rfl rfl rfl k34 dX0_clear_32 (fun H locs hH hS => ?_)
  obtain ⟨I_7, eI_7⟩ : ∃ qQ, qQ = gup2 I_6 a 8 (iI (0)) := ⟨_, rfl⟩
  rw [← eI_7] at hH
  have kI_7 : ∀ b, b ≠ a → I_7 b = I_6 b := fun b hb => by rw [eI_7]; exact funext fun j => gup2_a _ _ hb
  refine lv_aload_n F.1 F.2.1 dX0_clear_35 rfl (lv_at hl 0 rfl) ?_
  refine z_iconst F dX0_clear_36 ?_
  refine g_putI (ci := 0) (k := 13) F hH hS rfl (by decide) iX0 ha (by decide) tyX0 tyX0_ok nmX0 rfl rfl rfl k37 dX0_clear_37 (fun H locs hH hS => ?_)
  obtain ⟨I_8, eI_8⟩ : ∃ qQ, qQ = gup2 I_7 a 13 (iI (0)) := ⟨_, rfl⟩
  rw [← eI_8] at hH
  have kI_8 : ∀ b, b ≠ a → I_8 b = I_7 b := fun b hb => by rw [eI_8]; exact funext fun j => gup2_a _ _ hb
  refine lv_aload_n F.1 F.2.1 dX0_clear_40 rfl (lv_at hl 0 rfl) ?_
  refine z_iconst F dX0_clear_41 ?_
  refine g_putI (ci := 0) (k := 14) F hH hS rfl (by decide) iX0 ha (by decide) tyX0 tyX0_ok nmX0 rfl rfl rfl k40 dX0_clear_42 (fun H locs hH hS => ?_)
  obtain ⟨I_9, eI_9⟩ : ∃ qQ, qQ = gup2 I_8 a 14 (iI (0)) := ⟨_, rfl⟩
  rw [← eI_9] at hH
  have kI_9 : ∀ b, b ≠ a → I_9 b = I_8 b := fun b hb => by rw [eI_9]; exact funext fun j => gup2_a _ _ hb
  have f0 : I_9 a 0 = iI kd := by simp [eI_9, eI_8, eI_7, eI_6, eI_5, eI_4, eI_3, eI_2, eI_1, gup2]
  have f2 : I_9 a 2 = iI (0) := by simp [eI_9, eI_8, eI_7, eI_6, eI_5, eI_4, eI_3, eI_2, eI_1, gup2]
  have f3 : I_9 a 3 = iI (-1) := by simp [eI_9, eI_8, eI_7, eI_6, eI_5, eI_4, eI_3, eI_2, eI_1, gup2]
  have f4 : I_9 a 4 = iI (-1) := by simp [eI_9, eI_8, eI_7, eI_6, eI_5, eI_4, eI_3, eI_2, eI_1, gup2]
  have f5 : I_9 a 5 = iI (0) := by simp [eI_9, eI_8, eI_7, eI_6, eI_5, eI_4, eI_3, eI_2, eI_1, gup2]
  have f6 : I_9 a 6 = iI (0) := by simp [eI_9, eI_8, eI_7, eI_6, eI_5, eI_4, eI_3, eI_2, eI_1, gup2]
  have f8 : I_9 a 8 = iI (0) := by simp [eI_9, eI_8, eI_7, eI_6, eI_5, eI_4, eI_3, eI_2, eI_1, gup2]
  have f9 : I_9 a 9 = I a 9 := by simp [eI_9, eI_8, eI_7, eI_6, eI_5, eI_4, eI_3, eI_2, eI_1, gup2]
  have f10 : I_9 a 10 = I a 10 := by simp [eI_9, eI_8, eI_7, eI_6, eI_5, eI_4, eI_3, eI_2, eI_1, gup2]
  have f12 : I_9 a 12 = I a 12 := by simp [eI_9, eI_8, eI_7, eI_6, eI_5, eI_4, eI_3, eI_2, eI_1, gup2]
  have hold := gI_line hv ha
  unfold vLineI at hold
  have hv : gInv g gh R AR I_9 AI := by
    refine gInv_line hv ha (fun b hb => ((((((((kI_9 b hb).trans (kI_8 b hb)).trans (kI_7 b hb)).trans (kI_6 b hb)).trans (kI_5 b hb)).trans (kI_4 b hb)).trans (kI_3 b hb)).trans (kI_2 b hb)).trans (kI_1 b hb)) (fun _ _ => rfl) ?_ ?_ ?_
    · unfold vLineI
      rw [f0, f2, f3, f4, f5, f6, f8, f9, f10, f12, h0, iI_val ⟨by decide, by decide⟩, iI_val ⟨by decide, by decide⟩]
      omega
    · rw [f0, f8, h0, iI_val ⟨by decide, by decide⟩]
      exact ⟨fun h => absurd h (by decide), fun _ => ⟨by decide, fun k hk => absurd hk (by omega)⟩, fun h => absurd h (by decide), fun h => absurd h (by decide)⟩
    · intro _
      rw [f2, iI_val ⟨by decide, by decide⟩]
      decide
  exact g_vret F hr hlk hH hS hz ⟨rfl, rfl, rfl, rfl, rfl, hv, fun b hb => ((((((((kI_9 b hb).trans (kI_8 b hb)).trans (kI_7 b hb)).trans (kI_6 b hb)).trans (kI_5 b hb)).trans (kI_4 b hb)).trans (kI_3 b hb)).trans (kI_2 b hb)).trans (kI_1 b hb), by dsimp only; rw [f0, f8, h0, iI_val ⟨by decide, by decide⟩]; exact ⟨rfl, rfl⟩, by dsimp only; rw [f3, f4, iI_val ⟨by decide, by decide⟩]; exact ⟨rfl, rfl⟩⟩ dX0_clear_45
