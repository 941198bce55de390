section
def rmX0_clearg : Room := { frames := 0, cells := 0, slots := 0, locals := 0 }
set_option maxHeartbeats 4000000 in
set_option maxRecDepth 100000 in
/-- an empty line -/
theorem c_X0_clearg (l : Launch) (g : gG) (gh : gGh) (I : gI) (R : gR) (J : gJ) (AI : gI) (AJ : gJ) (AR : gR) (a : Nat) (kd : Int) (zkd : zr kd) (hv : gInv g gh R AR I AI) (ha : gO g a 0) (h0 : kd = 0) : gMet l g yX0_clear wsX0_clear rmX0_clearg [.ref a, .int (iI kd)] (I, R, J, AI, AJ, AR) (gQv g (fun w : gS => R = w.2.1 ∧ J = w.2.2.1 ∧ AI = w.2.2.2.1 ∧ AJ = w.2.2.2.2.1 ∧ AR = w.2.2.2.2.2 ∧ (gInv g gh R AR (w.1) AI) ∧ (∀ b, b ≠ a → (w.1) b = I b) ∧ (((w.1) a 0).toInt = 0 ∧ ((w.1) a 8).toInt = 0) ∧ (((w.1) a 3).toInt = -1 ∧ ((w.1) a 4).toInt = -1))) := by
  refine gStart (cc := cX0_clear) (maxL := 2) (ret := none) (by decide) rfl (Nat.le_of_ble_eq_true rfl) ?_
  intro p e s m below meth c ls F hr hlk hH hz hS hl
  have hl : lv_has ls 2 [(0, .ref a), (1, .int (iI kd))] := hl
  have hS : va_S (gA g) s.heap s.heap [] := hS
  obtain ⟨H, hHe⟩ : ∃ H : Heap, H = s.heap := ⟨_, rfl⟩
  obtain ⟨locs, hlo⟩ : ∃ k : List Loc, k = [] := ⟨_, rfl⟩
  have hH : gH g I R J AI AJ AR H := by rw [hHe]; exact hH
  have hS : va_S (gA g) s.heap H locs := by rw [hHe, hlo]; exact hS
  suffices hw : W p l e rmX0_clearg s m ([.ref a, .int (iI kd)] : List Value).toArray below meth c H locs 0 0 (MQ below (gQv g (fun w : gS => R = w.2.1 ∧ J = w.2.2.1 ∧ AI = w.2.2.2.1 ∧ AJ = w.2.2.2.2.1 ∧ AR = w.2.2.2.2.2 ∧ (gInv g gh R AR (w.1) AI) ∧ (∀ b, b ≠ a → (w.1) b = I b) ∧ (((w.1) a 0).toInt = 0 ∧ ((w.1) a 8).toInt = 0) ∧ (((w.1) a 3).toInt = -1 ∧ ((w.1) a 4).toInt = -1))) ([.ref a, .int (iI kd)] : List Value).toArray s 0 0 (gA g)) (F0 m 0 ls []) by
    rw [hHe, hlo] at hw; exact hw
  clear hHe hlo
  have iX0 : ∀ w ∈ u_ws RX0 TX0 15, w ∈ wsX0_clear := (by decide +kernel)
  have k15 : Cond.fieldLink RX0 15 (TX0 0).1 (TX0 0).2.1 (TX0 0).2.2.1 ∈ wsX0_clear := List.mem_of_getElem? (i := 1) rfl
  have k19 : Cond.fieldLink RX0 19 (TX0 2).1 (TX0 2).2.1 (TX0 2).2.2.1 ∈ wsX0_clear := List.mem_of_getElem? (i := 2) rfl
  have k22 : Cond.fieldLink RX0 22 (TX0 3).1 (TX0 3).2.1 (TX0 3).2.2.1 ∈ wsX0_clear := List.mem_of_getElem? (i := 3) rfl
  have k25 : Cond.fieldLink RX0 25 (TX0 4).1 (TX0 4).2.1 (TX0 4).2.2.1 ∈ wsX0_clear := List.mem_of_getElem? (i := 4) rfl
  have k28 : Cond.fieldLink RX0 28 (TX0 5).1 (TX0 5).2.1 (TX0 5).2.2.1 ∈ wsX0_clear := List.mem_of_getElem? (i := 5) rfl
  have k31 : Cond.fieldLink RX0 31 (TX0 6).1 (TX0 6).2.1 (TX0 6).2.2.1 ∈ wsX0_clear := List.mem_of_getElem? (i := 6) rfl
  have k34 : Cond.fieldLink RX0 34 (TX0 8).1 (TX0 8).2.1 (TX0 8).2.2.1 ∈ wsX0_clear := List.mem_of_getElem? (i := 7) rfl
  have k37 : Cond.fieldLink RX0 37 (TX0 13).1 (TX0 13).2.1 (TX0 13).2.2.1 ∈ wsX0_clear := List.mem_of_getElem? (i := 8) rfl
  have k40 : Cond.fieldLink RX0 40 (TX0 14).1 (TX0 14).2.1 (TX0 14).2.2.1 ∈ wsX0_clear := List.mem_of_getElem? (i := 9) rfl
  refine lv_aload_n F.1 F.2.1 dX0_clear_0 rfl (lv_at hl 0 rfl) ?_
  refine lv_iload_n F.1 F.2.1 dX0_clear_1 rfl (lv_at hl 1 rfl) ?_
  refine g_putI (ci := 0) (k := 0) F hH hS rfl (by decide) iX0 ha (by decide) tyX0 tyX0_ok nmX0 rfl rfl rfl k15 dX0_clear_2 (fun H locs hH hS => ?_)
  obtain ⟨I_1, eI_1⟩ : ∃ qQ, qQ = gup2 I a 0 (iI (kd)) := ⟨_, rfl⟩
  rw [← eI_1] at hH
  have kI_1 : ∀ b, b ≠ a → I_1 b = I b := fun b hb => by rw [eI_1]; exact funext fun j => gup2_a _ _ hb
  refine lv_aload_n F.1 F.2.1 dX0_clear_5 rfl (lv_at hl 0 rfl) ?_
  refine z_iconst F dX0_clear_6 ?_
  refine g_putI (ci := 0) (k := 2) F hH hS rfl (by decide) iX0 ha (by decide) tyX0 tyX0_ok nmX0 rfl rfl rfl k19 dX0_clear_7 (fun H locs hH hS => ?_)
  obtain ⟨I_2, eI_2⟩ : ∃ qQ, qQ = gup2 I_1 a 2 (iI (0)) := ⟨_, rfl⟩
  rw [← eI_2] at hH
  have kI_2 : ∀ b, b ≠ a → I_2 b = I_1 b := fun b hb => by rw [eI_2]; exact funext fun j => gup2_a _ _ hb
  refine lv_aload_n F.1 F.2.1 dX0_clear_10 rfl (lv_at hl 0 rfl) ?_
  refine z_iconst F dX0_clear_11 ?_
  refine g_putI (ci := 0) (k := 3) F hH hS rfl (by decide) iX0 ha (by decide) tyX0 tyX0_ok nmX0 rfl rfl rfl k22 dX0_clear_12 (fun H locs hH hS => ?_)
  obtain ⟨I_3, eI_3⟩ : ∃ qQ, qQ = gup2 I_2 a 3 (iI ((-1))) := ⟨_, rfl⟩
  rw [← eI_3] at hH
  have kI_3 : ∀ b, b ≠ a → I_3 b = I_2 b := fun b hb => by rw [eI_3]; exact funext fun j => gup2_a _ _ hb
  refine lv_aload_n F.1 F.2.1 dX0_clear_15 rfl (lv_at hl 0 rfl) ?_
  refine z_iconst F dX0_clear_16 ?_
  refine g_putI (ci := 0) (k := 4) F hH hS rfl (by decide) iX0 ha (by decide) tyX0 tyX0_ok nmX0 rfl rfl rfl k25 dX0_clear_17 (fun H locs hH hS => ?_)
  obtain ⟨I_4, eI_4⟩ : ∃ qQ, qQ = gup2 I_3 a 4 (iI ((-1))) := ⟨_, rfl⟩
  rw [← eI_4] at hH
  have kI_4 : ∀ b, b ≠ a → I_4 b = I_3 b := fun b hb => by rw [eI_4]; exact funext fun j => gup2_a _ _ hb
  refine lv_aload_n F.1 F.2.1 dX0_clear_20 rfl (lv_at hl 0 rfl) ?_
  refine z_iconst F dX0_clear_21 ?_
  refine g_putI (ci := 0) (k := 5) F hH hS rfl (by decide) iX0 ha (by decide) tyX0 tyX0_ok nmX0 rfl rfl rfl k28 dX0_clear_22 (fun H locs hH hS => ?_)
  obtain ⟨I_5, eI_5⟩ : ∃ qQ, qQ = gup2 I_4 a 5 (iI (0)) := ⟨_, rfl⟩
  rw [← eI_5] at hH
  have kI_5 : ∀ b, b ≠ a → I_5 b = I_4 b := fun b hb => by rw [eI_5]; exact funext fun j => gup2_a _ _ hb
  refine lv_aload_n F.1 F.2.1 dX0_clear_25 rfl (lv_at hl 0 rfl) ?_
  refine z_iconst F dX0_clear_26 ?_
  refine g_putI (ci := 0) (k := 6) F hH hS rfl (by decide) iX0 ha (by decide) tyX0 tyX0_ok nmX0 rfl rfl rfl k31 dX0_clear_27 (fun H locs hH hS => ?_)
  obtain ⟨I_6, eI_6⟩ : ∃ qQ, qQ = gup2 I_5 a 6 (iI (0)) := ⟨_, rfl⟩
  rw [← eI_6] at hH
  have kI_6 : ∀ b, b ≠ a → I_6 b = I_5 b := fun b hb => by rw [eI_6]; exact funext fun j => gup2_a _ _ hb
  refine lv_aload_n F.1 F.2.1 dX0_clear_30 rfl (lv_at hl 0 rfl) ?_
  refine z_iconst F dX0_clear_31 ?_
  refine g_putI (ci := 0) (k := 8) F hH hS rfl (by decide) iX0 ha (by decide) tyX0 tyX0_ok nmX0 rfl rfl rfl k34 dX0_clear_32 (fun H locs hH hS => ?_)
  obtain ⟨I_7, eI_7⟩ : ∃ qQ, qQ = gup2 I_6 a 8 (iI (0)) := ⟨_, rfl⟩
  rw [← eI_7] at hH
  have kI_7 : ∀ b, b ≠ a → I_7 b = I_6 b := fun b hb => by rw [eI_7]; exact funext fun j => gup2_a _ _ hb
  refine lv_aload_n F.1 F.2.1 dX0_clear_35 rfl (lv_at hl 0 rfl) ?_
  refine z_iconst F dX0_clear_36 ?_
  refine g_putI (ci := 0) (k := 13) F hH hS rfl (by decide) iX0 ha (by decide) tyX0 tyX0_ok nmX0 rfl rfl rfl k37 dX0_clear_37 (fun H locs hH hS => ?_)
  obtain ⟨I_8, eI_8⟩ : ∃ qQ, qQ = gup2 I_7 a 13 (iI (0)) := ⟨_, rfl⟩
  rw [← eI_8] at hH
  have kI_8 : ∀ b, b ≠ a → I_8 b = I_7 b := fun b hb => by rw [eI_8]; exact funext fun j => gup2_a _ _ hb
  refine lv_aload_n F.1 F.2.1 dX0_clear_40 rfl (lv_at hl 0 rfl) ?_
  refine z_iconst F dX0_clear_41 ?_
  refine g_putI (ci := 0) (k := 14) F hH hS rfl (by decide) iX0 ha (by decide) tyX0 tyX0_ok nmX0 rfl rfl rfl k40 dX0_clear_42 (fun H locs hH hS => ?_)
  obtain ⟨I_9, eI_9⟩ : ∃ qQ, qQ = gup2 I_8 a 14 (iI (0)) := ⟨_, rfl⟩
  rw [← eI_9] at hH
  have kI_9 : ∀ b, b ≠ a → I_9 b = I_8 b := fun b hb => by rw [eI_9]; exact funext fun j => gup2_a _ _ hb
  have f0 : I_9 a 0 = iI kd := by simp [eI_9, eI_8, eI_7, eI_6, eI_5, eI_4, eI_3, eI_2, eI_1, gup2]
  have f2 : I_9 a 2 = iI (0) := by simp [eI_9, eI_8, eI_7, eI_6, eI_5, eI_4, eI_3, eI_2, eI_1, gup2]
  have f3 : I_9 a 3 = iI (-1) := by simp [eI_9, eI_8, eI_7, eI_6, eI_5, eI_4, eI_3, eI_2, eI_1, gup2]
  have f4 : I_9 a 4 = iI (-1) := by simp [eI_9, eI_8, eI_7, eI_6, eI_5, eI_4, eI_3, eI_2, eI_1, gup2]
  have f5 : I_9 a 5 = iI (0) := by simp [eI_9, eI_8, eI_7, eI_6, eI_5, eI_4, eI_3, eI_2, eI_1, gup2]
  have f6 : I_9 a 6 = iI (0) := by simp [eI_9, eI_8, eI_7, eI_6, eI_5, eI_4, eI_3, eI_2, eI_1, gup2]
  have f8 : I_9 a 8 = iI (0) := by simp [eI_9, eI_8, eI_7, eI_6, eI_5, eI_4, eI_3, eI_2, eI_1, gup2]
  have f9 : I_9 a 9 = I a 9 := by simp [eI_9, eI_8, eI_7, eI_6, eI_5, eI_4, eI_3, eI_2, eI_1, gup2]
  have f10 : I_9 a 10 = I a 10 := by simp [eI_9, eI_8, eI_7, eI_6, eI_5, eI_4, eI_3, eI_2, eI_1, gup2]
  have f12 : I_9 a 12 = I a 12 := by simp [eI_9, eI_8, eI_7, eI_6, eI_5, eI_4, eI_3, eI_2, eI_1, gup2]
  have hold := gI_line hv ha
  unfold vLineI at hold
  have hv : gInv g gh R AR I_9 AI := by
    refine gInv_line hv ha (fun b hb => ((((((((kI_9 b hb).trans (kI_8 b hb)).trans (kI_7 b hb)).trans (kI_6 b hb)).trans (kI_5 b hb)).trans (kI_4 b hb)).trans (kI_3 b hb)).trans (kI_2 b hb)).trans (kI_1 b hb)) (fun _ _ => rfl) ?_ ?_ ?_
    · unfold vLineI
      rw [f0, f2, f3, f4, f5, f6, f8, f9, f10, f12, h0, iI_val ⟨by decide, by decide⟩, iI_val ⟨by decide, by decide⟩]
      omega
    · rw [f0, f8, h0, iI_val ⟨by decide, by decide⟩]
      exact ⟨fun h => absurd h (by decide), fun _ => ⟨by decide, fun k hk => absurd hk (by omega)⟩, fun h => absurd h (by decide), fun h => absurd h (by decide)⟩
    · intro _
      rw [f2, iI_val ⟨by decide, by decide⟩]
      decide
  exact g_vret F hr hlk hH hS hz ⟨rfl, rfl, rfl, rfl, rfl, hv, fun b hb => ((((((((kI_9 b hb).trans (kI_8 b hb)).trans (kI_7 b hb)).trans (kI_6 b hb)).trans (kI_5 b hb)).trans (kI_4 b hb)).trans (kI_3 b hb)).trans (kI_2 b hb)).trans (kI_1 b hb), by dsimp only; rw [f0, f8, h0, iI_val ⟨by decide, by decide⟩]; exact ⟨rfl, rfl⟩, by dsimp only; rw [f3, f4, iI_val ⟨by decide, by decide⟩]; exact ⟨rfl, rfl⟩⟩ dX0_clear_45
end
section
def rmX1_ringIsUnlikeg : Room := { frames := 0, cells := 0, slots := 0, locals := 0 }
set_option maxHeartbeats 4000000 in
set_option maxRecDepth 100000 in
/-- a ring whose columns are unlike -/
theorem c_X1_ringIsUnlikeg (l : Launch) (g : gG) (gh : gGh) (q ln : Nat) (I : gI) (R : gR) (J : gJ) (AI : gI) (AJ : gJ) (AR : gR) (a : Nat) (hv : gInv g gh R AR I AI) (hp : pS g gh R I a q ln) : gMet l g yX1_ringIsUnlike wsX1_ringIsUnlike rmX1_ringIsUnlikeg [.ref a] (I, R, J, AI, AJ, AR) (gQi g (fun (z : Int) (w : gS) => I = w.1 ∧ R = w.2.1 ∧ J = w.2.2.1 ∧ AI = w.2.2.2.1 ∧ AJ = w.2.2.2.2.1 ∧ AR = w.2.2.2.2.2 ∧ (z = 0 ∨ z = 1) ∧ (tIz z (¬ ((I ln 5).toInt + (I ln 6).toInt ≤ 4 ∧ (I ln 8).toInt = (I ln 5).toInt))))) := by
  refine gStart (cc := cX1_ringIsUnlike) (maxL := 1) (ret := (some (.boolean))) (by decide) rfl (Nat.le_of_ble_eq_true rfl) ?_
  intro p e s m below meth c ls F hr hlk hH hz hS hl
  have hl : lv_has ls 1 [(0, .ref a)] := hl
  have hS : va_S (gA g) s.heap s.heap [] := hS
  obtain ⟨H, hHe⟩ : ∃ H : Heap, H = s.heap := ⟨_, rfl⟩
  obtain ⟨locs, hlo⟩ : ∃ k : List Loc, k = [] := ⟨_, rfl⟩
  have hH : gH g I R J AI AJ AR H := by rw [hHe]; exact hH
  have hS : va_S (gA g) s.heap H locs := by rw [hHe, hlo]; exact hS
  suffices hw : W p l e rmX1_ringIsUnlikeg s m ([.ref a] : List Value).toArray below meth c H locs 0 0 (MQ below (gQi g (fun (z : Int) (w : gS) => I = w.1 ∧ R = w.2.1 ∧ J = w.2.2.1 ∧ AI = w.2.2.2.1 ∧ AJ = w.2.2.2.2.1 ∧ AR = w.2.2.2.2.2 ∧ (z = 0 ∨ z = 1) ∧ (tIz z (¬ ((I ln 5).toInt + (I ln 6).toInt ≤ 4 ∧ (I ln 8).toInt = (I ln 5).toInt))))) ([.ref a] : List Value).toArray s 0 0 (gA g)) (F0 m 0 ls []) by
    rw [hHe, hlo] at hw; exact hw
  clear hHe hlo
  have iX1 : ∀ w ∈ u_ws RX1 TX1 4, w ∈ wsX1_ringIsUnlike := (by decide +kernel)
  have iX0 : ∀ w ∈ u_ws RX0 TX0 15, w ∈ wsX1_ringIsUnlike := (by decide +kernel)
  have k29 : Cond.fieldLink RX1 29 (TX1 2).1 (TX1 2).2.1 (TX1 2).2.2.1 ∈ wsX1_ringIsUnlike := List.mem_of_getElem? (i := 1) rfl
  have k143 : Cond.fieldLink RX1 143 (TX0 5).1 (TX0 5).2.1 (TX0 5).2.2.1 ∈ wsX1_ringIsUnlike := List.mem_of_getElem? (i := 2) rfl
  have k146 : Cond.fieldLink RX1 146 (TX0 6).1 (TX0 6).2.1 (TX0 6).2.2.1 ∈ wsX1_ringIsUnlike := List.mem_of_getElem? (i := 3) rfl
  have k149 : Cond.fieldLink RX1 149 (TX0 8).1 (TX0 8).2.1 (TX0 8).2.2.1 ∈ wsX1_ringIsUnlike := List.mem_of_getElem? (i := 4) rfl
  refine lv_aload_n F.1 F.2.1 dX1_ringIsUnlike_0 rfl (lv_at hl 0 rfl) ?_
  refine g_getR (ci := 1) (k := 2) F hH rfl (by decide) iX1 hp.1 (by decide) rfl (b := ln) hp.2.2.2.1 k29 dX1_ringIsUnlike_1 ?_
  refine g_getI (ci := 0) (k := 5) F hH rfl (by decide) iX0 hp.2.2.2.2.1 (by decide) rfl k143 dX1_ringIsUnlike_4 ?_
  have b_1 := gI_line hv hp.2.2.2.2.1
  unfold vLineI at b_1
  refine lv_aload_n F.1 F.2.1 dX1_ringIsUnlike_7 rfl (lv_at hl 0 rfl) ?_
  refine g_getR (ci := 1) (k := 2) F hH rfl (by decide) iX1 hp.1 (by decide) rfl (b := ln) hp.2.2.2.1 k29 dX1_ringIsUnlike_8 ?_
  refine g_getI (ci := 0) (k := 6) F hH rfl (by decide) iX0 hp.2.2.2.2.1 (by decide) rfl k146 dX1_ringIsUnlike_11 ?_
  refine z_iadd F dX1_ringIsUnlike_14 ?_
  refine z_iconst F dX1_ringIsUnlike_15 ?_
  refine z_icmp_gt (tgt := 36) F dX1_ringIsUnlike_16 (by decide) ⟨by omega, by omega⟩ ⟨by decide, by decide⟩ (fun c_2 => ?_) (fun c_2 => ?_)
  · refine z_iconst F dX1_ringIsUnlike_36 ?_
    refine z_goto (tgt := 41) F dX1_ringIsUnlike_37 (by decide) ?_
    exact g_zret F hr hlk hH hS hz (by omega) ⟨rfl, rfl, rfl, rfl, rfl, rfl, by first | omega | rfl | (dsimp only; omega), by first | exact tIz_t (by omega) | exact tIz_f (by omega)⟩ dX1_ringIsUnlike_41
  · refine lv_aload_n F.1 F.2.1 dX1_ringIsUnlike_19 rfl (lv_at hl 0 rfl) ?_
    refine g_getR (ci := 1) (k := 2) F hH rfl (by decide) iX1 hp.1 (by decide) rfl (b := ln) hp.2.2.2.1 k29 dX1_ringIsUnlike_20 ?_
    refine g_getI (ci := 0) (k := 8) F hH rfl (by decide) iX0 hp.2.2.2.2.1 (by decide) rfl k149 dX1_ringIsUnlike_23 ?_
    refine lv_aload_n F.1 F.2.1 dX1_ringIsUnlike_26 rfl (lv_at hl 0 rfl) ?_
    refine g_getR (ci := 1) (k := 2) F hH rfl (by decide) iX1 hp.1 (by decide) rfl (b := ln) hp.2.2.2.1 k29 dX1_ringIsUnlike_27 ?_
    refine g_getI (ci := 0) (k := 5) F hH rfl (by decide) iX0 hp.2.2.2.2.1 (by decide) rfl k143 dX1_ringIsUnlike_30 ?_
    refine z_icmp_eq (tgt := 40) F dX1_ringIsUnlike_33 (by decide) (zr_t _) (zr_t _) (fun c_3 => ?_) (fun c_3 => ?_)
    · refine z_iconst F dX1_ringIsUnlike_40 ?_
      exact g_zret F hr hlk hH hS hz (by omega) ⟨rfl, rfl, rfl, rfl, rfl, rfl, by first | omega | rfl | (dsimp only; omega), by first | exact tIz_t (by omega) | exact tIz_f (by omega)⟩ dX1_ringIsUnlike_41
    · refine z_iconst F dX1_ringIsUnlike_36 ?_
      refine z_goto (tgt := 41) F dX1_ringIsUnlike_37 (by decide) ?_
      exact g_zret F hr hlk hH hS hz (by omega) ⟨rfl, rfl, rfl, rfl, rfl, rfl, by first | omega | rfl | (dsimp only; omega), by first | exact tIz_t (by omega) | exact tIz_f (by omega)⟩ dX1_ringIsUnlike_41

def rmX1_readCloseg : Room := { frames := 1, cells := 0, slots := 0, locals := 21 }
set_option maxHeartbeats 4000000 in
set_option maxRecDepth 100000 in
/-- the end of a line -/
theorem c_X1_readCloseg (l : Launch) (g : gG) (gh : gGh) (q ln : Nat) (x7 : Int) (b : tTx) (n : Nat) (tl : Int) (nr : Nat) (nt : Nat → Nat) (cl : Nat → Int) (h : Nat) (I : gI) (R : gR) (J : gJ) (AI : gI) (AJ : gJ) (AR : gR) (a : Nat) (hv : gInv g gh R AR I AI) (hp : pS g gh R I a q ln) (hP : pH gh AR I J AI AJ a q b n tl nr nt cl h) (hbp : pB (I ln) x7) : gMet l g yX1_readClose wsX1_readClose rmX1_readCloseg [.ref a] (I, R, J, AI, AJ, AR) (gQi g (fun (z : Int) (w : gS) => R = w.2.1 ∧ J = w.2.2.1 ∧ AI = w.2.2.2.1 ∧ AJ = w.2.2.2.2.1 ∧ AR = w.2.2.2.2.2 ∧ (gInv g gh R AR (w.1) AI) ∧ (pS g gh R (w.1) a q ln) ∧ (pF a ln I (w.1)) ∧ (z = 0 → ((w.1) ln 2).toInt ≤ 4) ∧ (0 ≤ z ∧ z ≤ 5) ∧ (z = (sClo b n x7 h).1) ∧ (pH gh AR (w.1) J AI AJ a q b n tl nr nt cl (sClo b n x7 h).2.1) ∧ (pIm z (((w.1) ln 2).toInt) ((sClo b n x7 h).2.2)) ∧ ((w.1) ln = I ln))) := by
  refine gStart (cc := cX1_readClose) (maxL := 1) (ret := (some (.int))) (by decide) rfl (Nat.le_of_ble_eq_true rfl) ?_
  intro p e s m below meth c ls F hr hlk hH hz hS hl
  have hl : lv_has ls 1 [(0, .ref a)] := hl
  have hS : va_S (gA g) s.heap s.heap [] := hS
  obtain ⟨H, hHe⟩ : ∃ H : Heap, H = s.heap := ⟨_, rfl⟩
  obtain ⟨locs, hlo⟩ : ∃ k : List Loc, k = [] := ⟨_, rfl⟩
  have hH : gH g I R J AI AJ AR H := by rw [hHe]; exact hH
  have hS : va_S (gA g) s.heap H locs := by rw [hHe, hlo]; exact hS
  suffices hw : W p l e rmX1_readCloseg s m ([.ref a] : List Value).toArray below meth c H locs 0 0 (MQ below (gQi g (fun (z : Int) (w : gS) => R = w.2.1 ∧ J = w.2.2.1 ∧ AI = w.2.2.2.1 ∧ AJ = w.2.2.2.2.1 ∧ AR = w.2.2.2.2.2 ∧ (gInv g gh R AR (w.1) AI) ∧ (pS g gh R (w.1) a q ln) ∧ (pF a ln I (w.1)) ∧ (z = 0 → ((w.1) ln 2).toInt ≤ 4) ∧ (0 ≤ z ∧ z ≤ 5) ∧ (z = (sClo b n x7 h).1) ∧ (pH gh AR (w.1) J AI AJ a q b n tl nr nt cl (sClo b n x7 h).2.1) ∧ (pIm z (((w.1) ln 2).toInt) ((sClo b n x7 h).2.2)) ∧ ((w.1) ln = I ln))) ([.ref a] : List Value).toArray s 0 0 (gA g)) (F0 m 0 ls []) by
    rw [hHe, hlo] at hw; exact hw
  clear hHe hlo
  have pf : pF a ln I I := pF_r
  unfold pB at hbp
  have iX1 : ∀ w ∈ u_ws RX1 TX1 4, w ∈ wsX1_readClose := (by decide +kernel)
  have iX0 : ∀ w ∈ u_ws RX0 TX0 15, w ∈ wsX1_readClose := (by decide +kernel)
  have k29 : Cond.fieldLink RX1 29 (TX1 2).1 (TX1 2).2.1 (TX1 2).2.2.1 ∈ wsX1_readClose := List.mem_of_getElem? (i := 1) rfl
  have k136 : Cond.fieldLink RX1 136 (TX0 2).1 (TX0 2).2.1 (TX0 2).2.2.1 ∈ wsX1_readClose := List.mem_of_getElem? (i := 2) rfl
  have k109 : Cond.fieldLink RX1 109 (TX0 0).1 (TX0 0).2.1 (TX0 0).2.2.1 ∈ wsX1_readClose := List.mem_of_getElem? (i := 3) rfl
  refine lv_aload_n F.1 F.2.1 dX1_readClose_0 rfl (lv_at hl 0 rfl) ?_
  refine z_bipush F dX1_readClose_1 (by decide) ?_
  refine g_calli (g_runV (As := [.int (iI 59)]) (rest := []) (ci := 1) F hl.1 hH hS hz (c_X1_isKindg l g gh q b n tl nr nt cl h I R J AI AJ AR a 59 ⟨by decide, by decide⟩ hv hp.1 (by first | exact hp.2.2.2.2.2.2.2 | exact hh | omega) hP) (cwV 1 F.2.2.2.2.1 gX1_readClose_X1_isKind rfl rfl rfl hdX1_isKind ⟨Nat.le_of_ble_eq_true rfl, Nat.le_of_ble_eq_true rfl⟩) hp.1 (by decide) rfl rfl rfl (Nat.le_of_ble_eq_true rfl) dX1_readClose_3 ⟨Nat.zero_le _, Nat.zero_le _⟩) hS (fun v_7 I_1 R_2 J_3 AI_4 AJ_5 AR_6 H locs zv_7 hp_8 hH hS => ?_)
  dsimp only at hp_8
  obtain ⟨rfl, rfl, rfl, rfl, rfl, rfl, q_9, q_10⟩ := hp_8
  refine z_if_ne (tgt := 11) F dX1_readClose_6 (by decide) zv_7 (fun c_11 => ?_) (fun c_11 => ?_)
  · have t_12 := tIz_1 q_10 (by omega)
    refine lv_aload_n F.1 F.2.1 dX1_readClose_11 rfl (lv_at hl 0 rfl) ?_
    refine g_getR (ci := 1) (k := 2) F hH rfl (by decide) iX1 hp.1 (by decide) rfl (b := ln) hp.2.2.2.1 k29 dX1_readClose_12 ?_
    refine g_getI (ci := 0) (k := 2) F hH rfl (by decide) iX0 hp.2.2.2.2.1 (by decide) rfl k136 dX1_readClose_15 ?_
    have b_13 := gI_line hv hp.2.2.2.2.1
    unfold vLineI at b_13
    refine z_iconst F dX1_readClose_18 ?_
    refine z_icmp_le (tgt := 24) F dX1_readClose_19 (by decide) (zr_t _) ⟨by decide, by decide⟩ (fun c_14 => ?_) (fun c_14 => ?_)
    · refine lv_aload_n F.1 F.2.1 dX1_readClose_24 rfl (lv_at hl 0 rfl) ?_
      refine g_getR (ci := 1) (k := 2) F hH rfl (by decide) iX1 hp.1 (by decide) rfl (b := ln) hp.2.2.2.1 k29 dX1_readClose_25 ?_
      refine g_getI (ci := 0) (k := 0) F hH rfl (by decide) iX0 hp.2.2.2.2.1 (by decide) rfl k109 dX1_readClose_28 ?_
      refine z_bipush F dX1_readClose_31 (by decide) ?_
      refine z_icmp_ne (tgt := 45) F dX1_readClose_33 (by decide) (zr_t _) ⟨by decide, by decide⟩ (fun c_15 => ?_) (fun c_15 => ?_)
      · refine lv_aload_n F.1 F.2.1 dX1_readClose_45 rfl (lv_at hl 0 rfl) ?_
        have hv0 := hv
        refine g_callv (g_runV (As := []) (rest := []) (ci := 1) F hl.1 hH hS hz (c_X1_stepg l g gh q b n tl nr nt cl h I R J AI AJ AR a hv hp.1 (by first | exact hp.2.2.2.2.2.2.2 | exact hh | omega) hP (by first | exact hp.2.2.1 | exact hq) (by omega)) (cwV 0 F.2.2.2.2.1 gX1_readClose_X1_step rfl rfl rfl hdX1_step ⟨Nat.le_of_ble_eq_true rfl, Nat.le_of_ble_eq_true rfl⟩) hp.1 (by decide) rfl rfl rfl (Nat.le_of_ble_eq_true rfl) dX1_readClose_46 ⟨Nat.zero_le _, Nat.zero_le _⟩) hS (fun I_16 R_17 J_18 AI_19 AJ_20 AR_21 H locs hp_22 hH hS => ?_)
        dsimp only at hp_22
        obtain ⟨rfl, rfl, rfl, rfl, rfl, hv, fs, hs, hP⟩ := hp_22
        have hP : pH gh AR I_16 J AI AJ a q b n tl nr nt cl (h + 1) := hP
        obtain ⟨hp, pfq, fls⟩ := pS_step hv0 hp fs hs
        have pf := pF_t pf pfq
        have u_23q : (I_16 q 1).toInt = (I q 1).toInt := by rw [pF_q hp pfq]
        have u_23_0 : (I_16 ln 0).toInt = (I ln 0).toInt := by rw [fls]
        have u_23_8 : (I_16 ln 8).toInt = (I ln 8).toInt := by rw [fls]
        have u_24 : (I_16 ln 2).toInt = (I ln 2).toInt := by rw [fls]
        have u_25 : (I_16 ln 3).toInt = (I ln 3).toInt := by rw [fls]
        have u_26 : (I_16 ln 4).toInt = (I ln 4).toInt := by rw [fls]
        have u_27 : (I_16 ln 5).toInt = (I ln 5).toInt := by rw [fls]
        have u_28 : (I_16 ln 6).toInt = (I ln 6).toInt := by rw [fls]
        have u_29 : (I_16 ln 9).toInt = (I ln 9).toInt := by rw [fls]
        have u_30 : (I_16 ln 10).toInt = (I ln 10).toInt := by rw [fls]
        have u_31 : (I_16 ln 11).toInt = (I ln 11).toInt := by rw [fls]
        have u_32 : (I_16 ln 12).toInt = (I ln 12).toInt := by rw [fls]
        have k2 : (I_16 ln 2).toInt = (I ln 2).toInt := by rw [fls]
        refine z_iconst F dX1_readClose_49 ?_
        have hfin : sClo b n x7 h = (0, h + 1, x7) := by
          unfold sClo
          repeat (first | with_reducible rfl | refine ite_y (by omega) ?_ | refine ite_n (by omega) ?_ | exact pr_e (by omega) (by omega) (by omega))
        exact g_iret F hr hlk hH hS hz ⟨by decide, by decide⟩ ⟨rfl, rfl, rfl, rfl, rfl, hv, hp, pf, fun h => by first | omega | (dsimp only; omega), by first | omega | rfl | (dsimp only; omega), by (try dsimp only); rw [hfin]; first | done | omega | rfl, by (try dsimp only); rw [hfin]; exact hP, by (try dsimp only); first | exact pIm_n (by omega) | (rw [hfin]; (try dsimp only); exact pIm_y (by first | omega | rfl)) | exact pIm_y (by omega), by first | exact rfl | exact fls⟩ dX1_readClose_50
      · refine lv_aload_n F.1 F.2.1 dX1_readClose_36 rfl (lv_at hl 0 rfl) ?_
        refine g_calli (g_runV (As := []) (rest := []) (ci := 1) F hl.1 hH hS hz (c_X1_ringIsUnlikeg l g gh q ln I R J AI AJ AR a hv hp) (cwV 0 F.2.2.2.2.1 gX1_readClose_X1_ringIsUnlike rfl rfl rfl hdX1_ringIsUnlike ⟨Nat.le_of_ble_eq_true rfl, Nat.le_of_ble_eq_true rfl⟩) hp.1 (by decide) rfl rfl rfl (Nat.le_of_ble_eq_true rfl) dX1_readClose_37 ⟨Nat.zero_le _, Nat.zero_le _⟩) hS (fun v_39 I_33 R_34 J_35 AI_36 AJ_37 AR_38 H locs zv_39 hp_40 hH hS => ?_)
        dsimp only at hp_40
        obtain ⟨rfl, rfl, rfl, rfl, rfl, rfl, q_41, q_42⟩ := hp_40
        refine z_if_eq (tgt := 45) F dX1_readClose_40 (by decide) zv_39 (fun c_43 => ?_) (fun c_43 => ?_)
        · have t_44 := tIz_0 q_42 (by omega)
          refine lv_aload_n F.1 F.2.1 dX1_readClose_45 rfl (lv_at hl 0 rfl) ?_
          have hv0 := hv
          refine g_callv (g_runV (As := []) (rest := []) (ci := 1) F hl.1 hH hS hz (c_X1_stepg l g gh q b n tl nr nt cl h I R J AI AJ AR a hv hp.1 (by first | exact hp.2.2.2.2.2.2.2 | exact hh | omega) hP (by first | exact hp.2.2.1 | exact hq) (by omega)) (cwV 0 F.2.2.2.2.1 gX1_readClose_X1_step rfl rfl rfl hdX1_step ⟨Nat.le_of_ble_eq_true rfl, Nat.le_of_ble_eq_true rfl⟩) hp.1 (by decide) rfl rfl rfl (Nat.le_of_ble_eq_true rfl) dX1_readClose_46 ⟨Nat.zero_le _, Nat.zero_le _⟩) hS (fun I_45 R_46 J_47 AI_48 AJ_49 AR_50 H locs hp_51 hH hS => ?_)
          dsimp only at hp_51
          obtain ⟨rfl, rfl, rfl, rfl, rfl, hv, fs, hs, hP⟩ := hp_51
          have hP : pH gh AR I_45 J AI AJ a q b n tl nr nt cl (h + 1) := hP
          obtain ⟨hp, pfq, fls⟩ := pS_step hv0 hp fs hs
          have pf := pF_t pf pfq
          have u_52q : (I_45 q 1).toInt = (I q 1).toInt := by rw [pF_q hp pfq]
          have u_52_0 : (I_45 ln 0).toInt = (I ln 0).toInt := by rw [fls]
          have u_52_8 : (I_45 ln 8).toInt = (I ln 8).toInt := by rw [fls]
          have u_53 : (I_45 ln 2).toInt = (I ln 2).toInt := by rw [fls]
          have u_54 : (I_45 ln 3).toInt = (I ln 3).toInt := by rw [fls]
          have u_55 : (I_45 ln 4).toInt = (I ln 4).toInt := by rw [fls]
          have u_56 : (I_45 ln 5).toInt = (I ln 5).toInt := by rw [fls]
          have u_57 : (I_45 ln 6).toInt = (I ln 6).toInt := by rw [fls]
          have u_58 : (I_45 ln 9).toInt = (I ln 9).toInt := by rw [fls]
          have u_59 : (I_45 ln 10).toInt = (I ln 10).toInt := by rw [fls]
          have u_60 : (I_45 ln 11).toInt = (I ln 11).toInt := by rw [fls]
          have u_61 : (I_45 ln 12).toInt = (I ln 12).toInt := by rw [fls]
          have k2 : (I_45 ln 2).toInt = (I ln 2).toInt := by rw [fls]
          refine z_iconst F dX1_readClose_49 ?_
          have hfin : sClo b n x7 h = (0, h + 1, x7) := by
            unfold sClo
            repeat (first | with_reducible rfl | refine ite_y (by omega) ?_ | refine ite_n (by omega) ?_ | exact pr_e (by omega) (by omega) (by omega))
          exact g_iret F hr hlk hH hS hz ⟨by decide, by decide⟩ ⟨rfl, rfl, rfl, rfl, rfl, hv, hp, pf, fun h => by first | omega | (dsimp only; omega), by first | omega | rfl | (dsimp only; omega), by (try dsimp only); rw [hfin]; first | done | omega | rfl, by (try dsimp only); rw [hfin]; exact hP, by (try dsimp only); first | exact pIm_n (by omega) | (rw [hfin]; (try dsimp only); exact pIm_y (by first | omega | rfl)) | exact pIm_y (by omega), by first | exact rfl | exact fls⟩ dX1_readClose_50
        · have t_62 := tIz_1 q_42 (by omega)
          refine z_iconst F dX1_readClose_43 ?_
          have hfin : sClo b n x7 h = (5, h, 0) := by
            unfold sClo
            repeat (first | with_reducible rfl | refine ite_y (by omega) ?_ | refine ite_n (by omega) ?_ | exact pr_e (by omega) (by omega) (by omega))
          exact g_iret F hr hlk hH hS hz ⟨by decide, by decide⟩ ⟨rfl, rfl, rfl, rfl, rfl, hv, hp, pf, fun h => by first | omega | (dsimp only; omega), by first | omega | rfl | (dsimp only; omega), by (try dsimp only); rw [hfin]; first | done | omega | rfl, by (try dsimp only); rw [hfin]; exact hP, by (try dsimp only); first | exact pIm_n (by omega) | (rw [hfin]; (try dsimp only); exact pIm_y (by first | omega | rfl)) | exact pIm_y (by omega), by first | exact rfl | exact fls⟩ dX1_readClose_44
    · refine z_iconst F dX1_readClose_22 ?_
      have hfin : sClo b n x7 h = (5, h, 0) := by
        unfold sClo
        repeat (first | with_reducible rfl | refine ite_y (by omega) ?_ | refine ite_n (by omega) ?_ | exact pr_e (by omega) (by omega) (by omega))
      exact g_iret F hr hlk hH hS hz ⟨by decide, by decide⟩ ⟨rfl, rfl, rfl, rfl, rfl, hv, hp, pf, fun h => by first | omega | (dsimp only; omega), by first | omega | rfl | (dsimp only; omega), by (try dsimp only); rw [hfin]; first | done | omega | rfl, by (try dsimp only); rw [hfin]; exact hP, by (try dsimp only); first | exact pIm_n (by omega) | (rw [hfin]; (try dsimp only); exact pIm_y (by first | omega | rfl)) | exact pIm_y (by omega), by first | exact rfl | exact fls⟩ dX1_readClose_23
  · have t_63 := tIz_0 q_10 (by omega)
    refine z_iconst F dX1_readClose_9 ?_
    have hfin : sClo b n x7 h = (1, h, 0) := by
      unfold sClo
      repeat (first | with_reducible rfl | refine ite_y (by omega) ?_ | refine ite_n (by omega) ?_ | exact pr_e (by omega) (by omega) (by omega))
    exact g_iret F hr hlk hH hS hz ⟨by decide, by decide⟩ ⟨rfl, rfl, rfl, rfl, rfl, hv, hp, pf, fun h => by first | omega | (dsimp only; omega), by first | omega | rfl | (dsimp only; omega), by (try dsimp only); rw [hfin]; first | done | omega | rfl, by (try dsimp only); rw [hfin]; exact hP, by (try dsimp only); first | exact pIm_n (by omega) | (rw [hfin]; (try dsimp only); exact pIm_y (by first | omega | rfl)) | exact pIm_y (by omega), by first | exact rfl | exact fls⟩ dX1_readClose_10

def rmX1_readBodyg : Room := { frames := 5, cells := 0, slots := 0, locals := 111 }
set_option maxHeartbeats 4000000 in
set_option maxRecDepth 100000 in
/-- the body of a line -/
theorem c_X1_readBodyg (l : Launch) (g : gG) (gh : gGh) (q ln : Nat) (k7 : Int) (b : tTx) (n : Nat) (tl : Int) (nr : Nat) (nt : Nat → Nat) (cl : Nat → Int) (h : Nat) (I : gI) (R : gR) (J : gJ) (AI : gI) (AJ : gJ) (AR : gR) (a : Nat) (hv : gInv g gh R AR I AI) (hp : pS g gh R I a q ln) (hP : pH gh AR I J AI AJ a q b n tl nr nt cl h) (hk7 : (I ln 0).toInt = k7) (hk8 : (I ln 8).toInt = 0) (h3n : (I ln 3).toInt = -1) (h4n : (I ln 4).toInt = -1) : gMet l g yX1_readBody wsX1_readBody rmX1_readBodyg [.ref a] (I, R, J, AI, AJ, AR) (gQi g (fun (z : Int) (w : gS) => R = w.2.1 ∧ J = w.2.2.1 ∧ AJ = w.2.2.2.2.1 ∧ AR = w.2.2.2.2.2 ∧ (gInv g gh R AR (w.1) (w.2.2.2.1)) ∧ (pS g gh R (w.1) a q ln) ∧ (pF a ln I (w.1)) ∧ (0 ≤ z ∧ z ≤ 5) ∧ (z = (sBody b n nr nt cl k7 h).1) ∧ (pH gh AR (w.1) J (w.2.2.2.1) AJ a q b n tl nr nt cl (sBody b n nr nt cl k7 h).2.1) ∧ (pBz z ((w.1) ln) (sBody b n nr nt cl k7 h).2.2) ∧ (∀ b, b ≠ gh 3 ln → (w.2.2.2.1) b = AI b) ∧ (zIf z (kLn b n nr nt cl h ((w.1) ln) ((w.2.2.2.1) (gh 3 ln)) k7)))) := by
  refine gStart (cc := cX1_readBody) (maxL := 1) (ret := (some (.int))) (by decide) rfl (Nat.le_of_ble_eq_true rfl) ?_
  intro p e s m below meth c ls F hr hlk hH hz hS hl
  have hl : lv_has ls 1 [(0, .ref a)] := hl
  have hS : va_S (gA g) s.heap s.heap [] := hS
  obtain ⟨H, hHe⟩ : ∃ H : Heap, H = s.heap := ⟨_, rfl⟩
  obtain ⟨locs, hlo⟩ : ∃ k : List Loc, k = [] := ⟨_, rfl⟩
  have hH : gH g I R J AI AJ AR H := by rw [hHe]; exact hH
  have hS : va_S (gA g) s.heap H locs := by rw [hHe, hlo]; exact hS
  suffices hw : W p l e rmX1_readBodyg s m ([.ref a] : List Value).toArray below meth c H locs 0 0 (MQ below (gQi g (fun (z : Int) (w : gS) => R = w.2.1 ∧ J = w.2.2.1 ∧ AJ = w.2.2.2.2.1 ∧ AR = w.2.2.2.2.2 ∧ (gInv g gh R AR (w.1) (w.2.2.2.1)) ∧ (pS g gh R (w.1) a q ln) ∧ (pF a ln I (w.1)) ∧ (0 ≤ z ∧ z ≤ 5) ∧ (z = (sBody b n nr nt cl k7 h).1) ∧ (pH gh AR (w.1) J (w.2.2.2.1) AJ a q b n tl nr nt cl (sBody b n nr nt cl k7 h).2.1) ∧ (pBz z ((w.1) ln) (sBody b n nr nt cl k7 h).2.2) ∧ (∀ b, b ≠ gh 3 ln → (w.2.2.2.1) b = AI b) ∧ (zIf z (kLn b n nr nt cl h ((w.1) ln) ((w.2.2.2.1) (gh 3 ln)) k7)))) ([.ref a] : List Value).toArray s 0 0 (gA g)) (F0 m 0 ls []) by
    rw [hHe, hlo] at hw; exact hw
  clear hHe hlo
  have pf : pF a ln I I := pF_r
  have iX1 : ∀ w ∈ u_ws RX1 TX1 4, w ∈ wsX1_readBody := (by decide +kernel)
  have iX0 : ∀ w ∈ u_ws RX0 TX0 15, w ∈ wsX1_readBody := (by decide +kernel)
  have k29 : Cond.fieldLink RX1 29 (TX1 2).1 (TX1 2).2.1 (TX1 2).2.2.1 ∈ wsX1_readBody := List.mem_of_getElem? (i := 1) rfl
  have k109 : Cond.fieldLink RX1 109 (TX0 0).1 (TX0 0).2.1 (TX0 0).2.2.1 ∈ wsX1_readBody := List.mem_of_getElem? (i := 2) rfl
  refine lv_aload_n F.1 F.2.1 dX1_readBody_0 rfl (lv_at hl 0 rfl) ?_
  refine g_getR (ci := 1) (k := 2) F hH rfl (by decide) iX1 hp.1 (by decide) rfl (b := ln) hp.2.2.2.1 k29 dX1_readBody_1 ?_
  refine g_getI (ci := 0) (k := 0) F hH rfl (by decide) iX0 hp.2.2.2.2.1 (by decide) rfl k109 dX1_readBody_4 ?_
  have b_1 := gI_line hv hp.2.2.2.2.1
  unfold vLineI at b_1
  have ec_2 : (iI ((I ln 0).toInt)).toInt = (I ln 0).toInt := iI_val (zr_t _)
  by_cases c_2 : ((I ln 0).toInt) < 1 ∨ 8 < ((I ln 0).toInt)
  · refine lv_tableOut (tgt := 87) F.1 F.2.1 dX1_readBody_7 (by rw [ec_2]; exact c_2) (by decide) ?_
    refine lv_aload_n F.1 F.2.1 dX1_readBody_87 rfl (lv_at hl 0 rfl) ?_
    refine g_calli (g_runV (As := []) (rest := []) (ci := 1) F hl.1 hH hS hz (c_X1_readTableColumnsg l g gh q ln b n tl nr nt cl h I R J AI AJ AR a hv hp hP) (cwV 0 F.2.2.2.2.1 gX1_readBody_X1_readTableColumns rfl rfl rfl hdX1_readTableColumns ⟨Nat.le_of_ble_eq_true rfl, Nat.le_of_ble_eq_true rfl⟩) hp.1 (by decide) rfl rfl rfl (Nat.le_of_ble_eq_true rfl) dX1_readBody_88 ⟨Nat.zero_le _, Nat.zero_le _⟩) hS (fun v_9 I_3 R_4 J_5 AI_6 AJ_7 AR_8 H locs zv_9 hp_10 hH hS => ?_)
    dsimp only at hp_10
    obtain ⟨r_11, er_11⟩ : ∃ qQ : pR, qQ = sTc b n h := ⟨_, rfl⟩
    rw [← er_11] at hp_10
    obtain ⟨rfl, rfl, rfl, rfl, rfl, hv, hp, pfq, q_12, q_13, hP, q_14, q_15⟩ := hp_10
    have pf := pF_t pf pfq
    have u_16q : (I_3 q 1).toInt = (I q 1).toInt := by rw [pF_q hp pfq]
    have u_16_0 : (I_3 ln 0).toInt = (I ln 0).toInt := by rw [pfq.2]
    have hfin : sBody b n nr nt cl k7 h = r_11 := by
      unfold sBody
      repeat (first | with_reducible rfl | refine ite_y (by omega) ?_ | refine ite_n (by omega) ?_ | exact er_11.symm | exact thn_x er_11 (by omega) | exact pr_e (by omega) (by omega) (by omega))
    exact g_iret F hr hlk hH hS hz zv_9 ⟨rfl, rfl, rfl, rfl, hv, hp, pf, by first | omega | rfl | (dsimp only; omega), by (try dsimp only); rw [hfin]; first | done | omega | rfl, by (try dsimp only); rw [hfin]; exact hP, by (try dsimp only); rw [hfin]; exact pBz_m (by omega) q_14, fun _ _ => rfl, fun h9 => by
        unfold kLn
        (repeat (first | rw [if_pos (by omega)] | rw [if_neg (by omega)]))
        first | exact ctb h9 | exact ⟨by (try dsimp only); omega, by (try dsimp only); omega⟩⟩ dX1_readBody_91
  by_cases c_2_0 : (I ln 0).toInt = 1
  · refine lv_tableIn (tgt := 52) (off := 45) F.1 F.2.1 dX1_readBody_7 (by rw [ec_2]; omega) (by rw [ec_2]; omega) (by rw [ec_2, c_2_0]; rfl) (by decide) ?_
    refine lv_aload_n F.1 F.2.1 dX1_readBody_52 rfl (lv_at hl 0 rfl) ?_
    refine g_calli (g_runV (As := []) (rest := []) (ci := 1) F hl.1 hH hS hz (c_X1_readSelectg l g gh q ln b n tl nr nt cl h I R J AI AJ AR a hv hp (by omega) hP (by omega) (by omega)) (cwV 0 F.2.2.2.2.1 gX1_readBody_X1_readSelect rfl rfl rfl hdX1_readSelect ⟨Nat.le_of_ble_eq_true rfl, Nat.le_of_ble_eq_true rfl⟩) hp.1 (by decide) rfl rfl rfl (Nat.le_of_ble_eq_true rfl) dX1_readBody_53 ⟨Nat.zero_le _, Nat.zero_le _⟩) hS (fun v_23 I_17 R_18 J_19 AI_20 AJ_21 AR_22 H locs zv_23 hp_24 hH hS => ?_)
    dsimp only at hp_24
    obtain ⟨r_25, er_25⟩ : ∃ qQ : pR, qQ = sSel b n nr nt cl h := ⟨_, rfl⟩
    rw [← er_25] at hp_24
    obtain ⟨rfl, rfl, rfl, rfl, hv, hp, pfq, q_26, q_27, hP, q_28, fAq, ctb⟩ := hp_24
    have pf := pF_t pf pfq
    have u_29q : (I_17 q 1).toInt = (I q 1).toInt := by rw [pF_q hp pfq]
    have u_29_0 : (I_17 ln 0).toInt = (I ln 0).toInt := by rw [pfq.2]
    have hfin : sBody b n nr nt cl k7 h = r_25 := by
      unfold sBody
      repeat (first | with_reducible rfl | refine ite_y (by omega) ?_ | refine ite_n (by omega) ?_ | exact er_25.symm | exact thn_x er_25 (by omega) | exact pr_e (by omega) (by omega) (by omega))
    exact g_iret F hr hlk hH hS hz zv_23 ⟨rfl, rfl, rfl, rfl, hv, hp, pf, by first | omega | rfl | (dsimp only; omega), by (try dsimp only); rw [hfin]; first | done | omega | rfl, by (try dsimp only); rw [hfin]; exact hP, by (try dsimp only); rw [hfin]; exact pBz_m (by omega) q_28, fun b hb => fAq b hb, fun h9 => by
        unfold kLn
        (repeat (first | rw [if_pos (by omega)] | rw [if_neg (by omega)]))
        first | exact ctb h9 | exact ⟨by (try dsimp only); omega, by (try dsimp only); omega⟩⟩ dX1_readBody_56
  by_cases c_2_1 : (I ln 0).toInt = 2
  · refine lv_tableIn (tgt := 57) (off := 50) F.1 F.2.1 dX1_readBody_7 (by rw [ec_2]; omega) (by rw [ec_2]; omega) (by rw [ec_2, c_2_1]; rfl) (by decide) ?_
    refine lv_aload_n F.1 F.2.1 dX1_readBody_57 rfl (lv_at hl 0 rfl) ?_
    refine g_calli (g_runV (As := []) (rest := []) (ci := 1) F hl.1 hH hS hz (c_X1_readProjectg l g gh q ln b n tl nr nt cl h I R J AI AJ AR a hv hp (by omega) hP (by omega) (by omega)) (cwV 0 F.2.2.2.2.1 gX1_readBody_X1_readProject rfl rfl rfl hdX1_readProject ⟨Nat.le_of_ble_eq_true rfl, Nat.le_of_ble_eq_true rfl⟩) hp.1 (by decide) rfl rfl rfl (Nat.le_of_ble_eq_true rfl) dX1_readBody_58 ⟨Nat.zero_le _, Nat.zero_le _⟩) hS (fun v_36 I_30 R_31 J_32 AI_33 AJ_34 AR_35 H locs zv_36 hp_37 hH hS => ?_)
    dsimp only at hp_37
    obtain ⟨r_38, er_38⟩ : ∃ qQ : pR, qQ = sPrj b n nr nt cl h := ⟨_, rfl⟩
    rw [← er_38] at hp_37
    obtain ⟨rfl, rfl, rfl, rfl, hv, hp, pfq, q_39, q_40, hP, q_41, fAq, ctb⟩ := hp_37
    have pf := pF_t pf pfq
    have u_42q : (I_30 q 1).toInt = (I q 1).toInt := by rw [pF_q hp pfq]
    have u_42_0 : (I_30 ln 0).toInt = (I ln 0).toInt := by rw [pfq.2]
    have hfin : sBody b n nr nt cl k7 h = r_38 := by
      unfold sBody
      repeat (first | with_reducible rfl | refine ite_y (by omega) ?_ | refine ite_n (by omega) ?_ | exact er_38.symm | exact thn_x er_38 (by omega) | exact pr_e (by omega) (by omega) (by omega))
    exact g_iret F hr hlk hH hS hz zv_36 ⟨rfl, rfl, rfl, rfl, hv, hp, pf, by first | omega | rfl | (dsimp only; omega), by (try dsimp only); rw [hfin]; first | done | omega | rfl, by (try dsimp only); rw [hfin]; exact hP, by (try dsimp only); rw [hfin]; exact pBz_m (by omega) q_41, fun b hb => fAq b hb, fun h9 => by
        unfold kLn
        (repeat (first | rw [if_pos (by omega)] | rw [if_neg (by omega)]))
        first | exact ctb h9 | exact ⟨by (try dsimp only); omega, by (try dsimp only); omega⟩⟩ dX1_readBody_61
  by_cases c_2_2 : (I ln 0).toInt = 3
  · refine lv_tableIn (tgt := 62) (off := 55) F.1 F.2.1 dX1_readBody_7 (by rw [ec_2]; omega) (by rw [ec_2]; omega) (by rw [ec_2, c_2_2]; rfl) (by decide) ?_
    refine lv_aload_n F.1 F.2.1 dX1_readBody_62 rfl (lv_at hl 0 rfl) ?_
    refine g_calli (g_runV (As := []) (rest := []) (ci := 1) F hl.1 hH hS hz (c_X1_readJoing l g gh q ln b n tl nr nt cl h I R J AI AJ AR a hv hp (by omega) hP (by omega)) (cwV 0 F.2.2.2.2.1 gX1_readBody_X1_readJoin rfl rfl rfl hdX1_readJoin ⟨Nat.le_of_ble_eq_true rfl, Nat.le_of_ble_eq_true rfl⟩) hp.1 (by decide) rfl rfl rfl (Nat.le_of_ble_eq_true rfl) dX1_readBody_63 ⟨Nat.zero_le _, Nat.zero_le _⟩) hS (fun v_49 I_43 R_44 J_45 AI_46 AJ_47 AR_48 H locs zv_49 hp_50 hH hS => ?_)
    dsimp only at hp_50
    obtain ⟨r_51, er_51⟩ : ∃ qQ : pR, qQ = sJoi b n nr nt cl h := ⟨_, rfl⟩
    rw [← er_51] at hp_50
    obtain ⟨rfl, rfl, rfl, rfl, hv, hp, pfq, q_52, q_53, hP, q_54, fAq, ctb⟩ := hp_50
    have pf := pF_t pf pfq
    have u_55q : (I_43 q 1).toInt = (I q 1).toInt := by rw [pF_q hp pfq]
    have u_55_0 : (I_43 ln 0).toInt = (I ln 0).toInt := by rw [pfq.2]
    have hfin : sBody b n nr nt cl k7 h = r_51 := by
      unfold sBody
      repeat (first | with_reducible rfl | refine ite_y (by omega) ?_ | refine ite_n (by omega) ?_ | exact er_51.symm | exact thn_x er_51 (by omega) | exact pr_e (by omega) (by omega) (by omega))
    exact g_iret F hr hlk hH hS hz zv_49 ⟨rfl, rfl, rfl, rfl, hv, hp, pf, by first | omega | rfl | (dsimp only; omega), by (try dsimp only); rw [hfin]; first | done | omega | rfl, by (try dsimp only); rw [hfin]; exact hP, by (try dsimp only); rw [hfin]; exact pBz_m (by omega) q_54, fun b hb => fAq b hb, fun h9 => by
        unfold kLn
        (repeat (first | rw [if_pos (by omega)] | rw [if_neg (by omega)]))
        first | exact ctb h9 | exact ⟨by (try dsimp only); omega, by (try dsimp only); omega⟩⟩ dX1_readBody_66
  by_cases c_2_3 : (I ln 0).toInt = 4
  · refine lv_tableIn (tgt := 67) (off := 60) F.1 F.2.1 dX1_readBody_7 (by rw [ec_2]; omega) (by rw [ec_2]; omega) (by rw [ec_2, c_2_3]; rfl) (by decide) ?_
    refine lv_aload_n F.1 F.2.1 dX1_readBody_67 rfl (lv_at hl 0 rfl) ?_
    refine g_calli (g_runV (As := []) (rest := []) (ci := 1) F hl.1 hH hS hz (c_X1_readTwoAlikeg l g gh q ln b n tl nr nt cl h I R J AI AJ AR a hv hp (by omega) hP) (cwV 0 F.2.2.2.2.1 gX1_readBody_X1_readTwoAlike rfl rfl rfl hdX1_readTwoAlike ⟨Nat.le_of_ble_eq_true rfl, Nat.le_of_ble_eq_true rfl⟩) hp.1 (by decide) rfl rfl rfl (Nat.le_of_ble_eq_true rfl) dX1_readBody_68 ⟨Nat.zero_le _, Nat.zero_le _⟩) hS (fun v_62 I_56 R_57 J_58 AI_59 AJ_60 AR_61 H locs zv_62 hp_63 hH hS => ?_)
    dsimp only at hp_63
    obtain ⟨r_64, er_64⟩ : ∃ qQ : pR, qQ = sTwo b n nr nt cl h := ⟨_, rfl⟩
    rw [← er_64] at hp_63
    obtain ⟨rfl, rfl, rfl, rfl, rfl, hv, hp, pfq, q_65, q_66, hP, q_67, ctb⟩ := hp_63
    have pf := pF_t pf pfq
    have u_68q : (I_56 q 1).toInt = (I q 1).toInt := by rw [pF_q hp pfq]
    have u_68_0 : (I_56 ln 0).toInt = (I ln 0).toInt := by rw [pfq.2]
    have hfin : sBody b n nr nt cl k7 h = r_64 := by
      unfold sBody
      repeat (first | with_reducible rfl | refine ite_y (by omega) ?_ | refine ite_n (by omega) ?_ | exact er_64.symm | exact thn_x er_64 (by omega) | exact pr_e (by omega) (by omega) (by omega))
    exact g_iret F hr hlk hH hS hz zv_62 ⟨rfl, rfl, rfl, rfl, hv, hp, pf, by first | omega | rfl | (dsimp only; omega), by (try dsimp only); rw [hfin]; first | done | omega | rfl, by (try dsimp only); rw [hfin]; exact hP, by (try dsimp only); rw [hfin]; exact pBz_m (by omega) q_67, fun _ _ => rfl, fun h9 => by
        unfold kLn
        (repeat (first | rw [if_pos (by omega)] | rw [if_neg (by omega)]))
        first | exact ctb h9 | exact ⟨by (try dsimp only); omega, by (try dsimp only); omega⟩⟩ dX1_readBody_71
  by_cases c_2_4 : (I ln 0).toInt = 5
  · refine lv_tableIn (tgt := 67) (off := 60) F.1 F.2.1 dX1_readBody_7 (by rw [ec_2]; omega) (by rw [ec_2]; omega) (by rw [ec_2, c_2_4]; rfl) (by decide) ?_
    refine lv_aload_n F.1 F.2.1 dX1_readBody_67 rfl (lv_at hl 0 rfl) ?_
    refine g_calli (g_runV (As := []) (rest := []) (ci := 1) F hl.1 hH hS hz (c_X1_readTwoAlikeg l g gh q ln b n tl nr nt cl h I R J AI AJ AR a hv hp (by omega) hP) (cwV 0 F.2.2.2.2.1 gX1_readBody_X1_readTwoAlike rfl rfl rfl hdX1_readTwoAlike ⟨Nat.le_of_ble_eq_true rfl, Nat.le_of_ble_eq_true rfl⟩) hp.1 (by decide) rfl rfl rfl (Nat.le_of_ble_eq_true rfl) dX1_readBody_68 ⟨Nat.zero_le _, Nat.zero_le _⟩) hS (fun v_75 I_69 R_70 J_71 AI_72 AJ_73 AR_74 H locs zv_75 hp_76 hH hS => ?_)
    dsimp only at hp_76
    obtain ⟨r_77, er_77⟩ : ∃ qQ : pR, qQ = sTwo b n nr nt cl h := ⟨_, rfl⟩
    rw [← er_77] at hp_76
    obtain ⟨rfl, rfl, rfl, rfl, rfl, hv, hp, pfq, q_78, q_79, hP, q_80, ctb⟩ := hp_76
    have pf := pF_t pf pfq
    have u_81q : (I_69 q 1).toInt = (I q 1).toInt := by rw [pF_q hp pfq]
    have u_81_0 : (I_69 ln 0).toInt = (I ln 0).toInt := by rw [pfq.2]
    have hfin : sBody b n nr nt cl k7 h = r_77 := by
      unfold sBody
      repeat (first | with_reducible rfl | refine ite_y (by omega) ?_ | refine ite_n (by omega) ?_ | exact er_77.symm | exact thn_x er_77 (by omega) | exact pr_e (by omega) (by omega) (by omega))
    exact g_iret F hr hlk hH hS hz zv_75 ⟨rfl, rfl, rfl, rfl, hv, hp, pf, by first | omega | rfl | (dsimp only; omega), by (try dsimp only); rw [hfin]; first | done | omega | rfl, by (try dsimp only); rw [hfin]; exact hP, by (try dsimp only); rw [hfin]; exact pBz_m (by omega) q_80, fun _ _ => rfl, fun h9 => by
        unfold kLn
        (repeat (first | rw [if_pos (by omega)] | rw [if_neg (by omega)]))
        first | exact ctb h9 | exact ⟨by (try dsimp only); omega, by (try dsimp only); omega⟩⟩ dX1_readBody_71
  by_cases c_2_5 : (I ln 0).toInt = 6
  · refine lv_tableIn (tgt := 72) (off := 65) F.1 F.2.1 dX1_readBody_7 (by rw [ec_2]; omega) (by rw [ec_2]; omega) (by rw [ec_2, c_2_5]; rfl) (by decide) ?_
    refine lv_aload_n F.1 F.2.1 dX1_readBody_72 rfl (lv_at hl 0 rfl) ?_
    refine g_calli (g_runV (As := []) (rest := []) (ci := 1) F hl.1 hH hS hz (c_X1_readDistinctg l g gh q ln b n tl nr nt cl h I R J AI AJ AR a hv hp (by omega) hP (by omega)) (cwV 0 F.2.2.2.2.1 gX1_readBody_X1_readDistinct rfl rfl rfl hdX1_readDistinct ⟨Nat.le_of_ble_eq_true rfl, Nat.le_of_ble_eq_true rfl⟩) hp.1 (by decide) rfl rfl rfl (Nat.le_of_ble_eq_true rfl) dX1_readBody_73 ⟨Nat.zero_le _, Nat.zero_le _⟩) hS (fun v_88 I_82 R_83 J_84 AI_85 AJ_86 AR_87 H locs zv_88 hp_89 hH hS => ?_)
    dsimp only at hp_89
    obtain ⟨r_90, er_90⟩ : ∃ qQ : pR, qQ = sRl b n nr nt cl h := ⟨_, rfl⟩
    rw [← er_90] at hp_89
    obtain ⟨rfl, rfl, rfl, rfl, rfl, hv, hp, pfq, q_91, q_92, hP, q_93, ctb⟩ := hp_89
    have pf := pF_t pf pfq
    have u_94q : (I_82 q 1).toInt = (I q 1).toInt := by rw [pF_q hp pfq]
    have u_94_0 : (I_82 ln 0).toInt = (I ln 0).toInt := by rw [pfq.2]
    have hfin : sBody b n nr nt cl k7 h = r_90 := by
      unfold sBody
      repeat (first | with_reducible rfl | refine ite_y (by omega) ?_ | refine ite_n (by omega) ?_ | exact er_90.symm | exact thn_x er_90 (by omega) | exact pr_e (by omega) (by omega) (by omega))
    exact g_iret F hr hlk hH hS hz zv_88 ⟨rfl, rfl, rfl, rfl, hv, hp, pf, by first | omega | rfl | (dsimp only; omega), by (try dsimp only); rw [hfin]; first | done | omega | rfl, by (try dsimp only); rw [hfin]; exact hP, by (try dsimp only); rw [hfin]; exact pBz_m (by omega) q_93, fun _ _ => rfl, fun h9 => by
        unfold kLn
        (repeat (first | rw [if_pos (by omega)] | rw [if_neg (by omega)]))
        first | exact ctb h9 | exact ⟨by (try dsimp only); omega, by (try dsimp only); omega⟩⟩ dX1_readBody_76
  by_cases c_2_6 : (I ln 0).toInt = 7
  · refine lv_tableIn (tgt := 77) (off := 70) F.1 F.2.1 dX1_readBody_7 (by rw [ec_2]; omega) (by rw [ec_2]; omega) (by rw [ec_2, c_2_6]; rfl) (by decide) ?_
    refine lv_aload_n F.1 F.2.1 dX1_readBody_77 rfl (lv_at hl 0 rfl) ?_
    refine g_calli (g_runV (As := []) (rest := []) (ci := 1) F hl.1 hH hS hz (c_X1_readGroupg l g gh q ln b n tl nr nt cl h I R J AI AJ AR a hv hp (by omega) hP (by omega) (by omega)) (cwV 0 F.2.2.2.2.1 gX1_readBody_X1_readGroup rfl rfl rfl hdX1_readGroup ⟨Nat.le_of_ble_eq_true rfl, Nat.le_of_ble_eq_true rfl⟩) hp.1 (by decide) rfl rfl rfl (Nat.le_of_ble_eq_true rfl) dX1_readBody_78 ⟨Nat.zero_le _, Nat.zero_le _⟩) hS (fun v_101 I_95 R_96 J_97 AI_98 AJ_99 AR_100 H locs zv_101 hp_102 hH hS => ?_)
    dsimp only at hp_102
    obtain ⟨r_103, er_103⟩ : ∃ qQ : pR, qQ = sGrp b n nr nt cl h := ⟨_, rfl⟩
    rw [← er_103] at hp_102
    obtain ⟨rfl, rfl, rfl, rfl, hv, hp, pfq, q_104, q_105, hP, q_106, fAq, ctb⟩ := hp_102
    have pf := pF_t pf pfq
    have u_107q : (I_95 q 1).toInt = (I q 1).toInt := by rw [pF_q hp pfq]
    have u_107_0 : (I_95 ln 0).toInt = (I ln 0).toInt := by rw [pfq.2]
    have hfin : sBody b n nr nt cl k7 h = r_103 := by
      unfold sBody
      repeat (first | with_reducible rfl | refine ite_y (by omega) ?_ | refine ite_n (by omega) ?_ | exact er_103.symm | exact thn_x er_103 (by omega) | exact pr_e (by omega) (by omega) (by omega))
    exact g_iret F hr hlk hH hS hz zv_101 ⟨rfl, rfl, rfl, rfl, hv, hp, pf, by first | omega | rfl | (dsimp only; omega), by (try dsimp only); rw [hfin]; first | done | omega | rfl, by (try dsimp only); rw [hfin]; exact hP, by (try dsimp only); rw [hfin]; exact pBz_m (by omega) q_106, fun b hb => fAq b hb, fun h9 => by
        unfold kLn
        (repeat (first | rw [if_pos (by omega)] | rw [if_neg (by omega)]))
        first | exact ctb h9 | exact ⟨by (try dsimp only); omega, by (try dsimp only); omega⟩⟩ dX1_readBody_81
  have c_2_7 : (I ln 0).toInt = 8 := by omega
  refine lv_tableIn (tgt := 82) (off := 75) F.1 F.2.1 dX1_readBody_7 (by rw [ec_2]; omega) (by rw [ec_2]; omega) (by rw [ec_2, c_2_7]; rfl) (by decide) ?_
  refine lv_aload_n F.1 F.2.1 dX1_readBody_82 rfl (lv_at hl 0 rfl) ?_
  refine g_calli (g_runV (As := []) (rest := []) (ci := 1) F hl.1 hH hS hz (c_X1_readRingg l g gh q ln b n tl nr nt cl h I R J AI AJ AR a hv hp (by omega) hP (by omega)) (cwV 0 F.2.2.2.2.1 gX1_readBody_X1_readRing rfl rfl rfl hdX1_readRing ⟨Nat.le_of_ble_eq_true rfl, Nat.le_of_ble_eq_true rfl⟩) hp.1 (by decide) rfl rfl rfl (Nat.le_of_ble_eq_true rfl) dX1_readBody_83 ⟨Nat.zero_le _, Nat.zero_le _⟩) hS (fun v_114 I_108 R_109 J_110 AI_111 AJ_112 AR_113 H locs zv_114 hp_115 hH hS => ?_)
  dsimp only at hp_115
  obtain ⟨r_116, er_116⟩ : ∃ qQ : pR, qQ = sRng b n nr nt cl h := ⟨_, rfl⟩
  rw [← er_116] at hp_115
  obtain ⟨rfl, rfl, rfl, rfl, hv, hp, pfq, q_117, q_118, hP, hrb, fAq, ctb⟩ := hp_115
  have pf := pF_t pf pfq
  have u_119q : (I_108 q 1).toInt = (I q 1).toInt := by rw [pF_q hp pfq]
  have u_119_0 : (I_108 ln 0).toInt = (I ln 0).toInt := by rw [pfq.2]
  have hfin : sBody b n nr nt cl k7 h = r_116 := by
    unfold sBody
    repeat (first | with_reducible rfl | refine ite_y (by omega) ?_ | refine ite_n (by omega) ?_ | exact er_116.symm | exact thn_x er_116 (by omega) | exact pr_e (by omega) (by omega) (by omega))
  exact g_iret F hr hlk hH hS hz zv_114 ⟨rfl, rfl, rfl, rfl, hv, hp, pf, by first | omega | rfl | (dsimp only; omega), by (try dsimp only); rw [hfin]; first | done | omega | rfl, by (try dsimp only); rw [hfin]; exact hP, by (try dsimp only); rw [hfin]; exact hrb, fun b hb => fAq b hb, fun h9 => by
        unfold kLn
        (repeat (first | rw [if_pos (by omega)] | rw [if_neg (by omega)]))
        first | exact ctb h9 | exact ⟨by (try dsimp only); omega, by (try dsimp only); omega⟩⟩ dX1_readBody_86

def rmX1_readNewNameg : Room := { frames := 2, cells := 0, slots := 0, locals := 42 }
set_option maxHeartbeats 4000000 in
set_option maxRecDepth 100000 in
/-- a new name -/
theorem c_X1_readNewNameg (l : Launch) (g : gG) (gh : gGh) (q ln : Nat) (b : tTx) (n : Nat) (tl : Int) (nr : Nat) (nt : Nat → Nat) (cl : Nat → Int) (h : Nat) (I : gI) (R : gR) (J : gJ) (AI : gI) (AJ : gJ) (AR : gR) (a : Nat) (hv : gInv g gh R AR I AI) (hp : pS g gh R I a q ln) (hP : pH gh AR I J AI AJ a q b n tl nr nt cl h) : gMet l g yX1_readNewName wsX1_readNewName rmX1_readNewNameg [.ref a] (I, R, J, AI, AJ, AR) (gQi g (fun (z : Int) (w : gS) => R = w.2.1 ∧ AI = w.2.2.2.1 ∧ AJ = w.2.2.2.2.1 ∧ AR = w.2.2.2.2.2 ∧ (gInv g gh R AR (w.1) AI) ∧ (pS g gh R (w.1) a q ln) ∧ (pF a ln I (w.1)) ∧ ((w.1) ln = I ln) ∧ (0 ≤ z ∧ z ≤ 3) ∧ (z = (sNam b n nr nt h).1) ∧ (pH gh AR (w.1) (w.2.2.1) AI AJ a q b n tl nr nt cl (sNam b n nr nt h).2.1) ∧ (pIm z ((sNam b n nr nt h).2.2) (0)) ∧ (pJm z ((w.2.2.1) ln 1) (pN b n h)) ∧ (∀ y, y ≠ ln → (w.2.2.1) y = J y))) := by
  refine gStart (cc := cX1_readNewName) (maxL := 3) (ret := (some (.int))) (by decide) rfl (Nat.le_of_ble_eq_true rfl) ?_
  intro p e s m below meth c ls F hr hlk hH hz hS hl
  have hl : lv_has ls 3 [(0, .ref a)] := hl
  have hS : va_S (gA g) s.heap s.heap [] := hS
  obtain ⟨H, hHe⟩ : ∃ H : Heap, H = s.heap := ⟨_, rfl⟩
  obtain ⟨locs, hlo⟩ : ∃ k : List Loc, k = [] := ⟨_, rfl⟩
  have hH : gH g I R J AI AJ AR H := by rw [hHe]; exact hH
  have hS : va_S (gA g) s.heap H locs := by rw [hHe, hlo]; exact hS
  suffices hw : W p l e rmX1_readNewNameg s m ([.ref a] : List Value).toArray below meth c H locs 0 0 (MQ below (gQi g (fun (z : Int) (w : gS) => R = w.2.1 ∧ AI = w.2.2.2.1 ∧ AJ = w.2.2.2.2.1 ∧ AR = w.2.2.2.2.2 ∧ (gInv g gh R AR (w.1) AI) ∧ (pS g gh R (w.1) a q ln) ∧ (pF a ln I (w.1)) ∧ ((w.1) ln = I ln) ∧ (0 ≤ z ∧ z ≤ 3) ∧ (z = (sNam b n nr nt h).1) ∧ (pH gh AR (w.1) (w.2.2.1) AI AJ a q b n tl nr nt cl (sNam b n nr nt h).2.1) ∧ (pIm z ((sNam b n nr nt h).2.2) (0)) ∧ (pJm z ((w.2.2.1) ln 1) (pN b n h)) ∧ (∀ y, y ≠ ln → (w.2.2.1) y = J y))) ([.ref a] : List Value).toArray s 0 0 (gA g)) (F0 m 0 ls []) by
    rw [hHe, hlo] at hw; exact hw
  clear hHe hlo
  have pf : pF a ln I I := pF_r
  have iX5 : ∀ w ∈ u_ws RX5 TX5 5, w ∈ wsX1_readNewName := (by decide +kernel)
  have iX1 : ∀ w ∈ u_ws RX1 TX1 4, w ∈ wsX1_readNewName := (by decide +kernel)
  have iX0 : ∀ w ∈ u_ws RX0 TX0 15, w ∈ wsX1_readNewName := (by decide +kernel)
  have k12 : Cond.fieldLink RX1 12 (TX1 0).1 (TX1 0).2.1 (TX1 0).2.2.1 ∈ wsX1_readNewName := List.mem_of_getElem? (i := 1) rfl
  have k93 : Cond.fieldLink RX1 93 (TX5 3).1 (TX5 3).2.1 (TX5 3).2.2.1 ∈ wsX1_readNewName := List.mem_of_getElem? (i := 2) rfl
  have k44 : Cond.fieldLink RX1 44 (TX1 3).1 (TX1 3).2.1 (TX1 3).2.2.1 ∈ wsX1_readNewName := List.mem_of_getElem? (i := 3) rfl
  have k21 : Cond.fieldLink RX1 21 (TX1 1).1 (TX1 1).2.1 (TX1 1).2.2.1 ∈ wsX1_readNewName := List.mem_of_getElem? (i := 4) rfl
  have k29 : Cond.fieldLink RX1 29 (TX1 2).1 (TX1 2).2.1 (TX1 2).2.2.1 ∈ wsX1_readNewName := List.mem_of_getElem? (i := 5) rfl
  have k101 : Cond.fieldLink RX1 101 (TX0 1).1 (TX0 1).2.1 (TX0 1).2.2.1 ∈ wsX1_readNewName := List.mem_of_getElem? (i := 6) rfl
  refine lv_aload_n F.1 F.2.1 dX1_readNewName_0 rfl (lv_at hl 0 rfl) ?_
  refine z_iconst F dX1_readNewName_1 ?_
  refine g_calli (g_runV (As := [.int (iI ((-1)))]) (rest := []) (ci := 1) F hl.1 hH hS hz (c_X1_isWordg l g gh q b n tl nr nt cl h I R J AI AJ AR a (-1) ⟨by decide, by decide⟩ hv hp.1 (by first | exact hp.2.2.2.2.2.2.2 | exact hh | omega) hP) (cwV 1 F.2.2.2.2.1 gX1_readNewName_X1_isWord rfl rfl rfl hdX1_isWord ⟨Nat.le_of_ble_eq_true rfl, Nat.le_of_ble_eq_true rfl⟩) hp.1 (by decide) rfl rfl rfl (Nat.le_of_ble_eq_true rfl) dX1_readNewName_2 ⟨Nat.zero_le _, Nat.zero_le _⟩) hS (fun v_7 I_1 R_2 J_3 AI_4 AJ_5 AR_6 H locs zv_7 hp_8 hH hS => ?_)
  dsimp only at hp_8
  obtain ⟨rfl, rfl, rfl, rfl, rfl, rfl, q_9, q_10⟩ := hp_8
  refine z_if_ne (tgt := 10) F dX1_readNewName_5 (by decide) zv_7 (fun c_11 => ?_) (fun c_11 => ?_)
  · have t_12 := tIz_1 q_10 (by omega)
    refine lv_aload_n F.1 F.2.1 dX1_readNewName_10 rfl (lv_at hl 0 rfl) ?_
    refine g_getR (ci := 1) (k := 0) F hH rfl (by decide) iX1 hp.1 (by decide) rfl (b := gh 22 0) (gR_pr0 hv hp.1).1 k12 dX1_readNewName_11 ?_
    obtain ⟨r_13a, r_13b⟩ := gR_tk3 hv (gR_pr0 hv hp.1).2
    refine g_getR (ci := 5) (k := 3) F hH rfl (by decide) iX5 (gR_pr0 hv hp.1).2 (by decide) rfl (b := gh 27 0) r_13a k93 dX1_readNewName_14 ?_
    refine lv_aload_n F.1 F.2.1 dX1_readNewName_17 rfl (lv_at hl 0 rfl) ?_
    refine g_getI (ci := 1) (k := 3) F hH rfl (by decide) iX1 hp.1 (by decide) rfl k44 dX1_readNewName_18 ?_
    have b_14h := hp.2.2.2.2.2.2.2
    have b_14 := gI_pr hv hp.1
    have b_14t := gI_tk hv (gR_pr0 hv hp.1).2
    have hx21 : 0 ≤ ((I a 3).toInt) ∧ ((I a 3).toInt) < ((901 : Nat) : Int) ∧ ((I a 3).toInt) ≤ 2147483647 := ⟨by omega, by omega, by omega⟩
    refine g_lald F hH r_13b hx21.1 hx21.2.1 hx21.2.2 dX1_readNewName_21 ?_
    refine lv_topl (fun j_15 ej_15 => ?_)
    have ejn := ej_15
    refine lv_lstore_n (lv' := [(1, .long j_15), (0, .ref a)]) F.1 F.2.1 dX1_readNewName_22 rfl hl (by decide) rfl (fun ls hl => ?_)
    refine lv_aload_n F.1 F.2.1 dX1_readNewName_23 rfl (lv_at hl 1 rfl) ?_
    refine g_getR (ci := 1) (k := 1) F hH rfl (by decide) iX1 hp.1 (by decide) rfl (b := q) hp.2.1 k21 dX1_readNewName_24 ?_
    refine lv_lload_n F.1 F.2.1 dX1_readNewName_27 rfl (lv_at hl 0 rfl) ?_
    have b_16 := gI_plan hv hp.2.2.1
    refine g_calli (g_runV (As := [.long j_15]) (rest := []) (ci := 2) F hl.1 hH hS hz (c_X2_relationOf l g gh I R J AI AJ AR q j_15 hv hp.2.2.1) (cwV 1 F.2.2.2.2.1 gX1_readNewName_X2_relationOf rfl rfl rfl hdX2_relationOf ⟨Nat.le_of_ble_eq_true rfl, Nat.le_of_ble_eq_true rfl⟩) hp.2.2.1 (by decide) rfl rfl rfl (Nat.le_of_ble_eq_true rfl) dX1_readNewName_28 ⟨Nat.zero_le _, Nat.zero_le _⟩) hS (fun v_23 I_17 R_18 J_19 AI_20 AJ_21 AR_22 H locs zv_23 hp_24 hH hS => ?_)
    dsimp only at hp_24
    obtain ⟨rfl, rfl, rfl, rfl, rfl, rfl, qr⟩ := hp_24
    have hfd := pH_fd hv hp.2.2.1 hP ejn qr
    refine z_iconst F dX1_readNewName_31 ?_
    refine z_icmp_eq (tgt := 37) F dX1_readNewName_32 (by decide) zv_23 ⟨by decide, by decide⟩ (fun c_25 => ?_) (fun c_25 => ?_)
    · refine lv_aload_n F.1 F.2.1 dX1_readNewName_37 rfl (lv_at hl 1 rfl) ?_
      refine g_getR (ci := 1) (k := 2) F hH rfl (by decide) iX1 hp.1 (by decide) rfl (b := ln) hp.2.2.2.1 k29 dX1_readNewName_38 ?_
      refine lv_lload_n F.1 F.2.1 dX1_readNewName_41 rfl (lv_at hl 0 rfl) ?_
      refine g_putJ (ci := 0) (k := 1) F hH hS rfl (by decide) iX0 hp.2.2.2.2.1 (by decide) tyX0 tyX0_ok nmX0 rfl rfl rfl k101 dX1_readNewName_42 (fun H locs hH hS => ?_)
      obtain ⟨J_26, eJ_26⟩ : ∃ qQ, qQ = gup2 J ln 1 (j_15) := ⟨_, rfl⟩
      rw [← eJ_26] at hH
      have kJ_26 : ∀ b, b ≠ ln → J_26 b = J b := fun b hb => by rw [eJ_26]; exact funext fun j => gup2_a _ _ hb
      have hP := pH_J hv hp hP kJ_26
      have hjn : J_26 ln 1 = pN b n h := by rw [eJ_26, gup2_s, ejn]; exact pH_N hP
      refine lv_aload_n F.1 F.2.1 dX1_readNewName_45 rfl (lv_at hl 1 rfl) ?_
      have hv0 := hv
      refine g_callv (g_runV (As := []) (rest := []) (ci := 1) F hl.1 hH hS hz (c_X1_stepg l g gh q b n tl nr nt cl h I R J_26 AI AJ AR a hv hp.1 (by first | exact hp.2.2.2.2.2.2.2 | exact hh | omega) hP (by first | exact hp.2.2.1 | exact hq) (by omega)) (cwV 0 F.2.2.2.2.1 gX1_readNewName_X1_step rfl rfl rfl hdX1_step ⟨Nat.le_of_ble_eq_true rfl, Nat.le_of_ble_eq_true rfl⟩) hp.1 (by decide) rfl rfl rfl (Nat.le_of_ble_eq_true rfl) dX1_readNewName_46 ⟨Nat.zero_le _, Nat.zero_le _⟩) hS (fun I_27 R_28 J_29 AI_30 AJ_31 AR_32 H locs hp_33 hH hS => ?_)
      dsimp only at hp_33
      obtain ⟨rfl, rfl, rfl, rfl, rfl, hv, fs, hs, hP⟩ := hp_33
      have hP : pH gh AR I_27 J_26 AI AJ a q b n tl nr nt cl (h + 1) := hP
      obtain ⟨hp, pfq, fls⟩ := pS_step hv0 hp fs hs
      have pf := pF_t pf pfq
      have u_34q : (I_27 q 1).toInt = (I q 1).toInt := by rw [pF_q hp pfq]
      have u_34_0 : (I_27 ln 0).toInt = (I ln 0).toInt := by rw [fls]
      have u_34_8 : (I_27 ln 8).toInt = (I ln 8).toInt := by rw [fls]
      have u_35 : (I_27 ln 2).toInt = (I ln 2).toInt := by rw [fls]
      have u_36 : (I_27 ln 3).toInt = (I ln 3).toInt := by rw [fls]
      have u_37 : (I_27 ln 4).toInt = (I ln 4).toInt := by rw [fls]
      have u_38 : (I_27 ln 5).toInt = (I ln 5).toInt := by rw [fls]
      have u_39 : (I_27 ln 6).toInt = (I ln 6).toInt := by rw [fls]
      have u_40 : (I_27 ln 9).toInt = (I ln 9).toInt := by rw [fls]
      have u_41 : (I_27 ln 10).toInt = (I ln 10).toInt := by rw [fls]
      have u_42 : (I_27 ln 11).toInt = (I ln 11).toInt := by rw [fls]
      have u_43 : (I_27 ln 12).toInt = (I ln 12).toInt := by rw [fls]
      refine z_iconst F dX1_readNewName_49 ?_
      have hfin : sNam b n nr nt h = (0, h + 1, 0) := by
        unfold sNam
        repeat (first | with_reducible rfl | refine ite_y (by omega) ?_ | refine ite_n (by omega) ?_ | exact pr_e (by omega) (by omega) (by omega))
      exact g_iret F hr hlk hH hS hz ⟨by decide, by decide⟩ ⟨rfl, rfl, rfl, rfl, hv, hp, pf, fls, by first | omega | rfl | (dsimp only; omega), by (try dsimp only); rw [hfin]; first | done | omega | rfl, by (try dsimp only); rw [hfin]; exact hP, by (try dsimp only); first | exact pIm_n (by omega) | (rw [hfin]; (try dsimp only); exact pIm_y (by first | omega | rfl)) | exact pIm_y (by omega), by (try dsimp only); first | exact pJm_n (by omega) | exact pJm_y hjn, fun b hb => kJ_26 b hb⟩ dX1_readNewName_50
    · refine z_iconst F dX1_readNewName_35 ?_
      have hfin : sNam b n nr nt h = (3, h, 0) := by
        unfold sNam
        repeat (first | with_reducible rfl | refine ite_y (by omega) ?_ | refine ite_n (by omega) ?_ | exact pr_e (by omega) (by omega) (by omega))
      exact g_iret F hr hlk hH hS hz ⟨by decide, by decide⟩ ⟨rfl, rfl, rfl, rfl, hv, hp, pf, rfl, by first | omega | rfl | (dsimp only; omega), by (try dsimp only); rw [hfin]; first | done | omega | rfl, by (try dsimp only); rw [hfin]; exact hP, by (try dsimp only); first | exact pIm_n (by omega) | (rw [hfin]; (try dsimp only); exact pIm_y (by first | omega | rfl)) | exact pIm_y (by omega), by (try dsimp only); first | exact pJm_n (by omega) | exact pJm_y hjn, fun _ _ => rfl⟩ dX1_readNewName_36
  · have t_44 := tIz_0 q_10 (by omega)
    refine z_iconst F dX1_readNewName_8 ?_
    have hfin : sNam b n nr nt h = (1, h, 0) := by
      unfold sNam
      repeat (first | with_reducible rfl | refine ite_y (by omega) ?_ | refine ite_n (by omega) ?_ | exact pr_e (by omega) (by omega) (by omega))
    exact g_iret F hr hlk hH hS hz ⟨by decide, by decide⟩ ⟨rfl, rfl, rfl, rfl, hv, hp, pf, rfl, by first | omega | rfl | (dsimp only; omega), by (try dsimp only); rw [hfin]; first | done | omega | rfl, by (try dsimp only); rw [hfin]; exact hP, by (try dsimp only); first | exact pIm_n (by omega) | (rw [hfin]; (try dsimp only); exact pIm_y (by first | omega | rfl)) | exact pIm_y (by omega), by (try dsimp only); first | exact pJm_n (by omega) | exact pJm_y hjn, fun _ _ => rfl⟩ dX1_readNewName_9

def rmX1_readViewKindg : Room := { frames := 2, cells := 0, slots := 0, locals := 42 }
set_option maxHeartbeats 4000000 in
set_option maxRecDepth 100000 in
/-- the kind of a view -/
theorem c_X1_readViewKindg (l : Launch) (g : gG) (gh : gGh) (q ln : Nat) (b : tTx) (n : Nat) (tl : Int) (nr : Nat) (nt : Nat → Nat) (cl : Nat → Int) (h : Nat) (I : gI) (R : gR) (J : gJ) (AI : gI) (AJ : gJ) (AR : gR) (a : Nat) (hv : gInv g gh R AR I AI) (hp : pS g gh R I a q ln) (hp8 : (I ln 8).toInt = 0) (hP : pH gh AR I J AI AJ a q b n tl nr nt cl h) : gMet l g yX1_readViewKind wsX1_readViewKind rmX1_readViewKindg [.ref a] (I, R, J, AI, AJ, AR) (gQi g (fun (z : Int) (w : gS) => R = w.2.1 ∧ J = w.2.2.1 ∧ AI = w.2.2.2.1 ∧ AJ = w.2.2.2.2.1 ∧ AR = w.2.2.2.2.2 ∧ (gInv g gh R AR (w.1) AI) ∧ (pS g gh R (w.1) a q ln) ∧ (∀ b, b ≠ a → b ≠ ln → (w.1) b = I b) ∧ (z = 0 ∨ z = 1) ∧ (((w.1) ln 8).toInt = 0) ∧ (z = (sVk b n h).1) ∧ (pH gh AR (w.1) J AI AJ a q b n tl nr nt cl (sVk b n h).2.1) ∧ (pIm z (((w.1) ln 0).toInt) ((sVk b n h).2.2)) ∧ (((w.1) ln 3).toInt = (I ln 3).toInt ∧ ((w.1) ln 4).toInt = (I ln 4).toInt))) := by
  refine gStart (cc := cX1_readViewKind) (maxL := 3) (ret := (some (.int))) (by decide) rfl (Nat.le_of_ble_eq_true rfl) ?_
  intro p e s m below meth c ls F hr hlk hH hz hS hl
  have hl : lv_has ls 3 [(0, .ref a)] := hl
  have hS : va_S (gA g) s.heap s.heap [] := hS
  obtain ⟨H, hHe⟩ : ∃ H : Heap, H = s.heap := ⟨_, rfl⟩
  obtain ⟨locs, hlo⟩ : ∃ k : List Loc, k = [] := ⟨_, rfl⟩
  have hH : gH g I R J AI AJ AR H := by rw [hHe]; exact hH
  have hS : va_S (gA g) s.heap H locs := by rw [hHe, hlo]; exact hS
  suffices hw : W p l e rmX1_readViewKindg s m ([.ref a] : List Value).toArray below meth c H locs 0 0 (MQ below (gQi g (fun (z : Int) (w : gS) => R = w.2.1 ∧ J = w.2.2.1 ∧ AI = w.2.2.2.1 ∧ AJ = w.2.2.2.2.1 ∧ AR = w.2.2.2.2.2 ∧ (gInv g gh R AR (w.1) AI) ∧ (pS g gh R (w.1) a q ln) ∧ (∀ b, b ≠ a → b ≠ ln → (w.1) b = I b) ∧ (z = 0 ∨ z = 1) ∧ (((w.1) ln 8).toInt = 0) ∧ (z = (sVk b n h).1) ∧ (pH gh AR (w.1) J AI AJ a q b n tl nr nt cl (sVk b n h).2.1) ∧ (pIm z (((w.1) ln 0).toInt) ((sVk b n h).2.2)) ∧ (((w.1) ln 3).toInt = (I ln 3).toInt ∧ ((w.1) ln 4).toInt = (I ln 4).toInt))) ([.ref a] : List Value).toArray s 0 0 (gA g)) (F0 m 0 ls []) by
    rw [hHe, hlo] at hw; exact hw
  clear hHe hlo
  have pg : ∀ b, b ≠ a → b ≠ ln → I b = I b := fun _ _ _ => rfl
  have iX5 : ∀ w ∈ u_ws RX5 TX5 5, w ∈ wsX1_readViewKind := (by decide +kernel)
  have iX1 : ∀ w ∈ u_ws RX1 TX1 4, w ∈ wsX1_readViewKind := (by decide +kernel)
  have iX0 : ∀ w ∈ u_ws RX0 TX0 15, w ∈ wsX1_readViewKind := (by decide +kernel)
  have k12 : Cond.fieldLink RX1 12 (TX1 0).1 (TX1 0).2.1 (TX1 0).2.2.1 ∈ wsX1_readViewKind := List.mem_of_getElem? (i := 1) rfl
  have k71 : Cond.fieldLink RX1 71 (TX5 2).1 (TX5 2).2.1 (TX5 2).2.2.1 ∈ wsX1_readViewKind := List.mem_of_getElem? (i := 2) rfl
  have k44 : Cond.fieldLink RX1 44 (TX1 3).1 (TX1 3).2.1 (TX1 3).2.2.1 ∈ wsX1_readViewKind := List.mem_of_getElem? (i := 3) rfl
  have k29 : Cond.fieldLink RX1 29 (TX1 2).1 (TX1 2).2.1 (TX1 2).2.2.1 ∈ wsX1_readViewKind := List.mem_of_getElem? (i := 4) rfl
  have k109 : Cond.fieldLink RX1 109 (TX0 0).1 (TX0 0).2.1 (TX0 0).2.2.1 ∈ wsX1_readViewKind := List.mem_of_getElem? (i := 5) rfl
  refine lv_aload_n F.1 F.2.1 dX1_readViewKind_0 rfl (lv_at hl 0 rfl) ?_
  refine z_bipush F dX1_readViewKind_1 (by decide) ?_
  refine g_calli (g_runV (As := [.int (iI 61)]) (rest := []) (ci := 1) F hl.1 hH hS hz (c_X1_takeKindg l g gh q ln b n tl nr nt cl h I R J AI AJ AR a 61 ⟨by decide, by decide⟩ hv hp hP (by omega)) (cwV 1 F.2.2.2.2.1 gX1_readViewKind_X1_takeKind rfl rfl rfl hdX1_takeKind ⟨Nat.le_of_ble_eq_true rfl, Nat.le_of_ble_eq_true rfl⟩) hp.1 (by decide) rfl rfl rfl (Nat.le_of_ble_eq_true rfl) dX1_readViewKind_3 ⟨Nat.zero_le _, Nat.zero_le _⟩) hS (fun v_7 I_1 R_2 J_3 AI_4 AJ_5 AR_6 H locs zv_7 hp_8 hH hS => ?_)
  dsimp only at hp_8
  obtain ⟨r_9, er_9⟩ : ∃ qQ : pR, qQ = sTk b n 61 h := ⟨_, rfl⟩
  rw [← er_9] at hp_8
  obtain ⟨rfl, rfl, rfl, rfl, rfl, hv, hp, pfq, flq, q_10, q_11, hP⟩ := hp_8
  have pg := pG_t pg (pfq).1
  have u_12q : (I_1 q 1).toInt = (I q 1).toInt := by rw [pF_q hp pfq]
  have u_12_0 : (I_1 ln 0).toInt = (I ln 0).toInt := by rw [pfq.2]
  have u_12_8 : (I_1 ln 8).toInt = (I ln 8).toInt := by rw [flq]
  have u_13 : (I_1 ln 2).toInt = (I ln 2).toInt := by rw [flq]
  have u_14 : (I_1 ln 3).toInt = (I ln 3).toInt := by rw [flq]
  have u_15 : (I_1 ln 4).toInt = (I ln 4).toInt := by rw [flq]
  have u_16 : (I_1 ln 5).toInt = (I ln 5).toInt := by rw [flq]
  have u_17 : (I_1 ln 6).toInt = (I ln 6).toInt := by rw [flq]
  have u_18 : (I_1 ln 9).toInt = (I ln 9).toInt := by rw [flq]
  have u_19 : (I_1 ln 10).toInt = (I ln 10).toInt := by rw [flq]
  have u_20 : (I_1 ln 11).toInt = (I ln 11).toInt := by rw [flq]
  have u_21 : (I_1 ln 12).toInt = (I ln 12).toInt := by rw [flq]
  refine lv_istore_n (lv' := [(1, .int (iI v_7)), (0, .ref a)]) F.1 F.2.1 dX1_readViewKind_6 rfl hl (by decide) rfl (fun ls hl => ?_)
  refine lv_iload_n F.1 F.2.1 dX1_readViewKind_7 rfl (lv_at hl 0 rfl) ?_
  refine z_if_eq (tgt := 13) F dX1_readViewKind_8 (by decide) zv_7 (fun c_22 => ?_) (fun c_22 => ?_)
  · refine lv_aload_n F.1 F.2.1 dX1_readViewKind_13 rfl (lv_at hl 1 rfl) ?_
    refine g_getR (ci := 1) (k := 0) F hH rfl (by decide) iX1 hp.1 (by decide) rfl (b := gh 22 0) (gR_pr0 hv hp.1).1 k12 dX1_readViewKind_14 ?_
    obtain ⟨r_23a, r_23b⟩ := gR_tk2 hv (gR_pr0 hv hp.1).2
    refine g_getR (ci := 5) (k := 2) F hH rfl (by decide) iX5 (gR_pr0 hv hp.1).2 (by decide) rfl (b := gh 26 0) r_23a k71 dX1_readViewKind_17 ?_
    refine lv_aload_n F.1 F.2.1 dX1_readViewKind_20 rfl (lv_at hl 1 rfl) ?_
    refine g_getI (ci := 1) (k := 3) F hH rfl (by decide) iX1 hp.1 (by decide) rfl k44 dX1_readViewKind_21 ?_
    have b_24h := hp.2.2.2.2.2.2.2
    have b_24 := gI_pr hv hp.1
    have b_24t := gI_tk hv (gR_pr0 hv hp.1).2
    have hx24 : 0 ≤ ((I_1 a 3).toInt) ∧ ((I_1 a 3).toInt) < ((901 : Nat) : Int) ∧ ((I_1 a 3).toInt) ≤ 2147483647 := ⟨by omega, by omega, by omega⟩
    refine g_iald F hH r_23b hx24.1 hx24.2.1 hx24.2.2 dX1_readViewKind_24 ?_
    refine z_name (fun v_25 ev_25 => ?_)
    have zv_25 : zr v_25 := by rw [ev_25]; exact zr_t _
    have t24 : v_25 = pV b n (r_9.2.1) := by rw [ev_25]; exact pH_V hP
    refine lv_istore_n (lv' := [(2, .int (iI v_25)), (1, .int (iI v_7)), (0, .ref a)]) F.1 F.2.1 dX1_readViewKind_25 rfl hl (by decide) rfl (fun ls hl => ?_)
    refine lv_aload_n F.1 F.2.1 dX1_readViewKind_26 rfl (lv_at hl 2 rfl) ?_
    refine z_iconst F dX1_readViewKind_27 ?_
    refine g_calli (g_runV (As := [.int (iI 3)]) (rest := []) (ci := 1) F hl.1 hH hS hz (c_X1_isKindg l g gh q b n tl nr nt cl r_9.2.1 I_1 R J AI AJ AR a 3 ⟨by decide, by decide⟩ hv hp.1 (by first | exact hp.2.2.2.2.2.2.2 | exact hh | omega) hP) (cwV 1 F.2.2.2.2.1 gX1_readViewKind_X1_isKind rfl rfl rfl hdX1_isKind ⟨Nat.le_of_ble_eq_true rfl, Nat.le_of_ble_eq_true rfl⟩) hp.1 (by decide) rfl rfl rfl (Nat.le_of_ble_eq_true rfl) dX1_readViewKind_28 ⟨Nat.zero_le _, Nat.zero_le _⟩) hS (fun v_32 I_26 R_27 J_28 AI_29 AJ_30 AR_31 H locs zv_32 hp_33 hH hS => ?_)
    dsimp only at hp_33
    obtain ⟨rfl, rfl, rfl, rfl, rfl, rfl, q_34, q_35⟩ := hp_33
    refine z_if_eq (tgt := 45) F dX1_readViewKind_31 (by decide) zv_32 (fun c_36 => ?_) (fun c_36 => ?_)
    · have t_37 := tIz_0 q_35 (by omega)
      refine z_iconst F dX1_readViewKind_45 ?_
      have hfin : sVk b n h = (1, r_9.2.1, 0) := by
        unfold sVk
        repeat (first | with_reducible rfl | refine ite_y (by omega) ?_ | refine ite_n (by omega) ?_ | refine thn_y er_9 (by omega) ?_ | exact pr_e (by omega) (by omega) (by omega))
      exact g_iret F hr hlk hH hS hz ⟨by decide, by decide⟩ ⟨rfl, rfl, rfl, rfl, rfl, hv, hp, pg, by first | omega | rfl | (dsimp only; omega), by first | omega | rfl | (dsimp only; omega), by (try dsimp only); rw [hfin]; first | done | omega | rfl, by (try dsimp only); rw [hfin]; exact hP, by (try dsimp only); first | exact pIm_n (by omega) | (rw [hfin]; (try dsimp only); exact pIm_y (by first | omega | rfl)) | exact pIm_y (by omega), by (try dsimp only); omega⟩ dX1_readViewKind_46
    · have t_38 := tIz_1 q_35 (by omega)
      refine lv_iload_n F.1 F.2.1 dX1_readViewKind_34 rfl (lv_at hl 0 rfl) ?_
      refine z_iconst F dX1_readViewKind_35 ?_
      refine z_icmp_lt (tgt := 45) F dX1_readViewKind_36 (by decide) zv_25 ⟨by decide, by decide⟩ (fun c_39 => ?_) (fun c_39 => ?_)
      · refine z_iconst F dX1_readViewKind_45 ?_
        have hfin : sVk b n h = (1, r_9.2.1, 0) := by
          unfold sVk
          repeat (first | with_reducible rfl | refine ite_y (by omega) ?_ | refine ite_n (by omega) ?_ | refine thn_y er_9 (by omega) ?_ | exact pr_e (by omega) (by omega) (by omega))
        exact g_iret F hr hlk hH hS hz ⟨by decide, by decide⟩ ⟨rfl, rfl, rfl, rfl, rfl, hv, hp, pg, by first | omega | rfl | (dsimp only; omega), by first | omega | rfl | (dsimp only; omega), by (try dsimp only); rw [hfin]; first | done | omega | rfl, by (try dsimp only); rw [hfin]; exact hP, by (try dsimp only); first | exact pIm_n (by omega) | (rw [hfin]; (try dsimp only); exact pIm_y (by first | omega | rfl)) | exact pIm_y (by omega), by (try dsimp only); omega⟩ dX1_readViewKind_46
      · refine lv_iload_n F.1 F.2.1 dX1_readViewKind_39 rfl (lv_at hl 0 rfl) ?_
        refine z_bipush F dX1_readViewKind_40 (by decide) ?_
        refine z_icmp_le (tgt := 47) F dX1_readViewKind_42 (by decide) zv_25 ⟨by decide, by decide⟩ (fun c_40 => ?_) (fun c_40 => ?_)
        · refine lv_aload_n F.1 F.2.1 dX1_readViewKind_47 rfl (lv_at hl 2 rfl) ?_
          refine g_getR (ci := 1) (k := 2) F hH rfl (by decide) iX1 hp.1 (by decide) rfl (b := ln) hp.2.2.2.1 k29 dX1_readViewKind_48 ?_
          refine lv_iload_n F.1 F.2.1 dX1_readViewKind_51 rfl (lv_at hl 0 rfl) ?_
          refine g_putI (ci := 0) (k := 0) F hH hS rfl (by decide) iX0 hp.2.2.2.2.1 (by decide) tyX0 tyX0_ok nmX0 rfl rfl rfl k109 dX1_readViewKind_52 (fun H locs hH hS => ?_)
          obtain ⟨I_41, eI_41⟩ : ∃ qQ, qQ = gup2 I_1 ln 0 (iI (v_25)) := ⟨_, rfl⟩
          rw [← eI_41] at hH
          have kI_41 : ∀ b, b ≠ ln → I_41 b = I_1 b := fun b hb => by rw [eI_41]; exact funext fun j => gup2_a _ _ hb
          have hP := pH_ln hv hp hP kI_41
          have w_42 : (I_41 ln 0).toInt = v_25 := by rw [eI_41, gup2_s]; exact iI_val ⟨by omega, by omega⟩
          have hp2 : pS g gh R I_41 a q ln := pS_ln hv hp kI_41
          have hv : gInv g gh R AR I_41 AI := by rw [eI_41]; exact gInv_line0 hv hp.2.2.2.2.1 (by omega) (by omega) (by omega)
          have hp := hp2
          have pg := pG_t pg (fun b (_ : b ≠ a) (h : b ≠ ln) => kI_41 b h)
          have w_42_k : ∀ j, j ≠ 0 → I_41 ln j = I_1 ln j := fun j hj => by rw [eI_41]; exact gup2_k _ _ hj
          have u_43q : (I_41 q 1).toInt = (I_1 q 1).toInt := by rw [kI_41 q (gO_ne hp.2.2.1 hp.2.2.2.2.1 (by decide))]
          have u_43_8 : (I_41 ln 8).toInt = (I_1 ln 8).toInt := by rw [w_42_k 8 (by decide)]
          have u_44 : (I_41 ln 2).toInt = (I_1 ln 2).toInt := by rw [w_42_k 2 (by decide)]
          have u_45 : (I_41 ln 3).toInt = (I_1 ln 3).toInt := by rw [w_42_k 3 (by decide)]
          have u_46 : (I_41 ln 4).toInt = (I_1 ln 4).toInt := by rw [w_42_k 4 (by decide)]
          have u_47 : (I_41 ln 5).toInt = (I_1 ln 5).toInt := by rw [w_42_k 5 (by decide)]
          have u_48 : (I_41 ln 6).toInt = (I_1 ln 6).toInt := by rw [w_42_k 6 (by decide)]
          have u_49 : (I_41 ln 9).toInt = (I_1 ln 9).toInt := by rw [w_42_k 9 (by decide)]
          have u_50 : (I_41 ln 10).toInt = (I_1 ln 10).toInt := by rw [w_42_k 10 (by decide)]
          have u_51 : (I_41 ln 11).toInt = (I_1 ln 11).toInt := by rw [w_42_k 11 (by decide)]
          have u_52 : (I_41 ln 12).toInt = (I_1 ln 12).toInt := by rw [w_42_k 12 (by decide)]
          refine lv_aload_n F.1 F.2.1 dX1_readViewKind_55 rfl (lv_at hl 2 rfl) ?_
          have hv0 := hv
          refine g_callv (g_runV (As := []) (rest := []) (ci := 1) F hl.1 hH hS hz (c_X1_stepg l g gh q b n tl nr nt cl r_9.2.1 I_41 R J AI AJ AR a hv hp.1 (by first | exact hp.2.2.2.2.2.2.2 | exact hh | omega) hP (by first | exact hp.2.2.1 | exact hq) (by omega)) (cwV 0 F.2.2.2.2.1 gX1_readViewKind_X1_step rfl rfl rfl hdX1_step ⟨Nat.le_of_ble_eq_true rfl, Nat.le_of_ble_eq_true rfl⟩) hp.1 (by decide) rfl rfl rfl (Nat.le_of_ble_eq_true rfl) dX1_readViewKind_56 ⟨Nat.zero_le _, Nat.zero_le _⟩) hS (fun I_53 R_54 J_55 AI_56 AJ_57 AR_58 H locs hp_59 hH hS => ?_)
          dsimp only at hp_59
          obtain ⟨rfl, rfl, rfl, rfl, rfl, hv, fs, hs, hP⟩ := hp_59
          have hP : pH gh AR I_53 J AI AJ a q b n tl nr nt cl (r_9.2.1 + 1) := hP
          obtain ⟨hp, pfq, fls⟩ := pS_step hv0 hp fs hs
          have pg := pG_t pg (pfq).1
          have u_60q : (I_53 q 1).toInt = (I_41 q 1).toInt := by rw [pF_q hp pfq]
          have u_60_0 : (I_53 ln 0).toInt = (I_41 ln 0).toInt := by rw [fls]
          have u_60_8 : (I_53 ln 8).toInt = (I_41 ln 8).toInt := by rw [fls]
          have u_61 : (I_53 ln 2).toInt = (I_41 ln 2).toInt := by rw [fls]
          have u_62 : (I_53 ln 3).toInt = (I_41 ln 3).toInt := by rw [fls]
          have u_63 : (I_53 ln 4).toInt = (I_41 ln 4).toInt := by rw [fls]
          have u_64 : (I_53 ln 5).toInt = (I_41 ln 5).toInt := by rw [fls]
          have u_65 : (I_53 ln 6).toInt = (I_41 ln 6).toInt := by rw [fls]
          have u_66 : (I_53 ln 9).toInt = (I_41 ln 9).toInt := by rw [fls]
          have u_67 : (I_53 ln 10).toInt = (I_41 ln 10).toInt := by rw [fls]
          have u_68 : (I_53 ln 11).toInt = (I_41 ln 11).toInt := by rw [fls]
          have u_69 : (I_53 ln 12).toInt = (I_41 ln 12).toInt := by rw [fls]
          refine z_iconst F dX1_readViewKind_59 ?_
          have hfin : sVk b n h = (0, r_9.2.1 + 1, pV b n (r_9.2.1)) := by
            unfold sVk
            repeat (first | with_reducible rfl | refine ite_y (by omega) ?_ | refine ite_n (by omega) ?_ | refine thn_y er_9 (by omega) ?_ | exact pr_e (by omega) (by omega) (by omega))
          exact g_iret F hr hlk hH hS hz ⟨by decide, by decide⟩ ⟨rfl, rfl, rfl, rfl, rfl, hv, hp, pg, by first | omega | rfl | (dsimp only; omega), by first | omega | rfl | (dsimp only; omega), by (try dsimp only); rw [hfin]; first | done | omega | rfl, by (try dsimp only); rw [hfin]; exact hP, by (try dsimp only); first | exact pIm_n (by omega) | (rw [hfin]; (try dsimp only); exact pIm_y (by first | omega | rfl)) | exact pIm_y (by omega), by (try dsimp only); omega⟩ dX1_readViewKind_60
        · refine z_iconst F dX1_readViewKind_45 ?_
          have hfin : sVk b n h = (1, r_9.2.1, 0) := by
            unfold sVk
            repeat (first | with_reducible rfl | refine ite_y (by omega) ?_ | refine ite_n (by omega) ?_ | refine thn_y er_9 (by omega) ?_ | exact pr_e (by omega) (by omega) (by omega))
          exact g_iret F hr hlk hH hS hz ⟨by decide, by decide⟩ ⟨rfl, rfl, rfl, rfl, rfl, hv, hp, pg, by first | omega | rfl | (dsimp only; omega), by first | omega | rfl | (dsimp only; omega), by (try dsimp only); rw [hfin]; first | done | omega | rfl, by (try dsimp only); rw [hfin]; exact hP, by (try dsimp only); first | exact pIm_n (by omega) | (rw [hfin]; (try dsimp only); exact pIm_y (by first | omega | rfl)) | exact pIm_y (by omega), by (try dsimp only); omega⟩ dX1_readViewKind_46
  · refine lv_iload_n F.1 F.2.1 dX1_readViewKind_11 rfl (lv_at hl 0 rfl) ?_
    have hfin : sVk b n h = r_9 := by
      unfold sVk
      repeat (first | with_reducible rfl | refine ite_y (by omega) ?_ | refine ite_n (by omega) ?_ | exact er_9.symm | exact thn_x er_9 (by omega) | exact pr_e (by omega) (by omega) (by omega))
    exact g_iret F hr hlk hH hS hz zv_7 ⟨rfl, rfl, rfl, rfl, rfl, hv, hp, pg, by first | omega | rfl | (dsimp only; omega), by first | omega | rfl | (dsimp only; omega), by (try dsimp only); rw [hfin]; first | done | omega | rfl, by (try dsimp only); rw [hfin]; exact hP, by (try dsimp only); first | exact pIm_n (by omega) | (rw [hfin]; (try dsimp only); exact pIm_y (by first | omega | rfl)) | exact pIm_y (by omega), by (try dsimp only); omega⟩ dX1_readViewKind_12
end
