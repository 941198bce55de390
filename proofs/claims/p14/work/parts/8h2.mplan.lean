def rmX7_plang : Room := { frames := 10, cells := 0, slots := 0, locals := 219 }
set_option maxHeartbeats 4000000 in
set_option maxRecDepth 100000 in
/-- a tape read -/
theorem c_X7_plang (l : Launch) (g : gG) (gh : gGh) (T : Nat → Int32) (b : tTx) (nn : Nat) (I : gI) (R : gR) (J : gJ) (AI : gI) (AJ : gJ) (AR : gR) (mo : Nat) (hv : mInv g gh R I AI) (hm : gO g mo 7) (hT : AI (gh 50 0) = T) (h65 : gh 9 (gh 65 0) ≠ 5) (hbM : ∀ k : Nat, k < nn → ((gM g).2 (gh 65 0) k).toInt = b k % 256) (hr7 : ∀ k : Nat, -128 ≤ b k ∧ b k ≤ 127) (hnn : (I mo 16).toInt = (nn : Int)) : gMet l g yX7_plan tsX7_plan rmX7_plang [.ref mo] (I, R, J, AI, AJ, AR) (gQi g (fun (z : Int) (w : gS) => R = w.2.1 ∧ AR = w.2.2.2.2.2 ∧ (mInv g gh R (w.1) (w.2.2.2.1)) ∧ (((w.1) mo 16).toInt = 0) ∧ (z = sPln b nn) ∧ (plM gh T I (w.1) (w.2.2.2.1) mo b nn z) ∧ (plN gh I AI (w.1) (w.2.2.2.1) mo b nn z) ∧ (plK gh AI (w.2.2.2.1)))) := by
  refine gStart (cc := cX7_plan) (maxL := 3) (ret := (some (.int))) (by decide) rfl (Nat.le_of_ble_eq_true rfl) ?_
  intro p e s m below meth c ls F hr hlk hH hz hS hl
  have hl : lv_has ls 3 [(0, .ref mo)] := hl
  have hS : va_S (gA g) s.heap s.heap [] := hS
  obtain ⟨H, hHe⟩ : ∃ H : Heap, H = s.heap := ⟨_, rfl⟩
  obtain ⟨locs, hlo⟩ : ∃ k : List Loc, k = [] := ⟨_, rfl⟩
  have hH : gH g I R J AI AJ AR H := by rw [hHe]; exact hH
  have hS : va_S (gA g) s.heap H locs := by rw [hHe, hlo]; exact hS
  suffices hw : W p l e rmX7_plang s m ([.ref mo] : List Value).toArray below meth c H locs 0 0 (MQ below (gQi g (fun (z : Int) (w : gS) => R = w.2.1 ∧ AR = w.2.2.2.2.2 ∧ (mInv g gh R (w.1) (w.2.2.2.1)) ∧ (((w.1) mo 16).toInt = 0) ∧ (z = sPln b nn) ∧ (plM gh T I (w.1) (w.2.2.2.1) mo b nn z) ∧ (plN gh I AI (w.1) (w.2.2.2.1) mo b nn z) ∧ (plK gh AI (w.2.2.2.1)))) ([.ref mo] : List Value).toArray s 0 0 (gA g)) (F0 m 0 ls []) by
    rw [hHe, hlo] at hw; exact hw
  clear hHe hlo
  have hb0 := mJ hv hm
  unfold mNum1 at hb0
  have h8q : I mo 8 = I mo 8 ∧ I mo 9 = I mo 9 ∧ I mo 10 = I mo 10 := ⟨rfl, rfl, rfl⟩
  have iX7 : ∀ w ∈ u_ws RX7 TX7 32, w ∈ tsX7_plan := fun w h => List.mem_cons_of_mem _ (inTB7 w h)
  have k60 : Cond.fieldLink RX7 60 (TX7 17).1 (TX7 17).2.1 (TX7 17).2.2.1 ∈ tsX7_plan := List.mem_cons_of_mem _ fl_60
  have k71 : Cond.fieldLink RX7 71 (TX7 16).1 (TX7 16).2.1 (TX7 16).2.2.1 ∈ tsX7_plan := List.mem_cons_of_mem _ fl_71
  have k78 : Cond.fieldLink RX7 78 (TX7 18).1 (TX7 18).2.1 (TX7 18).2.2.1 ∈ tsX7_plan := List.mem_cons_of_mem _ fl_78
  have k184 : Cond.fieldLink RX7 184 (TX7 5).1 (TX7 5).2.1 (TX7 5).2.2.1 ∈ tsX7_plan := List.mem_cons_of_mem _ fl_184
  have k81 : Cond.fieldLink RX7 81 (TX7 24).1 (TX7 24).2.1 (TX7 24).2.2.1 ∈ tsX7_plan := List.mem_cons_of_mem _ fl_81
  have k84 : Cond.fieldLink RX7 84 (TX7 20).1 (TX7 20).2.1 (TX7 20).2.2.1 ∈ tsX7_plan := List.mem_cons_of_mem _ fl_84
  have k94 : Cond.fieldLink RX7 94 (TX7 21).1 (TX7 21).2.1 (TX7 21).2.2.1 ∈ tsX7_plan := List.mem_cons_of_mem _ fl_94
  have k64 : Cond.fieldLink RX7 64 (TX7 2).1 (TX7 2).2.1 (TX7 2).2.2.1 ∈ tsX7_plan := List.mem_cons_of_mem _ fl_64
  have k7 : Cond.fieldLink RX7 7 (TX7 0).1 (TX7 0).2.1 (TX7 0).2.2.1 ∈ tsX7_plan := List.mem_cons_of_mem _ fl_7
  have k17 : Cond.fieldLink RX7 17 (TX7 3).1 (TX7 3).2.1 (TX7 3).2.2.1 ∈ tsX7_plan := List.mem_cons_of_mem _ fl_17
  have k13 : Cond.fieldLink RX7 13 (TX7 1).1 (TX7 1).2.1 (TX7 1).2.2.1 ∈ tsX7_plan := List.mem_cons_of_mem _ fl_13
  have k20 : Cond.fieldLink RX7 20 (TX7 4).1 (TX7 4).2.1 (TX7 4).2.2.1 ∈ tsX7_plan := List.mem_cons_of_mem _ fl_20
  have k27 : Cond.fieldLink RX7 27 (TX7 7).1 (TX7 7).2.1 (TX7 7).2.2.1 ∈ tsX7_plan := List.mem_cons_of_mem _ fl_27
  have k51 : Cond.fieldLink RX7 51 (TX7 29).1 (TX7 29).2.1 (TX7 29).2.2.1 ∈ tsX7_plan := List.mem_cons_of_mem _ fl_51
  have k257 : Cond.fieldLink RX7 257 (TX7 8).1 (TX7 8).2.1 (TX7 8).2.2.1 ∈ tsX7_plan := List.mem_cons_of_mem _ fl_257
  have k260 : Cond.fieldLink RX7 260 (TX7 9).1 (TX7 9).2.1 (TX7 9).2.2.1 ∈ tsX7_plan := List.mem_cons_of_mem _ fl_260
  have k263 : Cond.fieldLink RX7 263 (TX7 10).1 (TX7 10).2.1 (TX7 10).2.2.1 ∈ tsX7_plan := List.mem_cons_of_mem _ fl_263
  have k266 : Cond.fieldLink RX7 266 (TX7 14).1 (TX7 14).2.1 (TX7 14).2.2.1 ∈ tsX7_plan := List.mem_cons_of_mem _ fl_266
  refine lv_aload_n F.1 F.2.1 dX7_plan_0 rfl (lv_at hl 0 rfl) ?_
  refine z_iconst F dX7_plan_1 ?_
  refine g_putI (ci := 7) (k := 17) F hH hS rfl (by decide) iX7 hm (by decide) tyX7 tyX7_ok nmX7 rfl rfl rfl k60 dX7_plan_2 (fun H locs hH hS => ?_)
  obtain ⟨I_1, eI_1⟩ : ∃ qQ, qQ = gup2 I mo 17 (iI (0)) := ⟨_, rfl⟩
  rw [← eI_1] at hH
  have kI_1 : ∀ b, b ≠ mo → I_1 b = I b := fun b hb => by rw [eI_1]; exact funext fun j => gup2_a _ _ hb
  have w_2 : (I_1 mo 17).toInt = 0 := by rw [eI_1, gup2_s]; exact iI_val ⟨by decide, by decide⟩
  have hv : mInv g gh R I_1 AI := by rw [eI_1]; exact mP17 hv hm
  have w_2_k2 : (I_1 mo 2).toInt = (I mo 2).toInt := by rw [eI_1, gup2_k _ _ (by decide)]
  have w_2_k5 : (I_1 mo 5).toInt = (I mo 5).toInt := by rw [eI_1, gup2_k _ _ (by decide)]
  have w_2_k14 : (I_1 mo 14).toInt = (I mo 14).toInt := by rw [eI_1, gup2_k _ _ (by decide)]
  have w_2_k16 : (I_1 mo 16).toInt = (I mo 16).toInt := by rw [eI_1, gup2_k _ _ (by decide)]
  have w_2_k18 : (I_1 mo 18).toInt = (I mo 18).toInt := by rw [eI_1, gup2_k _ _ (by decide)]
  have w_2_k20 : (I_1 mo 20).toInt = (I mo 20).toInt := by rw [eI_1, gup2_k _ _ (by decide)]
  have w_2_k24 : (I_1 mo 24).toInt = (I mo 24).toInt := by rw [eI_1, gup2_k _ _ (by decide)]
  have h8q : I_1 mo 8 = I mo 8 ∧ I_1 mo 9 = I mo 9 ∧ I_1 mo 10 = I mo 10 := ⟨(by rw [eI_1]; exact gup2_k _ _ (by decide) : I_1 mo 8 = I mo 8).trans h8q.1, (by rw [eI_1]; exact gup2_k _ _ (by decide) : I_1 mo 9 = I mo 9).trans h8q.2.1, (by rw [eI_1]; exact gup2_k _ _ (by decide) : I_1 mo 10 = I mo 10).trans h8q.2.2⟩
  refine lv_aload_n F.1 F.2.1 dX7_plan_5 rfl (lv_at hl 0 rfl) ?_
  refine lv_aload_n F.1 F.2.1 dX7_plan_6 rfl (lv_at hl 0 rfl) ?_
  refine g_getI (ci := 7) (k := 16) F hH rfl (by decide) iX7 hm (by decide) rfl k71 dX7_plan_7 ?_
  have b_3 := mJ hv hm
  unfold mNum1 at b_3
  refine g_putI (ci := 7) (k := 18) F hH hS rfl (by decide) iX7 hm (by decide) tyX7 tyX7_ok nmX7 rfl rfl rfl k78 dX7_plan_10 (fun H locs hH hS => ?_)
  obtain ⟨I_4, eI_4⟩ : ∃ qQ, qQ = gup2 I_1 mo 18 (iI ((I_1 mo 16).toInt)) := ⟨_, rfl⟩
  rw [← eI_4] at hH
  have kI_4 : ∀ b, b ≠ mo → I_4 b = I_1 b := fun b hb => by rw [eI_4]; exact funext fun j => gup2_a _ _ hb
  have w_5 : (I_4 mo 18).toInt = (I_1 mo 16).toInt := by rw [eI_4, gup2_s]; exact iI_val (zr_t _)
  have hv : mInv g gh R I_4 AI := by rw [eI_4]; exact mP18 hv hm (by omega) (by omega)
  have w_5_k2 : (I_4 mo 2).toInt = (I_1 mo 2).toInt := by rw [eI_4, gup2_k _ _ (by decide)]
  have w_5_k5 : (I_4 mo 5).toInt = (I_1 mo 5).toInt := by rw [eI_4, gup2_k _ _ (by decide)]
  have w_5_k14 : (I_4 mo 14).toInt = (I_1 mo 14).toInt := by rw [eI_4, gup2_k _ _ (by decide)]
  have w_5_k16 : (I_4 mo 16).toInt = (I_1 mo 16).toInt := by rw [eI_4, gup2_k _ _ (by decide)]
  have w_5_k20 : (I_4 mo 20).toInt = (I_1 mo 20).toInt := by rw [eI_4, gup2_k _ _ (by decide)]
  have w_5_k24 : (I_4 mo 24).toInt = (I_1 mo 24).toInt := by rw [eI_4, gup2_k _ _ (by decide)]
  have h8q : I_4 mo 8 = I mo 8 ∧ I_4 mo 9 = I mo 9 ∧ I_4 mo 10 = I mo 10 := ⟨(by rw [eI_4]; exact gup2_k _ _ (by decide) : I_4 mo 8 = I_1 mo 8).trans h8q.1, (by rw [eI_4]; exact gup2_k _ _ (by decide) : I_4 mo 9 = I_1 mo 9).trans h8q.2.1, (by rw [eI_4]; exact gup2_k _ _ (by decide) : I_4 mo 10 = I_1 mo 10).trans h8q.2.2⟩
  refine lv_aload_n F.1 F.2.1 dX7_plan_13 rfl (lv_at hl 0 rfl) ?_
  refine z_iconst F dX7_plan_14 ?_
  refine g_putI (ci := 7) (k := 16) F hH hS rfl (by decide) iX7 hm (by decide) tyX7 tyX7_ok nmX7 rfl rfl rfl k71 dX7_plan_15 (fun H locs hH hS => ?_)
  obtain ⟨I_6, eI_6⟩ : ∃ qQ, qQ = gup2 I_4 mo 16 (iI (0)) := ⟨_, rfl⟩
  rw [← eI_6] at hH
  have kI_6 : ∀ b, b ≠ mo → I_6 b = I_4 b := fun b hb => by rw [eI_6]; exact funext fun j => gup2_a _ _ hb
  have w_7 : (I_6 mo 16).toInt = 0 := by rw [eI_6, gup2_s]; exact iI_val ⟨by decide, by decide⟩
  have hv : mInv g gh R I_6 AI := by rw [eI_6]; exact mP16 hv hm (by omega) (by omega)
  have w_7_k2 : (I_6 mo 2).toInt = (I_4 mo 2).toInt := by rw [eI_6, gup2_k _ _ (by decide)]
  have w_7_k5 : (I_6 mo 5).toInt = (I_4 mo 5).toInt := by rw [eI_6, gup2_k _ _ (by decide)]
  have w_7_k14 : (I_6 mo 14).toInt = (I_4 mo 14).toInt := by rw [eI_6, gup2_k _ _ (by decide)]
  have w_7_k18 : (I_6 mo 18).toInt = (I_4 mo 18).toInt := by rw [eI_6, gup2_k _ _ (by decide)]
  have w_7_k20 : (I_6 mo 20).toInt = (I_4 mo 20).toInt := by rw [eI_6, gup2_k _ _ (by decide)]
  have w_7_k24 : (I_6 mo 24).toInt = (I_4 mo 24).toInt := by rw [eI_6, gup2_k _ _ (by decide)]
  have h8q : I_6 mo 8 = I mo 8 ∧ I_6 mo 9 = I mo 9 ∧ I_6 mo 10 = I mo 10 := ⟨(by rw [eI_6]; exact gup2_k _ _ (by decide) : I_6 mo 8 = I_4 mo 8).trans h8q.1, (by rw [eI_6]; exact gup2_k _ _ (by decide) : I_6 mo 9 = I_4 mo 9).trans h8q.2.1, (by rw [eI_6]; exact gup2_k _ _ (by decide) : I_6 mo 10 = I_4 mo 10).trans h8q.2.2⟩
  refine lv_aload_n F.1 F.2.1 dX7_plan_18 rfl (lv_at hl 0 rfl) ?_
  refine g_getI (ci := 7) (k := 18) F hH rfl (by decide) iX7 hm (by decide) rfl k78 dX7_plan_19 ?_
  have b_8 := mJ hv hm
  unfold mNum1 at b_8
  refine z_sipush F dX7_plan_22 (by decide) ?_
  refine z_icmp_le (tgt := 30) F dX7_plan_25 (by decide) (zr_t _) ⟨by decide, by decide⟩ (fun c_9 => ?_) (fun c_9 => ?_)
  · have hn9 : nn ≤ 900 := by omega
    refine lv_aload_n F.1 F.2.1 dX7_plan_30 rfl (lv_at hl 0 rfl) ?_
    refine z_iconst F dX7_plan_31 ?_
    refine g_putI (ci := 7) (k := 5) F hH hS rfl (by decide) iX7 hm (by decide) tyX7 tyX7_ok nmX7 rfl rfl rfl k184 dX7_plan_32 (fun H locs hH hS => ?_)
    obtain ⟨I_10, eI_10⟩ : ∃ qQ, qQ = gup2 I_6 mo 5 (iI (0)) := ⟨_, rfl⟩
    rw [← eI_10] at hH
    have kI_10 : ∀ b, b ≠ mo → I_10 b = I_6 b := fun b hb => by rw [eI_10]; exact funext fun j => gup2_a _ _ hb
    have hv : mInv g gh R I_10 AI := by rw [eI_10]; exact mP5_0 hv hm
    have kq5 : (I_10 mo 5).toInt = 0 := by rw [eI_10, gup2_s]; exact iI_val ⟨by decide, by decide⟩
    have kq2 : (I_10 mo 2).toInt = (I_6 mo 2).toInt := by rw [eI_10, gup2_k _ _ (by decide)]
    have kq14 : (I_10 mo 14).toInt = (I_6 mo 14).toInt := by rw [eI_10, gup2_k _ _ (by decide)]
    have kq16 : (I_10 mo 16).toInt = (I_6 mo 16).toInt := by rw [eI_10, gup2_k _ _ (by decide)]
    have kq18 : (I_10 mo 18).toInt = (I_6 mo 18).toInt := by rw [eI_10, gup2_k _ _ (by decide)]
    have kq20 : (I_10 mo 20).toInt = (I_6 mo 20).toInt := by rw [eI_10, gup2_k _ _ (by decide)]
    have kq24 : (I_10 mo 24).toInt = (I_6 mo 24).toInt := by rw [eI_10, gup2_k _ _ (by decide)]
    have h8q : I_10 mo 8 = I mo 8 ∧ I_10 mo 9 = I mo 9 ∧ I_10 mo 10 = I mo 10 := ⟨(by rw [eI_10]; exact gup2_k _ _ (by decide) : I_10 mo 8 = I_6 mo 8).trans h8q.1, (by rw [eI_10]; exact gup2_k _ _ (by decide) : I_10 mo 9 = I_6 mo 9).trans h8q.2.1, (by rw [eI_10]; exact gup2_k _ _ (by decide) : I_10 mo 10 = I_6 mo 10).trans h8q.2.2⟩
    refine lv_aload_n F.1 F.2.1 dX7_plan_35 rfl (lv_at hl 0 rfl) ?_
    refine z_iconst F dX7_plan_36 ?_
    refine g_putI (ci := 7) (k := 24) F hH hS rfl (by decide) iX7 hm (by decide) tyX7 tyX7_ok nmX7 rfl rfl rfl k81 dX7_plan_37 (fun H locs hH hS => ?_)
    obtain ⟨I_11, eI_11⟩ : ∃ qQ, qQ = gup2 I_10 mo 24 (iI (0)) := ⟨_, rfl⟩
    rw [← eI_11] at hH
    have kI_11 : ∀ b, b ≠ mo → I_11 b = I_10 b := fun b hb => by rw [eI_11]; exact funext fun j => gup2_a _ _ hb
    have w_12 : (I_11 mo 24).toInt = 0 := by rw [eI_11, gup2_s]; exact iI_val ⟨by decide, by decide⟩
    have hv : mInv g gh R I_11 AI := by rw [eI_11]; exact mP24 hv hm (by omega) (by omega)
    have w_12_k2 : (I_11 mo 2).toInt = (I_10 mo 2).toInt := by rw [eI_11, gup2_k _ _ (by decide)]
    have w_12_k5 : (I_11 mo 5).toInt = (I_10 mo 5).toInt := by rw [eI_11, gup2_k _ _ (by decide)]
    have w_12_k14 : (I_11 mo 14).toInt = (I_10 mo 14).toInt := by rw [eI_11, gup2_k _ _ (by decide)]
    have w_12_k16 : (I_11 mo 16).toInt = (I_10 mo 16).toInt := by rw [eI_11, gup2_k _ _ (by decide)]
    have w_12_k18 : (I_11 mo 18).toInt = (I_10 mo 18).toInt := by rw [eI_11, gup2_k _ _ (by decide)]
    have w_12_k20 : (I_11 mo 20).toInt = (I_10 mo 20).toInt := by rw [eI_11, gup2_k _ _ (by decide)]
    have h8q : I_11 mo 8 = I mo 8 ∧ I_11 mo 9 = I mo 9 ∧ I_11 mo 10 = I mo 10 := ⟨(by rw [eI_11]; exact gup2_k _ _ (by decide) : I_11 mo 8 = I_10 mo 8).trans h8q.1, (by rw [eI_11]; exact gup2_k _ _ (by decide) : I_11 mo 9 = I_10 mo 9).trans h8q.2.1, (by rw [eI_11]; exact gup2_k _ _ (by decide) : I_11 mo 10 = I_10 mo 10).trans h8q.2.2⟩
    refine lv_aload_n F.1 F.2.1 dX7_plan_40 rfl (lv_at hl 0 rfl) ?_
    refine z_iconst F dX7_plan_41 ?_
    refine g_putI (ci := 7) (k := 20) F hH hS rfl (by decide) iX7 hm (by decide) tyX7 tyX7_ok nmX7 rfl rfl rfl k84 dX7_plan_42 (fun H locs hH hS => ?_)
    obtain ⟨I_13, eI_13⟩ : ∃ qQ, qQ = gup2 I_11 mo 20 (iI (0)) := ⟨_, rfl⟩
    rw [← eI_13] at hH
    have kI_13 : ∀ b, b ≠ mo → I_13 b = I_11 b := fun b hb => by rw [eI_13]; exact funext fun j => gup2_a _ _ hb
    have w_14 : (I_13 mo 20).toInt = 0 := by rw [eI_13, gup2_s]; exact iI_val ⟨by decide, by decide⟩
    have hv : mInv g gh R I_13 AI := by rw [eI_13]; exact mP20 hv hm (by omega) (by omega)
    have w_14_k2 : (I_13 mo 2).toInt = (I_11 mo 2).toInt := by rw [eI_13, gup2_k _ _ (by decide)]
    have w_14_k5 : (I_13 mo 5).toInt = (I_11 mo 5).toInt := by rw [eI_13, gup2_k _ _ (by decide)]
    have w_14_k14 : (I_13 mo 14).toInt = (I_11 mo 14).toInt := by rw [eI_13, gup2_k _ _ (by decide)]
    have w_14_k16 : (I_13 mo 16).toInt = (I_11 mo 16).toInt := by rw [eI_13, gup2_k _ _ (by decide)]
    have w_14_k18 : (I_13 mo 18).toInt = (I_11 mo 18).toInt := by rw [eI_13, gup2_k _ _ (by decide)]
    have w_14_k24 : (I_13 mo 24).toInt = (I_11 mo 24).toInt := by rw [eI_13, gup2_k _ _ (by decide)]
    have h8q : I_13 mo 8 = I mo 8 ∧ I_13 mo 9 = I mo 9 ∧ I_13 mo 10 = I mo 10 := ⟨(by rw [eI_13]; exact gup2_k _ _ (by decide) : I_13 mo 8 = I_11 mo 8).trans h8q.1, (by rw [eI_13]; exact gup2_k _ _ (by decide) : I_13 mo 9 = I_11 mo 9).trans h8q.2.1, (by rw [eI_13]; exact gup2_k _ _ (by decide) : I_13 mo 10 = I_11 mo 10).trans h8q.2.2⟩
    refine z_iconst F dX7_plan_45 ?_
    refine lv_istore_n (lv' := [(1, .int (iI 0)), (0, .ref mo)]) F.1 F.2.1 dX7_plan_46 rfl hl (by decide) rfl (fun ls hl => ?_)
    refine lv_aload_n F.1 F.2.1 dX7_plan_47 rfl (lv_at hl 1 rfl) ?_
    have b_15 := mJ hv hm
    unfold mNum1 at b_15
    refine g_callv (g_runV (As := []) (rest := []) (ci := 7) F hl.1 hH hS hz (c_X7_nextf l g gh T b nn 0 I_13 R J AI AJ AR mo hv hm hT (by omega) (mTp hv h65 hbM) hr7 (by omega) (by omega) (fun _ => by omega) (Nat.zero_le _)) (cwV 0 F.2.2.2.2.1 (good_up gT_X7_next) rfl rfl rfl hdX7_next ⟨Nat.le_of_ble_eq_true rfl, Nat.le_of_ble_eq_true rfl⟩) hm (by decide) rfl rfl rfl (Nat.le_of_ble_eq_true rfl) dX7_plan_48 ⟨Nat.zero_le _, Nat.zero_le _⟩) hS (fun I_16 R_17 J_18 AI_19 AJ_20 AR_21 H locs hp_22 hH hS => ?_)
    dsimp only at hp_22
    obtain ⟨rfl, rfl, rfl, rfl, hv, pfq, q_23, nx4, nxa, nxb⟩ := hp_22
    have hQ : mQ gh I_16 J_18 AI AJ mo b nn 0 (fun _ => 0) (fun _ => 0) 0 0 := mQ_i (by omega) (nxa (by omega))
    clear nxa nxb
    have h8q : I_16 mo 8 = I mo 8 ∧ I_16 mo 9 = I mo 9 ∧ I_16 mo 10 = I mo 10 := ⟨(pfq 8 (by decide) (by decide) (by decide) (by decide) (by decide)).trans h8q.1, (pfq 9 (by decide) (by decide) (by decide) (by decide) (by decide)).trans h8q.2.1, (pfq 10 (by decide) (by decide) (by decide) (by decide) (by decide)).trans h8q.2.2⟩
    have t2_w := congrArg Int32.toInt (pfq 2 (by decide) (by decide) (by decide) (by decide) (by decide))
    have t5_w := congrArg Int32.toInt (pfq 5 (by decide) (by decide) (by decide) (by decide) (by decide))
    have t14_w := congrArg Int32.toInt (pfq 14 (by decide) (by decide) (by decide) (by decide) (by decide))
    have t16_w := congrArg Int32.toInt (pfq 16 (by decide) (by decide) (by decide) (by decide) (by decide))
    have t18_w := congrArg Int32.toInt (pfq 18 (by decide) (by decide) (by decide) (by decide) (by decide))
    refine lv_aload_n F.1 F.2.1 dX7_plan_51 rfl (lv_at hl 1 rfl) ?_
    refine g_getI (ci := 7) (k := 24) F hH rfl (by decide) iX7 hm (by decide) rfl k81 dX7_plan_52 ?_
    have b_24 := mJ hv hm
    unfold mNum1 at b_24
    refine z_if_ne (tgt := 131) F dX7_plan_55 (by decide) (zr_t _) (fun c_25 => ?_) (fun c_25 => ?_)
    · exact absurd (mQ_0 hQ rfl) (by omega)
    · have cut_58_29 : ∀ (NN : Nat) (bh : Int) (I_26 : gI) (J_27 : gJ) (AI_28 : gI) (AJ_29 : gJ) (H : Heap) (locs : List Loc) (ls : Array Slot), zr bh → (mInv g gh R I_26 AI_28) → (AI_28 (gh 50 0) = T) → ((I_26 mo 20).toInt ≤ 936 ∧ (I_26 mo 24).toInt = 0 ∧ (I_26 mo 16).toInt = 0 ∧ (bh = 0 ∨ bh = 1)) → (Hid (bh = 0 → ∀ r : Int, 0 ≤ r → r < (I_26 mo 5).toInt → tI (AI_28 (gh 53 0)) (40 * r) = 0)) → (∃ (nr : Nat) (nt : Nat → Nat) (cc : Nat → Int) (tb : Int) (hc : Nat), mQ gh I_26 J_27 AI_28 AJ_29 mo b nn nr nt cc 0 hc ∧ sPl b nn = sPar b nn (17 - nr) nr nt cc tb hc ∧ (I_26 mo 5).toInt = (nr : Int) ∧ pBt bh tb nr ∧ sPlF b nn = sParF b nn (17 - nr) nr nt cc tb hc ∧ rowsR b nn nr nt cc (AI_28 (gh 53 0))) → ((I_26 mo 18).toInt = (nn : Int)) → ((I_26 mo 14).toInt = (I mo 14).toInt ∧ (I_26 mo 2).toInt = (I mo 2).toInt) → (∀ b, b ≠ gh 53 0 → AI_28 b = AI b) → (I_26 mo 8 = I mo 8 ∧ I_26 mo 9 = I mo 9 ∧ I_26 mo 10 = I mo 10) → ((17 - (I_26 mo 5).toInt).toNat : Int) < ((NN : Nat) : Int) → gH g I_26 R J_27 AI_28 AJ_29 AR H → va_S (gA g) s.heap H locs → lv_has ls 3 [(1, .int (iI bh)), (0, .ref mo)] → W p l e rmX7_plang s m ([.ref mo] : List Value).toArray below meth c H locs 0 0 (MQ below (gQi g (fun (z : Int) (w : gS) => R = w.2.1 ∧ AR = w.2.2.2.2.2 ∧ (mInv g gh R (w.1) (w.2.2.2.1)) ∧ (((w.1) mo 16).toInt = 0) ∧ (z = sPln b nn) ∧ (plM gh T I (w.1) (w.2.2.2.1) mo b nn z) ∧ (plN gh I AI (w.1) (w.2.2.2.1) mo b nn z) ∧ (plK gh AI (w.2.2.2.1)))) ([.ref mo] : List Value).toArray s 0 0 (gA g)) (F0 m 58 ls []) := by
        intro NN58
        induction NN58 with
        | zero =>
          intro bh I_26 J_27 AI_28 AJ_29 H locs ls zbh hv hT hx vw hLs hsz h214 fA9 h8q hm58 hH hS hl
          exact absurd hm58 (by omega)
        | succ NN58 ih58 =>
          intro bh I_26 J_27 AI_28 AJ_29 H locs ls zbh hv hT hx vw hLs hsz h214 fA9 h8q hm58 hH hS hl
          (try clear b_24); (try clear b_15); (try clear b_8); (try clear b_3)
          obtain ⟨m0, em0⟩ : ∃ q, q = (I_26 mo 5).toInt := ⟨_, rfl⟩
          obtain ⟨nr, nt, cc, tb, hc, hQ, hsq, hn5, hbt, hsF⟩ := hLs
          have hz9 := mQ_0 hQ rfl
          have hE9 := mQ_e hQ rfl
          have hn16 := hE9.1
          obtain ⟨hsF, hrows⟩ := hsF
          refine lv_aload_n F.1 F.2.1 dX7_plan_58 rfl (lv_at hl 1 rfl) ?_
          refine g_getI (ci := 7) (k := 21) F hH rfl (by decide) iX7 hm (by decide) rfl k94 dX7_plan_59 ?_
          have b_31 := mJ hv hm
          unfold mNum1 at b_31
          refine z_if_eq (tgt := 131) F dX7_plan_62 (by decide) (zr_t _) (fun c_32 => ?_) (fun c_32 => ?_)
          · have tk0 := tkM_0 ((mQ_k hQ rfl).symm.trans (by omega))
            have hS0 := sPar_e hsq (Or.inl tk0)
            refine lv_aload_n F.1 F.2.1 dX7_plan_131 rfl (lv_at hl 1 rfl) ?_
            refine g_getI (ci := 7) (k := 24) F hH rfl (by decide) iX7 hm (by decide) rfl k81 dX7_plan_132 ?_
            refine z_if_le (tgt := 146) F dX7_plan_135 (by decide) (zr_t _) (fun c_33 => ?_) (fun c_33 => ?_)
            · have hJ := mJ hv hm
              unfold mNum1 at hJ
              obtain ⟨M9, eM9⟩ : ∃ q, q = (I_26 mo 5).toInt := ⟨_, rfl⟩
              have h169 : (I_26 mo 16).toInt = 0 := by omega
              obtain ⟨A53, eA53⟩ : ∃ f9, f9 = AI_28 (gh 53 0) := ⟨_, rfl⟩
              have h53 : AI_28 (gh 53 0) = A53 := eA53.symm
              have hM9 : M9 = (nr : Int) := by omega
              have hr1 : Hid (∀ r : Nat, r < nr → tI A53 (40 * (r : Int) + 1) = cc r ∧ tI A53 (40 * (r : Int)) = kdT b nn (nt r)) := fun r hr => by rw [eA53]; exact ⟨(hE9.2.1 r hr).2.2.1, hE9.2.2.2 r hr⟩
              have hrw1 : rowsR b nn nr nt cc A53 := by rw [eA53]; exact hrows
              refine lv_aload_n F.1 F.2.1 dX7_plan_146 rfl (lv_at hl 1 rfl) ?_
              refine lv_aload_n F.1 F.2.1 dX7_plan_147 rfl (lv_at hl 1 rfl) ?_
              refine g_getI (ci := 7) (k := 5) F hH rfl (by decide) iX7 hm (by decide) rfl k184 dX7_plan_148 ?_
              refine g_putI (ci := 7) (k := 2) F hH hS rfl (by decide) iX7 hm (by decide) tyX7 tyX7_ok nmX7 rfl rfl rfl k64 dX7_plan_151 (fun H locs hH hS => ?_)
              obtain ⟨I_34, eI_34⟩ : ∃ qQ, qQ = gup2 I_26 mo 2 (iI ((I_26 mo 5).toInt)) := ⟨_, rfl⟩
              rw [← eI_34] at hH
              have kI_34 : ∀ b, b ≠ mo → I_34 b = I_26 b := fun b hb => by rw [eI_34]; exact funext fun j => gup2_a _ _ hb
              have hN := mI hv hm
              have hR9 : ∀ r : Int, 0 ≤ r → r < (I_26 mo 5).toInt → rowOK (AI_28 (gh 53 0)) r := fun r h0 h1 => mRead hv hm h0 h1
              obtain ⟨Iv, eIv⟩ : ∃ q, q = gup2 I_26 mo 2 (iI 0) := ⟨_, rfl⟩
              have hv : mInv g gh R Iv AI_28 := by rw [eIv]; exact mP2_0 hv hm
              have h2v : (Iv mo 2).toInt = 0 := by rw [eIv, gup2_s]; exact iI_val ⟨by decide, by decide⟩
              have h5v : (Iv mo 5).toInt = M9 := by rw [eIv, gup2_k _ _ (by decide)]; exact eM9.symm
              have h8q : I_34 mo 8 = I mo 8 ∧ I_34 mo 9 = I mo 9 ∧ I_34 mo 10 = I mo 10 := ⟨(by rw [eI_34]; exact gup2_k _ _ (by decide) : I_34 mo 8 = I_26 mo 8).trans h8q.1, (by rw [eI_34]; exact gup2_k _ _ (by decide) : I_34 mo 9 = I_26 mo 9).trans h8q.2.1, (by rw [eI_34]; exact gup2_k _ _ (by decide) : I_34 mo 10 = I_26 mo 10).trans h8q.2.2⟩
              refine z_iconst F dX7_plan_154 ?_
              refine lv_istore_n (lv' := [(2, .int (iI 0)), (1, .int (iI bh)), (0, .ref mo)]) F.1 F.2.1 dX7_plan_155 rfl hl (by decide) rfl (fun ls hl => ?_)
              have cut_156_35 : ∀ (NN : Nat) (i : Int) (AI_35 : gI) (H : Heap) (locs : List Loc) (ls : Array Slot), zr i → (0 ≤ i ∧ i ≤ 640) → (mInv g gh R Iv AI_35) → (∀ y : Int, 0 ≤ y → y < i → tI (AI_35 (gh 50 0)) y = tI (AI_35 (gh 53 0)) y) → (AI_35 (gh 53 0) = A53) → (plK gh AI AI_35) → (640 - i) < ((NN : Nat) : Int) → gH g I_34 R J_27 AI_35 AJ_29 AR H → va_S (gA g) s.heap H locs → lv_has ls 3 [(2, .int (iI i)), (1, .int (iI bh)), (0, .ref mo)] → W p l e rmX7_plang s m ([.ref mo] : List Value).toArray below meth c H locs 0 0 (MQ below (gQi g (fun (z : Int) (w : gS) => R = w.2.1 ∧ AR = w.2.2.2.2.2 ∧ (mInv g gh R (w.1) (w.2.2.2.1)) ∧ (((w.1) mo 16).toInt = 0) ∧ (z = sPln b nn) ∧ (plM gh T I (w.1) (w.2.2.2.1) mo b nn z) ∧ (plN gh I AI (w.1) (w.2.2.2.1) mo b nn z) ∧ (plK gh AI (w.2.2.2.1)))) ([.ref mo] : List Value).toArray s 0 0 (gA g)) (F0 m 156 ls []) := by
                intro NN156
                induction NN156 with
                | zero =>
                  intro i AI_35 H locs ls zi hi hv hcp h53 hPK hm156 hH hS hl
                  exact absurd hm156 (by omega)
                | succ NN156 ih156 =>
                  intro i AI_35 H locs ls zi hi hv hcp h53 hPK hm156 hH hS hl
                  refine lv_iload_n F.1 F.2.1 dX7_plan_156 rfl (lv_at hl 0 rfl) ?_
                  refine z_sipush F dX7_plan_157 (by decide) ?_
                  refine z_icmp_ge (tgt := 181) F dX7_plan_160 (by decide) zi ⟨by decide, by decide⟩ (fun c_37 => ?_) (fun c_37 => ?_)
                  · have hrs : Hid (∀ r : Int, 0 ≤ r → r < M9 → rowOK (AI_35 (gh 50 0)) r) := fun r h0 h1 => rowOK_c h0 (fun z a b => hcp z a (by omega)) (mRead hv hm h0 (by omega))
                    have hrw : Hid (∀ r : Nat, r < nr → tI (AI_35 (gh 50 0)) (40 * (r : Int) + 1) = cc r ∧ tI (AI_35 (gh 50 0)) (40 * (r : Int)) = kdT b nn (nt r)) := fun r hr => by rw [hcp _ (by omega) (by omega), hcp _ (by omega) (by omega), h53]; exact hr1 r hr
                    obtain ⟨A50, eA50⟩ : ∃ f9, f9 = AI_35 (gh 50 0) := ⟨_, rfl⟩
                    have hR50 : AI_35 (gh 50 0) = A50 := eA50.symm
                    have hrw2 : rowsR b nn nr nt cc A50 := rows_f (mE_4b hE9) hrw1 (fun z a c => by rw [eA50, hcp z a (by omega), h53])
                    refine z_iconst F dX7_plan_181 ?_
                    refine lv_istore_n (lv' := [(2, .int (iI 0)), (1, .int (iI bh)), (0, .ref mo)]) F.1 F.2.1 dX7_plan_182 rfl hl (by decide) rfl (fun ls hl => ?_)
                    have cut_183_38 : ∀ (NN : Nat) (i2 : Int) (AJ_38 : gJ) (H : Heap) (locs : List Loc) (ls : Array Slot), zr i2 → (0 ≤ i2 ∧ i2 ≤ 16) → (16 - i2) < ((NN : Nat) : Int) → gH g I_34 R J_27 AI_35 AJ_38 AR H → va_S (gA g) s.heap H locs → lv_has ls 3 [(2, .int (iI i2)), (1, .int (iI bh)), (0, .ref mo)] → W p l e rmX7_plang s m ([.ref mo] : List Value).toArray below meth c H locs 0 0 (MQ below (gQi g (fun (z : Int) (w : gS) => R = w.2.1 ∧ AR = w.2.2.2.2.2 ∧ (mInv g gh R (w.1) (w.2.2.2.1)) ∧ (((w.1) mo 16).toInt = 0) ∧ (z = sPln b nn) ∧ (plM gh T I (w.1) (w.2.2.2.1) mo b nn z) ∧ (plN gh I AI (w.1) (w.2.2.2.1) mo b nn z) ∧ (plK gh AI (w.2.2.2.1)))) ([.ref mo] : List Value).toArray s 0 0 (gA g)) (F0 m 183 ls []) := by
                      intro NN183
                      induction NN183 with
                      | zero =>
                        intro i2 AJ_38 H locs ls zi2 hi2 hm183 hH hS hl
                        exact absurd hm183 (by omega)
                      | succ NN183 ih183 =>
                        intro i2 AJ_38 H locs ls zi2 hi2 hm183 hH hS hl
                        refine lv_iload_n F.1 F.2.1 dX7_plan_183 rfl (lv_at hl 0 rfl) ?_
                        refine z_bipush F dX7_plan_184 (by decide) ?_
                        refine z_icmp_ge (tgt := 207) F dX7_plan_186 (by decide) zi2 ⟨by decide, by decide⟩ (fun c_40 => ?_) (fun c_40 => ?_)
                        · refine z_iconst F dX7_plan_207 ?_
                          refine lv_istore_n (lv' := [(2, .int (iI 0)), (1, .int (iI bh)), (0, .ref mo)]) F.1 F.2.1 dX7_plan_208 rfl hl (by decide) rfl (fun ls hl => ?_)
                          have cut_209_41 : ∀ (NN : Nat) (i3 : Int) (AI_41 : gI) (H : Heap) (locs : List Loc) (ls : Array Slot), zr i3 → (0 ≤ i3 ∧ i3 ≤ 176) → (mInv g gh R Iv AI_41) → (∀ r : Int, 0 ≤ r → r < M9 → rowOK (AI_41 (gh 50 0)) r) → (∀ r : Nat, r < nr → tI (AI_41 (gh 50 0)) (40 * (r : Int) + 1) = cc r ∧ tI (AI_41 (gh 50 0)) (40 * (r : Int)) = kdT b nn (nt r)) → (plK gh AI AI_41) → (∀ j : Nat, (j : Int) < i3 → AI_41 (gh 57 0) j = 0) → (AI_41 (gh 50 0) = A50) → (176 - i3) < ((NN : Nat) : Int) → gH g I_34 R J_27 AI_41 AJ_38 AR H → va_S (gA g) s.heap H locs → lv_has ls 3 [(2, .int (iI i3)), (1, .int (iI bh)), (0, .ref mo)] → W p l e rmX7_plang s m ([.ref mo] : List Value).toArray below meth c H locs 0 0 (MQ below (gQi g (fun (z : Int) (w : gS) => R = w.2.1 ∧ AR = w.2.2.2.2.2 ∧ (mInv g gh R (w.1) (w.2.2.2.1)) ∧ (((w.1) mo 16).toInt = 0) ∧ (z = sPln b nn) ∧ (plM gh T I (w.1) (w.2.2.2.1) mo b nn z) ∧ (plN gh I AI (w.1) (w.2.2.2.1) mo b nn z) ∧ (plK gh AI (w.2.2.2.1)))) ([.ref mo] : List Value).toArray s 0 0 (gA g)) (F0 m 209 ls []) := by
                            intro NN209
                            induction NN209 with
                            | zero =>
                              intro i3 AI_41 H locs ls zi3 hi3 hv hrs hrw hPK hz57 hR50 hm209 hH hS hl
                              exact absurd hm209 (by omega)
                            | succ NN209 ih209 =>
                              intro i3 AI_41 H locs ls zi3 hi3 hv hrs hrw hPK hz57 hR50 hm209 hH hS hl
                              refine lv_iload_n F.1 F.2.1 dX7_plan_209 rfl (lv_at hl 0 rfl) ?_
                              refine z_sipush F dX7_plan_210 (by decide) ?_
                              refine z_icmp_ge (tgt := 229) F dX7_plan_213 (by decide) zi3 ⟨by decide, by decide⟩ (fun c_43 => ?_) (fun c_43 => ?_)
                              · refine z_iconst F dX7_plan_229 ?_
                                refine lv_istore_n (lv' := [(2, .int (iI 0)), (1, .int (iI bh)), (0, .ref mo)]) F.1 F.2.1 dX7_plan_230 rfl hl (by decide) rfl (fun ls hl => ?_)
                                have cut_231_44 : ∀ (NN : Nat) (i4 : Int) (AI_44 : gI) (H : Heap) (locs : List Loc) (ls : Array Slot), zr i4 → (0 ≤ i4 ∧ i4 ≤ 16) → (mInv g gh R Iv AI_44) → (∀ r : Int, 0 ≤ r → r < M9 → rowOK (AI_44 (gh 50 0)) r) → (∀ r : Nat, r < nr → tI (AI_44 (gh 50 0)) (40 * (r : Int) + 1) = cc r ∧ tI (AI_44 (gh 50 0)) (40 * (r : Int)) = kdT b nn (nt r)) → (plK gh AI AI_44) → (∀ j : Nat, j < 176 → AI_44 (gh 57 0) j = 0) → (∀ j : Nat, (j : Int) < i4 → AI_44 (gh 79 0) j = 0) → (AI_44 (gh 50 0) = A50) → (16 - i4) < ((NN : Nat) : Int) → gH g I_34 R J_27 AI_44 AJ_38 AR H → va_S (gA g) s.heap H locs → lv_has ls 3 [(2, .int (iI i4)), (1, .int (iI bh)), (0, .ref mo)] → W p l e rmX7_plang s m ([.ref mo] : List Value).toArray below meth c H locs 0 0 (MQ below (gQi g (fun (z : Int) (w : gS) => R = w.2.1 ∧ AR = w.2.2.2.2.2 ∧ (mInv g gh R (w.1) (w.2.2.2.1)) ∧ (((w.1) mo 16).toInt = 0) ∧ (z = sPln b nn) ∧ (plM gh T I (w.1) (w.2.2.2.1) mo b nn z) ∧ (plN gh I AI (w.1) (w.2.2.2.1) mo b nn z) ∧ (plK gh AI (w.2.2.2.1)))) ([.ref mo] : List Value).toArray s 0 0 (gA g)) (F0 m 231 ls []) := by
                                  intro NN231
                                  induction NN231 with
                                  | zero =>
                                    intro i4 AI_44 H locs ls zi4 hi4 hv hrs hrw hPK hz57 hz79 hR50 hm231 hH hS hl
                                    exact absurd hm231 (by omega)
                                  | succ NN231 ih231 =>
                                    intro i4 AI_44 H locs ls zi4 hi4 hv hrs hrw hPK hz57 hz79 hR50 hm231 hH hS hl
                                    refine lv_iload_n F.1 F.2.1 dX7_plan_231 rfl (lv_at hl 0 rfl) ?_
                                    refine z_bipush F dX7_plan_232 (by decide) ?_
                                    refine z_icmp_ge (tgt := 252) F dX7_plan_234 (by decide) zi4 ⟨by decide, by decide⟩ (fun c_46 => ?_) (fun c_46 => ?_)
                                    · refine lv_aload_n F.1 F.2.1 dX7_plan_252 rfl (lv_at hl 2 rfl) ?_
                                      refine z_iconst F dX7_plan_253 ?_
                                      refine g_putI (ci := 7) (k := 8) F hH hS rfl (by decide) iX7 hm (by decide) tyX7 tyX7_ok nmX7 rfl rfl rfl k257 dX7_plan_254 (fun H locs hH hS => ?_)
                                      obtain ⟨I_47, eI_47⟩ : ∃ qQ, qQ = gup2 I_34 mo 8 (iI (0)) := ⟨_, rfl⟩
                                      rw [← eI_47] at hH
                                      have kI_47 : ∀ b, b ≠ mo → I_47 b = I_34 b := fun b hb => by rw [eI_47]; exact funext fun j => gup2_a _ _ hb
                                      refine lv_aload_n F.1 F.2.1 dX7_plan_257 rfl (lv_at hl 2 rfl) ?_
                                      refine z_iconst F dX7_plan_258 ?_
                                      refine g_putI (ci := 7) (k := 9) F hH hS rfl (by decide) iX7 hm (by decide) tyX7 tyX7_ok nmX7 rfl rfl rfl k260 dX7_plan_259 (fun H locs hH hS => ?_)
                                      obtain ⟨I_48, eI_48⟩ : ∃ qQ, qQ = gup2 I_47 mo 9 (iI (0)) := ⟨_, rfl⟩
                                      rw [← eI_48] at hH
                                      have kI_48 : ∀ b, b ≠ mo → I_48 b = I_47 b := fun b hb => by rw [eI_48]; exact funext fun j => gup2_a _ _ hb
                                      refine lv_aload_n F.1 F.2.1 dX7_plan_262 rfl (lv_at hl 2 rfl) ?_
                                      refine z_iconst F dX7_plan_263 ?_
                                      refine g_putI (ci := 7) (k := 10) F hH hS rfl (by decide) iX7 hm (by decide) tyX7 tyX7_ok nmX7 rfl rfl rfl k263 dX7_plan_264 (fun H locs hH hS => ?_)
                                      obtain ⟨I_49, eI_49⟩ : ∃ qQ, qQ = gup2 I_48 mo 10 (iI (0)) := ⟨_, rfl⟩
                                      rw [← eI_49] at hH
                                      have kI_49 : ∀ b, b ≠ mo → I_49 b = I_48 b := fun b hb => by rw [eI_49]; exact funext fun j => gup2_a _ _ hb
                                      refine lv_aload_n F.1 F.2.1 dX7_plan_267 rfl (lv_at hl 2 rfl) ?_
                                      refine z_iconst F dX7_plan_268 ?_
                                      refine g_putI (ci := 7) (k := 14) F hH hS rfl (by decide) iX7 hm (by decide) tyX7 tyX7_ok nmX7 rfl rfl rfl k266 dX7_plan_269 (fun H locs hH hS => ?_)
                                      obtain ⟨I_50, eI_50⟩ : ∃ qQ, qQ = gup2 I_49 mo 14 (iI (0)) := ⟨_, rfl⟩
                                      rw [← eI_50] at hH
                                      have kI_50 : ∀ b, b ≠ mo → I_50 b = I_49 b := fun b hb => by rw [eI_50]; exact funext fun j => gup2_a _ _ hb
                                      obtain ⟨hv, ht16⟩ := mPlan hv hm hN eIv eM9 (I' := I_50) (by rw [eI_50, eI_49, eI_48, eI_47, eI_34, eM9]) hrs
                                      have hz2 : (I_50 mo 2).toInt = M9 := by rw [eI_50, gup2_k _ _ (by decide), eI_49, gup2_k _ _ (by decide), eI_48, gup2_k _ _ (by decide), eI_47, gup2_k _ _ (by decide), eI_34, gup2_s, iI_self]; exact eM9.symm
                                      have hz14 : (I_50 mo 14).toInt = 0 := by rw [eI_50, gup2_s]; exact iI_val ⟨by decide, by decide⟩
                                      have hSF := sParF_e hsF (Or.inl tk0)
                                      have hz10 : (I_50 mo 10).toInt = 0 := by rw [eI_50, gup2_k _ _ (by decide), eI_49, gup2_s]; exact iI_val ⟨by decide, by decide⟩
                                      have hz9 : (I_50 mo 9).toInt = 0 := by rw [eI_50, gup2_k _ _ (by decide), eI_49, gup2_k _ _ (by decide), eI_48, gup2_s]; exact iI_val ⟨by decide, by decide⟩
                                      have hz8 : (I_50 mo 8).toInt = 0 := by rw [eI_50, gup2_k _ _ (by decide), eI_49, gup2_k _ _ (by decide), eI_48, gup2_k _ _ (by decide), eI_47, gup2_s]; exact iI_val ⟨by decide, by decide⟩
                                      refine lv_aload_n F.1 F.2.1 dX7_plan_272 rfl (lv_at hl 2 rfl) ?_
                                      refine g_getI (ci := 7) (k := 2) F hH rfl (by decide) iX7 hm (by decide) rfl k64 dX7_plan_273 ?_
                                      have b_51 := mJ hv hm
                                      unfold mNum1 at b_51
                                      exact g_iret F hr hlk hH hS hz (zr_t _) ⟨rfl, rfl, hv, by first | (dsimp only; omega) | omega | rfl, by (try dsimp only); rw [sPln_y (by omega) (by rw [hS0]), hS0]; (try dsimp only); omega, Or.inr ⟨by (try dsimp only); omega, by (try dsimp only); rw [hSF]; (try dsimp only); omega, by rw [hSF]; exact hrw, hz14⟩, Or.inr ⟨by (try dsimp only); omega, hz57, fun j hj => hz79 j (by omega), hz8, hz9, hz10, by unfold plR; rw [hSF]; (try dsimp only); rw [hR50]; exact hrw2⟩, hPK⟩ dX7_plan_276
                                    · refine lv_aload_n F.1 F.2.1 dX7_plan_237 rfl (lv_at hl 2 rfl) ?_
                                      obtain ⟨r_52a, r_52b⟩ : R mo 29 = some (gh 79 0) ∧ gAr g (gh 79 0) 9 176 := mR hv hm (q := (29, 176)) (by decide)
                                      refine g_getR (ci := 7) (k := 29) F hH rfl (by decide) iX7 hm (by decide) rfl (b := gh 79 0) r_52a k51 dX7_plan_238 ?_
                                      refine z_iconst F dX7_plan_241 ?_
                                      refine lv_iload_n F.1 F.2.1 dX7_plan_242 rfl (lv_at hl 0 rfl) ?_
                                      refine z_iadd F dX7_plan_243 ?_
                                      refine z_iconst F dX7_plan_244 ?_
                                      have hx245 : 0 ≤ (0 + i4) ∧ (0 + i4) < ((176 : Nat) : Int) ∧ (0 + i4) ≤ 2147483647 := ⟨by omega, by omega, by omega⟩
                                      refine g_iast F hH hS r_52b hx245.1 hx245.2.1 hx245.2.2 dX7_plan_245 (fun H locs hH hS => ?_)
                                      obtain ⟨AI_53, eAI_53⟩ : ∃ qQ, qQ = gup2 AI_44 (gh 79 0) ((0 + i4)).toNat (iI (0)) := ⟨_, rfl⟩
                                      rw [← eAI_53] at hH
                                      have kAI_53 : ∀ b, b ≠ (gh 79 0) → AI_53 b = AI_44 b := fun b hb => by rw [eAI_53]; exact funext fun j => gup2_a _ _ hb
                                      have t50 : AI_53 (gh 50 0) = AI_44 (gh 50 0) := mK hv hm (p := (0, 640)) (q := (29, 176)) (by decide) (by decide) (by decide) kAI_53
                                      have hv : mInv g gh R Iv AI_53 := mInv_a hv hm (q := (29, 176)) (by decide) (by decide) kAI_53
                                      have hrs : ∀ r : Int, 0 ≤ r → r < M9 → rowOK (AI_53 (gh 50 0)) r := by rw [t50]; exact hrs
                                      have hrw : ∀ r : Nat, r < nr → tI (AI_53 (gh 50 0)) (40 * (r : Int) + 1) = cc r ∧ tI (AI_53 (gh 50 0)) (40 * (r : Int)) = kdT b nn (nt r) := by rw [t50]; exact hrw
                                      have hPK : plK gh AI AI_53 := plK_t hPK (fun b a9 c9 d9 e9 => kAI_53 b e9)
                                      have hz57 : ∀ j : Nat, j < 176 → AI_53 (gh 57 0) j = 0 := by rw [show AI_53 (gh 57 0) = AI_44 (gh 57 0) from mFr9 hv hm (p := (7, 176)) (q := (29, 176)) (by decide) (by decide) (by decide) kAI_53]; exact hz57
                                      have hz79 : ∀ j : Nat, (j : Int) < i4 + 1 → AI_53 (gh 79 0) j = 0 := fun j hj => z_at (i := 0 + i4) (by omega) eAI_53 (fun j hj => hz79 j (by omega)) j (by omega)
                                      have hR50 : AI_53 (gh 50 0) = A50 := t50.trans hR50
                                      refine z_iinc (lv' := [(2, .int (iI (i4 + 1))), (1, .int (iI bh)), (0, .ref mo)]) F dX7_plan_246 hl (k := 0) rfl (by decide) rfl (fun ls hl => ?_)
                                      refine z_goto (tgt := 231) F dX7_plan_249 (by decide) ?_
                                      exact ih231 (i4 + 1) AI_53 H locs ls ⟨by omega, by omega⟩ (by omega) hv hrs hrw hPK hz57 hz79 hR50 (by omega) hH hS (lv_sub hl [0, 1, 2] rfl)
                                exact cut_231_44 (((16 - 0) + 1 : Int).toNat) 0 AI_41 H locs ls ⟨by decide, by decide⟩ (by omega) hv hrs hrw hPK (fun j hj => hz57 j (by omega)) (fun j hj => absurd hj (by omega)) hR50 (by omega) hH hS (lv_sub hl [0, 1, 2] rfl)
                              · refine lv_aload_n F.1 F.2.1 dX7_plan_216 rfl (lv_at hl 2 rfl) ?_
                                obtain ⟨r_54a, r_54b⟩ : R mo 7 = some (gh 57 0) ∧ gAr g (gh 57 0) 9 176 := mR hv hm (q := (7, 176)) (by decide)
                                refine g_getR (ci := 7) (k := 7) F hH rfl (by decide) iX7 hm (by decide) rfl (b := gh 57 0) r_54a k27 dX7_plan_217 ?_
                                refine lv_iload_n F.1 F.2.1 dX7_plan_220 rfl (lv_at hl 0 rfl) ?_
                                refine z_iconst F dX7_plan_221 ?_
                                have hx222 : 0 ≤ i3 ∧ i3 < ((176 : Nat) : Int) ∧ i3 ≤ 2147483647 := ⟨by omega, by omega, by omega⟩
                                refine g_iast F hH hS r_54b hx222.1 hx222.2.1 hx222.2.2 dX7_plan_222 (fun H locs hH hS => ?_)
                                obtain ⟨AI_55, eAI_55⟩ : ∃ qQ, qQ = gup2 AI_41 (gh 57 0) (i3).toNat (iI (0)) := ⟨_, rfl⟩
                                rw [← eAI_55] at hH
                                have kAI_55 : ∀ b, b ≠ (gh 57 0) → AI_55 b = AI_41 b := fun b hb => by rw [eAI_55]; exact funext fun j => gup2_a _ _ hb
                                have t50 : AI_55 (gh 50 0) = AI_41 (gh 50 0) := mK hv hm (p := (0, 640)) (q := (7, 176)) (by decide) (by decide) (by decide) kAI_55
                                have hv : mInv g gh R Iv AI_55 := mInv_sizes1 hv hm eAI_55 (by omega) (by omega)
                                have hrs : ∀ r : Int, 0 ≤ r → r < M9 → rowOK (AI_55 (gh 50 0)) r := by rw [t50]; exact hrs
                                have hrw : ∀ r : Nat, r < nr → tI (AI_55 (gh 50 0)) (40 * (r : Int) + 1) = cc r ∧ tI (AI_55 (gh 50 0)) (40 * (r : Int)) = kdT b nn (nt r) := by rw [t50]; exact hrw
                                have hPK : plK gh AI AI_55 := plK_t hPK (fun b a9 c9 d9 e9 => kAI_55 b d9)
                                have hz57 := z_at (by omega) eAI_55 hz57
                                have hR50 : AI_55 (gh 50 0) = A50 := t50.trans hR50
                                refine z_iinc (lv' := [(2, .int (iI (i3 + 1))), (1, .int (iI bh)), (0, .ref mo)]) F dX7_plan_223 hl (k := 0) rfl (by decide) rfl (fun ls hl => ?_)
                                refine z_goto (tgt := 209) F dX7_plan_226 (by decide) ?_
                                exact ih209 (i3 + 1) AI_55 H locs ls ⟨by omega, by omega⟩ (by omega) hv hrs hrw hPK hz57 hR50 (by omega) hH hS (lv_sub hl [0, 1, 2] rfl)
                          exact cut_209_41 (((176 - 0) + 1 : Int).toNat) 0 AI_35 H locs ls ⟨by decide, by decide⟩ (by omega) hv hrs hrw hPK (fun j hj => absurd hj (by omega)) hR50 (by omega) hH hS (lv_sub hl [0, 1, 2] rfl)
                        · refine lv_aload_n F.1 F.2.1 dX7_plan_189 rfl (lv_at hl 2 rfl) ?_
                          refine g_getR (ci := 7) (k := 1) F hH rfl (by decide) iX7 hm (by decide) rfl (b := gh 51 0) (hv.1 mo hm).2.2.1.1 k13 dX7_plan_190 ?_
                          refine lv_iload_n F.1 F.2.1 dX7_plan_193 rfl (lv_at hl 0 rfl) ?_
                          refine lv_aload_n F.1 F.2.1 dX7_plan_194 rfl (lv_at hl 2 rfl) ?_
                          refine g_getR (ci := 7) (k := 4) F hH rfl (by decide) iX7 hm (by decide) rfl (b := gh 54 0) (hv.1 mo hm).2.2.2.1 k20 dX7_plan_195 ?_
                          refine lv_iload_n F.1 F.2.1 dX7_plan_198 rfl (lv_at hl 0 rfl) ?_
                          have hx199 : 0 ≤ i2 ∧ i2 < ((16 : Nat) : Int) ∧ i2 ≤ 2147483647 := ⟨by omega, by omega, by omega⟩
                          refine g_lald F hH (hv.1 mo hm).2.2.2.2 hx199.1 hx199.2.1 hx199.2.2 dX7_plan_199 ?_
                          refine lv_topl (fun j_56 ej_56 => ?_)
                          have hx200 : 0 ≤ i2 ∧ i2 < ((16 : Nat) : Int) ∧ i2 ≤ 2147483647 := ⟨by omega, by omega, by omega⟩
                          refine g_last F hH hS (hv.1 mo hm).2.2.1.2 hx200.1 hx200.2.1 hx200.2.2 dX7_plan_200 (fun H locs hH hS => ?_)
                          obtain ⟨AJ_57, eAJ_57⟩ : ∃ qQ, qQ = gup2 AJ_38 (gh 51 0) (i2).toNat (j_56) := ⟨_, rfl⟩
                          rw [← eAJ_57] at hH
                          have kAJ_57 : ∀ b, b ≠ (gh 51 0) → AJ_57 b = AJ_38 b := fun b hb => by rw [eAJ_57]; exact funext fun j => gup2_a _ _ hb
                          refine z_iinc (lv' := [(2, .int (iI (i2 + 1))), (1, .int (iI bh)), (0, .ref mo)]) F dX7_plan_201 hl (k := 0) rfl (by decide) rfl (fun ls hl => ?_)
                          refine z_goto (tgt := 183) F dX7_plan_204 (by decide) ?_
                          exact ih183 (i2 + 1) AJ_57 H locs ls ⟨by omega, by omega⟩ (by omega) (by omega) hH hS (lv_sub hl [0, 1, 2] rfl)
                    exact cut_183_38 (((16 - 0) + 1 : Int).toNat) 0 AJ_29 H locs ls ⟨by decide, by decide⟩ (by omega) (by omega) hH hS (lv_sub hl [0, 1, 2] rfl)
                  · refine lv_aload_n F.1 F.2.1 dX7_plan_163 rfl (lv_at hl 2 rfl) ?_
                    obtain ⟨r_58a, r_58b⟩ : R mo 0 = some (gh 50 0) ∧ gAr g (gh 50 0) 9 640 := mR hv hm (q := (0, 640)) (by decide)
                    refine g_getR (ci := 7) (k := 0) F hH rfl (by decide) iX7 hm (by decide) rfl (b := gh 50 0) r_58a k7 dX7_plan_164 ?_
                    refine lv_iload_n F.1 F.2.1 dX7_plan_167 rfl (lv_at hl 0 rfl) ?_
                    refine lv_aload_n F.1 F.2.1 dX7_plan_168 rfl (lv_at hl 2 rfl) ?_
                    obtain ⟨r_59a, r_59b⟩ : R mo 3 = some (gh 53 0) ∧ gAr g (gh 53 0) 9 640 := mR hv hm (q := (3, 640)) (by decide)
                    refine g_getR (ci := 7) (k := 3) F hH rfl (by decide) iX7 hm (by decide) rfl (b := gh 53 0) r_59a k17 dX7_plan_169 ?_
                    refine lv_iload_n F.1 F.2.1 dX7_plan_172 rfl (lv_at hl 0 rfl) ?_
                    have hx173 : 0 ≤ i ∧ i < ((640 : Nat) : Int) ∧ i ≤ 2147483647 := ⟨by omega, by omega, by omega⟩
                    refine g_iald F hH r_59b hx173.1 hx173.2.1 hx173.2.2 dX7_plan_173 ?_
                    refine z_name (fun v_60 ev_60 => ?_)
                    have zv_60 : zr v_60 := by rw [ev_60]; exact zr_t _
                    have hx174 : 0 ≤ i ∧ i < ((640 : Nat) : Int) ∧ i ≤ 2147483647 := ⟨by omega, by omega, by omega⟩
                    refine g_iast F hH hS r_58b hx174.1 hx174.2.1 hx174.2.2 dX7_plan_174 (fun H locs hH hS => ?_)
                    obtain ⟨AI_61, eAI_61⟩ : ∃ qQ, qQ = gup2 AI_35 (gh 50 0) (i).toNat (iI (v_60)) := ⟨_, rfl⟩
                    rw [← eAI_61] at hH
                    have kAI_61 : ∀ b, b ≠ (gh 50 0) → AI_61 b = AI_35 b := fun b hb => by rw [eAI_61]; exact funext fun j => gup2_a _ _ hb
                    have h53 : AI_61 (gh 53 0) = A53 := (mK hv hm (p := (3, 640)) (q := (0, 640)) (by decide) (by decide) (by decide) kAI_61).trans h53
                    have hcp2 := mCp hv hm (by omega) eAI_61 ev_60 hcp
                    have hv : mInv g gh R Iv AI_61 := mInv_told0 hv hm h2v eAI_61
                    have hPK : plK gh AI AI_61 := plK_t hPK (fun b a9 c9 d9 e9 => kAI_61 b a9)
                    refine z_iinc (lv' := [(2, .int (iI (i + 1))), (1, .int (iI bh)), (0, .ref mo)]) F dX7_plan_175 hl (k := 0) rfl (by decide) rfl (fun ls hl => ?_)
                    refine z_goto (tgt := 156) F dX7_plan_178 (by decide) ?_
                    exact ih156 (i + 1) AI_61 H locs ls ⟨by omega, by omega⟩ (by omega) hv (by first | exact hcp2 | exact (fun y h0 h1 => absurd h1 (by omega))) h53 hPK (by omega) hH hS (lv_sub hl [0, 1, 2] rfl)
              exact cut_156_35 (((640 - 0) + 1 : Int).toNat) 0 AI_28 H locs ls ⟨by decide, by decide⟩ (by omega) hv (by first | exact hcp2 | exact (fun y h0 h1 => absurd h1 (by omega))) h53 (fun b _ h9 _ _ => (fun b hb => fA9 b hb) b h9) (by omega) hH hS (lv_sub hl [0, 1, 2] rfl)
            · exact absurd (mQ_0 hQ rfl) (by omega)
          · have tk0 : pK b nn hc ≠ 0 := mQ_kn hQ rfl (c := 0) rfl (by omega)
            refine lv_aload_n F.1 F.2.1 dX7_plan_65 rfl (lv_at hl 1 rfl) ?_
            refine va_ldcS F.1 F.2.1 F.2.2.2.1 (F.2.2.2.2.2.2.1 7 _ rfl).1 dX7_plan_66 ?_
            refine g_calli (g_runV (As := [.ref (gSK g 7)]) (rest := []) (ci := 7) F hl.1 hH hS hz (c_X7_isWordf l g gh T 7 _ 0 b nn nr nt cc 0 hc I_26 R J_27 AI_28 AJ_29 AR mo hv hm hT (rfl : sTab[7]? = some _) (by decide) (by decide +kernel) h65 hbM hr7 (by omega) hn9 (by omega) hQ) (cwV 1 F.2.2.2.2.1 (good_up gT_X7_isWord) rfl rfl rfl hdX7_isWord ⟨Nat.le_of_ble_eq_true rfl, Nat.le_of_ble_eq_true rfl⟩) hm (by decide) rfl rfl rfl (Nat.le_of_ble_eq_true rfl) dX7_plan_68 ⟨Nat.zero_le _, Nat.zero_le _⟩) hS (fun v_68 I_62 R_63 J_64 AI_65 AJ_66 AR_67 H locs zv_68 hp_69 hH hS => ?_)
            dsimp only at hp_69
            obtain ⟨rfl, rfl, rfl, rfl, rfl, rfl, q_70, q_71⟩ := hp_69
            refine z_if_eq (tgt := 82) F dX7_plan_71 (by decide) zv_68 (fun c_72 => ?_) (fun c_72 => ?_)
            · have t_73 := tIz_n q_71 (by omega)
              refine lv_aload_n F.1 F.2.1 dX7_plan_82 rfl (lv_at hl 1 rfl) ?_
              refine va_ldcS F.1 F.2.1 F.2.2.2.1 (F.2.2.2.2.2.2.1 8 _ rfl).1 dX7_plan_83 ?_
              refine g_calli (g_runV (As := [.ref (gSK g 8)]) (rest := []) (ci := 7) F hl.1 hH hS hz (c_X7_isWordf l g gh T 8 _ 9 b nn nr nt cc 0 hc I_26 R J_27 AI_28 AJ_29 AR mo hv hm hT (rfl : sTab[8]? = some _) (by decide) (by decide +kernel) h65 hbM hr7 (by omega) hn9 (by omega) hQ) (cwV 1 F.2.2.2.2.1 (good_up gT_X7_isWord) rfl rfl rfl hdX7_isWord ⟨Nat.le_of_ble_eq_true rfl, Nat.le_of_ble_eq_true rfl⟩) hm (by decide) rfl rfl rfl (Nat.le_of_ble_eq_true rfl) dX7_plan_85 ⟨Nat.zero_le _, Nat.zero_le _⟩) hS (fun v_80 I_74 R_75 J_76 AI_77 AJ_78 AR_79 H locs zv_80 hp_81 hH hS => ?_)
              dsimp only at hp_81
              obtain ⟨rfl, rfl, rfl, rfl, rfl, rfl, q_82, q_83⟩ := hp_81
              refine z_if_eq (tgt := 100) F dX7_plan_88 (by decide) zv_80 (fun c_84 => ?_) (fun c_84 => ?_)
              · have t_85 := tIz_n q_83 (by omega)
                refine lv_aload_n F.1 F.2.1 dX7_plan_100 rfl (lv_at hl 1 rfl) ?_
                refine z_iconst F dX7_plan_101 ?_
                refine g_callv (g_runV (As := [.int (iI 1)]) (rest := []) (ci := 7) F hl.1 hH hS hz (c_X7_wrongf l g gh T b nn nr nt cc 0 hc I_26 R J_27 AI_28 AJ_29 AR mo 1 ⟨by decide, by decide⟩ hv hm hT (by omega) h65 hbM hr7 (by omega) hn9 (by omega) hQ) (cwV 1 F.2.2.2.2.1 (good_up gT_X7_wrong) rfl rfl rfl hdX7_wrong ⟨Nat.le_of_ble_eq_true rfl, Nat.le_of_ble_eq_true rfl⟩) hm (by decide) rfl rfl rfl (Nat.le_of_ble_eq_true rfl) dX7_plan_102 ⟨Nat.zero_le _, Nat.zero_le _⟩) hS (fun I_86 R_87 J_88 AI_89 AJ_90 AR_91 H locs hp_92 hH hS => ?_)
                dsimp only at hp_92
                obtain ⟨r_93, er_93⟩ : ∃ qQ : pR, qQ = thn (0, hc, 0) (fun t _ => (1, t, 0)) := ⟨_, rfl⟩
                rw [← er_93] at hp_92
                obtain ⟨rfl, rfl, rfl, rfl, rfl, hv, pfq, q_94, hQ⟩ := hp_92
                have er_93 : r_93 = (1, hc, 0) := er_93
                have hQ : mQ gh I_86 J_27 AI_28 AJ_29 mo b nn nr nt cc 1 hc := by rw [er_93] at hQ; exact hQ
                have q9_r_93 : (1 : Int) ≠ 0 := by omega
                have g9_r_93 := mQ_f hQ q9_r_93
                have h8q : I_86 mo 8 = I mo 8 ∧ I_86 mo 9 = I mo 9 ∧ I_86 mo 10 = I mo 10 := ⟨(pfq 8 (by decide) (by decide) (by decide) (by decide) (by decide)).trans h8q.1, (pfq 9 (by decide) (by decide) (by decide) (by decide) (by decide)).trans h8q.2.1, (pfq 10 (by decide) (by decide) (by decide) (by decide) (by decide)).trans h8q.2.2⟩
                have t2_w := congrArg Int32.toInt (pfq 2 (by decide) (by decide) (by decide) (by decide) (by decide))
                have t5_w := congrArg Int32.toInt (pfq 5 (by decide) (by decide) (by decide) (by decide) (by decide))
                have t14_w := congrArg Int32.toInt (pfq 14 (by decide) (by decide) (by decide) (by decide) (by decide))
                have t16_w := congrArg Int32.toInt (pfq 16 (by decide) (by decide) (by decide) (by decide) (by decide))
                have t18_w := congrArg Int32.toInt (pfq 18 (by decide) (by decide) (by decide) (by decide) (by decide))
                have g9k := mQ_f hQ (by omega)
                have g9p := mQ_p hQ
                have h105k : Hid ((I_86 mo 24).toInt = 0 → m0 ≤ 15 ∧ (bh = 0 → ∀ r : Int, 0 ≤ r → r < m0 + 1 → tI (AI_28 (gh 53 0)) (40 * r) = 0)) := fun hf => absurd hf (by omega)
                have h105r : Hid ((I_86 mo 24).toInt = 0 → (I_86 mo 21).toInt = 4 → (I_86 mo 23).toInt = 59 → rowOK (AI_28 (gh 53 0)) m0) := fun hf => absurd hf (by omega)
                refine lv_aload_n F.1 F.2.1 dX7_plan_105 rfl (lv_at hl 1 rfl) ?_
                refine z_bipush F dX7_plan_106 (by decide) ?_
                have b_95 := mJ hv hm
                unfold mNum1 at b_95
                refine g_callv (g_runV (As := [.int (iI 59)]) (rest := []) (ci := 7) F hl.1 hH hS hz (c_X7_mustSignf l g gh T b nn nr nt cc 1 hc I_86 R J_27 AI_28 AJ_29 AR mo 59 ⟨by decide, by decide⟩ hv hm hT (by omega) h65 hbM hr7 (by omega) hn9 (by omega) (by omega) hQ) (cwV 1 F.2.2.2.2.1 (good_up gT_X7_mustSign) rfl rfl rfl hdX7_mustSign ⟨Nat.le_of_ble_eq_true rfl, Nat.le_of_ble_eq_true rfl⟩) hm (by decide) rfl rfl rfl (Nat.le_of_ble_eq_true rfl) dX7_plan_108 ⟨Nat.zero_le _, Nat.zero_le _⟩) hS (fun I_96 R_97 J_98 AI_99 AJ_100 AR_101 H locs hp_102 hH hS => ?_)
                dsimp only at hp_102
                obtain ⟨r_103, er_103⟩ : ∃ qQ : pR, qQ = thn (1, hc, 0) (fun t _ => sTk b nn 59 t) := ⟨_, rfl⟩
                rw [← er_103] at hp_102
                obtain ⟨rfl, rfl, rfl, rfl, hv, pfq, q_104, q_105, hQ⟩ := hp_102
                rw [thn_b (by omega)] at er_103
                have hQ : mQ gh I_96 J_98 AI_28 AJ_29 mo b nn nr nt cc 1 hc := by rw [er_103] at hQ; exact hQ
                replace q_105 := hid q_105
                have h8q : I_96 mo 8 = I mo 8 ∧ I_96 mo 9 = I mo 9 ∧ I_96 mo 10 = I mo 10 := ⟨(pfq 8 (by decide) (by decide) (by decide) (by decide) (by decide)).trans h8q.1, (pfq 9 (by decide) (by decide) (by decide) (by decide) (by decide)).trans h8q.2.1, (pfq 10 (by decide) (by decide) (by decide) (by decide) (by decide)).trans h8q.2.2⟩
                have t2_w := congrArg Int32.toInt (pfq 2 (by decide) (by decide) (by decide) (by decide) (by decide))
                have t5_w := congrArg Int32.toInt (pfq 5 (by decide) (by decide) (by decide) (by decide) (by decide))
                have t14_w := congrArg Int32.toInt (pfq 14 (by decide) (by decide) (by decide) (by decide) (by decide))
                have t16_w := congrArg Int32.toInt (pfq 16 (by decide) (by decide) (by decide) (by decide) (by decide))
                have t18_w := congrArg Int32.toInt (pfq 18 (by decide) (by decide) (by decide) (by decide) (by decide))
                refine lv_aload_n F.1 F.2.1 dX7_plan_111 rfl (lv_at hl 1 rfl) ?_
                refine g_getI (ci := 7) (k := 24) F hH rfl (by decide) iX7 hm (by decide) rfl k81 dX7_plan_112 ?_
                have b_106 := mJ hv hm
                unfold mNum1 at b_106
                refine z_if_ne (tgt := 51) F dX7_plan_115 (by decide) (zr_t _) (fun c_107 => ?_) (fun c_107 => ?_)
                · refine lv_aload_n F.1 F.2.1 dX7_plan_51 rfl (lv_at hl 1 rfl) ?_
                  refine g_getI (ci := 7) (k := 24) F hH rfl (by decide) iX7 hm (by decide) rfl k81 dX7_plan_52 ?_
                  refine z_if_ne (tgt := 131) F dX7_plan_55 (by decide) (zr_t _) (fun c_108 => ?_) (fun c_108 => ?_)
                  · refine lv_aload_n F.1 F.2.1 dX7_plan_131 rfl (lv_at hl 1 rfl) ?_
                    refine g_getI (ci := 7) (k := 24) F hH rfl (by decide) iX7 hm (by decide) rfl k81 dX7_plan_132 ?_
                    refine z_if_le (tgt := 146) F dX7_plan_135 (by decide) (zr_t _) (fun c_109 => ?_) (fun c_109 => ?_)
                    · exact absurd (mQ_f hQ (by omega)) (by have := mQ_p hQ; omega)
                    · refine z_bipush F dX7_plan_138 (by decide) ?_
                      refine lv_aload_n F.1 F.2.1 dX7_plan_140 rfl (lv_at hl 1 rfl) ?_
                      refine g_getI (ci := 7) (k := 24) F hH rfl (by decide) iX7 hm (by decide) rfl k81 dX7_plan_141 ?_
                      refine z_isub F dX7_plan_144 ?_
                      have hLn : sLine b nn nr nt cc tb hc = (1, hc, 0) := sLn_n (by omega) (by omega)
                      have hS9 := sPar_n hsq (f := 16 - nr) (by omega) tk0 hLn.symm (by omega)
                      have g9z := mQ_f hQ (by omega)
                      exact g_iret F hr hlk hH hS hz ⟨by omega, by omega⟩ ⟨rfl, rfl, hv, by first | (dsimp only; omega) | omega | rfl, by (try dsimp only); rw [sPln_n (by omega) (by rw [hS9]; (try dsimp only); omega), hS9]; (try dsimp only); omega, Or.inl ⟨by (try dsimp only); omega, hT, by (try dsimp only); omega, by (try dsimp only); omega⟩, Or.inl ⟨by (try dsimp only); omega, mFr9 hv hm (p := (7, 176)) (q := (3, 640)) (by decide) (by decide) (by decide) (fun b hb => fA9 b hb), mFr9 hv hm (p := (29, 176)) (q := (3, 640)) (by decide) (by decide) (by decide) (fun b hb => fA9 b hb), h8q.1, h8q.2.1, h8q.2.2⟩, fun b _ h9 _ _ => (fun b hb => fA9 b hb) b h9⟩ dX7_plan_145
                  · exact absurd trivial (by omega)
                · exact absurd (mQ_z hQ (by omega)) (by omega)
              · have t_110 := tIz_y q_83 (by omega)
                refine z_iconst F dX7_plan_91 ?_
                refine lv_istore_n (lv' := [(1, .int (iI 1)), (0, .ref mo)]) F.1 F.2.1 dX7_plan_92 rfl hl (by decide) rfl (fun ls hl => ?_)
                refine lv_aload_n F.1 F.2.1 dX7_plan_93 rfl (lv_at hl 1 rfl) ?_
                refine g_callv (g_runV (As := []) (rest := []) (ci := 7) F hl.1 hH hS hz (c_X7_viewToldg l g gh T m0 b nn nr nt cc 0 hc I_26 R J_27 AI_28 AJ_29 AR mo hv hm hT (by omega) (by omega) h65 hbM hr7 (by omega) hn9 (by omega) hQ) (cwV 0 F.2.2.2.2.1 (good_up gT_X7_viewTold) rfl rfl rfl hdX7_viewTold ⟨Nat.le_of_ble_eq_true rfl, Nat.le_of_ble_eq_true rfl⟩) hm (by decide) rfl rfl rfl (Nat.le_of_ble_eq_true rfl) dX7_plan_94 ⟨Nat.zero_le _, Nat.zero_le _⟩) hS (fun I_111 R_112 J_113 AI_114 AJ_115 AR_116 H locs hp_117 hH hS => ?_)
                dsimp only at hp_117
                obtain ⟨r_118, er_118⟩ : ∃ qQ : pR, qQ = thn (0, hc, 0) (fun t _ => sVwM b nn nr nt cc t) := ⟨_, rfl⟩
                rw [← er_118] at hp_117
                obtain ⟨rfl, rfl, hv, hT, pfq, q_119, hrow, q_120, hk1, hQ, q_121, q_122, q_123, hfrq, mcq, q_124⟩ := hp_117
                have er_118 : r_118 = sVwM b nn nr nt cc hc := er_118
                by_cases pr_118 : r_118.1 = 0
                · have hQ := mQ_ok hQ pr_118
                  have z9r_118 := mQ_0 hQ rfl
                  have vlr_118_8 := q_121 pr_118
                  have vlr_118_9 := q_122 pr_118
                  have vlr_118_10 := q_123 pr_118
                  have kq_120 := q_120 (mQ_0 hQ rfl)
                  replace hrow := hid hrow
                  replace q_120 := hid q_120
                  replace hk1 := hid hk1
                  have mc9 := mcq pr_118
                  have fr9 := hfrq pr_118
                  have h8q : I_111 mo 8 = I mo 8 ∧ I_111 mo 9 = I mo 9 ∧ I_111 mo 10 = I mo 10 := ⟨(pfq 8 (by decide) (by decide) (by decide) (by decide) (by decide)).trans h8q.1, (pfq 9 (by decide) (by decide) (by decide) (by decide) (by decide)).trans h8q.2.1, (pfq 10 (by decide) (by decide) (by decide) (by decide) (by decide)).trans h8q.2.2⟩
                  have t2_w := congrArg Int32.toInt (pfq 2 (by decide) (by decide) (by decide) (by decide) (by decide))
                  have t5_w := congrArg Int32.toInt (pfq 5 (by decide) (by decide) (by decide) (by decide) (by decide))
                  have t14_w := congrArg Int32.toInt (pfq 14 (by decide) (by decide) (by decide) (by decide) (by decide))
                  have t16_w := congrArg Int32.toInt (pfq 16 (by decide) (by decide) (by decide) (by decide) (by decide))
                  have t18_w := congrArg Int32.toInt (pfq 18 (by decide) (by decide) (by decide) (by decide) (by decide))
                  have h105k : Hid ((I_111 mo 24).toInt = 0 → m0 ≤ 15 ∧ (1 = 0 → ∀ r : Int, 0 ≤ r → r < m0 + 1 → tI (AI_114 (gh 53 0)) (40 * r) = 0)) := fun hf => ⟨by omega, fun h => absurd h (by omega)⟩
                  have h105r : Hid ((I_111 mo 24).toInt = 0 → (I_111 mo 21).toInt = 4 → (I_111 mo 23).toInt = 59 → rowOK (AI_114 (gh 53 0)) m0) := hrow
                  refine z_goto (tgt := 105) F dX7_plan_97 (by decide) ?_
                  refine lv_aload_n F.1 F.2.1 dX7_plan_105 rfl (lv_at hl 1 rfl) ?_
                  refine z_bipush F dX7_plan_106 (by decide) ?_
                  have b_125 := mJ hv hm
                  unfold mNum1 at b_125
                  refine g_callv (g_runV (As := [.int (iI 59)]) (rest := []) (ci := 7) F hl.1 hH hS hz (c_X7_mustSignf l g gh T b nn nr nt cc 0 r_118.2.1 I_111 R J_113 AI_114 AJ_115 AR mo 59 ⟨by decide, by decide⟩ hv hm hT (by omega) h65 hbM hr7 (by omega) hn9 (by omega) (by omega) hQ) (cwV 1 F.2.2.2.2.1 (good_up gT_X7_mustSign) rfl rfl rfl hdX7_mustSign ⟨Nat.le_of_ble_eq_true rfl, Nat.le_of_ble_eq_true rfl⟩) hm (by decide) rfl rfl rfl (Nat.le_of_ble_eq_true rfl) dX7_plan_108 ⟨Nat.zero_le _, Nat.zero_le _⟩) hS (fun I_126 R_127 J_128 AI_129 AJ_130 AR_131 H locs hp_132 hH hS => ?_)
                  dsimp only at hp_132
                  obtain ⟨r_133, er_133⟩ : ∃ qQ : pR, qQ = thn (0, r_118.2.1, 0) (fun t _ => sTk b nn 59 t) := ⟨_, rfl⟩
                  rw [← er_133] at hp_132
                  obtain ⟨rfl, rfl, rfl, rfl, hv, pfq, q_134, q_135, hQ⟩ := hp_132
                  have er_133 : r_133 = sTk b nn 59 r_118.2.1 := er_133
                  have sr_133 := er_133
                  rcases sTk_c er_133 with ⟨er_133, pr_133⟩ | ⟨er_133, pr_133⟩
                  · have hQ : mQ gh I_126 J_128 AI_114 AJ_115 mo b nn nr nt cc 0 (r_118.2.1 + 1) := by rw [er_133] at hQ; exact hQ
                    have sr_133 : sTk b nn 59 r_118.2.1 = (0, r_118.2.1 + 1, 0) := sr_133.symm.trans er_133
                    have kq_135 := q_135 (mQ_0 hQ rfl)
                    replace q_135 := hid q_135
                    have h8q : I_126 mo 8 = I mo 8 ∧ I_126 mo 9 = I mo 9 ∧ I_126 mo 10 = I mo 10 := ⟨(pfq 8 (by decide) (by decide) (by decide) (by decide) (by decide)).trans h8q.1, (pfq 9 (by decide) (by decide) (by decide) (by decide) (by decide)).trans h8q.2.1, (pfq 10 (by decide) (by decide) (by decide) (by decide) (by decide)).trans h8q.2.2⟩
                    have t2_w := congrArg Int32.toInt (pfq 2 (by decide) (by decide) (by decide) (by decide) (by decide))
                    have t5_w := congrArg Int32.toInt (pfq 5 (by decide) (by decide) (by decide) (by decide) (by decide))
                    have t14_w := congrArg Int32.toInt (pfq 14 (by decide) (by decide) (by decide) (by decide) (by decide))
                    have t16_w := congrArg Int32.toInt (pfq 16 (by decide) (by decide) (by decide) (by decide) (by decide))
                    have t18_w := congrArg Int32.toInt (pfq 18 (by decide) (by decide) (by decide) (by decide) (by decide))
                    refine lv_aload_n F.1 F.2.1 dX7_plan_111 rfl (lv_at hl 1 rfl) ?_
                    refine g_getI (ci := 7) (k := 24) F hH rfl (by decide) iX7 hm (by decide) rfl k81 dX7_plan_112 ?_
                    have b_136 := mJ hv hm
                    unfold mNum1 at b_136
                    refine z_if_ne (tgt := 51) F dX7_plan_115 (by decide) (zr_t _) (fun c_137 => ?_) (fun c_137 => ?_)
                    · exact absurd (mQ_0 hQ rfl) (by omega)
                    · refine lv_aload_n F.1 F.2.1 dX7_plan_118 rfl (lv_at hl 1 rfl) ?_
                      refine lv_dup F.1 F.2.1 dX7_plan_119 rfl ?_
                      refine g_getI (ci := 7) (k := 5) F hH rfl (by decide) iX7 hm (by decide) rfl k184 dX7_plan_120 ?_
                      refine z_iconst F dX7_plan_123 ?_
                      refine z_iadd F dX7_plan_124 ?_
                      refine g_putI (ci := 7) (k := 5) F hH hS rfl (by decide) iX7 hm (by decide) tyX7 tyX7_ok nmX7 rfl rfl rfl k184 dX7_plan_125 (fun H locs hH hS => ?_)
                      obtain ⟨I_138, eI_138⟩ : ∃ qQ, qQ = gup2 I_126 mo 5 (iI (((I_126 mo 5).toInt) + 1)) := ⟨_, rfl⟩
                      rw [← eI_138] at hH
                      have kI_138 : ∀ b, b ≠ mo → I_138 b = I_126 b := fun b hb => by rw [eI_138]; exact funext fun j => gup2_a _ _ hb
                      have hv : mInv g gh R I_138 AI_114 := by rw [eI_138]; exact mP5 hv hm rfl (by omega) (by rw [show (I_126 mo 5).toInt = m0 by omega]; exact h105r (by omega) (by omega) (by omega))
                      have kq5 : (I_138 mo 5).toInt = m0 + 1 := by rw [eI_138, gup2_s, iI_val ⟨by omega, by omega⟩]; omega
                      have kq2 : (I_138 mo 2).toInt = (I_126 mo 2).toInt := by rw [eI_138, gup2_k _ _ (by decide)]
                      have kq14 : (I_138 mo 14).toInt = (I_126 mo 14).toInt := by rw [eI_138, gup2_k _ _ (by decide)]
                      have kq16 : (I_138 mo 16).toInt = (I_126 mo 16).toInt := by rw [eI_138, gup2_k _ _ (by decide)]
                      have kq18 : (I_138 mo 18).toInt = (I_126 mo 18).toInt := by rw [eI_138, gup2_k _ _ (by decide)]
                      have kq20 : (I_138 mo 20).toInt = (I_126 mo 20).toInt := by rw [eI_138, gup2_k _ _ (by decide)]
                      have kq24 : (I_138 mo 24).toInt = (I_126 mo 24).toInt := by rw [eI_138, gup2_k _ _ (by decide)]
                      have hLn : sLine b nn nr nt cc tb hc = (0, r_118.2.1 + 1, r_118.2.2) := (sLn_v (mE_4 hE9) (by omega)).trans (thn_y er_118 pr_118 (if_pos pr_133))
                      have hcw := mCol hv hm (z := m0) (by omega) (by omega)
                      have hcx9 : tI (AI_114 (gh 53 0)) (40 * (nr : Int) + 1) = r_118.2.2 := vlr_118_8 pr_133
                      rw [show m0 = (nr : Int) by omega, hcx9] at hcw
                      have hnm9 := sLn_nm hLn.symm tk0 rfl
                      have hQ : mQ gh I_138 J_128 AI_114 AJ_115 mo b nn (nr + 1) (sUp nt nr (hc + 1)) (sUp cc nr r_118.2.2) 0 (r_118.2.1 + 1) := mQ_keep hQ (by omega) (fun j hj => by rw [eI_138]; exact gup2_k _ _ hj) hnm9.1 vlr_118_9 hcx9 hcw hnm9.2 (vlr_118_10.trans (kdT_v (by omega)).symm)
                      have hsq := sPar_s (tb2 := tb) hsq (f := 16 - nr) (by omega) tk0 hLn.symm rfl (by rw [if_neg (by omega)])
                      have hsF := sParF_s (tb2 := tb) hsF (f := 16 - nr) (by omega) tk0 hLn.symm rfl (by rw [if_neg (by omega)])
                      have hbt2 : pBt 1 (tb) (nr + 1) := pBt_v hbt
                      have h8q : I_138 mo 8 = I mo 8 ∧ I_138 mo 9 = I mo 9 ∧ I_138 mo 10 = I mo 10 := ⟨(by rw [eI_138]; exact gup2_k _ _ (by decide) : I_138 mo 8 = I_126 mo 8).trans h8q.1, (by rw [eI_138]; exact gup2_k _ _ (by decide) : I_138 mo 9 = I_126 mo 9).trans h8q.2.1, (by rw [eI_138]; exact gup2_k _ _ (by decide) : I_138 mo 10 = I_126 mo 10).trans h8q.2.2⟩
                      have hg9 := (sLine_LG (b := b) (n := nn) (nr := nr) (nt := nt) (cl := cc) (tb := tb) (h := hc) (by rw [hLn])).1
                      rw [hLn] at hg9; dsimp only at hg9
                      rw [show m0 = (nr : Int) by omega] at mc9 fr9
                      have hrows := rows_s hrows (mE_4b hE9) hg9 fr9 (by rw [kdT_v (by omega)]; exact mc9)
                      refine z_goto (tgt := 51) F dX7_plan_128 (by decide) ?_
                      refine lv_aload_n F.1 F.2.1 dX7_plan_51 rfl (lv_at hl 1 rfl) ?_
                      refine g_getI (ci := 7) (k := 24) F hH rfl (by decide) iX7 hm (by decide) rfl k81 dX7_plan_52 ?_
                      have b_139 := mJ hv hm
                      unfold mNum1 at b_139
                      refine z_if_ne (tgt := 131) F dX7_plan_55 (by decide) (zr_t _) (fun c_140 => ?_) (fun c_140 => ?_)
                      · exact absurd (mQ_0 hQ rfl) (by omega)
                      · exact ih58 1 I_138 J_128 AI_114 AJ_115 H locs ls ⟨by decide, by decide⟩ hv hT (by omega) (by first | exact (fun _ r h0 h1 => absurd h1 (by omega)) | exact (fun hb r h0 h1 => (h105k (by omega)).2 hb r h0 (by omega))) ⟨nr + 1, _, _, _, _, hQ, by rw [show 17 - (nr + 1) = 16 - nr by omega]; exact hsq, by omega, hbt2, by rw [show 17 - (nr + 1) = 16 - nr by omega]; exact hsF, hrows⟩ (by omega) (by omega) (fun b hb => (q_124 b hb).trans (fA9 b hb)) h8q (by omega) hH hS (lv_sub hl [0, 1] rfl)
                  · have hQ : mQ gh I_126 J_128 AI_114 AJ_115 mo b nn nr nt cc 1 r_118.2.1 := by rw [er_133] at hQ; exact hQ
                    have sr_133 := sr_133.symm.trans er_133
                    have g9r_133 := mQ_f hQ (by omega)
                    replace q_135 := hid q_135
                    have h8q : I_126 mo 8 = I mo 8 ∧ I_126 mo 9 = I mo 9 ∧ I_126 mo 10 = I mo 10 := ⟨(pfq 8 (by decide) (by decide) (by decide) (by decide) (by decide)).trans h8q.1, (pfq 9 (by decide) (by decide) (by decide) (by decide) (by decide)).trans h8q.2.1, (pfq 10 (by decide) (by decide) (by decide) (by decide) (by decide)).trans h8q.2.2⟩
                    have t2_w := congrArg Int32.toInt (pfq 2 (by decide) (by decide) (by decide) (by decide) (by decide))
                    have t5_w := congrArg Int32.toInt (pfq 5 (by decide) (by decide) (by decide) (by decide) (by decide))
                    have t14_w := congrArg Int32.toInt (pfq 14 (by decide) (by decide) (by decide) (by decide) (by decide))
                    have t16_w := congrArg Int32.toInt (pfq 16 (by decide) (by decide) (by decide) (by decide) (by decide))
                    have t18_w := congrArg Int32.toInt (pfq 18 (by decide) (by decide) (by decide) (by decide) (by decide))
                    refine lv_aload_n F.1 F.2.1 dX7_plan_111 rfl (lv_at hl 1 rfl) ?_
                    refine g_getI (ci := 7) (k := 24) F hH rfl (by decide) iX7 hm (by decide) rfl k81 dX7_plan_112 ?_
                    have b_141 := mJ hv hm
                    unfold mNum1 at b_141
                    refine z_if_ne (tgt := 51) F dX7_plan_115 (by decide) (zr_t _) (fun c_142 => ?_) (fun c_142 => ?_)
                    · refine lv_aload_n F.1 F.2.1 dX7_plan_51 rfl (lv_at hl 1 rfl) ?_
                      refine g_getI (ci := 7) (k := 24) F hH rfl (by decide) iX7 hm (by decide) rfl k81 dX7_plan_52 ?_
                      refine z_if_ne (tgt := 131) F dX7_plan_55 (by decide) (zr_t _) (fun c_143 => ?_) (fun c_143 => ?_)
                      · refine lv_aload_n F.1 F.2.1 dX7_plan_131 rfl (lv_at hl 1 rfl) ?_
                        refine g_getI (ci := 7) (k := 24) F hH rfl (by decide) iX7 hm (by decide) rfl k81 dX7_plan_132 ?_
                        refine z_if_le (tgt := 146) F dX7_plan_135 (by decide) (zr_t _) (fun c_144 => ?_) (fun c_144 => ?_)
                        · exact absurd (mQ_f hQ (by omega)) (by have := mQ_p hQ; omega)
                        · refine z_bipush F dX7_plan_138 (by decide) ?_
                          refine lv_aload_n F.1 F.2.1 dX7_plan_140 rfl (lv_at hl 1 rfl) ?_
                          refine g_getI (ci := 7) (k := 24) F hH rfl (by decide) iX7 hm (by decide) rfl k81 dX7_plan_141 ?_
                          refine z_isub F dX7_plan_144 ?_
                          have hLn : sLine b nn nr nt cc tb hc = (1, r_118.2.1, 0) := (sLn_v (mE_4 hE9) (by omega)).trans (thn_y er_118 pr_118 (if_neg pr_133))
                          have hS9 := sPar_n hsq (f := 16 - nr) (by omega) tk0 hLn.symm (by omega)
                          have g9z := mQ_f hQ (by omega)
                          exact g_iret F hr hlk hH hS hz ⟨by omega, by omega⟩ ⟨rfl, rfl, hv, by first | (dsimp only; omega) | omega | rfl, by (try dsimp only); rw [sPln_n (by omega) (by rw [hS9]; (try dsimp only); omega), hS9]; (try dsimp only); omega, Or.inl ⟨by (try dsimp only); omega, hT, by (try dsimp only); omega, by (try dsimp only); omega⟩, Or.inl ⟨by (try dsimp only); omega, mFr9 hv hm (p := (7, 176)) (q := (3, 640)) (by decide) (by decide) (by decide) (fun b hb => (q_124 b hb).trans (fA9 b hb)), mFr9 hv hm (p := (29, 176)) (q := (3, 640)) (by decide) (by decide) (by decide) (fun b hb => (q_124 b hb).trans (fA9 b hb)), h8q.1, h8q.2.1, h8q.2.2⟩, fun b _ h9 _ _ => (fun b hb => (q_124 b hb).trans (fA9 b hb)) b h9⟩ dX7_plan_145
                      · exact absurd trivial (by omega)
                    · exact absurd (mQ_z hQ (by omega)) (by omega)
                · have g9r_118 := mQ_f hQ pr_118
                  have g8r_118 := mQ_p hQ
                  replace hrow := hid hrow
                  replace q_120 := hid q_120
                  replace hk1 := hid hk1
                  have h8q : I_111 mo 8 = I mo 8 ∧ I_111 mo 9 = I mo 9 ∧ I_111 mo 10 = I mo 10 := ⟨(pfq 8 (by decide) (by decide) (by decide) (by decide) (by decide)).trans h8q.1, (pfq 9 (by decide) (by decide) (by decide) (by decide) (by decide)).trans h8q.2.1, (pfq 10 (by decide) (by decide) (by decide) (by decide) (by decide)).trans h8q.2.2⟩
                  have t2_w := congrArg Int32.toInt (pfq 2 (by decide) (by decide) (by decide) (by decide) (by decide))
                  have t5_w := congrArg Int32.toInt (pfq 5 (by decide) (by decide) (by decide) (by decide) (by decide))
                  have t14_w := congrArg Int32.toInt (pfq 14 (by decide) (by decide) (by decide) (by decide) (by decide))
                  have t16_w := congrArg Int32.toInt (pfq 16 (by decide) (by decide) (by decide) (by decide) (by decide))
                  have t18_w := congrArg Int32.toInt (pfq 18 (by decide) (by decide) (by decide) (by decide) (by decide))
                  have g9k := mQ_f hQ (by omega)
                  have g9p := mQ_p hQ
                  have h105k : Hid ((I_111 mo 24).toInt = 0 → m0 ≤ 15 ∧ (1 = 0 → ∀ r : Int, 0 ≤ r → r < m0 + 1 → tI (AI_114 (gh 53 0)) (40 * r) = 0)) := fun hf => absurd hf (by omega)
                  have h105r : Hid ((I_111 mo 24).toInt = 0 → (I_111 mo 21).toInt = 4 → (I_111 mo 23).toInt = 59 → rowOK (AI_114 (gh 53 0)) m0) := fun hf => absurd hf (by omega)
                  refine z_goto (tgt := 105) F dX7_plan_97 (by decide) ?_
                  refine lv_aload_n F.1 F.2.1 dX7_plan_105 rfl (lv_at hl 1 rfl) ?_
                  refine z_bipush F dX7_plan_106 (by decide) ?_
                  have b_145 := mJ hv hm
                  unfold mNum1 at b_145
                  refine g_callv (g_runV (As := [.int (iI 59)]) (rest := []) (ci := 7) F hl.1 hH hS hz (c_X7_mustSignf l g gh T b nn nr nt cc r_118.1 r_118.2.1 I_111 R J_113 AI_114 AJ_115 AR mo 59 ⟨by decide, by decide⟩ hv hm hT (by omega) h65 hbM hr7 (by omega) hn9 (by omega) (by omega) hQ) (cwV 1 F.2.2.2.2.1 (good_up gT_X7_mustSign) rfl rfl rfl hdX7_mustSign ⟨Nat.le_of_ble_eq_true rfl, Nat.le_of_ble_eq_true rfl⟩) hm (by decide) rfl rfl rfl (Nat.le_of_ble_eq_true rfl) dX7_plan_108 ⟨Nat.zero_le _, Nat.zero_le _⟩) hS (fun I_146 R_147 J_148 AI_149 AJ_150 AR_151 H locs hp_152 hH hS => ?_)
                  dsimp only at hp_152
                  obtain ⟨r_153, er_153⟩ : ∃ qQ : pR, qQ = thn (r_118.1, r_118.2.1, 0) (fun t _ => sTk b nn 59 t) := ⟨_, rfl⟩
                  rw [← er_153] at hp_152
                  obtain ⟨rfl, rfl, rfl, rfl, hv, pfq, q_154, q_155, hQ⟩ := hp_152
                  rw [thn_b (by omega)] at er_153
                  have hQ : mQ gh I_146 J_148 AI_114 AJ_115 mo b nn nr nt cc r_118.1 r_118.2.1 := by rw [er_153] at hQ; exact hQ
                  replace q_155 := hid q_155
                  have h8q : I_146 mo 8 = I mo 8 ∧ I_146 mo 9 = I mo 9 ∧ I_146 mo 10 = I mo 10 := ⟨(pfq 8 (by decide) (by decide) (by decide) (by decide) (by decide)).trans h8q.1, (pfq 9 (by decide) (by decide) (by decide) (by decide) (by decide)).trans h8q.2.1, (pfq 10 (by decide) (by decide) (by decide) (by decide) (by decide)).trans h8q.2.2⟩
                  have t2_w := congrArg Int32.toInt (pfq 2 (by decide) (by decide) (by decide) (by decide) (by decide))
                  have t5_w := congrArg Int32.toInt (pfq 5 (by decide) (by decide) (by decide) (by decide) (by decide))
                  have t14_w := congrArg Int32.toInt (pfq 14 (by decide) (by decide) (by decide) (by decide) (by decide))
                  have t16_w := congrArg Int32.toInt (pfq 16 (by decide) (by decide) (by decide) (by decide) (by decide))
                  have t18_w := congrArg Int32.toInt (pfq 18 (by decide) (by decide) (by decide) (by decide) (by decide))
                  refine lv_aload_n F.1 F.2.1 dX7_plan_111 rfl (lv_at hl 1 rfl) ?_
                  refine g_getI (ci := 7) (k := 24) F hH rfl (by decide) iX7 hm (by decide) rfl k81 dX7_plan_112 ?_
                  have b_156 := mJ hv hm
                  unfold mNum1 at b_156
                  refine z_if_ne (tgt := 51) F dX7_plan_115 (by decide) (zr_t _) (fun c_157 => ?_) (fun c_157 => ?_)
                  · refine lv_aload_n F.1 F.2.1 dX7_plan_51 rfl (lv_at hl 1 rfl) ?_
                    refine g_getI (ci := 7) (k := 24) F hH rfl (by decide) iX7 hm (by decide) rfl k81 dX7_plan_52 ?_
                    refine z_if_ne (tgt := 131) F dX7_plan_55 (by decide) (zr_t _) (fun c_158 => ?_) (fun c_158 => ?_)
                    · refine lv_aload_n F.1 F.2.1 dX7_plan_131 rfl (lv_at hl 1 rfl) ?_
                      refine g_getI (ci := 7) (k := 24) F hH rfl (by decide) iX7 hm (by decide) rfl k81 dX7_plan_132 ?_
                      refine z_if_le (tgt := 146) F dX7_plan_135 (by decide) (zr_t _) (fun c_159 => ?_) (fun c_159 => ?_)
                      · exact absurd (mQ_f hQ (by omega)) (by have := mQ_p hQ; omega)
                      · refine z_bipush F dX7_plan_138 (by decide) ?_
                        refine lv_aload_n F.1 F.2.1 dX7_plan_140 rfl (lv_at hl 1 rfl) ?_
                        refine g_getI (ci := 7) (k := 24) F hH rfl (by decide) iX7 hm (by decide) rfl k81 dX7_plan_141 ?_
                        refine z_isub F dX7_plan_144 ?_
                        have hLn : sLine b nn nr nt cc tb hc = r_118 := (sLn_v (mE_4 hE9) (by omega)).trans (thn_x er_118 pr_118)
                        have hS9 := sPar_n hsq (f := 16 - nr) (by omega) tk0 hLn.symm (by omega)
                        have g9z := mQ_f hQ (by omega)
                        exact g_iret F hr hlk hH hS hz ⟨by omega, by omega⟩ ⟨rfl, rfl, hv, by first | (dsimp only; omega) | omega | rfl, by (try dsimp only); rw [sPln_n (by omega) (by rw [hS9]; (try dsimp only); omega), hS9]; (try dsimp only); omega, Or.inl ⟨by (try dsimp only); omega, hT, by (try dsimp only); omega, by (try dsimp only); omega⟩, Or.inl ⟨by (try dsimp only); omega, mFr9 hv hm (p := (7, 176)) (q := (3, 640)) (by decide) (by decide) (by decide) (fun b hb => (q_124 b hb).trans (fA9 b hb)), mFr9 hv hm (p := (29, 176)) (q := (3, 640)) (by decide) (by decide) (by decide) (fun b hb => (q_124 b hb).trans (fA9 b hb)), h8q.1, h8q.2.1, h8q.2.2⟩, fun b _ h9 _ _ => (fun b hb => (q_124 b hb).trans (fA9 b hb)) b h9⟩ dX7_plan_145
                    · exact absurd trivial (by omega)
                  · exact absurd (mQ_z hQ (by omega)) (by omega)
            · have t_160 := tIz_y q_71 (by omega)
              refine lv_aload_n F.1 F.2.1 dX7_plan_74 rfl (lv_at hl 1 rfl) ?_
              refine lv_iload_n F.1 F.2.1 dX7_plan_75 rfl (lv_at hl 0 rfl) ?_
              refine g_callv (g_runV (As := [.int (iI bh)]) (rest := []) (ci := 7) F hl.1 hH hS hz (c_X7_tableToldg l g gh T m0 b nn nr nt cc 0 hc I_26 R J_27 AI_28 AJ_29 AR mo bh zbh hv hm hT (by omega) (by omega) (by omega) (fun hb r h0 h1 => vw hb r h0 (by omega)) h65 hbM hr7 (by omega) hn9 (by omega) hQ) (cwV 1 F.2.2.2.2.1 (good_up gT_X7_tableTold) rfl rfl rfl hdX7_tableTold ⟨Nat.le_of_ble_eq_true rfl, Nat.le_of_ble_eq_true rfl⟩) hm (by decide) rfl rfl rfl (Nat.le_of_ble_eq_true rfl) dX7_plan_76 ⟨Nat.zero_le _, Nat.zero_le _⟩) hS (fun I_161 R_162 J_163 AI_164 AJ_165 AR_166 H locs hp_167 hH hS => ?_)
              dsimp only at hp_167
              obtain ⟨r_168, er_168⟩ : ∃ qQ : pR, qQ = thn (0, hc, 0) (fun t _ => sTbM b nn nr nt bh t) := ⟨_, rfl⟩
              rw [← er_168] at hp_167
              obtain ⟨rfl, rfl, hv, hT, pfq, q_169, hrow, hk0, hQ, q_170, q_171, hfrq, mcq, q_172⟩ := hp_167
              have er_168 : r_168 = sTbM b nn nr nt bh hc := er_168
              by_cases pr_168 : r_168.1 = 0
              · have hQ := mQ_ok hQ pr_168
                have z9r_168 := mQ_0 hQ rfl
                have vlr_168_7 := q_170 pr_168
                have vlr_168_8 := q_171 pr_168
                have khk0 := hk0 (mQ_0 hQ rfl)
                replace hrow := hid hrow
                replace hk0 := hid hk0
                have mc9 := mcq pr_168
                have fr9 := hfrq pr_168
                have h8q : I_161 mo 8 = I mo 8 ∧ I_161 mo 9 = I mo 9 ∧ I_161 mo 10 = I mo 10 := ⟨(pfq 8 (by decide) (by decide) (by decide) (by decide) (by decide)).trans h8q.1, (pfq 9 (by decide) (by decide) (by decide) (by decide) (by decide)).trans h8q.2.1, (pfq 10 (by decide) (by decide) (by decide) (by decide) (by decide)).trans h8q.2.2⟩
                have t2_w := congrArg Int32.toInt (pfq 2 (by decide) (by decide) (by decide) (by decide) (by decide))
                have t5_w := congrArg Int32.toInt (pfq 5 (by decide) (by decide) (by decide) (by decide) (by decide))
                have t14_w := congrArg Int32.toInt (pfq 14 (by decide) (by decide) (by decide) (by decide) (by decide))
                have t16_w := congrArg Int32.toInt (pfq 16 (by decide) (by decide) (by decide) (by decide) (by decide))
                have t18_w := congrArg Int32.toInt (pfq 18 (by decide) (by decide) (by decide) (by decide) (by decide))
                have h105k : Hid ((I_161 mo 24).toInt = 0 → m0 ≤ 15 ∧ (bh = 0 → ∀ r : Int, 0 ≤ r → r < m0 + 1 → tI (AI_164 (gh 53 0)) (40 * r) = 0)) := fun hf => ⟨by omega, fun _ => (hk0 hf).2.2⟩
                have h105r : Hid ((I_161 mo 24).toInt = 0 → (I_161 mo 21).toInt = 4 → (I_161 mo 23).toInt = 59 → rowOK (AI_164 (gh 53 0)) m0) := hrow
                have hb0 := (hk0 (mQ_0 hQ rfl)).2.1
                have hkd9 : tI (AI_164 (gh 53 0)) (40 * (nr : Int)) = 0 := by have q9 := (hk0 (mQ_0 hQ rfl)).2.2 m0 (by omega) (by omega); rw [show m0 = (nr : Int) by omega] at q9; exact q9
                refine z_goto (tgt := 105) F dX7_plan_79 (by decide) ?_
                refine lv_aload_n F.1 F.2.1 dX7_plan_105 rfl (lv_at hl 1 rfl) ?_
                refine z_bipush F dX7_plan_106 (by decide) ?_
                have b_173 := mJ hv hm
                unfold mNum1 at b_173
                refine g_callv (g_runV (As := [.int (iI 59)]) (rest := []) (ci := 7) F hl.1 hH hS hz (c_X7_mustSignf l g gh T b nn nr nt cc 0 r_168.2.1 I_161 R J_163 AI_164 AJ_165 AR mo 59 ⟨by decide, by decide⟩ hv hm hT (by omega) h65 hbM hr7 (by omega) hn9 (by omega) (by omega) hQ) (cwV 1 F.2.2.2.2.1 (good_up gT_X7_mustSign) rfl rfl rfl hdX7_mustSign ⟨Nat.le_of_ble_eq_true rfl, Nat.le_of_ble_eq_true rfl⟩) hm (by decide) rfl rfl rfl (Nat.le_of_ble_eq_true rfl) dX7_plan_108 ⟨Nat.zero_le _, Nat.zero_le _⟩) hS (fun I_174 R_175 J_176 AI_177 AJ_178 AR_179 H locs hp_180 hH hS => ?_)
                dsimp only at hp_180
                obtain ⟨r_181, er_181⟩ : ∃ qQ : pR, qQ = thn (0, r_168.2.1, 0) (fun t _ => sTk b nn 59 t) := ⟨_, rfl⟩
                rw [← er_181] at hp_180
                obtain ⟨rfl, rfl, rfl, rfl, hv, pfq, q_182, q_183, hQ⟩ := hp_180
                have er_181 : r_181 = sTk b nn 59 r_168.2.1 := er_181
                have sr_181 := er_181
                rcases sTk_c er_181 with ⟨er_181, pr_181⟩ | ⟨er_181, pr_181⟩
                · have hQ : mQ gh I_174 J_176 AI_164 AJ_165 mo b nn nr nt cc 0 (r_168.2.1 + 1) := by rw [er_181] at hQ; exact hQ
                  have sr_181 : sTk b nn 59 r_168.2.1 = (0, r_168.2.1 + 1, 0) := sr_181.symm.trans er_181
                  have kq_183 := q_183 (mQ_0 hQ rfl)
                  replace q_183 := hid q_183
                  have h8q : I_174 mo 8 = I mo 8 ∧ I_174 mo 9 = I mo 9 ∧ I_174 mo 10 = I mo 10 := ⟨(pfq 8 (by decide) (by decide) (by decide) (by decide) (by decide)).trans h8q.1, (pfq 9 (by decide) (by decide) (by decide) (by decide) (by decide)).trans h8q.2.1, (pfq 10 (by decide) (by decide) (by decide) (by decide) (by decide)).trans h8q.2.2⟩
                  have t2_w := congrArg Int32.toInt (pfq 2 (by decide) (by decide) (by decide) (by decide) (by decide))
                  have t5_w := congrArg Int32.toInt (pfq 5 (by decide) (by decide) (by decide) (by decide) (by decide))
                  have t14_w := congrArg Int32.toInt (pfq 14 (by decide) (by decide) (by decide) (by decide) (by decide))
                  have t16_w := congrArg Int32.toInt (pfq 16 (by decide) (by decide) (by decide) (by decide) (by decide))
                  have t18_w := congrArg Int32.toInt (pfq 18 (by decide) (by decide) (by decide) (by decide) (by decide))
                  refine lv_aload_n F.1 F.2.1 dX7_plan_111 rfl (lv_at hl 1 rfl) ?_
                  refine g_getI (ci := 7) (k := 24) F hH rfl (by decide) iX7 hm (by decide) rfl k81 dX7_plan_112 ?_
                  have b_184 := mJ hv hm
                  unfold mNum1 at b_184
                  refine z_if_ne (tgt := 51) F dX7_plan_115 (by decide) (zr_t _) (fun c_185 => ?_) (fun c_185 => ?_)
                  · exact absurd (mQ_0 hQ rfl) (by omega)
                  · refine lv_aload_n F.1 F.2.1 dX7_plan_118 rfl (lv_at hl 1 rfl) ?_
                    refine lv_dup F.1 F.2.1 dX7_plan_119 rfl ?_
                    refine g_getI (ci := 7) (k := 5) F hH rfl (by decide) iX7 hm (by decide) rfl k184 dX7_plan_120 ?_
                    refine z_iconst F dX7_plan_123 ?_
                    refine z_iadd F dX7_plan_124 ?_
                    refine g_putI (ci := 7) (k := 5) F hH hS rfl (by decide) iX7 hm (by decide) tyX7 tyX7_ok nmX7 rfl rfl rfl k184 dX7_plan_125 (fun H locs hH hS => ?_)
                    obtain ⟨I_186, eI_186⟩ : ∃ qQ, qQ = gup2 I_174 mo 5 (iI (((I_174 mo 5).toInt) + 1)) := ⟨_, rfl⟩
                    rw [← eI_186] at hH
                    have kI_186 : ∀ b, b ≠ mo → I_186 b = I_174 b := fun b hb => by rw [eI_186]; exact funext fun j => gup2_a _ _ hb
                    have hv : mInv g gh R I_186 AI_164 := by rw [eI_186]; exact mP5 hv hm rfl (by omega) (by rw [show (I_174 mo 5).toInt = m0 by omega]; exact h105r (by omega) (by omega) (by omega))
                    have kq5 : (I_186 mo 5).toInt = m0 + 1 := by rw [eI_186, gup2_s, iI_val ⟨by omega, by omega⟩]; omega
                    have kq2 : (I_186 mo 2).toInt = (I_174 mo 2).toInt := by rw [eI_186, gup2_k _ _ (by decide)]
                    have kq14 : (I_186 mo 14).toInt = (I_174 mo 14).toInt := by rw [eI_186, gup2_k _ _ (by decide)]
                    have kq16 : (I_186 mo 16).toInt = (I_174 mo 16).toInt := by rw [eI_186, gup2_k _ _ (by decide)]
                    have kq18 : (I_186 mo 18).toInt = (I_174 mo 18).toInt := by rw [eI_186, gup2_k _ _ (by decide)]
                    have kq20 : (I_186 mo 20).toInt = (I_174 mo 20).toInt := by rw [eI_186, gup2_k _ _ (by decide)]
                    have kq24 : (I_186 mo 24).toInt = (I_174 mo 24).toInt := by rw [eI_186, gup2_k _ _ (by decide)]
                    have hLn : sLine b nn nr nt cc tb hc = (0, r_168.2.1 + 1, r_168.2.2) := (sLn_t (by omega) (pBt_i hbt)).trans (thn_y er_168 pr_168 (if_pos pr_181))
                    have hcw := mCol hv hm (z := m0) (by omega) (by omega)
                    have hcx9 : tI (AI_164 (gh 53 0)) (40 * (nr : Int) + 1) = r_168.2.2 := vlr_168_7 pr_181
                    rw [show m0 = (nr : Int) by omega, hcx9] at hcw
                    have hnm9 := sLn_nm hLn.symm tk0 rfl
                    have hQ : mQ gh I_186 J_176 AI_164 AJ_165 mo b nn (nr + 1) (sUp nt nr (hc + 1)) (sUp cc nr r_168.2.2) 0 (r_168.2.1 + 1) := mQ_keep hQ (by omega) (fun j hj => by rw [eI_186]; exact gup2_k _ _ hj) hnm9.1 vlr_168_8 hcx9 hcw hnm9.2 (hkd9.trans (kdT_t (by omega)).symm)
                    have hsq := sPar_s (tb2 := tb + 1) hsq (f := 16 - nr) (by omega) tk0 hLn.symm rfl (by rw [if_pos (by omega)])
                    have hsF := sParF_s (tb2 := tb + 1) hsF (f := 16 - nr) (by omega) tk0 hLn.symm rfl (by rw [if_pos (by omega)])
                    have hbt2 : pBt bh (tb + 1) (nr + 1) := pBt_t hbt hb0
                    have h8q : I_186 mo 8 = I mo 8 ∧ I_186 mo 9 = I mo 9 ∧ I_186 mo 10 = I mo 10 := ⟨(by rw [eI_186]; exact gup2_k _ _ (by decide) : I_186 mo 8 = I_174 mo 8).trans h8q.1, (by rw [eI_186]; exact gup2_k _ _ (by decide) : I_186 mo 9 = I_174 mo 9).trans h8q.2.1, (by rw [eI_186]; exact gup2_k _ _ (by decide) : I_186 mo 10 = I_174 mo 10).trans h8q.2.2⟩
                    have hg9 := (sLine_LG (b := b) (n := nn) (nr := nr) (nt := nt) (cl := cc) (tb := tb) (h := hc) (by rw [hLn])).1
                    rw [hLn] at hg9; dsimp only at hg9
                    rw [show m0 = (nr : Int) by omega] at mc9 fr9
                    have hrows := rows_s hrows (mE_4b hE9) hg9 fr9 (mLn_0 (kdT_t (by omega)) mc9)
                    refine z_goto (tgt := 51) F dX7_plan_128 (by decide) ?_
                    refine lv_aload_n F.1 F.2.1 dX7_plan_51 rfl (lv_at hl 1 rfl) ?_
                    refine g_getI (ci := 7) (k := 24) F hH rfl (by decide) iX7 hm (by decide) rfl k81 dX7_plan_52 ?_
                    have b_187 := mJ hv hm
                    unfold mNum1 at b_187
                    refine z_if_ne (tgt := 131) F dX7_plan_55 (by decide) (zr_t _) (fun c_188 => ?_) (fun c_188 => ?_)
                    · exact absurd (mQ_0 hQ rfl) (by omega)
                    · exact ih58 bh I_186 J_176 AI_164 AJ_165 H locs ls zbh hv hT (by omega) (by first | exact (fun _ r h0 h1 => absurd h1 (by omega)) | exact (fun hb r h0 h1 => (h105k (by omega)).2 hb r h0 (by omega))) ⟨nr + 1, _, _, _, _, hQ, by rw [show 17 - (nr + 1) = 16 - nr by omega]; exact hsq, by omega, hbt2, by rw [show 17 - (nr + 1) = 16 - nr by omega]; exact hsF, hrows⟩ (by omega) (by omega) (fun b hb => (q_172 b hb).trans (fA9 b hb)) h8q (by omega) hH hS (lv_sub hl [0, 1] rfl)
                · have hQ : mQ gh I_174 J_176 AI_164 AJ_165 mo b nn nr nt cc 1 r_168.2.1 := by rw [er_181] at hQ; exact hQ
                  have sr_181 := sr_181.symm.trans er_181
                  have g9r_181 := mQ_f hQ (by omega)
                  replace q_183 := hid q_183
                  have h8q : I_174 mo 8 = I mo 8 ∧ I_174 mo 9 = I mo 9 ∧ I_174 mo 10 = I mo 10 := ⟨(pfq 8 (by decide) (by decide) (by decide) (by decide) (by decide)).trans h8q.1, (pfq 9 (by decide) (by decide) (by decide) (by decide) (by decide)).trans h8q.2.1, (pfq 10 (by decide) (by decide) (by decide) (by decide) (by decide)).trans h8q.2.2⟩
                  have t2_w := congrArg Int32.toInt (pfq 2 (by decide) (by decide) (by decide) (by decide) (by decide))
                  have t5_w := congrArg Int32.toInt (pfq 5 (by decide) (by decide) (by decide) (by decide) (by decide))
                  have t14_w := congrArg Int32.toInt (pfq 14 (by decide) (by decide) (by decide) (by decide) (by decide))
                  have t16_w := congrArg Int32.toInt (pfq 16 (by decide) (by decide) (by decide) (by decide) (by decide))
                  have t18_w := congrArg Int32.toInt (pfq 18 (by decide) (by decide) (by decide) (by decide) (by decide))
                  refine lv_aload_n F.1 F.2.1 dX7_plan_111 rfl (lv_at hl 1 rfl) ?_
                  refine g_getI (ci := 7) (k := 24) F hH rfl (by decide) iX7 hm (by decide) rfl k81 dX7_plan_112 ?_
                  have b_189 := mJ hv hm
                  unfold mNum1 at b_189
                  refine z_if_ne (tgt := 51) F dX7_plan_115 (by decide) (zr_t _) (fun c_190 => ?_) (fun c_190 => ?_)
                  · refine lv_aload_n F.1 F.2.1 dX7_plan_51 rfl (lv_at hl 1 rfl) ?_
                    refine g_getI (ci := 7) (k := 24) F hH rfl (by decide) iX7 hm (by decide) rfl k81 dX7_plan_52 ?_
                    refine z_if_ne (tgt := 131) F dX7_plan_55 (by decide) (zr_t _) (fun c_191 => ?_) (fun c_191 => ?_)
                    · refine lv_aload_n F.1 F.2.1 dX7_plan_131 rfl (lv_at hl 1 rfl) ?_
                      refine g_getI (ci := 7) (k := 24) F hH rfl (by decide) iX7 hm (by decide) rfl k81 dX7_plan_132 ?_
                      refine z_if_le (tgt := 146) F dX7_plan_135 (by decide) (zr_t _) (fun c_192 => ?_) (fun c_192 => ?_)
                      · exact absurd (mQ_f hQ (by omega)) (by have := mQ_p hQ; omega)
                      · refine z_bipush F dX7_plan_138 (by decide) ?_
                        refine lv_aload_n F.1 F.2.1 dX7_plan_140 rfl (lv_at hl 1 rfl) ?_
                        refine g_getI (ci := 7) (k := 24) F hH rfl (by decide) iX7 hm (by decide) rfl k81 dX7_plan_141 ?_
                        refine z_isub F dX7_plan_144 ?_
                        have hLn : sLine b nn nr nt cc tb hc = (1, r_168.2.1, 0) := (sLn_t (by omega) (pBt_i hbt)).trans (thn_y er_168 pr_168 (if_neg pr_181))
                        have hS9 := sPar_n hsq (f := 16 - nr) (by omega) tk0 hLn.symm (by omega)
                        have g9z := mQ_f hQ (by omega)
                        exact g_iret F hr hlk hH hS hz ⟨by omega, by omega⟩ ⟨rfl, rfl, hv, by first | (dsimp only; omega) | omega | rfl, by (try dsimp only); rw [sPln_n (by omega) (by rw [hS9]; (try dsimp only); omega), hS9]; (try dsimp only); omega, Or.inl ⟨by (try dsimp only); omega, hT, by (try dsimp only); omega, by (try dsimp only); omega⟩, Or.inl ⟨by (try dsimp only); omega, mFr9 hv hm (p := (7, 176)) (q := (3, 640)) (by decide) (by decide) (by decide) (fun b hb => (q_172 b hb).trans (fA9 b hb)), mFr9 hv hm (p := (29, 176)) (q := (3, 640)) (by decide) (by decide) (by decide) (fun b hb => (q_172 b hb).trans (fA9 b hb)), h8q.1, h8q.2.1, h8q.2.2⟩, fun b _ h9 _ _ => (fun b hb => (q_172 b hb).trans (fA9 b hb)) b h9⟩ dX7_plan_145
                    · exact absurd trivial (by omega)
                  · exact absurd (mQ_z hQ (by omega)) (by omega)
              · have g9r_168 := mQ_f hQ pr_168
                have g8r_168 := mQ_p hQ
                replace hrow := hid hrow
                replace hk0 := hid hk0
                have h8q : I_161 mo 8 = I mo 8 ∧ I_161 mo 9 = I mo 9 ∧ I_161 mo 10 = I mo 10 := ⟨(pfq 8 (by decide) (by decide) (by decide) (by decide) (by decide)).trans h8q.1, (pfq 9 (by decide) (by decide) (by decide) (by decide) (by decide)).trans h8q.2.1, (pfq 10 (by decide) (by decide) (by decide) (by decide) (by decide)).trans h8q.2.2⟩
                have t2_w := congrArg Int32.toInt (pfq 2 (by decide) (by decide) (by decide) (by decide) (by decide))
                have t5_w := congrArg Int32.toInt (pfq 5 (by decide) (by decide) (by decide) (by decide) (by decide))
                have t14_w := congrArg Int32.toInt (pfq 14 (by decide) (by decide) (by decide) (by decide) (by decide))
                have t16_w := congrArg Int32.toInt (pfq 16 (by decide) (by decide) (by decide) (by decide) (by decide))
                have t18_w := congrArg Int32.toInt (pfq 18 (by decide) (by decide) (by decide) (by decide) (by decide))
                have g9k := mQ_f hQ (by omega)
                have g9p := mQ_p hQ
                have h105k : Hid ((I_161 mo 24).toInt = 0 → m0 ≤ 15 ∧ (bh = 0 → ∀ r : Int, 0 ≤ r → r < m0 + 1 → tI (AI_164 (gh 53 0)) (40 * r) = 0)) := fun hf => absurd hf (by omega)
                have h105r : Hid ((I_161 mo 24).toInt = 0 → (I_161 mo 21).toInt = 4 → (I_161 mo 23).toInt = 59 → rowOK (AI_164 (gh 53 0)) m0) := fun hf => absurd hf (by omega)
                refine z_goto (tgt := 105) F dX7_plan_79 (by decide) ?_
                refine lv_aload_n F.1 F.2.1 dX7_plan_105 rfl (lv_at hl 1 rfl) ?_
                refine z_bipush F dX7_plan_106 (by decide) ?_
                have b_193 := mJ hv hm
                unfold mNum1 at b_193
                refine g_callv (g_runV (As := [.int (iI 59)]) (rest := []) (ci := 7) F hl.1 hH hS hz (c_X7_mustSignf l g gh T b nn nr nt cc r_168.1 r_168.2.1 I_161 R J_163 AI_164 AJ_165 AR mo 59 ⟨by decide, by decide⟩ hv hm hT (by omega) h65 hbM hr7 (by omega) hn9 (by omega) (by omega) hQ) (cwV 1 F.2.2.2.2.1 (good_up gT_X7_mustSign) rfl rfl rfl hdX7_mustSign ⟨Nat.le_of_ble_eq_true rfl, Nat.le_of_ble_eq_true rfl⟩) hm (by decide) rfl rfl rfl (Nat.le_of_ble_eq_true rfl) dX7_plan_108 ⟨Nat.zero_le _, Nat.zero_le _⟩) hS (fun I_194 R_195 J_196 AI_197 AJ_198 AR_199 H locs hp_200 hH hS => ?_)
                dsimp only at hp_200
                obtain ⟨r_201, er_201⟩ : ∃ qQ : pR, qQ = thn (r_168.1, r_168.2.1, 0) (fun t _ => sTk b nn 59 t) := ⟨_, rfl⟩
                rw [← er_201] at hp_200
                obtain ⟨rfl, rfl, rfl, rfl, hv, pfq, q_202, q_203, hQ⟩ := hp_200
                rw [thn_b (by omega)] at er_201
                have hQ : mQ gh I_194 J_196 AI_164 AJ_165 mo b nn nr nt cc r_168.1 r_168.2.1 := by rw [er_201] at hQ; exact hQ
                replace q_203 := hid q_203
                have h8q : I_194 mo 8 = I mo 8 ∧ I_194 mo 9 = I mo 9 ∧ I_194 mo 10 = I mo 10 := ⟨(pfq 8 (by decide) (by decide) (by decide) (by decide) (by decide)).trans h8q.1, (pfq 9 (by decide) (by decide) (by decide) (by decide) (by decide)).trans h8q.2.1, (pfq 10 (by decide) (by decide) (by decide) (by decide) (by decide)).trans h8q.2.2⟩
                have t2_w := congrArg Int32.toInt (pfq 2 (by decide) (by decide) (by decide) (by decide) (by decide))
                have t5_w := congrArg Int32.toInt (pfq 5 (by decide) (by decide) (by decide) (by decide) (by decide))
                have t14_w := congrArg Int32.toInt (pfq 14 (by decide) (by decide) (by decide) (by decide) (by decide))
                have t16_w := congrArg Int32.toInt (pfq 16 (by decide) (by decide) (by decide) (by decide) (by decide))
                have t18_w := congrArg Int32.toInt (pfq 18 (by decide) (by decide) (by decide) (by decide) (by decide))
                refine lv_aload_n F.1 F.2.1 dX7_plan_111 rfl (lv_at hl 1 rfl) ?_
                refine g_getI (ci := 7) (k := 24) F hH rfl (by decide) iX7 hm (by decide) rfl k81 dX7_plan_112 ?_
                have b_204 := mJ hv hm
                unfold mNum1 at b_204
                refine z_if_ne (tgt := 51) F dX7_plan_115 (by decide) (zr_t _) (fun c_205 => ?_) (fun c_205 => ?_)
                · refine lv_aload_n F.1 F.2.1 dX7_plan_51 rfl (lv_at hl 1 rfl) ?_
                  refine g_getI (ci := 7) (k := 24) F hH rfl (by decide) iX7 hm (by decide) rfl k81 dX7_plan_52 ?_
                  refine z_if_ne (tgt := 131) F dX7_plan_55 (by decide) (zr_t _) (fun c_206 => ?_) (fun c_206 => ?_)
                  · refine lv_aload_n F.1 F.2.1 dX7_plan_131 rfl (lv_at hl 1 rfl) ?_
                    refine g_getI (ci := 7) (k := 24) F hH rfl (by decide) iX7 hm (by decide) rfl k81 dX7_plan_132 ?_
                    refine z_if_le (tgt := 146) F dX7_plan_135 (by decide) (zr_t _) (fun c_207 => ?_) (fun c_207 => ?_)
                    · exact absurd (mQ_f hQ (by omega)) (by have := mQ_p hQ; omega)
                    · refine z_bipush F dX7_plan_138 (by decide) ?_
                      refine lv_aload_n F.1 F.2.1 dX7_plan_140 rfl (lv_at hl 1 rfl) ?_
                      refine g_getI (ci := 7) (k := 24) F hH rfl (by decide) iX7 hm (by decide) rfl k81 dX7_plan_141 ?_
                      refine z_isub F dX7_plan_144 ?_
                      have hLn : sLine b nn nr nt cc tb hc = r_168 := (sLn_t (by omega) (pBt_i hbt)).trans (thn_x er_168 pr_168)
                      have hS9 := sPar_n hsq (f := 16 - nr) (by omega) tk0 hLn.symm (by omega)
                      have g9z := mQ_f hQ (by omega)
                      exact g_iret F hr hlk hH hS hz ⟨by omega, by omega⟩ ⟨rfl, rfl, hv, by first | (dsimp only; omega) | omega | rfl, by (try dsimp only); rw [sPln_n (by omega) (by rw [hS9]; (try dsimp only); omega), hS9]; (try dsimp only); omega, Or.inl ⟨by (try dsimp only); omega, hT, by (try dsimp only); omega, by (try dsimp only); omega⟩, Or.inl ⟨by (try dsimp only); omega, mFr9 hv hm (p := (7, 176)) (q := (3, 640)) (by decide) (by decide) (by decide) (fun b hb => (q_172 b hb).trans (fA9 b hb)), mFr9 hv hm (p := (29, 176)) (q := (3, 640)) (by decide) (by decide) (by decide) (fun b hb => (q_172 b hb).trans (fA9 b hb)), h8q.1, h8q.2.1, h8q.2.2⟩, fun b _ h9 _ _ => (fun b hb => (q_172 b hb).trans (fA9 b hb)) b h9⟩ dX7_plan_145
                  · exact absurd trivial (by omega)
                · exact absurd (mQ_z hQ (by omega)) (by omega)
      exact cut_58_29 ((((17 - (I_16 mo 5).toInt).toNat : Int) + 1 : Int).toNat) 0 I_16 J_18 AI AJ H locs ls ⟨by decide, by decide⟩ hv hT (by omega) (by first | exact (fun _ r h0 h1 => absurd h1 (by omega)) | exact (fun hb r h0 h1 => (h105k (by omega)).2 hb r h0 (by omega))) ⟨0, fun _ => 0, fun _ => 0, 0, 0, hQ, rfl, by omega, Or.inl ⟨rfl, rfl⟩, rfl, rows_0⟩ (by omega) (by omega) (fun _ _ => rfl) h8q (by omega) hH hS (lv_sub hl [0, 1] rfl)
  · refine z_iconst F dX7_plan_28 ?_
    exact g_iret F hr hlk hH hS hz ⟨by decide, by decide⟩ ⟨rfl, rfl, hv, by first | (dsimp only; omega) | omega | rfl, by (try dsimp only); rw [sPln_b (by omega)], Or.inl ⟨by (try dsimp only); omega, hT, by (try dsimp only); omega, by (try dsimp only); omega⟩, Or.inl ⟨by (try dsimp only); omega, rfl, rfl, h8q.1, h8q.2.1, h8q.2.2⟩, fun _ _ _ _ _ => rfl⟩ dX7_plan_29
