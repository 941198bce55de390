def rmX7_nextf : Room := { frames := 2, cells := 0, slots := 0, locals := 45 }
set_option maxHeartbeats 4000000 in
set_option maxRecDepth 100000 in
/-- the next token -/
theorem c_X7_nextf (l : Launch) (g : gG) (gh : gGh) (T : Nat → Int32) (b : tTx) (n : Nat) (e0 : Nat) (I : gI) (R : gR) (J : gJ) (AI : gI) (AJ : gJ) (AR : gR) (mo : Nat) (hv : mInv g gh R I AI) (hm : gO g mo 7) (hT : AI (gh 50 0) = T) (hE : (I mo 20).toInt ≤ 936) (hb : ∀ k : Nat, k < n → (AI (gh 65 0) k).toInt = b k % 256) (hr7 : ∀ k : Nat, -128 ≤ b k ∧ b k ≤ 127) (hsz : (I mo 18).toInt = (n : Int)) (hn9 : n ≤ 900) (he0 : (I mo 24).toInt = 0 → (I mo 20).toInt = (e0 : Int)) (he1 : e0 ≤ n) : gMet l g yX7_next tsX7_next rmX7_nextf [.ref mo] (I, R, J, AI, AJ, AR) (gQv g (fun w : gS => R = w.2.1 ∧ AI = w.2.2.2.1 ∧ AJ = w.2.2.2.2.1 ∧ AR = w.2.2.2.2.2 ∧ (mInv g gh R (w.1) AI) ∧ (qF mo I (w.1)) ∧ (((w.1) mo 20).toInt ≤ 936 ∧ (I mo 24).toInt ≤ ((w.1) mo 24).toInt) ∧ (((w.1) mo 24).toInt = (I mo 24).toInt) ∧ ((I mo 24).toInt = 0 → tMk b n (tSk b n e0) ((w.1) mo) ((w.2.2.1) mo 22)) ∧ ((I mo 24).toInt ≠ 0 → (w.1) mo = I mo ∧ (w.2.2.1) mo 22 = J mo 22))) := by
  refine gStart (cc := cX7_next) (maxL := 3) (ret := none) (by decide) rfl (Nat.le_of_ble_eq_true rfl) ?_
  intro p e s m below meth c ls F hr hlk hH hz hS hl
  have hl : lv_has ls 3 [(0, .ref mo)] := hl
  have hS : va_S (gA g) s.heap s.heap [] := hS
  obtain ⟨H, hHe⟩ : ∃ H : Heap, H = s.heap := ⟨_, rfl⟩
  obtain ⟨locs, hlo⟩ : ∃ k : List Loc, k = [] := ⟨_, rfl⟩
  have hH : gH g I R J AI AJ AR H := by rw [hHe]; exact hH
  have hS : va_S (gA g) s.heap H locs := by rw [hHe, hlo]; exact hS
  suffices hw : W p l e rmX7_nextf s m ([.ref mo] : List Value).toArray below meth c H locs 0 0 (MQ below (gQv g (fun w : gS => R = w.2.1 ∧ AI = w.2.2.2.1 ∧ AJ = w.2.2.2.2.1 ∧ AR = w.2.2.2.2.2 ∧ (mInv g gh R (w.1) AI) ∧ (qF mo I (w.1)) ∧ (((w.1) mo 20).toInt ≤ 936 ∧ (I mo 24).toInt ≤ ((w.1) mo 24).toInt) ∧ (((w.1) mo 24).toInt = (I mo 24).toInt) ∧ ((I mo 24).toInt = 0 → tMk b n (tSk b n e0) ((w.1) mo) ((w.2.2.1) mo 22)) ∧ ((I mo 24).toInt ≠ 0 → (w.1) mo = I mo ∧ (w.2.2.1) mo 22 = J mo 22))) ([.ref mo] : List Value).toArray s 0 0 (gA g)) (F0 m 0 ls []) by
    rw [hHe, hlo] at hw; exact hw
  clear hHe hlo
  have pf : qF mo I I := qF_r
  have hb0 := mJ hv hm
  unfold mNum1 at hb0
  have iX7 : ∀ w ∈ u_ws RX7 TX7 32, w ∈ tsX7_next := fun w h => List.mem_cons_of_mem _ (inTB7 w h)
  have k81 : Cond.fieldLink RX7 81 (TX7 24).1 (TX7 24).2.1 (TX7 24).2.2.1 ∈ tsX7_next := List.mem_cons_of_mem _ fl_81
  have k84 : Cond.fieldLink RX7 84 (TX7 20).1 (TX7 20).2.1 (TX7 20).2.2.1 ∈ tsX7_next := List.mem_cons_of_mem _ fl_84
  have k91 : Cond.fieldLink RX7 91 (TX7 19).1 (TX7 19).2.1 (TX7 19).2.2.1 ∈ tsX7_next := List.mem_cons_of_mem _ fl_91
  have k94 : Cond.fieldLink RX7 94 (TX7 21).1 (TX7 21).2.1 (TX7 21).2.2.1 ∈ tsX7_next := List.mem_cons_of_mem _ fl_94
  have k97 : Cond.fieldLink RX7 97 (TX7 23).1 (TX7 23).2.1 (TX7 23).2.2.1 ∈ tsX7_next := List.mem_cons_of_mem _ fl_97
  refine lv_aload_n F.1 F.2.1 dX7_next_0 rfl (lv_at hl 0 rfl) ?_
  refine g_getI (ci := 7) (k := 24) F hH rfl (by decide) iX7 hm (by decide) rfl k81 dX7_next_1 ?_
  have b_1 := mJ hv hm
  unfold mNum1 at b_1
  refine z_if_le (tgt := 8) F dX7_next_4 (by decide) (zr_t _) (fun c_2 => ?_) (fun c_2 => ?_)
  · refine lv_aload_n F.1 F.2.1 dX7_next_8 rfl (lv_at hl 0 rfl) ?_
    refine g_getI (ci := 7) (k := 20) F hH rfl (by decide) iX7 hm (by decide) rfl k84 dX7_next_9 ?_
    refine lv_istore_n (lv' := [(1, .int (iI ((I mo 20).toInt))), (0, .ref mo)]) F.1 F.2.1 dX7_next_12 rfl hl (by decide) rfl (fun ls hl => ?_)
    have cut_13_2 : ∀ (NN : Nat) (k : Int) (H : Heap) (locs : List Loc) (ls : Array Slot), zr k → (0 ≤ k ∧ k ≤ 936) → (tSk b n e0 = tSk b n k.toNat ∧ k ≤ (n : Int) ∧ (e0 : Int) ≤ k) → (936 - k) < ((NN : Nat) : Int) → gH g I R J AI AJ AR H → va_S (gA g) s.heap H locs → lv_has ls 3 [(1, .int (iI k)), (0, .ref mo)] → W p l e rmX7_nextf s m ([.ref mo] : List Value).toArray below meth c H locs 0 0 (MQ below (gQv g (fun w : gS => R = w.2.1 ∧ AI = w.2.2.2.1 ∧ AJ = w.2.2.2.2.1 ∧ AR = w.2.2.2.2.2 ∧ (mInv g gh R (w.1) AI) ∧ (qF mo I (w.1)) ∧ (((w.1) mo 20).toInt ≤ 936 ∧ (I mo 24).toInt ≤ ((w.1) mo 24).toInt) ∧ (((w.1) mo 24).toInt = (I mo 24).toInt) ∧ ((I mo 24).toInt = 0 → tMk b n (tSk b n e0) ((w.1) mo) ((w.2.2.1) mo 22)) ∧ ((I mo 24).toInt ≠ 0 → (w.1) mo = I mo ∧ (w.2.2.1) mo 22 = J mo 22))) ([.ref mo] : List Value).toArray s 0 0 (gA g)) (F0 m 13 ls []) := by
      intro NN13
      induction NN13 with
      | zero =>
        intro k H locs ls zk hk hsk hm13 hH hS hl
        exact absurd hm13 (by omega)
      | succ NN13 ih13 =>
        intro k H locs ls zk hk hsk hm13 hH hS hl
        refine lv_aload_n F.1 F.2.1 dX7_next_13 rfl (lv_at hl 1 rfl) ?_
        refine lv_iload_n F.1 F.2.1 dX7_next_14 rfl (lv_at hl 0 rfl) ?_
        refine g_calli (g_runV (As := [.int (iI k)]) (rest := []) (ci := 7) F hl.1 hH hS hz (c_X7_byteAtf l g gh T b n I R J AI AJ AR mo k zk hv hm hT (by omega) hb hr7 (by omega) (by omega)) (cwV 1 F.2.2.2.2.1 (good_up gT_X7_byteAt) rfl rfl rfl hdX7_byteAt ⟨Nat.le_of_ble_eq_true rfl, Nat.le_of_ble_eq_true rfl⟩) hm (by decide) rfl rfl rfl (Nat.le_of_ble_eq_true rfl) dX7_next_15 ⟨Nat.zero_le _, Nat.zero_le _⟩) hS (fun v_10 I_4 R_5 J_6 AI_7 AJ_8 AR_9 H locs zv_10 hp_11 hH hS => ?_)
        dsimp only at hp_11
        obtain ⟨rfl, rfl, rfl, rfl, rfl, rfl, q15⟩ := hp_11
        refine z_bipush F dX7_next_18 (by decide) ?_
        refine z_icmp_eq (tgt := 33) F dX7_next_20 (by decide) zv_10 ⟨by decide, by decide⟩ (fun c_12 => ?_) (fun c_12 => ?_)
        · refine z_iinc (lv' := [(1, .int (iI (k + 1))), (0, .ref mo)]) F dX7_next_33 hl (k := 0) rfl (by decide) rfl (fun ls hl => ?_)
          refine z_goto (tgt := 13) F dX7_next_36 (by decide) ?_
          exact ih13 (k + 1) H locs ls ⟨by omega, by omega⟩ (by omega) (by first | exact nx_0 (he0 (by omega)) he1 | exact nx_bl hsk (nx_b1 q15 (by omega)) (nx_b2 q15 (hr7 _) (by omega)) | exact nx_bl hsk (nx_b1 q25 (by omega)) (nx_b2 q25 (hr7 _) (by omega))) (by omega) hH hS (lv_sub hl [0, 1] rfl)
        · refine lv_aload_n F.1 F.2.1 dX7_next_23 rfl (lv_at hl 1 rfl) ?_
          refine lv_iload_n F.1 F.2.1 dX7_next_24 rfl (lv_at hl 0 rfl) ?_
          refine g_calli (g_runV (As := [.int (iI k)]) (rest := []) (ci := 7) F hl.1 hH hS hz (c_X7_byteAtf l g gh T b n I R J AI AJ AR mo k zk hv hm hT (by omega) hb hr7 (by omega) (by omega)) (cwV 1 F.2.2.2.2.1 (good_up gT_X7_byteAt) rfl rfl rfl hdX7_byteAt ⟨Nat.le_of_ble_eq_true rfl, Nat.le_of_ble_eq_true rfl⟩) hm (by decide) rfl rfl rfl (Nat.le_of_ble_eq_true rfl) dX7_next_25 ⟨Nat.zero_le _, Nat.zero_le _⟩) hS (fun v_19 I_13 R_14 J_15 AI_16 AJ_17 AR_18 H locs zv_19 hp_20 hH hS => ?_)
          dsimp only at hp_20
          obtain ⟨rfl, rfl, rfl, rfl, rfl, rfl, q25⟩ := hp_20
          refine z_bipush F dX7_next_28 (by decide) ?_
          refine z_icmp_ne (tgt := 39) F dX7_next_30 (by decide) zv_19 ⟨by decide, by decide⟩ (fun c_21 => ?_) (fun c_21 => ?_)
          · have hske : tSk b n e0 = k.toNat := nx_sk hsk (by omega) (nx_nb q15 q25 (hr7 _) (by omega) (by omega))
            refine lv_aload_n F.1 F.2.1 dX7_next_39 rfl (lv_at hl 1 rfl) ?_
            refine lv_iload_n F.1 F.2.1 dX7_next_40 rfl (lv_at hl 0 rfl) ?_
            refine g_putI (ci := 7) (k := 19) F hH hS rfl (by decide) iX7 hm (by decide) tyX7 tyX7_ok nmX7 rfl rfl rfl k91 dX7_next_41 (fun H locs hH hS => ?_)
            obtain ⟨I_22, eI_22⟩ : ∃ qQ, qQ = gup2 I mo 19 (iI (k)) := ⟨_, rfl⟩
            rw [← eI_22] at hH
            have kI_22 : ∀ b, b ≠ mo → I_22 b = I b := fun b hb => by rw [eI_22]; exact funext fun j => gup2_a _ _ hb
            have w_23 : (I_22 mo 19).toInt = k := by rw [eI_22, gup2_s]; exact iI_val zk
            have hv : mInv g gh R I_22 AI := by rw [eI_22]; exact mP19 hv hm (by omega) (by omega)
            have pf : qF mo I I_22 := qF_t pf (by rw [eI_22]; exact qF_p (by decide))
            have u_24_2 : (I_22 mo 2).toInt = (I mo 2).toInt := by rw [pf 2 (by decide) (by decide) (by decide) (by decide) (by decide)]
            have u_24_5 : (I_22 mo 5).toInt = (I mo 5).toInt := by rw [pf 5 (by decide) (by decide) (by decide) (by decide) (by decide)]
            have u_24_14 : (I_22 mo 14).toInt = (I mo 14).toInt := by rw [pf 14 (by decide) (by decide) (by decide) (by decide) (by decide)]
            have u_24_16 : (I_22 mo 16).toInt = (I mo 16).toInt := by rw [pf 16 (by decide) (by decide) (by decide) (by decide) (by decide)]
            have u_24_18 : (I_22 mo 18).toInt = (I mo 18).toInt := by rw [pf 18 (by decide) (by decide) (by decide) (by decide) (by decide)]
            have w_23_k20 : (I_22 mo 20).toInt = (I mo 20).toInt := by rw [eI_22, gup2_k _ _ (by decide)]
            have w_23_k21 : (I_22 mo 21).toInt = (I mo 21).toInt := by rw [eI_22, gup2_k _ _ (by decide)]
            have w_23_k23 : (I_22 mo 23).toInt = (I mo 23).toInt := by rw [eI_22, gup2_k _ _ (by decide)]
            have w_23_k24 : (I_22 mo 24).toInt = (I mo 24).toInt := by rw [eI_22, gup2_k _ _ (by decide)]
            refine lv_aload_n F.1 F.2.1 dX7_next_44 rfl (lv_at hl 1 rfl) ?_
            refine lv_iload_n F.1 F.2.1 dX7_next_45 rfl (lv_at hl 0 rfl) ?_
            refine z_iconst F dX7_next_46 ?_
            refine z_iadd F dX7_next_47 ?_
            refine g_putI (ci := 7) (k := 20) F hH hS rfl (by decide) iX7 hm (by decide) tyX7 tyX7_ok nmX7 rfl rfl rfl k84 dX7_next_48 (fun H locs hH hS => ?_)
            obtain ⟨I_25, eI_25⟩ : ∃ qQ, qQ = gup2 I_22 mo 20 (iI (k + 1)) := ⟨_, rfl⟩
            rw [← eI_25] at hH
            have kI_25 : ∀ b, b ≠ mo → I_25 b = I_22 b := fun b hb => by rw [eI_25]; exact funext fun j => gup2_a _ _ hb
            have w_26 : (I_25 mo 20).toInt = k + 1 := by rw [eI_25, gup2_s]; exact iI_val ⟨by omega, by omega⟩
            have hv : mInv g gh R I_25 AI := by rw [eI_25]; exact mP20 hv hm (by omega) (by omega)
            have pf : qF mo I I_25 := qF_t pf (by rw [eI_25]; exact qF_p (by decide))
            have u_27_2 : (I_25 mo 2).toInt = (I mo 2).toInt := by rw [pf 2 (by decide) (by decide) (by decide) (by decide) (by decide)]
            have u_27_5 : (I_25 mo 5).toInt = (I mo 5).toInt := by rw [pf 5 (by decide) (by decide) (by decide) (by decide) (by decide)]
            have u_27_14 : (I_25 mo 14).toInt = (I mo 14).toInt := by rw [pf 14 (by decide) (by decide) (by decide) (by decide) (by decide)]
            have u_27_16 : (I_25 mo 16).toInt = (I mo 16).toInt := by rw [pf 16 (by decide) (by decide) (by decide) (by decide) (by decide)]
            have u_27_18 : (I_25 mo 18).toInt = (I mo 18).toInt := by rw [pf 18 (by decide) (by decide) (by decide) (by decide) (by decide)]
            have w_26_k19 : (I_25 mo 19).toInt = (I_22 mo 19).toInt := by rw [eI_25, gup2_k _ _ (by decide)]
            have w_26_k21 : (I_25 mo 21).toInt = (I_22 mo 21).toInt := by rw [eI_25, gup2_k _ _ (by decide)]
            have w_26_k23 : (I_25 mo 23).toInt = (I_22 mo 23).toInt := by rw [eI_25, gup2_k _ _ (by decide)]
            have w_26_k24 : (I_25 mo 24).toInt = (I_22 mo 24).toInt := by rw [eI_25, gup2_k _ _ (by decide)]
            refine lv_aload_n F.1 F.2.1 dX7_next_51 rfl (lv_at hl 1 rfl) ?_
            refine lv_iload_n F.1 F.2.1 dX7_next_52 rfl (lv_at hl 0 rfl) ?_
            have b_28 := mJ hv hm
            unfold mNum1 at b_28
            refine g_calli (g_runV (As := [.int (iI k)]) (rest := []) (ci := 7) F hl.1 hH hS hz (c_X7_byteAtf l g gh T b n I_25 R J AI AJ AR mo k zk hv hm hT (by omega) hb hr7 (by omega) (by omega)) (cwV 1 F.2.2.2.2.1 (good_up gT_X7_byteAt) rfl rfl rfl hdX7_byteAt ⟨Nat.le_of_ble_eq_true rfl, Nat.le_of_ble_eq_true rfl⟩) hm (by decide) rfl rfl rfl (Nat.le_of_ble_eq_true rfl) dX7_next_53 ⟨Nat.zero_le _, Nat.zero_le _⟩) hS (fun v_35 I_29 R_30 J_31 AI_32 AJ_33 AR_34 H locs zv_35 hp_36 hH hS => ?_)
            dsimp only at hp_36
            obtain ⟨rfl, rfl, rfl, rfl, rfl, rfl, q53⟩ := hp_36
            refine lv_istore_n (lv' := [(2, .int (iI v_35)), (1, .int (iI k)), (0, .ref mo)]) F.1 F.2.1 dX7_next_56 rfl hl (by decide) rfl (fun ls hl => ?_)
            refine lv_aload_n F.1 F.2.1 dX7_next_57 rfl (lv_at hl 2 rfl) ?_
            refine z_iconst F dX7_next_58 ?_
            refine g_putI (ci := 7) (k := 21) F hH hS rfl (by decide) iX7 hm (by decide) tyX7 tyX7_ok nmX7 rfl rfl rfl k94 dX7_next_59 (fun H locs hH hS => ?_)
            obtain ⟨I_37, eI_37⟩ : ∃ qQ, qQ = gup2 I_25 mo 21 (iI (5)) := ⟨_, rfl⟩
            rw [← eI_37] at hH
            have kI_37 : ∀ b, b ≠ mo → I_37 b = I_25 b := fun b hb => by rw [eI_37]; exact funext fun j => gup2_a _ _ hb
            have w_38 : (I_37 mo 21).toInt = 5 := by rw [eI_37, gup2_s]; exact iI_val ⟨by decide, by decide⟩
            have hv : mInv g gh R I_37 AI := by rw [eI_37]; exact mP21 hv hm ⟨by decide, by decide⟩ (by omega)
            have pf : qF mo I I_37 := qF_t pf (by rw [eI_37]; exact qF_p (by decide))
            have u_39_2 : (I_37 mo 2).toInt = (I mo 2).toInt := by rw [pf 2 (by decide) (by decide) (by decide) (by decide) (by decide)]
            have u_39_5 : (I_37 mo 5).toInt = (I mo 5).toInt := by rw [pf 5 (by decide) (by decide) (by decide) (by decide) (by decide)]
            have u_39_14 : (I_37 mo 14).toInt = (I mo 14).toInt := by rw [pf 14 (by decide) (by decide) (by decide) (by decide) (by decide)]
            have u_39_16 : (I_37 mo 16).toInt = (I mo 16).toInt := by rw [pf 16 (by decide) (by decide) (by decide) (by decide) (by decide)]
            have u_39_18 : (I_37 mo 18).toInt = (I mo 18).toInt := by rw [pf 18 (by decide) (by decide) (by decide) (by decide) (by decide)]
            have w_38_k19 : (I_37 mo 19).toInt = (I_25 mo 19).toInt := by rw [eI_37, gup2_k _ _ (by decide)]
            have w_38_k20 : (I_37 mo 20).toInt = (I_25 mo 20).toInt := by rw [eI_37, gup2_k _ _ (by decide)]
            have w_38_k23 : (I_37 mo 23).toInt = (I_25 mo 23).toInt := by rw [eI_37, gup2_k _ _ (by decide)]
            have w_38_k24 : (I_37 mo 24).toInt = (I_25 mo 24).toInt := by rw [eI_37, gup2_k _ _ (by decide)]
            refine lv_aload_n F.1 F.2.1 dX7_next_62 rfl (lv_at hl 2 rfl) ?_
            refine lv_iload_n F.1 F.2.1 dX7_next_63 rfl (lv_at hl 0 rfl) ?_
            refine g_putI (ci := 7) (k := 23) F hH hS rfl (by decide) iX7 hm (by decide) tyX7 tyX7_ok nmX7 rfl rfl rfl k97 dX7_next_64 (fun H locs hH hS => ?_)
            obtain ⟨I_40, eI_40⟩ : ∃ qQ, qQ = gup2 I_37 mo 23 (iI (v_35)) := ⟨_, rfl⟩
            rw [← eI_40] at hH
            have kI_40 : ∀ b, b ≠ mo → I_40 b = I_37 b := fun b hb => by rw [eI_40]; exact funext fun j => gup2_a _ _ hb
            have w_41 : (I_40 mo 23).toInt = v_35 := by rw [eI_40, gup2_s]; exact iI_val zv_35
            have hv : mInv g gh R I_40 AI := by rw [eI_40]; exact mP23 hv hm zv_35 (by omega)
            have pf : qF mo I I_40 := qF_t pf (by rw [eI_40]; exact qF_p (by decide))
            have u_42_2 : (I_40 mo 2).toInt = (I mo 2).toInt := by rw [pf 2 (by decide) (by decide) (by decide) (by decide) (by decide)]
            have u_42_5 : (I_40 mo 5).toInt = (I mo 5).toInt := by rw [pf 5 (by decide) (by decide) (by decide) (by decide) (by decide)]
            have u_42_14 : (I_40 mo 14).toInt = (I mo 14).toInt := by rw [pf 14 (by decide) (by decide) (by decide) (by decide) (by decide)]
            have u_42_16 : (I_40 mo 16).toInt = (I mo 16).toInt := by rw [pf 16 (by decide) (by decide) (by decide) (by decide) (by decide)]
            have u_42_18 : (I_40 mo 18).toInt = (I mo 18).toInt := by rw [pf 18 (by decide) (by decide) (by decide) (by decide) (by decide)]
            have w_41_k19 : (I_40 mo 19).toInt = (I_37 mo 19).toInt := by rw [eI_40, gup2_k _ _ (by decide)]
            have w_41_k20 : (I_40 mo 20).toInt = (I_37 mo 20).toInt := by rw [eI_40, gup2_k _ _ (by decide)]
            have w_41_k21 : (I_40 mo 21).toInt = (I_37 mo 21).toInt := by rw [eI_40, gup2_k _ _ (by decide)]
            have w_41_k24 : (I_40 mo 24).toInt = (I_37 mo 24).toInt := by rw [eI_40, gup2_k _ _ (by decide)]
            refine lv_iload_n F.1 F.2.1 dX7_next_67 rfl (lv_at hl 0 rfl) ?_
            refine z_iconst F dX7_next_68 ?_
            refine z_icmp_ne (tgt := 85) F dX7_next_69 (by decide) zv_35 ⟨by decide, by decide⟩ (fun c_43 => ?_) (fun c_43 => ?_)
            · have cut_127_43 : ∀ (H : Heap) (locs : List Loc) (ls : Array Slot), (tSx b k.toNat ∧ v_35 = b k.toNat) → gH g I_40 R J AI AJ AR H → va_S (gA g) s.heap H locs → lv_has ls 3 [(2, .int (iI v_35)), (1, .int (iI k)), (0, .ref mo)] → W p l e rmX7_nextf s m ([.ref mo] : List Value).toArray below meth c H locs 0 0 (MQ below (gQv g (fun w : gS => R = w.2.1 ∧ AI = w.2.2.2.1 ∧ AJ = w.2.2.2.2.1 ∧ AR = w.2.2.2.2.2 ∧ (mInv g gh R (w.1) AI) ∧ (qF mo I (w.1)) ∧ (((w.1) mo 20).toInt ≤ 936 ∧ (I mo 24).toInt ≤ ((w.1) mo 24).toInt) ∧ (((w.1) mo 24).toInt = (I mo 24).toInt) ∧ ((I mo 24).toInt = 0 → tMk b n (tSk b n e0) ((w.1) mo) ((w.2.2.1) mo 22)) ∧ ((I mo 24).toInt ≠ 0 → (w.1) mo = I mo ∧ (w.2.2.1) mo 22 = J mo 22))) ([.ref mo] : List Value).toArray s 0 0 (gA g)) (F0 m 127 ls []) := by
                intro H locs ls h127 hH hS hl
                refine lv_aload_n F.1 F.2.1 dX7_next_127 rfl (lv_at hl 2 rfl) ?_
                refine z_iconst F dX7_next_128 ?_
                refine g_putI (ci := 7) (k := 21) F hH hS rfl (by decide) iX7 hm (by decide) tyX7 tyX7_ok nmX7 rfl rfl rfl k94 dX7_next_129 (fun H locs hH hS => ?_)
                obtain ⟨I_45, eI_45⟩ : ∃ qQ, qQ = gup2 I_40 mo 21 (iI (4)) := ⟨_, rfl⟩
                rw [← eI_45] at hH
                have kI_45 : ∀ b, b ≠ mo → I_45 b = I_40 b := fun b hb => by rw [eI_45]; exact funext fun j => gup2_a _ _ hb
                have w_46 : (I_45 mo 21).toInt = 4 := by rw [eI_45, gup2_s]; exact iI_val ⟨by decide, by decide⟩
                have hv : mInv g gh R I_45 AI := by rw [eI_45]; exact mP21 hv hm ⟨by decide, by decide⟩ (by omega)
                have pf : qF mo I I_45 := qF_t pf (by rw [eI_45]; exact qF_p (by decide))
                have u_47_2 : (I_45 mo 2).toInt = (I mo 2).toInt := by rw [pf 2 (by decide) (by decide) (by decide) (by decide) (by decide)]
                have u_47_5 : (I_45 mo 5).toInt = (I mo 5).toInt := by rw [pf 5 (by decide) (by decide) (by decide) (by decide) (by decide)]
                have u_47_14 : (I_45 mo 14).toInt = (I mo 14).toInt := by rw [pf 14 (by decide) (by decide) (by decide) (by decide) (by decide)]
                have u_47_16 : (I_45 mo 16).toInt = (I mo 16).toInt := by rw [pf 16 (by decide) (by decide) (by decide) (by decide) (by decide)]
                have u_47_18 : (I_45 mo 18).toInt = (I mo 18).toInt := by rw [pf 18 (by decide) (by decide) (by decide) (by decide) (by decide)]
                have w_46_k19 : (I_45 mo 19).toInt = (I_40 mo 19).toInt := by rw [eI_45, gup2_k _ _ (by decide)]
                have w_46_k20 : (I_45 mo 20).toInt = (I_40 mo 20).toInt := by rw [eI_45, gup2_k _ _ (by decide)]
                have w_46_k23 : (I_45 mo 23).toInt = (I_40 mo 23).toInt := by rw [eI_45, gup2_k _ _ (by decide)]
                have w_46_k24 : (I_45 mo 24).toInt = (I_40 mo 24).toInt := by rw [eI_45, gup2_k _ _ (by decide)]
                have hfin : tMk b n k.toNat (I_45 mo) (J mo 22) := tMk_sg (nx_k q53 (by omega)) (nx_sr h127.1) (by omega) (by omega) (Or.inl ⟨h127.1, by omega, by omega⟩)
                refine z_goto (tgt := 154) F dX7_next_132 (by decide) ?_
                exact g_vret F hr hlk hH hS hz ⟨rfl, rfl, rfl, rfl, hv, pf, by first | omega | rfl | (dsimp only; omega), by first | omega | rfl | (dsimp only; omega), fun _ => by rw [hske]; exact hfin, fun h => absurd h (by omega)⟩ dX7_next_154
              refine lv_iload_n F.1 F.2.1 dX7_next_85 rfl (lv_at hl 0 rfl) ?_
              refine z_bipush F dX7_next_86 (by decide) ?_
              refine z_icmp_eq (tgt := 127) F dX7_next_88 (by decide) zv_35 ⟨by decide, by decide⟩ (fun c_48 => ?_) (fun c_48 => ?_)
              · exact cut_127_43 H locs ls (nx_s q53 (hr7 _) (by omega)) hH hS (lv_sub hl [0, 1, 2] rfl)
              · refine lv_iload_n F.1 F.2.1 dX7_next_91 rfl (lv_at hl 0 rfl) ?_
                refine z_bipush F dX7_next_92 (by decide) ?_
                refine z_icmp_eq (tgt := 127) F dX7_next_94 (by decide) zv_35 ⟨by decide, by decide⟩ (fun c_49 => ?_) (fun c_49 => ?_)
                · exact cut_127_43 H locs ls (nx_s q53 (hr7 _) (by omega)) hH hS (lv_sub hl [0, 1, 2] rfl)
                · refine lv_iload_n F.1 F.2.1 dX7_next_97 rfl (lv_at hl 0 rfl) ?_
                  refine z_bipush F dX7_next_98 (by decide) ?_
                  refine z_icmp_eq (tgt := 127) F dX7_next_100 (by decide) zv_35 ⟨by decide, by decide⟩ (fun c_50 => ?_) (fun c_50 => ?_)
                  · exact cut_127_43 H locs ls (nx_s q53 (hr7 _) (by omega)) hH hS (lv_sub hl [0, 1, 2] rfl)
                  · refine lv_iload_n F.1 F.2.1 dX7_next_103 rfl (lv_at hl 0 rfl) ?_
                    refine z_bipush F dX7_next_104 (by decide) ?_
                    refine z_icmp_eq (tgt := 127) F dX7_next_106 (by decide) zv_35 ⟨by decide, by decide⟩ (fun c_51 => ?_) (fun c_51 => ?_)
                    · exact cut_127_43 H locs ls (nx_s q53 (hr7 _) (by omega)) hH hS (lv_sub hl [0, 1, 2] rfl)
                    · refine lv_iload_n F.1 F.2.1 dX7_next_109 rfl (lv_at hl 0 rfl) ?_
                      refine z_bipush F dX7_next_110 (by decide) ?_
                      refine z_icmp_eq (tgt := 127) F dX7_next_112 (by decide) zv_35 ⟨by decide, by decide⟩ (fun c_52 => ?_) (fun c_52 => ?_)
                      · exact cut_127_43 H locs ls (nx_s q53 (hr7 _) (by omega)) hH hS (lv_sub hl [0, 1, 2] rfl)
                      · refine lv_iload_n F.1 F.2.1 dX7_next_115 rfl (lv_at hl 0 rfl) ?_
                        refine z_bipush F dX7_next_116 (by decide) ?_
                        refine z_icmp_eq (tgt := 127) F dX7_next_118 (by decide) zv_35 ⟨by decide, by decide⟩ (fun c_53 => ?_) (fun c_53 => ?_)
                        · exact cut_127_43 H locs ls (nx_s q53 (hr7 _) (by omega)) hH hS (lv_sub hl [0, 1, 2] rfl)
                        · refine lv_iload_n F.1 F.2.1 dX7_next_121 rfl (lv_at hl 0 rfl) ?_
                          refine z_bipush F dX7_next_122 (by decide) ?_
                          refine z_icmp_ne (tgt := 135) F dX7_next_124 (by decide) zv_35 ⟨by decide, by decide⟩ (fun c_54 => ?_) (fun c_54 => ?_)
                          · refine lv_iload_n F.1 F.2.1 dX7_next_135 rfl (lv_at hl 0 rfl) ?_
                            refine g_calli (g_runS (As := [.int (iI v_35)]) (rest := []) F hl.1 hH hS hz (c_X7_isSmallf l g  I_40 R J AI AJ AR v_35 zv_35) (va_cwS 1 F.2.2.2.2.1 (good_up gT_X7_isSmall) rfl rfl rfl hdX7_isSmall.2 ⟨Nat.le_of_ble_eq_true rfl, Nat.le_of_ble_eq_true rfl⟩) rfl rfl (Nat.le_of_ble_eq_true rfl) dX7_next_136 ⟨Nat.zero_le _, Nat.zero_le _⟩) hS (fun v_61 I_55 R_56 J_57 AI_58 AJ_59 AR_60 H locs zv_61 hp_62 hH hS => ?_)
                            dsimp only at hp_62
                            obtain ⟨rfl, rfl, rfl, rfl, rfl, rfl, q136⟩ := hp_62
                            refine z_if_ne (tgt := 149) F dX7_next_139 (by decide) zv_61 (fun c_63 => ?_) (fun c_63 => ?_)
                            · refine lv_aload_n F.1 F.2.1 dX7_next_149 rfl (lv_at hl 2 rfl) ?_
                              refine lv_iload_n F.1 F.2.1 dX7_next_150 rfl (lv_at hl 1 rfl) ?_
                              have b_64 := mJ hv hm
                              unfold mNum1 at b_64
                              refine g_callv (g_runV (As := [.int (iI k)]) (rest := []) (ci := 7) F hl.1 hH hS hz (c_X7_runsf l g gh T b n I_40 R J AI AJ AR mo k zk hv hm hT (by omega) (by omega) (by omega) hb hr7 (by omega) (by omega) (by first | exact (tBa_run q53 (hr7 _) (Or.inl (tIz_1 q136 (by omega)))).1 | exact (tBa_run q53 (hr7 _) (Or.inr (tIz_1 q143 (by omega)))).1) (by first | exact (tBa_run q53 (hr7 _) (Or.inl (tIz_1 q136 (by omega)))).2 | exact (tBa_run q53 (hr7 _) (Or.inr (tIz_1 q143 (by omega)))).2)) (cwV 1 F.2.2.2.2.1 (good_up gT_X7_runs) rfl rfl rfl hdX7_runs ⟨Nat.le_of_ble_eq_true rfl, Nat.le_of_ble_eq_true rfl⟩) hm (by decide) rfl rfl rfl (Nat.le_of_ble_eq_true rfl) dX7_next_151 ⟨Nat.zero_le _, Nat.zero_le _⟩) hS (fun I_65 R_66 J_67 AI_68 AJ_69 AR_70 H locs hp_71 hH hS => ?_)
                              dsimp only at hp_71
                              obtain ⟨rfl, rfl, rfl, rfl, hv, pfq, q_72, q_73, q20, q21, q23, q19, qw⟩ := hp_71
                              have hrr : k < (n : Int) ∧ tRx b k.toNat := by first | exact tBa_run q53 (hr7 _) (Or.inl (tIz_1 q136 (by omega))) | exact tBa_run q53 (hr7 _) (Or.inr (tIz_1 q143 (by omega)))
                              have pf := qF_t pf pfq
                              have u_74_2 : (I_65 mo 2).toInt = (I mo 2).toInt := by rw [pf 2 (by decide) (by decide) (by decide) (by decide) (by decide)]
                              have u_74_5 : (I_65 mo 5).toInt = (I mo 5).toInt := by rw [pf 5 (by decide) (by decide) (by decide) (by decide) (by decide)]
                              have u_74_14 : (I_65 mo 14).toInt = (I mo 14).toInt := by rw [pf 14 (by decide) (by decide) (by decide) (by decide) (by decide)]
                              have u_74_16 : (I_65 mo 16).toInt = (I mo 16).toInt := by rw [pf 16 (by decide) (by decide) (by decide) (by decide) (by decide)]
                              have u_74_18 : (I_65 mo 18).toInt = (I mo 18).toInt := by rw [pf 18 (by decide) (by decide) (by decide) (by decide) (by decide)]
                              have hfin : tMk b n k.toNat (I_65 mo) (J_67 mo 22) := tMk_run (by omega) hrr.2 (by omega) q20 q21 q23 qw
                              exact g_vret F hr hlk hH hS hz ⟨rfl, rfl, rfl, rfl, hv, pf, by first | omega | rfl | (dsimp only; omega), by first | omega | rfl | (dsimp only; omega), fun _ => by rw [hske]; exact hfin, fun h => absurd h (by omega)⟩ dX7_next_154
                            · refine lv_iload_n F.1 F.2.1 dX7_next_142 rfl (lv_at hl 0 rfl) ?_
                              refine g_calli (g_runS (As := [.int (iI v_35)]) (rest := []) F hl.1 hH hS hz (c_X7_isDigitf l g  I_40 R J AI AJ AR v_35 zv_35) (va_cwS 1 F.2.2.2.2.1 (good_up gT_X7_isDigit) rfl rfl rfl hdX7_isDigit.2 ⟨Nat.le_of_ble_eq_true rfl, Nat.le_of_ble_eq_true rfl⟩) rfl rfl (Nat.le_of_ble_eq_true rfl) dX7_next_143 ⟨Nat.zero_le _, Nat.zero_le _⟩) hS (fun v_81 I_75 R_76 J_77 AI_78 AJ_79 AR_80 H locs zv_81 hp_82 hH hS => ?_)
                              dsimp only at hp_82
                              obtain ⟨rfl, rfl, rfl, rfl, rfl, rfl, q143⟩ := hp_82
                              refine z_if_eq (tgt := 154) F dX7_next_146 (by decide) zv_81 (fun c_83 => ?_) (fun c_83 => ?_)
                              · have hfin : tMk b n k.toNat (I_40 mo) (J mo 22) := tMk_sg (nx_k q53 (by omega)) (nx_nr q53 (hr7 _) (nx_k q53 (by omega)) (tIz_0 q136 (by omega)) (tIz_0 q143 (by omega))) (by omega) (by omega) (Or.inr ⟨nx_ns q53 (hr7 _) (nx_k q53 (by omega)) (by omega), by omega⟩)
                                exact g_vret F hr hlk hH hS hz ⟨rfl, rfl, rfl, rfl, hv, pf, by first | omega | rfl | (dsimp only; omega), by first | omega | rfl | (dsimp only; omega), fun _ => by rw [hske]; exact hfin, fun h => absurd h (by omega)⟩ dX7_next_154
                              · refine lv_aload_n F.1 F.2.1 dX7_next_149 rfl (lv_at hl 2 rfl) ?_
                                refine lv_iload_n F.1 F.2.1 dX7_next_150 rfl (lv_at hl 1 rfl) ?_
                                have b_84 := mJ hv hm
                                unfold mNum1 at b_84
                                refine g_callv (g_runV (As := [.int (iI k)]) (rest := []) (ci := 7) F hl.1 hH hS hz (c_X7_runsf l g gh T b n I_40 R J AI AJ AR mo k zk hv hm hT (by omega) (by omega) (by omega) hb hr7 (by omega) (by omega) (by first | exact (tBa_run q53 (hr7 _) (Or.inl (tIz_1 q136 (by omega)))).1 | exact (tBa_run q53 (hr7 _) (Or.inr (tIz_1 q143 (by omega)))).1) (by first | exact (tBa_run q53 (hr7 _) (Or.inl (tIz_1 q136 (by omega)))).2 | exact (tBa_run q53 (hr7 _) (Or.inr (tIz_1 q143 (by omega)))).2)) (cwV 1 F.2.2.2.2.1 (good_up gT_X7_runs) rfl rfl rfl hdX7_runs ⟨Nat.le_of_ble_eq_true rfl, Nat.le_of_ble_eq_true rfl⟩) hm (by decide) rfl rfl rfl (Nat.le_of_ble_eq_true rfl) dX7_next_151 ⟨Nat.zero_le _, Nat.zero_le _⟩) hS (fun I_85 R_86 J_87 AI_88 AJ_89 AR_90 H locs hp_91 hH hS => ?_)
                                dsimp only at hp_91
                                obtain ⟨rfl, rfl, rfl, rfl, hv, pfq, q_92, q_93, q20, q21, q23, q19, qw⟩ := hp_91
                                have hrr : k < (n : Int) ∧ tRx b k.toNat := by first | exact tBa_run q53 (hr7 _) (Or.inl (tIz_1 q136 (by omega))) | exact tBa_run q53 (hr7 _) (Or.inr (tIz_1 q143 (by omega)))
                                have pf := qF_t pf pfq
                                have u_94_2 : (I_85 mo 2).toInt = (I mo 2).toInt := by rw [pf 2 (by decide) (by decide) (by decide) (by decide) (by decide)]
                                have u_94_5 : (I_85 mo 5).toInt = (I mo 5).toInt := by rw [pf 5 (by decide) (by decide) (by decide) (by decide) (by decide)]
                                have u_94_14 : (I_85 mo 14).toInt = (I mo 14).toInt := by rw [pf 14 (by decide) (by decide) (by decide) (by decide) (by decide)]
                                have u_94_16 : (I_85 mo 16).toInt = (I mo 16).toInt := by rw [pf 16 (by decide) (by decide) (by decide) (by decide) (by decide)]
                                have u_94_18 : (I_85 mo 18).toInt = (I mo 18).toInt := by rw [pf 18 (by decide) (by decide) (by decide) (by decide) (by decide)]
                                have hfin : tMk b n k.toNat (I_85 mo) (J_87 mo 22) := tMk_run (by omega) hrr.2 (by omega) q20 q21 q23 qw
                                exact g_vret F hr hlk hH hS hz ⟨rfl, rfl, rfl, rfl, hv, pf, by first | omega | rfl | (dsimp only; omega), by first | omega | rfl | (dsimp only; omega), fun _ => by rw [hske]; exact hfin, fun h => absurd h (by omega)⟩ dX7_next_154
                          · exact cut_127_43 H locs ls (nx_s q53 (hr7 _) (by omega)) hH hS (lv_sub hl [0, 1, 2] rfl)
            · refine lv_aload_n F.1 F.2.1 dX7_next_72 rfl (lv_at hl 2 rfl) ?_
              refine z_iconst F dX7_next_73 ?_
              refine g_putI (ci := 7) (k := 21) F hH hS rfl (by decide) iX7 hm (by decide) tyX7 tyX7_ok nmX7 rfl rfl rfl k94 dX7_next_74 (fun H locs hH hS => ?_)
              obtain ⟨I_95, eI_95⟩ : ∃ qQ, qQ = gup2 I_40 mo 21 (iI (0)) := ⟨_, rfl⟩
              rw [← eI_95] at hH
              have kI_95 : ∀ b, b ≠ mo → I_95 b = I_40 b := fun b hb => by rw [eI_95]; exact funext fun j => gup2_a _ _ hb
              have w_96 : (I_95 mo 21).toInt = 0 := by rw [eI_95, gup2_s]; exact iI_val ⟨by decide, by decide⟩
              have hv : mInv g gh R I_95 AI := by rw [eI_95]; exact mP21 hv hm ⟨by decide, by decide⟩ (by omega)
              have pf : qF mo I I_95 := qF_t pf (by rw [eI_95]; exact qF_p (by decide))
              have u_97_2 : (I_95 mo 2).toInt = (I mo 2).toInt := by rw [pf 2 (by decide) (by decide) (by decide) (by decide) (by decide)]
              have u_97_5 : (I_95 mo 5).toInt = (I mo 5).toInt := by rw [pf 5 (by decide) (by decide) (by decide) (by decide) (by decide)]
              have u_97_14 : (I_95 mo 14).toInt = (I mo 14).toInt := by rw [pf 14 (by decide) (by decide) (by decide) (by decide) (by decide)]
              have u_97_16 : (I_95 mo 16).toInt = (I mo 16).toInt := by rw [pf 16 (by decide) (by decide) (by decide) (by decide) (by decide)]
              have u_97_18 : (I_95 mo 18).toInt = (I mo 18).toInt := by rw [pf 18 (by decide) (by decide) (by decide) (by decide) (by decide)]
              have w_96_k19 : (I_95 mo 19).toInt = (I_40 mo 19).toInt := by rw [eI_95, gup2_k _ _ (by decide)]
              have w_96_k20 : (I_95 mo 20).toInt = (I_40 mo 20).toInt := by rw [eI_95, gup2_k _ _ (by decide)]
              have w_96_k23 : (I_95 mo 23).toInt = (I_40 mo 23).toInt := by rw [eI_95, gup2_k _ _ (by decide)]
              have w_96_k24 : (I_95 mo 24).toInt = (I_40 mo 24).toInt := by rw [eI_95, gup2_k _ _ (by decide)]
              refine lv_aload_n F.1 F.2.1 dX7_next_77 rfl (lv_at hl 2 rfl) ?_
              refine lv_iload_n F.1 F.2.1 dX7_next_78 rfl (lv_at hl 1 rfl) ?_
              refine g_putI (ci := 7) (k := 20) F hH hS rfl (by decide) iX7 hm (by decide) tyX7 tyX7_ok nmX7 rfl rfl rfl k84 dX7_next_79 (fun H locs hH hS => ?_)
              obtain ⟨I_98, eI_98⟩ : ∃ qQ, qQ = gup2 I_95 mo 20 (iI (k)) := ⟨_, rfl⟩
              rw [← eI_98] at hH
              have kI_98 : ∀ b, b ≠ mo → I_98 b = I_95 b := fun b hb => by rw [eI_98]; exact funext fun j => gup2_a _ _ hb
              have w_99 : (I_98 mo 20).toInt = k := by rw [eI_98, gup2_s]; exact iI_val zk
              have hv : mInv g gh R I_98 AI := by rw [eI_98]; exact mP20 hv hm (by omega) (by omega)
              have pf : qF mo I I_98 := qF_t pf (by rw [eI_98]; exact qF_p (by decide))
              have u_100_2 : (I_98 mo 2).toInt = (I mo 2).toInt := by rw [pf 2 (by decide) (by decide) (by decide) (by decide) (by decide)]
              have u_100_5 : (I_98 mo 5).toInt = (I mo 5).toInt := by rw [pf 5 (by decide) (by decide) (by decide) (by decide) (by decide)]
              have u_100_14 : (I_98 mo 14).toInt = (I mo 14).toInt := by rw [pf 14 (by decide) (by decide) (by decide) (by decide) (by decide)]
              have u_100_16 : (I_98 mo 16).toInt = (I mo 16).toInt := by rw [pf 16 (by decide) (by decide) (by decide) (by decide) (by decide)]
              have u_100_18 : (I_98 mo 18).toInt = (I mo 18).toInt := by rw [pf 18 (by decide) (by decide) (by decide) (by decide) (by decide)]
              have w_99_k19 : (I_98 mo 19).toInt = (I_95 mo 19).toInt := by rw [eI_98, gup2_k _ _ (by decide)]
              have w_99_k21 : (I_98 mo 21).toInt = (I_95 mo 21).toInt := by rw [eI_98, gup2_k _ _ (by decide)]
              have w_99_k23 : (I_98 mo 23).toInt = (I_95 mo 23).toInt := by rw [eI_98, gup2_k _ _ (by decide)]
              have w_99_k24 : (I_98 mo 24).toInt = (I_95 mo 24).toInt := by rw [eI_98, gup2_k _ _ (by decide)]
              have hfin : tMk b n k.toNat (I_98 mo) (J mo 22) := tMk_end (nx_e q53 (hr7 _) (by omega)) (by omega) (by omega) (by omega) (by omega)
              refine z_goto (tgt := 154) F dX7_next_82 (by decide) ?_
              exact g_vret F hr hlk hH hS hz ⟨rfl, rfl, rfl, rfl, hv, pf, by first | omega | rfl | (dsimp only; omega), by first | omega | rfl | (dsimp only; omega), fun _ => by rw [hske]; exact hfin, fun h => absurd h (by omega)⟩ dX7_next_154
          · refine z_iinc (lv' := [(1, .int (iI (k + 1))), (0, .ref mo)]) F dX7_next_33 hl (k := 0) rfl (by decide) rfl (fun ls hl => ?_)
            refine z_goto (tgt := 13) F dX7_next_36 (by decide) ?_
            exact ih13 (k + 1) H locs ls ⟨by omega, by omega⟩ (by omega) (by first | exact nx_0 (he0 (by omega)) he1 | exact nx_bl hsk (nx_b1 q15 (by omega)) (nx_b2 q15 (hr7 _) (by omega)) | exact nx_bl hsk (nx_b1 q25 (by omega)) (nx_b2 q25 (hr7 _) (by omega))) (by omega) hH hS (lv_sub hl [0, 1] rfl)
    exact cut_13_2 (((936 - ((I mo 20).toInt)) + 1 : Int).toNat) ((I mo 20).toInt) H locs ls (zr_t _) (by omega) (by first | exact nx_0 (he0 (by omega)) he1 | exact nx_bl hsk (nx_b1 q15 (by omega)) (nx_b2 q15 (hr7 _) (by omega)) | exact nx_bl hsk (nx_b1 q25 (by omega)) (nx_b2 q25 (hr7 _) (by omega))) (by omega) hH hS (lv_sub hl [0, 1] rfl)
  · exact g_vret F hr hlk hH hS hz ⟨rfl, rfl, rfl, rfl, hv, pf, by first | omega | rfl | (dsimp only; omega), by first | omega | rfl | (dsimp only; omega), fun h => absurd h (by omega), fun _ => ⟨rfl, rfl⟩⟩ dX7_next_7
