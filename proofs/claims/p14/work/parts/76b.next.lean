section
def rmX7_nextf : Room := { frames := 2, cells := 0, slots := 0, locals := 45 }
set_option maxHeartbeats 4000000 in
set_option maxRecDepth 100000 in
/-- the next token -/
theorem c_X7_nextf (l : Launch) (g : gG) (gh : gGh) (T : Nat → Int32) (b : tTx) (n : Nat) (e0 : Nat) (I : gI) (R : gR) (J : gJ) (AI : gI) (AJ : gJ) (AR : gR) (mo : Nat) (hv : mInv g gh R I AI) (hm : gO g mo 7) (hT : AI (gh 50 0) = T) (hE : (I mo 20).toInt ≤ 936) (hb : ∀ k : Nat, k < n → (AI (gh 65 0) k).toInt = b k % 256) (hr7 : ∀ k : Nat, -128 ≤ b k ∧ b k ≤ 127) (hsz : (I mo 18).toInt = (n : Int)) (hn9 : n ≤ 900) (he0 : (I mo 24).toInt = 0 → (I mo 20).toInt = (e0 : Int)) (he1 : e0 ≤ n) : gMet l g yX7_next tsX7_next rmX7_nextf [.ref mo] (I, R, J, AI, AJ, AR) (gQv g (fun w : gS => R = w.2.1 ∧ AI = w.2.2.2.1 ∧ AJ = w.2.2.2.2.1 ∧ AR = w.2.2.2.2.2 ∧ (mInv g gh R (w.1) AI) ∧ (qF mo I (w.1)) ∧ (((w.1) mo 20).toInt ≤ 936 ∧ (I mo 24).toInt ≤ ((w.1) mo 24).toInt) ∧ (((w.1) mo 24).toInt = (I mo 24).toInt) ∧ ((I mo 24).toInt = 0 → tMk b n (tSk b n e0) ((w.1) mo) ((w.2.2.1) mo 22)) ∧ ((I mo 24).toInt ≠ 0 → (w.1) mo = I mo ∧ (w.2.2.1) mo 22 = J mo 22))) := by
  refine gStart (cc := cX7_next) (maxL := 3) (ret := none) (by decide) rfl (Nat.le_of_ble_eq_true rfl) ?_
  intro p e s m below meth c ls F hr hlk hH hz hS hl
  have hl : lv_has ls 3 [(0, .ref mo)] := hl
  have hS : va_S (gA g) s.heap s.heap [] := hS
  obtain ⟨H, hHe⟩ : ∃ H : Heap, H = s.heap := ⟨_, rfl⟩
  obtain ⟨locs, hlo⟩ : ∃ k : List Loc, k = [] := ⟨_, rfl⟩
  have hH : gH g I R J AI AJ AR H := by rw [hHe]; exact hH
  have hS : va_S (gA g) s.heap H locs := by rw [hHe, hlo]; exact hS
  suffices hw : W p l e rmX7_nextf s m ([.ref mo] : List Value).toArray below meth c H locs 0 0 (MQ below (gQv g (fun w : gS => R = w.2.1 ∧ AI = w.2.2.2.1 ∧ AJ = w.2.2.2.2.1 ∧ AR = w.2.2.2.2.2 ∧ (mInv g gh R (w.1) AI) ∧ (qF mo I (w.1)) ∧ (((w.1) mo 20).toInt ≤ 936 ∧ (I mo 24).toInt ≤ ((w.1) mo 24).toInt) ∧ (((w.1) mo 24).toInt = (I mo 24).toInt) ∧ ((I mo 24).toInt = 0 → tMk b n (tSk b n e0) ((w.1) mo) ((w.2.2.1) mo 22)) ∧ ((I mo 24).toInt ≠ 0 → (w.1) mo = I mo ∧ (w.2.2.1) mo 22 = J mo 22))) ([.ref mo] : List Value).toArray s 0 0 (gA g)) (F0 m 0 ls []) by
    rw [hHe, hlo] at hw; exact hw
  clear hHe hlo
  have pf : qF mo I I := qF_r
  have hb0 := mJ hv hm
  unfold mNum1 at hb0
  have iX7 : ∀ w ∈ u_ws RX7 TX7 32, w ∈ tsX7_next := fun w h => List.mem_cons_of_mem _ (inTB7 w h)
  have k81 : Cond.fieldLink RX7 81 (TX7 24).1 (TX7 24).2.1 (TX7 24).2.2.1 ∈ tsX7_next := List.mem_cons_of_mem _ fl_81
  have k84 : Cond.fieldLink RX7 84 (TX7 20).1 (TX7 20).2.1 (TX7 20).2.2.1 ∈ tsX7_next := List.mem_cons_of_mem _ fl_84
  have k91 : Cond.fieldLink RX7 91 (TX7 19).1 (TX7 19).2.1 (TX7 19).2.2.1 ∈ tsX7_next := List.mem_cons_of_mem _ fl_91
  have k94 : Cond.fieldLink RX7 94 (TX7 21).1 (TX7 21).2.1 (TX7 21).2.2.1 ∈ tsX7_next := List.mem_cons_of_mem _ fl_94
  have k97 : Cond.fieldLink RX7 97 (TX7 23).1 (TX7 23).2.1 (TX7 23).2.2.1 ∈ tsX7_next := List.mem_cons_of_mem _ fl_97
  refine lv_aload_n F.1 F.2.1 dX7_next_0 rfl (lv_at hl 0 rfl) ?_
  refine g_getI (ci := 7) (k := 24) F hH rfl (by decide) iX7 hm (by decide) rfl k81 dX7_next_1 ?_
  have b_1 := mJ hv hm
  unfold mNum1 at b_1
  refine z_if_le (tgt := 8) F dX7_next_4 (by decide) (zr_t _) (fun c_2 => ?_) (fun c_2 => ?_)
  · refine lv_aload_n F.1 F.2.1 dX7_next_8 rfl (lv_at hl 0 rfl) ?_
    refine g_getI (ci := 7) (k := 20) F hH rfl (by decide) iX7 hm (by decide) rfl k84 dX7_next_9 ?_
    refine lv_istore_n (lv' := [(1, .int (iI ((I mo 20).toInt))), (0, .ref mo)]) F.1 F.2.1 dX7_next_12 rfl hl (by decide) rfl (fun ls hl => ?_)
    have cut_13_2 : ∀ (NN : Nat) (k : Int) (H : Heap) (locs : List Loc) (ls : Array Slot), zr k → (0 ≤ k ∧ k ≤ 936) → (tSk b n e0 = tSk b n k.toNat ∧ k ≤ (n : Int) ∧ (e0 : Int) ≤ k) → (936 - k) < ((NN : Nat) : Int) → gH g I R J AI AJ AR H → va_S (gA g) s.heap H locs → lv_has ls 3 [(1, .int (iI k)), (0, .ref mo)] → W p l e rmX7_nextf s m ([.ref mo] : List Value).toArray below meth c H locs 0 0 (MQ below (gQv g (fun w : gS => R = w.2.1 ∧ AI = w.2.2.2.1 ∧ AJ = w.2.2.2.2.1 ∧ AR = w.2.2.2.2.2 ∧ (mInv g gh R (w.1) AI) ∧ (qF mo I (w.1)) ∧ (((w.1) mo 20).toInt ≤ 936 ∧ (I mo 24).toInt ≤ ((w.1) mo 24).toInt) ∧ (((w.1) mo 24).toInt = (I mo 24).toInt) ∧ ((I mo 24).toInt = 0 → tMk b n (tSk b n e0) ((w.1) mo) ((w.2.2.1) mo 22)) ∧ ((I mo 24).toInt ≠ 0 → (w.1) mo = I mo ∧ (w.2.2.1) mo 22 = J mo 22))) ([.ref mo] : List Value).toArray s 0 0 (gA g)) (F0 m 13 ls []) := by
      intro NN13
      induction NN13 with
      | zero =>
        intro k H locs ls zk hk hsk hm13 hH hS hl
        exact absurd hm13 (by omega)
      | succ NN13 ih13 =>
        intro k H locs ls zk hk hsk hm13 hH hS hl
        refine lv_aload_n F.1 F.2.1 dX7_next_13 rfl (lv_at hl 1 rfl) ?_
        refine lv_iload_n F.1 F.2.1 dX7_next_14 rfl (lv_at hl 0 rfl) ?_
        refine g_calli (g_runV (As := [.int (iI k)]) (rest := []) (ci := 7) F hl.1 hH hS hz (c_X7_byteAtf l g gh T b n I R J AI AJ AR mo k zk hv hm hT (by omega) hb hr7 (by omega) (by omega)) (cwV 1 F.2.2.2.2.1 (good_up gT_X7_byteAt) rfl rfl rfl hdX7_byteAt ⟨Nat.le_of_ble_eq_true rfl, Nat.le_of_ble_eq_true rfl⟩) hm (by decide) rfl rfl rfl (Nat.le_of_ble_eq_true rfl) dX7_next_15 ⟨Nat.zero_le _, Nat.zero_le _⟩) hS (fun v_10 I_4 R_5 J_6 AI_7 AJ_8 AR_9 H locs zv_10 hp_11 hH hS => ?_)
        dsimp only at hp_11
        obtain ⟨rfl, rfl, rfl, rfl, rfl, rfl, q15⟩ := hp_11
        refine z_bipush F dX7_next_18 (by decide) ?_
        refine z_icmp_eq (tgt := 33) F dX7_next_20 (by decide) zv_10 ⟨by decide, by decide⟩ (fun c_12 => ?_) (fun c_12 => ?_)
        · refine z_iinc (lv' := [(1, .int (iI (k + 1))), (0, .ref mo)]) F dX7_next_33 hl (k := 0) rfl (by decide) rfl (fun ls hl => ?_)
          refine z_goto (tgt := 13) F dX7_next_36 (by decide) ?_
          exact ih13 (k + 1) H locs ls ⟨by omega, by omega⟩ (by omega) (by first | exact nx_0 (he0 (by omega)) he1 | exact nx_bl hsk (nx_b1 q15 (by omega)) (nx_b2 q15 (hr7 _) (by omega)) | exact nx_bl hsk (nx_b1 q25 (by omega)) (nx_b2 q25 (hr7 _) (by omega))) (by omega) hH hS (lv_sub hl [0, 1] rfl)
        · refine lv_aload_n F.1 F.2.1 dX7_next_23 rfl (lv_at hl 1 rfl) ?_
          refine lv_iload_n F.1 F.2.1 dX7_next_24 rfl (lv_at hl 0 rfl) ?_
          refine g_calli (g_runV (As := [.int (iI k)]) (rest := []) (ci := 7) F hl.1 hH hS hz (c_X7_byteAtf l g gh T b n I R J AI AJ AR mo k zk hv hm hT (by omega) hb hr7 (by omega) (by omega)) (cwV 1 F.2.2.2.2.1 (good_up gT_X7_byteAt) rfl rfl rfl hdX7_byteAt ⟨Nat.le_of_ble_eq_true rfl, Nat.le_of_ble_eq_true rfl⟩) hm (by decide) rfl rfl rfl (Nat.le_of_ble_eq_true rfl) dX7_next_25 ⟨Nat.zero_le _, Nat.zero_le _⟩) hS (fun v_19 I_13 R_14 J_15 AI_16 AJ_17 AR_18 H locs zv_19 hp_20 hH hS => ?_)
          dsimp only at hp_20
          obtain ⟨rfl, rfl, rfl, rfl, rfl, rfl, q25⟩ := hp_20
          refine z_bipush F dX7_next_28 (by decide) ?_
          refine z_icmp_ne (tgt := 39) F dX7_next_30 (by decide) zv_19 ⟨by decide, by decide⟩ (fun c_21 => ?_) (fun c_21 => ?_)
          · have hske : tSk b n e0 = k.toNat := nx_sk hsk (by omega) (nx_nb q15 q25 (hr7 _) (by omega) (by omega))
            refine lv_aload_n F.1 F.2.1 dX7_next_39 rfl (lv_at hl 1 rfl) ?_
            refine lv_iload_n F.1 F.2.1 dX7_next_40 rfl (lv_at hl 0 rfl) ?_
            refine g_putI (ci := 7) (k := 19) F hH hS rfl (by decide) iX7 hm (by decide) tyX7 tyX7_ok nmX7 rfl rfl rfl k91 dX7_next_41 (fun H locs hH hS => ?_)
            obtain ⟨I_22, eI_22⟩ : ∃ qQ, qQ = gup2 I mo 19 (iI (k)) := ⟨_, rfl⟩
            rw [← eI_22] at hH
            have kI_22 : ∀ b, b ≠ mo → I_22 b = I b := fun b hb => by rw [eI_22]; exact funext fun j => gup2_a _ _ hb
            have w_23 : (I_22 mo 19).toInt = k := by rw [eI_22, gup2_s]; exact iI_val zk
            have hv : mInv g gh R I_22 AI := by rw [eI_22]; exact mP19 hv hm (by omega) (by omega)
            have pf : qF mo I I_22 := qF_t pf (by rw [eI_22]; exact qF_p (by decide))
            have u_24_2 : (I_22 mo 2).toInt = (I mo 2).toInt := by rw [pf 2 (by decide) (by decide) (by decide) (by decide) (by decide)]
            have u_24_5 : (I_22 mo 5).toInt = (I mo 5).toInt := by rw [pf 5 (by decide) (by decide) (by decide) (by decide) (by decide)]
            have u_24_14 : (I_22 mo 14).toInt = (I mo 14).toInt := by rw [pf 14 (by decide) (by decide) (by decide) (by decide) (by decide)]
            have u_24_16 : (I_22 mo 16).toInt = (I mo 16).toInt := by rw [pf 16 (by decide) (by decide) (by decide) (by decide) (by decide)]
            have u_24_18 : (I_22 mo 18).toInt = (I mo 18).toInt := by rw [pf 18 (by decide) (by decide) (by decide) (by decide) (by decide)]
            have w_23_k20 : (I_22 mo 20).toInt = (I mo 20).toInt := by rw [eI_22, gup2_k _ _ (by decide)]
            have w_23_k21 : (I_22 mo 21).toInt = (I mo 21).toInt := by rw [eI_22, gup2_k _ _ (by decide)]
            have w_23_k23 : (I_22 mo 23).toInt = (I mo 23).toInt := by rw [eI_22, gup2_k _ _ (by decide)]
            have w_23_k24 : (I_22 mo 24).toInt = (I mo 24).toInt := by rw [eI_22, gup2_k _ _ (by decide)]
            refine lv_aload_n F.1 F.2.1 dX7_next_44 rfl (lv_at hl 1 rfl) ?_
            refine lv_iload_n F.1 F.2.1 dX7_next_45 rfl (lv_at hl 0 rfl) ?_
            refine z_iconst F dX7_next_46 ?_
            refine z_iadd F dX7_next_47 ?_
            refine g_putI (ci := 7) (k := 20) F hH hS rfl (by decide) iX7 hm (by decide) tyX7 tyX7_ok nmX7 rfl rfl rfl k84 dX7_next_48 (fun H locs hH hS => ?_)
            obtain ⟨I_25, eI_25⟩ : ∃ qQ, qQ = gup2 I_22 mo 20 (iI (k + 1)) := ⟨_, rfl⟩
            rw [← eI_25] at hH
            have kI_25 : ∀ b, b ≠ mo → I_25 b = I_22 b := fun b hb => by rw [eI_25]; exact funext fun j => gup2_a _ _ hb
            have w_26 : (I_25 mo 20).toInt = k + 1 := by rw [eI_25, gup2_s]; exact iI_val ⟨by omega, by omega⟩
            have hv : mInv g gh R I_25 AI := by rw [eI_25]; exact mP20 hv hm (by omega) (by omega)
            have pf : qF mo I I_25 := qF_t pf (by rw [eI_25]; exact qF_p (by decide))
            have u_27_2 : (I_25 mo 2).toInt = (I mo 2).toInt := by rw [pf 2 (by decide) (by decide) (by decide) (by decide) (by decide)]
            have u_27_5 : (I_25 mo 5).toInt = (I mo 5).toInt := by rw [pf 5 (by decide) (by decide) (by decide) (by decide) (by decide)]
            have u_27_14 : (I_25 mo 14).toInt = (I mo 14).toInt := by rw [pf 14 (by decide) (by decide) (by decide) (by decide) (by decide)]
            have u_27_16 : (I_25 mo 16).toInt = (I mo 16).toInt := by rw [pf 16 (by decide) (by decide) (by decide) (by decide) (by decide)]
            have u_27_18 : (I_25 mo 18).toInt = (I mo 18).toInt := by rw [pf 18 (by decide) (by decide) (by decide) (by decide) (by decide)]
            have w_26_k19 : (I_25 mo 19).toInt = (I_22 mo 19).toInt := by rw [eI_25, gup2_k _ _ (by decide)]
            have w_26_k21 : (I_25 mo 21).toInt = (I_22 mo 21).toInt := by rw [eI_25, gup2_k _ _ (by decide)]
            have w_26_k23 : (I_25 mo 23).toInt = (I_22 mo 23).toInt := by rw [eI_25, gup2_k _ _ (by decide)]
            have w_26_k24 : (I_25 mo 24).toInt = (I_22 mo 24).toInt := by rw [eI_25, gup2_k _ _ (by decide)]
            refine lv_aload_n F.1 F.2.1 dX7_next_51 rfl (lv_at hl 1 rfl) ?_
            refine lv_iload_n F.1 F.2.1 dX7_next_52 rfl (lv_at hl 0 rfl) ?_
            have b_28 := mJ hv hm
            unfold mNum1 at b_28
            refine g_calli (g_runV (As := [.int (iI k)]) (rest := []) (ci := 7) F hl.1 hH hS hz (c_X7_byteAtf l g gh T b n I_25 R J AI AJ AR mo k zk hv hm hT (by omega) hb hr7 (by omega) (by omega)) (cwV 1 F.2.2.2.2.1 (good_up gT_X7_byteAt) rfl rfl rfl hdX7_byteAt ⟨Nat.le_of_ble_eq_true rfl, Nat.le_of_ble_eq_true rfl⟩) hm (by decide) rfl rfl rfl (Nat.le_of_ble_eq_true rfl) dX7_next_53 ⟨Nat.zero_le _, Nat.zero_le _⟩) hS (fun v_35 I_29 R_30 J_31 AI_32 AJ_33 AR_34 H locs zv_35 hp_36 hH hS => ?_)
            dsimp only at hp_36
            obtain ⟨rfl, rfl, rfl, rfl, rfl, rfl, q53⟩ := hp_36
            refine lv_istore_n (lv' := [(2, .int (iI v_35)), (1, .int (iI k)), (0, .ref mo)]) F.1 F.2.1 dX7_next_56 rfl hl (by decide) rfl (fun ls hl => ?_)
            refine lv_aload_n F.1 F.2.1 dX7_next_57 rfl (lv_at hl 2 rfl) ?_
            refine z_iconst F dX7_next_58 ?_
            refine g_putI (ci := 7) (k := 21) F hH hS rfl (by decide) iX7 hm (by decide) tyX7 tyX7_ok nmX7 rfl rfl rfl k94 dX7_next_59 (fun H locs hH hS => ?_)
            obtain ⟨I_37, eI_37⟩ : ∃ qQ, qQ = gup2 I_25 mo 21 (iI (5)) := ⟨_, rfl⟩
            rw [← eI_37] at hH
            have kI_37 : ∀ b, b ≠ mo → I_37 b = I_25 b := fun b hb => by rw [eI_37]; exact funext fun j => gup2_a _ _ hb
            have w_38 : (I_37 mo 21).toInt = 5 := by rw [eI_37, gup2_s]; exact iI_val ⟨by decide, by decide⟩
            have hv : mInv g gh R I_37 AI := by rw [eI_37]; exact mP21 hv hm ⟨by decide, by decide⟩ (by omega)
            have pf : qF mo I I_37 := qF_t pf (by rw [eI_37]; exact qF_p (by decide))
            have u_39_2 : (I_37 mo 2).toInt = (I mo 2).toInt := by rw [pf 2 (by decide) (by decide) (by decide) (by decide) (by decide)]
            have u_39_5 : (I_37 mo 5).toInt = (I mo 5).toInt := by rw [pf 5 (by decide) (by decide) (by decide) (by decide) (by decide)]
            have u_39_14 : (I_37 mo 14).toInt = (I mo 14).toInt := by rw [pf 14 (by decide) (by decide) (by decide) (by decide) (by decide)]
            have u_39_16 : (I_37 mo 16).toInt = (I mo 16).toInt := by rw [pf 16 (by decide) (by decide) (by decide) (by decide) (by decide)]
            have u_39_18 : (I_37 mo 18).toInt = (I mo 18).toInt := by rw [pf 18 (by decide) (by decide) (by decide) (by decide) (by decide)]
            have w_38_k19 : (I_37 mo 19).toInt = (I_25 mo 19).toInt := by rw [eI_37, gup2_k _ _ (by decide)]
            have w_38_k20 : (I_37 mo 20).toInt = (I_25 mo 20).toInt := by rw [eI_37, gup2_k _ _ (by decide)]
            have w_38_k23 : (I_37 mo 23).toInt = (I_25 mo 23).toInt := by rw [eI_37, gup2_k _ _ (by decide)]
            have w_38_k24 : (I_37 mo 24).toInt = (I_25 mo 24).toInt := by rw [eI_37, gup2_k _ _ (by decide)]
            refine lv_aload_n F.1 F.2.1 dX7_next_62 rfl (lv_at hl 2 rfl) ?_
            refine lv_iload_n F.1 F.2.1 dX7_next_63 rfl (lv_at hl 0 rfl) ?_
            refine g_putI (ci := 7) (k := 23) F hH hS rfl (by decide) iX7 hm (by decide) tyX7 tyX7_ok nmX7 rfl rfl rfl k97 dX7_next_64 (fun H locs hH hS => ?_)
            obtain ⟨I_40, eI_40⟩ : ∃ qQ, qQ = gup2 I_37 mo 23 (iI (v_35)) := ⟨_, rfl⟩
            rw [← eI_40] at hH
            have kI_40 : ∀ b, b ≠ mo → I_40 b = I_37 b := fun b hb => by rw [eI_40]; exact funext fun j => gup2_a _ _ hb
            have w_41 : (I_40 mo 23).toInt = v_35 := by rw [eI_40, gup2_s]; exact iI_val zv_35
            have hv : mInv g gh R I_40 AI := by rw [eI_40]; exact mP23 hv hm zv_35 (by omega)
            have pf : qF mo I I_40 := qF_t pf (by rw [eI_40]; exact qF_p (by decide))
            have u_42_2 : (I_40 mo 2).toInt = (I mo 2).toInt := by rw [pf 2 (by decide) (by decide) (by decide) (by decide) (by decide)]
            have u_42_5 : (I_40 mo 5).toInt = (I mo 5).toInt := by rw [pf 5 (by decide) (by decide) (by decide) (by decide) (by decide)]
            have u_42_14 : (I_40 mo 14).toInt = (I mo 14).toInt := by rw [pf 14 (by decide) (by decide) (by decide) (by decide) (by decide)]
            have u_42_16 : (I_40 mo 16).toInt = (I mo 16).toInt := by rw [pf 16 (by decide) (by decide) (by decide) (by decide) (by decide)]
            have u_42_18 : (I_40 mo 18).toInt = (I mo 18).toInt := by rw [pf 18 (by decide) (by decide) (by decide) (by decide) (by decide)]
            have w_41_k19 : (I_40 mo 19).toInt = (I_37 mo 19).toInt := by rw [eI_40, gup2_k _ _ (by decide)]
            have w_41_k20 : (I_40 mo 20).toInt = (I_37 mo 20).toInt := by rw [eI_40, gup2_k _ _ (by decide)]
            have w_41_k21 : (I_40 mo 21).toInt = (I_37 mo 21).toInt := by rw [eI_40, gup2_k _ _ (by decide)]
            have w_41_k24 : (I_40 mo 24).toInt = (I_37 mo 24).toInt := by rw [eI_40, gup2_k _ _ (by decide)]
            refine lv_iload_n F.1 F.2.1 dX7_next_67 rfl (lv_at hl 0 rfl) ?_
            refine z_iconst F dX7_next_68 ?_
            refine z_icmp_ne (tgt := 85) F dX7_next_69 (by decide) zv_35 ⟨by decide, by decide⟩ (fun c_43 => ?_) (fun c_43 => ?_)
            · have cut_127_43 : ∀ (H : Heap) (locs : List Loc) (ls : Array Slot), (tSx b k.toNat ∧ v_35 = b k.toNat) → gH g I_40 R J AI AJ AR H → va_S (gA g) s.heap H locs → lv_has ls 3 [(2, .int (iI v_35)), (1, .int (iI k)), (0, .ref mo)] → W p l e rmX7_nextf s m ([.ref mo] : List Value).toArray below meth c H locs 0 0 (MQ below (gQv g (fun w : gS => R = w.2.1 ∧ AI = w.2.2.2.1 ∧ AJ = w.2.2.2.2.1 ∧ AR = w.2.2.2.2.2 ∧ (mInv g gh R (w.1) AI) ∧ (qF mo I (w.1)) ∧ (((w.1) mo 20).toInt ≤ 936 ∧ (I mo 24).toInt ≤ ((w.1) mo 24).toInt) ∧ (((w.1) mo 24).toInt = (I mo 24).toInt) ∧ ((I mo 24).toInt = 0 → tMk b n (tSk b n e0) ((w.1) mo) ((w.2.2.1) mo 22)) ∧ ((I mo 24).toInt ≠ 0 → (w.1) mo = I mo ∧ (w.2.2.1) mo 22 = J mo 22))) ([.ref mo] : List Value).toArray s 0 0 (gA g)) (F0 m 127 ls []) := by
                intro H locs ls h127 hH hS hl
                refine lv_aload_n F.1 F.2.1 dX7_next_127 rfl (lv_at hl 2 rfl) ?_
                refine z_iconst F dX7_next_128 ?_
                refine g_putI (ci := 7) (k := 21) F hH hS rfl (by decide) iX7 hm (by decide) tyX7 tyX7_ok nmX7 rfl rfl rfl k94 dX7_next_129 (fun H locs hH hS => ?_)
                obtain ⟨I_45, eI_45⟩ : ∃ qQ, qQ = gup2 I_40 mo 21 (iI (4)) := ⟨_, rfl⟩
                rw [← eI_45] at hH
                have kI_45 : ∀ b, b ≠ mo → I_45 b = I_40 b := fun b hb => by rw [eI_45]; exact funext fun j => gup2_a _ _ hb
                have w_46 : (I_45 mo 21).toInt = 4 := by rw [eI_45, gup2_s]; exact iI_val ⟨by decide, by decide⟩
                have hv : mInv g gh R I_45 AI := by rw [eI_45]; exact mP21 hv hm ⟨by decide, by decide⟩ (by omega)
                have pf : qF mo I I_45 := qF_t pf (by rw [eI_45]; exact qF_p (by decide))
                have u_47_2 : (I_45 mo 2).toInt = (I mo 2).toInt := by rw [pf 2 (by decide) (by decide) (by decide) (by decide) (by decide)]
                have u_47_5 : (I_45 mo 5).toInt = (I mo 5).toInt := by rw [pf 5 (by decide) (by decide) (by decide) (by decide) (by decide)]
                have u_47_14 : (I_45 mo 14).toInt = (I mo 14).toInt := by rw [pf 14 (by decide) (by decide) (by decide) (by decide) (by decide)]
                have u_47_16 : (I_45 mo 16).toInt = (I mo 16).toInt := by rw [pf 16 (by decide) (by decide) (by decide) (by decide) (by decide)]
                have u_47_18 : (I_45 mo 18).toInt = (I mo 18).toInt := by rw [pf 18 (by decide) (by decide) (by decide) (by decide) (by decide)]
                have w_46_k19 : (I_45 mo 19).toInt = (I_40 mo 19).toInt := by rw [eI_45, gup2_k _ _ (by decide)]
                have w_46_k20 : (I_45 mo 20).toInt = (I_40 mo 20).toInt := by rw [eI_45, gup2_k _ _ (by decide)]
                have w_46_k23 : (I_45 mo 23).toInt = (I_40 mo 23).toInt := by rw [eI_45, gup2_k _ _ (by decide)]
                have w_46_k24 : (I_45 mo 24).toInt = (I_40 mo 24).toInt := by rw [eI_45, gup2_k _ _ (by decide)]
                have hfin : tMk b n k.toNat (I_45 mo) (J mo 22) := tMk_sg (nx_k q53 (by omega)) (nx_sr h127.1) (by omega) (by omega) (Or.inl ⟨h127.1, by omega, by omega⟩)
                refine z_goto (tgt := 154) F dX7_next_132 (by decide) ?_
                exact g_vret F hr hlk hH hS hz ⟨rfl, rfl, rfl, rfl, hv, pf, by first | omega | rfl | (dsimp only; omega), by first | omega | rfl | (dsimp only; omega), fun _ => by rw [hske]; exact hfin, fun h => absurd h (by omega)⟩ dX7_next_154
              refine lv_iload_n F.1 F.2.1 dX7_next_85 rfl (lv_at hl 0 rfl) ?_
              refine z_bipush F dX7_next_86 (by decide) ?_
              refine z_icmp_eq (tgt := 127) F dX7_next_88 (by decide) zv_35 ⟨by decide, by decide⟩ (fun c_48 => ?_) (fun c_48 => ?_)
              · exact cut_127_43 H locs ls (nx_s q53 (hr7 _) (by omega)) hH hS (lv_sub hl [0, 1, 2] rfl)
              · refine lv_iload_n F.1 F.2.1 dX7_next_91 rfl (lv_at hl 0 rfl) ?_
                refine z_bipush F dX7_next_92 (by decide) ?_
                refine z_icmp_eq (tgt := 127) F dX7_next_94 (by decide) zv_35 ⟨by decide, by decide⟩ (fun c_49 => ?_) (fun c_49 => ?_)
                · exact cut_127_43 H locs ls (nx_s q53 (hr7 _) (by omega)) hH hS (lv_sub hl [0, 1, 2] rfl)
                · refine lv_iload_n F.1 F.2.1 dX7_next_97 rfl (lv_at hl 0 rfl) ?_
                  refine z_bipush F dX7_next_98 (by decide) ?_
                  refine z_icmp_eq (tgt := 127) F dX7_next_100 (by decide) zv_35 ⟨by decide, by decide⟩ (fun c_50 => ?_) (fun c_50 => ?_)
                  · exact cut_127_43 H locs ls (nx_s q53 (hr7 _) (by omega)) hH hS (lv_sub hl [0, 1, 2] rfl)
                  · refine lv_iload_n F.1 F.2.1 dX7_next_103 rfl (lv_at hl 0 rfl) ?_
                    refine z_bipush F dX7_next_104 (by decide) ?_
                    refine z_icmp_eq (tgt := 127) F dX7_next_106 (by decide) zv_35 ⟨by decide, by decide⟩ (fun c_51 => ?_) (fun c_51 => ?_)
                    · exact cut_127_43 H locs ls (nx_s q53 (hr7 _) (by omega)) hH hS (lv_sub hl [0, 1, 2] rfl)
                    · refine lv_iload_n F.1 F.2.1 dX7_next_109 rfl (lv_at hl 0 rfl) ?_
                      refine z_bipush F dX7_next_110 (by decide) ?_
                      refine z_icmp_eq (tgt := 127) F dX7_next_112 (by decide) zv_35 ⟨by decide, by decide⟩ (fun c_52 => ?_) (fun c_52 => ?_)
                      · exact cut_127_43 H locs ls (nx_s q53 (hr7 _) (by omega)) hH hS (lv_sub hl [0, 1, 2] rfl)
                      · refine lv_iload_n F.1 F.2.1 dX7_next_115 rfl (lv_at hl 0 rfl) ?_
                        refine z_bipush F dX7_next_116 (by decide) ?_
                        refine z_icmp_eq (tgt := 127) F dX7_next_118 (by decide) zv_35 ⟨by decide, by decide⟩ (fun c_53 => ?_) (fun c_53 => ?_)
                        · exact cut_127_43 H locs ls (nx_s q53 (hr7 _) (by omega)) hH hS (lv_sub hl [0, 1, 2] rfl)
                        · refine lv_iload_n F.1 F.2.1 dX7_next_121 rfl (lv_at hl 0 rfl) ?_
                          refine z_bipush F dX7_next_122 (by decide) ?_
                          refine z_icmp_ne (tgt := 135) F dX7_next_124 (by decide) zv_35 ⟨by decide, by decide⟩ (fun c_54 => ?_) (fun c_54 => ?_)
                          · refine lv_iload_n F.1 F.2.1 dX7_next_135 rfl (lv_at hl 0 rfl) ?_
                            refine g_calli (g_runS (As := [.int (iI v_35)]) (rest := []) F hl.1 hH hS hz (c_X7_isSmallf l g  I_40 R J AI AJ AR v_35 zv_35) (va_cwS 1 F.2.2.2.2.1 (good_up gT_X7_isSmall) rfl rfl rfl hdX7_isSmall.2 ⟨Nat.le_of_ble_eq_true rfl, Nat.le_of_ble_eq_true rfl⟩) rfl rfl (Nat.le_of_ble_eq_true rfl) dX7_next_136 ⟨Nat.zero_le _, Nat.zero_le _⟩) hS (fun v_61 I_55 R_56 J_57 AI_58 AJ_59 AR_60 H locs zv_61 hp_62 hH hS => ?_)
                            dsimp only at hp_62
                            obtain ⟨rfl, rfl, rfl, rfl, rfl, rfl, q136⟩ := hp_62
                            refine z_if_ne (tgt := 149) F dX7_next_139 (by decide) zv_61 (fun c_63 => ?_) (fun c_63 => ?_)
                            · refine lv_aload_n F.1 F.2.1 dX7_next_149 rfl (lv_at hl 2 rfl) ?_
                              refine lv_iload_n F.1 F.2.1 dX7_next_150 rfl (lv_at hl 1 rfl) ?_
                              have b_64 := mJ hv hm
                              unfold mNum1 at b_64
                              refine g_callv (g_runV (As := [.int (iI k)]) (rest := []) (ci := 7) F hl.1 hH hS hz (c_X7_runsf l g gh T b n I_40 R J AI AJ AR mo k zk hv hm hT (by omega) (by omega) (by omega) hb hr7 (by omega) (by omega) (by first | exact (tBa_run q53 (hr7 _) (Or.inl (tIz_1 q136 (by omega)))).1 | exact (tBa_run q53 (hr7 _) (Or.inr (tIz_1 q143 (by omega)))).1) (by first | exact (tBa_run q53 (hr7 _) (Or.inl (tIz_1 q136 (by omega)))).2 | exact (tBa_run q53 (hr7 _) (Or.inr (tIz_1 q143 (by omega)))).2)) (cwV 1 F.2.2.2.2.1 (good_up gT_X7_runs) rfl rfl rfl hdX7_runs ⟨Nat.le_of_ble_eq_true rfl, Nat.le_of_ble_eq_true rfl⟩) hm (by decide) rfl rfl rfl (Nat.le_of_ble_eq_true rfl) dX7_next_151 ⟨Nat.zero_le _, Nat.zero_le _⟩) hS (fun I_65 R_66 J_67 AI_68 AJ_69 AR_70 H locs hp_71 hH hS => ?_)
                              dsimp only at hp_71
                              obtain ⟨rfl, rfl, rfl, rfl, hv, pfq, q_72, q_73, q20, q21, q23, q19, qw⟩ := hp_71
                              have hrr : k < (n : Int) ∧ tRx b k.toNat := by first | exact tBa_run q53 (hr7 _) (Or.inl (tIz_1 q136 (by omega))) | exact tBa_run q53 (hr7 _) (Or.inr (tIz_1 q143 (by omega)))
                              have pf := qF_t pf pfq
                              have u_74_2 : (I_65 mo 2).toInt = (I mo 2).toInt := by rw [pf 2 (by decide) (by decide) (by decide) (by decide) (by decide)]
                              have u_74_5 : (I_65 mo 5).toInt = (I mo 5).toInt := by rw [pf 5 (by decide) (by decide) (by decide) (by decide) (by decide)]
                              have u_74_14 : (I_65 mo 14).toInt = (I mo 14).toInt := by rw [pf 14 (by decide) (by decide) (by decide) (by decide) (by decide)]
                              have u_74_16 : (I_65 mo 16).toInt = (I mo 16).toInt := by rw [pf 16 (by decide) (by decide) (by decide) (by decide) (by decide)]
                              have u_74_18 : (I_65 mo 18).toInt = (I mo 18).toInt := by rw [pf 18 (by decide) (by decide) (by decide) (by decide) (by decide)]
                              have hfin : tMk b n k.toNat (I_65 mo) (J_67 mo 22) := tMk_run (by omega) hrr.2 (by omega) q20 q21 q23 qw
                              exact g_vret F hr hlk hH hS hz ⟨rfl, rfl, rfl, rfl, hv, pf, by first | omega | rfl | (dsimp only; omega), by first | omega | rfl | (dsimp only; omega), fun _ => by rw [hske]; exact hfin, fun h => absurd h (by omega)⟩ dX7_next_154
                            · refine lv_iload_n F.1 F.2.1 dX7_next_142 rfl (lv_at hl 0 rfl) ?_
                              refine g_calli (g_runS (As := [.int (iI v_35)]) (rest := []) F hl.1 hH hS hz (c_X7_isDigitf l g  I_40 R J AI AJ AR v_35 zv_35) (va_cwS 1 F.2.2.2.2.1 (good_up gT_X7_isDigit) rfl rfl rfl hdX7_isDigit.2 ⟨Nat.le_of_ble_eq_true rfl, Nat.le_of_ble_eq_true rfl⟩) rfl rfl (Nat.le_of_ble_eq_true rfl) dX7_next_143 ⟨Nat.zero_le _, Nat.zero_le _⟩) hS (fun v_81 I_75 R_76 J_77 AI_78 AJ_79 AR_80 H locs zv_81 hp_82 hH hS => ?_)
                              dsimp only at hp_82
                              obtain ⟨rfl, rfl, rfl, rfl, rfl, rfl, q143⟩ := hp_82
                              refine z_if_eq (tgt := 154) F dX7_next_146 (by decide) zv_81 (fun c_83 => ?_) (fun c_83 => ?_)
                              · have hfin : tMk b n k.toNat (I_40 mo) (J mo 22) := tMk_sg (nx_k q53 (by omega)) (nx_nr q53 (hr7 _) (nx_k q53 (by omega)) (tIz_0 q136 (by omega)) (tIz_0 q143 (by omega))) (by omega) (by omega) (Or.inr ⟨nx_ns q53 (hr7 _) (nx_k q53 (by omega)) (by omega), by omega⟩)
                                exact g_vret F hr hlk hH hS hz ⟨rfl, rfl, rfl, rfl, hv, pf, by first | omega | rfl | (dsimp only; omega), by first | omega | rfl | (dsimp only; omega), fun _ => by rw [hske]; exact hfin, fun h => absurd h (by omega)⟩ dX7_next_154
                              · refine lv_aload_n F.1 F.2.1 dX7_next_149 rfl (lv_at hl 2 rfl) ?_
                                refine lv_iload_n F.1 F.2.1 dX7_next_150 rfl (lv_at hl 1 rfl) ?_
                                have b_84 := mJ hv hm
                                unfold mNum1 at b_84
                                refine g_callv (g_runV (As := [.int (iI k)]) (rest := []) (ci := 7) F hl.1 hH hS hz (c_X7_runsf l g gh T b n I_40 R J AI AJ AR mo k zk hv hm hT (by omega) (by omega) (by omega) hb hr7 (by omega) (by omega) (by first | exact (tBa_run q53 (hr7 _) (Or.inl (tIz_1 q136 (by omega)))).1 | exact (tBa_run q53 (hr7 _) (Or.inr (tIz_1 q143 (by omega)))).1) (by first | exact (tBa_run q53 (hr7 _) (Or.inl (tIz_1 q136 (by omega)))).2 | exact (tBa_run q53 (hr7 _) (Or.inr (tIz_1 q143 (by omega)))).2)) (cwV 1 F.2.2.2.2.1 (good_up gT_X7_runs) rfl rfl rfl hdX7_runs ⟨Nat.le_of_ble_eq_true rfl, Nat.le_of_ble_eq_true rfl⟩) hm (by decide) rfl rfl rfl (Nat.le_of_ble_eq_true rfl) dX7_next_151 ⟨Nat.zero_le _, Nat.zero_le _⟩) hS (fun I_85 R_86 J_87 AI_88 AJ_89 AR_90 H locs hp_91 hH hS => ?_)
                                dsimp only at hp_91
                                obtain ⟨rfl, rfl, rfl, rfl, hv, pfq, q_92, q_93, q20, q21, q23, q19, qw⟩ := hp_91
                                have hrr : k < (n : Int) ∧ tRx b k.toNat := by first | exact tBa_run q53 (hr7 _) (Or.inl (tIz_1 q136 (by omega))) | exact tBa_run q53 (hr7 _) (Or.inr (tIz_1 q143 (by omega)))
                                have pf := qF_t pf pfq
                                have u_94_2 : (I_85 mo 2).toInt = (I mo 2).toInt := by rw [pf 2 (by decide) (by decide) (by decide) (by decide) (by decide)]
                                have u_94_5 : (I_85 mo 5).toInt = (I mo 5).toInt := by rw [pf 5 (by decide) (by decide) (by decide) (by decide) (by decide)]
                                have u_94_14 : (I_85 mo 14).toInt = (I mo 14).toInt := by rw [pf 14 (by decide) (by decide) (by decide) (by decide) (by decide)]
                                have u_94_16 : (I_85 mo 16).toInt = (I mo 16).toInt := by rw [pf 16 (by decide) (by decide) (by decide) (by decide) (by decide)]
                                have u_94_18 : (I_85 mo 18).toInt = (I mo 18).toInt := by rw [pf 18 (by decide) (by decide) (by decide) (by decide) (by decide)]
                                have hfin : tMk b n k.toNat (I_85 mo) (J_87 mo 22) := tMk_run (by omega) hrr.2 (by omega) q20 q21 q23 qw
                                exact g_vret F hr hlk hH hS hz ⟨rfl, rfl, rfl, rfl, hv, pf, by first | omega | rfl | (dsimp only; omega), by first | omega | rfl | (dsimp only; omega), fun _ => by rw [hske]; exact hfin, fun h => absurd h (by omega)⟩ dX7_next_154
                          · exact cut_127_43 H locs ls (nx_s q53 (hr7 _) (by omega)) hH hS (lv_sub hl [0, 1, 2] rfl)
            · refine lv_aload_n F.1 F.2.1 dX7_next_72 rfl (lv_at hl 2 rfl) ?_
              refine z_iconst F dX7_next_73 ?_
              refine g_putI (ci := 7) (k := 21) F hH hS rfl (by decide) iX7 hm (by decide) tyX7 tyX7_ok nmX7 rfl rfl rfl k94 dX7_next_74 (fun H locs hH hS => ?_)
              obtain ⟨I_95, eI_95⟩ : ∃ qQ, qQ = gup2 I_40 mo 21 (iI (0)) := ⟨_, rfl⟩
              rw [← eI_95] at hH
              have kI_95 : ∀ b, b ≠ mo → I_95 b = I_40 b := fun b hb => by rw [eI_95]; exact funext fun j => gup2_a _ _ hb
              have w_96 : (I_95 mo 21).toInt = 0 := by rw [eI_95, gup2_s]; exact iI_val ⟨by decide, by decide⟩
              have hv : mInv g gh R I_95 AI := by rw [eI_95]; exact mP21 hv hm ⟨by decide, by decide⟩ (by omega)
              have pf : qF mo I I_95 := qF_t pf (by rw [eI_95]; exact qF_p (by decide))
              have u_97_2 : (I_95 mo 2).toInt = (I mo 2).toInt := by rw [pf 2 (by decide) (by decide) (by decide) (by decide) (by decide)]
              have u_97_5 : (I_95 mo 5).toInt = (I mo 5).toInt := by rw [pf 5 (by decide) (by decide) (by decide) (by decide) (by decide)]
              have u_97_14 : (I_95 mo 14).toInt = (I mo 14).toInt := by rw [pf 14 (by decide) (by decide) (by decide) (by decide) (by decide)]
              have u_97_16 : (I_95 mo 16).toInt = (I mo 16).toInt := by rw [pf 16 (by decide) (by decide) (by decide) (by decide) (by decide)]
              have u_97_18 : (I_95 mo 18).toInt = (I mo 18).toInt := by rw [pf 18 (by decide) (by decide) (by decide) (by decide) (by decide)]
              have w_96_k19 : (I_95 mo 19).toInt = (I_40 mo 19).toInt := by rw [eI_95, gup2_k _ _ (by decide)]
              have w_96_k20 : (I_95 mo 20).toInt = (I_40 mo 20).toInt := by rw [eI_95, gup2_k _ _ (by decide)]
              have w_96_k23 : (I_95 mo 23).toInt = (I_40 mo 23).toInt := by rw [eI_95, gup2_k _ _ (by decide)]
              have w_96_k24 : (I_95 mo 24).toInt = (I_40 mo 24).toInt := by rw [eI_95, gup2_k _ _ (by decide)]
              refine lv_aload_n F.1 F.2.1 dX7_next_77 rfl (lv_at hl 2 rfl) ?_
              refine lv_iload_n F.1 F.2.1 dX7_next_78 rfl (lv_at hl 1 rfl) ?_
              refine g_putI (ci := 7) (k := 20) F hH hS rfl (by decide) iX7 hm (by decide) tyX7 tyX7_ok nmX7 rfl rfl rfl k84 dX7_next_79 (fun H locs hH hS => ?_)
              obtain ⟨I_98, eI_98⟩ : ∃ qQ, qQ = gup2 I_95 mo 20 (iI (k)) := ⟨_, rfl⟩
              rw [← eI_98] at hH
              have kI_98 : ∀ b, b ≠ mo → I_98 b = I_95 b := fun b hb => by rw [eI_98]; exact funext fun j => gup2_a _ _ hb
              have w_99 : (I_98 mo 20).toInt = k := by rw [eI_98, gup2_s]; exact iI_val zk
              have hv : mInv g gh R I_98 AI := by rw [eI_98]; exact mP20 hv hm (by omega) (by omega)
              have pf : qF mo I I_98 := qF_t pf (by rw [eI_98]; exact qF_p (by decide))
              have u_100_2 : (I_98 mo 2).toInt = (I mo 2).toInt := by rw [pf 2 (by decide) (by decide) (by decide) (by decide) (by decide)]
              have u_100_5 : (I_98 mo 5).toInt = (I mo 5).toInt := by rw [pf 5 (by decide) (by decide) (by decide) (by decide) (by decide)]
              have u_100_14 : (I_98 mo 14).toInt = (I mo 14).toInt := by rw [pf 14 (by decide) (by decide) (by decide) (by decide) (by decide)]
              have u_100_16 : (I_98 mo 16).toInt = (I mo 16).toInt := by rw [pf 16 (by decide) (by decide) (by decide) (by decide) (by decide)]
              have u_100_18 : (I_98 mo 18).toInt = (I mo 18).toInt := by rw [pf 18 (by decide) (by decide) (by decide) (by decide) (by decide)]
              have w_99_k19 : (I_98 mo 19).toInt = (I_95 mo 19).toInt := by rw [eI_98, gup2_k _ _ (by decide)]
              have w_99_k21 : (I_98 mo 21).toInt = (I_95 mo 21).toInt := by rw [eI_98, gup2_k _ _ (by decide)]
              have w_99_k23 : (I_98 mo 23).toInt = (I_95 mo 23).toInt := by rw [eI_98, gup2_k _ _ (by decide)]
              have w_99_k24 : (I_98 mo 24).toInt = (I_95 mo 24).toInt := by rw [eI_98, gup2_k _ _ (by decide)]
              have hfin : tMk b n k.toNat (I_98 mo) (J mo 22) := tMk_end (nx_e q53 (hr7 _) (by omega)) (by omega) (by omega) (by omega) (by omega)
              refine z_goto (tgt := 154) F dX7_next_82 (by decide) ?_
              exact g_vret F hr hlk hH hS hz ⟨rfl, rfl, rfl, rfl, hv, pf, by first | omega | rfl | (dsimp only; omega), by first | omega | rfl | (dsimp only; omega), fun _ => by rw [hske]; exact hfin, fun h => absurd h (by omega)⟩ dX7_next_154
          · refine z_iinc (lv' := [(1, .int (iI (k + 1))), (0, .ref mo)]) F dX7_next_33 hl (k := 0) rfl (by decide) rfl (fun ls hl => ?_)
            refine z_goto (tgt := 13) F dX7_next_36 (by decide) ?_
            exact ih13 (k + 1) H locs ls ⟨by omega, by omega⟩ (by omega) (by first | exact nx_0 (he0 (by omega)) he1 | exact nx_bl hsk (nx_b1 q15 (by omega)) (nx_b2 q15 (hr7 _) (by omega)) | exact nx_bl hsk (nx_b1 q25 (by omega)) (nx_b2 q25 (hr7 _) (by omega))) (by omega) hH hS (lv_sub hl [0, 1] rfl)
    exact cut_13_2 (((936 - ((I mo 20).toInt)) + 1 : Int).toNat) ((I mo 20).toInt) H locs ls (zr_t _) (by omega) (by first | exact nx_0 (he0 (by omega)) he1 | exact nx_bl hsk (nx_b1 q15 (by omega)) (nx_b2 q15 (hr7 _) (by omega)) | exact nx_bl hsk (nx_b1 q25 (by omega)) (nx_b2 q25 (hr7 _) (by omega))) (by omega) hH hS (lv_sub hl [0, 1] rfl)
  · exact g_vret F hr hlk hH hS hz ⟨rfl, rfl, rfl, rfl, hv, pf, by first | omega | rfl | (dsimp only; omega), by first | omega | rfl | (dsimp only; omega), fun h => absurd h (by omega), fun _ => ⟨rfl, rfl⟩⟩ dX7_next_7
end
section
/-! reading a plan, as both sides answer: kind, value and name of the h-th token -/
def pK (b : tTx) (n h : Nat) : Int := tKd b n (tPs b n h)
def pV (b : tTx) (n h : Nat) : Int := tVl b n (tPs b n h)
def pN (b : tTx) (n h : Nat) : Int64 := tNa b n (tPs b n h)
/-- a word of the language (w its number), or another one (-1) -/
def pW (b : tTx) (n h : Nat) (w : Int) : Prop := pK b n h = 3 ∧ pV b n h = w
/-- a column below c: the fault's kind, or 0 -/
def pCf (b : tTx) (n : Nat) (c : Int) (h : Nat) : Int := if pK b n h = 2 then (if c ≤ pV b n h then 2 else 0) else 1
theorem pCf_r {b : tTx} {n h : Nat} {c : Int} : 0 ≤ pCf b n c h ∧ pCf b n c h ≤ 2 := by
  unfold pCf
  by_cases q : pK b n h = 2
  · rw [if_pos q]
    by_cases r : c ≤ pV b n h
    · rw [if_pos r]; decide
    · rw [if_neg r]; decide
  · rw [if_neg q]; decide
theorem pCf_0 {b : tTx} {n h : Nat} {c : Int} (e : pCf b n c h = 0) : pK b n h = 2 ∧ pV b n h < c := by
  unfold pCf at e
  by_cases q : pK b n h = 2
  · rw [if_pos q] at e
    by_cases r : c ≤ pV b n h
    · rw [if_pos r] at e; exact absurd e (by decide)
    · exact ⟨q, by omega⟩
  · rw [if_neg q] at e; exact absurd e (by decide)
theorem pCf_no {b : tTx} {n h : Nat} {c : Int} (q : pK b n h ≠ 2) : pCf b n c h = 1 := by unfold pCf; rw [if_neg q]
theorem pCf_big {b : tTx} {n h : Nat} {c : Int} (q : pK b n h = 2) (r : c ≤ pV b n h) : pCf b n c h = 2 := by unfold pCf; rw [if_pos q, if_pos r]
theorem pCf_ok {b : tTx} {n h : Nat} {c : Int} (q : pK b n h = 2) (r : ¬ c ≤ pV b n h) : pCf b n c h = 0 := by unfold pCf; rw [if_pos q, if_neg r]
/-- the relation that the name at h tells: nt r the token of the r-th name, nr their number -/
def pFdF (b : tTx) (n : Nat) (nt : Nat → Nat) (h : Nat) : Nat → Nat → Int
  | 0, _ => -1
  | f + 1, r => if pN b n (nt r) = pN b n h then (r : Int) else pFdF b n nt h f (r + 1)
def pFd (b : tTx) (n : Nat) (nt : Nat → Nat) (nr h : Nat) : Int := pFdF b n nt h nr 0
/-- names are apart -/
def pUn (b : tTx) (n : Nat) (nt : Nat → Nat) (nr : Nat) : Prop := ∀ r s, r < nr → s < nr → pN b n (nt r) = pN b n (nt s) → r = s
theorem pFdF_at {b : tTx} {n : Nat} {nt : Nat → Nat} {h : Nat} : ∀ (f w v : Nat), w ≤ v → v < w + f → pN b n (nt v) = pN b n h → (∀ u, w ≤ u → u < v → pN b n (nt u) ≠ pN b n h) → pFdF b n nt h f w = (v : Int)
  | 0, w, v, h1, h2, _, _ => absurd h2 (by omega)
  | f + 1, w, v, h1, h2, h3, h4 => by
    rw [pFdF]
    by_cases q : w = v
    · rw [q, if_pos h3]
    · rw [if_neg (h4 w (Nat.le_refl _) (by omega))]
      exact pFdF_at f (w + 1) v (by omega) (by omega) h3 (fun u hu => h4 u (by omega))
theorem pFdF_no {b : tTx} {n : Nat} {nt : Nat → Nat} {h : Nat} : ∀ (f w : Nat), (∀ u, w ≤ u → u < w + f → pN b n (nt u) ≠ pN b n h) → pFdF b n nt h f w = -1
  | 0, _, _ => rfl
  | f + 1, w, hn => by
    rw [pFdF, if_neg (hn w (Nat.le_refl _) (by omega))]
    exact pFdF_no f (w + 1) (fun u hu hl => hn u (by omega) (by omega))
theorem pFd_at {b : tTx} {n : Nat} {nt : Nat → Nat} {nr h v : Nat} (hu : pUn b n nt nr) (hv : v < nr) (e : pN b n (nt v) = pN b n h) : pFd b n nt nr h = (v : Int) :=
  pFdF_at nr 0 v (Nat.zero_le _) (by omega) e (fun u _ hl q => by have := hu u v (by omega) hv (q.trans e.symm); omega)
theorem pFd_no {b : tTx} {n : Nat} {nt : Nat → Nat} {nr h : Nat} (hn : ∀ u, u < nr → pN b n (nt u) ≠ pN b n h) : pFd b n nt nr h = -1 := pFdF_no nr 0 (fun u _ hl => hn u (by omega))
/-- a relation: the fault's kind, or 0 -/
def pRf (b : tTx) (n : Nat) (nt : Nat → Nat) (nr h : Nat) : Int := if pK b n h = 3 ∧ pV b n h = -1 then (if pFd b n nt nr h < 0 then 3 else 0) else 1
/-- the class's tokens are those of the text; tl their number -/
def pTk (gh : gGh) (AI : gI) (AJ : gJ) (b : tTx) (n : Nat) (tl : Int) : Prop := (∀ j : Nat, (j : Int) < tl → tOk gh AI AJ b n j) ∧ tPs b n (tl - 1).toNat = n ∧ ∀ j : Nat, (j : Int) < tl - 1 → tPs b n j < n
theorem tKd_end {b : tTx} {n k : Nat} (h : n ≤ k) : tKd b n k = 0 := by unfold tKd; rw [if_pos h]
theorem tKd_in {b : tTx} {n k : Nat} (h : k < n) : tKd b n k ≠ 0 := by
  unfold tKd
  rw [if_neg (by omega)]
  by_cases q : tRu (b k)
  · rw [if_pos q]
    unfold tKr
    by_cases a : tDc b k (tRn b n k - k) = 0 ∧ tRn b n k - k ≤ 8
    · rw [if_pos a]; decide
    · rw [if_neg a]
      by_cases c : tDc b k (tRn b n k - k) = tRn b n k - k ∧ tRn b n k - k ≤ 4
      · rw [if_pos c]; decide
      · rw [if_neg c]
        by_cases d : tRn b n k - k = 2 ∧ b k = 99 ∧ 48 ≤ b (k + 1) ∧ b (k + 1) ≤ 51
        · rw [if_pos d]; decide
        · rw [if_neg d]; decide
  · rw [if_neg q]
    by_cases r : tSg (b k)
    · rw [if_pos r]; omega
    · rw [if_neg r]; decide
section PTK
variable {gh : gGh} {AI AI' : gI} {AJ : gJ} {b : tTx} {n : Nat} {tl : Int} {h : Nat}
theorem pTk_K (q : pTk gh AI AJ b n tl) (hh : (h : Int) < tl) : (AI (gh 24 0) h).toInt = pK b n h := (q.1 h hh).1
theorem pTk_P (q : pTk gh AI AJ b n tl) (hh : (h : Int) < tl) : (AI (gh 25 0) h).toInt = (tPs b n h : Int) := (q.1 h hh).2.1
theorem pTk_V (q : pTk gh AI AJ b n tl) (hh : (h : Int) < tl) : (AI (gh 26 0) h).toInt = pV b n h := (q.1 h hh).2.2.1
theorem pTk_N (q : pTk gh AI AJ b n tl) (hh : (h : Int) < tl) : AJ (gh 27 0) h = pN b n h := (q.1 h hh).2.2.2
/-- no end: there is one more -/
theorem pTk_s (q : pTk gh AI AJ b n tl) (hh : (h : Int) < tl) (hk : pK b n h ≠ 0) : (h : Int) < tl - 1 := by
  by_cases r : (h : Int) < tl - 1
  · exact r
  · exfalso
    apply hk
    unfold pK
    have e : h = (tl - 1).toNat := by omega
    rw [e, q.2.1]
    exact tKd_end (Nat.le_refl _)
theorem pTk_c (q : pTk gh AI AJ b n tl) (e4 : AI' (gh 24 0) = AI (gh 24 0)) (e5 : AI' (gh 25 0) = AI (gh 25 0)) (e6 : AI' (gh 26 0) = AI (gh 26 0)) : pTk gh AI' AJ b n tl := by
  refine ⟨fun j hj => ?_, q.2⟩
  have w := q.1 j hj
  unfold tOk tAt at w ⊢
  rw [e4, e5, e6]; exact w
end PTK
/-- the class's plan so far: nr lines, their names and columns -/
def pLn (gh : gGh) (AR : gR) (I : gI) (J : gJ) (q : Nat) (b : tTx) (n nr : Nat) (nt : Nat → Nat) (cl : Nat → Int) : Prop :=
  (I q 1).toInt = (nr : Int) ∧ nr ≤ 16 ∧ (∀ r : Nat, r < nr → ∀ y, AR (gh 6 q) r = some y → J y 1 = pN b n (nt r) ∧ (I y 2).toInt = cl r) ∧ pUn b n nt nr
theorem pLn_c {g : gG} {gh : gGh} {R AR : gR} {I I' AI : gI} {J : gJ} {q ln a : Nat} {b : tTx} {n nr : Nat} {nt : Nat → Nat} {cl : Nat → Int} (hv : gInv g gh R AR I AI) (h : pLn gh AR I J q b n nr nt cl) (hq : gO g q 2) (h1 : gO g a 1) (hl : gh 4 ln = q) (h5 : (gh 5 ln : Int) = (I q 1).toInt) (hO : gO g ln 0) (f : ∀ b, b ≠ a → b ≠ ln → I' b = I b) : pLn gh AR I' J q b n nr nt cl := by
  obtain ⟨e1, e2, e3, e4⟩ := h
  have fq : I' q = I q := f q (gO_ne hq h1 (by decide)) (gO_ne hq hO (by decide))
  refine ⟨by rw [fq]; exact e1, e2, fun r hr y hy => ?_, e4⟩
  obtain ⟨y', hy', hyO, hy4, hy5⟩ := (hv.2.2.2.1 q hq).1.2.2.1 r (by omega)
  have ey : y = y' := Option.some.inj (hy.symm.trans hy')
  subst ey
  have ne : y ≠ ln := fun e => by rw [e] at hy5; omega
  rw [f y (gO_ne hyO h1 (by decide)) ne]
  exact e3 r hr y hy
/-- what the class's search says, as the spec's -/
theorem pLn_fd {gh : gGh} {AR : gR} {I : gI} {J : gJ} {q : Nat} {b : tTx} {n nr h : Nat} {nt : Nat → Nat} {cl : Nat → Int} {z : Int} {nm : Int64} (hl : pLn gh AR I J q b n nr nt cl) (hall : ∀ r : Nat, r < nr → ∃ y, AR (gh 6 q) r = some y) (en : nm = pN b n h)
    (hz : (z = -1 ∧ ∀ j : Nat, (j : Int) < (I q 1).toInt → ∀ y, AR (gh 6 q) j = some y → J y 1 ≠ nm) ∨ (0 ≤ z ∧ z < (I q 1).toInt ∧ ∃ y, AR (gh 6 q) z.toNat = some y ∧ J y 1 = nm)) : z = pFd b n nt nr h := by
  obtain ⟨e1, e2, e3, e4⟩ := hl
  rcases hz with ⟨a, c⟩ | ⟨a, c, y, d, f⟩
  · rw [a, pFd_no]
    intro u hu e
    obtain ⟨y, hy⟩ := hall u hu
    exact c u (by omega) y hy (by rw [(e3 u hu y hy).1, e, en])
  · have r := (e3 z.toNat (by omega) y d).1
    rw [pFd_at (v := z.toNat) e4 (by omega) (by rw [← r, f, en])]
    omega
end
section
/-! what the reading of a line answers: the fault's kind (0: none), the token where it stands, a value -/
abbrev pR : Type := Int × Nat × Int
def thn (r : pR) (f : Nat → Int → pR) : pR := if r.1 = 0 then f r.2.1 r.2.2 else r
theorem thn_y {r s x : pR} {f : Nat → Int → pR} (e : r = s) (h : r.1 = 0) (k : f r.2.1 r.2.2 = x) : thn s f = x := by subst e; exact (if_pos h).trans k
theorem thn_x {r s : pR} {f : Nat → Int → pR} (e : r = s) (h : r.1 ≠ 0) : thn s f = r := by subst e; exact if_neg h
theorem ite_y {p : Prop} [Decidable p] {a c x : pR} (h : p) (k : a = x) : (if p then a else c) = x := (if_pos h).trans k
theorem ite_n {p : Prop} [Decidable p] {a c x : pR} (h : ¬ p) (k : c = x) : (if p then a else c) = x := (if_neg h).trans k
theorem thn_a {r : pR} {f k : Nat → Int → pR} : thn (thn r f) k = thn r (fun h x => thn (f h x) k) := by
  by_cases q : r.1 = 0
  · rw [thn_y rfl q rfl, thn_y (f := fun h x => thn (f h x) k) rfl q rfl]
  · rw [thn_x rfl q, thn_x (f := fun h x => thn (f h x) k) rfl q, thn_x rfl q]
theorem thn_v {r : pR} {F : Nat → Int → pR} {v : Int} (h : r.1 = 0 → v = r.2.2) : thn r (fun t _ => F t v) = thn r F := by
  by_cases q : r.1 = 0
  · rw [thn_y (f := fun t _ => F t v) rfl q rfl, thn_y (f := F) rfl q rfl, h q]
  · rw [thn_x (f := F) rfl q, thn_x (f := fun t _ => F t v) rfl q]
section Spec
variable (b : tTx) (n : Nat)
def sTk (kd : Int) (h : Nat) : pR := if pK b n h = kd then (0, h + 1, 0) else (1, h, 0)
def sTw (w : Int) (h : Nat) : pR := if pK b n h = 3 ∧ pV b n h = w then (0, h + 1, 0) else (1, h, 0)
def sCol (c : Int) (h : Nat) : pR := if pCf b n c h = 0 then (0, h + 1, pV b n h) else (pCf b n c h, h, 0)
def sTest (c k : Int) (h : Nat) : pR :=
  if pCf b n c h = 0 then
    (if 8 ≤ k then (4, h, 0) else
      if pK b n (h + 1) = 61 ∨ pK b n (h + 1) = 60 ∨ pK b n (h + 1) = 62 then
        (if pK b n (h + 2) = 4 then (0, h + 3, 0) else if pCf b n c (h + 2) = 0 then (0, h + 3, 0) else (pCf b n c (h + 2), h + 2, 0))
      else (1, h + 1, 0))
  else (pCf b n c h, h, 0)
def sTests (c : Int) : Nat → Int → Nat → pR
  | 0, _, h => (4, h, 0)
  | f + 1, k, h => thn (sTest b n c k h) fun t _ => if pK b n t = 3 ∧ pV b n t = 11 then sTests c f (k + 1) (t + 1) else (0, t, c)
def sTerm (c k : Int) (h : Nat) : pR :=
  if pK b n h = 4 then (if 4 ≤ k then (4, h, 0) else (0, h + 1, 0))
  else if pCf b n c h = 0 then
    (if 4 ≤ k then (4, h, 0) else
      if pK b n (h + 1) = 43 ∨ pK b n (h + 1) = 45 then (if pK b n (h + 2) = 4 then (0, h + 3, 0) else (1, h + 2, 0)) else (0, h + 1, 0))
  else (pCf b n c h, h, 0)
def sTerms (c : Int) : Nat → Int → Nat → pR
  | 0, _, h => (4, h, 0)
  | f + 1, k, h => thn (sTerm b n c k h) fun t _ => if pK b n t = 44 then sTerms c f (k + 1) (t + 1) else (0, t, k + 1)
def sPair (c d k lim : Int) (h : Nat) : pR :=
  if pCf b n c h = 0 then (if lim ≤ k then (4, h, 0) else thn (sTk b n 61 (h + 1)) fun t _ => if pCf b n d t = 0 then (0, t + 1, pV b n t) else (pCf b n d t, t, 0))
  else (pCf b n c h, h, 0)
def jC (L : List Int) : Nat → Int
  | 0 => 0
  | m + 1 => jC L m + if (m : Int) ∈ L then 0 else 1
def sPairs (c d : Int) : Nat → Int → List Int → Nat → pR
  | 0, _, _, h => (4, h, 0)
  | f + 1, k, L, h => thn (sPair b n c d k 4 h) fun t v => if pK b n t = 44 then sPairs c d f (k + 1) (v :: L) (t + 1) else (0, t, c + jC (v :: L) d.toNat)
def sBy (c k : Int) (L : List Int) (h : Nat) : pR :=
  if pCf b n c h = 0 then (if pV b n h ∈ L then (2, h, 0) else if 3 ≤ k then (4, h, 0) else (0, h + 1, pV b n h)) else (pCf b n c h, h, 0)
def sBys (c : Int) : Nat → Int → List Int → Nat → pR
  | 0, _, _, h => (4, h, 0)
  | f + 1, k, L, h => thn (sBy b n c k L h) fun t v => if pK b n t = 44 then sBys c f (k + 1) (v :: L) (t + 1) else (0, t, k + 1)
def sFo (c x : Int) (h : Nat) : pR :=
  if pK b n h = 3 ∧ 16 ≤ pV b n h ∧ pV b n h ≤ 19 then (if pV b n h = 16 then (0, h + 1, x) else if pCf b n c (h + 1) = 0 then (0, h + 2, x) else (pCf b n c (h + 1), h + 1, 0)) else (1, h, 0)
def sTc (h : Nat) : pR := if pK b n h = 4 then (if 1 ≤ pV b n h ∧ pV b n h ≤ 4 then (0, h + 1, pV b n h) else (2, h, 0)) else (1, h, 0)
def sClo (x : Int) (h : Nat) : pR := if pK b n h = 59 then (if 4 < x then (5, h, 0) else (0, h + 1, x)) else (1, h, 0)
variable (nr : Nat) (nt : Nat → Nat) (cl : Nat → Int)
def cF (h : Nat) : Int := cl (pFd b n nt nr h).toNat
def sRl (h : Nat) : pR := if pRf b n nt nr h = 0 then (0, h + 1, cF b n nr nt cl h) else (pRf b n nt nr h, h, 0)
def sSel (h : Nat) : pR := thn (sRl b n nr nt cl h) fun t c => thn (sTw b n 10 t) fun t _ => sTests b n c 9 0 t
def sPrj (h : Nat) : pR := thn (sRl b n nr nt cl h) fun t c => sTerms b n c 5 0 t
def sJoi (h : Nat) : pR := thn (sRl b n nr nt cl h) fun t c => thn (sRl b n nr nt cl t) fun t d => thn (sTw b n 12 t) fun t _ => sPairs b n c d 5 0 [] t
def sTwo (h : Nat) : pR := thn (sRl b n nr nt cl h) fun t c => if pRf b n nt nr t = 0 then (if cF b n nr nt cl t = c then (0, t + 1, c) else (5, t, 0)) else (pRf b n nt nr t, t, 0)
def sGrp (h : Nat) : pR := thn (sRl b n nr nt cl h) fun t c => thn (sTw b n 13 t) fun t _ => thn (sBys b n c 4 0 [] t) fun t k => sFo b n c (k + 1) t
def rX (c d k : Int) : Int := if c + d ≤ 4 ∧ k = c then c else 5
def sRng (h : Nat) : pR := thn (sRl b n nr nt cl h) fun t c => thn (sTw b n 14 t) fun t _ => thn (sRl b n nr nt cl t) fun t d => thn (sTw b n 12 t) fun t _ => thn (sPair b n c d 0 1 t) fun t _ => thn (sTw b n 15 t) fun t _ => thn (sTerms b n (c + d) 5 0 t) fun t k => (0, t, rX c d k)
def sBody (kd : Int) (h : Nat) : pR :=
  if kd = 1 then sSel b n nr nt cl h else if kd = 2 then sPrj b n nr nt cl h else if kd = 3 then sJoi b n nr nt cl h else if kd = 4 ∨ kd = 5 then sTwo b n nr nt cl h
  else if kd = 6 then sRl b n nr nt cl h else if kd = 7 then sGrp b n nr nt cl h else if kd = 8 then sRng b n nr nt cl h else sTc b n h
def sNam (h : Nat) : pR := if pK b n h = 3 ∧ pV b n h = -1 then (if pFd b n nt nr h = -1 then (0, h + 1, 0) else (3, h, 0)) else (1, h, 0)
def sVk (h : Nat) : pR := thn (sTk b n 61 h) fun t _ => if pK b n t = 3 ∧ 1 ≤ pV b n t ∧ pV b n t ≤ 8 then (0, t + 1, pV b n t) else (1, t, 0)
def sHd (tb : Int) (h : Nat) : pR :=
  if pK b n h = 3 ∧ pV b n h = 0 then (if 16 ≤ nr then (4, h, 0) else if tb < (nr : Int) then (6, h, 0) else sNam b n nr nt (h + 1))
  else if pK b n h = 3 ∧ pV b n h = 9 then (if 16 ≤ nr then (4, h, 0) else thn (sNam b n nr nt (h + 1)) fun t _ => sVk b n t)
  else (1, h, 0)
def sLine (tb : Int) (h : Nat) : pR := thn (sHd b n nr nt tb h) fun t kd => thn (sBody b n nr nt cl kd t) fun t x => sClo b n x t
end Spec
def sUp {α : Type} (f : Nat → α) (k : Nat) (v : α) : Nat → α := fun j => if j = k then v else f j
theorem sUp_s {α : Type} {f : Nat → α} {k : Nat} {v : α} : sUp f k v k = v := if_pos rfl
theorem sUp_k {α : Type} {f : Nat → α} {j k : Nat} {v : α} (h : j ≠ k) : sUp f k v j = f j := if_neg h
/-- the whole text: the fault (8 times the place, and its kind) or 0; how many lines -/
def sPar (b : tTx) (n : Nat) : Nat → Nat → (Nat → Nat) → (Nat → Int) → Int → Nat → Int × Nat
  | 0, nr, _, _, _, _ => (0, nr)
  | f + 1, nr, nt, cl, tb, h =>
    if pK b n h = 0 then (0, nr)
    else if (sLine b n nr nt cl tb h).1 = 0 then
      sPar b n f (nr + 1) (sUp nt nr (h + 1)) (sUp cl nr (sLine b n nr nt cl tb h).2.2) (if pK b n h = 3 ∧ pV b n h = 0 then tb + 1 else tb) (sLine b n nr nt cl tb h).2.1
    else (8 * (tPs b n (sLine b n nr nt cl tb h).2.1 : Int) + (sLine b n nr nt cl tb h).1, nr)
section Loops
variable {b : tTx} {n : Nat} {c d k : Int} {h f m : Nat} {S r : pR} {L : List Int}
theorem sTests_go (hs : S = sTests b n c m k h) (hm : m = f + 1) (er : r = sTest b n c k h) (h0 : r.1 = 0) (hw : pK b n r.2.1 = 3 ∧ pV b n r.2.1 = 11) : S = sTests b n c f (k + 1) (r.2.1 + 1) := by
  rw [hs, hm, sTests]; exact thn_y er h0 (ite_y hw rfl)
theorem sTests_st (hs : S = sTests b n c m k h) (hm : m = f + 1) (er : r = sTest b n c k h) (h0 : r.1 = 0) (hw : ¬ (pK b n r.2.1 = 3 ∧ pV b n r.2.1 = 11)) : S = (0, r.2.1, c) := by
  rw [hs, hm, sTests]; exact thn_y er h0 (ite_n hw rfl)
theorem sTests_no (hs : S = sTests b n c m k h) (hm : m = f + 1) (er : r = sTest b n c k h) (h0 : r.1 ≠ 0) : S = r := by
  rw [hs, hm, sTests]; exact thn_x er h0
theorem sTests_z (hs : S = sTests b n c m k h) (hm : m = 0) : S = (4, h, 0) := by rw [hs, hm]; rfl
theorem sTerms_go (hs : S = sTerms b n c m k h) (hm : m = f + 1) (er : r = sTerm b n c k h) (h0 : r.1 = 0) (hw : pK b n r.2.1 = 44) : S = sTerms b n c f (k + 1) (r.2.1 + 1) := by
  rw [hs, hm, sTerms]; exact thn_y er h0 (ite_y hw rfl)
theorem sTerms_st (hs : S = sTerms b n c m k h) (hm : m = f + 1) (er : r = sTerm b n c k h) (h0 : r.1 = 0) (hw : ¬ (pK b n r.2.1 = 44)) : S = (0, r.2.1, k + 1) := by
  rw [hs, hm, sTerms]; exact thn_y er h0 (ite_n hw rfl)
theorem sTerms_no (hs : S = sTerms b n c m k h) (hm : m = f + 1) (er : r = sTerm b n c k h) (h0 : r.1 ≠ 0) : S = r := by
  rw [hs, hm, sTerms]; exact thn_x er h0
theorem sTerms_z (hs : S = sTerms b n c m k h) (hm : m = 0) : S = (4, h, 0) := by rw [hs, hm]; rfl
theorem sPairs_go (hs : S = sPairs b n c d m k L h) (hm : m = f + 1) (er : r = sPair b n c d k 4 h) (h0 : r.1 = 0) (hw : pK b n r.2.1 = 44) : S = sPairs b n c d f (k + 1) (r.2.2 :: L) (r.2.1 + 1) := by
  rw [hs, hm, sPairs]; exact thn_y er h0 (ite_y hw rfl)
theorem sPairs_st (hs : S = sPairs b n c d m k L h) (hm : m = f + 1) (er : r = sPair b n c d k 4 h) (h0 : r.1 = 0) (hw : ¬ (pK b n r.2.1 = 44)) : S = (0, r.2.1, c + jC (r.2.2 :: L) d.toNat) := by
  rw [hs, hm, sPairs]; exact thn_y er h0 (ite_n hw rfl)
theorem sPairs_no (hs : S = sPairs b n c d m k L h) (hm : m = f + 1) (er : r = sPair b n c d k 4 h) (h0 : r.1 ≠ 0) : S = r := by
  rw [hs, hm, sPairs]; exact thn_x er h0
theorem sPairs_z (hs : S = sPairs b n c d m k L h) (hm : m = 0) : S = (4, h, 0) := by rw [hs, hm]; rfl
theorem sBys_go (hs : S = sBys b n c m k L h) (hm : m = f + 1) (er : r = sBy b n c k L h) (h0 : r.1 = 0) (hw : pK b n r.2.1 = 44) : S = sBys b n c f (k + 1) (r.2.2 :: L) (r.2.1 + 1) := by
  rw [hs, hm, sBys]; exact thn_y er h0 (ite_y hw rfl)
theorem sBys_st (hs : S = sBys b n c m k L h) (hm : m = f + 1) (er : r = sBy b n c k L h) (h0 : r.1 = 0) (hw : ¬ (pK b n r.2.1 = 44)) : S = (0, r.2.1, k + 1) := by
  rw [hs, hm, sBys]; exact thn_y er h0 (ite_n hw rfl)
theorem sBys_no (hs : S = sBys b n c m k L h) (hm : m = f + 1) (er : r = sBy b n c k L h) (h0 : r.1 ≠ 0) : S = r := by
  rw [hs, hm, sBys]; exact thn_x er h0
theorem sBys_z (hs : S = sBys b n c m k L h) (hm : m = 0) : S = (4, h, 0) := by rw [hs, hm]; rfl
end Loops
/-! where the class's reading stands: its tokens, the token that is looked at, the lines so far -/
def pH (gh : gGh) (AR : gR) (I : gI) (J : gJ) (AI : gI) (AJ : gJ) (a q : Nat) (b : tTx) (n : Nat) (tl : Int) (nr : Nat) (nt : Nat → Nat) (cl : Nat → Int) (h : Nat) : Prop :=
  pTk gh AI AJ b n tl ∧ (I (gh 22 0) 4).toInt = tl ∧ (I a 3).toInt = (h : Int) ∧ (h : Int) < tl ∧ pLn gh AR I J q b n nr nt cl
section PH
variable {g : gG} {gh : gGh} {R AR : gR} {I I' : gI} {J : gJ} {AI AI' : gI} {AJ : gJ} {a q ln : Nat} {b : tTx} {n : Nat} {tl : Int} {nr : Nat} {nt : Nat → Nat} {cl : Nat → Int} {h : Nat}
theorem pH_h (w : pH gh AR I J AI AJ a q b n tl nr nt cl h) : (I a 3).toInt = (h : Int) := w.2.2.1
theorem pH_n (w : pH gh AR I J AI AJ a q b n tl nr nt cl h) : (I a 3).toInt.toNat = h := by have := w.2.2.1; omega
theorem pH_K (w : pH gh AR I J AI AJ a q b n tl nr nt cl h) : (AI (gh 24 0) (I a 3).toInt.toNat).toInt = pK b n h := by rw [pH_n w]; exact pTk_K w.1 w.2.2.2.1
theorem pH_P (w : pH gh AR I J AI AJ a q b n tl nr nt cl h) : (AI (gh 25 0) (I a 3).toInt.toNat).toInt = (tPs b n h : Int) := by rw [pH_n w]; exact pTk_P w.1 w.2.2.2.1
theorem pH_V (w : pH gh AR I J AI AJ a q b n tl nr nt cl h) : (AI (gh 26 0) (I a 3).toInt.toNat).toInt = pV b n h := by rw [pH_n w]; exact pTk_V w.1 w.2.2.2.1
theorem pH_N (w : pH gh AR I J AI AJ a q b n tl nr nt cl h) : AJ (gh 27 0) (I a 3).toInt.toNat = pN b n h := by rw [pH_n w]; exact pTk_N w.1 w.2.2.2.1
theorem pH_l (w : pH gh AR I J AI AJ a q b n tl nr nt cl h) : (I q 1).toInt = (nr : Int) := w.2.2.2.2.1
theorem pH_t (w : pH gh AR I J AI AJ a q b n tl nr nt cl h) : (I a 3).toInt < (I (gh 22 0) 4).toInt := by rw [w.2.1, w.2.2.1]; exact w.2.2.2.1
/-- the line alone has changed -/
theorem pH_ln (hv : gInv g gh R AR I AI) (hp : pS g gh R I a q ln) (w : pH gh AR I J AI AJ a q b n tl nr nt cl h) (f : ∀ b, b ≠ ln → I' b = I b) : pH gh AR I' J AI AJ a q b n tl nr nt cl h :=
  ⟨w.1, by rw [f _ (gO_ne (gR_pr0 hv hp.1).2 hp.2.2.2.2.1 (by decide))]; exact w.2.1, by rw [f a (gO_ne hp.1 hp.2.2.2.2.1 (by decide))]; exact w.2.2.1, w.2.2.2.1,
   pLn_c hv w.2.2.2.2 hp.2.2.1 hp.1 hp.2.2.2.2.2.1 hp.2.2.2.2.2.2.1 hp.2.2.2.2.1 (fun b _ h2 => f b h2)⟩
/-- the parts of the line have changed -/
theorem pH_ai {I0 AI0 : gI} (hv : gInv g gh R AR I0 AI0) (h1 : gO g a 1) (h0 : gO g ln 0) (w : pH gh AR I J AI AJ a q b n tl nr nt cl h) (f : ∀ b, b ≠ gh 3 ln → AI' b = AI b) : pH gh AR I J AI' AJ a q b n tl nr nt cl h := by
  have k := hv.2.2.2.2.2.2.1 _ (gR_pr0 hv h1).2
  have e2 := (hv.2.2.1 ln h0).1.2.2.1
  exact ⟨pTk_c w.1 (f _ (fun e => by have := k.1.2.2.2; rw [e, e2] at this; exact absurd this (by decide))) (f _ (fun e => by have := k.2.1.2.2; rw [e, e2] at this; exact absurd this (by decide))) (f _ (fun e => by have := k.2.2.1.2.2; rw [e, e2] at this; exact absurd this (by decide))), w.2⟩
/-- the next token -/
theorem pH_st (hv : gInv g gh R AR I AI) (h1 : gO g a 1) (hq : gO g q 2) (w : pH gh AR I J AI AJ a q b n tl nr nt cl h) (f : ∀ b, b ≠ a → I' b = I b) (hk : pK b n h ≠ 0) (e : (I' a 3).toInt = (I a 3).toInt + 1) : pH gh AR I' J AI AJ a q b n tl nr nt cl (h + 1) := by
  have s := pTk_s w.1 w.2.2.2.1 hk
  have e3 := w.2.2.1
  obtain ⟨l1, l2, l3, l4⟩ := w.2.2.2.2
  refine ⟨w.1, by rw [f _ (gO_ne (gR_pr0 hv h1).2 h1 (by decide))]; exact w.2.1, by omega, by omega, by rw [f q (gO_ne hq h1 (by decide))]; exact l1, l2, fun r hr y hy => ?_, l4⟩
  obtain ⟨y', hy', hyO, _⟩ := (hv.2.2.2.1 q hq).1.2.2.1 r (by omega)
  have ey : y = y' := Option.some.inj (hy.symm.trans hy')
  subst ey
  rw [f y (gO_ne hyO h1 (by decide))]
  exact l3 r hr y hy
theorem pH_s (w : pH gh AR I J AI AJ a q b n tl nr nt cl h) (hk : pK b n h ≠ 0) : (I a 3).toInt < (I (gh 22 0) 4).toInt - 1 := by
  have s := pTk_s w.1 w.2.2.2.1 hk
  rw [w.2.1, w.2.2.1]; omega
theorem pH_fd (hv : gInv g gh R AR I AI) (hq : gO g q 2) (w : pH gh AR I J AI AJ a q b n tl nr nt cl h) {z : Int} {nm : Int64} (en : nm = AJ (gh 27 0) (I a 3).toInt.toNat)
    (hz : (z = -1 ∧ ∀ j : Nat, (j : Int) < (I q 1).toInt → ∀ y, AR (gh 6 q) j = some y → J y 1 ≠ nm) ∨ (0 ≤ z ∧ z < (I q 1).toInt ∧ ∃ y, AR (gh 6 q) z.toNat = some y ∧ J y 1 = nm)) : z = pFd b n nt nr h :=
  pLn_fd w.2.2.2.2 (fun r hr => by obtain ⟨y, hy, _⟩ := (hv.2.2.2.1 q hq).1.2.2.1 r (by have := w.2.2.2.2.2.1; omega); exact ⟨y, hy⟩) (en.trans (pH_N w)) hz
theorem pH_c (w : pH gh AR I J AI AJ a q b n tl nr nt cl h) {z : Int} {y : Nat} (h0 : 0 ≤ z) (h1 : z < (I q 1).toInt) (hy : AR (gh 6 q) z.toNat = some y) : (I y 2).toInt = cl z.toNat := by
  have l := w.2.2.2.2
  have e := l.1
  exact (l.2.2.1 z.toNat (by omega) y hy).2
end PH
theorem pRf_1 {b : tTx} {n nr h : Nat} {nt : Nat → Nat} (k : ¬ (pK b n h = 3 ∧ pV b n h = -1)) : pRf b n nt nr h = 1 := if_neg k
theorem pRf_3 {b : tTx} {n nr h : Nat} {nt : Nat → Nat} (k : pK b n h = 3 ∧ pV b n h = -1) (e : pFd b n nt nr h < 0) : pRf b n nt nr h = 3 := by unfold pRf; rw [if_pos k, if_pos e]
theorem pRf_0 {b : tTx} {n nr h : Nat} {nt : Nat → Nat} (k : pK b n h = 3 ∧ pV b n h = -1) (e : ¬ pFd b n nt nr h < 0) : pRf b n nt nr h = 0 := by unfold pRf; rw [if_pos k, if_neg e]
theorem pRf_i {b : tTx} {n nr h : Nat} {nt : Nat → Nat} (e : pRf b n nt nr h = 0) : (pK b n h = 3 ∧ pV b n h = -1) ∧ 0 ≤ pFd b n nt nr h := by
  unfold pRf at e
  by_cases k : pK b n h = 3 ∧ pV b n h = -1
  · rw [if_pos k] at e
    by_cases q : pFd b n nt nr h < 0
    · rw [if_pos q] at e; exact absurd e (by decide)
    · exact ⟨k, by omega⟩
  · rw [if_neg k] at e; exact absurd e (by decide)
/-! hidden from the arithmetic -/
theorem tIz_t {P : Prop} (h : P) : tIz 1 P := Or.inl ⟨rfl, h⟩
theorem tIz_f {P : Prop} (h : ¬ P) : tIz 0 P := Or.inr ⟨rfl, h⟩
theorem tIz_r {z : Int} {P : Prop} (h : tIz z P) : z = 0 ∨ z = 1 := by rcases h with h | h; (· exact Or.inr h.1); (· exact Or.inl h.1)
def pIm (z x y : Int) : Prop := z = 0 → x = y
theorem pIm_n {z x y : Int} (h : z ≠ 0) : pIm z x y := fun e => absurd e h
theorem pIm_y {z x y : Int} (h : x = y) : pIm z x y := fun _ => h
theorem pr_no {k x : Int} {h : Nat} (e : ((k, h, x) : pR).1 = 0) (n : k ≠ 0) : False := n e
theorem pr_e {x x' y y' : Int} {h h' : Nat} (a : x = x') (c : h = h') (d : y = y') : ((x, h, y) : pR) = (x', h', y') := by rw [a, c, d]
theorem pr_r {r : pR} {x y : Int} {h : Nat} (a : x = r.1) (c : h = r.2.1) (d : y = r.2.2) : ((x, h, y) : pR) = r := by rw [a, c, d]
/-- the second columns that the pairs tell; the columns of a group -/
def pCn (f : Nat → Int32) (k : Int) (L : List Int) : Prop := ∀ x : Int, (∃ j : Nat, (j : Int) < k ∧ (f (2 * j + 1)).toInt = x) ↔ x ∈ L
def pBn (f : Nat → Int32) (k : Int) (L : List Int) : Prop := ∀ x : Int, (∃ j : Nat, (j : Int) < k ∧ (f j).toInt = x) ↔ x ∈ L
theorem pCn_0 {f : Nat → Int32} {k : Int} (h : k = 0) : pCn f k [] := fun x => ⟨fun ⟨j, hj, _⟩ => absurd hj (by omega), fun h => absurd h List.not_mem_nil⟩
theorem pBn_0 {f : Nat → Int32} {k : Int} (h : k = 0) : pBn f k [] := fun x => ⟨fun ⟨j, hj, _⟩ => absurd hj (by omega), fun h => absurd h List.not_mem_nil⟩
theorem pCn_s {f f' : Nat → Int32} {k v : Int} {L : List Int} (c : pCn f k L) (hk : 0 ≤ k) (e : ∀ j : Nat, (j : Int) < 2 * k → f' j = f j) (ev : (f' (2 * k + 1).toNat).toInt = v) : pCn f' (k + 1) (v :: L) := fun x => by
  constructor
  · rintro ⟨j, hj, ej⟩
    by_cases q : (j : Int) < k
    · exact List.mem_cons_of_mem _ ((c x).mp ⟨j, q, by rw [← e (2 * j + 1) (by omega)]; exact ej⟩)
    · have : 2 * j + 1 = (2 * k + 1).toNat := by omega
      rw [this, ev] at ej
      rw [ej]; exact List.mem_cons_self
  · intro h
    rcases List.mem_cons.mp h with h | h
    · exact ⟨k.toNat, by omega, by rw [show 2 * k.toNat + 1 = (2 * k + 1).toNat by omega, ev, h]⟩
    · obtain ⟨j, hj, ej⟩ := (c x).mpr h
      exact ⟨j, by omega, by rw [e (2 * j + 1) (by omega)]; exact ej⟩
theorem pBn_s {f f' : Nat → Int32} {k v : Int} {L : List Int} (c : pBn f k L) (hk : 0 ≤ k) (e : ∀ j : Nat, (j : Int) < k → f' j = f j) (ev : (f' k.toNat).toInt = v) : pBn f' (k + 1) (v :: L) := fun x => by
  constructor
  · rintro ⟨j, hj, ej⟩
    by_cases q : (j : Int) < k
    · exact List.mem_cons_of_mem _ ((c x).mp ⟨j, q, by rw [← e j q]; exact ej⟩)
    · have : j = k.toNat := by omega
      rw [this, ev] at ej
      rw [ej]; exact List.mem_cons_self
  · intro h
    rcases List.mem_cons.mp h with h | h
    · exact ⟨k.toNat, by omega, by rw [ev, h]⟩
    · obtain ⟨j, hj, ej⟩ := (c x).mpr h
      exact ⟨j, by omega, by rw [e j hj]; exact ej⟩
theorem jC_y {L : List Int} {i : Int} (h0 : 0 ≤ i) (h : i ∈ L) : jC L (i + 1).toNat = jC L i.toNat := by
  rw [show (i + 1).toNat = i.toNat + 1 by omega, jC, if_pos (by rw [show ((i.toNat : Nat) : Int) = i by omega]; exact h)]; omega
theorem jC_n {L : List Int} {i : Int} (h0 : 0 ≤ i) (h : ¬ i ∈ L) : jC L (i + 1).toNat = jC L i.toNat + 1 := by
  rw [show (i + 1).toNat = i.toNat + 1 by omega, jC, if_neg (by rw [show ((i.toNat : Nat) : Int) = i by omega]; exact h)]
/-- a line at its end: its columns, or more than 4 where it is unlike -/
def pB (f : Nat → Int32) (x : Int) : Prop := ((f 0).toInt ≠ 8 ∧ (f 2).toInt = x) ∨ ((f 0).toInt = 8 ∧ (f 2).toInt ≤ 4 ∧ (((f 5).toInt + (f 6).toInt ≤ 4 ∧ (f 8).toInt = (f 5).toInt ∧ x = (f 2).toInt) ∨ (¬ ((f 5).toInt + (f 6).toInt ≤ 4 ∧ (f 8).toInt = (f 5).toInt) ∧ x = 5)))
def pBz (z : Int) (f : Nat → Int32) (x : Int) : Prop := z = 0 → pB f x
def pJm (z : Int) (x y : Int64) : Prop := z = 0 → x = y
theorem pJm_n {z : Int} {x y : Int64} (h : z ≠ 0) : pJm z x y := fun e => absurd e h
theorem pJm_y {z : Int} {x y : Int64} (h : x = y) : pJm z x y := fun _ => h
def pNm (z x y : Int) : Prop := z ≠ 0 → x = y
theorem pBz_m {z x : Int} {f : Nat → Int32} (h0 : (f 0).toInt ≠ 8) (h : pIm z (f 2).toInt x) : pBz z f x := fun e => Or.inl ⟨h0, h e⟩
section PH2
variable {g : gG} {gh : gGh} {R AR : gR} {I I' I0 AI0 : gI} {J J' : gJ} {AI : gI} {AJ : gJ} {a q ln : Nat} {b : tTx} {n : Nat} {tl : Int} {nr : Nat} {nt : Nat → Nat} {cl : Nat → Int} {h : Nat}
/-- a line behind the last one has changed -/
theorem pH_g (hv : gInv g gh R AR I0 AI0) (h1 : gO g a 1) (hq : gO g q 2) (h0 : gO g ln 0) (h4 : gh 4 ln = q) (h5 : (gh 5 ln : Int) = (I q 1).toInt) (w : pH gh AR I J AI AJ a q b n tl nr nt cl h) (f : ∀ b, b ≠ ln → I' b = I b) : pH gh AR I' J AI AJ a q b n tl nr nt cl h := by
  obtain ⟨l1, l2, l3, l4⟩ := w.2.2.2.2
  refine ⟨w.1, by rw [f _ (gO_ne (gR_pr0 hv h1).2 h0 (by decide))]; exact w.2.1, by rw [f a (gO_ne h1 h0 (by decide))]; exact w.2.2.1, w.2.2.2.1, by rw [f q (gO_ne hq h0 (by decide))]; exact l1, l2, fun r hr y hy => ?_, l4⟩
  obtain ⟨y', hy', hyO, hy4, hy5⟩ := (hv.2.2.2.1 q hq).1.2.2.1 r (by omega)
  have ey : y = y' := Option.some.inj (hy.symm.trans hy')
  subst ey
  rw [f y (fun e => by rw [e] at hy5; omega)]
  exact l3 r hr y hy
theorem pH_J (hv : gInv g gh R AR I AI) (hp : pS g gh R I a q ln) (w : pH gh AR I J AI AJ a q b n tl nr nt cl h) (f : ∀ b, b ≠ ln → J' b = J b) : pH gh AR I J' AI AJ a q b n tl nr nt cl h := by
  obtain ⟨l1, l2, l3, l4⟩ := w.2.2.2.2
  refine ⟨w.1, w.2.1, w.2.2.1, w.2.2.2.1, l1, l2, fun r hr y hy => ?_, l4⟩
  obtain ⟨y', hy', hyO, hy4, hy5⟩ := (hv.2.2.2.1 q hp.2.2.1).1.2.2.1 r (by omega)
  have ey : y = y' := Option.some.inj (hy.symm.trans hy')
  subst ey
  have h7 := hp.2.2.2.2.2.2.1
  rw [f y (fun e => by rw [e] at hy5; omega)]
  exact l3 r hr y hy
/-- the line is kept -/
theorem pH_keep {x : Int} {h0 : Nat} (hv : gInv g gh R AR I0 AI0) (hp : pS g gh R I a q ln) (w : pH gh AR I J AI AJ a q b n tl nr nt cl h) (h15 : nr ≤ 15) (e1 : (I' q 1).toInt = (I q 1).toInt + 1) (t5 : ∀ b c, gO g b c → c ≠ 0 → c ≠ 2 → I' b = I b) (t1 : ∀ b j, j ≠ 13 → j ≠ 14 → gO g b 0 → I' b j = I b j)
    (ex : (I ln 2).toInt = x) (eN : J ln 1 = pN b n h0) (hno : pFd b n nt nr h0 = -1) : pH gh AR I' J AI AJ a q b n tl (nr + 1) (sUp nt nr h0) (sUp cl nr x) h := by
  obtain ⟨l1, l2, l3, l4⟩ := w.2.2.2.2
  have nN : ∀ r, r < nr → pN b n (nt r) ≠ pN b n h0 := fun r hr e => by
    have := pFd_at l4 hr e
    omega
  have hq := hp.2.2.1
  have eln : AR (gh 6 q) nr = some ln := by
    have z := (hv.2.2.2.1 q hq).1.2.2.2 ln hp.2.2.2.2.1 hp.2.2.2.2.2.1
    have h7 := hp.2.2.2.2.2.2.1
    rw [show gh 5 ln = nr by omega] at z
    exact z
  refine ⟨w.1, by rw [t5 _ 5 (gR_pr0 hv hp.1).2 (by decide) (by decide)]; exact w.2.1, by rw [t5 a 1 hp.1 (by decide) (by decide)]; exact w.2.2.1, w.2.2.2.1, by omega, by omega, fun r hr y hy => ?_, fun r s hr hs e => ?_⟩
  · obtain ⟨y', hy', hyO, _⟩ := (hv.2.2.2.1 q hq).1.2.2.1 r (by omega)
    have ey : y = y' := Option.some.inj (hy.symm.trans hy')
    subst ey
    rw [t1 y 2 (by decide) (by decide) hyO]
    by_cases k : r = nr
    · subst k
      have : y = ln := Option.some.inj (hy.symm.trans eln)
      subst this
      rw [sUp_s, sUp_s]; exact ⟨eN, ex⟩
    · rw [sUp_k k, sUp_k k]; exact l3 r (by omega) y hy
  · by_cases k : r = nr
    · by_cases m : s = nr
      · omega
      · rw [k, sUp_s, sUp_k m] at e
        exact absurd e.symm (nN s (by omega))
    · by_cases m : s = nr
      · rw [m, sUp_s, sUp_k k] at e
        exact absurd e (nN r (by omega))
      · rw [sUp_k k, sUp_k m] at e
        exact l4 r s (by omega) (by omega) e
/-- at the start -/
theorem pH_0 (hk : pTk gh AI AJ b n tl) (hl : (I (gh 22 0) 4).toInt = tl) (h1 : 1 ≤ tl) (h3 : (I a 3).toInt = 0) (e1 : (I q 1).toInt = 0) : pH gh AR I J AI AJ a q b n tl 0 nt cl 0 :=
  ⟨hk, hl, h3, by omega, e1, by omega, fun r hr => absurd hr (by omega), fun r s hr => absurd hr (by omega)⟩
end PH2
theorem sNam_0 {b : tTx} {n nr h : Nat} {nt : Nat → Nat} {r : pR} (e : r = sNam b n nr nt h) (h0 : r.1 = 0) : pFd b n nt nr h = -1 := by
  subst e
  unfold sNam at h0
  by_cases k : pK b n h = 3 ∧ pV b n h = -1
  · rw [if_pos k] at h0
    by_cases q : pFd b n nt nr h = -1
    · exact q
    · rw [if_neg q] at h0; exact (pr_no h0 (by decide)).elim
  · rw [if_neg k] at h0; exact (pr_no h0 (by decide)).elim
theorem sHd_0 {b : tTx} {n nr h : Nat} {nt : Nat → Nat} {tb : Int} {r : pR} (e : r = sHd b n nr nt tb h) (h0 : r.1 = 0) : pFd b n nt nr (h + 1) = -1 ∧ nr ≤ 15 ∧ ((pK b n h = 3 ∧ pV b n h = 0) ∨ (pK b n h = 3 ∧ pV b n h = 9)) := by
  subst e
  unfold sHd at h0
  by_cases k : pK b n h = 3 ∧ pV b n h = 0
  · rw [if_pos k] at h0
    by_cases q : 16 ≤ nr
    · rw [if_pos q] at h0; exact (pr_no h0 (by decide)).elim
    · rw [if_neg q] at h0
      by_cases m : tb < (nr : Int)
      · rw [if_pos m] at h0; exact (pr_no h0 (by decide)).elim
      · rw [if_neg m] at h0; exact ⟨sNam_0 rfl h0, by omega, Or.inl k⟩
  · rw [if_neg k] at h0
    by_cases k2 : pK b n h = 3 ∧ pV b n h = 9
    · rw [if_pos k2] at h0
      by_cases q : 16 ≤ nr
      · rw [if_pos q] at h0; exact (pr_no h0 (by decide)).elim
      · rw [if_neg q] at h0
        by_cases m : (sNam b n nr nt (h + 1)).1 = 0
        · exact ⟨sNam_0 rfl m, by omega, Or.inr k2⟩
        · rw [thn_x rfl m] at h0; exact absurd h0 m
    · rw [if_neg k2] at h0; exact (pr_no h0 (by decide)).elim
section Par
variable {b : tTx} {n nr h f m : Nat} {nt : Nat → Nat} {cl : Nat → Int} {tb tb2 : Int} {S : Int × Nat} {r : pR}
theorem sPar_e (hs : S = sPar b n m nr nt cl tb h) (hk : pK b n h = 0 ∨ m = 0) : S = (0, nr) := by
  rcases m with _ | m
  · rw [hs]; rfl
  · rw [hs, sPar, if_pos (by omega)]
theorem sPar_n (hs : S = sPar b n m nr nt cl tb h) (hm : m = f + 1) (hk : pK b n h ≠ 0) (er : r = sLine b n nr nt cl tb h) (h0 : r.1 ≠ 0) : S = (8 * (tPs b n r.2.1 : Int) + r.1, nr) := by
  rw [hs, hm, sPar, if_neg hk, ← er, if_neg h0]
theorem sPar_s (hs : S = sPar b n m nr nt cl tb h) (hm : m = f + 1) (hk : pK b n h ≠ 0) (er : r = sLine b n nr nt cl tb h) (h0 : r.1 = 0) (e2 : tb2 = if pK b n h = 3 ∧ pV b n h = 0 then tb + 1 else tb) : S = sPar b n f (nr + 1) (sUp nt nr (h + 1)) (sUp cl nr r.2.2) tb2 r.2.1 := by
  rw [hs, hm, sPar, if_neg hk, ← er, if_pos h0, e2]
end Par
theorem pS_at {g : gG} {gh : gGh} {R AR : gR} {I AI I0 : gI} {a q ln : Nat} (hv : gInv g gh R AR I0 AI) (hp : pS g gh R I a q ln) : AR (gh 6 q) (I q 1).toInt.toNat = some ln := by
  have z := (hv.2.2.2.1 q hp.2.2.1).1.2.2.2 ln hp.2.2.2.2.1 hp.2.2.2.2.2.1
  have h7 := hp.2.2.2.2.2.2.1
  rw [show gh 5 ln = (I q 1).toInt.toNat by omega] at z
  exact z
theorem sNam_x {b : tTx} {n nr h : Nat} {nt : Nat → Nat} (h0 : (sNam b n nr nt h).1 = 0) : (sNam b n nr nt h).2.2 = 0 := by
  unfold sNam at h0 ⊢
  by_cases k : pK b n h = 3 ∧ pV b n h = -1
  · rw [if_pos k]
    by_cases q : pFd b n nt nr h = -1
    · rw [if_pos q]
    · rw [if_neg q]
  · rw [if_neg k]
theorem sVk_x {b : tTx} {n h : Nat} (h0 : (sVk b n h).1 = 0) : (sVk b n h).2.2 ≠ 0 := by
  unfold sVk at h0 ⊢
  by_cases k : (sTk b n 61 h).1 = 0
  · rw [thn_y (f := _) rfl k rfl] at h0 ⊢
    by_cases q : pK b n (sTk b n 61 h).2.1 = 3 ∧ 1 ≤ pV b n (sTk b n 61 h).2.1 ∧ pV b n (sTk b n 61 h).2.1 ≤ 8
    · rw [if_pos q]; show pV b n (sTk b n 61 h).2.1 ≠ 0; omega
    · rw [if_neg q] at h0; exact (pr_no h0 (by decide)).elim
  · rw [thn_x rfl k] at h0; exact absurd h0 k
theorem sHd_k {b : tTx} {n nr h : Nat} {nt : Nat → Nat} {tb : Int} (h0 : (sHd b n nr nt tb h).1 = 0) : (pK b n h = 3 ∧ pV b n h = 0 → (sHd b n nr nt tb h).2.2 = 0) ∧ (¬ (pK b n h = 3 ∧ pV b n h = 0) → (sHd b n nr nt tb h).2.2 ≠ 0) := by
  unfold sHd at h0 ⊢
  by_cases k : pK b n h = 3 ∧ pV b n h = 0
  · rw [if_pos k] at h0 ⊢
    refine ⟨fun _ => ?_, fun h => absurd k h⟩
    by_cases q : 16 ≤ nr
    · rw [if_pos q]
    · rw [if_neg q] at h0 ⊢
      by_cases m : tb < (nr : Int)
      · rw [if_pos m]
      · rw [if_neg m] at h0 ⊢; exact sNam_x h0
  · rw [if_neg k] at h0 ⊢
    refine ⟨fun h => absurd h k, fun _ => ?_⟩
    by_cases k2 : pK b n h = 3 ∧ pV b n h = 9
    · rw [if_pos k2] at h0 ⊢
      by_cases q : 16 ≤ nr
      · rw [if_pos q] at h0; exact (pr_no h0 (by decide)).elim
      · rw [if_neg q] at h0 ⊢
        by_cases m : (sNam b n nr nt (h + 1)).1 = 0
        · rw [thn_y (f := fun t _ => sVk b n t) rfl m rfl] at h0 ⊢; exact sVk_x h0
        · rw [thn_x rfl m] at h0; exact absurd h0 m
    · rw [if_neg k2] at h0; exact (pr_no h0 (by decide)).elim
theorem sHd_tb {b : tTx} {n nr h : Nat} {nt : Nat → Nat} {tb tb2 kd : Int} {r : pR} (e : r = sHd b n nr nt tb h) (h0 : r.1 = 0) (ek : kd = r.2.2) (k1 : pIm kd tb2 (tb + 1)) (k2 : pNm kd tb2 tb) : tb2 = if pK b n h = 3 ∧ pV b n h = 0 then tb + 1 else tb := by
  subst e
  have w := sHd_k h0
  by_cases k : pK b n h = 3 ∧ pV b n h = 0
  · rw [if_pos k]; exact k1 (ek.trans (w.1 k))
  · rw [if_neg k]; exact k2 (by rw [ek]; exact w.2 k)
/-- what plan answers of a text b of n bytes -/
def sPl (b : tTx) (n : Nat) : Int × Nat := sPar b n 17 0 (fun _ => 0) (fun _ => 0) 0 0
def sPln (b : tTx) (n : Nat) : Int := if 900 < n then -1 else if (sPl b n).1 = 0 then ((sPl b n).2 : Int) else -2 - (sPl b n).1
theorem sPln_b {b : tTx} {n : Nat} (h : 900 < n) : sPln b n = -1 := if_pos h
theorem sPln_y {b : tTx} {n : Nat} (h : ¬ 900 < n) (e : (sPl b n).1 = 0) : sPln b n = ((sPl b n).2 : Int) := by unfold sPln; rw [if_neg h, if_pos e]
theorem sPln_n {b : tTx} {n : Nat} (h : ¬ 900 < n) (e : (sPl b n).1 ≠ 0) : sPln b n = -2 - (sPl b n).1 := by unfold sPln; rw [if_neg h, if_neg e]
theorem pr_x {r : pR} (h : r.1 = 0) : r = (0, r.2.1, r.2.2) := by rw [← h]
end
section
/-! what the whole text tells, where it is read to its end: lines, their names and columns, tables -/
def sParF (b : tTx) (n : Nat) : Nat → Nat → (Nat → Nat) → (Nat → Int) → Int → Nat → Nat × (Nat → Nat) × (Nat → Int) × Int
  | 0, nr, nt, cl, tb, _ => (nr, nt, cl, tb)
  | f + 1, nr, nt, cl, tb, h =>
    if pK b n h = 0 then (nr, nt, cl, tb)
    else if (sLine b n nr nt cl tb h).1 = 0 then
      sParF b n f (nr + 1) (sUp nt nr (h + 1)) (sUp cl nr (sLine b n nr nt cl tb h).2.2) (if pK b n h = 3 ∧ pV b n h = 0 then tb + 1 else tb) (sLine b n nr nt cl tb h).2.1
    else (nr, nt, cl, tb)
section ParF
variable {b : tTx} {n nr h f m : Nat} {nt : Nat → Nat} {cl : Nat → Int} {tb tb2 : Int} {S : Nat × (Nat → Nat) × (Nat → Int) × Int} {r : pR}
theorem sParF_e (hs : S = sParF b n m nr nt cl tb h) (hk : pK b n h = 0 ∨ m = 0) : S = (nr, nt, cl, tb) := by
  rcases m with _ | m
  · rw [hs]; rfl
  · rw [hs, sParF, if_pos (by omega)]
theorem sParF_s (hs : S = sParF b n m nr nt cl tb h) (hm : m = f + 1) (hk : pK b n h ≠ 0) (er : r = sLine b n nr nt cl tb h) (h0 : r.1 = 0) (e2 : tb2 = if pK b n h = 3 ∧ pV b n h = 0 then tb + 1 else tb) : S = sParF b n f (nr + 1) (sUp nt nr (h + 1)) (sUp cl nr r.2.2) tb2 r.2.1 := by
  rw [hs, hm, sParF, if_neg hk, ← er, if_pos h0, e2]
end ParF
def sPlF (b : tTx) (n : Nat) : Nat × (Nat → Nat) × (Nat → Int) × Int := sParF b n 17 0 (fun _ => 0) (fun _ => 0) 0 0
theorem gInv_un {g : gG} {gh : gGh} {R AR : gR} {I AI : gI} (h : gInv g (ghF 1 gh) R AR I AI) (h37 : gh 42 0 ≠ 1) : gInv g gh R AR I AI := by
  obtain ⟨h1, h2, h3, h4, h5, h6, h7, h8⟩ := h
  exact ⟨h1, h2, h3, h4, h5, h6, h7, h8.1, h8.2.1, h8.2.2.1, fun q => absurd q h37⟩
theorem pLn_f {g : gG} {gh : gGh} {R AR : gR} {I0 I I' AI : gI} {J : gJ} {q : Nat} {b : tTx} {n nr : Nat} {nt : Nat → Nat} {cl : Nat → Int} (hv : gInv g gh R AR I0 AI) (hq : gO g q 2) (h : pLn gh AR I J q b n nr nt cl) (f : ∀ b c, gO g b c → c ≠ 4 → c ≠ 6 → I' b = I b) : pLn gh AR I' J q b n nr nt cl := by
  obtain ⟨e1, e2, e3, e4⟩ := h
  refine ⟨by rw [f q 2 hq (by decide) (by decide)]; exact e1, e2, fun r hr y hy => ?_, e4⟩
  obtain ⟨y', hy', hyO, _⟩ := (hv.2.2.2.1 q hq).1.2.2.1 r (by omega)
  have ey : y = y' := Option.some.inj (hy.symm.trans hy')
  subst ey
  rw [f y 0 hyO (by decide) (by decide)]
  exact e3 r hr y hy
/-- what a call of plan leaves of the class: the old plan where it failed, else what the text tells -/
def plE (g : gG) (gh : gGh) (AR : gR) (I : gI) (J : gJ) (AI : gI) (R' : gR) (I' : gI) (J' : gJ) (AI' : gI) (x pA q bA nA : Nat) (b : tTx) (n : Nat) (z : Int) : Prop :=
  (z < 0 ∧ xS g gh R' AR x pA bA nA ∧ R' (gh 21 0) 1 = some q ∧ I' pA = I pA ∧ (∀ y, gO g y 0 → gh 4 y = pA → I' y = I y ∧ J' y = J y) ∧ I' (gh 37 0) 3 = I (gh 37 0) 3 ∧ AI' (gh 0 (gh 37 0)) = AI (gh 0 (gh 37 0))) ∨
  (0 ≤ z ∧ xS g gh R' AR x q bA nA ∧ R' (gh 21 0) 1 = some pA ∧ pLn gh AR I' J' q b n (sPlF b n).1 (sPlF b n).2.1 (sPlF b n).2.2.1 ∧ (I' q 2).toInt = (sPlF b n).2.2.2 ∧ (I' (gh 37 0) 3).toInt = 0)
end
section
def rmX0_tellsSecondf : Room := { frames := 0, cells := 0, slots := 0, locals := 0 }
set_option maxHeartbeats 4000000 in
set_option maxRecDepth 100000 in
/-- whether a pair tells this column -/
theorem c_X0_tellsSecondf (l : Launch) (g : gG) (gh : gGh) (I : gI) (R : gR) (J : gJ) (AI : gI) (AJ : gJ) (AR : gR) (a : Nat) (col : Int) (zcol : zr col) (hv : gInv g gh R AR I AI) (ha : gO g a 0) : gMet l g yX0_tellsSecond wsX0_tellsSecond rmX0_tellsSecondf [.ref a, .int (iI col)] (I, R, J, AI, AJ, AR) (gQi g (fun (z : Int) (w : gS) => I = w.1 ∧ R = w.2.1 ∧ J = w.2.2.1 ∧ AI = w.2.2.2.1 ∧ AJ = w.2.2.2.2.1 ∧ AR = w.2.2.2.2.2 ∧ (z = 0 ∨ z = 1) ∧ (tIz z (∃ j : Nat, (j : Int) < (I a 8).toInt ∧ (AI (gh 3 a) (2 * j + 1)).toInt = col)))) := by
  refine gStart (cc := cX0_tellsSecond) (maxL := 3) (ret := (some (.boolean))) (by decide) rfl (Nat.le_of_ble_eq_true rfl) ?_
  intro p e s m below meth c ls F hr hlk hH hz hS hl
  have hl : lv_has ls 3 [(0, .ref a), (1, .int (iI col))] := hl
  have hS : va_S (gA g) s.heap s.heap [] := hS
  obtain ⟨H, hHe⟩ : ∃ H : Heap, H = s.heap := ⟨_, rfl⟩
  obtain ⟨locs, hlo⟩ : ∃ k : List Loc, k = [] := ⟨_, rfl⟩
  have hH : gH g I R J AI AJ AR H := by rw [hHe]; exact hH
  have hS : va_S (gA g) s.heap H locs := by rw [hHe, hlo]; exact hS
  suffices hw : W p l e rmX0_tellsSecondf s m ([.ref a, .int (iI col)] : List Value).toArray below meth c H locs 0 0 (MQ below (gQi g (fun (z : Int) (w : gS) => I = w.1 ∧ R = w.2.1 ∧ J = w.2.2.1 ∧ AI = w.2.2.2.1 ∧ AJ = w.2.2.2.2.1 ∧ AR = w.2.2.2.2.2 ∧ (z = 0 ∨ z = 1) ∧ (tIz z (∃ j : Nat, (j : Int) < (I a 8).toInt ∧ (AI (gh 3 a) (2 * j + 1)).toInt = col)))) ([.ref a, .int (iI col)] : List Value).toArray s 0 0 (gA g)) (F0 m 0 ls []) by
    rw [hHe, hlo] at hw; exact hw
  clear hHe hlo
  have iX0 : ∀ w ∈ u_ws RX0 TX0 15, w ∈ wsX0_tellsSecond := (by decide +kernel)
  have k34 : Cond.fieldLink RX0 34 (TX0 8).1 (TX0 8).2.1 (TX0 8).2.2.1 ∈ wsX0_tellsSecond := List.mem_of_getElem? (i := 1) rfl
  have k11 : Cond.fieldLink RX0 11 (TX0 7).1 (TX0 7).2.1 (TX0 7).2.2.1 ∈ wsX0_tellsSecond := List.mem_of_getElem? (i := 2) rfl
  refine z_iconst F dX0_tellsSecond_0 ?_
  refine lv_istore_n (lv' := [(2, .int (iI 0)), (0, .ref a), (1, .int (iI col))]) F.1 F.2.1 dX0_tellsSecond_1 rfl hl (by decide) rfl (fun ls hl => ?_)
  have cut_2_0 : ∀ (NN : Nat) (i : Int) (H : Heap) (locs : List Loc) (ls : Array Slot), zr i → (0 ≤ i ∧ i ≤ 8) → (∀ j : Nat, (j : Int) < i → (AI (gh 3 a) (2 * j + 1)).toInt ≠ col) → (8 - i) < ((NN : Nat) : Int) → gH g I R J AI AJ AR H → va_S (gA g) s.heap H locs → lv_has ls 3 [(2, .int (iI i)), (0, .ref a), (1, .int (iI col))] → W p l e rmX0_tellsSecondf s m ([.ref a, .int (iI col)] : List Value).toArray below meth c H locs 0 0 (MQ below (gQi g (fun (z : Int) (w : gS) => I = w.1 ∧ R = w.2.1 ∧ J = w.2.2.1 ∧ AI = w.2.2.2.1 ∧ AJ = w.2.2.2.2.1 ∧ AR = w.2.2.2.2.2 ∧ (z = 0 ∨ z = 1) ∧ (tIz z (∃ j : Nat, (j : Int) < (I a 8).toInt ∧ (AI (gh 3 a) (2 * j + 1)).toInt = col)))) ([.ref a, .int (iI col)] : List Value).toArray s 0 0 (gA g)) (F0 m 2 ls []) := by
    intro NN2
    induction NN2 with
    | zero =>
      intro i H locs ls zi hi hno hm2 hH hS hl
      exact absurd hm2 (by omega)
    | succ NN2 ih2 =>
      intro i H locs ls zi hi hno hm2 hH hS hl
      refine lv_iload_n F.1 F.2.1 dX0_tellsSecond_2 rfl (lv_at hl 0 rfl) ?_
      refine lv_aload_n F.1 F.2.1 dX0_tellsSecond_3 rfl (lv_at hl 1 rfl) ?_
      refine g_getI (ci := 0) (k := 8) F hH rfl (by decide) iX0 ha (by decide) rfl k34 dX0_tellsSecond_4 ?_
      have b_2 := gI_line hv ha
      unfold vLineI at b_2
      refine z_icmp_ge (tgt := 32) F dX0_tellsSecond_7 (by decide) zi (zr_t _) (fun c_3 => ?_) (fun c_3 => ?_)
      · refine z_iconst F dX0_tellsSecond_32 ?_
        exact g_zret F hr hlk hH hS hz (by omega) ⟨rfl, rfl, rfl, rfl, rfl, rfl, by first | omega | rfl | (dsimp only; omega), tIz_f (fun ⟨j, h1, h2⟩ => hno j (by omega) h2)⟩ dX0_tellsSecond_33
      · refine lv_aload_n F.1 F.2.1 dX0_tellsSecond_10 rfl (lv_at hl 1 rfl) ?_
        obtain ⟨r_4a, r_4b⟩ := gR_parts hv ha
        refine g_getR (ci := 0) (k := 7) F hH rfl (by decide) iX0 ha (by decide) rfl (b := gh 3 a) r_4a k11 dX0_tellsSecond_11 ?_
        refine z_iconst F dX0_tellsSecond_14 ?_
        refine lv_iload_n F.1 F.2.1 dX0_tellsSecond_15 rfl (lv_at hl 0 rfl) ?_
        refine z_imul F dX0_tellsSecond_16 ?_
        refine z_iconst F dX0_tellsSecond_17 ?_
        refine z_iadd F dX0_tellsSecond_18 ?_
        have hx19 : 0 ≤ ((2 * i) + 1) ∧ ((2 * i) + 1) < ((32 : Nat) : Int) ∧ ((2 * i) + 1) ≤ 2147483647 := ⟨by omega, by omega, by omega⟩
        refine g_iald F hH r_4b hx19.1 hx19.2.1 hx19.2.2 dX0_tellsSecond_19 ?_
        refine z_name (fun v_5 ev_5 => ?_)
        have zv_5 : zr v_5 := by rw [ev_5]; exact zr_t _
        have t15 : (AI (gh 3 a) (2 * i.toNat + 1)).toInt = v_5 := by rw [ev_5]; rw [show (2 * i + 1).toNat = 2 * i.toNat + 1 by omega]
        refine lv_iload_n F.1 F.2.1 dX0_tellsSecond_20 rfl (lv_at hl 2 rfl) ?_
        refine z_icmp_ne (tgt := 26) F dX0_tellsSecond_21 (by decide) zv_5 zcol (fun c_6 => ?_) (fun c_6 => ?_)
        · refine z_iinc (lv' := [(2, .int (iI (i + 1))), (0, .ref a), (1, .int (iI col))]) F dX0_tellsSecond_26 hl (k := 0) rfl (by decide) rfl (fun ls hl => ?_)
          refine z_goto (tgt := 2) F dX0_tellsSecond_29 (by decide) ?_
          exact ih2 (i + 1) H locs ls ⟨by omega, by omega⟩ (by omega) (by first | exact (fun k hk => absurd hk (by omega)) | exact ix_step (P := fun j => (AI (gh 3 a) (2 * j + 1)).toInt ≠ col) hno (by omega) (by omega)) (by omega) hH hS (lv_sub hl [0, 1, 2] rfl)
        · refine z_iconst F dX0_tellsSecond_24 ?_
          exact g_zret F hr hlk hH hS hz (by omega) ⟨rfl, rfl, rfl, rfl, rfl, rfl, by first | omega | rfl | (dsimp only; omega), tIz_t ⟨i.toNat, by omega, by omega⟩⟩ dX0_tellsSecond_25
  exact cut_2_0 (((8 - 0) + 1 : Int).toNat) 0 H locs ls ⟨by decide, by decide⟩ (by omega) (by first | exact (fun k hk => absurd hk (by omega)) | exact ix_step (P := fun j => (AI (gh 3 a) (2 * j + 1)).toInt ≠ col) hno (by omega) (by omega)) (by omega) hH hS (lv_sub hl [0, 1, 2] rfl)
end
