def rmX7_areOneGroupf : Room := { frames := 1, cells := 0, slots := 0, locals := 23 }
set_option maxHeartbeats 4000000 in
set_option maxRecDepth 100000 in
/-- one group -/
theorem c_X7_areOneGroupf (l : Launch) (g : gG) (gh : gGh) (T : Nat → Int32) (lc : LC) (t u : Tup) (I : gI) (R : gR) (J : gJ) (AI : gI) (AJ : gJ) (AR : gR) (mo : Nat) (rr : Int) (px : Int) (py : Int) (zrr : zr rr) (zpx : zr px) (zpy : zr py) (hv : mInv g gh R I AI) (hm : gO g mo 7) (hT : AI (gh 50 0) = T) (hr0 : 0 ≤ rr ∧ rr < (I mo 2).toInt) (hk : tI T (40 * rr) = 7) (h0 : 0 ≤ px ∧ px + 4 ≤ 126720 ∧ 0 ≤ py ∧ py + 4 ≤ 126720) (hgp : gpM T rr lc) (ht : ∀ j, j < 4 → AI (gh 56 0) (px.toNat + j) = tg t j) (hu : ∀ j, j < 4 → AI (gh 56 0) (py.toNat + j) = tg u j) : gMet l g yX7_areOneGroup tsX7_areOneGroup rmX7_areOneGroupf [.ref mo, .int (iI rr), .int (iI px), .int (iI py)] (I, R, J, AI, AJ, AR) (gQi g (fun (z : Int) (w : gS) => I = w.1 ∧ R = w.2.1 ∧ J = w.2.2.1 ∧ AI = w.2.2.2.1 ∧ AJ = w.2.2.2.2.1 ∧ AR = w.2.2.2.2.2 ∧ (z = 0 ∨ z = 1) ∧ (tIz z (gk lc t = gk lc u)))) := by
  refine gStart (cc := cX7_areOneGroup) (maxL := 5) (ret := (some (.boolean))) (by decide) rfl (Nat.le_of_ble_eq_true rfl) ?_
  intro p e s m below meth c ls F hr hlk hH hz hS hl
  have hl : lv_has ls 5 [(0, .ref mo), (1, .int (iI rr)), (2, .int (iI px)), (3, .int (iI py))] := hl
  have hS : va_S (gA g) s.heap s.heap [] := hS
  obtain ⟨H, hHe⟩ : ∃ H : Heap, H = s.heap := ⟨_, rfl⟩
  obtain ⟨locs, hlo⟩ : ∃ k : List Loc, k = [] := ⟨_, rfl⟩
  have hH : gH g I R J AI AJ AR H := by rw [hHe]; exact hH
  have hS : va_S (gA g) s.heap H locs := by rw [hHe, hlo]; exact hS
  suffices hw : W p l e rmX7_areOneGroupf s m ([.ref mo, .int (iI rr), .int (iI px), .int (iI py)] : List Value).toArray below meth c H locs 0 0 (MQ below (gQi g (fun (z : Int) (w : gS) => I = w.1 ∧ R = w.2.1 ∧ J = w.2.2.1 ∧ AI = w.2.2.2.1 ∧ AJ = w.2.2.2.2.1 ∧ AR = w.2.2.2.2.2 ∧ (z = 0 ∨ z = 1) ∧ (tIz z (gk lc t = gk lc u)))) ([.ref mo, .int (iI rr), .int (iI px), .int (iI py)] : List Value).toArray s 0 0 (gA g)) (F0 m 0 ls []) by
    rw [hHe, hlo] at hw; exact hw
  clear hHe hlo
  have hb0 := mJ hv hm
  unfold mNum1 at hb0
  have x := mRow hv hm hT (z := rr) (by omega) (by omega)
  have xa := x.1
  have xc := x.2.2.1
  have xb := x.2.1 (by omega)
  have x7 := x.2.2.2.2.2.2.2.2.1 (by omega)
  have hgp1 := hgp.1
  have hgp2 := hgp.2.1
  have iX7 : ∀ w ∈ u_ws RX7 TX7 32, w ∈ tsX7_areOneGroup := fun w h => List.mem_cons_of_mem _ (inTB7 w h)
  have k24 : Cond.fieldLink RX7 24 (TX7 6).1 (TX7 6).2.1 (TX7 6).2.2.1 ∈ tsX7_areOneGroup := List.mem_cons_of_mem _ fl_24
  refine z_iconst F dX7_areOneGroup_0 ?_
  refine lv_istore (lv' := [(4, .int (iI 0)), (0, .ref mo), (1, .int (iI rr)), (2, .int (iI px)), (3, .int (iI py))]) F.1 F.2.1 dX7_areOneGroup_1 hl (by decide) rfl (fun ls hl => ?_)
  have cut_3_0 : ∀ (NN : Nat) (k : Int) (H : Heap) (locs : List Loc) (ls : Array Slot), zr k → (0 ≤ k ∧ k ≤ tI T (40 * rr + 4)) → (∀ j : Nat, (j : Int) < k → tg t (lc.2 j 0).toNat = tg u (lc.2 j 0).toNat) → (8 - k) < ((NN : Nat) : Int) → gH g I R J AI AJ AR H → va_S (gA g) s.heap H locs → lv_has ls 5 [(4, .int (iI k)), (0, .ref mo), (1, .int (iI rr)), (2, .int (iI px)), (3, .int (iI py))] → W p l e rmX7_areOneGroupf s m ([.ref mo, .int (iI rr), .int (iI px), .int (iI py)] : List Value).toArray below meth c H locs 0 0 (MQ below (gQi g (fun (z : Int) (w : gS) => I = w.1 ∧ R = w.2.1 ∧ J = w.2.2.1 ∧ AI = w.2.2.2.1 ∧ AJ = w.2.2.2.2.1 ∧ AR = w.2.2.2.2.2 ∧ (z = 0 ∨ z = 1) ∧ (tIz z (gk lc t = gk lc u)))) ([.ref mo, .int (iI rr), .int (iI px), .int (iI py)] : List Value).toArray s 0 0 (gA g)) (F0 m 3 ls []) := by
    intro NN3
    induction NN3 with
    | zero =>
      intro k H locs ls zk hk1 hno hm3 hH hS hl
      exact absurd hm3 (by omega)
    | succ NN3 ih3 =>
      intro k H locs ls zk hk1 hno hm3 hH hS hl
      refine lv_iload F.1 F.2.1 dX7_areOneGroup_3 (lv_at hl 0 rfl) ?_
      refine lv_aload_n F.1 F.2.1 dX7_areOneGroup_5 rfl (lv_at hl 1 rfl) ?_
      refine lv_iload_n F.1 F.2.1 dX7_areOneGroup_6 rfl (lv_at hl 2 rfl) ?_
      have b_2 := mJ hv hm
      unfold mNum1 at b_2
      refine g_calli (g_runV (As := [.int (iI rr)]) (rest := [.int (iI k)]) (ci := 7) F hl.1 hH hS hz (c_X7_partsOf l g gh T I R J AI AJ AR mo rr zrr hv hm hT (by omega)) (cwV 1 F.2.2.2.2.1 (good_up gT_X7_partsOf) rfl rfl rfl hdX7_partsOf ⟨Nat.le_of_ble_eq_true rfl, Nat.le_of_ble_eq_true rfl⟩) hm (by decide) rfl rfl rfl (Nat.le_of_ble_eq_true rfl) dX7_areOneGroup_7 ⟨Nat.zero_le _, Nat.zero_le _⟩) hS (fun v_9 I_3 R_4 J_5 AI_6 AJ_7 AR_8 H locs zv_9 hp_10 hH hS => ?_)
      dsimp only at hp_10
      obtain ⟨rfl, rfl, rfl, rfl, rfl, rfl, q_11⟩ := hp_10
      refine z_icmp_ge (tgt := 54) F dX7_areOneGroup_10 (by decide) zk zv_9 (fun c_12 => ?_) (fun c_12 => ?_)
      · refine z_iconst F dX7_areOneGroup_54 ?_
        exact g_zret F hr hlk hH hS hz (by omega) ⟨rfl, rfl, rfl, rfl, rfl, rfl, by first | omega | rfl | (dsimp only; omega), tIz_t (gk_t (fun j hj => hno j (by omega)))⟩ dX7_areOneGroup_55
      · have q1 := x7.2.1 k (by omega) (by omega)
        refine lv_aload_n F.1 F.2.1 dX7_areOneGroup_13 rfl (lv_at hl 1 rfl) ?_
        obtain ⟨r_13a, r_13b⟩ : R mo 6 = some (gh 56 0) ∧ gAr g (gh 56 0) 9 126720 := mR hv hm (q := (6, 126720)) (by decide)
        refine g_getR (ci := 7) (k := 6) F hH rfl (by decide) iX7 hm (by decide) rfl (b := gh 56 0) r_13a k24 dX7_areOneGroup_14 ?_
        refine lv_iload_n F.1 F.2.1 dX7_areOneGroup_17 rfl (lv_at hl 3 rfl) ?_
        refine lv_aload_n F.1 F.2.1 dX7_areOneGroup_18 rfl (lv_at hl 1 rfl) ?_
        refine lv_iload_n F.1 F.2.1 dX7_areOneGroup_19 rfl (lv_at hl 2 rfl) ?_
        refine lv_iload F.1 F.2.1 dX7_areOneGroup_20 (lv_at hl 0 rfl) ?_
        refine z_iconst F dX7_areOneGroup_22 ?_
        refine g_calli (g_runV (As := [.int (iI rr), .int (iI k), .int (iI 0)]) (rest := [.int (iI px), .ref (gh 56 0)]) (ci := 7) F hl.1 hH hS hz (c_X7_part l g gh T I R J AI AJ AR mo rr k 0 zrr zk ⟨by decide, by decide⟩ hv hm hT (by omega) (by omega) (by omega)) (cwV 3 F.2.2.2.2.1 (good_up gT_X7_part) rfl rfl rfl hdX7_part ⟨Nat.le_of_ble_eq_true rfl, Nat.le_of_ble_eq_true rfl⟩) hm (by decide) rfl rfl rfl (Nat.le_of_ble_eq_true rfl) dX7_areOneGroup_23 ⟨Nat.zero_le _, Nat.zero_le _⟩) hS (fun v_20 I_14 R_15 J_16 AI_17 AJ_18 AR_19 H locs zv_20 hp_21 hH hS => ?_)
        dsimp only at hp_21
        obtain ⟨rfl, rfl, rfl, rfl, rfl, rfl, q_22⟩ := hp_21
        have hpk := gpM_at hgp (k := k) (by omega) (by omega)
        refine z_iadd F dX7_areOneGroup_26 ?_
        have hx27 : 0 ≤ (px + v_20) ∧ (px + v_20) < ((126720 : Nat) : Int) ∧ (px + v_20) ≤ 2147483647 := ⟨by omega, by omega, by omega⟩
        refine g_iald F hH r_13b hx27.1 hx27.2.1 hx27.2.2 dX7_areOneGroup_27 ?_
        refine z_name (fun v_23 ev_23 => ?_)
        have zv_23 : zr v_23 := by rw [ev_23]; exact zr_t _
        have c27 : iI v_23 = tg t (lc.2 k.toNat 0).toNat := by rw [ev_23, iI_self, ← ht _ (by omega)]; congr 1; omega
        refine lv_aload_n F.1 F.2.1 dX7_areOneGroup_28 rfl (lv_at hl 1 rfl) ?_
        refine g_getR (ci := 7) (k := 6) F hH rfl (by decide) iX7 hm (by decide) rfl (b := gh 56 0) r_13a k24 dX7_areOneGroup_29 ?_
        refine lv_iload_n F.1 F.2.1 dX7_areOneGroup_32 rfl (lv_at hl 4 rfl) ?_
        refine lv_aload_n F.1 F.2.1 dX7_areOneGroup_33 rfl (lv_at hl 1 rfl) ?_
        refine lv_iload_n F.1 F.2.1 dX7_areOneGroup_34 rfl (lv_at hl 2 rfl) ?_
        refine lv_iload F.1 F.2.1 dX7_areOneGroup_35 (lv_at hl 0 rfl) ?_
        refine z_iconst F dX7_areOneGroup_37 ?_
        refine g_calli (g_runV (As := [.int (iI rr), .int (iI k), .int (iI 0)]) (rest := [.int (iI py), .ref (gh 56 0), .int (iI v_23)]) (ci := 7) F hl.1 hH hS hz (c_X7_part l g gh T I R J AI AJ AR mo rr k 0 zrr zk ⟨by decide, by decide⟩ hv hm hT (by omega) (by omega) (by omega)) (cwV 3 F.2.2.2.2.1 (good_up gT_X7_part) rfl rfl rfl hdX7_part ⟨Nat.le_of_ble_eq_true rfl, Nat.le_of_ble_eq_true rfl⟩) hm (by decide) rfl rfl rfl (Nat.le_of_ble_eq_true rfl) dX7_areOneGroup_38 ⟨Nat.zero_le _, Nat.zero_le _⟩) hS (fun v_30 I_24 R_25 J_26 AI_27 AJ_28 AR_29 H locs zv_30 hp_31 hH hS => ?_)
        dsimp only at hp_31
        obtain ⟨rfl, rfl, rfl, rfl, rfl, rfl, q_32⟩ := hp_31
        refine z_iadd F dX7_areOneGroup_41 ?_
        have hx42 : 0 ≤ (py + v_30) ∧ (py + v_30) < ((126720 : Nat) : Int) ∧ (py + v_30) ≤ 2147483647 := ⟨by omega, by omega, by omega⟩
        refine g_iald F hH r_13b hx42.1 hx42.2.1 hx42.2.2 dX7_areOneGroup_42 ?_
        refine z_name (fun v_33 ev_33 => ?_)
        have zv_33 : zr v_33 := by rw [ev_33]; exact zr_t _
        have c42 : iI v_33 = tg u (lc.2 k.toNat 0).toNat := by rw [ev_33, iI_self, ← hu _ (by omega)]; congr 1; omega
        refine z_icmp_eq (tgt := 48) F dX7_areOneGroup_43 (by decide) zv_23 zv_33 (fun c_34 => ?_) (fun c_34 => ?_)
        · refine z_iinc (lv' := [(4, .int (iI (k + 1))), (0, .ref mo), (1, .int (iI rr)), (2, .int (iI px)), (3, .int (iI py))]) F dX7_areOneGroup_48 hl (k := 0) rfl (by decide) rfl (fun ls hl => ?_)
          refine z_goto (tgt := 3) F dX7_areOneGroup_51 (by decide) ?_
          exact ih3 (k + 1) H locs ls ⟨by omega, by omega⟩ (by omega) (ix_step (P := fun j => tg t (lc.2 j 0).toNat = tg u (lc.2 j 0).toNat) hno (by omega) (by rw [← c27, ← c42]; congr 1)) (by omega) hH hS (lv_sub hl [0, 1, 2, 3, 4] rfl)
        · refine z_iconst F dX7_areOneGroup_46 ?_
          exact g_zret F hr hlk hH hS hz (by omega) ⟨rfl, rfl, rfl, rfl, rfl, rfl, by first | omega | rfl | (dsimp only; omega), tIz_f (fun h9 => by have h8 := gk_k (j := k.toNat) h9 (by omega) (by omega); rw [← c27, ← c42] at h8; have h7 := congrArg Int32.toInt h8; rw [iI_val zv_23, iI_val zv_33] at h7; omega)⟩ dX7_areOneGroup_47
  exact cut_3_0 (((8 - 0) + 1 : Int).toNat) 0 H locs ls ⟨by decide, by decide⟩ (by omega) (fun j hj => absurd hj (by omega)) (by omega) hH hS (lv_sub hl [0, 1, 2, 3, 4] rfl)
