def rmX7_isFirstOfGroupf : Room := { frames := 2, cells := 0, slots := 0, locals := 47 }
set_option maxHeartbeats 4000000 in
set_option maxRecDepth 100000 in
/-- the first of its group -/
theorem c_X7_isFirstOfGroupf (l : Launch) (g : gG) (gh : gGh) (T : Nat → Int32) (lc : LC) (bg : Nat → Int32) (I : gI) (R : gR) (J : gJ) (AI : gI) (AJ : gJ) (AR : gR) (mo : Nat) (sd : Int) (rr : Int) (ip : Int) (zsd : zr sd) (zrr : zr rr) (zip : zr ip) (hv : mInv g gh R I AI) (hm : gO g mo 7) (hT : AI (gh 50 0) = T) (hs : 0 ≤ sd ∧ sd ≤ 10) (hr0 : 0 ≤ rr ∧ rr < (I mo 2).toInt) (hk : tI T (40 * rr) = 7) (h0 : 0 ≤ ip ∧ ip ≤ 119) (hgp : gpM T rr lc) (hF : ∀ q : Nat, q < 720 → AI (gh 56 0) ((11520 * sd + 720 * tI T (40 * rr + 2)).toNat + q) = bg q) : gMet l g yX7_isFirstOfGroup tsX7_isFirstOfGroup rmX7_isFirstOfGroupf [.ref mo, .int (iI sd), .int (iI rr), .int (iI ip)] (I, R, J, AI, AJ, AR) (gQi g (fun (z : Int) (w : gS) => I = w.1 ∧ R = w.2.1 ∧ J = w.2.2.1 ∧ AI = w.2.2.2.1 ∧ AJ = w.2.2.2.2.1 ∧ AR = w.2.2.2.2.2 ∧ (z = 0 ∨ z = 1) ∧ (tIz z (∀ j : Nat, (j : Int) < ip → gk lc (tup bg j) ≠ gk lc (tup bg ip.toNat))))) := by
  refine gStart (cc := cX7_isFirstOfGroup) (maxL := 5) (ret := (some (.boolean))) (by decide) rfl (Nat.le_of_ble_eq_true rfl) ?_
  intro p e s m below meth c ls F hr hlk hH hz hS hl
  have hl : lv_has ls 5 [(0, .ref mo), (1, .int (iI sd)), (2, .int (iI rr)), (3, .int (iI ip))] := hl
  have hS : va_S (gA g) s.heap s.heap [] := hS
  obtain ⟨H, hHe⟩ : ∃ H : Heap, H = s.heap := ⟨_, rfl⟩
  obtain ⟨locs, hlo⟩ : ∃ k : List Loc, k = [] := ⟨_, rfl⟩
  have hH : gH g I R J AI AJ AR H := by rw [hHe]; exact hH
  have hS : va_S (gA g) s.heap H locs := by rw [hHe, hlo]; exact hS
  suffices hw : W p l e rmX7_isFirstOfGroupf s m ([.ref mo, .int (iI sd), .int (iI rr), .int (iI ip)] : List Value).toArray below meth c H locs 0 0 (MQ below (gQi g (fun (z : Int) (w : gS) => I = w.1 ∧ R = w.2.1 ∧ J = w.2.2.1 ∧ AI = w.2.2.2.1 ∧ AJ = w.2.2.2.2.1 ∧ AR = w.2.2.2.2.2 ∧ (z = 0 ∨ z = 1) ∧ (tIz z (∀ j : Nat, (j : Int) < ip → gk lc (tup bg j) ≠ gk lc (tup bg ip.toNat))))) ([.ref mo, .int (iI sd), .int (iI rr), .int (iI ip)] : List Value).toArray s 0 0 (gA g)) (F0 m 0 ls []) by
    rw [hHe, hlo] at hw; exact hw
  clear hHe hlo
  have hb0 := mJ hv hm
  unfold mNum1 at hb0
  have x := mRow hv hm hT (z := rr) (by omega) (by omega)
  have xa := x.1
  have xc := x.2.2.1
  have xb := x.2.1 (by omega)
  have x7 := x.2.2.2.2.2.2.2.2.1 (by omega)
  refine z_iconst F dX7_isFirstOfGroup_0 ?_
  refine lv_istore (lv' := [(4, .int (iI 0)), (0, .ref mo), (1, .int (iI sd)), (2, .int (iI rr)), (3, .int (iI ip))]) F.1 F.2.1 dX7_isFirstOfGroup_1 hl (by decide) rfl (fun ls hl => ?_)
  have cut_3_0 : ∀ (NN : Nat) (k : Int) (H : Heap) (locs : List Loc) (ls : Array Slot), zr k → (0 ≤ k ∧ k ≤ ip) → (∀ j : Nat, (j : Int) < k → gk lc (tup bg j) ≠ gk lc (tup bg ip.toNat)) → (ip - k) < ((NN : Nat) : Int) → gH g I R J AI AJ AR H → va_S (gA g) s.heap H locs → lv_has ls 5 [(4, .int (iI k)), (0, .ref mo), (1, .int (iI sd)), (2, .int (iI rr)), (3, .int (iI ip))] → W p l e rmX7_isFirstOfGroupf s m ([.ref mo, .int (iI sd), .int (iI rr), .int (iI ip)] : List Value).toArray below meth c H locs 0 0 (MQ below (gQi g (fun (z : Int) (w : gS) => I = w.1 ∧ R = w.2.1 ∧ J = w.2.2.1 ∧ AI = w.2.2.2.1 ∧ AJ = w.2.2.2.2.1 ∧ AR = w.2.2.2.2.2 ∧ (z = 0 ∨ z = 1) ∧ (tIz z (∀ j : Nat, (j : Int) < ip → gk lc (tup bg j) ≠ gk lc (tup bg ip.toNat))))) ([.ref mo, .int (iI sd), .int (iI rr), .int (iI ip)] : List Value).toArray s 0 0 (gA g)) (F0 m 3 ls []) := by
    intro NN3
    induction NN3 with
    | zero =>
      intro k H locs ls zk hk1 hno hm3 hH hS hl
      exact absurd hm3 (by omega)
    | succ NN3 ih3 =>
      intro k H locs ls zk hk1 hno hm3 hH hS hl
      refine lv_iload F.1 F.2.1 dX7_isFirstOfGroup_3 (lv_at hl 0 rfl) ?_
      refine lv_iload_n F.1 F.2.1 dX7_isFirstOfGroup_5 rfl (lv_at hl 4 rfl) ?_
      refine z_icmp_ge (tgt := 46) F dX7_isFirstOfGroup_6 (by decide) zk zip (fun c_2 => ?_) (fun c_2 => ?_)
      · refine z_iconst F dX7_isFirstOfGroup_46 ?_
        exact g_zret F hr hlk hH hS hz (by omega) ⟨rfl, rfl, rfl, rfl, rfl, rfl, by first | omega | rfl | (dsimp only; omega), tIz_t (fun j hj => hno j (by omega))⟩ dX7_isFirstOfGroup_47
      · refine lv_aload_n F.1 F.2.1 dX7_isFirstOfGroup_9 rfl (lv_at hl 1 rfl) ?_
        refine lv_iload_n F.1 F.2.1 dX7_isFirstOfGroup_10 rfl (lv_at hl 3 rfl) ?_
        refine lv_iload_n F.1 F.2.1 dX7_isFirstOfGroup_11 rfl (lv_at hl 2 rfl) ?_
        refine lv_aload_n F.1 F.2.1 dX7_isFirstOfGroup_12 rfl (lv_at hl 1 rfl) ?_
        refine lv_iload_n F.1 F.2.1 dX7_isFirstOfGroup_13 rfl (lv_at hl 3 rfl) ?_
        have b_3 := mJ hv hm
        unfold mNum1 at b_3
        refine g_calli (g_runV (As := [.int (iI rr)]) (rest := [.int (iI sd), .int (iI rr), .ref mo]) (ci := 7) F hl.1 hH hS hz (c_X7_firstOf l g gh T I R J AI AJ AR mo rr zrr hv hm hT (by omega)) (cwV 1 F.2.2.2.2.1 (good_up gT_X7_firstOf) rfl rfl rfl hdX7_firstOf ⟨Nat.le_of_ble_eq_true rfl, Nat.le_of_ble_eq_true rfl⟩) hm (by decide) rfl rfl rfl (Nat.le_of_ble_eq_true rfl) dX7_isFirstOfGroup_14 ⟨Nat.zero_le _, Nat.zero_le _⟩) hS (fun v_10 I_4 R_5 J_6 AI_7 AJ_8 AR_9 H locs zv_10 hp_11 hH hS => ?_)
        dsimp only at hp_11
        obtain ⟨rfl, rfl, rfl, rfl, rfl, rfl, q_12⟩ := hp_11
        refine lv_iload F.1 F.2.1 dX7_isFirstOfGroup_17 (lv_at hl 0 rfl) ?_
        refine g_calli (g_runS (As := [.int (iI sd), .int (iI v_10), .int (iI k)]) (rest := [.int (iI rr), .ref mo]) F hl.1 hH hS hz (c_X7_spot l g  I R J AI AJ AR sd v_10 k zsd zv_10 zk (by omega) (by omega) (by omega)) (va_cwS 3 F.2.2.2.2.1 (good_up gT_X7_spot) rfl rfl rfl hdX7_spot.2 ⟨Nat.le_of_ble_eq_true rfl, Nat.le_of_ble_eq_true rfl⟩) rfl rfl (Nat.le_of_ble_eq_true rfl) dX7_isFirstOfGroup_19 ⟨Nat.zero_le _, Nat.zero_le _⟩) hS (fun v_19 I_13 R_14 J_15 AI_16 AJ_17 AR_18 H locs zv_19 hp_20 hH hS => ?_)
        dsimp only at hp_20
        obtain ⟨rfl, rfl, rfl, rfl, rfl, rfl, q_21⟩ := hp_20
        refine lv_iload_n F.1 F.2.1 dX7_isFirstOfGroup_22 rfl (lv_at hl 2 rfl) ?_
        refine lv_aload_n F.1 F.2.1 dX7_isFirstOfGroup_23 rfl (lv_at hl 1 rfl) ?_
        refine lv_iload_n F.1 F.2.1 dX7_isFirstOfGroup_24 rfl (lv_at hl 3 rfl) ?_
        refine g_calli (g_runV (As := [.int (iI rr)]) (rest := [.int (iI sd), .int (iI v_19), .int (iI rr), .ref mo]) (ci := 7) F hl.1 hH hS hz (c_X7_firstOf l g gh T I R J AI AJ AR mo rr zrr hv hm hT (by omega)) (cwV 1 F.2.2.2.2.1 (good_up gT_X7_firstOf) rfl rfl rfl hdX7_firstOf ⟨Nat.le_of_ble_eq_true rfl, Nat.le_of_ble_eq_true rfl⟩) hm (by decide) rfl rfl rfl (Nat.le_of_ble_eq_true rfl) dX7_isFirstOfGroup_25 ⟨Nat.zero_le _, Nat.zero_le _⟩) hS (fun v_28 I_22 R_23 J_24 AI_25 AJ_26 AR_27 H locs zv_28 hp_29 hH hS => ?_)
        dsimp only at hp_29
        obtain ⟨rfl, rfl, rfl, rfl, rfl, rfl, q_30⟩ := hp_29
        refine lv_iload_n F.1 F.2.1 dX7_isFirstOfGroup_28 rfl (lv_at hl 4 rfl) ?_
        refine g_calli (g_runS (As := [.int (iI sd), .int (iI v_28), .int (iI ip)]) (rest := [.int (iI v_19), .int (iI rr), .ref mo]) F hl.1 hH hS hz (c_X7_spot l g  I R J AI AJ AR sd v_28 ip zsd zv_28 zip (by omega) (by omega) (by omega)) (va_cwS 3 F.2.2.2.2.1 (good_up gT_X7_spot) rfl rfl rfl hdX7_spot.2 ⟨Nat.le_of_ble_eq_true rfl, Nat.le_of_ble_eq_true rfl⟩) rfl rfl (Nat.le_of_ble_eq_true rfl) dX7_isFirstOfGroup_29 ⟨Nat.zero_le _, Nat.zero_le _⟩) hS (fun v_37 I_31 R_32 J_33 AI_34 AJ_35 AR_36 H locs zv_37 hp_38 hH hS => ?_)
        dsimp only at hp_38
        obtain ⟨rfl, rfl, rfl, rfl, rfl, rfl, q_39⟩ := hp_38
        refine g_calli (g_runV (As := [.int (iI rr), .int (iI v_19), .int (iI v_37)]) (rest := []) (ci := 7) F hl.1 hH hS hz (c_X7_areOneGroupf l g gh T lc (tup bg k.toNat) (tup bg ip.toNat) I R J AI AJ AR mo rr v_19 v_37 zrr zv_19 zv_37 hv hm hT (by omega) (by omega) (by omega) hgp (hF_at hF (by omega) (by omega) (by omega)) (hF_at hF (by omega) (by omega) (by omega))) (cwV 3 F.2.2.2.2.1 (good_up gT_X7_areOneGroup) rfl rfl rfl hdX7_areOneGroup ⟨Nat.le_of_ble_eq_true rfl, Nat.le_of_ble_eq_true rfl⟩) hm (by decide) rfl rfl rfl (Nat.le_of_ble_eq_true rfl) dX7_isFirstOfGroup_32 ⟨Nat.zero_le _, Nat.zero_le _⟩) hS (fun v_46 I_40 R_41 J_42 AI_43 AJ_44 AR_45 H locs zv_46 hp_47 hH hS => ?_)
        dsimp only at hp_47
        obtain ⟨rfl, rfl, rfl, rfl, rfl, rfl, q_48, qog⟩ := hp_47
        refine z_if_eq (tgt := 40) F dX7_isFirstOfGroup_35 (by decide) zv_46 (fun c_49 => ?_) (fun c_49 => ?_)
        · refine z_iinc (lv' := [(4, .int (iI (k + 1))), (0, .ref mo), (1, .int (iI sd)), (2, .int (iI rr)), (3, .int (iI ip))]) F dX7_isFirstOfGroup_40 hl (k := 0) rfl (by decide) rfl (fun ls hl => ?_)
          refine z_goto (tgt := 3) F dX7_isFirstOfGroup_43 (by decide) ?_
          exact ih3 (k + 1) H locs ls ⟨by omega, by omega⟩ (by omega) (ix_step (P := fun j => gk lc (tup bg j) ≠ gk lc (tup bg ip.toNat)) hno (by omega) (by rcases qog with ⟨h8, _⟩ | ⟨_, h8⟩ <;> first | exact h8 | omega)) (by omega) hH hS (lv_sub hl [0, 1, 2, 3, 4] rfl)
        · refine z_iconst F dX7_isFirstOfGroup_38 ?_
          exact g_zret F hr hlk hH hS hz (by omega) ⟨rfl, rfl, rfl, rfl, rfl, rfl, by first | omega | rfl | (dsimp only; omega), tIz_f (fun h9 => h9 k.toNat (by omega) (by rcases qog with ⟨_, h8⟩ | ⟨h8, _⟩ <;> first | exact h8 | omega))⟩ dX7_isFirstOfGroup_39
  exact cut_3_0 (((ip - 0) + 1 : Int).toNat) 0 H locs ls ⟨by decide, by decide⟩ (by omega) (fun j hj => absurd hj (by omega)) (by omega) hH hS (lv_sub hl [0, 1, 2, 3, 4] rfl)
