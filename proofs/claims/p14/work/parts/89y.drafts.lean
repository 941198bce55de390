section
def rmX7_draftsf : Room := { frames := 6, cells := 0, slots := 0, locals := 159 }
set_option maxHeartbeats 4000000 in
set_option maxRecDepth 100000 in
/-- the draft -/
theorem c_X7_draftsf (l : Launch) (g : gG) (gh : gGh) (T : Nat → Int32) (tbs : Int) (nr nb : Nat) (cc : Nat → LC) (cl : Nat → Int) (bf : Nat → Int32) (I : gI) (R : gR) (J : gJ) (AI : gI) (AJ : gJ) (AR : gR) (mo : Nat) (hv : mInv g gh R I AI) (hm : gO g mo 7) (hT : AI (gh 50 0) = T) (hmr : (I mo 2).toInt = (nr : Int)) (hpl : plM9 T tbs nr cc cl) (hnb : (I mo 14).toInt = (nb : Int)) (hbm : btM9 gh AI bf nb tbs cl) (hbg : ∀ r : Nat, r < nr → bgOK (rfM gh AI 0) cl r) (hps : ∀ r : Nat, (r : Int) < tbs → ∀ t, 0 ≤ (bS (rfM gh AI 0 r).2 (rfM gh AI 0 r).1 t).toInt) : gMet l g yX7_drafts tsX7_drafts rmX7_draftsf [.ref mo] (I, R, J, AI, AJ, AR) (gQi g (fun (z : Int) (w : gS) => R = w.2.1 ∧ J = w.2.2.1 ∧ AJ = w.2.2.2.2.1 ∧ AR = w.2.2.2.2.2 ∧ (mInv g gh R (w.1) (w.2.2.2.1)) ∧ ((w.2.2.2.1) (gh 50 0) = T) ∧ (wF mo I (w.1)) ∧ (drP gh AI tbs nr cc cl bf nb z (w.2.2.2.1)))) := by
  refine gStart (cc := cX7_drafts) (maxL := 4) (ret := (some (.int))) (by decide) rfl (Nat.le_of_ble_eq_true rfl) ?_
  intro p e s m below meth c ls F hr hlk hH hz hS hl
  have hl : lv_has ls 4 [(0, .ref mo)] := hl
  have hS : va_S (gA g) s.heap s.heap [] := hS
  obtain ⟨H, hHe⟩ : ∃ H : Heap, H = s.heap := ⟨_, rfl⟩
  obtain ⟨locs, hlo⟩ : ∃ k : List Loc, k = [] := ⟨_, rfl⟩
  have hH : gH g I R J AI AJ AR H := by rw [hHe]; exact hH
  have hS : va_S (gA g) s.heap H locs := by rw [hHe, hlo]; exact hS
  suffices hw : W p l e rmX7_draftsf s m ([.ref mo] : List Value).toArray below meth c H locs 0 0 (MQ below (gQi g (fun (z : Int) (w : gS) => R = w.2.1 ∧ J = w.2.2.1 ∧ AJ = w.2.2.2.2.1 ∧ AR = w.2.2.2.2.2 ∧ (mInv g gh R (w.1) (w.2.2.2.1)) ∧ ((w.2.2.2.1) (gh 50 0) = T) ∧ (wF mo I (w.1)) ∧ (drP gh AI tbs nr cc cl bf nb z (w.2.2.2.1)))) ([.ref mo] : List Value).toArray s 0 0 (gA g)) (F0 m 0 ls []) by
    rw [hHe, hlo] at hw; exact hw
  clear hHe hlo
  have wf : wF mo I I := wF_r
  have hb0 := mJ hv hm
  unfold mNum1 at hb0
  have hv0 := hv
  have hp1 := hpl.1
  have iX7 : ∀ w ∈ u_ws RX7 TX7 32, w ∈ tsX7_drafts := fun w h => List.mem_cons_of_mem _ (inTB7 w h)
  have k64 : Cond.fieldLink RX7 64 (TX7 2).1 (TX7 2).2.1 (TX7 2).2.2.1 ∈ tsX7_drafts := List.mem_cons_of_mem _ fl_64
  refine lv_aload_n F.1 F.2.1 dX7_drafts_0 rfl (lv_at hl 0 rfl) ?_
  refine z_iconst F dX7_drafts_1 ?_
  refine z_bipush F dX7_drafts_2 (by decide) ?_
  have b_1 := mJ hv hm
  unfold mNum1 at b_1
  refine g_callv (g_runV (As := [.int (iI 0), .int (iI 10)]) (rest := []) (ci := 7) F hl.1 hH hS hz (c_X7_copiesf l g gh T I R J AI AJ AR mo 0 10 ⟨by decide, by decide⟩ ⟨by decide, by decide⟩ hv hm hT (by omega)) (cwV 2 F.2.2.2.2.1 (good_up gT_X7_copies) rfl rfl rfl hdX7_copies ⟨Nat.le_of_ble_eq_true rfl, Nat.le_of_ble_eq_true rfl⟩) hm (by decide) rfl rfl rfl (Nat.le_of_ble_eq_true rfl) dX7_drafts_4 ⟨Nat.zero_le _, Nat.zero_le _⟩) hS (fun I_2 R_3 J_4 AI_5 AJ_6 AR_7 H locs hp_8 hH hS => ?_)
  dsimp only at hp_8
  obtain ⟨rfl, rfl, rfl, rfl, rfl, hv, hT, qcp⟩ := hp_8
  have hv1 := hv
  have hF1 : ∀ q : Nat, q < 16 → rfM gh AI_5 10 q = rfM gh AI 0 q := fun q hq => cp_to qcp ⟨by decide, by decide⟩ hq
  have hz1 := noZ_c qcp
  have hs1 := sdK_c qcp
  have n61 : AI_5 (gh 61 0) = AI (gh 61 0) := qcp.1 _ (show gh 61 0 ≠ gh 56 0 from mNe hv hm (p := (11, 41)) (q := (6, 126720)) (by decide) (by decide) (by decide)) (show gh 61 0 ≠ gh 57 0 from mNe hv hm (p := (11, 41)) (q := (7, 176)) (by decide) (by decide) (by decide)) (show gh 61 0 ≠ gh 79 0 from mNe hv hm (p := (11, 41)) (q := (29, 176)) (by decide) (by decide) (by decide))
  have n62 : AI_5 (gh 62 0) = AI (gh 62 0) := qcp.1 _ (show gh 62 0 ≠ gh 56 0 from mNe hv hm (p := (12, 164)) (q := (6, 126720)) (by decide) (by decide) (by decide)) (show gh 62 0 ≠ gh 57 0 from mNe hv hm (p := (12, 164)) (q := (7, 176)) (by decide) (by decide) (by decide)) (show gh 62 0 ≠ gh 79 0 from mNe hv hm (p := (12, 164)) (q := (29, 176)) (by decide) (by decide) (by decide))
  have n63 : AI_5 (gh 63 0) = AI (gh 63 0) := qcp.1 _ (show gh 63 0 ≠ gh 56 0 from mNe hv hm (p := (13, 41)) (q := (6, 126720)) (by decide) (by decide) (by decide)) (show gh 63 0 ≠ gh 57 0 from mNe hv hm (p := (13, 41)) (q := (7, 176)) (by decide) (by decide) (by decide)) (show gh 63 0 ≠ gh 79 0 from mNe hv hm (p := (13, 41)) (q := (29, 176)) (by decide) (by decide) (by decide))
  refine z_iconst F dX7_drafts_7 ?_
  refine lv_istore_n (lv' := [(1, .int (iI 0)), (0, .ref mo)]) F.1 F.2.1 dX7_drafts_8 rfl hl (by decide) rfl (fun ls hl => ?_)
  have cut_9_10 : ∀ (NN : Nat) (k : Int) (I_9 : gI) (AI_10 : gI) (H : Heap) (locs : List Loc) (ls : Array Slot), zr k → (mInv g gh R I_9 AI_10) → (AI_10 (gh 50 0) = T) → (wF mo I I_9) → (0 ≤ k ∧ k ≤ 16) → (∀ b, b ≠ gh 75 0 → b ≠ gh 77 0 → AI_10 b = AI_5 b) → (∀ q : Nat, (q : Int) < k → ¬ lowX (rfM gh AI 0 q).2 (rfM gh AI 0 q).1 bf (q : Int) nb) → (16 - k) < ((NN : Nat) : Int) → gH g I_9 R J AI_10 AJ AR H → va_S (gA g) s.heap H locs → lv_has ls 4 [(1, .int (iI k)), (0, .ref mo)] → W p l e rmX7_draftsf s m ([.ref mo] : List Value).toArray below meth c H locs 0 0 (MQ below (gQi g (fun (z : Int) (w : gS) => R = w.2.1 ∧ J = w.2.2.1 ∧ AJ = w.2.2.2.2.1 ∧ AR = w.2.2.2.2.2 ∧ (mInv g gh R (w.1) (w.2.2.2.1)) ∧ ((w.2.2.2.1) (gh 50 0) = T) ∧ (wF mo I (w.1)) ∧ (drP gh AI tbs nr cc cl bf nb z (w.2.2.2.1)))) ([.ref mo] : List Value).toArray s 0 0 (gA g)) (F0 m 9 ls []) := by
    intro NN9
    induction NN9 with
    | zero =>
      intro k I_9 AI_10 H locs ls zk hv hT wf hk1 fW hnl hm9 hH hS hl
      exact absurd hm9 (by omega)
    | succ NN9 ih9 =>
      intro k I_9 AI_10 H locs ls zk hv hT wf hk1 fW hnl hm9 hH hS hl
      have uc_2 : (I_9 mo 2).toInt = (I mo 2).toInt := by rw [wf 2 (by decide)]
      have uc_5 : (I_9 mo 5).toInt = (I mo 5).toInt := by rw [wf 5 (by decide)]
      have uc_14 : (I_9 mo 14).toInt = (I mo 14).toInt := by rw [wf 14 (by decide)]
      have uc_16 : (I_9 mo 16).toInt = (I mo 16).toInt := by rw [wf 16 (by decide)]
      have uc_24 : (I_9 mo 24).toInt = (I mo 24).toInt := by rw [wf 24 (by decide)]
      refine lv_iload_n F.1 F.2.1 dX7_drafts_9 rfl (lv_at hl 0 rfl) ?_
      refine lv_aload_n F.1 F.2.1 dX7_drafts_10 rfl (lv_at hl 1 rfl) ?_
      have b_12 := mJ hv hm
      unfold mNum1 at b_12
      refine g_calli (g_runV (As := []) (rest := [.int (iI k)]) (ci := 7) F hl.1 hH hS hz (c_X7_tablesf l g gh T I_9 R J AI_10 AJ AR mo hv hm hT) (cwV 0 F.2.2.2.2.1 (good_up gT_X7_tables) rfl rfl rfl hdX7_tables ⟨Nat.le_of_ble_eq_true rfl, Nat.le_of_ble_eq_true rfl⟩) hm (by decide) rfl rfl rfl (Nat.le_of_ble_eq_true rfl) dX7_drafts_11 ⟨Nat.zero_le _, Nat.zero_le _⟩) hS (fun v_19 I_13 R_14 J_15 AI_16 AJ_17 AR_18 H locs zv_19 hp_20 hH hS => ?_)
      dsimp only at hp_20
      obtain ⟨rfl, rfl, rfl, rfl, rfl, rfl, q_21, hvw, qtt⟩ := hp_20
      have ht11 : v_19 = tbs := tb_eq (many := (I mo 2).toInt) (by omega) (fun r h1 h2 => hvw r h1 (by omega)) qtt (by omega) hpl.2.1 (pl_6 hpl hmr)
      refine z_icmp_ge (tgt := 36) F dX7_drafts_14 (by decide) zk zv_19 (fun c_22 => ?_) (fun c_22 => ?_)
      · have hnbl : ¬ ∃ i, i < nb ∧ blw bf (rfM gh AI 0) 1 i := low_f hbm.2.1 hbm.2.2.2 (fun q hq => hnl q (by omega))
        have h56 : AI_10 (gh 56 0) = AI_5 (gh 56 0) := fW _ (show gh 56 0 ≠ gh 75 0 from mNe hv hm (p := (6, 126720)) (q := (25, 9600)) (by decide) (by decide) (by decide)) (show gh 56 0 ≠ gh 77 0 from mNe hv hm (p := (6, 126720)) (q := (27, 4)) (by decide) (by decide) (by decide))
        have h57 : AI_10 (gh 57 0) = AI_5 (gh 57 0) := fW _ (show gh 57 0 ≠ gh 75 0 from mNe hv hm (p := (7, 176)) (q := (25, 9600)) (by decide) (by decide) (by decide)) (show gh 57 0 ≠ gh 77 0 from mNe hv hm (p := (7, 176)) (q := (27, 4)) (by decide) (by decide) (by decide))
        have hrk0 := rk_1 (sd := 10) (rr := 0) (AI := AI_5) (AI1 := AI_10) hv1 hm (fun b h1 h2 _ _ _ => fW b h1 h2) (fun j _ => by rw [fW _ (show gh 79 0 ≠ gh 75 0 from mNe hv hm (p := (29, 176)) (q := (25, 9600)) (by decide) (by decide) (by decide)) (show gh 79 0 ≠ gh 77 0 from mNe hv hm (p := (29, 176)) (q := (27, 4)) (by decide) (by decide) (by decide))])
        have hds9 : drS gh AI tbs nr cc cl bf nb AI_10 (0 : Int).toNat := dr_0 (sdK_k hs1 hrk0 (by decide)) (noZ_k hz1 hrk0) (fun q hq => by rw [rfM_g h56 h57]; exact hF1 q hq)
        refine z_iconst F dX7_drafts_36 ?_
        refine lv_istore_n (lv' := [(1, .int (iI 0)), (0, .ref mo)]) F.1 F.2.1 dX7_drafts_37 rfl hl (by decide) rfl (fun ls hl => ?_)
        have cut_38_24 : ∀ (NN : Nat) (k : Int) (I_23 : gI) (AI_24 : gI) (H : Heap) (locs : List Loc) (ls : Array Slot), zr k → (mInv g gh R I_23 AI_24) → (AI_24 (gh 50 0) = T) → (wF mo I I_23) → (0 ≤ k ∧ k ≤ 16) → (drS gh AI tbs nr cc cl bf nb AI_24 k.toNat) → (k ≤ (nr : Int)) → (16 - k) < ((NN : Nat) : Int) → gH g I_23 R J AI_24 AJ AR H → va_S (gA g) s.heap H locs → lv_has ls 4 [(1, .int (iI k)), (0, .ref mo)] → W p l e rmX7_draftsf s m ([.ref mo] : List Value).toArray below meth c H locs 0 0 (MQ below (gQi g (fun (z : Int) (w : gS) => R = w.2.1 ∧ J = w.2.2.1 ∧ AJ = w.2.2.2.2.1 ∧ AR = w.2.2.2.2.2 ∧ (mInv g gh R (w.1) (w.2.2.2.1)) ∧ ((w.2.2.2.1) (gh 50 0) = T) ∧ (wF mo I (w.1)) ∧ (drP gh AI tbs nr cc cl bf nb z (w.2.2.2.1)))) ([.ref mo] : List Value).toArray s 0 0 (gA g)) (F0 m 38 ls []) := by
          intro NN38
          induction NN38 with
          | zero =>
            intro k I_23 AI_24 H locs ls zk hv hT wf hk2 hds hkn hm38 hH hS hl
            exact absurd hm38 (by omega)
          | succ NN38 ih38 =>
            intro k I_23 AI_24 H locs ls zk hv hT wf hk2 hds hkn hm38 hH hS hl
            have uc_2 : (I_23 mo 2).toInt = (I mo 2).toInt := by rw [wf 2 (by decide)]
            have uc_5 : (I_23 mo 5).toInt = (I mo 5).toInt := by rw [wf 5 (by decide)]
            have uc_14 : (I_23 mo 14).toInt = (I mo 14).toInt := by rw [wf 14 (by decide)]
            have uc_16 : (I_23 mo 16).toInt = (I mo 16).toInt := by rw [wf 16 (by decide)]
            have uc_24 : (I_23 mo 24).toInt = (I mo 24).toInt := by rw [wf 24 (by decide)]
            refine lv_iload_n F.1 F.2.1 dX7_drafts_38 rfl (lv_at hl 0 rfl) ?_
            refine lv_aload_n F.1 F.2.1 dX7_drafts_39 rfl (lv_at hl 1 rfl) ?_
            refine g_getI (ci := 7) (k := 2) F hH rfl (by decide) iX7 hm (by decide) rfl k64 dX7_drafts_40 ?_
            have b_26 := mJ hv hm
            unfold mNum1 at b_26
            refine z_icmp_ge (tgt := 102) F dX7_drafts_43 (by decide) zk (zr_t _) (fun c_27 => ?_) (fun c_27 => ?_)
            · refine z_iconst F dX7_drafts_102 ?_
              exact g_iret F hr hlk hH hS hz ⟨by decide, by decide⟩ ⟨rfl, rfl, rfl, rfl, hv, hT, wf, (dr_end (by rw [show k.toNat = nr by omega] at hds; exact hds) hnbl)⟩ dX7_drafts_103
            · refine lv_aload_n F.1 F.2.1 dX7_drafts_46 rfl (lv_at hl 1 rfl) ?_
              refine lv_iload_n F.1 F.2.1 dX7_drafts_47 rfl (lv_at hl 0 rfl) ?_
              refine g_calli (g_runV (As := [.int (iI k)]) (rest := []) (ci := 7) F hl.1 hH hS hz (c_X7_kindOf l g gh T I_23 R J AI_24 AJ AR mo k zk hv hm hT (by omega)) (cwV 1 F.2.2.2.2.1 (good_up gT_X7_kindOf) rfl rfl rfl hdX7_kindOf ⟨Nat.le_of_ble_eq_true rfl, Nat.le_of_ble_eq_true rfl⟩) hm (by decide) rfl rfl rfl (Nat.le_of_ble_eq_true rfl) dX7_drafts_48 ⟨Nat.zero_le _, Nat.zero_le _⟩) hS (fun v_34 I_28 R_29 J_30 AI_31 AJ_32 AR_33 H locs zv_34 hp_35 hH hS => ?_)
              dsimp only at hp_35
              obtain ⟨rfl, rfl, rfl, rfl, rfl, rfl, qkd⟩ := hp_35
              refine z_if_ne (tgt := 82) F dX7_drafts_51 (by decide) zv_34 (fun c_36 => ?_) (fun c_36 => ?_)
              · have hkv : tbs ≤ k := by
                  apply Classical.byContradiction
                  intro h9
                  exact absurd (hpl.2.1 k (by omega) (by omega)) (by omega)
                have hlv9 := hpl.2.2 k.toNat (by omega) (by omega)
                rw [show ((k.toNat : Nat) : Int) = k by omega] at hlv9
                refine lv_aload_n F.1 F.2.1 dX7_drafts_82 rfl (lv_at hl 1 rfl) ?_
                refine z_bipush F dX7_drafts_83 (by decide) ?_
                refine lv_iload_n F.1 F.2.1 dX7_drafts_85 rfl (lv_at hl 0 rfl) ?_
                refine g_calli (g_runV (As := [.int (iI 10), .int (iI k)]) (rest := []) (ci := 7) F hl.1 hH hS hz (c_X7_reckonsf l g gh T (cc k.toNat) cl I_23 R J AI_24 AJ AR mo 10 k ⟨by decide, by decide⟩ zk hv hm hT (by omega) (by omega) (by omega) hlv9.1 hlv9.2.1 (fun q hq => (hds.2.2.1 q hq).2)) (cwV 2 F.2.2.2.2.1 (good_up gT_X7_reckons) rfl rfl rfl hdX7_reckons ⟨Nat.le_of_ble_eq_true rfl, Nat.le_of_ble_eq_true rfl⟩) hm (by decide) rfl rfl rfl (Nat.le_of_ble_eq_true rfl) dX7_drafts_86 ⟨Nat.zero_le _, Nat.zero_le _⟩) hS (fun v_43 I_37 R_38 J_39 AI_40 AJ_41 AR_42 H locs zv_43 hp_44 hH hS => ?_)
                dsimp only at hp_44
                obtain ⟨rfl, rfl, rfl, rfl, hv, hT, wfq, qrk, qvw, qzz, qrr⟩ := hp_44
                have wf := wF_t wf wfq
                have u_45_2 : (I_37 mo 2).toInt = (I mo 2).toInt := by rw [wf 2 (by decide)]
                have u_45_5 : (I_37 mo 5).toInt = (I mo 5).toInt := by rw [wf 5 (by decide)]
                have u_45_14 : (I_37 mo 14).toInt = (I mo 14).toInt := by rw [wf 14 (by decide)]
                have u_45_16 : (I_37 mo 16).toInt = (I mo 16).toInt := by rw [wf 16 (by decide)]
                have u_45_24 : (I_37 mo 24).toInt = (I mo 24).toInt := by rw [wf 24 (by decide)]
                rw [show k = ((k.toNat : Nat) : Int) by omega] at qrk
                refine lv_istore_n (lv' := [(2, .int (iI v_43)), (1, .int (iI k)), (0, .ref mo)]) F.1 F.2.1 dX7_drafts_89 rfl hl (by decide) rfl (fun ls hl => ?_)
                refine lv_iload_n F.1 F.2.1 dX7_drafts_90 rfl (lv_at hl 0 rfl) ?_
                refine z_if_ge (tgt := 96) F dX7_drafts_91 (by decide) zv_43 (fun c_46 => ?_) (fun c_46 => ?_)
                · have hds9 := dr_v (cLt_of (fun r h1 h2 => (hpl.2.2 r h1 h2).2)) (by omega) (by omega) (by omega) hlv9.2 hds qrk (by have e9 : v_43 = 0 := (by omega); rw [e9] at qvw; exact qvw) (fun h9 => by obtain ⟨R9, h8, h7⟩ := qrr h9 (by omega); exact ⟨R9, h8, by rw [show 160 + k.toNat = (16 * 10 + k).toNat by omega]; exact h7⟩)
                  rw [show k.toNat + 1 = (k + 1).toNat by omega] at hds9
                  refine z_iinc (lv' := [(1, .int (iI (k + 1))), (2, .int (iI v_43)), (0, .ref mo)]) F dX7_drafts_96 hl (k := 1) rfl (by decide) rfl (fun ls hl => ?_)
                  refine z_goto (tgt := 38) F dX7_drafts_99 (by decide) ?_
                  exact ih38 (k + 1) I_37 AI_40 H locs ls ⟨by omega, by omega⟩ hv hT wf (by omega) hds9 (by omega) (by omega) hH hS (lv_sub hl [0, 2] rfl)
                · refine lv_iload_n F.1 F.2.1 dX7_drafts_94 rfl (lv_at hl 0 rfl) ?_
                  exact g_iret F hr hlk hH hS hz zv_43 ⟨rfl, rfl, rfl, rfl, hv, hT, wf, (dr_vm (cLt_of (fun r h1 h2 => (hpl.2.2 r h1 h2).2)) (by omega) (by omega) (by omega) hlv9.2.1 hds qrk hnbl qzz (by omega) qvw)⟩ dX7_drafts_95
              · have hv4 := hv
                have hkt : k < tbs := by
                  apply Classical.byContradiction
                  intro h9
                  exact pl_6 hpl hmr k (by omega) (by omega) (by omega)
                have hr9 := rfM_s (gh := gh) (AI := AI_24) (sd := 10) (a := k) (n := (rfM gh AI 0 k.toNat).1) (f := (rfM gh AI 0 k.toNat).2) (by rw [hds.2.2.2.1 _ (Nat.le_refl _) (by omega)]) (by omega) (mSz1 hv hm (z := 16 * 10 + k) (by omega) (by omega)).1
                have hbf9 : rbE (AI_24 (gh 61 0)) (AI_24 (gh 62 0)) (AI_24 (gh 63 0)) bf nb := by rw [hds.2.1 _ (show gh 61 0 ≠ gh 56 0 from mNe hv hm (p := (11, 41)) (q := (6, 126720)) (by decide) (by decide) (by decide)) (show gh 61 0 ≠ gh 57 0 from mNe hv hm (p := (11, 41)) (q := (7, 176)) (by decide) (by decide) (by decide)) (show gh 61 0 ≠ gh 75 0 from mNe hv hm (p := (11, 41)) (q := (25, 9600)) (by decide) (by decide) (by decide)) (show gh 61 0 ≠ gh 77 0 from mNe hv hm (p := (11, 41)) (q := (27, 4)) (by decide) (by decide) (by decide)) (show gh 61 0 ≠ gh 78 0 from mNe hv hm (p := (11, 41)) (q := (28, 8)) (by decide) (by decide) (by decide)) (show gh 61 0 ≠ gh 79 0 from mNe hv hm (p := (11, 41)) (q := (29, 176)) (by decide) (by decide) (by decide)) (show gh 61 0 ≠ gh 80 0 from mNe hv hm (p := (11, 41)) (q := (30, 600)) (by decide) (by decide) (by decide)), hds.2.1 _ (show gh 62 0 ≠ gh 56 0 from mNe hv hm (p := (12, 164)) (q := (6, 126720)) (by decide) (by decide) (by decide)) (show gh 62 0 ≠ gh 57 0 from mNe hv hm (p := (12, 164)) (q := (7, 176)) (by decide) (by decide) (by decide)) (show gh 62 0 ≠ gh 75 0 from mNe hv hm (p := (12, 164)) (q := (25, 9600)) (by decide) (by decide) (by decide)) (show gh 62 0 ≠ gh 77 0 from mNe hv hm (p := (12, 164)) (q := (27, 4)) (by decide) (by decide) (by decide)) (show gh 62 0 ≠ gh 78 0 from mNe hv hm (p := (12, 164)) (q := (28, 8)) (by decide) (by decide) (by decide)) (show gh 62 0 ≠ gh 79 0 from mNe hv hm (p := (12, 164)) (q := (29, 176)) (by decide) (by decide) (by decide)) (show gh 62 0 ≠ gh 80 0 from mNe hv hm (p := (12, 164)) (q := (30, 600)) (by decide) (by decide) (by decide)), hds.2.1 _ (show gh 63 0 ≠ gh 56 0 from mNe hv hm (p := (13, 41)) (q := (6, 126720)) (by decide) (by decide) (by decide)) (show gh 63 0 ≠ gh 57 0 from mNe hv hm (p := (13, 41)) (q := (7, 176)) (by decide) (by decide) (by decide)) (show gh 63 0 ≠ gh 75 0 from mNe hv hm (p := (13, 41)) (q := (25, 9600)) (by decide) (by decide) (by decide)) (show gh 63 0 ≠ gh 77 0 from mNe hv hm (p := (13, 41)) (q := (27, 4)) (by decide) (by decide) (by decide)) (show gh 63 0 ≠ gh 78 0 from mNe hv hm (p := (13, 41)) (q := (28, 8)) (by decide) (by decide) (by decide)) (show gh 63 0 ≠ gh 79 0 from mNe hv hm (p := (13, 41)) (q := (29, 176)) (by decide) (by decide) (by decide)) (show gh 63 0 ≠ gh 80 0 from mNe hv hm (p := (13, 41)) (q := (30, 600)) (by decide) (by decide) (by decide))]; exact hbm.1
                refine lv_aload_n F.1 F.2.1 dX7_drafts_54 rfl (lv_at hl 1 rfl) ?_
                refine z_bipush F dX7_drafts_55 (by decide) ?_
                refine lv_iload_n F.1 F.2.1 dX7_drafts_57 rfl (lv_at hl 0 rfl) ?_
                refine g_calli (g_runV (As := [.int (iI 10), .int (iI k)]) (rest := []) (ci := 7) F hl.1 hH hS hz (c_X7_changesOff l g gh T ((rfM gh AI 0 k.toNat).1) nb ((rfM gh AI 0 k.toNat).2) bf I_23 R J AI_24 AJ AR mo 10 k ⟨by decide, by decide⟩ zk hv hm hT (by omega) (by omega) hr9.1 hr9.2 (hbg k.toNat (by omega)).2.1 (hbg k.toNat (by omega)).1 (by omega) hbf9 hbm.2.1) (cwV 2 F.2.2.2.2.1 (good_up gT_X7_changesOf) rfl rfl rfl hdX7_changesOf ⟨Nat.le_of_ble_eq_true rfl, Nat.le_of_ble_eq_true rfl⟩) hm (by decide) rfl rfl rfl (Nat.le_of_ble_eq_true rfl) dX7_drafts_58 ⟨Nat.zero_le _, Nat.zero_le _⟩) hS (fun v_53 I_47 R_48 J_49 AI_50 AJ_51 AR_52 H locs zv_53 hp_54 hH hS => ?_)
                dsimp only at hp_54
                obtain ⟨rfl, rfl, rfl, rfl, hv, hT, wfq, q_55, fWq, qgx, qlw⟩ := hp_54
                have wf := wF_t wf wfq
                have u_56_2 : (I_47 mo 2).toInt = (I mo 2).toInt := by rw [wf 2 (by decide)]
                have u_56_5 : (I_47 mo 5).toInt = (I mo 5).toInt := by rw [wf 5 (by decide)]
                have u_56_14 : (I_47 mo 14).toInt = (I mo 14).toInt := by rw [wf 14 (by decide)]
                have u_56_16 : (I_47 mo 16).toInt = (I mo 16).toInt := by rw [wf 16 (by decide)]
                have u_56_24 : (I_47 mo 24).toInt = (I mo 24).toInt := by rw [wf 24 (by decide)]
                have hrk := rk_1 (sd := 10) (rr := k) (AI := AI_24) (AI1 := AI_50) hv4 hm (fun b h1 h2 _ _ _ => fWq b h1 h2) (fun j _ => by rw [fWq _ (show gh 79 0 ≠ gh 75 0 from mNe hv hm (p := (29, 176)) (q := (25, 9600)) (by decide) (by decide) (by decide)) (show gh 79 0 ≠ gh 77 0 from mNe hv hm (p := (29, 176)) (q := (27, 4)) (by decide) (by decide) (by decide))])
                have hgx9 := gaX_R qgx
                have hgx8 : gaR (AI_50 (gh 75 0)) (I_47 mo 26).toInt.toNat (tbS bf nb (rfM gh AI 0) 1 k.toNat) := by have h9 := sb_tb (b := bf) (nb := nb) (F := rfM gh AI 0) (r := k.toNat); rw [Int.toNat_of_nonneg (by omega)] at h9; rw [← h9]; exact hgx9
                refine lv_istore_n (lv' := [(3, .int (iI v_53)), (1, .int (iI k)), (0, .ref mo)]) F.1 F.2.1 dX7_drafts_61 rfl hl (by decide) rfl (fun ls hl => ?_)
                refine lv_iload_n F.1 F.2.1 dX7_drafts_62 rfl (lv_at hl 0 rfl) ?_
                refine z_if_eq (tgt := 71) F dX7_drafts_63 (by decide) zv_53 (fun c_57 => ?_) (fun c_57 => ?_)
                · refine lv_aload_n F.1 F.2.1 dX7_drafts_71 rfl (lv_at hl 2 rfl) ?_
                  refine z_bipush F dX7_drafts_72 (by decide) ?_
                  refine lv_iload_n F.1 F.2.1 dX7_drafts_74 rfl (lv_at hl 1 rfl) ?_
                  have b_58 := mJ hv hm
                  unfold mNum1 at b_58
                  refine g_calli (g_runV (As := [.int (iI 10), .int (iI k)]) (rest := []) (ci := 7) F hl.1 hH hS hz (c_X7_laysf l g gh T I_47 R J AI_50 AJ AR mo 10 k ⟨by decide, by decide⟩ zk hv hm hT (by omega) (by omega)) (cwV 2 F.2.2.2.2.1 (good_up gT_X7_lays) rfl rfl rfl hdX7_lays ⟨Nat.le_of_ble_eq_true rfl, Nat.le_of_ble_eq_true rfl⟩) hm (by decide) rfl rfl rfl (Nat.le_of_ble_eq_true rfl) dX7_drafts_75 ⟨Nat.zero_le _, Nat.zero_le _⟩) hS (fun v_65 I_59 R_60 J_61 AI_62 AJ_63 AR_64 H locs zv_65 hp_66 hH hS => ?_)
                  dsimp only at hp_66
                  obtain ⟨rfl, rfl, rfl, rfl, rfl, hv, hT, haq25, qlf, qly⟩ := hp_66
                  have hrk9 := rk_2 hv4 hm hrk qlf qly
                  have hsz9 := mSz1 hv hm (z := 16 * 10 + k) (by omega) (by omega)
                  have hlt := lay_t (by omega) hsz9.2 (by omega) hgx8 qly
                  rw [show k = ((k.toNat : Nat) : Int) by omega] at hrk9
                  refine lv_istore_n (lv' := [(2, .int (iI v_65)), (3, .int (iI v_53)), (1, .int (iI k)), (0, .ref mo)]) F.1 F.2.1 dX7_drafts_78 rfl hl (by decide) rfl (fun ls hl => ?_)
                  refine z_goto (tgt := 90) F dX7_drafts_79 (by decide) ?_
                  refine lv_iload_n F.1 F.2.1 dX7_drafts_90 rfl (lv_at hl 0 rfl) ?_
                  refine z_if_ge (tgt := 96) F dX7_drafts_91 (by decide) zv_65 (fun c_67 => ?_) (fun c_67 => ?_)
                  · obtain ⟨-, hl1, hl2⟩ := hlt.resolve_right (fun h => by omega)
                    have hds9 := dr_t (cLt_of (fun r h1 h2 => (hpl.2.2 r h1 h2).2)) (by omega) (by omega) (by omega) hds hrk9 (hbg k.toNat (by omega)).2.2 hbm.2.2.1 hl1 hl2
                    rw [show k.toNat + 1 = (k + 1).toNat by omega] at hds9
                    refine z_iinc (lv' := [(1, .int (iI (k + 1))), (2, .int (iI v_65)), (3, .int (iI v_53)), (0, .ref mo)]) F dX7_drafts_96 hl (k := 2) rfl (by decide) rfl (fun ls hl => ?_)
                    refine z_goto (tgt := 38) F dX7_drafts_99 (by decide) ?_
                    exact ih38 (k + 1) I_47 AI_62 H locs ls ⟨by omega, by omega⟩ hv hT wf (by omega) hds9 (by omega) (by omega) hH hS (lv_sub hl [0, 3] rfl)
                  · refine lv_iload_n F.1 F.2.1 dX7_drafts_94 rfl (lv_at hl 0 rfl) ?_
                    exact g_iret F hr hlk hH hS hz zv_65 ⟨rfl, rfl, rfl, rfl, hv, hT, wf, (by obtain ⟨h9, h8⟩ := hlt.resolve_left (fun h => by omega); rw [h9]; exact dr_tm (cLt_of (fun r h1 h2 => (hpl.2.2 r h1 h2).2)) (by omega) (by omega) (by omega) hds hrk9 hnbl h8)⟩ dX7_drafts_95
                · refine z_bipush F dX7_drafts_66 (by decide) ?_
                  refine z_goto (tgt := 78) F dX7_drafts_68 (by decide) ?_
                  refine lv_istore_n (lv' := [(2, .int (iI ((-2)))), (3, .int (iI v_53)), (1, .int (iI k)), (0, .ref mo)]) F.1 F.2.1 dX7_drafts_78 rfl hl (by decide) rfl (fun ls hl => ?_)
                  refine z_goto (tgt := 90) F dX7_drafts_79 (by decide) ?_
                  refine lv_iload_n F.1 F.2.1 dX7_drafts_90 rfl (lv_at hl 0 rfl) ?_
                  refine z_if_ge (tgt := 96) F dX7_drafts_91 (by decide) ⟨by decide, by decide⟩ (fun c_68 => ?_) (fun c_68 => ?_)
                  · exact absurd trivial (by omega)
                  · refine lv_iload_n F.1 F.2.1 dX7_drafts_94 rfl (lv_at hl 0 rfl) ?_
                    exact g_iret F hr hlk hH hS hz ⟨by decide, by decide⟩ ⟨rfl, rfl, rfl, rfl, hv, hT, wf, (absurd (low_b hbm.2.1 (hps k.toNat (by omega)) (by omega) (tIz_1 qlw (by omega))) hnbl)⟩ dX7_drafts_95
        exact cut_38_24 (((16 - 0) + 1 : Int).toNat) 0 I_9 AI_10 H locs ls ⟨by decide, by decide⟩ hv hT wf (by omega) hds9 (by omega) (by omega) hH hS (lv_sub hl [0, 1] rfl)
      · have h56 : AI_10 (gh 56 0) = AI_5 (gh 56 0) := fW _ (show gh 56 0 ≠ gh 75 0 from mNe hv hm (p := (6, 126720)) (q := (25, 9600)) (by decide) (by decide) (by decide)) (show gh 56 0 ≠ gh 77 0 from mNe hv hm (p := (6, 126720)) (q := (27, 4)) (by decide) (by decide) (by decide))
        have h57 : AI_10 (gh 57 0) = AI_5 (gh 57 0) := fW _ (show gh 57 0 ≠ gh 75 0 from mNe hv hm (p := (7, 176)) (q := (25, 9600)) (by decide) (by decide) (by decide)) (show gh 57 0 ≠ gh 77 0 from mNe hv hm (p := (7, 176)) (q := (27, 4)) (by decide) (by decide) (by decide))
        have hr9 := rfM_s (gh := gh) (AI := AI_10) (sd := 10) (a := k) (n := (rfM gh AI 0 k.toNat).1) (f := (rfM gh AI 0 k.toNat).2) (by rw [rfM_g h56 h57, hF1 _ (by omega)]) (by omega) (mSz1 hv hm (z := 16 * 10 + k) (by omega) (by omega)).1
        have hbf9 : rbE (AI_10 (gh 61 0)) (AI_10 (gh 62 0)) (AI_10 (gh 63 0)) bf nb := by rw [fW _ (show gh 61 0 ≠ gh 75 0 from mNe hv hm (p := (11, 41)) (q := (25, 9600)) (by decide) (by decide) (by decide)) (show gh 61 0 ≠ gh 77 0 from mNe hv hm (p := (11, 41)) (q := (27, 4)) (by decide) (by decide) (by decide)), fW _ (show gh 62 0 ≠ gh 75 0 from mNe hv hm (p := (12, 164)) (q := (25, 9600)) (by decide) (by decide) (by decide)) (show gh 62 0 ≠ gh 77 0 from mNe hv hm (p := (12, 164)) (q := (27, 4)) (by decide) (by decide) (by decide)), fW _ (show gh 63 0 ≠ gh 75 0 from mNe hv hm (p := (13, 41)) (q := (25, 9600)) (by decide) (by decide) (by decide)) (show gh 63 0 ≠ gh 77 0 from mNe hv hm (p := (13, 41)) (q := (27, 4)) (by decide) (by decide) (by decide)), n61, n62, n63]; exact hbm.1
        refine lv_aload_n F.1 F.2.1 dX7_drafts_17 rfl (lv_at hl 1 rfl) ?_
        refine z_bipush F dX7_drafts_18 (by decide) ?_
        refine lv_iload_n F.1 F.2.1 dX7_drafts_20 rfl (lv_at hl 0 rfl) ?_
        refine g_calli (g_runV (As := [.int (iI 10), .int (iI k)]) (rest := []) (ci := 7) F hl.1 hH hS hz (c_X7_changesOff l g gh T ((rfM gh AI 0 k.toNat).1) nb ((rfM gh AI 0 k.toNat).2) bf I_9 R J AI_10 AJ AR mo 10 k ⟨by decide, by decide⟩ zk hv hm hT (by omega) (by omega) hr9.1 hr9.2 (hbg k.toNat (by omega)).2.1 (hbg k.toNat (by omega)).1 (by omega) hbf9 hbm.2.1) (cwV 2 F.2.2.2.2.1 (good_up gT_X7_changesOf) rfl rfl rfl hdX7_changesOf ⟨Nat.le_of_ble_eq_true rfl, Nat.le_of_ble_eq_true rfl⟩) hm (by decide) rfl rfl rfl (Nat.le_of_ble_eq_true rfl) dX7_drafts_21 ⟨Nat.zero_le _, Nat.zero_le _⟩) hS (fun v_75 I_69 R_70 J_71 AI_72 AJ_73 AR_74 H locs zv_75 hp_76 hH hS => ?_)
        dsimp only at hp_76
        obtain ⟨rfl, rfl, rfl, rfl, hv, hT, wfq, q_77, fWq, qgx, qlw⟩ := hp_76
        have wf := wF_t wf wfq
        have u_78_2 : (I_69 mo 2).toInt = (I mo 2).toInt := by rw [wf 2 (by decide)]
        have u_78_5 : (I_69 mo 5).toInt = (I mo 5).toInt := by rw [wf 5 (by decide)]
        have u_78_14 : (I_69 mo 14).toInt = (I mo 14).toInt := by rw [wf 14 (by decide)]
        have u_78_16 : (I_69 mo 16).toInt = (I mo 16).toInt := by rw [wf 16 (by decide)]
        have u_78_24 : (I_69 mo 24).toInt = (I mo 24).toInt := by rw [wf 24 (by decide)]
        have fW : ∀ b, b ≠ gh 75 0 → b ≠ gh 77 0 → AI_72 b = AI_5 b := fun b h1 h2 => (fWq b h1 h2).trans (fW b h1 h2)
        refine z_if_eq (tgt := 30) F dX7_drafts_24 (by decide) zv_75 (fun c_79 => ?_) (fun c_79 => ?_)
        · have hnl9 : ∀ q : Nat, (q : Int) < k + 1 → ¬ lowX (rfM gh AI 0 q).2 (rfM gh AI 0 q).1 bf (q : Int) nb := fun q hq => by
            by_cases e9 : (q : Int) = k
            · rw [e9, show q = k.toNat by omega]; exact tIz_0 qlw (by omega)
            · exact hnl q (by omega)
          refine z_iinc (lv' := [(1, .int (iI (k + 1))), (0, .ref mo)]) F dX7_drafts_30 hl (k := 0) rfl (by decide) rfl (fun ls hl => ?_)
          refine z_goto (tgt := 9) F dX7_drafts_33 (by decide) ?_
          exact ih9 (k + 1) I_69 AI_72 H locs ls ⟨by omega, by omega⟩ hv hT wf (by omega) fW hnl9 (by omega) hH hS (lv_sub hl [0, 1] rfl)
        · refine z_bipush F dX7_drafts_27 (by decide) ?_
          exact g_iret F hr hlk hH hS hz ⟨by decide, by decide⟩ ⟨rfl, rfl, rfl, rfl, hv, hT, wf, (dr_low (sdK_k hs1 (rk_1 (sd := 10) (rr := 0) (AI := AI_5) (AI1 := AI_72) hv1 hm (fun b h1 h2 _ _ _ => fW b h1 h2) (fun j _ => by rw [fW _ (show gh 79 0 ≠ gh 75 0 from mNe hv hm (p := (29, 176)) (q := (25, 9600)) (by decide) (by decide) (by decide)) (show gh 79 0 ≠ gh 77 0 from mNe hv hm (p := (29, 176)) (q := (27, 4)) (by decide) (by decide) (by decide))])) (by decide)) (noZ_k hz1 (rk_1 (sd := 10) (rr := 0) (AI := AI_5) (AI1 := AI_72) hv1 hm (fun b h1 h2 _ _ _ => fW b h1 h2) (fun j _ => by rw [fW _ (show gh 79 0 ≠ gh 75 0 from mNe hv hm (p := (29, 176)) (q := (25, 9600)) (by decide) (by decide) (by decide)) (show gh 79 0 ≠ gh 77 0 from mNe hv hm (p := (29, 176)) (q := (27, 4)) (by decide) (by decide) (by decide))]))) (low_b hbm.2.1 (hps k.toNat (by omega)) (by omega) (tIz_1 qlw (by omega))))⟩ dX7_drafts_29
  exact cut_9_10 (((16 - 0) + 1 : Int).toNat) 0 I AI_5 H locs ls ⟨by decide, by decide⟩ hv hT wf (by omega) (fun _ _ _ => rfl) (fun j hj => absurd hj (by omega)) (by omega) hH hS (lv_sub hl [0, 1] rfl)
end
section
/-! the reference: what moved -/
/-- rows of five as rows of six -/
def w65 (f : Nat → Int32) : Nat → Int32 := fun q => if q % 6 = 5 then 0 else f (5 * (q / 6) + q % 6)
theorem w65_k {f : Nat → Int32} {i k : Nat} (hk : k < 5) : w65 f (6 * i + k) = f (5 * i + k) := by
  unfold w65; rw [if_neg (by omega)]; congr 1; omega
theorem w65_5 {f : Nat → Int32} {i : Nat} : w65 f (6 * i + 5) = 0 := by
  unfold w65; rw [if_pos (by omega)]
theorem w65_i {f f' : Nat → Int32} {n : Nat} {t : Tup} {c : Int32} (h1 : ∀ q : Nat, q < 5 * n → f' q = f q) (h2 : ∀ j : Nat, j < 4 → f' (5 * n + j) = tg t j) (h3 : f' (5 * n + 4) = c) : insW (w65 f) (w65 f') n n t c 0 := by
  refine ⟨fun i hi j hj => ?_, ⟨tg_x (fun j hj => ?_), ?_, w65_5⟩, fun i h1 h2 => absurd h2 (by omega)⟩
  · by_cases w : j = 5
    · rw [w, w65_5, w65_5]
    · rw [w65_k (by omega), w65_k (by omega)]; exact h1 _ (by omega)
  · rw [tg_up j hj, w65_k (by omega)]; exact h2 j hj
  · rw [w65_k (by omega)]; exact h3
theorem rk_tu {f : Nat → Int32} {z : Int} {t : Tup} (h : ∀ k, k < 4 → f (z.toNat + k) = tg t k) : ∀ k, k < 4 → rk f z k = tu t k := fun k hk => by
  show (f (z.toNat + k)).toInt = (tg t k).toInt
  rw [h k hk]
def mvS (x : Nat → Int32) (n : Nat) (y : Nat → Int32) (m : Nat) : Tup → Int32 := fun t => bS x n t + iI (-1) * bS y m t
section Mvm
variable {x y f f' : Nat → Int32} {n m k : Nat} {i j is t1 t2 by9 : Int} {xa yb : Int32} {t : Tup} {S : Tup → Int32}
/-- which head is less: of y (ahead) at i, of x (now) at j -/
def mvC (x : Nat → Int32) (n : Nat) (y : Nat → Int32) (m : Nat) (i j is : Int) : Prop := ((m : Int) ≤ i ∧ is = 1) ∨ (i < (m : Int) ∧ (n : Int) ≤ j ∧ is = -1) ∨ (i < (m : Int) ∧ j < (n : Int) ∧ is = tc (tup y i.toNat) (tup x j.toNat))
def tyP (p : Prop) (v : Int) (a : Int32) : Prop := (p ∧ iI v = a) ∨ (¬ p ∧ iI v = 0)
theorem tyP_y {p : Prop} {v : Int} {a : Int32} (h : tyP p v a) (hp : p) : iI v = a := by
  rcases h with h | h
  · exact h.2
  · exact absurd hp h.1
theorem tyP_n {p : Prop} {v : Int} {a : Int32} (h : tyP p v a) (hp : ¬ p) : iI v = 0 := by
  rcases h with h | h
  · exact absurd h.1 hp
  · exact h.2
def mvJ (is j : Int) : Int := if 0 ≤ is then j + 1 else j
def mvI (is i : Int) : Int := if is ≤ 0 then i + 1 else i
theorem mv_hd (hA : okB x n) (hB : okB y m) (h0 : 0 ≤ i ∧ 0 ≤ j) (hr : -1 ≤ is ∧ is ≤ 1) (hor : i < (m : Int) ∨ j < (n : Int)) (hc : mvC x n y m i j is) (h1 : tyP (0 ≤ is) t1 (x (6 * j.toNat + 4))) (h2 : tyP (is ≤ 0) t2 (y (6 * i.toNat + 4))) (e : iI by9 = iI (t1 - t2)) (hg : gaI x y f n m j.toNat i.toNat k (mvS x n y m)) :
    ∃ t, gaT x y n m j.toNat i.toNat (mvJ is j).toNat (mvI is i).toNat t ∧ mvS x n y m t = iI by9 ∧ (is ≤ 0 → t = tup y i.toNat) ∧ (0 < is → t = tup x j.toNat) := by
  have hS : ∀ t, mvS x n y m t = bS x n t + iI (-1) * bS y m t := fun _ => rfl
  have eb : iI by9 = iI t1 + iI (-1) * iI t2 := by
    rw [e, iI_mul, iI_add]; congr 1; omega
  by_cases c0 : is = 0
  · have q : j < (n : Int) ∧ i < (m : Int) ∧ tc (tup x j.toNat) (tup y i.toNat) = 0 := by
      rcases hc with h | h | h
      · omega
      · omega
      · exact ⟨h.2.1, h.1, by rw [tc_s, ← h.2.2, c0]; rfl⟩
    have r := ga_te hA hB hS hg rfl rfl h0.2 h0.1 q
    refine ⟨tup y i.toNat, ?_, ?_, fun _ => rfl, fun w => absurd w (by omega)⟩
    · unfold mvJ mvI
      rw [if_pos (by omega), if_pos (by omega), ← tc_0.mp q.2.2]; exact r.1
    · rw [← tc_0.mp q.2.2, r.2, eb, tyP_y h1 (by omega), tyP_y h2 (by omega)]
  · by_cases c1 : 0 < is
    · have q : j < (n : Int) ∧ (i < (m : Int) → tc (tup x j.toNat) (tup y i.toNat) = -1) := by
        rcases hc with h | h | h
        · exact ⟨by omega, fun w => absurd w (by omega)⟩
        · omega
        · exact ⟨h.2.1, fun _ => by rw [tc_s, ← h.2.2, show is = 1 by omega]⟩
      have r := ga_tl hA hB hS hg rfl rfl h0.2 h0.1 q
      refine ⟨tup x j.toNat, ?_, ?_, fun w => absurd w (by omega), fun _ => rfl⟩
      · unfold mvJ mvI
        rw [if_pos (by omega), if_neg (by omega)]; exact r.1
      · rw [r.2, eb, tyP_y h1 (by omega), tyP_n h2 (by omega), Int32.mul_zero, Int32.add_zero]
    · have q : i < (m : Int) ∧ (j < (n : Int) → tc (tup x j.toNat) (tup y i.toNat) = 1) := by
        rcases hc with h | h | h
        · omega
        · exact ⟨h.1, fun w => absurd w (by omega)⟩
        · exact ⟨h.1, fun _ => by rw [tc_s, ← h.2.2, show is = -1 by omega]; rfl⟩
      have r := ga_tg hA hB hS hg rfl rfl h0.2 h0.1 q
      refine ⟨tup y i.toNat, ?_, ?_, fun _ => rfl, fun w => absurd w c1⟩
      · unfold mvJ mvI
        rw [if_neg (by omega), if_pos (by omega)]; exact r.1
      · rw [r.2, eb, tyP_n h1 (by omega), tyP_y h2 (by omega), Int32.zero_add]
end Mvm
end
section
def rmX7_laysMovedf : Room := { frames := 1, cells := 0, slots := 0, locals := 24 }
set_option maxHeartbeats 4000000 in
set_option maxRecDepth 100000 in
/-- what moved -/
theorem c_X7_laysMovedf (l : Launch) (g : gG) (gh : gGh) (T : Nat → Int32) (na my : Nat) (bxa bxb : Nat → Int32) (I : gI) (R : gR) (J : gJ) (AI : gI) (AJ : gJ) (AR : gR) (mo : Nat) (rr : Int) (zrr : zr rr) (hv : mInv g gh R I AI) (hm : gO g mo 7) (hT : AI (gh 50 0) = T) (hr0 : 0 ≤ rr ∧ rr ≤ 15) (hna : tI (AI (gh 57 0)) (16 * 0 + rr) = (na : Int)) (hXa : ∀ q : Nat, q < 720 → AI (gh 56 0) ((11520 * 0 + 720 * rr).toNat + q) = bxa q) (hnb : tI (AI (gh 57 0)) (16 * 9 + rr) = (my : Int)) (hXb : ∀ q : Nat, q < 720 → AI (gh 56 0) ((11520 * 9 + 720 * rr).toNat + q) = bxb q) (hA : okB bxa na) (hB : okB bxb my) (h120 : na ≤ 120 ∧ my ≤ 120) : gMet l g yX7_laysMoved tsX7_laysMoved rmX7_laysMovedf [.ref mo, .int (iI rr)] (I, R, J, AI, AJ, AR) (gQi g (fun (z : Int) (w : gS) => I = w.1 ∧ R = w.2.1 ∧ J = w.2.2.1 ∧ AJ = w.2.2.2.2.1 ∧ AR = w.2.2.2.2.2 ∧ (mInv g gh R I (w.2.2.2.1)) ∧ ((w.2.2.2.1) (gh 50 0) = T) ∧ ((w.2.2.2.1) (gh 57 0) = AI (gh 57 0)) ∧ (0 ≤ z ∧ z ≤ 240) ∧ (∀ b, b ≠ gh 81 0 → (w.2.2.2.1) b = AI b) ∧ (isB (w65 ((w.2.2.2.1) (gh 81 0))) z.toNat (mvS bxa na bxb my) zM))) := by
  refine gStart (cc := cX7_laysMoved) (maxL := 11) (ret := (some (.int))) (by decide) rfl (Nat.le_of_ble_eq_true rfl) ?_
  intro p e s m below meth c ls F hr hlk hH hz hS hl
  have hl : lv_has ls 11 [(0, .ref mo), (1, .int (iI rr))] := hl
  have hS : va_S (gA g) s.heap s.heap [] := hS
  obtain ⟨H, hHe⟩ : ∃ H : Heap, H = s.heap := ⟨_, rfl⟩
  obtain ⟨locs, hlo⟩ : ∃ k : List Loc, k = [] := ⟨_, rfl⟩
  have hH : gH g I R J AI AJ AR H := by rw [hHe]; exact hH
  have hS : va_S (gA g) s.heap H locs := by rw [hHe, hlo]; exact hS
  suffices hw : W p l e rmX7_laysMovedf s m ([.ref mo, .int (iI rr)] : List Value).toArray below meth c H locs 0 0 (MQ below (gQi g (fun (z : Int) (w : gS) => I = w.1 ∧ R = w.2.1 ∧ J = w.2.2.1 ∧ AJ = w.2.2.2.2.1 ∧ AR = w.2.2.2.2.2 ∧ (mInv g gh R I (w.2.2.2.1)) ∧ ((w.2.2.2.1) (gh 50 0) = T) ∧ ((w.2.2.2.1) (gh 57 0) = AI (gh 57 0)) ∧ (0 ≤ z ∧ z ≤ 240) ∧ (∀ b, b ≠ gh 81 0 → (w.2.2.2.1) b = AI b) ∧ (isB (w65 ((w.2.2.2.1) (gh 81 0))) z.toNat (mvS bxa na bxb my) zM))) ([.ref mo, .int (iI rr)] : List Value).toArray s 0 0 (gA g)) (F0 m 0 ls []) by
    rw [hHe, hlo] at hw; exact hw
  clear hHe hlo
  have ha7 : AI (gh 57 0) = AI (gh 57 0) := rfl
  have s9 := mSz1 hv hm (z := 16 * 9 + rr) (by omega) (by omega)
  have s0 := mSz1 hv hm (z := 16 * 0 + rr) (by omega) (by omega)
  have iX7 : ∀ w ∈ u_ws RX7 TX7 32, w ∈ tsX7_laysMoved := fun w h => List.mem_cons_of_mem _ (inTB7 w h)
  have k24 : Cond.fieldLink RX7 24 (TX7 6).1 (TX7 6).2.1 (TX7 6).2.2.1 ∈ tsX7_laysMoved := List.mem_cons_of_mem _ fl_24
  have k57 : Cond.fieldLink RX7 57 (TX7 31).1 (TX7 31).2.1 (TX7 31).2.2.1 ∈ tsX7_laysMoved := List.mem_cons_of_mem _ fl_57
  refine z_iconst F dX7_laysMoved_0 ?_
  refine lv_istore_n (lv' := [(2, .int (iI 0)), (0, .ref mo), (1, .int (iI rr))]) F.1 F.2.1 dX7_laysMoved_1 rfl hl (by decide) rfl (fun ls hl => ?_)
  refine z_iconst F dX7_laysMoved_2 ?_
  refine lv_istore_n (lv' := [(3, .int (iI 0)), (2, .int (iI 0)), (0, .ref mo), (1, .int (iI rr))]) F.1 F.2.1 dX7_laysMoved_3 rfl hl (by decide) rfl (fun ls hl => ?_)
  refine z_iconst F dX7_laysMoved_4 ?_
  refine lv_istore (lv' := [(4, .int (iI 0)), (3, .int (iI 0)), (2, .int (iI 0)), (0, .ref mo), (1, .int (iI rr))]) F.1 F.2.1 dX7_laysMoved_5 hl (by decide) rfl (fun ls hl => ?_)
  have cut_7_1 : ∀ (NN : Nat) (n i jj : Int) (AI_1 : gI) (H : Heap) (locs : List Loc) (ls : Array Slot), zr n → zr i → zr jj → (mInv g gh R I AI_1) → (AI_1 (gh 50 0) = T) → (AI_1 (gh 57 0) = AI (gh 57 0)) → (0 ≤ i ∧ i ≤ tI (AI (gh 57 0)) (16 * 9 + rr) ∧ 0 ≤ jj ∧ jj ≤ tI (AI (gh 57 0)) (16 * 0 + rr) ∧ 0 ≤ n ∧ n ≤ i + jj) → (∀ b, b ≠ gh 81 0 → AI_1 b = AI b) → (gaI bxa bxb (w65 (AI_1 (gh 81 0))) na my jj.toNat i.toNat n.toNat (mvS bxa na bxb my)) → (i ≤ (my : Int) ∧ jj ≤ (na : Int)) → (240 - i - jj) < ((NN : Nat) : Int) → gH g I R J AI_1 AJ AR H → va_S (gA g) s.heap H locs → lv_has ls 11 [(4, .int (iI jj)), (3, .int (iI i)), (2, .int (iI n)), (0, .ref mo), (1, .int (iI rr))] → W p l e rmX7_laysMovedf s m ([.ref mo, .int (iI rr)] : List Value).toArray below meth c H locs 0 0 (MQ below (gQi g (fun (z : Int) (w : gS) => I = w.1 ∧ R = w.2.1 ∧ J = w.2.2.1 ∧ AJ = w.2.2.2.2.1 ∧ AR = w.2.2.2.2.2 ∧ (mInv g gh R I (w.2.2.2.1)) ∧ ((w.2.2.2.1) (gh 50 0) = T) ∧ ((w.2.2.2.1) (gh 57 0) = AI (gh 57 0)) ∧ (0 ≤ z ∧ z ≤ 240) ∧ (∀ b, b ≠ gh 81 0 → (w.2.2.2.1) b = AI b) ∧ (isB (w65 ((w.2.2.2.1) (gh 81 0))) z.toNat (mvS bxa na bxb my) zM))) ([.ref mo, .int (iI rr)] : List Value).toArray s 0 0 (gA g)) (F0 m 7 ls []) := by
    intro NN7
    induction NN7 with
    | zero =>
      intro n i jj AI_1 H locs ls zn zi zjj hv hT ha7 hi fM hga hij hm7 hH hS hl
      exact absurd hm7 (by omega)
    | succ NN7 ih7 =>
      intro n i jj AI_1 H locs ls zn zi zjj hv hT ha7 hi fM hga hij hm7 hH hS hl
      have h56 : AI_1 (gh 56 0) = AI (gh 56 0) := fM _ (show gh 56 0 ≠ gh 81 0 from mNe hv hm (p := (6, 126720)) (q := (31, 1200)) (by decide) (by decide) (by decide))
      have cut_29_2 : ∀ (H : Heap) (locs : List Loc) (ls : Array Slot), (i < tI (AI (gh 57 0)) (16 * 9 + rr) ∨ jj < tI (AI (gh 57 0)) (16 * 0 + rr)) → gH g I R J AI_1 AJ AR H → va_S (gA g) s.heap H locs → lv_has ls 11 [(4, .int (iI jj)), (3, .int (iI i)), (2, .int (iI n)), (0, .ref mo), (1, .int (iI rr))] → W p l e rmX7_laysMovedf s m ([.ref mo, .int (iI rr)] : List Value).toArray below meth c H locs 0 0 (MQ below (gQi g (fun (z : Int) (w : gS) => I = w.1 ∧ R = w.2.1 ∧ J = w.2.2.1 ∧ AJ = w.2.2.2.2.1 ∧ AR = w.2.2.2.2.2 ∧ (mInv g gh R I (w.2.2.2.1)) ∧ ((w.2.2.2.1) (gh 50 0) = T) ∧ ((w.2.2.2.1) (gh 57 0) = AI (gh 57 0)) ∧ (0 ≤ z ∧ z ≤ 240) ∧ (∀ b, b ≠ gh 81 0 → (w.2.2.2.1) b = AI b) ∧ (isB (w65 ((w.2.2.2.1) (gh 81 0))) z.toNat (mvS bxa na bxb my) zM))) ([.ref mo, .int (iI rr)] : List Value).toArray s 0 0 (gA g)) (F0 m 29 ls []) := by
        intro H locs ls hor hH hS hl
        refine z_bipush F dX7_laysMoved_29 (by decide) ?_
        refine lv_iload_n F.1 F.2.1 dX7_laysMoved_31 rfl (lv_at hl 4 rfl) ?_
        refine lv_iload_n F.1 F.2.1 dX7_laysMoved_32 rfl (lv_at hl 1 rfl) ?_
        refine g_calli (g_runS (As := [.int (iI 9), .int (iI rr), .int (iI i)]) (rest := []) F hl.1 hH hS hz (c_X7_spot l g  I R J AI_1 AJ AR 9 rr i ⟨by decide, by decide⟩ zrr zi (by omega) (by omega) (by omega)) (va_cwS 3 F.2.2.2.2.1 (good_up gT_X7_spot) rfl rfl rfl hdX7_spot.2 ⟨Nat.le_of_ble_eq_true rfl, Nat.le_of_ble_eq_true rfl⟩) rfl rfl (Nat.le_of_ble_eq_true rfl) dX7_laysMoved_33 ⟨Nat.zero_le _, Nat.zero_le _⟩) hS (fun v_10 I_4 R_5 J_6 AI_7 AJ_8 AR_9 H locs zv_10 hp_11 hH hS => ?_)
        dsimp only at hp_11
        obtain ⟨rfl, rfl, rfl, rfl, rfl, rfl, q_12⟩ := hp_11
        refine lv_istore (lv' := [(5, .int (iI v_10)), (4, .int (iI jj)), (3, .int (iI i)), (2, .int (iI n)), (0, .ref mo), (1, .int (iI rr))]) F.1 F.2.1 dX7_laysMoved_36 hl (by decide) rfl (fun ls hl => ?_)
        refine z_iconst F dX7_laysMoved_38 ?_
        refine lv_iload_n F.1 F.2.1 dX7_laysMoved_39 rfl (lv_at hl 5 rfl) ?_
        refine lv_iload F.1 F.2.1 dX7_laysMoved_40 (lv_at hl 1 rfl) ?_
        refine g_calli (g_runS (As := [.int (iI 0), .int (iI rr), .int (iI jj)]) (rest := []) F hl.1 hH hS hz (c_X7_spot l g  I R J AI_1 AJ AR 0 rr jj ⟨by decide, by decide⟩ zrr zjj (by omega) (by omega) (by omega)) (va_cwS 3 F.2.2.2.2.1 (good_up gT_X7_spot) rfl rfl rfl hdX7_spot.2 ⟨Nat.le_of_ble_eq_true rfl, Nat.le_of_ble_eq_true rfl⟩) rfl rfl (Nat.le_of_ble_eq_true rfl) dX7_laysMoved_42 ⟨Nat.zero_le _, Nat.zero_le _⟩) hS (fun v_19 I_13 R_14 J_15 AI_16 AJ_17 AR_18 H locs zv_19 hp_20 hH hS => ?_)
        dsimp only at hp_20
        obtain ⟨rfl, rfl, rfl, rfl, rfl, rfl, q_21⟩ := hp_20
        refine lv_istore (lv' := [(6, .int (iI v_19)), (5, .int (iI v_10)), (4, .int (iI jj)), (3, .int (iI i)), (2, .int (iI n)), (0, .ref mo), (1, .int (iI rr))]) F.1 F.2.1 dX7_laysMoved_45 hl (by decide) rfl (fun ls hl => ?_)
        have cut_92_21 : ∀ (is : Int) (H : Heap) (locs : List Loc) (ls : Array Slot), zr is → (-1 ≤ is ∧ is ≤ 1 ∧ (is ≤ 0 → i < tI (AI (gh 57 0)) (16 * 9 + rr)) ∧ (0 ≤ is → jj < tI (AI (gh 57 0)) (16 * 0 + rr))) → (mvC bxa na bxb my i jj is) → gH g I R J AI_1 AJ AR H → va_S (gA g) s.heap H locs → lv_has ls 11 [(6, .int (iI v_19)), (5, .int (iI v_10)), (4, .int (iI jj)), (3, .int (iI i)), (2, .int (iI n)), (0, .ref mo), (1, .int (iI rr))] → W p l e rmX7_laysMovedf s m ([.ref mo, .int (iI rr)] : List Value).toArray below meth c H locs 0 0 (MQ below (gQi g (fun (z : Int) (w : gS) => I = w.1 ∧ R = w.2.1 ∧ J = w.2.2.1 ∧ AJ = w.2.2.2.2.1 ∧ AR = w.2.2.2.2.2 ∧ (mInv g gh R I (w.2.2.2.1)) ∧ ((w.2.2.2.1) (gh 50 0) = T) ∧ ((w.2.2.2.1) (gh 57 0) = AI (gh 57 0)) ∧ (0 ≤ z ∧ z ≤ 240) ∧ (∀ b, b ≠ gh 81 0 → (w.2.2.2.1) b = AI b) ∧ (isB (w65 ((w.2.2.2.1) (gh 81 0))) z.toNat (mvS bxa na bxb my) zM))) ([.ref mo, .int (iI rr)] : List Value).toArray s 0 0 (gA g)) (F0 m 92 ls [.int (iI is)]) := by
          intro is H locs ls zis his hcm hH hS hl
          refine lv_istore (lv' := [(7, .int (iI is)), (6, .int (iI v_19)), (5, .int (iI v_10)), (4, .int (iI jj)), (3, .int (iI i)), (2, .int (iI n)), (0, .ref mo), (1, .int (iI rr))]) F.1 F.2.1 dX7_laysMoved_92 hl (by decide) rfl (fun ls hl => ?_)
          have cut_112_22 : ∀ (t1 : Int) (H : Heap) (locs : List Loc) (ls : Array Slot), zr t1 → (tyP (0 ≤ is) t1 (bxa (6 * jj.toNat + 4))) → gH g I R J AI_1 AJ AR H → va_S (gA g) s.heap H locs → lv_has ls 11 [(7, .int (iI is)), (6, .int (iI v_19)), (5, .int (iI v_10)), (4, .int (iI jj)), (3, .int (iI i)), (2, .int (iI n)), (0, .ref mo), (1, .int (iI rr))] → W p l e rmX7_laysMovedf s m ([.ref mo, .int (iI rr)] : List Value).toArray below meth c H locs 0 0 (MQ below (gQi g (fun (z : Int) (w : gS) => I = w.1 ∧ R = w.2.1 ∧ J = w.2.2.1 ∧ AJ = w.2.2.2.2.1 ∧ AR = w.2.2.2.2.2 ∧ (mInv g gh R I (w.2.2.2.1)) ∧ ((w.2.2.2.1) (gh 50 0) = T) ∧ ((w.2.2.2.1) (gh 57 0) = AI (gh 57 0)) ∧ (0 ≤ z ∧ z ≤ 240) ∧ (∀ b, b ≠ gh 81 0 → (w.2.2.2.1) b = AI b) ∧ (isB (w65 ((w.2.2.2.1) (gh 81 0))) z.toNat (mvS bxa na bxb my) zM))) ([.ref mo, .int (iI rr)] : List Value).toArray s 0 0 (gA g)) (F0 m 112 ls [.int (iI t1)]) := by
            intro t1 H locs ls zt1 ht1 hH hS hl
            have cut_130_23 : ∀ (t2 : Int) (H : Heap) (locs : List Loc) (ls : Array Slot), zr t2 → (tyP (is ≤ 0) t2 (bxb (6 * i.toNat + 4))) → gH g I R J AI_1 AJ AR H → va_S (gA g) s.heap H locs → lv_has ls 11 [(7, .int (iI is)), (6, .int (iI v_19)), (5, .int (iI v_10)), (4, .int (iI jj)), (3, .int (iI i)), (2, .int (iI n)), (0, .ref mo), (1, .int (iI rr))] → W p l e rmX7_laysMovedf s m ([.ref mo, .int (iI rr)] : List Value).toArray below meth c H locs 0 0 (MQ below (gQi g (fun (z : Int) (w : gS) => I = w.1 ∧ R = w.2.1 ∧ J = w.2.2.1 ∧ AJ = w.2.2.2.2.1 ∧ AR = w.2.2.2.2.2 ∧ (mInv g gh R I (w.2.2.2.1)) ∧ ((w.2.2.2.1) (gh 50 0) = T) ∧ ((w.2.2.2.1) (gh 57 0) = AI (gh 57 0)) ∧ (0 ≤ z ∧ z ≤ 240) ∧ (∀ b, b ≠ gh 81 0 → (w.2.2.2.1) b = AI b) ∧ (isB (w65 ((w.2.2.2.1) (gh 81 0))) z.toNat (mvS bxa na bxb my) zM))) ([.ref mo, .int (iI rr)] : List Value).toArray s 0 0 (gA g)) (F0 m 130 ls [.int (iI t2), .int (iI t1)]) := by
              intro t2 H locs ls zt2 ht2 hH hS hl
              refine z_isub F dX7_laysMoved_130 ?_
              refine z_norm (fun v_25 zv_25 ev_25 => ?_)
              obtain ⟨t9, hT9, hS9, ht9a, ht9b⟩ := mv_hd hA hB (by omega) (by omega) (by omega) hcm ht1 ht2 ev_25 hga
              refine lv_istore (lv' := [(8, .int (iI v_25)), (7, .int (iI is)), (6, .int (iI v_19)), (5, .int (iI v_10)), (4, .int (iI jj)), (3, .int (iI i)), (2, .int (iI n)), (0, .ref mo), (1, .int (iI rr))]) F.1 F.2.1 dX7_laysMoved_131 hl (by decide) rfl (fun ls hl => ?_)
              have cut_145_25 : ∀ (fr1 : Int) (H : Heap) (locs : List Loc) (ls : Array Slot), zr fr1 → (0 ≤ fr1 ∧ fr1 + 6 ≤ 126720) → (∀ k : Nat, k < 4 → AI (gh 56 0) (fr1.toNat + k) = tg t9 k) → gH g I R J AI_1 AJ AR H → va_S (gA g) s.heap H locs → lv_has ls 11 [(8, .int (iI v_25)), (7, .int (iI is)), (6, .int (iI v_19)), (5, .int (iI v_10)), (4, .int (iI jj)), (3, .int (iI i)), (2, .int (iI n)), (0, .ref mo), (1, .int (iI rr))] → W p l e rmX7_laysMovedf s m ([.ref mo, .int (iI rr)] : List Value).toArray below meth c H locs 0 0 (MQ below (gQi g (fun (z : Int) (w : gS) => I = w.1 ∧ R = w.2.1 ∧ J = w.2.2.1 ∧ AJ = w.2.2.2.2.1 ∧ AR = w.2.2.2.2.2 ∧ (mInv g gh R I (w.2.2.2.1)) ∧ ((w.2.2.2.1) (gh 50 0) = T) ∧ ((w.2.2.2.1) (gh 57 0) = AI (gh 57 0)) ∧ (0 ≤ z ∧ z ≤ 240) ∧ (∀ b, b ≠ gh 81 0 → (w.2.2.2.1) b = AI b) ∧ (isB (w65 ((w.2.2.2.1) (gh 81 0))) z.toNat (mvS bxa na bxb my) zM))) ([.ref mo, .int (iI rr)] : List Value).toArray s 0 0 (gA g)) (F0 m 145 ls [.int (iI fr1)]) := by
                intro fr1 H locs ls zfr1 hfr hft hH hS hl
                refine lv_istore (lv' := [(9, .int (iI fr1)), (8, .int (iI v_25)), (7, .int (iI is)), (6, .int (iI v_19)), (5, .int (iI v_10)), (4, .int (iI jj)), (3, .int (iI i)), (2, .int (iI n)), (0, .ref mo), (1, .int (iI rr))]) F.1 F.2.1 dX7_laysMoved_145 hl (by decide) rfl (fun ls hl => ?_)
                have cut_203_27 : ∀ (n3 : Int) (AI_27 : gI) (H : Heap) (locs : List Loc) (ls : Array Slot), zr n3 → (mInv g gh R I AI_27) → (AI_27 (gh 50 0) = T) → (AI_27 (gh 57 0) = AI (gh 57 0)) → (0 ≤ n3 ∧ n3 ≤ i + jj + 1) → (∀ b, b ≠ gh 81 0 → AI_27 b = AI b) → (gaI bxa bxb (w65 (AI_27 (gh 81 0))) na my (mvJ is jj).toNat (mvI is i).toNat n3.toNat (mvS bxa na bxb my)) → gH g I R J AI_27 AJ AR H → va_S (gA g) s.heap H locs → lv_has ls 11 [(9, .int (iI fr1)), (8, .int (iI v_25)), (7, .int (iI is)), (6, .int (iI v_19)), (5, .int (iI v_10)), (4, .int (iI jj)), (3, .int (iI i)), (2, .int (iI n3)), (0, .ref mo), (1, .int (iI rr))] → W p l e rmX7_laysMovedf s m ([.ref mo, .int (iI rr)] : List Value).toArray below meth c H locs 0 0 (MQ below (gQi g (fun (z : Int) (w : gS) => I = w.1 ∧ R = w.2.1 ∧ J = w.2.2.1 ∧ AJ = w.2.2.2.2.1 ∧ AR = w.2.2.2.2.2 ∧ (mInv g gh R I (w.2.2.2.1)) ∧ ((w.2.2.2.1) (gh 50 0) = T) ∧ ((w.2.2.2.1) (gh 57 0) = AI (gh 57 0)) ∧ (0 ≤ z ∧ z ≤ 240) ∧ (∀ b, b ≠ gh 81 0 → (w.2.2.2.1) b = AI b) ∧ (isB (w65 ((w.2.2.2.1) (gh 81 0))) z.toNat (mvS bxa na bxb my) zM))) ([.ref mo, .int (iI rr)] : List Value).toArray s 0 0 (gA g)) (F0 m 203 ls []) := by
                  intro n3 AI_27 H locs ls zn3 hv hT ha7 hn3 fM hga3 hH hS hl
                  have h56 : AI_27 (gh 56 0) = AI (gh 56 0) := fM _ (show gh 56 0 ≠ gh 81 0 from mNe hv hm (p := (6, 126720)) (q := (31, 1200)) (by decide) (by decide) (by decide))
                  refine lv_iload F.1 F.2.1 dX7_laysMoved_203 (lv_at hl 2 rfl) ?_
                  refine z_if_gt (tgt := 211) F dX7_laysMoved_205 (by decide) zis (fun c_29 => ?_) (fun c_29 => ?_)
                  · refine lv_iload F.1 F.2.1 dX7_laysMoved_211 (lv_at hl 2 rfl) ?_
                    refine z_if_lt (tgt := 219) F dX7_laysMoved_213 (by decide) zis (fun c_30 => ?_) (fun c_30 => ?_)
                    · exact absurd trivial (by omega)
                    · refine z_iinc (lv' := [(4, .int (iI (jj + 1))), (9, .int (iI fr1)), (8, .int (iI v_25)), (7, .int (iI is)), (6, .int (iI v_19)), (5, .int (iI v_10)), (3, .int (iI i)), (2, .int (iI n3)), (0, .ref mo), (1, .int (iI rr))]) F dX7_laysMoved_216 hl (k := 5) rfl (by decide) rfl (fun ls hl => ?_)
                      refine z_goto (tgt := 7) F dX7_laysMoved_219 (by decide) ?_
                      exact ih7 n3 i (jj + 1) AI_27 H locs ls zn3 zi ⟨by omega, by omega⟩ hv hT ha7 (by omega) fM (by rw [show mvJ is jj = jj + 1 from if_pos (by omega), show mvI is i = i from if_neg (by omega)] at hga3; exact hga3) (by omega) (by omega) hH hS (lv_sub hl [0, 6, 7, 8, 9] rfl)
                  · refine z_iinc (lv' := [(3, .int (iI (i + 1))), (9, .int (iI fr1)), (8, .int (iI v_25)), (7, .int (iI is)), (6, .int (iI v_19)), (5, .int (iI v_10)), (4, .int (iI jj)), (2, .int (iI n3)), (0, .ref mo), (1, .int (iI rr))]) F dX7_laysMoved_208 hl (k := 6) rfl (by decide) rfl (fun ls hl => ?_)
                    refine lv_iload F.1 F.2.1 dX7_laysMoved_211 (lv_at hl 3 rfl) ?_
                    refine z_if_lt (tgt := 219) F dX7_laysMoved_213 (by decide) zis (fun c_31 => ?_) (fun c_31 => ?_)
                    · refine z_goto (tgt := 7) F dX7_laysMoved_219 (by decide) ?_
                      exact ih7 n3 (i + 1) jj AI_27 H locs ls zn3 ⟨by omega, by omega⟩ zjj hv hT ha7 (by omega) fM (by rw [show mvJ is jj = jj from if_neg (by omega), show mvI is i = i + 1 from if_pos (by omega)] at hga3; exact hga3) (by omega) (by omega) hH hS (lv_sub hl [6, 0, 7, 8, 9] rfl)
                    · refine z_iinc (lv' := [(4, .int (iI (jj + 1))), (3, .int (iI (i + 1))), (9, .int (iI fr1)), (8, .int (iI v_25)), (7, .int (iI is)), (6, .int (iI v_19)), (5, .int (iI v_10)), (2, .int (iI n3)), (0, .ref mo), (1, .int (iI rr))]) F dX7_laysMoved_216 hl (k := 6) rfl (by decide) rfl (fun ls hl => ?_)
                      refine z_goto (tgt := 7) F dX7_laysMoved_219 (by decide) ?_
                      exact ih7 n3 (i + 1) (jj + 1) AI_27 H locs ls zn3 ⟨by omega, by omega⟩ ⟨by omega, by omega⟩ hv hT ha7 (by omega) fM (by rw [show mvJ is jj = jj + 1 from if_pos (by omega), show mvI is i = i + 1 from if_pos (by omega)] at hga3; exact hga3) (by omega) (by omega) hH hS (lv_sub hl [0, 1, 7, 8, 9] rfl)
                refine lv_iload F.1 F.2.1 dX7_laysMoved_147 (lv_at hl 1 rfl) ?_
                refine z_if_eq (tgt := 203) F dX7_laysMoved_149 (by decide) zv_25 (fun c_32 => ?_) (fun c_32 => ?_)
                · exact cut_203_27 n AI_1 H locs ls zn hv hT ha7 (by omega) fM (ga_skip hA hB hga hT9 (by rw [hS9, show v_25 = 0 by omega]; rfl)) hH hS (lv_sub hl [0, 1, 2, 3, 4, 5, 6, 7, 8, 9] rfl)
                · obtain ⟨M0, eM0⟩ : ∃ f, f = AI_1 (gh 81 0) := ⟨_, rfl⟩
                  rw [← eM0] at hga
                  refine z_iconst F dX7_laysMoved_152 ?_
                  refine lv_istore (lv' := [(10, .int (iI 0)), (9, .int (iI fr1)), (8, .int (iI v_25)), (7, .int (iI is)), (6, .int (iI v_19)), (5, .int (iI v_10)), (4, .int (iI jj)), (3, .int (iI i)), (2, .int (iI n)), (0, .ref mo), (1, .int (iI rr))]) F.1 F.2.1 dX7_laysMoved_153 hl (by decide) rfl (fun ls hl => ?_)
                  have cut_155_33 : ∀ (NN : Nat) (k : Int) (AI_33 : gI) (H : Heap) (locs : List Loc) (ls : Array Slot), zr k → (mInv g gh R I AI_33) → (AI_33 (gh 50 0) = T) → (AI_33 (gh 57 0) = AI (gh 57 0)) → (0 ≤ k ∧ k ≤ 4) → (∀ b, b ≠ gh 81 0 → AI_33 b = AI b) → ((∀ q : Nat, (q : Int) < 5 * n → AI_33 (gh 81 0) q = M0 q) ∧ ∀ j : Nat, (j : Int) < k → AI_33 (gh 81 0) (5 * n.toNat + j) = tg t9 j) → (4 - k) < ((NN : Nat) : Int) → gH g I R J AI_33 AJ AR H → va_S (gA g) s.heap H locs → lv_has ls 11 [(10, .int (iI k)), (9, .int (iI fr1)), (8, .int (iI v_25)), (7, .int (iI is)), (6, .int (iI v_19)), (5, .int (iI v_10)), (4, .int (iI jj)), (3, .int (iI i)), (2, .int (iI n)), (0, .ref mo), (1, .int (iI rr))] → W p l e rmX7_laysMovedf s m ([.ref mo, .int (iI rr)] : List Value).toArray below meth c H locs 0 0 (MQ below (gQi g (fun (z : Int) (w : gS) => I = w.1 ∧ R = w.2.1 ∧ J = w.2.2.1 ∧ AJ = w.2.2.2.2.1 ∧ AR = w.2.2.2.2.2 ∧ (mInv g gh R I (w.2.2.2.1)) ∧ ((w.2.2.2.1) (gh 50 0) = T) ∧ ((w.2.2.2.1) (gh 57 0) = AI (gh 57 0)) ∧ (0 ≤ z ∧ z ≤ 240) ∧ (∀ b, b ≠ gh 81 0 → (w.2.2.2.1) b = AI b) ∧ (isB (w65 ((w.2.2.2.1) (gh 81 0))) z.toNat (mvS bxa na bxb my) zM))) ([.ref mo, .int (iI rr)] : List Value).toArray s 0 0 (gA g)) (F0 m 155 ls []) := by
                    intro NN155
                    induction NN155 with
                    | zero =>
                      intro k AI_33 H locs ls zk hv hT ha7 hk fM hmr hm155 hH hS hl
                      exact absurd hm155 (by omega)
                    | succ NN155 ih155 =>
                      intro k AI_33 H locs ls zk hv hT ha7 hk fM hmr hm155 hH hS hl
                      have h56 : AI_33 (gh 56 0) = AI (gh 56 0) := fM _ (show gh 56 0 ≠ gh 81 0 from mNe hv hm (p := (6, 126720)) (q := (31, 1200)) (by decide) (by decide) (by decide))
                      refine lv_iload F.1 F.2.1 dX7_laysMoved_155 (lv_at hl 0 rfl) ?_
                      refine z_iconst F dX7_laysMoved_157 ?_
                      refine z_icmp_ge (tgt := 188) F dX7_laysMoved_158 (by decide) zk ⟨by decide, by decide⟩ (fun c_35 => ?_) (fun c_35 => ?_)
                      · refine lv_aload_n F.1 F.2.1 dX7_laysMoved_188 rfl (lv_at hl 9 rfl) ?_
                        obtain ⟨r_36a, r_36b⟩ : R mo 31 = some (gh 81 0) ∧ gAr g (gh 81 0) 9 1200 := mR hv hm (q := (31, 1200)) (by decide)
                        refine g_getR (ci := 7) (k := 31) F hH rfl (by decide) iX7 hm (by decide) rfl (b := gh 81 0) r_36a k57 dX7_laysMoved_189 ?_
                        refine z_iconst F dX7_laysMoved_192 ?_
                        refine lv_iload_n F.1 F.2.1 dX7_laysMoved_193 rfl (lv_at hl 8 rfl) ?_
                        refine z_imul F dX7_laysMoved_194 ?_
                        refine z_iconst F dX7_laysMoved_195 ?_
                        refine z_iadd F dX7_laysMoved_196 ?_
                        refine lv_iload F.1 F.2.1 dX7_laysMoved_197 (lv_at hl 2 rfl) ?_
                        have hx199 : 0 ≤ ((5 * n) + 4) ∧ ((5 * n) + 4) < ((1200 : Nat) : Int) ∧ ((5 * n) + 4) ≤ 2147483647 := ⟨by omega, by omega, by omega⟩
                        refine g_iast F hH hS r_36b hx199.1 hx199.2.1 hx199.2.2 dX7_laysMoved_199 (fun H locs hH hS => ?_)
                        obtain ⟨AI_37, eAI_37⟩ : ∃ qQ, qQ = gup2 AI_33 (gh 81 0) (((5 * n) + 4)).toNat (iI (v_25)) := ⟨_, rfl⟩
                        rw [← eAI_37] at hH
                        have kAI_37 : ∀ b, b ≠ (gh 81 0) → AI_37 b = AI_33 b := fun b hb => by rw [eAI_37]; exact funext fun j => gup2_a _ _ hb
                        have hvO := hv
                        have t_38 : AI_37 (gh 50 0) = AI_33 (gh 50 0) := mK hv hm (p := (0, 640)) (q := (31, 1200)) (by decide) (by decide) (by decide) kAI_37
                        have t_38_7 : AI_37 (gh 57 0) = AI_33 (gh 57 0) := mK hv hm (p := (7, 176)) (q := (31, 1200)) (by decide) (by decide) (by decide) kAI_37
                        have ha7 : AI_37 (gh 57 0) = AI (gh 57 0) := t_38_7.trans ha7
                        have hv : mInv g gh R I AI_37 := mInv_a hv hm (q := (31, 1200)) (by decide) (by decide) kAI_37
                        have hT : AI_37 (gh 50 0) = T := t_38.trans hT
                        have hins := w65_i (f := M0) (f' := AI_37 (gh 81 0)) (n := n.toNat) (t := t9) (c := iI v_25) (fun q hq => by rw [eAI_37, gup2_k _ _ (by omega)]; exact hmr.1 q (by omega)) (fun j hj => by rw [eAI_37, gup2_k _ _ (by omega)]; exact hmr.2 j (by omega)) (by rw [eAI_37, gup2_e _ _ (by omega)])
                        have hga3 := ga_app hA hB hga hT9 (by rw [hS9]; exact fun h9 => absurd ((iI_eq zv_25 zr_0).mp h9) (by omega)) (by rw [hS9]; exact hins)
                        rw [show n.toNat + 1 = (n + 1).toNat by omega] at hga3
                        have fM : ∀ b, b ≠ gh 81 0 → AI_37 b = AI b := fun b h1 => (kAI_37 b h1).trans (fM b h1)
                        refine z_iinc (lv' := [(2, .int (iI (n + 1))), (10, .int (iI k)), (9, .int (iI fr1)), (8, .int (iI v_25)), (7, .int (iI is)), (6, .int (iI v_19)), (5, .int (iI v_10)), (4, .int (iI jj)), (3, .int (iI i)), (0, .ref mo), (1, .int (iI rr))]) F dX7_laysMoved_200 hl (k := 8) rfl (by decide) rfl (fun ls hl => ?_)
                        exact cut_203_27 (n + 1) AI_37 H locs ls ⟨by omega, by omega⟩ hv hT ha7 (by omega) fM hga3 hH hS (lv_sub hl [2, 3, 4, 5, 6, 7, 8, 0, 9, 10] rfl)
                      · refine lv_aload_n F.1 F.2.1 dX7_laysMoved_161 rfl (lv_at hl 9 rfl) ?_
                        obtain ⟨r_39a, r_39b⟩ : R mo 31 = some (gh 81 0) ∧ gAr g (gh 81 0) 9 1200 := mR hv hm (q := (31, 1200)) (by decide)
                        refine g_getR (ci := 7) (k := 31) F hH rfl (by decide) iX7 hm (by decide) rfl (b := gh 81 0) r_39a k57 dX7_laysMoved_162 ?_
                        refine z_iconst F dX7_laysMoved_165 ?_
                        refine lv_iload_n F.1 F.2.1 dX7_laysMoved_166 rfl (lv_at hl 8 rfl) ?_
                        refine z_imul F dX7_laysMoved_167 ?_
                        refine lv_iload F.1 F.2.1 dX7_laysMoved_168 (lv_at hl 0 rfl) ?_
                        refine z_iadd F dX7_laysMoved_170 ?_
                        refine lv_aload_n F.1 F.2.1 dX7_laysMoved_171 rfl (lv_at hl 9 rfl) ?_
                        obtain ⟨r_40a, r_40b⟩ : R mo 6 = some (gh 56 0) ∧ gAr g (gh 56 0) 9 126720 := mR hv hm (q := (6, 126720)) (by decide)
                        refine g_getR (ci := 7) (k := 6) F hH rfl (by decide) iX7 hm (by decide) rfl (b := gh 56 0) r_40a k24 dX7_laysMoved_172 ?_
                        refine lv_iload F.1 F.2.1 dX7_laysMoved_175 (lv_at hl 1 rfl) ?_
                        refine lv_iload F.1 F.2.1 dX7_laysMoved_177 (lv_at hl 0 rfl) ?_
                        refine z_iadd F dX7_laysMoved_179 ?_
                        have hx180 : 0 ≤ (fr1 + k) ∧ (fr1 + k) < ((126720 : Nat) : Int) ∧ (fr1 + k) ≤ 2147483647 := ⟨by omega, by omega, by omega⟩
                        refine g_iald F hH r_40b hx180.1 hx180.2.1 hx180.2.2 dX7_laysMoved_180 ?_
                        refine z_name (fun v_41 ev_41 => ?_)
                        have zv_41 : zr v_41 := by rw [ev_41]; exact zr_t _
                        have hx181 : 0 ≤ ((5 * n) + k) ∧ ((5 * n) + k) < ((1200 : Nat) : Int) ∧ ((5 * n) + k) ≤ 2147483647 := ⟨by omega, by omega, by omega⟩
                        refine g_iast F hH hS r_39b hx181.1 hx181.2.1 hx181.2.2 dX7_laysMoved_181 (fun H locs hH hS => ?_)
                        obtain ⟨AI_42, eAI_42⟩ : ∃ qQ, qQ = gup2 AI_33 (gh 81 0) (((5 * n) + k)).toNat (iI (v_41)) := ⟨_, rfl⟩
                        rw [← eAI_42] at hH
                        have kAI_42 : ∀ b, b ≠ (gh 81 0) → AI_42 b = AI_33 b := fun b hb => by rw [eAI_42]; exact funext fun j => gup2_a _ _ hb
                        have c180 : iI v_41 = tg t9 k.toNat := by rw [ev_41, iI_self, h56, ← hft k.toNat (by omega)]; congr 1; omega
                        have hvO := hv
                        have t_43 : AI_42 (gh 50 0) = AI_33 (gh 50 0) := mK hv hm (p := (0, 640)) (q := (31, 1200)) (by decide) (by decide) (by decide) kAI_42
                        have t_43_7 : AI_42 (gh 57 0) = AI_33 (gh 57 0) := mK hv hm (p := (7, 176)) (q := (31, 1200)) (by decide) (by decide) (by decide) kAI_42
                        have ha7 : AI_42 (gh 57 0) = AI (gh 57 0) := t_43_7.trans ha7
                        have hv : mInv g gh R I AI_42 := mInv_a hv hm (q := (31, 1200)) (by decide) (by decide) kAI_42
                        have hT : AI_42 (gh 50 0) = T := t_43.trans hT
                        have hmr : (∀ q : Nat, (q : Int) < 5 * n → AI_42 (gh 81 0) q = M0 q) ∧ ∀ j : Nat, (j : Int) < k + 1 → AI_42 (gh 81 0) (5 * n.toNat + j) = tg t9 j := ⟨fun q hq => by rw [eAI_42, gup2_k _ _ (by omega)]; exact hmr.1 q hq, fun j hj => by
                          by_cases e9 : (j : Int) = k
                          · rw [eAI_42, gup2_e _ _ (by omega), c180, show j = k.toNat by omega]
                          · rw [eAI_42, gup2_k _ _ (by omega)]; exact hmr.2 j (by omega)⟩
                        have fM : ∀ b, b ≠ gh 81 0 → AI_42 b = AI b := fun b h1 => (kAI_42 b h1).trans (fM b h1)
                        refine z_iinc (lv' := [(10, .int (iI (k + 1))), (9, .int (iI fr1)), (8, .int (iI v_25)), (7, .int (iI is)), (6, .int (iI v_19)), (5, .int (iI v_10)), (4, .int (iI jj)), (3, .int (iI i)), (2, .int (iI n)), (0, .ref mo), (1, .int (iI rr))]) F dX7_laysMoved_182 hl (k := 0) rfl (by decide) rfl (fun ls hl => ?_)
                        refine z_goto (tgt := 155) F dX7_laysMoved_185 (by decide) ?_
                        exact ih155 (k + 1) AI_42 H locs ls ⟨by omega, by omega⟩ hv hT ha7 (by omega) fM hmr (by omega) hH hS (lv_sub hl [0, 1, 2, 3, 4, 5, 6, 7, 8, 9, 10] rfl)
                  exact cut_155_33 (((4 - 0) + 1 : Int).toNat) 0 AI_1 H locs ls ⟨by decide, by decide⟩ hv hT ha7 (by omega) fM ⟨fun q _ => by rw [eM0], fun j hj => absurd hj (by omega)⟩ (by omega) hH hS (lv_sub hl [0, 1, 2, 3, 4, 5, 6, 7, 8, 9, 10] rfl)
              refine lv_iload F.1 F.2.1 dX7_laysMoved_133 (lv_at hl 1 rfl) ?_
              refine z_if_gt (tgt := 143) F dX7_laysMoved_135 (by decide) zis (fun c_44 => ?_) (fun c_44 => ?_)
              · refine lv_iload F.1 F.2.1 dX7_laysMoved_143 (lv_at hl 2 rfl) ?_
                exact cut_145_25 v_19 H locs ls zv_19 (by omega) (fun k hk => by rw [ht9b (by omega), tg_up k hk, ← hXa _ (by omega)]; congr 1; omega) hH hS (lv_sub hl [0, 1, 2, 3, 4, 5, 6, 7, 8] rfl)
              · refine lv_iload F.1 F.2.1 dX7_laysMoved_138 (lv_at hl 3 rfl) ?_
                refine z_goto (tgt := 145) F dX7_laysMoved_140 (by decide) ?_
                exact cut_145_25 v_10 H locs ls zv_10 (by omega) (fun k hk => by rw [ht9a (by omega), tg_up k hk, ← hXb _ (by omega)]; congr 1; omega) hH hS (lv_sub hl [0, 1, 2, 3, 4, 5, 6, 7, 8] rfl)
            refine lv_iload F.1 F.2.1 dX7_laysMoved_112 (lv_at hl 0 rfl) ?_
            refine z_if_gt (tgt := 129) F dX7_laysMoved_114 (by decide) zis (fun c_45 => ?_) (fun c_45 => ?_)
            · refine z_iconst F dX7_laysMoved_129 ?_
              exact cut_130_23 0 H locs ls ⟨by decide, by decide⟩ (Or.inr ⟨by omega, rfl⟩) hH hS (lv_sub hl [0, 1, 2, 3, 4, 5, 6, 7] rfl)
            · refine lv_aload_n F.1 F.2.1 dX7_laysMoved_117 rfl (lv_at hl 6 rfl) ?_
              obtain ⟨r_46a, r_46b⟩ : R mo 6 = some (gh 56 0) ∧ gAr g (gh 56 0) 9 126720 := mR hv hm (q := (6, 126720)) (by decide)
              refine g_getR (ci := 7) (k := 6) F hH rfl (by decide) iX7 hm (by decide) rfl (b := gh 56 0) r_46a k24 dX7_laysMoved_118 ?_
              refine lv_iload F.1 F.2.1 dX7_laysMoved_121 (lv_at hl 2 rfl) ?_
              refine z_iconst F dX7_laysMoved_123 ?_
              refine z_iadd F dX7_laysMoved_124 ?_
              have hx125 : 0 ≤ (v_10 + 4) ∧ (v_10 + 4) < ((126720 : Nat) : Int) ∧ (v_10 + 4) ≤ 2147483647 := ⟨by omega, by omega, by omega⟩
              refine g_iald F hH r_46b hx125.1 hx125.2.1 hx125.2.2 dX7_laysMoved_125 ?_
              refine z_name (fun v_47 ev_47 => ?_)
              have zv_47 : zr v_47 := by rw [ev_47]; exact zr_t _
              have c125 : iI v_47 = bxb (6 * i.toNat + 4) := by rw [ev_47, iI_self, h56, ← hXb _ (by omega)]; congr 1; omega
              refine z_goto (tgt := 130) F dX7_laysMoved_126 (by decide) ?_
              exact cut_130_23 v_47 H locs ls zv_47 (Or.inl ⟨by omega, c125⟩) hH hS (lv_sub hl [0, 1, 2, 3, 4, 5, 6, 7] rfl)
          refine lv_iload F.1 F.2.1 dX7_laysMoved_94 (lv_at hl 0 rfl) ?_
          refine z_if_lt (tgt := 111) F dX7_laysMoved_96 (by decide) zis (fun c_48 => ?_) (fun c_48 => ?_)
          · refine z_iconst F dX7_laysMoved_111 ?_
            exact cut_112_22 0 H locs ls ⟨by decide, by decide⟩ (Or.inr ⟨by omega, rfl⟩) hH hS (lv_sub hl [0, 1, 2, 3, 4, 5, 6, 7] rfl)
          · refine lv_aload_n F.1 F.2.1 dX7_laysMoved_99 rfl (lv_at hl 6 rfl) ?_
            obtain ⟨r_49a, r_49b⟩ : R mo 6 = some (gh 56 0) ∧ gAr g (gh 56 0) 9 126720 := mR hv hm (q := (6, 126720)) (by decide)
            refine g_getR (ci := 7) (k := 6) F hH rfl (by decide) iX7 hm (by decide) rfl (b := gh 56 0) r_49a k24 dX7_laysMoved_100 ?_
            refine lv_iload F.1 F.2.1 dX7_laysMoved_103 (lv_at hl 1 rfl) ?_
            refine z_iconst F dX7_laysMoved_105 ?_
            refine z_iadd F dX7_laysMoved_106 ?_
            have hx107 : 0 ≤ (v_19 + 4) ∧ (v_19 + 4) < ((126720 : Nat) : Int) ∧ (v_19 + 4) ≤ 2147483647 := ⟨by omega, by omega, by omega⟩
            refine g_iald F hH r_49b hx107.1 hx107.2.1 hx107.2.2 dX7_laysMoved_107 ?_
            refine z_name (fun v_50 ev_50 => ?_)
            have zv_50 : zr v_50 := by rw [ev_50]; exact zr_t _
            have c107 : iI v_50 = bxa (6 * jj.toNat + 4) := by rw [ev_50, iI_self, h56, ← hXa _ (by omega)]; congr 1; omega
            refine z_goto (tgt := 112) F dX7_laysMoved_108 (by decide) ?_
            exact cut_112_22 v_50 H locs ls zv_50 (Or.inl ⟨by omega, c107⟩) hH hS (lv_sub hl [0, 1, 2, 3, 4, 5, 6, 7] rfl)
        refine lv_iload_n F.1 F.2.1 dX7_laysMoved_47 rfl (lv_at hl 3 rfl) ?_
        refine lv_aload_n F.1 F.2.1 dX7_laysMoved_48 rfl (lv_at hl 5 rfl) ?_
        refine z_bipush F dX7_laysMoved_49 (by decide) ?_
        refine lv_iload_n F.1 F.2.1 dX7_laysMoved_51 rfl (lv_at hl 6 rfl) ?_
        have b_51 := mJ hv hm
        unfold mNum1 at b_51
        refine g_calli (g_runV (As := [.int (iI 9), .int (iI rr)]) (rest := [.int (iI i)]) (ci := 7) F hl.1 hH hS hz (c_X7_sizeOf l g gh T I R J AI_1 AJ AR mo 9 rr ⟨by decide, by decide⟩ zrr hv hm hT (by omega) (by omega)) (cwV 2 F.2.2.2.2.1 (good_up gT_X7_sizeOf) rfl rfl rfl hdX7_sizeOf ⟨Nat.le_of_ble_eq_true rfl, Nat.le_of_ble_eq_true rfl⟩) hm (by decide) rfl rfl rfl (Nat.le_of_ble_eq_true rfl) dX7_laysMoved_52 ⟨Nat.zero_le _, Nat.zero_le _⟩) hS (fun v_58 I_52 R_53 J_54 AI_55 AJ_56 AR_57 H locs zv_58 hp_59 hH hS => ?_)
        dsimp only at hp_59
        obtain ⟨rfl, rfl, rfl, rfl, rfl, rfl, q_60, qs52⟩ := hp_59
        rw [ha7] at qs52
        have hsqs52 : v_58 = (my : Int) := by rw [qs52]; exact hnb
        refine z_icmp_ne (tgt := 62) F dX7_laysMoved_55 (by decide) zi zv_58 (fun c_61 => ?_) (fun c_61 => ?_)
        · refine lv_iload F.1 F.2.1 dX7_laysMoved_62 (lv_at hl 2 rfl) ?_
          refine lv_aload_n F.1 F.2.1 dX7_laysMoved_64 rfl (lv_at hl 5 rfl) ?_
          refine z_iconst F dX7_laysMoved_65 ?_
          refine lv_iload_n F.1 F.2.1 dX7_laysMoved_66 rfl (lv_at hl 6 rfl) ?_
          refine g_calli (g_runV (As := [.int (iI 0), .int (iI rr)]) (rest := [.int (iI jj)]) (ci := 7) F hl.1 hH hS hz (c_X7_sizeOf l g gh T I R J AI_1 AJ AR mo 0 rr ⟨by decide, by decide⟩ zrr hv hm hT (by omega) (by omega)) (cwV 2 F.2.2.2.2.1 (good_up gT_X7_sizeOf) rfl rfl rfl hdX7_sizeOf ⟨Nat.le_of_ble_eq_true rfl, Nat.le_of_ble_eq_true rfl⟩) hm (by decide) rfl rfl rfl (Nat.le_of_ble_eq_true rfl) dX7_laysMoved_67 ⟨Nat.zero_le _, Nat.zero_le _⟩) hS (fun v_68 I_62 R_63 J_64 AI_65 AJ_66 AR_67 H locs zv_68 hp_69 hH hS => ?_)
          dsimp only at hp_69
          obtain ⟨rfl, rfl, rfl, rfl, rfl, rfl, q_70, qs67⟩ := hp_69
          rw [ha7] at qs67
          have hsqs67 : v_68 = (na : Int) := by rw [qs67]; exact hna
          refine z_icmp_ne (tgt := 77) F dX7_laysMoved_70 (by decide) zjj zv_68 (fun c_71 => ?_) (fun c_71 => ?_)
          · refine lv_aload_n F.1 F.2.1 dX7_laysMoved_77 rfl (lv_at hl 5 rfl) ?_
            obtain ⟨r_72a, r_72b⟩ : R mo 6 = some (gh 56 0) ∧ gAr g (gh 56 0) 9 126720 := mR hv hm (q := (6, 126720)) (by decide)
            refine g_getR (ci := 7) (k := 6) F hH rfl (by decide) iX7 hm (by decide) rfl (b := gh 56 0) r_72a k24 dX7_laysMoved_78 ?_
            refine lv_iload F.1 F.2.1 dX7_laysMoved_81 (lv_at hl 1 rfl) ?_
            refine lv_aload_n F.1 F.2.1 dX7_laysMoved_83 rfl (lv_at hl 5 rfl) ?_
            refine g_getR (ci := 7) (k := 6) F hH rfl (by decide) iX7 hm (by decide) rfl (b := gh 56 0) r_72a k24 dX7_laysMoved_84 ?_
            refine lv_iload F.1 F.2.1 dX7_laysMoved_87 (lv_at hl 0 rfl) ?_
            refine g_calli (g_runS (As := [.ref (gh 56 0), .int (iI v_10), .ref (gh 56 0), .int (iI v_19)]) (rest := []) F hl.1 hH hS hz (c_X7_comparef l g 126720 126720 I R J AI_1 AJ AR (gh 56 0) v_10 (gh 56 0) v_19 zv_10 zv_19 r_72b r_72b (by omega) (by omega) (by omega) (by omega)) (va_cwS 4 F.2.2.2.2.1 (good_up gT_X7_compare) rfl rfl rfl hdX7_compare.2 ⟨Nat.le_of_ble_eq_true rfl, Nat.le_of_ble_eq_true rfl⟩) rfl rfl (Nat.le_of_ble_eq_true rfl) dX7_laysMoved_89 ⟨Nat.zero_le _, Nat.zero_le _⟩) hS (fun v_79 I_73 R_74 J_75 AI_76 AJ_77 AR_78 H locs zv_79 hp_80 hH hS => ?_)
            dsimp only at hp_80
            obtain ⟨rfl, rfl, rfl, rfl, rfl, rfl, q_81, qc89⟩ := hp_80
            have qk89 : v_79 = tc (tup bxb i.toNat) (tup bxa jj.toNat) := by rw [qc89]; exact kc_c (rk_tu (fun k hk => by rw [h56, tg_up k hk, ← hXb _ (by omega)]; congr 1; omega)) (rk_tu (fun k hk => by rw [h56, tg_up k hk, ← hXa _ (by omega)]; congr 1; omega))
            exact cut_92_21 v_79 H locs ls zv_79 (by omega) (Or.inr (Or.inr ⟨by omega, by omega, qk89⟩)) hH hS (lv_sub hl [0, 1, 2, 3, 4, 5, 6] rfl)
          · refine z_iconst F dX7_laysMoved_73 ?_
            refine z_goto (tgt := 92) F dX7_laysMoved_74 (by decide) ?_
            exact cut_92_21 (-1) H locs ls ⟨by decide, by decide⟩ (by omega) (Or.inr (Or.inl ⟨by omega, by omega, rfl⟩)) hH hS (lv_sub hl [0, 1, 2, 3, 4, 5, 6] rfl)
        · refine z_iconst F dX7_laysMoved_58 ?_
          refine z_goto (tgt := 92) F dX7_laysMoved_59 (by decide) ?_
          exact cut_92_21 1 H locs ls ⟨by decide, by decide⟩ (by omega) (Or.inl ⟨by omega, rfl⟩) hH hS (lv_sub hl [0, 1, 2, 3, 4, 5, 6] rfl)
      refine lv_iload_n F.1 F.2.1 dX7_laysMoved_7 rfl (lv_at hl 1 rfl) ?_
      refine lv_aload_n F.1 F.2.1 dX7_laysMoved_8 rfl (lv_at hl 3 rfl) ?_
      refine z_bipush F dX7_laysMoved_9 (by decide) ?_
      refine lv_iload_n F.1 F.2.1 dX7_laysMoved_11 rfl (lv_at hl 4 rfl) ?_
      have b_82 := mJ hv hm
      unfold mNum1 at b_82
      refine g_calli (g_runV (As := [.int (iI 9), .int (iI rr)]) (rest := [.int (iI i)]) (ci := 7) F hl.1 hH hS hz (c_X7_sizeOf l g gh T I R J AI_1 AJ AR mo 9 rr ⟨by decide, by decide⟩ zrr hv hm hT (by omega) (by omega)) (cwV 2 F.2.2.2.2.1 (good_up gT_X7_sizeOf) rfl rfl rfl hdX7_sizeOf ⟨Nat.le_of_ble_eq_true rfl, Nat.le_of_ble_eq_true rfl⟩) hm (by decide) rfl rfl rfl (Nat.le_of_ble_eq_true rfl) dX7_laysMoved_12 ⟨Nat.zero_le _, Nat.zero_le _⟩) hS (fun v_89 I_83 R_84 J_85 AI_86 AJ_87 AR_88 H locs zv_89 hp_90 hH hS => ?_)
      dsimp only at hp_90
      obtain ⟨rfl, rfl, rfl, rfl, rfl, rfl, q_91, qs12⟩ := hp_90
      rw [ha7] at qs12
      have hsqs12 : v_89 = (my : Int) := by rw [qs12]; exact hnb
      refine z_icmp_lt (tgt := 29) F dX7_laysMoved_15 (by decide) zi zv_89 (fun c_92 => ?_) (fun c_92 => ?_)
      · exact cut_29_2 H locs ls (by omega) hH hS (lv_sub hl [0, 1, 2, 3, 4] rfl)
      · refine lv_iload F.1 F.2.1 dX7_laysMoved_18 (lv_at hl 0 rfl) ?_
        refine lv_aload_n F.1 F.2.1 dX7_laysMoved_20 rfl (lv_at hl 3 rfl) ?_
        refine z_iconst F dX7_laysMoved_21 ?_
        refine lv_iload_n F.1 F.2.1 dX7_laysMoved_22 rfl (lv_at hl 4 rfl) ?_
        refine g_calli (g_runV (As := [.int (iI 0), .int (iI rr)]) (rest := [.int (iI jj)]) (ci := 7) F hl.1 hH hS hz (c_X7_sizeOf l g gh T I R J AI_1 AJ AR mo 0 rr ⟨by decide, by decide⟩ zrr hv hm hT (by omega) (by omega)) (cwV 2 F.2.2.2.2.1 (good_up gT_X7_sizeOf) rfl rfl rfl hdX7_sizeOf ⟨Nat.le_of_ble_eq_true rfl, Nat.le_of_ble_eq_true rfl⟩) hm (by decide) rfl rfl rfl (Nat.le_of_ble_eq_true rfl) dX7_laysMoved_23 ⟨Nat.zero_le _, Nat.zero_le _⟩) hS (fun v_99 I_93 R_94 J_95 AI_96 AJ_97 AR_98 H locs zv_99 hp_100 hH hS => ?_)
        dsimp only at hp_100
        obtain ⟨rfl, rfl, rfl, rfl, rfl, rfl, q_101, qs23⟩ := hp_100
        rw [ha7] at qs23
        have hsqs23 : v_99 = (na : Int) := by rw [qs23]; exact hna
        refine z_icmp_ge (tgt := 222) F dX7_laysMoved_26 (by decide) zjj zv_99 (fun c_102 => ?_) (fun c_102 => ?_)
        · refine lv_iload_n F.1 F.2.1 dX7_laysMoved_222 rfl (lv_at hl 2 rfl) ?_
          exact g_iret F hr hlk hH hS hz zn ⟨rfl, rfl, rfl, rfl, rfl, hv, hT, ha7, by first | omega | rfl | (dsimp only; omega), fM, ga_e hga (by omega) (by omega)⟩ dX7_laysMoved_223
        · exact cut_29_2 H locs ls (by omega) hH hS (lv_sub hl [0, 1, 2, 3, 4] rfl)
  exact cut_7_1 (((240 - 0 - 0) + 1 : Int).toNat) 0 0 0 AI H locs ls ⟨by decide, by decide⟩ ⟨by decide, by decide⟩ ⟨by decide, by decide⟩ hv hT ha7 (by omega) (fun _ _ => rfl) (ga_0 hA hB (fun _ => rfl)) (by omega) (by omega) hH hS (lv_sub hl [0, 1, 2, 3, 4] rfl)
end
section
/-! the reference: sizes by sums, sides with rounds -/
noncomputable def bgN (S : Tup → Int32) : Nat := @dite _ (∃ m f, isB f m S zM) (Classical.propDecidable _) (fun h => h.choose) (fun _ => 0)
theorem bgN_e {f : Nat → Int32} {m : Nat} {S : Tup → Int32} (h : isB f m S zM) : bgN S = m := by
  have ex : ∃ m f, isB f m S zM := ⟨m, f, h⟩
  have e : bgN S = ex.choose := @dif_pos _ (Classical.propDecidable _) ex _ _ _
  obtain ⟨f', h'⟩ := ex.choose_spec
  rw [e]
  exact (isW_u h' h (fun _ _ => rfl) (fun _ _ => rfl)).1
def rsM (gh : gGh) (AI : gI) (sd : Int) (r : Nat) : (Nat × (Nat → Int32)) × Int32 := (rfM gh AI sd r, AI (gh 79 0) (16 * sd + (r : Int)).toNat)
def mvF (gh : gGh) (AI : gI) (r : Nat) : Tup → Int32 := mvS (rfM gh AI 0 r).2 (rfM gh AI 0 r).1 (rfM gh AI 9 r).2 (rfM gh AI 9 r).1
section Cmm
variable {gh : gGh} {AI AI' AI2 A1 : gI} {fm to sd u a : Int} {r n : Nat} {f : Nat → Int32}
theorem cps_to (h : cpP gh fm to AI AI') (h0 : 0 ≤ fm ∧ 0 ≤ to) (hr : r < 16) : rsM gh AI' to r = rsM gh AI fm r := by
  unfold rsM
  rw [cp_to h h0 hr]
  have e := h.2.2.2.2 r (by omega)
  rw [show (16 * to + (r : Int)).toNat = (16 * to).toNat + r by omega, e, show (16 * fm).toNat + r = (16 * fm + (r : Int)).toNat by omega]
theorem cps_o (h : cpP gh fm to AI AI') (h0 : 0 ≤ fm ∧ 0 ≤ to) (hs : 0 ≤ sd) (hne : sd ≠ to) (hr : r < 16) : rsM gh AI' sd r = rsM gh AI sd r := by
  unfold rsM
  rw [cp_o h h0 hs hne hr, h.2.2.2.1 _ (by omega)]
theorem rs_rf (h : rsM gh AI' fm r = rsM gh AI sd r) : rfM gh AI' fm r = rfM gh AI sd r := congrArg Prod.fst h
theorem rs_79 (h : rsM gh AI' fm r = rsM gh AI sd r) : AI' (gh 79 0) (16 * fm + (r : Int)).toNat = AI (gh 79 0) (16 * sd + (r : Int)).toNat := congrArg Prod.snd h
theorem rsM_k (h : sdK gh AI AI') (h0 : 0 ≤ sd ∧ sd ≤ 9) (hr : r < 16) : rsM gh AI' sd r = rsM gh AI sd r := by
  unfold rsM rfM
  refine Prod.ext (Prod.ext ?_ (funext fun q => ?_)) ?_
  · show (AI' (gh 57 0) _).toInt.toNat = (AI (gh 57 0) _).toInt.toNat
    rw [(h.2 _ (by omega)).1]
  · show (if q < 720 then _ else _) = if q < 720 then _ else _
    by_cases w : q < 720
    · rw [if_pos w, if_pos w, h.1 _ (by omega)]
    · rw [if_neg w, if_neg w]
  · show AI' (gh 79 0) _ = AI (gh 79 0) _
    rw [(h.2 _ (by omega)).2]
theorem rsM_g (h56 : AI' (gh 56 0) = AI (gh 56 0)) (h57 : AI' (gh 57 0) = AI (gh 57 0)) (h79 : AI' (gh 79 0) = AI (gh 79 0)) : rsM gh AI' sd = rsM gh AI sd := by
  funext r; unfold rsM; rw [rfM_g h56 h57, h79]
/-- the steps to undo, as a new one comes -/
def bkP (gh : gGh) (AI AI' : gI) (u u' : Int) : Prop :=
  (u < 8 ∧ u' = u + 1 ∧ (∀ j : Int, 0 ≤ j → j < u → ∀ r : Nat, r < 16 → rsM gh AI' (1 + j) r = rsM gh AI (1 + j) r) ∧ ∀ r : Nat, r < 16 → rsM gh AI' (1 + u) r = rsM gh AI 0 r) ∨
  (u = 8 ∧ u' = 8 ∧ (∀ j : Int, 0 ≤ j → j < 7 → ∀ r : Nat, r < 16 → rsM gh AI' (1 + j) r = rsM gh AI (2 + j) r) ∧ ∀ r : Nat, r < 16 → rsM gh AI' 8 r = rsM gh AI 0 r)
/-- moved down by one so far -/
def bkI (gh : gGh) (AI AI' : gI) (k : Int) : Prop := (∀ j : Int, 0 ≤ j → j < k - 1 → ∀ r : Nat, r < 16 → rsM gh AI' (1 + j) r = rsM gh AI (2 + j) r) ∧ (∀ sd : Int, sd = 0 ∨ sd = 9 ∨ sd = 10 ∨ (k ≤ sd ∧ sd ≤ 8) → ∀ r : Nat, r < 16 → rsM gh AI' sd r = rsM gh AI sd r) ∧ ∀ b, b ≠ gh 56 0 → b ≠ gh 57 0 → b ≠ gh 79 0 → AI' b = AI b
theorem bkI_1 : bkI gh AI AI 1 := ⟨fun j h1 h2 => absurd h2 (by omega), fun _ _ _ _ => rfl, fun _ _ _ _ => rfl⟩
theorem bkI_s {k : Int} (h : bkI gh AI AI' k) (h1 : 1 ≤ k ∧ k < 8) (q : cpP gh fm to AI' AI2) (e1 : fm = 1 + k) (e2 : to = k) : bkI gh AI AI2 (k + 1) := by
  subst e1; subst e2
  refine ⟨fun j a b r hr => ?_, fun sd hs r hr => ?_, fun b a1 a2 a3 => (q.1 b a1 a2 a3).trans (h.2.2 b a1 a2 a3)⟩
  · by_cases w : j = to - 1
    · rw [show 1 + j = to by omega, show 2 + j = 1 + to by omega, cps_to q ⟨by omega, by omega⟩ hr]
      exact h.2.1 _ (by omega) r hr
    · rw [cps_o q ⟨by omega, by omega⟩ (by omega) (by omega) hr]; exact h.1 j a (by omega) r hr
  · rw [cps_o q ⟨by omega, by omega⟩ (by omega) (by omega) hr]; exact h.2.1 sd (by omega) r hr
/-- what commit leaves of the sides -/
def cmM (gh : gGh) (AI A1 AI' : gI) (u u' : Int) : Prop := (∀ r : Nat, r < 16 → rsM gh AI' 0 r = rsM gh A1 10 r) ∧ (∀ r : Nat, r < 16 → rsM gh AI' 9 r = rsM gh AI 0 r) ∧ bkP gh AI AI' u u'
theorem cm_a {B1 B2 B3 : gI} (hu : 0 ≤ u ∧ u < 8) (hk : sdK gh AI A1) (q1 : cpP gh 0 (1 + u) A1 B1) (q2 : cpP gh 0 9 B1 B2) (q3 : cpP gh 10 0 B2 B3) : cmM gh AI A1 B3 u (u + 1) := by
  refine ⟨fun r hr => ?_, fun r hr => ?_, Or.inl ⟨hu.2, rfl, fun j h1 h2 r hr => ?_, fun r hr => ?_⟩⟩
  · rw [cps_to q3 ⟨by decide, by decide⟩ hr, cps_o q2 ⟨by decide, by decide⟩ (by decide) (by decide) hr, cps_o q1 ⟨by decide, by omega⟩ (by decide) (by omega) hr]
  · rw [cps_o q3 ⟨by decide, by decide⟩ (by decide) (by decide) hr, cps_to q2 ⟨by decide, by decide⟩ hr, cps_o q1 ⟨by decide, by omega⟩ (by decide) (by omega) hr, rsM_k hk ⟨by decide, by decide⟩ hr]
  · rw [cps_o q3 ⟨by decide, by decide⟩ (by omega) (by omega) hr, cps_o q2 ⟨by decide, by decide⟩ (by omega) (by omega) hr, cps_o q1 ⟨by decide, by omega⟩ (by omega) (by omega) hr, rsM_k hk ⟨by omega, by omega⟩ hr]
  · rw [cps_o q3 ⟨by decide, by decide⟩ (by omega) (by omega) hr, cps_o q2 ⟨by decide, by decide⟩ (by omega) (by omega) hr, cps_to q1 ⟨by decide, by omega⟩ hr, rsM_k hk ⟨by decide, by decide⟩ hr]
theorem cm_b {B0 B1 B2 B3 : gI} (hk : sdK gh AI A1) (q0 : bkI gh A1 B0 8) (q1 : cpP gh 0 8 B0 B1) (q2 : cpP gh 0 9 B1 B2) (q3 : cpP gh 10 0 B2 B3) : cmM gh AI A1 B3 8 8 := by
  refine ⟨fun r hr => ?_, fun r hr => ?_, Or.inr ⟨rfl, rfl, fun j h1 h2 r hr => ?_, fun r hr => ?_⟩⟩
  · rw [cps_to q3 ⟨by decide, by decide⟩ hr, cps_o q2 ⟨by decide, by decide⟩ (by decide) (by decide) hr, cps_o q1 ⟨by decide, by decide⟩ (by decide) (by decide) hr, q0.2.1 10 (by omega) r hr]
  · rw [cps_o q3 ⟨by decide, by decide⟩ (by decide) (by decide) hr, cps_to q2 ⟨by decide, by decide⟩ hr, cps_o q1 ⟨by decide, by decide⟩ (by decide) (by decide) hr, q0.2.1 0 (by omega) r hr, rsM_k hk ⟨by decide, by decide⟩ hr]
  · rw [cps_o q3 ⟨by decide, by decide⟩ (by omega) (by omega) hr, cps_o q2 ⟨by decide, by decide⟩ (by omega) (by omega) hr, cps_o q1 ⟨by decide, by decide⟩ (by omega) (by omega) hr, q0.1 j h1 (by omega) r hr, rsM_k hk ⟨by omega, by omega⟩ hr]
  · rw [cps_o q3 ⟨by decide, by decide⟩ (by decide) (by decide) hr, cps_o q2 ⟨by decide, by decide⟩ (by decide) (by decide) hr, cps_to q1 ⟨by decide, by decide⟩ hr, q0.2.1 0 (by omega) r hr, rsM_k hk ⟨by decide, by decide⟩ hr]
theorem noZ_cp (h : noZ gh AI AI') (q : cpP gh fm to AI' AI2) : noZ gh AI AI2 := fun b h1 h2 h3 h4 h5 h6 h7 => (q.1 b h1 h2 h6).trans (h b h1 h2 h3 h4 h5 h6 h7)
theorem noZ_bk {k : Int} (h : noZ gh AI AI') (q : bkI gh AI' AI2 k) : noZ gh AI AI2 := fun b h1 h2 h3 h4 h5 h6 h7 => (q.2.2 b h1 h2 h6).trans (h b h1 h2 h3 h4 h5 h6 h7)
/-- what undo leaves of the sides -/
def unM (gh : gGh) (AI AI' : gI) (u' : Int) : Prop := (∀ r : Nat, r < 16 → rsM gh AI' 0 r = rsM gh AI (1 + u') r) ∧ (∀ r : Nat, r < 16 → rsM gh AI' 9 r = rsM gh AI 0 r) ∧ (∀ sd : Int, 1 ≤ sd → sd ≤ 8 → ∀ r : Nat, r < 16 → rsM gh AI' sd r = rsM gh AI sd r) ∧ ∀ b, b ≠ gh 56 0 → b ≠ gh 57 0 → b ≠ gh 79 0 → AI' b = AI b
theorem un_m {B1 B2 : gI} (hu : 0 ≤ u ∧ u < 8) (q1 : cpP gh 0 9 AI B1) (q2 : cpP gh (1 + u) 0 B1 B2) : unM gh AI B2 u := by
  refine ⟨fun r hr => ?_, fun r hr => ?_, fun sd h1 h2 r hr => ?_, fun b a1 a2 a3 => (q2.1 b a1 a2 a3).trans (q1.1 b a1 a2 a3)⟩
  · rw [cps_to q2 ⟨by omega, by decide⟩ hr, cps_o q1 ⟨by decide, by decide⟩ (by omega) (by omega) hr]
  · rw [cps_o q2 ⟨by omega, by decide⟩ (by decide) (by decide) hr, cps_to q1 ⟨by decide, by decide⟩ hr]
  · rw [cps_o q2 ⟨by omega, by decide⟩ (by omega) (by omega) hr, cps_o q1 ⟨by decide, by decide⟩ (by omega) (by omega) hr]
end Cmm
section Cmm2
variable {gh : gGh} {AI AI' AI2 A1 B0 B1 B2 B3 : gI} {u u' tbs n k : Int} {nr : Nat} {f : Nat → Int}
def noY (gh : gGh) (AI AI' : gI) : Prop := ∀ b, b ≠ gh 56 0 → b ≠ gh 57 0 → b ≠ gh 75 0 → b ≠ gh 77 0 → b ≠ gh 78 0 → b ≠ gh 79 0 → b ≠ gh 80 0 → b ≠ gh 81 0 → AI' b = AI b
theorem noY_z (h : noZ gh AI AI') (q : ∀ b, b ≠ gh 81 0 → AI2 b = AI' b) : noY gh AI AI2 := fun b h1 h2 h3 h4 h5 h6 h7 h8 => (q b h8).trans (h b h1 h2 h3 h4 h5 h6 h7)
def bkU (gh : gGh) (A1 B : gI) (u u' : Int) : Prop := (u < 8 ∧ u' = u ∧ B = A1) ∨ (u = 8 ∧ u' = 7 ∧ bkI gh A1 B 8)
theorem cm_all (hk : sdK gh AI A1) (hb : bkU gh A1 B0 u u') (h0 : 0 ≤ u) (q1 : cpP gh 0 (1 + u') B0 B1) (q2 : cpP gh 0 9 B1 B2) (q3 : cpP gh 10 0 B2 B3) : cmM gh AI A1 B3 u (u' + 1) := by
  rcases hb with ⟨a, b, e⟩ | ⟨a, b, e⟩
  · subst b; subst e; exact cm_a ⟨h0, a⟩ hk q1 q2 q3
  · subst a; subst b; exact cm_b hk e q1 q2 q3
theorem cmM_g (h : cmM gh AI A1 AI' u u') (h56 : AI2 (gh 56 0) = AI' (gh 56 0)) (h57 : AI2 (gh 57 0) = AI' (gh 57 0)) (h79 : AI2 (gh 79 0) = AI' (gh 79 0)) : cmM gh AI A1 AI2 u u' := by
  have e : ∀ sd, rsM gh AI2 sd = rsM gh AI' sd := fun sd => rsM_g h56 h57 h79
  refine ⟨fun r hr => by rw [e]; exact h.1 r hr, fun r hr => by rw [e]; exact h.2.1 r hr, ?_⟩
  rcases h.2.2 with ⟨a, b, c, d⟩ | ⟨a, b, c, d⟩
  · exact Or.inl ⟨a, b, fun j h1 h2 r hr => by rw [e]; exact c j h1 h2 r hr, fun r hr => by rw [e]; exact d r hr⟩
  · exact Or.inr ⟨a, b, fun j h1 h2 r hr => by rw [e]; exact c j h1 h2 r hr, fun r hr => by rw [e]; exact d r hr⟩
theorem noZ_bu (h : noZ gh AI A1) (hb : bkU gh A1 B0 u u') : noZ gh AI B0 := by
  rcases hb with ⟨_, _, e⟩ | ⟨_, _, e⟩
  · rw [e]; exact h
  · exact noZ_bk h e
theorem smL_s (h0 : 0 ≤ tbs) (hk : tbs ≤ k) (e : n = smL f tbs.toNat (k - tbs).toNat) : n + f k.toNat = smL f tbs.toNat (k + 1 - tbs).toNat := by
  rw [show (k + 1 - tbs).toNat = (k - tbs).toNat + 1 by omega, smL, e, show tbs.toNat + (k - tbs).toNat = k.toNat by omega]
end Cmm2
end
