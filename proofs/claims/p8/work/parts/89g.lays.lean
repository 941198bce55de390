def rmX7_laysf : Room := { frames := 1, cells := 0, slots := 0, locals := 22 }
set_option maxHeartbeats 4000000 in
set_option maxRecDepth 100000 in
/-- the bag is laid -/
theorem c_X7_laysf (l : Launch) (g : gG) (gh : gGh) (T : Nat → Int32) (I : gI) (R : gR) (J : gJ) (AI : gI) (AJ : gJ) (AR : gR) (mo : Nat) (sd : Int) (rr : Int) (zsd : zr sd) (zrr : zr rr) (hv : mInv g gh R I AI) (hm : gO g mo 7) (hT : AI (gh 50 0) = T) (hs : 0 ≤ sd ∧ sd ≤ 10) (hr0 : 0 ≤ rr ∧ rr ≤ 15) : gMet l g yX7_lays tsX7_lays rmX7_laysf [.ref mo, .int (iI sd), .int (iI rr)] (I, R, J, AI, AJ, AR) (gQi g (fun (z : Int) (w : gS) => I = w.1 ∧ R = w.2.1 ∧ J = w.2.2.1 ∧ AJ = w.2.2.2.2.1 ∧ AR = w.2.2.2.2.2 ∧ (mInv g gh R I (w.2.2.2.1)) ∧ ((w.2.2.2.1) (gh 50 0) = T) ∧ ((w.2.2.2.1) (gh 75 0) = AI (gh 75 0)) ∧ (∀ b, b ≠ gh 56 0 → b ≠ gh 57 0 → (w.2.2.2.1) b = AI b) ∧ (lyP gh sd rr (I mo 26).toInt AI (w.2.2.2.1) z))) := by
  refine gStart (cc := cX7_lays) (maxL := 7) (ret := (some (.int))) (by decide) rfl (Nat.le_of_ble_eq_true rfl) ?_
  intro p e s m below meth c ls F hr hlk hH hz hS hl
  have hl : lv_has ls 7 [(0, .ref mo), (1, .int (iI sd)), (2, .int (iI rr))] := hl
  have hS : va_S (gA g) s.heap s.heap [] := hS
  obtain ⟨H, hHe⟩ : ∃ H : Heap, H = s.heap := ⟨_, rfl⟩
  obtain ⟨locs, hlo⟩ : ∃ k : List Loc, k = [] := ⟨_, rfl⟩
  have hH : gH g I R J AI AJ AR H := by rw [hHe]; exact hH
  have hS : va_S (gA g) s.heap H locs := by rw [hHe, hlo]; exact hS
  suffices hw : W p l e rmX7_laysf s m ([.ref mo, .int (iI sd), .int (iI rr)] : List Value).toArray below meth c H locs 0 0 (MQ below (gQi g (fun (z : Int) (w : gS) => I = w.1 ∧ R = w.2.1 ∧ J = w.2.2.1 ∧ AJ = w.2.2.2.2.1 ∧ AR = w.2.2.2.2.2 ∧ (mInv g gh R I (w.2.2.2.1)) ∧ ((w.2.2.2.1) (gh 50 0) = T) ∧ ((w.2.2.2.1) (gh 75 0) = AI (gh 75 0)) ∧ (∀ b, b ≠ gh 56 0 → b ≠ gh 57 0 → (w.2.2.2.1) b = AI b) ∧ (lyP gh sd rr (I mo 26).toInt AI (w.2.2.2.1) z))) ([.ref mo, .int (iI sd), .int (iI rr)] : List Value).toArray s 0 0 (gA g)) (F0 m 0 ls []) by
    rw [hHe, hlo] at hw; exact hw
  clear hHe hlo
  have ha25 : AI (gh 75 0) = AI (gh 75 0) := rfl
  have hb0 := mJ hv hm
  unfold mNum1 at hb0
  have iX7 : ∀ w ∈ u_ws RX7 TX7 32, w ∈ tsX7_lays := fun w h => List.mem_cons_of_mem _ (inTB7 w h)
  have k269 : Cond.fieldLink RX7 269 (TX7 26).1 (TX7 26).2.1 (TX7 26).2.2.1 ∈ tsX7_lays := List.mem_cons_of_mem _ fl_269
  have k42 : Cond.fieldLink RX7 42 (TX7 25).1 (TX7 25).2.1 (TX7 25).2.2.1 ∈ tsX7_lays := List.mem_cons_of_mem _ fl_42
  have k24 : Cond.fieldLink RX7 24 (TX7 6).1 (TX7 6).2.1 (TX7 6).2.2.1 ∈ tsX7_lays := List.mem_cons_of_mem _ fl_24
  have k27 : Cond.fieldLink RX7 27 (TX7 7).1 (TX7 7).2.1 (TX7 7).2.2.1 ∈ tsX7_lays := List.mem_cons_of_mem _ fl_27
  refine z_iconst F dX7_lays_0 ?_
  refine lv_istore_n (lv' := [(3, .int (iI 0)), (0, .ref mo), (1, .int (iI sd)), (2, .int (iI rr))]) F.1 F.2.1 dX7_lays_1 rfl hl (by decide) rfl (fun ls hl => ?_)
  refine z_iconst F dX7_lays_2 ?_
  refine lv_istore (lv' := [(4, .int (iI 0)), (3, .int (iI 0)), (0, .ref mo), (1, .int (iI sd)), (2, .int (iI rr))]) F.1 F.2.1 dX7_lays_3 hl (by decide) rfl (fun ls hl => ?_)
  have cut_5_0 : ∀ (NN : Nat) (n k : Int) (H : Heap) (locs : List Loc) (ls : Array Slot), zr n → zr k → (0 ≤ k ∧ k ≤ (I mo 26).toInt) → (n = wCnt (AI (gh 75 0)) k.toNat) → ((I mo 26).toInt - k) < ((NN : Nat) : Int) → gH g I R J AI AJ AR H → va_S (gA g) s.heap H locs → lv_has ls 7 [(4, .int (iI k)), (3, .int (iI n)), (0, .ref mo), (1, .int (iI sd)), (2, .int (iI rr))] → W p l e rmX7_laysf s m ([.ref mo, .int (iI sd), .int (iI rr)] : List Value).toArray below meth c H locs 0 0 (MQ below (gQi g (fun (z : Int) (w : gS) => I = w.1 ∧ R = w.2.1 ∧ J = w.2.2.1 ∧ AJ = w.2.2.2.2.1 ∧ AR = w.2.2.2.2.2 ∧ (mInv g gh R I (w.2.2.2.1)) ∧ ((w.2.2.2.1) (gh 50 0) = T) ∧ ((w.2.2.2.1) (gh 75 0) = AI (gh 75 0)) ∧ (∀ b, b ≠ gh 56 0 → b ≠ gh 57 0 → (w.2.2.2.1) b = AI b) ∧ (lyP gh sd rr (I mo 26).toInt AI (w.2.2.2.1) z))) ([.ref mo, .int (iI sd), .int (iI rr)] : List Value).toArray s 0 0 (gA g)) (F0 m 5 ls []) := by
    intro NN5
    induction NN5 with
    | zero =>
      intro n k H locs ls zn zk hk hn hm5 hH hS hl
      exact absurd hm5 (by omega)
    | succ NN5 ih5 =>
      intro n k H locs ls zn zk hk hn hm5 hH hS hl
      have hn2 := wCnt_u (f := (AI (gh 75 0))) (a := k.toNat)
      have hn1 := wCnt_0 (f := (AI (gh 75 0))) (a := k.toNat)
      refine lv_iload F.1 F.2.1 dX7_lays_5 (lv_at hl 0 rfl) ?_
      refine lv_aload_n F.1 F.2.1 dX7_lays_7 rfl (lv_at hl 2 rfl) ?_
      refine g_getI (ci := 7) (k := 26) F hH rfl (by decide) iX7 hm (by decide) rfl k269 dX7_lays_8 ?_
      have b_2 := mJ hv hm
      unfold mNum1 at b_2
      refine z_icmp_ge (tgt := 38) F dX7_lays_11 (by decide) zk (zr_t _) (fun c_3 => ?_) (fun c_3 => ?_)
      · have hx : n = wCnt (AI (gh 75 0)) (I mo 26).toInt.toNat := by rw [← (show k = (I mo 26).toInt by omega)]; exact hn
        have hn0 := wCnt_0 (f := (AI (gh 75 0))) (a := (I mo 26).toInt.toNat)
        refine lv_iload_n F.1 F.2.1 dX7_lays_38 rfl (lv_at hl 1 rfl) ?_
        refine z_bipush F dX7_lays_39 (by decide) ?_
        refine z_icmp_le (tgt := 47) F dX7_lays_41 (by decide) zn ⟨by decide, by decide⟩ (fun c_4 => ?_) (fun c_4 => ?_)
        · refine lv_iload_n F.1 F.2.1 dX7_lays_47 rfl (lv_at hl 3 rfl) ?_
          refine lv_iload_n F.1 F.2.1 dX7_lays_48 rfl (lv_at hl 4 rfl) ?_
          refine z_iconst F dX7_lays_49 ?_
          refine g_calli (g_runS (As := [.int (iI sd), .int (iI rr), .int (iI 0)]) (rest := []) F hl.1 hH hS hz (c_X7_spot l g  I R J AI AJ AR sd rr 0 zsd zrr ⟨by decide, by decide⟩ (by omega) (by omega) (by omega)) (va_cwS 3 F.2.2.2.2.1 (good_up gT_X7_spot) rfl rfl rfl hdX7_spot.2 ⟨Nat.le_of_ble_eq_true rfl, Nat.le_of_ble_eq_true rfl⟩) rfl rfl (Nat.le_of_ble_eq_true rfl) dX7_lays_50 ⟨Nat.zero_le _, Nat.zero_le _⟩) hS (fun v_11 I_5 R_6 J_7 AI_8 AJ_9 AR_10 H locs zv_11 hp_12 hH hS => ?_)
          dsimp only at hp_12
          obtain ⟨rfl, rfl, rfl, rfl, rfl, rfl, q_13⟩ := hp_12
          refine lv_istore (lv' := [(4, .int (iI v_11)), (3, .int (iI n)), (0, .ref mo), (1, .int (iI sd)), (2, .int (iI rr))]) F.1 F.2.1 dX7_lays_53 hl (by decide) rfl (fun ls hl => ?_)
          refine z_iconst F dX7_lays_55 ?_
          refine lv_istore (lv' := [(5, .int (iI 0)), (4, .int (iI v_11)), (3, .int (iI n)), (0, .ref mo), (1, .int (iI sd)), (2, .int (iI rr))]) F.1 F.2.1 dX7_lays_56 hl (by decide) rfl (fun ls hl => ?_)
          have cut_58_14 : ∀ (NN : Nat) (to k2 : Int) (AI_14 : gI) (H : Heap) (locs : List Loc) (ls : Array Slot), zr to → zr k2 → (mInv g gh R I AI_14) → (AI_14 (gh 50 0) = T) → (AI_14 (gh 75 0) = AI (gh 75 0)) → (0 ≤ k2 ∧ k2 ≤ (I mo 26).toInt) → (to = 11520 * sd + 720 * rr + 6 * wCnt (AI (gh 75 0)) k2.toNat) → (∀ b, b ≠ gh 56 0 → AI_14 b = AI b) → (layP (AI (gh 75 0)) (AI (gh 56 0)) (AI_14 (gh 56 0)) (11520 * sd + 720 * rr).toNat k2 0) → ((I mo 26).toInt - k2) < ((NN : Nat) : Int) → gH g I R J AI_14 AJ AR H → va_S (gA g) s.heap H locs → lv_has ls 7 [(5, .int (iI k2)), (4, .int (iI to)), (3, .int (iI n)), (0, .ref mo), (1, .int (iI sd)), (2, .int (iI rr))] → W p l e rmX7_laysf s m ([.ref mo, .int (iI sd), .int (iI rr)] : List Value).toArray below meth c H locs 0 0 (MQ below (gQi g (fun (z : Int) (w : gS) => I = w.1 ∧ R = w.2.1 ∧ J = w.2.2.1 ∧ AJ = w.2.2.2.2.1 ∧ AR = w.2.2.2.2.2 ∧ (mInv g gh R I (w.2.2.2.1)) ∧ ((w.2.2.2.1) (gh 50 0) = T) ∧ ((w.2.2.2.1) (gh 75 0) = AI (gh 75 0)) ∧ (∀ b, b ≠ gh 56 0 → b ≠ gh 57 0 → (w.2.2.2.1) b = AI b) ∧ (lyP gh sd rr (I mo 26).toInt AI (w.2.2.2.1) z))) ([.ref mo, .int (iI sd), .int (iI rr)] : List Value).toArray s 0 0 (gA g)) (F0 m 58 ls []) := by
            intro NN58
            induction NN58 with
            | zero =>
              intro to k2 AI_14 H locs ls zto zk2 hv hT ha25 hk2 hto fW hly hm58 hH hS hl
              exact absurd hm58 (by omega)
            | succ NN58 ih58 =>
              intro to k2 AI_14 H locs ls zto zk2 hv hT ha25 hk2 hto fW hly hm58 hH hS hl
              refine lv_iload F.1 F.2.1 dX7_lays_58 (lv_at hl 0 rfl) ?_
              refine lv_aload_n F.1 F.2.1 dX7_lays_60 rfl (lv_at hl 3 rfl) ?_
              refine g_getI (ci := 7) (k := 26) F hH rfl (by decide) iX7 hm (by decide) rfl k269 dX7_lays_61 ?_
              refine z_icmp_ge (tgt := 133) F dX7_lays_64 (by decide) zk2 (zr_t _) (fun c_16 => ?_) (fun c_16 => ?_)
              · refine lv_aload_n F.1 F.2.1 dX7_lays_133 rfl (lv_at hl 3 rfl) ?_
                obtain ⟨r_17a, r_17b⟩ : R mo 7 = some (gh 57 0) ∧ gAr g (gh 57 0) 9 176 := mR hv hm (q := (7, 176)) (by decide)
                refine g_getR (ci := 7) (k := 7) F hH rfl (by decide) iX7 hm (by decide) rfl (b := gh 57 0) r_17a k27 dX7_lays_134 ?_
                refine z_bipush F dX7_lays_137 (by decide) ?_
                refine lv_iload_n F.1 F.2.1 dX7_lays_139 rfl (lv_at hl 4 rfl) ?_
                refine z_imul F dX7_lays_140 ?_
                refine lv_iload_n F.1 F.2.1 dX7_lays_141 rfl (lv_at hl 5 rfl) ?_
                refine z_iadd F dX7_lays_142 ?_
                refine lv_iload_n F.1 F.2.1 dX7_lays_143 rfl (lv_at hl 2 rfl) ?_
                have hx144 : 0 ≤ ((16 * sd) + rr) ∧ ((16 * sd) + rr) < ((176 : Nat) : Int) ∧ ((16 * sd) + rr) ≤ 2147483647 := ⟨by omega, by omega, by omega⟩
                refine g_iast F hH hS r_17b hx144.1 hx144.2.1 hx144.2.2 dX7_lays_144 (fun H locs hH hS => ?_)
                obtain ⟨AI_18, eAI_18⟩ : ∃ qQ, qQ = gup2 AI_14 (gh 57 0) (((16 * sd) + rr)).toNat (iI (n)) := ⟨_, rfl⟩
                rw [← eAI_18] at hH
                have kAI_18 : ∀ b, b ≠ (gh 57 0) → AI_18 b = AI_14 b := fun b hb => by rw [eAI_18]; exact funext fun j => gup2_a _ _ hb
                have hvO := hv
                have t_19 : AI_18 (gh 50 0) = AI_14 (gh 50 0) := mK hv hm (p := (0, 640)) (q := (7, 176)) (by decide) (by decide) (by decide) kAI_18
                have t_19_25 : AI_18 (gh 75 0) = AI_14 (gh 75 0) := mK hv hm (p := (25, 9600)) (q := (7, 176)) (by decide) (by decide) (by decide) kAI_18
                have ha25 : AI_18 (gh 75 0) = AI (gh 75 0) := t_19_25.trans ha25
                have hv : mInv g gh R I AI_18 := mInv_sizes1 hv hm eAI_18 (by omega) (by omega)
                have hT : AI_18 (gh 50 0) = T := t_19.trans hT
                have b6 : AI_18 (gh 56 0) = AI_14 (gh 56 0) := mK hvO hm (p := (6, 126720)) (q := (7, 176)) (by decide) (by decide) (by decide) kAI_18
                have hsz : (∀ j : Nat, j ≠ (16 * sd + rr).toNat → AI_18 (gh 57 0) j = AI (gh 57 0) j) ∧ AI_18 (gh 57 0) (16 * sd + rr).toNat = iI n := ⟨fun j hj => by rw [eAI_18, gup2_k _ _ (by omega), fW _ (show gh 57 0 ≠ gh 56 0 from mNe hv hm (p := (7, 176)) (q := (6, 126720)) (by decide) (by decide) (by decide))], by rw [eAI_18, gup2_e _ _ (by omega)]⟩
                have fX : ∀ b, b ≠ gh 56 0 → b ≠ gh 57 0 → AI_18 b = AI b := fun b hb hc => (kAI_18 b hc).trans (fW b hb)
                rw [show k2 = (I mo 26).toInt by omega, ← b6] at hly
                refine z_iconst F dX7_lays_145 ?_
                exact g_iret F hr hlk hH hS hz ⟨by decide, by decide⟩ ⟨rfl, rfl, rfl, rfl, rfl, hv, hT, ha25, fX, Or.inl ⟨rfl, hly, hsz.1, hsz.2.trans (by rw [hx]), by omega⟩⟩ dX7_lays_146
              · refine lv_aload_n F.1 F.2.1 dX7_lays_67 rfl (lv_at hl 3 rfl) ?_
                obtain ⟨r_20a, r_20b⟩ : R mo 25 = some (gh 75 0) ∧ gAr g (gh 75 0) 9 9600 := mR hv hm (q := (25, 9600)) (by decide)
                refine g_getR (ci := 7) (k := 25) F hH rfl (by decide) iX7 hm (by decide) rfl (b := gh 75 0) r_20a k42 dX7_lays_68 ?_
                refine z_bipush F dX7_lays_71 (by decide) ?_
                refine lv_iload F.1 F.2.1 dX7_lays_73 (lv_at hl 0 rfl) ?_
                refine z_imul F dX7_lays_75 ?_
                refine z_iconst F dX7_lays_76 ?_
                refine z_iadd F dX7_lays_77 ?_
                have hx78 : 0 ≤ ((6 * k2) + 4) ∧ ((6 * k2) + 4) < ((9600 : Nat) : Int) ∧ ((6 * k2) + 4) ≤ 2147483647 := ⟨by omega, by omega, by omega⟩
                refine g_iald F hH r_20b hx78.1 hx78.2.1 hx78.2.2 dX7_lays_78 ?_
                refine z_name (fun v_21 ev_21 => ?_)
                have zv_21 : zr v_21 := by rw [ev_21]; exact zr_t _
                have hw78 : v_21 = tI (AI (gh 75 0)) (6 * k2 + 4) := by rw [← ha25]; exact ev_21
                refine z_if_ne (tgt := 85) F dX7_lays_79 (by decide) zv_21 (fun c_22 => ?_) (fun c_22 => ?_)
                · have s1 := wCnt_s (f := (AI (gh 75 0))) (k := k2) (by omega) (by omega)
                  have s2 := wCnt_le (f := (AI (gh 75 0))) (a := (k2 + 1).toNat) (b := (I mo 26).toInt.toNat) (by omega)
                  have s3 := wCnt_0 (f := (AI (gh 75 0))) (a := k2.toNat)
                  refine z_iconst F dX7_lays_85 ?_
                  refine lv_istore (lv' := [(6, .int (iI 0)), (5, .int (iI k2)), (4, .int (iI to)), (3, .int (iI n)), (0, .ref mo), (1, .int (iI sd)), (2, .int (iI rr))]) F.1 F.2.1 dX7_lays_86 hl (by decide) rfl (fun ls hl => ?_)
                  have cut_88_23 : ∀ (NN : Nat) (i : Int) (AI_23 : gI) (H : Heap) (locs : List Loc) (ls : Array Slot), zr i → (mInv g gh R I AI_23) → (AI_23 (gh 50 0) = T) → (AI_23 (gh 75 0) = AI (gh 75 0)) → (0 ≤ i ∧ i ≤ 6) → (∀ b, b ≠ gh 56 0 → AI_23 b = AI b) → (layP (AI (gh 75 0)) (AI (gh 56 0)) (AI_23 (gh 56 0)) (11520 * sd + 720 * rr).toNat k2 i) → (6 - i) < ((NN : Nat) : Int) → gH g I R J AI_23 AJ AR H → va_S (gA g) s.heap H locs → lv_has ls 7 [(6, .int (iI i)), (5, .int (iI k2)), (4, .int (iI to)), (3, .int (iI n)), (0, .ref mo), (1, .int (iI sd)), (2, .int (iI rr))] → W p l e rmX7_laysf s m ([.ref mo, .int (iI sd), .int (iI rr)] : List Value).toArray below meth c H locs 0 0 (MQ below (gQi g (fun (z : Int) (w : gS) => I = w.1 ∧ R = w.2.1 ∧ J = w.2.2.1 ∧ AJ = w.2.2.2.2.1 ∧ AR = w.2.2.2.2.2 ∧ (mInv g gh R I (w.2.2.2.1)) ∧ ((w.2.2.2.1) (gh 50 0) = T) ∧ ((w.2.2.2.1) (gh 75 0) = AI (gh 75 0)) ∧ (∀ b, b ≠ gh 56 0 → b ≠ gh 57 0 → (w.2.2.2.1) b = AI b) ∧ (lyP gh sd rr (I mo 26).toInt AI (w.2.2.2.1) z))) ([.ref mo, .int (iI sd), .int (iI rr)] : List Value).toArray s 0 0 (gA g)) (F0 m 88 ls []) := by
                    intro NN88
                    induction NN88 with
                    | zero =>
                      intro i AI_23 H locs ls zi hv hT ha25 hi fW hly hm88 hH hS hl
                      exact absurd hm88 (by omega)
                    | succ NN88 ih88 =>
                      intro i AI_23 H locs ls zi hv hT ha25 hi fW hly hm88 hH hS hl
                      refine lv_iload F.1 F.2.1 dX7_lays_88 (lv_at hl 0 rfl) ?_
                      refine z_bipush F dX7_lays_90 (by decide) ?_
                      refine z_icmp_ge (tgt := 124) F dX7_lays_92 (by decide) zi ⟨by decide, by decide⟩ (fun c_25 => ?_) (fun c_25 => ?_)
                      · refine z_iinc (lv' := [(4, .int (iI (to + 6))), (6, .int (iI i)), (5, .int (iI k2)), (3, .int (iI n)), (0, .ref mo), (1, .int (iI sd)), (2, .int (iI rr))]) F dX7_lays_124 hl (k := 2) rfl (by decide) rfl (fun ls hl => ?_)
                        refine z_iinc (lv' := [(5, .int (iI (k2 + 1))), (4, .int (iI (to + 6))), (6, .int (iI i)), (3, .int (iI n)), (0, .ref mo), (1, .int (iI sd)), (2, .int (iI rr))]) F dX7_lays_127 hl (k := 2) rfl (by decide) rfl (fun ls hl => ?_)
                        refine z_goto (tgt := 58) F dX7_lays_130 (by decide) ?_
                        exact ih58 (to + 6) (k2 + 1) AI_23 H locs ls ⟨by omega, by omega⟩ ⟨by omega, by omega⟩ hv hT ha25 (by omega) (by first | (rw [wCnt_z (by omega) (by omega)]; omega) | (rw [wCnt_s (by omega) (by omega)]; omega) | (show _ = _ + 6 * (0 : Int); omega)) (by first | exact fW | exact fun _ _ => rfl) (by first | exact layP_0 | exact layP_z hly (by omega) (by omega) | exact layP_n (by rw [show i = 6 by omega] at hly; exact hly) (by omega) (by omega)) (by omega) hH hS (lv_sub hl [0, 1, 3, 4, 5, 6] rfl)
                      · refine lv_aload_n F.1 F.2.1 dX7_lays_95 rfl (lv_at hl 4 rfl) ?_
                        obtain ⟨r_26a, r_26b⟩ : R mo 6 = some (gh 56 0) ∧ gAr g (gh 56 0) 9 126720 := mR hv hm (q := (6, 126720)) (by decide)
                        refine g_getR (ci := 7) (k := 6) F hH rfl (by decide) iX7 hm (by decide) rfl (b := gh 56 0) r_26a k24 dX7_lays_96 ?_
                        refine lv_iload F.1 F.2.1 dX7_lays_99 (lv_at hl 2 rfl) ?_
                        refine lv_iload F.1 F.2.1 dX7_lays_101 (lv_at hl 0 rfl) ?_
                        refine z_iadd F dX7_lays_103 ?_
                        refine lv_aload_n F.1 F.2.1 dX7_lays_104 rfl (lv_at hl 4 rfl) ?_
                        refine g_getR (ci := 7) (k := 25) F hH rfl (by decide) iX7 hm (by decide) rfl (b := gh 75 0) r_20a k42 dX7_lays_105 ?_
                        refine z_bipush F dX7_lays_108 (by decide) ?_
                        refine lv_iload F.1 F.2.1 dX7_lays_110 (lv_at hl 1 rfl) ?_
                        refine z_imul F dX7_lays_112 ?_
                        refine lv_iload F.1 F.2.1 dX7_lays_113 (lv_at hl 0 rfl) ?_
                        refine z_iadd F dX7_lays_115 ?_
                        have hx116 : 0 ≤ ((6 * k2) + i) ∧ ((6 * k2) + i) < ((9600 : Nat) : Int) ∧ ((6 * k2) + i) ≤ 2147483647 := ⟨by omega, by omega, by omega⟩
                        refine g_iald F hH r_20b hx116.1 hx116.2.1 hx116.2.2 dX7_lays_116 ?_
                        refine z_name (fun v_27 ev_27 => ?_)
                        have zv_27 : zr v_27 := by rw [ev_27]; exact zr_t _
                        have hx117 : 0 ≤ (to + i) ∧ (to + i) < ((126720 : Nat) : Int) ∧ (to + i) ≤ 2147483647 := ⟨by omega, by omega, by omega⟩
                        refine g_iast F hH hS r_26b hx117.1 hx117.2.1 hx117.2.2 dX7_lays_117 (fun H locs hH hS => ?_)
                        obtain ⟨AI_28, eAI_28⟩ : ∃ qQ, qQ = gup2 AI_23 (gh 56 0) ((to + i)).toNat (iI (v_27)) := ⟨_, rfl⟩
                        rw [← eAI_28] at hH
                        have kAI_28 : ∀ b, b ≠ (gh 56 0) → AI_28 b = AI_23 b := fun b hb => by rw [eAI_28]; exact funext fun j => gup2_a _ _ hb
                        have h27 : iI v_27 = AI (gh 75 0) (6 * k2.toNat + i.toNat) := by rw [ev_27, iI_self, ha25]; congr 1; omega
                        have hvO := hv
                        have t_29 : AI_28 (gh 50 0) = AI_23 (gh 50 0) := mK hv hm (p := (0, 640)) (q := (6, 126720)) (by decide) (by decide) (by decide) kAI_28
                        have t_29_25 : AI_28 (gh 75 0) = AI_23 (gh 75 0) := mK hv hm (p := (25, 9600)) (q := (6, 126720)) (by decide) (by decide) (by decide) kAI_28
                        have ha25 : AI_28 (gh 75 0) = AI (gh 75 0) := t_29_25.trans ha25
                        have hv : mInv g gh R I AI_28 := mInv_a hv hm (q := (6, 126720)) (by decide) (by decide) kAI_28
                        have hT : AI_28 (gh 50 0) = T := t_29.trans hT
                        have hly := layP_s hly (by omega) ⟨by omega, by omega⟩ (g'' := AI_28 (gh 56 0)) (fun p hp => by rw [eAI_28, gup2_k _ _ (by omega)]) (by rw [eAI_28, gup2_e _ _ (by omega), h27])
                        have fW : ∀ b, b ≠ gh 56 0 → AI_28 b = AI b := fun b hb => (kAI_28 b hb).trans (fW b hb)
                        refine z_iinc (lv' := [(6, .int (iI (i + 1))), (5, .int (iI k2)), (4, .int (iI to)), (3, .int (iI n)), (0, .ref mo), (1, .int (iI sd)), (2, .int (iI rr))]) F dX7_lays_118 hl (k := 0) rfl (by decide) rfl (fun ls hl => ?_)
                        refine z_goto (tgt := 88) F dX7_lays_121 (by decide) ?_
                        exact ih88 (i + 1) AI_28 H locs ls ⟨by omega, by omega⟩ hv hT ha25 (by omega) fW hly (by omega) hH hS (lv_sub hl [0, 1, 2, 3, 4, 5, 6] rfl)
                  exact cut_88_23 (((6 - 0) + 1 : Int).toNat) 0 AI_14 H locs ls ⟨by decide, by decide⟩ hv hT ha25 (by omega) fW hly (by omega) hH hS (lv_sub hl [0, 1, 2, 3, 4, 5, 6] rfl)
                · refine z_goto (tgt := 127) F dX7_lays_82 (by decide) ?_
                  refine z_iinc (lv' := [(5, .int (iI (k2 + 1))), (4, .int (iI to)), (3, .int (iI n)), (0, .ref mo), (1, .int (iI sd)), (2, .int (iI rr))]) F dX7_lays_127 hl (k := 0) rfl (by decide) rfl (fun ls hl => ?_)
                  refine z_goto (tgt := 58) F dX7_lays_130 (by decide) ?_
                  exact ih58 to (k2 + 1) AI_14 H locs ls zto ⟨by omega, by omega⟩ hv hT ha25 (by omega) (by first | (rw [wCnt_z (by omega) (by omega)]; omega) | (rw [wCnt_s (by omega) (by omega)]; omega) | (show _ = _ + 6 * (0 : Int); omega)) (by first | exact fW | exact fun _ _ => rfl) (by first | exact layP_0 | exact layP_z hly (by omega) (by omega) | exact layP_n (by rw [show i = 6 by omega] at hly; exact hly) (by omega) (by omega)) (by omega) hH hS (lv_sub hl [0, 1, 2, 3, 4, 5] rfl)
          exact cut_58_14 ((((I mo 26).toInt - 0) + 1 : Int).toNat) v_11 0 AI H locs ls zv_11 ⟨by decide, by decide⟩ hv hT ha25 (by omega) (by first | (rw [wCnt_z (by omega) (by omega)]; omega) | (rw [wCnt_s (by omega) (by omega)]; omega) | (show _ = _ + 6 * (0 : Int); omega)) (by first | exact fW | exact fun _ _ => rfl) (by first | exact layP_0 | exact layP_z hly (by omega) (by omega) | exact layP_n (by rw [show i = 6 by omega] at hly; exact hly) (by omega) (by omega)) (by omega) hH hS (lv_sub hl [0, 1, 2, 3, 4, 5] rfl)
        · refine z_bipush F dX7_lays_44 (by decide) ?_
          exact g_iret F hr hlk hH hS hz ⟨by decide, by decide⟩ ⟨rfl, rfl, rfl, rfl, rfl, hv, hT, ha25, fun _ _ _ => rfl, Or.inr ⟨rfl, by omega, rfl, rfl⟩⟩ dX7_lays_46
      · refine lv_aload_n F.1 F.2.1 dX7_lays_14 rfl (lv_at hl 2 rfl) ?_
        obtain ⟨r_30a, r_30b⟩ : R mo 25 = some (gh 75 0) ∧ gAr g (gh 75 0) 9 9600 := mR hv hm (q := (25, 9600)) (by decide)
        refine g_getR (ci := 7) (k := 25) F hH rfl (by decide) iX7 hm (by decide) rfl (b := gh 75 0) r_30a k42 dX7_lays_15 ?_
        refine z_bipush F dX7_lays_18 (by decide) ?_
        refine lv_iload F.1 F.2.1 dX7_lays_20 (lv_at hl 0 rfl) ?_
        refine z_imul F dX7_lays_22 ?_
        refine z_iconst F dX7_lays_23 ?_
        refine z_iadd F dX7_lays_24 ?_
        have hx25 : 0 ≤ ((6 * k) + 4) ∧ ((6 * k) + 4) < ((9600 : Nat) : Int) ∧ ((6 * k) + 4) ≤ 2147483647 := ⟨by omega, by omega, by omega⟩
        refine g_iald F hH r_30b hx25.1 hx25.2.1 hx25.2.2 dX7_lays_25 ?_
        refine z_name (fun v_31 ev_31 => ?_)
        have zv_31 : zr v_31 := by rw [ev_31]; exact zr_t _
        have hw25 : v_31 = tI (AI (gh 75 0)) (6 * k + 4) := by rw [← ha25]; exact ev_31
        refine z_if_eq (tgt := 32) F dX7_lays_26 (by decide) zv_31 (fun c_32 => ?_) (fun c_32 => ?_)
        · refine z_iinc (lv' := [(4, .int (iI (k + 1))), (3, .int (iI n)), (0, .ref mo), (1, .int (iI sd)), (2, .int (iI rr))]) F dX7_lays_32 hl (k := 0) rfl (by decide) rfl (fun ls hl => ?_)
          refine z_goto (tgt := 5) F dX7_lays_35 (by decide) ?_
          exact ih5 n (k + 1) H locs ls zn ⟨by omega, by omega⟩ (by omega) (by first | rfl | (rw [wCnt_z (by omega) (by omega)]; omega) | (rw [wCnt_s (by omega) (by omega)]; omega)) (by omega) hH hS (lv_sub hl [0, 1, 2, 3, 4] rfl)
        · refine z_iinc (lv' := [(3, .int (iI (n + 1))), (4, .int (iI k)), (0, .ref mo), (1, .int (iI sd)), (2, .int (iI rr))]) F dX7_lays_29 hl (k := 1) rfl (by decide) rfl (fun ls hl => ?_)
          refine z_iinc (lv' := [(4, .int (iI (k + 1))), (3, .int (iI (n + 1))), (0, .ref mo), (1, .int (iI sd)), (2, .int (iI rr))]) F dX7_lays_32 hl (k := 1) rfl (by decide) rfl (fun ls hl => ?_)
          refine z_goto (tgt := 5) F dX7_lays_35 (by decide) ?_
          exact ih5 (n + 1) (k + 1) H locs ls ⟨by omega, by omega⟩ ⟨by omega, by omega⟩ (by omega) (by first | rfl | (rw [wCnt_z (by omega) (by omega)]; omega) | (rw [wCnt_s (by omega) (by omega)]; omega)) (by omega) hH hS (lv_sub hl [0, 1, 2, 3, 4] rfl)
  exact cut_5_0 ((((I mo 26).toInt - 0) + 1 : Int).toNat) 0 0 H locs ls ⟨by decide, by decide⟩ ⟨by decide, by decide⟩ (by omega) (by first | rfl | (rw [wCnt_z (by omega) (by omega)]; omega) | (rw [wCnt_s (by omega) (by omega)]; omega)) (by omega) hH hS (lv_sub hl [0, 1, 2, 3, 4] rfl)
