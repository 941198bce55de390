def rmX7_termsToldg : Room := { frames := 4, cells := 0, slots := 0, locals := 89 }
set_option maxHeartbeats 4000000 in
set_option maxRecDepth 100000 in
/-- terms told -/
theorem c_X7_termsToldg (l : Launch) (g : gG) (gh : gGh) (T : Nat → Int32) (M : Int) (b : tTx) (nn nr : Nat) (nt : Nat → Nat) (cc : Nat → Int) (f : Int) (h : Nat) (I : gI) (R : gR) (J : gJ) (AI : gI) (AJ : gJ) (AR : gR) (mo : Nat) (bl : Int) (fm : Int) (zbl : zr bl) (zfm : zr fm) (hv : mInv g gh R I AI) (hm : gO g mo 7) (hT : AI (gh 50 0) = T) (hE : (I mo 20).toInt ≤ 936) (hM : (I mo 24).toInt = 0 → (I mo 5).toInt ≤ 15) (hMM : (I mo 5).toInt = M) (hfm : 0 ≤ fm ∧ fm ≤ 1) (h65 : gh 9 (gh 65 0) ≠ 5) (hbM : ∀ k : Nat, k < nn → ((gM g).2 (gh 65 0) k).toInt = b k % 256) (hr7 : ∀ k : Nat, -128 ≤ b k ∧ b k ≤ 127) (hsz : (I mo 18).toInt = (nn : Int)) (hn9 : nn ≤ 900) (hm5 : (I mo 5).toInt = (nr : Int)) (hQ : mQ gh I J AI AJ mo b nn nr nt cc f h) : gMet l g yX7_termsTold tsX7_termsTold rmX7_termsToldg [.ref mo, .int (iI bl), .int (iI fm)] (I, R, J, AI, AJ, AR) (gQi g (fun (z : Int) (w : gS) => R = w.2.1 ∧ AJ = w.2.2.2.2.1 ∧ AR = w.2.2.2.2.2 ∧ (mInv g gh R (w.1) (w.2.2.2.1)) ∧ ((w.2.2.2.1) (gh 50 0) = T) ∧ (qF mo I (w.1)) ∧ (((w.1) mo 20).toInt ≤ 936 ∧ (I mo 24).toInt ≤ ((w.1) mo 24).toInt) ∧ (0 ≤ z ∧ z ≤ 5) ∧ (((w.1) mo 24).toInt = 0 → 1 ≤ z ∧ z ≤ 4 ∧ termP ((w.2.2.2.1) (gh 53 0)) M fm z ∧ trF (AI (gh 53 0)) ((w.2.2.2.1) (gh 53 0)) M fm) ∧ (mQ gh (w.1) (w.2.2.1) (w.2.2.2.1) AJ mo b nn nr nt cc (thn (f, h, 0) (fun t _ => sTerms b nn bl 5 0 t)).1 (thn (f, h, 0) (fun t _ => sTerms b nn bl 5 0 t)).2.1) ∧ (pIm (thn (f, h, 0) (fun t _ => sTerms b nn bl 5 0 t)).1 z (thn (f, h, 0) (fun t _ => sTerms b nn bl 5 0 t)).2.2) ∧ (zIf (thn (f, h, 0) (fun t _ => sTerms b nn bl 5 0 t)).1 (qAll (rTerm b nn M fm) (nxE b nn) ((w.2.2.2.1) (gh 53 0)) h ((iCnt (nxE b nn) (spC b nn) 5 h : Nat) : Int) ∧ z = ((iCnt (nxE b nn) (spC b nn) 5 h : Nat) : Int))) ∧ (∀ b, b ≠ gh 53 0 → (w.2.2.2.1) b = AI b))) := by
  refine gStart (cc := cX7_termsTold) (maxL := 8) (ret := (some (.int))) (by decide) rfl (Nat.le_of_ble_eq_true rfl) ?_
  intro p e s m below meth c ls F hr hlk hH hz hS hl
  have hl : lv_has ls 8 [(0, .ref mo), (1, .int (iI bl)), (2, .int (iI fm))] := hl
  have hS : va_S (gA g) s.heap s.heap [] := hS
  obtain ⟨H, hHe⟩ : ∃ H : Heap, H = s.heap := ⟨_, rfl⟩
  obtain ⟨locs, hlo⟩ : ∃ k : List Loc, k = [] := ⟨_, rfl⟩
  have hH : gH g I R J AI AJ AR H := by rw [hHe]; exact hH
  have hS : va_S (gA g) s.heap H locs := by rw [hHe, hlo]; exact hS
  suffices hw : W p l e rmX7_termsToldg s m ([.ref mo, .int (iI bl), .int (iI fm)] : List Value).toArray below meth c H locs 0 0 (MQ below (gQi g (fun (z : Int) (w : gS) => R = w.2.1 ∧ AJ = w.2.2.2.2.1 ∧ AR = w.2.2.2.2.2 ∧ (mInv g gh R (w.1) (w.2.2.2.1)) ∧ ((w.2.2.2.1) (gh 50 0) = T) ∧ (qF mo I (w.1)) ∧ (((w.1) mo 20).toInt ≤ 936 ∧ (I mo 24).toInt ≤ ((w.1) mo 24).toInt) ∧ (0 ≤ z ∧ z ≤ 5) ∧ (((w.1) mo 24).toInt = 0 → 1 ≤ z ∧ z ≤ 4 ∧ termP ((w.2.2.2.1) (gh 53 0)) M fm z ∧ trF (AI (gh 53 0)) ((w.2.2.2.1) (gh 53 0)) M fm) ∧ (mQ gh (w.1) (w.2.2.1) (w.2.2.2.1) AJ mo b nn nr nt cc (thn (f, h, 0) (fun t _ => sTerms b nn bl 5 0 t)).1 (thn (f, h, 0) (fun t _ => sTerms b nn bl 5 0 t)).2.1) ∧ (pIm (thn (f, h, 0) (fun t _ => sTerms b nn bl 5 0 t)).1 z (thn (f, h, 0) (fun t _ => sTerms b nn bl 5 0 t)).2.2) ∧ (zIf (thn (f, h, 0) (fun t _ => sTerms b nn bl 5 0 t)).1 (qAll (rTerm b nn M fm) (nxE b nn) ((w.2.2.2.1) (gh 53 0)) h ((iCnt (nxE b nn) (spC b nn) 5 h : Nat) : Int) ∧ z = ((iCnt (nxE b nn) (spC b nn) 5 h : Nat) : Int))) ∧ (∀ b, b ≠ gh 53 0 → (w.2.2.2.1) b = AI b))) ([.ref mo, .int (iI bl), .int (iI fm)] : List Value).toArray s 0 0 (gA g)) (F0 m 0 ls []) by
    rw [hHe, hlo] at hw; exact hw
  clear hHe hlo
  have pf : qF mo I I := qF_r
  have hb0 := mJ hv hm
  unfold mNum1 at hb0
  have iX7 : ∀ w ∈ u_ws RX7 TX7 32, w ∈ tsX7_termsTold := fun w h => List.mem_cons_of_mem _ (inTB7 w h)
  have k81 : Cond.fieldLink RX7 81 (TX7 24).1 (TX7 24).2.1 (TX7 24).2.2.1 ∈ tsX7_termsTold := List.mem_cons_of_mem _ fl_81
  have k94 : Cond.fieldLink RX7 94 (TX7 21).1 (TX7 21).2.1 (TX7 21).2.2.1 ∈ tsX7_termsTold := List.mem_cons_of_mem _ fl_94
  have k97 : Cond.fieldLink RX7 97 (TX7 23).1 (TX7 23).2.1 (TX7 23).2.2.1 ∈ tsX7_termsTold := List.mem_cons_of_mem _ fl_97
  have hf0 := mQ_p hQ
  by_cases q0 : f = 0
  · have hQ := mQ_ok hQ q0
    have hz0 := mQ_0 hQ rfl
    refine z_iconst F dX7_termsTold_0 ?_
    refine lv_istore_n (lv' := [(3, .int (iI 0)), (0, .ref mo), (1, .int (iI bl)), (2, .int (iI fm))]) F.1 F.2.1 dX7_termsTold_1 rfl hl (by decide) rfl (fun ls hl => ?_)
    refine z_iconst F dX7_termsTold_2 ?_
    refine lv_istore (lv' := [(4, .int (iI 1)), (3, .int (iI 0)), (0, .ref mo), (1, .int (iI bl)), (2, .int (iI fm))]) F.1 F.2.1 dX7_termsTold_3 hl (by decide) rfl (fun ls hl => ?_)
    have cut_5_3 : ∀ (NN : Nat) (n mr : Int) (I_1 : gI) (J_2 : gJ) (AI_3 : gI) (H : Heap) (locs : List Loc) (ls : Array Slot), zr n → zr mr → (mInv g gh R I_1 AI_3) → (AI_3 (gh 50 0) = T) → (qF mo I I_1) → ((I_1 mo 20).toInt ≤ 936 ∧ (I mo 24).toInt ≤ (I_1 mo 24).toInt ∧ 0 ≤ n ∧ n ≤ 5) → (Hid ((I_1 mo 24).toInt = 0 → n ≤ 4 ∧ termP (AI_3 (gh 53 0)) M fm n ∧ trF (AI (gh 53 0)) (AI_3 (gh 53 0)) M fm)) → (∃ hc : Nat, mQ gh I_1 J_2 AI_3 AJ mo b nn nr nt cc 0 hc ∧ sTerms b nn bl 5 0 h = sTerms b nn bl (5 - n).toNat n hc ∧ iL (nxE b nn) (spC b nn) 5 h n hc ∧ qAll (rTerm b nn M fm) (nxE b nn) (AI_3 (gh 53 0)) h n) → (mr = 1) → (∀ b, b ≠ gh 53 0 → AI_3 b = AI b) → (6 - n) < ((NN : Nat) : Int) → gH g I_1 R J_2 AI_3 AJ AR H → va_S (gA g) s.heap H locs → lv_has ls 8 [(4, .int (iI mr)), (3, .int (iI n)), (0, .ref mo), (1, .int (iI bl)), (2, .int (iI fm))] → W p l e rmX7_termsToldg s m ([.ref mo, .int (iI bl), .int (iI fm)] : List Value).toArray below meth c H locs 0 0 (MQ below (gQi g (fun (z : Int) (w : gS) => R = w.2.1 ∧ AJ = w.2.2.2.2.1 ∧ AR = w.2.2.2.2.2 ∧ (mInv g gh R (w.1) (w.2.2.2.1)) ∧ ((w.2.2.2.1) (gh 50 0) = T) ∧ (qF mo I (w.1)) ∧ (((w.1) mo 20).toInt ≤ 936 ∧ (I mo 24).toInt ≤ ((w.1) mo 24).toInt) ∧ (0 ≤ z ∧ z ≤ 5) ∧ (((w.1) mo 24).toInt = 0 → 1 ≤ z ∧ z ≤ 4 ∧ termP ((w.2.2.2.1) (gh 53 0)) M fm z ∧ trF (AI (gh 53 0)) ((w.2.2.2.1) (gh 53 0)) M fm) ∧ (mQ gh (w.1) (w.2.2.1) (w.2.2.2.1) AJ mo b nn nr nt cc (thn (f, h, 0) (fun t _ => sTerms b nn bl 5 0 t)).1 (thn (f, h, 0) (fun t _ => sTerms b nn bl 5 0 t)).2.1) ∧ (pIm (thn (f, h, 0) (fun t _ => sTerms b nn bl 5 0 t)).1 z (thn (f, h, 0) (fun t _ => sTerms b nn bl 5 0 t)).2.2) ∧ (zIf (thn (f, h, 0) (fun t _ => sTerms b nn bl 5 0 t)).1 (qAll (rTerm b nn M fm) (nxE b nn) ((w.2.2.2.1) (gh 53 0)) h ((iCnt (nxE b nn) (spC b nn) 5 h : Nat) : Int) ∧ z = ((iCnt (nxE b nn) (spC b nn) 5 h : Nat) : Int))) ∧ (∀ b, b ≠ gh 53 0 → (w.2.2.2.1) b = AI b))) ([.ref mo, .int (iI bl), .int (iI fm)] : List Value).toArray s 0 0 (gA g)) (F0 m 5 ls []) := by
      intro NN5
      induction NN5 with
      | zero =>
        intro n mr I_1 J_2 AI_3 H locs ls zn zmr hv hT pf hx hp hLs hmr fA9 hm5 hH hS hl
        exact absurd hm5 (by omega)
      | succ NN5 ih5 =>
        intro n mr I_1 J_2 AI_3 H locs ls zn zmr hv hT pf hx hp hLs hmr fA9 hm5 hH hS hl
        have uc_2 : (I_1 mo 2).toInt = (I mo 2).toInt := by rw [pf 2 (by decide) (by decide) (by decide) (by decide) (by decide)]
        have uc_5 : (I_1 mo 5).toInt = (I mo 5).toInt := by rw [pf 5 (by decide) (by decide) (by decide) (by decide) (by decide)]
        have uc_14 : (I_1 mo 14).toInt = (I mo 14).toInt := by rw [pf 14 (by decide) (by decide) (by decide) (by decide) (by decide)]
        have uc_16 : (I_1 mo 16).toInt = (I mo 16).toInt := by rw [pf 16 (by decide) (by decide) (by decide) (by decide) (by decide)]
        have uc_18 : (I_1 mo 18).toInt = (I mo 18).toInt := by rw [pf 18 (by decide) (by decide) (by decide) (by decide) (by decide)]
        obtain ⟨hc, hQ, hsq⟩ := hLs
        have hp_k := hp (mQ_0 hQ rfl)
        obtain ⟨hsq, hil, hqa⟩ := hsq
        refine lv_iload F.1 F.2.1 dX7_termsTold_5 (lv_at hl 0 rfl) ?_
        refine z_if_eq (tgt := 181) F dX7_termsTold_7 (by decide) zmr (fun c_5 => ?_) (fun c_5 => ?_)
        · exact absurd hmr (by omega)
        · refine lv_aload_n F.1 F.2.1 dX7_termsTold_10 rfl (lv_at hl 2 rfl) ?_
          refine g_getI (ci := 7) (k := 24) F hH rfl (by decide) iX7 hm (by decide) rfl k81 dX7_termsTold_11 ?_
          have b_6 := mJ hv hm
          unfold mNum1 at b_6
          refine z_if_ne (tgt := 181) F dX7_termsTold_14 (by decide) (zr_t _) (fun c_7 => ?_) (fun c_7 => ?_)
          · exact absurd (mQ_0 hQ rfl) (by omega)
          · have cut_161_10 : ∀ (l3 : Int) (I_8 : gI) (J_9 : gJ) (AI_10 : gI) (H : Heap) (locs : List Loc) (ls : Array Slot), zr l3 → (mInv g gh R I_8 AI_10) → (AI_10 (gh 50 0) = T) → (qF mo I I_8) → (∃ (f9 : Int) (h9 : Nat), f9 ≠ 0 ∧ mQ gh I_8 J_9 AI_10 AJ mo b nn nr nt cc f9 h9 ∧ thn (f, h, 0) (fun t _ => sTerms b nn bl 5 0 t) = (f9, h9, 0)) → ((I_8 mo 20).toInt ≤ 936 ∧ (I mo 24).toInt ≤ (I_8 mo 24).toInt) → (0 ≤ l3 ∧ l3 ≤ 5) → (∀ b, b ≠ gh 53 0 → AI_10 b = AI b) → gH g I_8 R J_9 AI_10 AJ AR H → va_S (gA g) s.heap H locs → lv_has ls 8 [(4, .int (iI mr)), (3, .int (iI l3)), (0, .ref mo), (1, .int (iI bl)), (2, .int (iI fm))] → W p l e rmX7_termsToldg s m ([.ref mo, .int (iI bl), .int (iI fm)] : List Value).toArray below meth c H locs 0 0 (MQ below (gQi g (fun (z : Int) (w : gS) => R = w.2.1 ∧ AJ = w.2.2.2.2.1 ∧ AR = w.2.2.2.2.2 ∧ (mInv g gh R (w.1) (w.2.2.2.1)) ∧ ((w.2.2.2.1) (gh 50 0) = T) ∧ (qF mo I (w.1)) ∧ (((w.1) mo 20).toInt ≤ 936 ∧ (I mo 24).toInt ≤ ((w.1) mo 24).toInt) ∧ (0 ≤ z ∧ z ≤ 5) ∧ (((w.1) mo 24).toInt = 0 → 1 ≤ z ∧ z ≤ 4 ∧ termP ((w.2.2.2.1) (gh 53 0)) M fm z ∧ trF (AI (gh 53 0)) ((w.2.2.2.1) (gh 53 0)) M fm) ∧ (mQ gh (w.1) (w.2.2.1) (w.2.2.2.1) AJ mo b nn nr nt cc (thn (f, h, 0) (fun t _ => sTerms b nn bl 5 0 t)).1 (thn (f, h, 0) (fun t _ => sTerms b nn bl 5 0 t)).2.1) ∧ (pIm (thn (f, h, 0) (fun t _ => sTerms b nn bl 5 0 t)).1 z (thn (f, h, 0) (fun t _ => sTerms b nn bl 5 0 t)).2.2) ∧ (zIf (thn (f, h, 0) (fun t _ => sTerms b nn bl 5 0 t)).1 (qAll (rTerm b nn M fm) (nxE b nn) ((w.2.2.2.1) (gh 53 0)) h ((iCnt (nxE b nn) (spC b nn) 5 h : Nat) : Int) ∧ z = ((iCnt (nxE b nn) (spC b nn) 5 h : Nat) : Int))) ∧ (∀ b, b ≠ gh 53 0 → (w.2.2.2.1) b = AI b))) ([.ref mo, .int (iI bl), .int (iI fm)] : List Value).toArray s 0 0 (gA g)) (F0 m 161 ls []) := by
              intro l3 I_8 J_9 AI_10 H locs ls zl3 hv hT pf hBad hx9 hl3 fA9 hH hS hl
              (try clear b_6); (try clear uc_18); (try clear uc_16); (try clear uc_14); (try clear uc_5); (try clear uc_2)
              have uc_2 : (I_8 mo 2).toInt = (I mo 2).toInt := by rw [pf 2 (by decide) (by decide) (by decide) (by decide) (by decide)]
              have uc_5 : (I_8 mo 5).toInt = (I mo 5).toInt := by rw [pf 5 (by decide) (by decide) (by decide) (by decide) (by decide)]
              have uc_14 : (I_8 mo 14).toInt = (I mo 14).toInt := by rw [pf 14 (by decide) (by decide) (by decide) (by decide) (by decide)]
              have uc_16 : (I_8 mo 16).toInt = (I mo 16).toInt := by rw [pf 16 (by decide) (by decide) (by decide) (by decide) (by decide)]
              have uc_18 : (I_8 mo 18).toInt = (I mo 18).toInt := by rw [pf 18 (by decide) (by decide) (by decide) (by decide) (by decide)]
              obtain ⟨fb9, hb9, q9, hQ, hfin⟩ := hBad
              have q9f := mQ_f hQ q9
              have q9p := mQ_p hQ
              refine lv_aload_n F.1 F.2.1 dX7_termsTold_161 rfl (lv_at hl 2 rfl) ?_
              refine z_bipush F dX7_termsTold_162 (by decide) ?_
              have b_12 := mJ hv hm
              unfold mNum1 at b_12
              refine g_calli (g_runV (As := [.int (iI 44)]) (rest := []) (ci := 7) F hl.1 hH hS hz (c_X7_isSignf l g gh T b nn nr nt cc fb9 hb9 I_8 R J_9 AI_10 AJ AR mo 44 ⟨by decide, by decide⟩ hv hm hT h65 hbM hr7 (by omega) hn9 (by omega) (by omega) hQ) (cwV 1 F.2.2.2.2.1 (good_up gT_X7_isSign) rfl rfl rfl hdX7_isSign ⟨Nat.le_of_ble_eq_true rfl, Nat.le_of_ble_eq_true rfl⟩) hm (by decide) rfl rfl rfl (Nat.le_of_ble_eq_true rfl) dX7_termsTold_164 ⟨Nat.zero_le _, Nat.zero_le _⟩) hS (fun v_19 I_13 R_14 J_15 AI_16 AJ_17 AR_18 H locs zv_19 hp_20 hH hS => ?_)
              dsimp only at hp_20
              obtain ⟨rfl, rfl, rfl, rfl, rfl, rfl, q_21, q_22⟩ := hp_20
              replace q_21 := q_21.1
              refine lv_istore (lv' := [(4, .int (iI v_19)), (3, .int (iI l3)), (0, .ref mo), (1, .int (iI bl)), (2, .int (iI fm))]) F.1 F.2.1 dX7_termsTold_167 hl (by decide) rfl (fun ls hl => ?_)
              refine lv_iload F.1 F.2.1 dX7_termsTold_169 (lv_at hl 0 rfl) ?_
              refine z_if_eq (tgt := 5) F dX7_termsTold_171 (by decide) zv_19 (fun c_23 => ?_) (fun c_23 => ?_)
              · have t_24 := tIz_0 q_22 (by omega)
                refine lv_iload F.1 F.2.1 dX7_termsTold_5 (lv_at hl 0 rfl) ?_
                refine z_if_eq (tgt := 181) F dX7_termsTold_7 (by decide) zv_19 (fun c_25 => ?_) (fun c_25 => ?_)
                · have t_26 := tIz_0 q_22 (by omega)
                  refine lv_iload_n F.1 F.2.1 dX7_termsTold_181 rfl (lv_at hl 1 rfl) ?_
                  exact g_iret F hr hlk hH hS hz zl3 ⟨rfl, rfl, rfl, hv, hT, pf, by first | (dsimp only; omega) | omega | rfl, by first | (dsimp only; omega) | omega | rfl, by (try dsimp only); exact (fun hf => absurd hf (by omega)), by (try dsimp only); rw [hfin]; exact hQ, by (try dsimp only); rw [hfin]; exact pIm_n (by omega), by (try dsimp only); rw [hfin]; exact zIf_n (by omega), fun b hb => fA9 b hb⟩ dX7_termsTold_182
                · exact absurd trivial (by omega)
              · exact absurd (tIz_1 q_22 (by omega)).1 (by omega)
            refine lv_iload_n F.1 F.2.1 dX7_termsTold_17 rfl (lv_at hl 1 rfl) ?_
            refine z_iconst F dX7_termsTold_18 ?_
            refine z_icmp_ne (tgt := 63) F dX7_termsTold_19 (by decide) zn ⟨by decide, by decide⟩ (fun c_27 => ?_) (fun c_27 => ?_)
            · have cut_158_30 : ∀ (I_28 : gI) (J_29 : gJ) (AI_30 : gI) (H : Heap) (locs : List Loc) (ls : Array Slot), (mInv g gh R I_28 AI_30) → (AI_30 (gh 50 0) = T) → (qF mo I I_28) → ((I_28 mo 20).toInt ≤ 936 ∧ (I mo 24).toInt ≤ (I_28 mo 24).toInt) → (Hid ((I_28 mo 24).toInt = 0 → n ≤ 3 ∧ termP (AI_30 (gh 53 0)) M fm (n + 1) ∧ trF (AI (gh 53 0)) (AI_30 (gh 53 0)) M fm)) → (∃ h1 : Nat, mQ gh I_28 J_29 AI_30 AJ mo b nn nr nt cc 0 h1 ∧ sTerm b nn bl n hc = (0, h1, 0)) → (qAll (rTerm b nn M fm) (nxE b nn) (AI_30 (gh 53 0)) h (n + 1)) → (∀ b, b ≠ gh 53 0 → AI_30 b = AI b) → gH g I_28 R J_29 AI_30 AJ AR H → va_S (gA g) s.heap H locs → lv_has ls 8 [(4, .int (iI mr)), (3, .int (iI n)), (0, .ref mo), (1, .int (iI bl)), (2, .int (iI fm))] → W p l e rmX7_termsToldg s m ([.ref mo, .int (iI bl), .int (iI fm)] : List Value).toArray below meth c H locs 0 0 (MQ below (gQi g (fun (z : Int) (w : gS) => R = w.2.1 ∧ AJ = w.2.2.2.2.1 ∧ AR = w.2.2.2.2.2 ∧ (mInv g gh R (w.1) (w.2.2.2.1)) ∧ ((w.2.2.2.1) (gh 50 0) = T) ∧ (qF mo I (w.1)) ∧ (((w.1) mo 20).toInt ≤ 936 ∧ (I mo 24).toInt ≤ ((w.1) mo 24).toInt) ∧ (0 ≤ z ∧ z ≤ 5) ∧ (((w.1) mo 24).toInt = 0 → 1 ≤ z ∧ z ≤ 4 ∧ termP ((w.2.2.2.1) (gh 53 0)) M fm z ∧ trF (AI (gh 53 0)) ((w.2.2.2.1) (gh 53 0)) M fm) ∧ (mQ gh (w.1) (w.2.2.1) (w.2.2.2.1) AJ mo b nn nr nt cc (thn (f, h, 0) (fun t _ => sTerms b nn bl 5 0 t)).1 (thn (f, h, 0) (fun t _ => sTerms b nn bl 5 0 t)).2.1) ∧ (pIm (thn (f, h, 0) (fun t _ => sTerms b nn bl 5 0 t)).1 z (thn (f, h, 0) (fun t _ => sTerms b nn bl 5 0 t)).2.2) ∧ (zIf (thn (f, h, 0) (fun t _ => sTerms b nn bl 5 0 t)).1 (qAll (rTerm b nn M fm) (nxE b nn) ((w.2.2.2.1) (gh 53 0)) h ((iCnt (nxE b nn) (spC b nn) 5 h : Nat) : Int) ∧ z = ((iCnt (nxE b nn) (spC b nn) 5 h : Nat) : Int))) ∧ (∀ b, b ≠ gh 53 0 → (w.2.2.2.1) b = AI b))) ([.ref mo, .int (iI bl), .int (iI fm)] : List Value).toArray s 0 0 (gA g)) (F0 m 158 ls []) := by
                intro I_28 J_29 AI_30 H locs ls hv hT pf h158a h158 hOk hqa fA9 hH hS hl
                (try clear b_6); (try clear uc_18); (try clear uc_16); (try clear uc_14); (try clear uc_5); (try clear uc_2)
                have uc_2 : (I_28 mo 2).toInt = (I mo 2).toInt := by rw [pf 2 (by decide) (by decide) (by decide) (by decide) (by decide)]
                have uc_5 : (I_28 mo 5).toInt = (I mo 5).toInt := by rw [pf 5 (by decide) (by decide) (by decide) (by decide) (by decide)]
                have uc_14 : (I_28 mo 14).toInt = (I mo 14).toInt := by rw [pf 14 (by decide) (by decide) (by decide) (by decide) (by decide)]
                have uc_16 : (I_28 mo 16).toInt = (I mo 16).toInt := by rw [pf 16 (by decide) (by decide) (by decide) (by decide) (by decide)]
                have uc_18 : (I_28 mo 18).toInt = (I mo 18).toInt := by rw [pf 18 (by decide) (by decide) (by decide) (by decide) (by decide)]
                obtain ⟨h1, hQ, hTs⟩ := hOk
                refine z_iinc (lv' := [(3, .int (iI (n + 1))), (4, .int (iI mr)), (0, .ref mo), (1, .int (iI bl)), (2, .int (iI fm))]) F dX7_termsTold_158 hl (k := 1) rfl (by decide) rfl (fun ls hl => ?_)
                refine lv_aload_n F.1 F.2.1 dX7_termsTold_161 rfl (lv_at hl 2 rfl) ?_
                refine z_bipush F dX7_termsTold_162 (by decide) ?_
                have b_32 := mJ hv hm
                unfold mNum1 at b_32
                refine g_calli (g_runV (As := [.int (iI 44)]) (rest := []) (ci := 7) F hl.1 hH hS hz (c_X7_isSignf l g gh T b nn nr nt cc 0 h1 I_28 R J_29 AI_30 AJ AR mo 44 ⟨by decide, by decide⟩ hv hm hT h65 hbM hr7 (by omega) hn9 (by omega) (by omega) hQ) (cwV 1 F.2.2.2.2.1 (good_up gT_X7_isSign) rfl rfl rfl hdX7_isSign ⟨Nat.le_of_ble_eq_true rfl, Nat.le_of_ble_eq_true rfl⟩) hm (by decide) rfl rfl rfl (Nat.le_of_ble_eq_true rfl) dX7_termsTold_164 ⟨Nat.zero_le _, Nat.zero_le _⟩) hS (fun v_39 I_33 R_34 J_35 AI_36 AJ_37 AR_38 H locs zv_39 hp_40 hH hS => ?_)
                dsimp only at hp_40
                obtain ⟨rfl, rfl, rfl, rfl, rfl, rfl, q_41, q_42⟩ := hp_40
                replace q_41 := q_41.1
                refine lv_istore (lv' := [(4, .int (iI v_39)), (3, .int (iI (n + 1))), (0, .ref mo), (1, .int (iI bl)), (2, .int (iI fm))]) F.1 F.2.1 dX7_termsTold_167 hl (by decide) rfl (fun ls hl => ?_)
                refine lv_iload F.1 F.2.1 dX7_termsTold_169 (lv_at hl 0 rfl) ?_
                refine z_if_eq (tgt := 5) F dX7_termsTold_171 (by decide) zv_39 (fun c_43 => ?_) (fun c_43 => ?_)
                · have t_44 := tIz_n q_42 (by omega)
                  have hp : Hid ((I_28 mo 24).toInt = 0 → (n + 1) ≤ 4 ∧ termP (AI_30 (gh 53 0)) M fm (n + 1) ∧ trF (AI (gh 53 0)) (AI_30 (gh 53 0)) M fm) := ((fun hf => ⟨by omega, (h158 (by omega)).2.1, (h158 (by omega)).2.2⟩))
                  have hS9 : sTerms b nn bl 5 0 h = (0, h1, n + 1) := sTerms_st hsq (f := (4 - n).toNat) (by omega) hTs.symm rfl (by omega)
                  have hcnt := iL_st hil (by omega) (sTerm_h hTs.symm rfl) (spC_n (by omega))
                  refine lv_iload F.1 F.2.1 dX7_termsTold_5 (lv_at hl 0 rfl) ?_
                  refine z_if_eq (tgt := 181) F dX7_termsTold_7 (by decide) zv_39 (fun c_45 => ?_) (fun c_45 => ?_)
                  · have t_46 := tIz_n q_42 (by omega)
                    refine lv_iload_n F.1 F.2.1 dX7_termsTold_181 rfl (lv_at hl 1 rfl) ?_
                    have hfin : thn (f, h, 0) (fun t _ => sTerms b nn bl 5 0 t) = (0, h1, n + 1) := (thn_k q0).trans hS9
                    exact g_iret F hr hlk hH hS hz ⟨by omega, by omega⟩ ⟨rfl, rfl, rfl, hv, hT, pf, by first | (dsimp only; omega) | omega | rfl, by first | (dsimp only; omega) | omega | rfl, by (try dsimp only); intro hf; exact ⟨by omega, by omega, (hp (by omega)).2.1, (hp (by omega)).2.2⟩, by (try dsimp only); rw [hfin]; exact hQ, by (try dsimp only); rw [hfin]; (try dsimp only); exact pIm_y (by omega), by (try dsimp only); rw [hfin]; exact zIf_y (⟨by rw [hcnt]; exact hqa, by omega⟩), fun b hb => fA9 b hb⟩ dX7_termsTold_182
                  · exact absurd trivial (by omega)
                · have t_47 := tIz_y q_42 (by omega)
                  refine lv_aload_n F.1 F.2.1 dX7_termsTold_174 rfl (lv_at hl 2 rfl) ?_
                  refine g_callv (g_runV (As := []) (rest := []) (ci := 7) F hl.1 hH hS hz (c_X7_nextf l g gh T b nn (tNd b nn (tPs b nn h1)) I_28 R J_29 AI_30 AJ AR mo hv hm hT (by omega) (mTp hv h65 hbM) hr7 (by omega) (by omega) (mQ_e0 hQ) tNd_le.1) (cwV 0 F.2.2.2.2.1 (good_up gT_X7_next) rfl rfl rfl hdX7_next ⟨Nat.le_of_ble_eq_true rfl, Nat.le_of_ble_eq_true rfl⟩) hm (by decide) rfl rfl rfl (Nat.le_of_ble_eq_true rfl) dX7_termsTold_175 ⟨Nat.zero_le _, Nat.zero_le _⟩) hS (fun I_48 R_49 J_50 AI_51 AJ_52 AR_53 H locs hp_54 hH hS => ?_)
                  dsimp only at hp_54
                  obtain ⟨rfl, rfl, rfl, rfl, hv, pfq, q_55, nx4, nxa, nxb⟩ := hp_54
                  have pf := qF_t pf pfq
                  have u_56_2 : (I_48 mo 2).toInt = (I mo 2).toInt := by rw [pf 2 (by decide) (by decide) (by decide) (by decide) (by decide)]
                  have u_56_5 : (I_48 mo 5).toInt = (I mo 5).toInt := by rw [pf 5 (by decide) (by decide) (by decide) (by decide) (by decide)]
                  have u_56_14 : (I_48 mo 14).toInt = (I mo 14).toInt := by rw [pf 14 (by decide) (by decide) (by decide) (by decide) (by decide)]
                  have u_56_16 : (I_48 mo 16).toInt = (I mo 16).toInt := by rw [pf 16 (by decide) (by decide) (by decide) (by decide) (by decide)]
                  have u_56_18 : (I_48 mo 18).toInt = (I mo 18).toInt := by rw [pf 18 (by decide) (by decide) (by decide) (by decide) (by decide)]
                  have hQ : mQ gh I_48 J_50 AI_30 AJ mo b nn nr nt cc 0 (h1 + 1) := mQ_nx hQ nx4 nxa
                  clear nxa nxb
                  have hsq := sTerms_go hsq (f := (4 - n).toNat) (by omega) hTs.symm rfl (by omega)
                  have hil := iL_go hil (by omega) (sTerm_h hTs.symm rfl) (spC_y (by omega))
                  refine z_goto (tgt := 5) F dX7_termsTold_178 (by decide) ?_
                  exact ih5 (n + 1) v_39 I_48 J_50 AI_30 H locs ls ⟨by omega, by omega⟩ zv_39 hv hT pf (by omega) ((fun hf => ⟨by omega, (h158 (by omega)).2.1, (h158 (by omega)).2.2⟩)) ⟨_, hQ, by rw [show (5 - (n + 1)).toNat = (4 - n).toNat by omega]; exact hsq, hil, hqa⟩ (by omega) (fun b hb => fA9 b hb) (by omega) hH hS (lv_sub hl [0, 1, 2, 3, 4] rfl)
              refine lv_aload_n F.1 F.2.1 dX7_termsTold_63 rfl (lv_at hl 2 rfl) ?_
              refine g_getI (ci := 7) (k := 21) F hH rfl (by decide) iX7 hm (by decide) rfl k94 dX7_termsTold_64 ?_
              refine z_iconst F dX7_termsTold_67 ?_
              refine z_icmp_ne (tgt := 88) F dX7_termsTold_68 (by decide) (zr_t _) ⟨by decide, by decide⟩ (fun c_57 => ?_) (fun c_57 => ?_)
              · have t_58 : pK b nn hc ≠ 4 := mQ_kn hQ rfl (c := 3) rfl (by omega)
                refine lv_aload_n F.1 F.2.1 dX7_termsTold_88 rfl (lv_at hl 2 rfl) ?_
                refine lv_iload_n F.1 F.2.1 dX7_termsTold_89 rfl (lv_at hl 3 rfl) ?_
                refine g_calli (g_runV (As := [.int (iI bl)]) (rest := []) (ci := 7) F hl.1 hH hS hz (c_X7_columnf l g gh T b nn nr nt cc 0 hc I_1 R J_2 AI_3 AJ AR mo bl zbl hv hm hT (by omega) h65 hbM hr7 (by omega) hn9 (by omega) hQ) (cwV 1 F.2.2.2.2.1 (good_up gT_X7_column) rfl rfl rfl hdX7_column ⟨Nat.le_of_ble_eq_true rfl, Nat.le_of_ble_eq_true rfl⟩) hm (by decide) rfl rfl rfl (Nat.le_of_ble_eq_true rfl) dX7_termsTold_90 ⟨Nat.zero_le _, Nat.zero_le _⟩) hS (fun v_65 I_59 R_60 J_61 AI_62 AJ_63 AR_64 H locs zv_65 hp_66 hH hS => ?_)
                dsimp only at hp_66
                obtain ⟨r_67, er_67⟩ : ∃ qQ : pR, qQ = thn (0, hc, 0) (fun t _ => sCol b nn bl t) := ⟨_, rfl⟩
                rw [← er_67] at hp_66
                obtain ⟨rfl, rfl, rfl, rfl, hv, pfq, q_68, q_69, hQ, q_70⟩ := hp_66
                have pf := qF_t pf pfq
                have u_71_2 : (I_59 mo 2).toInt = (I mo 2).toInt := by rw [pf 2 (by decide) (by decide) (by decide) (by decide) (by decide)]
                have u_71_5 : (I_59 mo 5).toInt = (I mo 5).toInt := by rw [pf 5 (by decide) (by decide) (by decide) (by decide) (by decide)]
                have u_71_14 : (I_59 mo 14).toInt = (I mo 14).toInt := by rw [pf 14 (by decide) (by decide) (by decide) (by decide) (by decide)]
                have u_71_16 : (I_59 mo 16).toInt = (I mo 16).toInt := by rw [pf 16 (by decide) (by decide) (by decide) (by decide) (by decide)]
                have u_71_18 : (I_59 mo 18).toInt = (I mo 18).toInt := by rw [pf 18 (by decide) (by decide) (by decide) (by decide) (by decide)]
                have er_67 : r_67 = sCol b nn bl hc := er_67
                have sr_67 := er_67
                rcases sCol_c er_67 with ⟨er_67, pr_67⟩ | ⟨er_67, pr_67⟩
                · have hQ : mQ gh I_59 J_61 AI_3 AJ mo b nn nr nt cc 0 (hc + 1) := by rw [er_67] at hQ; exact hQ
                  have sr_67 : sCol b nn bl hc = (0, hc + 1, pV b nn hc) := sr_67.symm.trans er_67
                  have vlr_67 := q_70 (by rw [er_67])
                  try rw [er_67] at vlr_67
                  try dsimp only at vlr_67
                  have kq_69 := q_69 (mQ_0 hQ rfl)
                  replace q_69 := hid q_69
                  obtain ⟨f1, ef1⟩ : ∃ q, q = (I_59 mo 24).toInt := ⟨_, rfl⟩
                  have hc1 : Hid (f1 = 0 → v_65 ≤ 3) := fun h9 => by omega
                  refine lv_istore (lv' := [(5, .int (iI v_65)), (4, .int (iI mr)), (3, .int (iI n)), (0, .ref mo), (1, .int (iI bl)), (2, .int (iI fm))]) F.1 F.2.1 dX7_termsTold_93 hl (by decide) rfl (fun ls hl => ?_)
                  refine z_iconst F dX7_termsTold_95 ?_
                  refine lv_istore (lv' := [(6, .int (iI 0)), (5, .int (iI v_65)), (4, .int (iI mr)), (3, .int (iI n)), (0, .ref mo), (1, .int (iI bl)), (2, .int (iI fm))]) F.1 F.2.1 dX7_termsTold_96 hl (by decide) rfl (fun ls hl => ?_)
                  refine lv_aload_n F.1 F.2.1 dX7_termsTold_98 rfl (lv_at hl 4 rfl) ?_
                  refine z_bipush F dX7_termsTold_99 (by decide) ?_
                  have b_72 := mJ hv hm
                  unfold mNum1 at b_72
                  refine g_calli (g_runV (As := [.int (iI 43)]) (rest := []) (ci := 7) F hl.1 hH hS hz (c_X7_isSignf l g gh T b nn nr nt cc 0 (hc + 1) I_59 R J_61 AI_3 AJ AR mo 43 ⟨by decide, by decide⟩ hv hm hT h65 hbM hr7 (by omega) hn9 (by omega) (by omega) hQ) (cwV 1 F.2.2.2.2.1 (good_up gT_X7_isSign) rfl rfl rfl hdX7_isSign ⟨Nat.le_of_ble_eq_true rfl, Nat.le_of_ble_eq_true rfl⟩) hm (by decide) rfl rfl rfl (Nat.le_of_ble_eq_true rfl) dX7_termsTold_101 ⟨Nat.zero_le _, Nat.zero_le _⟩) hS (fun v_79 I_73 R_74 J_75 AI_76 AJ_77 AR_78 H locs zv_79 hp_80 hH hS => ?_)
                  dsimp only at hp_80
                  obtain ⟨rfl, rfl, rfl, rfl, rfl, rfl, q_81, q_82⟩ := hp_80
                  replace q_81 := q_81.1
                  refine z_if_ne (tgt := 116) F dX7_termsTold_104 (by decide) zv_79 (fun c_83 => ?_) (fun c_83 => ?_)
                  · have t_84 := tIz_y q_82 (by omega)
                    refine lv_aload_n F.1 F.2.1 dX7_termsTold_116 rfl (lv_at hl 4 rfl) ?_
                    refine z_bipush F dX7_termsTold_117 (by decide) ?_
                    refine g_calli (g_runV (As := [.int (iI 43)]) (rest := []) (ci := 7) F hl.1 hH hS hz (c_X7_isSignf l g gh T b nn nr nt cc 0 (hc + 1) I_59 R J_61 AI_3 AJ AR mo 43 ⟨by decide, by decide⟩ hv hm hT h65 hbM hr7 (by omega) hn9 (by omega) (by omega) hQ) (cwV 1 F.2.2.2.2.1 (good_up gT_X7_isSign) rfl rfl rfl hdX7_isSign ⟨Nat.le_of_ble_eq_true rfl, Nat.le_of_ble_eq_true rfl⟩) hm (by decide) rfl rfl rfl (Nat.le_of_ble_eq_true rfl) dX7_termsTold_119 ⟨Nat.zero_le _, Nat.zero_le _⟩) hS (fun v_91 I_85 R_86 J_87 AI_88 AJ_89 AR_90 H locs zv_91 hp_92 hH hS => ?_)
                    dsimp only at hp_92
                    obtain ⟨rfl, rfl, rfl, rfl, rfl, rfl, q_93, q_94⟩ := hp_92
                    replace q_93 := q_93.1
                    refine z_if_eq (tgt := 129) F dX7_termsTold_122 (by decide) zv_91 (fun c_95 => ?_) (fun c_95 => ?_)
                    · have t_96 := tIz_n q_94 (by omega)
                      refine z_iconst F dX7_termsTold_129 ?_
                      refine lv_istore (lv' := [(7, .int (iI ((-1)))), (6, .int (iI 0)), (5, .int (iI v_65)), (4, .int (iI mr)), (3, .int (iI n)), (0, .ref mo), (1, .int (iI bl)), (2, .int (iI fm))]) F.1 F.2.1 dX7_termsTold_130 hl (by decide) rfl (fun ls hl => ?_)
                      refine lv_aload_n F.1 F.2.1 dX7_termsTold_132 rfl (lv_at hl 5 rfl) ?_
                      refine g_callv (g_runV (As := []) (rest := []) (ci := 7) F hl.1 hH hS hz (c_X7_nextf l g gh T b nn (tNd b nn (tPs b nn (hc + 1))) I_59 R J_61 AI_3 AJ AR mo hv hm hT (by omega) (mTp hv h65 hbM) hr7 (by omega) (by omega) (mQ_e0 hQ) tNd_le.1) (cwV 0 F.2.2.2.2.1 (good_up gT_X7_next) rfl rfl rfl hdX7_next ⟨Nat.le_of_ble_eq_true rfl, Nat.le_of_ble_eq_true rfl⟩) hm (by decide) rfl rfl rfl (Nat.le_of_ble_eq_true rfl) dX7_termsTold_133 ⟨Nat.zero_le _, Nat.zero_le _⟩) hS (fun I_97 R_98 J_99 AI_100 AJ_101 AR_102 H locs hp_103 hH hS => ?_)
                      dsimp only at hp_103
                      obtain ⟨rfl, rfl, rfl, rfl, hv, pfq, q_104, nx4, nxa, nxb⟩ := hp_103
                      have pf := qF_t pf pfq
                      have u_105_2 : (I_97 mo 2).toInt = (I mo 2).toInt := by rw [pf 2 (by decide) (by decide) (by decide) (by decide) (by decide)]
                      have u_105_5 : (I_97 mo 5).toInt = (I mo 5).toInt := by rw [pf 5 (by decide) (by decide) (by decide) (by decide) (by decide)]
                      have u_105_14 : (I_97 mo 14).toInt = (I mo 14).toInt := by rw [pf 14 (by decide) (by decide) (by decide) (by decide) (by decide)]
                      have u_105_16 : (I_97 mo 16).toInt = (I mo 16).toInt := by rw [pf 16 (by decide) (by decide) (by decide) (by decide) (by decide)]
                      have u_105_18 : (I_97 mo 18).toInt = (I mo 18).toInt := by rw [pf 18 (by decide) (by decide) (by decide) (by decide) (by decide)]
                      have hQ : mQ gh I_97 J_99 AI_3 AJ mo b nn nr nt cc 0 (hc + 2) := mQ_nx hQ nx4 nxa
                      clear nxa nxb
                      refine lv_iload F.1 F.2.1 dX7_termsTold_136 (lv_at hl 0 rfl) ?_
                      refine lv_aload_n F.1 F.2.1 dX7_termsTold_138 rfl (lv_at hl 5 rfl) ?_
                      have b_106 := mJ hv hm
                      unfold mNum1 at b_106
                      refine g_calli (g_runV (As := []) (rest := [.int (iI ((-1)))]) (ci := 7) F hl.1 hH hS hz (c_X7_numberToldf l g gh T b nn nr nt cc 0 (hc + 2) I_97 R J_99 AI_3 AJ AR mo hv hm hT (by omega) h65 hbM hr7 (by omega) hn9 (by omega) hQ) (cwV 0 F.2.2.2.2.1 (good_up gT_X7_numberTold) rfl rfl rfl hdX7_numberTold ⟨Nat.le_of_ble_eq_true rfl, Nat.le_of_ble_eq_true rfl⟩) hm (by decide) rfl rfl rfl (Nat.le_of_ble_eq_true rfl) dX7_termsTold_139 ⟨Nat.zero_le _, Nat.zero_le _⟩) hS (fun v_113 I_107 R_108 J_109 AI_110 AJ_111 AR_112 H locs zv_113 hp_114 hH hS => ?_)
                      dsimp only at hp_114
                      obtain ⟨r_115, er_115⟩ : ∃ qQ : pR, qQ = thn (0, (hc + 2), 0) (fun t _ => sNum b nn t) := ⟨_, rfl⟩
                      rw [← er_115] at hp_114
                      obtain ⟨rfl, rfl, rfl, rfl, hv, pfq, q_116, q_117, hQ, q_118⟩ := hp_114
                      have pf := qF_t pf pfq
                      have u_119_2 : (I_107 mo 2).toInt = (I mo 2).toInt := by rw [pf 2 (by decide) (by decide) (by decide) (by decide) (by decide)]
                      have u_119_5 : (I_107 mo 5).toInt = (I mo 5).toInt := by rw [pf 5 (by decide) (by decide) (by decide) (by decide) (by decide)]
                      have u_119_14 : (I_107 mo 14).toInt = (I mo 14).toInt := by rw [pf 14 (by decide) (by decide) (by decide) (by decide) (by decide)]
                      have u_119_16 : (I_107 mo 16).toInt = (I mo 16).toInt := by rw [pf 16 (by decide) (by decide) (by decide) (by decide) (by decide)]
                      have u_119_18 : (I_107 mo 18).toInt = (I mo 18).toInt := by rw [pf 18 (by decide) (by decide) (by decide) (by decide) (by decide)]
                      have er_115 : r_115 = sNum b nn (hc + 2) := er_115
                      have sr_115 := er_115
                      rcases sNum_c er_115 with ⟨er_115, pr_115⟩ | ⟨er_115, pr_115⟩
                      · have hQ : mQ gh I_107 J_109 AI_3 AJ mo b nn nr nt cc 0 (hc + 3) := by rw [er_115] at hQ; exact hQ
                        have sr_115 : sNum b nn (hc + 2) = (0, hc + 3, pV b nn (hc + 2)) := sr_115.symm.trans er_115
                        have vlr_115 := q_118 (by rw [er_115])
                        try rw [er_115] at vlr_115
                        try dsimp only at vlr_115
                        have kq_117 := q_117 (mQ_0 hQ rfl)
                        replace q_117 := hid q_117
                        refine z_imul F dX7_termsTold_142 ?_
                        refine z_norm (fun v_120 zv_120 ev_120 => ?_)
                        refine lv_istore (lv' := [(6, .int (iI v_120)), (7, .int (iI ((-1)))), (5, .int (iI v_65)), (4, .int (iI mr)), (3, .int (iI n)), (0, .ref mo), (1, .int (iI bl)), (2, .int (iI fm))]) F.1 F.2.1 dX7_termsTold_143 hl (by decide) rfl (fun ls hl => ?_)
                        refine lv_aload_n F.1 F.2.1 dX7_termsTold_145 rfl (lv_at hl 5 rfl) ?_
                        refine lv_iload_n F.1 F.2.1 dX7_termsTold_146 rfl (lv_at hl 7 rfl) ?_
                        refine lv_iload_n F.1 F.2.1 dX7_termsTold_147 rfl (lv_at hl 4 rfl) ?_
                        refine z_iadd F dX7_termsTold_148 ?_
                        refine lv_iload F.1 F.2.1 dX7_termsTold_149 (lv_at hl 2 rfl) ?_
                        refine lv_iload F.1 F.2.1 dX7_termsTold_151 (lv_at hl 0 rfl) ?_
                        refine z_iconst F dX7_termsTold_153 ?_
                        refine z_iconst F dX7_termsTold_154 ?_
                        have b_121 := mJ hv hm
                        unfold mNum1 at b_121
                        refine g_callv (g_runV (As := [.int (iI (fm + n)), .int (iI v_65), .int (iI v_120), .int (iI 0), .int (iI 0)]) (rest := []) (ci := 7) F hl.1 hH hS hz (c_X7_setsPartg l g gh T M I_107 R J_109 AI_3 AJ AR mo (fm + n) v_65 v_120 0 0 ⟨by omega, by omega⟩ zv_65 zv_120 ⟨by decide, by decide⟩ ⟨by decide, by decide⟩ hv hm hT (by omega) (by omega) (by omega)) (cwV 5 F.2.2.2.2.1 (good_up gT_X7_setsPart) rfl rfl rfl hdX7_setsPart ⟨Nat.le_of_ble_eq_true rfl, Nat.le_of_ble_eq_true rfl⟩) hm (by decide) rfl rfl rfl (Nat.le_of_ble_eq_true rfl) dX7_termsTold_155 ⟨Nat.zero_le _, Nat.zero_le _⟩) hS (fun I_122 R_123 J_124 AI_125 AJ_126 AR_127 H locs hp_128 hH hS => ?_)
                        dsimp only at hp_128
                        obtain ⟨rfl, rfl, rfl, rfl, rfl, hv, hT, hsp, q_129⟩ := hp_128
                        replace hsp := hid hsp
                        have hQ : mQ gh I_107 J_109 AI_125 AJ mo b nn nr nt cc 0 (hc + 3) := mQ_a hQ (fun hf9 z9 h09 h19 => (hsp hf9).1 z9 h09 (Or.inl (by omega)))
                        have pn9 := pV_n (b := b) (n := nn) (h := hc + 2) (by omega)
                        have hmu := z_eq zv_120 ⟨by omega, by omega⟩ ev_120
                        have te9 := te_m (b := b) (n := nn) (hc := hc) (by omega) (by omega)
                        have hct := rTerm_mk (b := b) (n := nn) (hc := hc) (k := n) (fm := fm) (by omega) (hsp (mQ_0 hQ rfl)) rfl (by omega) (by omega)
                        have hqa := rAll_s rTerm_l hqa hil (by omega) (by omega) (hsp (mQ_0 hQ rfl)) rfl hct
                        have hTs : sTerm b nn bl n hc = (0, hc + 3, 0) := sTerm_s (by omega) (by omega) (by omega) (by omega)
                        exact cut_158_30 I_107 J_109 AI_125 H locs ls hv hT pf (by omega) (fun hf => ⟨by omega, termP_step (by omega) (by omega) (hp (by omega)).2.1 (hsp (by omega)) (by omega), trF_step (hp (by omega)).2.2 ⟨by omega, by omega⟩ (hsp (by omega))⟩) ⟨_, hQ, hTs⟩ hqa (fun b hb => (q_129 b hb).trans (fA9 b hb)) hH hS (lv_sub hl [3, 4, 5, 6, 7] rfl)
                      · have hQ : mQ gh I_107 J_109 AI_3 AJ mo b nn nr nt cc 1 (hc + 2) := by rw [er_115] at hQ; exact hQ
                        have sr_115 := sr_115.symm.trans er_115
                        have g9r_115 := mQ_f hQ (by omega)
                        replace q_117 := hid q_117
                        refine z_imul F dX7_termsTold_142 ?_
                        refine z_norm (fun v_130 zv_130 ev_130 => ?_)
                        refine lv_istore (lv' := [(6, .int (iI v_130)), (7, .int (iI ((-1)))), (5, .int (iI v_65)), (4, .int (iI mr)), (3, .int (iI n)), (0, .ref mo), (1, .int (iI bl)), (2, .int (iI fm))]) F.1 F.2.1 dX7_termsTold_143 hl (by decide) rfl (fun ls hl => ?_)
                        refine lv_aload_n F.1 F.2.1 dX7_termsTold_145 rfl (lv_at hl 5 rfl) ?_
                        refine lv_iload_n F.1 F.2.1 dX7_termsTold_146 rfl (lv_at hl 7 rfl) ?_
                        refine lv_iload_n F.1 F.2.1 dX7_termsTold_147 rfl (lv_at hl 4 rfl) ?_
                        refine z_iadd F dX7_termsTold_148 ?_
                        refine lv_iload F.1 F.2.1 dX7_termsTold_149 (lv_at hl 2 rfl) ?_
                        refine lv_iload F.1 F.2.1 dX7_termsTold_151 (lv_at hl 0 rfl) ?_
                        refine z_iconst F dX7_termsTold_153 ?_
                        refine z_iconst F dX7_termsTold_154 ?_
                        have b_131 := mJ hv hm
                        unfold mNum1 at b_131
                        refine g_callv (g_runV (As := [.int (iI (fm + n)), .int (iI v_65), .int (iI v_130), .int (iI 0), .int (iI 0)]) (rest := []) (ci := 7) F hl.1 hH hS hz (c_X7_setsPartg l g gh T M I_107 R J_109 AI_3 AJ AR mo (fm + n) v_65 v_130 0 0 ⟨by omega, by omega⟩ zv_65 zv_130 ⟨by decide, by decide⟩ ⟨by decide, by decide⟩ hv hm hT (by omega) (by omega) (by omega)) (cwV 5 F.2.2.2.2.1 (good_up gT_X7_setsPart) rfl rfl rfl hdX7_setsPart ⟨Nat.le_of_ble_eq_true rfl, Nat.le_of_ble_eq_true rfl⟩) hm (by decide) rfl rfl rfl (Nat.le_of_ble_eq_true rfl) dX7_termsTold_155 ⟨Nat.zero_le _, Nat.zero_le _⟩) hS (fun I_132 R_133 J_134 AI_135 AJ_136 AR_137 H locs hp_138 hH hS => ?_)
                        dsimp only at hp_138
                        obtain ⟨rfl, rfl, rfl, rfl, rfl, hv, hT, hsp, q_139⟩ := hp_138
                        replace hsp := hid hsp
                        have hQ : mQ gh I_107 J_109 AI_135 AJ mo b nn nr nt cc 1 (hc + 2) := mQ_bad hQ (by omega) rfl
                        refine z_iinc (lv' := [(3, .int (iI (n + 1))), (6, .int (iI v_130)), (7, .int (iI ((-1)))), (5, .int (iI v_65)), (4, .int (iI mr)), (0, .ref mo), (1, .int (iI bl)), (2, .int (iI fm))]) F dX7_termsTold_158 hl (k := 4) rfl (by decide) rfl (fun ls hl => ?_)
                        have hTs : sTerm b nn bl n hc = (1, hc + 2, 0) := sTerm_s1 (by omega) (by omega) (by omega) (by omega)
                        have hS9 : sTerms b nn bl 5 0 h = (1, hc + 2, 0) := sTerms_no hsq (f := (4 - n).toNat) (by omega) hTs.symm (by omega)
                        have hfin : thn (f, h, 0) (fun t _ => sTerms b nn bl 5 0 t) = (1, hc + 2, 0) := (thn_k q0).trans hS9
                        exact cut_161_10 (n + 1) I_107 J_109 AI_135 H locs ls ⟨by omega, by omega⟩ hv hT pf ⟨_, _, by omega, hQ, hfin⟩ (by omega) (by omega) (fun b hb => (q_139 b hb).trans (fA9 b hb)) hH hS (lv_sub hl [4, 0, 5, 6, 7] rfl)
                    · have t_140 := tIz_y q_94 (by omega)
                      refine z_iconst F dX7_termsTold_125 ?_
                      refine z_goto (tgt := 130) F dX7_termsTold_126 (by decide) ?_
                      refine lv_istore (lv' := [(7, .int (iI 1)), (6, .int (iI 0)), (5, .int (iI v_65)), (4, .int (iI mr)), (3, .int (iI n)), (0, .ref mo), (1, .int (iI bl)), (2, .int (iI fm))]) F.1 F.2.1 dX7_termsTold_130 hl (by decide) rfl (fun ls hl => ?_)
                      refine lv_aload_n F.1 F.2.1 dX7_termsTold_132 rfl (lv_at hl 5 rfl) ?_
                      refine g_callv (g_runV (As := []) (rest := []) (ci := 7) F hl.1 hH hS hz (c_X7_nextf l g gh T b nn (tNd b nn (tPs b nn (hc + 1))) I_59 R J_61 AI_3 AJ AR mo hv hm hT (by omega) (mTp hv h65 hbM) hr7 (by omega) (by omega) (mQ_e0 hQ) tNd_le.1) (cwV 0 F.2.2.2.2.1 (good_up gT_X7_next) rfl rfl rfl hdX7_next ⟨Nat.le_of_ble_eq_true rfl, Nat.le_of_ble_eq_true rfl⟩) hm (by decide) rfl rfl rfl (Nat.le_of_ble_eq_true rfl) dX7_termsTold_133 ⟨Nat.zero_le _, Nat.zero_le _⟩) hS (fun I_141 R_142 J_143 AI_144 AJ_145 AR_146 H locs hp_147 hH hS => ?_)
                      dsimp only at hp_147
                      obtain ⟨rfl, rfl, rfl, rfl, hv, pfq, q_148, nx4, nxa, nxb⟩ := hp_147
                      have pf := qF_t pf pfq
                      have u_149_2 : (I_141 mo 2).toInt = (I mo 2).toInt := by rw [pf 2 (by decide) (by decide) (by decide) (by decide) (by decide)]
                      have u_149_5 : (I_141 mo 5).toInt = (I mo 5).toInt := by rw [pf 5 (by decide) (by decide) (by decide) (by decide) (by decide)]
                      have u_149_14 : (I_141 mo 14).toInt = (I mo 14).toInt := by rw [pf 14 (by decide) (by decide) (by decide) (by decide) (by decide)]
                      have u_149_16 : (I_141 mo 16).toInt = (I mo 16).toInt := by rw [pf 16 (by decide) (by decide) (by decide) (by decide) (by decide)]
                      have u_149_18 : (I_141 mo 18).toInt = (I mo 18).toInt := by rw [pf 18 (by decide) (by decide) (by decide) (by decide) (by decide)]
                      have hQ : mQ gh I_141 J_143 AI_3 AJ mo b nn nr nt cc 0 (hc + 2) := mQ_nx hQ nx4 nxa
                      clear nxa nxb
                      refine lv_iload F.1 F.2.1 dX7_termsTold_136 (lv_at hl 0 rfl) ?_
                      refine lv_aload_n F.1 F.2.1 dX7_termsTold_138 rfl (lv_at hl 5 rfl) ?_
                      have b_150 := mJ hv hm
                      unfold mNum1 at b_150
                      refine g_calli (g_runV (As := []) (rest := [.int (iI 1)]) (ci := 7) F hl.1 hH hS hz (c_X7_numberToldf l g gh T b nn nr nt cc 0 (hc + 2) I_141 R J_143 AI_3 AJ AR mo hv hm hT (by omega) h65 hbM hr7 (by omega) hn9 (by omega) hQ) (cwV 0 F.2.2.2.2.1 (good_up gT_X7_numberTold) rfl rfl rfl hdX7_numberTold ⟨Nat.le_of_ble_eq_true rfl, Nat.le_of_ble_eq_true rfl⟩) hm (by decide) rfl rfl rfl (Nat.le_of_ble_eq_true rfl) dX7_termsTold_139 ⟨Nat.zero_le _, Nat.zero_le _⟩) hS (fun v_157 I_151 R_152 J_153 AI_154 AJ_155 AR_156 H locs zv_157 hp_158 hH hS => ?_)
                      dsimp only at hp_158
                      obtain ⟨r_159, er_159⟩ : ∃ qQ : pR, qQ = thn (0, (hc + 2), 0) (fun t _ => sNum b nn t) := ⟨_, rfl⟩
                      rw [← er_159] at hp_158
                      obtain ⟨rfl, rfl, rfl, rfl, hv, pfq, q_160, q_161, hQ, q_162⟩ := hp_158
                      have pf := qF_t pf pfq
                      have u_163_2 : (I_151 mo 2).toInt = (I mo 2).toInt := by rw [pf 2 (by decide) (by decide) (by decide) (by decide) (by decide)]
                      have u_163_5 : (I_151 mo 5).toInt = (I mo 5).toInt := by rw [pf 5 (by decide) (by decide) (by decide) (by decide) (by decide)]
                      have u_163_14 : (I_151 mo 14).toInt = (I mo 14).toInt := by rw [pf 14 (by decide) (by decide) (by decide) (by decide) (by decide)]
                      have u_163_16 : (I_151 mo 16).toInt = (I mo 16).toInt := by rw [pf 16 (by decide) (by decide) (by decide) (by decide) (by decide)]
                      have u_163_18 : (I_151 mo 18).toInt = (I mo 18).toInt := by rw [pf 18 (by decide) (by decide) (by decide) (by decide) (by decide)]
                      have er_159 : r_159 = sNum b nn (hc + 2) := er_159
                      have sr_159 := er_159
                      rcases sNum_c er_159 with ⟨er_159, pr_159⟩ | ⟨er_159, pr_159⟩
                      · have hQ : mQ gh I_151 J_153 AI_3 AJ mo b nn nr nt cc 0 (hc + 3) := by rw [er_159] at hQ; exact hQ
                        have sr_159 : sNum b nn (hc + 2) = (0, hc + 3, pV b nn (hc + 2)) := sr_159.symm.trans er_159
                        have vlr_159 := q_162 (by rw [er_159])
                        try rw [er_159] at vlr_159
                        try dsimp only at vlr_159
                        have kq_161 := q_161 (mQ_0 hQ rfl)
                        replace q_161 := hid q_161
                        refine z_imul F dX7_termsTold_142 ?_
                        refine z_norm (fun v_164 zv_164 ev_164 => ?_)
                        refine lv_istore (lv' := [(6, .int (iI v_164)), (7, .int (iI 1)), (5, .int (iI v_65)), (4, .int (iI mr)), (3, .int (iI n)), (0, .ref mo), (1, .int (iI bl)), (2, .int (iI fm))]) F.1 F.2.1 dX7_termsTold_143 hl (by decide) rfl (fun ls hl => ?_)
                        refine lv_aload_n F.1 F.2.1 dX7_termsTold_145 rfl (lv_at hl 5 rfl) ?_
                        refine lv_iload_n F.1 F.2.1 dX7_termsTold_146 rfl (lv_at hl 7 rfl) ?_
                        refine lv_iload_n F.1 F.2.1 dX7_termsTold_147 rfl (lv_at hl 4 rfl) ?_
                        refine z_iadd F dX7_termsTold_148 ?_
                        refine lv_iload F.1 F.2.1 dX7_termsTold_149 (lv_at hl 2 rfl) ?_
                        refine lv_iload F.1 F.2.1 dX7_termsTold_151 (lv_at hl 0 rfl) ?_
                        refine z_iconst F dX7_termsTold_153 ?_
                        refine z_iconst F dX7_termsTold_154 ?_
                        have b_165 := mJ hv hm
                        unfold mNum1 at b_165
                        refine g_callv (g_runV (As := [.int (iI (fm + n)), .int (iI v_65), .int (iI v_164), .int (iI 0), .int (iI 0)]) (rest := []) (ci := 7) F hl.1 hH hS hz (c_X7_setsPartg l g gh T M I_151 R J_153 AI_3 AJ AR mo (fm + n) v_65 v_164 0 0 ⟨by omega, by omega⟩ zv_65 zv_164 ⟨by decide, by decide⟩ ⟨by decide, by decide⟩ hv hm hT (by omega) (by omega) (by omega)) (cwV 5 F.2.2.2.2.1 (good_up gT_X7_setsPart) rfl rfl rfl hdX7_setsPart ⟨Nat.le_of_ble_eq_true rfl, Nat.le_of_ble_eq_true rfl⟩) hm (by decide) rfl rfl rfl (Nat.le_of_ble_eq_true rfl) dX7_termsTold_155 ⟨Nat.zero_le _, Nat.zero_le _⟩) hS (fun I_166 R_167 J_168 AI_169 AJ_170 AR_171 H locs hp_172 hH hS => ?_)
                        dsimp only at hp_172
                        obtain ⟨rfl, rfl, rfl, rfl, rfl, hv, hT, hsp, q_173⟩ := hp_172
                        replace hsp := hid hsp
                        have hQ : mQ gh I_151 J_153 AI_169 AJ mo b nn nr nt cc 0 (hc + 3) := mQ_a hQ (fun hf9 z9 h09 h19 => (hsp hf9).1 z9 h09 (Or.inl (by omega)))
                        have pn9 := pV_n (b := b) (n := nn) (h := hc + 2) (by omega)
                        have hmu := z_eq zv_164 ⟨by omega, by omega⟩ ev_164
                        have te9 := te_p (b := b) (n := nn) (hc := hc) (by omega) (by omega)
                        have hct := rTerm_mk (b := b) (n := nn) (hc := hc) (k := n) (fm := fm) (by omega) (hsp (mQ_0 hQ rfl)) rfl (by omega) (by omega)
                        have hqa := rAll_s rTerm_l hqa hil (by omega) (by omega) (hsp (mQ_0 hQ rfl)) rfl hct
                        have hTs : sTerm b nn bl n hc = (0, hc + 3, 0) := sTerm_s (by omega) (by omega) (by omega) (by omega)
                        exact cut_158_30 I_151 J_153 AI_169 H locs ls hv hT pf (by omega) (fun hf => ⟨by omega, termP_step (by omega) (by omega) (hp (by omega)).2.1 (hsp (by omega)) (by omega), trF_step (hp (by omega)).2.2 ⟨by omega, by omega⟩ (hsp (by omega))⟩) ⟨_, hQ, hTs⟩ hqa (fun b hb => (q_173 b hb).trans (fA9 b hb)) hH hS (lv_sub hl [3, 4, 5, 6, 7] rfl)
                      · have hQ : mQ gh I_151 J_153 AI_3 AJ mo b nn nr nt cc 1 (hc + 2) := by rw [er_159] at hQ; exact hQ
                        have sr_159 := sr_159.symm.trans er_159
                        have g9r_159 := mQ_f hQ (by omega)
                        replace q_161 := hid q_161
                        refine z_imul F dX7_termsTold_142 ?_
                        refine z_norm (fun v_174 zv_174 ev_174 => ?_)
                        refine lv_istore (lv' := [(6, .int (iI v_174)), (7, .int (iI 1)), (5, .int (iI v_65)), (4, .int (iI mr)), (3, .int (iI n)), (0, .ref mo), (1, .int (iI bl)), (2, .int (iI fm))]) F.1 F.2.1 dX7_termsTold_143 hl (by decide) rfl (fun ls hl => ?_)
                        refine lv_aload_n F.1 F.2.1 dX7_termsTold_145 rfl (lv_at hl 5 rfl) ?_
                        refine lv_iload_n F.1 F.2.1 dX7_termsTold_146 rfl (lv_at hl 7 rfl) ?_
                        refine lv_iload_n F.1 F.2.1 dX7_termsTold_147 rfl (lv_at hl 4 rfl) ?_
                        refine z_iadd F dX7_termsTold_148 ?_
                        refine lv_iload F.1 F.2.1 dX7_termsTold_149 (lv_at hl 2 rfl) ?_
                        refine lv_iload F.1 F.2.1 dX7_termsTold_151 (lv_at hl 0 rfl) ?_
                        refine z_iconst F dX7_termsTold_153 ?_
                        refine z_iconst F dX7_termsTold_154 ?_
                        have b_175 := mJ hv hm
                        unfold mNum1 at b_175
                        refine g_callv (g_runV (As := [.int (iI (fm + n)), .int (iI v_65), .int (iI v_174), .int (iI 0), .int (iI 0)]) (rest := []) (ci := 7) F hl.1 hH hS hz (c_X7_setsPartg l g gh T M I_151 R J_153 AI_3 AJ AR mo (fm + n) v_65 v_174 0 0 ⟨by omega, by omega⟩ zv_65 zv_174 ⟨by decide, by decide⟩ ⟨by decide, by decide⟩ hv hm hT (by omega) (by omega) (by omega)) (cwV 5 F.2.2.2.2.1 (good_up gT_X7_setsPart) rfl rfl rfl hdX7_setsPart ⟨Nat.le_of_ble_eq_true rfl, Nat.le_of_ble_eq_true rfl⟩) hm (by decide) rfl rfl rfl (Nat.le_of_ble_eq_true rfl) dX7_termsTold_155 ⟨Nat.zero_le _, Nat.zero_le _⟩) hS (fun I_176 R_177 J_178 AI_179 AJ_180 AR_181 H locs hp_182 hH hS => ?_)
                        dsimp only at hp_182
                        obtain ⟨rfl, rfl, rfl, rfl, rfl, hv, hT, hsp, q_183⟩ := hp_182
                        replace hsp := hid hsp
                        have hQ : mQ gh I_151 J_153 AI_179 AJ mo b nn nr nt cc 1 (hc + 2) := mQ_bad hQ (by omega) rfl
                        refine z_iinc (lv' := [(3, .int (iI (n + 1))), (6, .int (iI v_174)), (7, .int (iI 1)), (5, .int (iI v_65)), (4, .int (iI mr)), (0, .ref mo), (1, .int (iI bl)), (2, .int (iI fm))]) F dX7_termsTold_158 hl (k := 4) rfl (by decide) rfl (fun ls hl => ?_)
                        have hTs : sTerm b nn bl n hc = (1, hc + 2, 0) := sTerm_s1 (by omega) (by omega) (by omega) (by omega)
                        have hS9 : sTerms b nn bl 5 0 h = (1, hc + 2, 0) := sTerms_no hsq (f := (4 - n).toNat) (by omega) hTs.symm (by omega)
                        have hfin : thn (f, h, 0) (fun t _ => sTerms b nn bl 5 0 t) = (1, hc + 2, 0) := (thn_k q0).trans hS9
                        exact cut_161_10 (n + 1) I_151 J_153 AI_179 H locs ls ⟨by omega, by omega⟩ hv hT pf ⟨_, _, by omega, hQ, hfin⟩ (by omega) (by omega) (fun b hb => (q_183 b hb).trans (fA9 b hb)) hH hS (lv_sub hl [4, 0, 5, 6, 7] rfl)
                  · have t_184 := tIz_n q_82 (by omega)
                    refine lv_aload_n F.1 F.2.1 dX7_termsTold_107 rfl (lv_at hl 4 rfl) ?_
                    refine z_bipush F dX7_termsTold_108 (by decide) ?_
                    refine g_calli (g_runV (As := [.int (iI 45)]) (rest := []) (ci := 7) F hl.1 hH hS hz (c_X7_isSignf l g gh T b nn nr nt cc 0 (hc + 1) I_59 R J_61 AI_3 AJ AR mo 45 ⟨by decide, by decide⟩ hv hm hT h65 hbM hr7 (by omega) hn9 (by omega) (by omega) hQ) (cwV 1 F.2.2.2.2.1 (good_up gT_X7_isSign) rfl rfl rfl hdX7_isSign ⟨Nat.le_of_ble_eq_true rfl, Nat.le_of_ble_eq_true rfl⟩) hm (by decide) rfl rfl rfl (Nat.le_of_ble_eq_true rfl) dX7_termsTold_110 ⟨Nat.zero_le _, Nat.zero_le _⟩) hS (fun v_191 I_185 R_186 J_187 AI_188 AJ_189 AR_190 H locs zv_191 hp_192 hH hS => ?_)
                    dsimp only at hp_192
                    obtain ⟨rfl, rfl, rfl, rfl, rfl, rfl, q_193, q_194⟩ := hp_192
                    replace q_193 := q_193.1
                    refine z_if_eq (tgt := 145) F dX7_termsTold_113 (by decide) zv_191 (fun c_195 => ?_) (fun c_195 => ?_)
                    · have t_196 := tIz_n q_194 (by omega)
                      refine lv_aload_n F.1 F.2.1 dX7_termsTold_145 rfl (lv_at hl 4 rfl) ?_
                      refine lv_iload_n F.1 F.2.1 dX7_termsTold_146 rfl (lv_at hl 6 rfl) ?_
                      refine lv_iload_n F.1 F.2.1 dX7_termsTold_147 rfl (lv_at hl 3 rfl) ?_
                      refine z_iadd F dX7_termsTold_148 ?_
                      refine lv_iload F.1 F.2.1 dX7_termsTold_149 (lv_at hl 1 rfl) ?_
                      refine lv_iload F.1 F.2.1 dX7_termsTold_151 (lv_at hl 0 rfl) ?_
                      refine z_iconst F dX7_termsTold_153 ?_
                      refine z_iconst F dX7_termsTold_154 ?_
                      refine g_callv (g_runV (As := [.int (iI (fm + n)), .int (iI v_65), .int (iI 0), .int (iI 0), .int (iI 0)]) (rest := []) (ci := 7) F hl.1 hH hS hz (c_X7_setsPartg l g gh T M I_59 R J_61 AI_3 AJ AR mo (fm + n) v_65 0 0 0 ⟨by omega, by omega⟩ zv_65 ⟨by decide, by decide⟩ ⟨by decide, by decide⟩ ⟨by decide, by decide⟩ hv hm hT (by omega) (by omega) (by omega)) (cwV 5 F.2.2.2.2.1 (good_up gT_X7_setsPart) rfl rfl rfl hdX7_setsPart ⟨Nat.le_of_ble_eq_true rfl, Nat.le_of_ble_eq_true rfl⟩) hm (by decide) rfl rfl rfl (Nat.le_of_ble_eq_true rfl) dX7_termsTold_155 ⟨Nat.zero_le _, Nat.zero_le _⟩) hS (fun I_197 R_198 J_199 AI_200 AJ_201 AR_202 H locs hp_203 hH hS => ?_)
                      dsimp only at hp_203
                      obtain ⟨rfl, rfl, rfl, rfl, rfl, hv, hT, hsp, q_204⟩ := hp_203
                      replace hsp := hid hsp
                      have hQ : mQ gh I_59 J_61 AI_200 AJ mo b nn nr nt cc 0 (hc + 1) := mQ_a hQ (fun hf9 z9 h09 h19 => (hsp hf9).1 z9 h09 (Or.inl (by omega)))
                      have te9 := te_c (b := b) (n := nn) (hc := hc) (by omega) (by omega)
                      have hct := rTerm_mk (b := b) (n := nn) (hc := hc) (k := n) (fm := fm) (by omega) (hsp (mQ_0 hQ rfl)) rfl (by omega) (by omega)
                      have hqa := rAll_s rTerm_l hqa hil (by omega) (by omega) (hsp (mQ_0 hQ rfl)) rfl hct
                      have hTs : sTerm b nn bl n hc = (0, hc + 1, 0) := sTerm_c (by omega) (by omega) (by omega)
                      exact cut_158_30 I_59 J_61 AI_200 H locs ls hv hT pf (by omega) (fun hf => ⟨by omega, termP_step (by omega) (by omega) (hp (by omega)).2.1 (hsp (by omega)) (by omega), trF_step (hp (by omega)).2.2 ⟨by omega, by omega⟩ (hsp (by omega))⟩) ⟨_, hQ, hTs⟩ hqa (fun b hb => (q_204 b hb).trans (fA9 b hb)) hH hS (lv_sub hl [2, 3, 4, 5, 6] rfl)
                    · have t_205 := tIz_y q_194 (by omega)
                      refine lv_aload_n F.1 F.2.1 dX7_termsTold_116 rfl (lv_at hl 4 rfl) ?_
                      refine z_bipush F dX7_termsTold_117 (by decide) ?_
                      refine g_calli (g_runV (As := [.int (iI 43)]) (rest := []) (ci := 7) F hl.1 hH hS hz (c_X7_isSignf l g gh T b nn nr nt cc 0 (hc + 1) I_59 R J_61 AI_3 AJ AR mo 43 ⟨by decide, by decide⟩ hv hm hT h65 hbM hr7 (by omega) hn9 (by omega) (by omega) hQ) (cwV 1 F.2.2.2.2.1 (good_up gT_X7_isSign) rfl rfl rfl hdX7_isSign ⟨Nat.le_of_ble_eq_true rfl, Nat.le_of_ble_eq_true rfl⟩) hm (by decide) rfl rfl rfl (Nat.le_of_ble_eq_true rfl) dX7_termsTold_119 ⟨Nat.zero_le _, Nat.zero_le _⟩) hS (fun v_212 I_206 R_207 J_208 AI_209 AJ_210 AR_211 H locs zv_212 hp_213 hH hS => ?_)
                      dsimp only at hp_213
                      obtain ⟨rfl, rfl, rfl, rfl, rfl, rfl, q_214, q_215⟩ := hp_213
                      replace q_214 := q_214.1
                      refine z_if_eq (tgt := 129) F dX7_termsTold_122 (by decide) zv_212 (fun c_216 => ?_) (fun c_216 => ?_)
                      · have t_217 := tIz_n q_215 (by omega)
                        refine z_iconst F dX7_termsTold_129 ?_
                        refine lv_istore (lv' := [(7, .int (iI ((-1)))), (6, .int (iI 0)), (5, .int (iI v_65)), (4, .int (iI mr)), (3, .int (iI n)), (0, .ref mo), (1, .int (iI bl)), (2, .int (iI fm))]) F.1 F.2.1 dX7_termsTold_130 hl (by decide) rfl (fun ls hl => ?_)
                        refine lv_aload_n F.1 F.2.1 dX7_termsTold_132 rfl (lv_at hl 5 rfl) ?_
                        refine g_callv (g_runV (As := []) (rest := []) (ci := 7) F hl.1 hH hS hz (c_X7_nextf l g gh T b nn (tNd b nn (tPs b nn (hc + 1))) I_59 R J_61 AI_3 AJ AR mo hv hm hT (by omega) (mTp hv h65 hbM) hr7 (by omega) (by omega) (mQ_e0 hQ) tNd_le.1) (cwV 0 F.2.2.2.2.1 (good_up gT_X7_next) rfl rfl rfl hdX7_next ⟨Nat.le_of_ble_eq_true rfl, Nat.le_of_ble_eq_true rfl⟩) hm (by decide) rfl rfl rfl (Nat.le_of_ble_eq_true rfl) dX7_termsTold_133 ⟨Nat.zero_le _, Nat.zero_le _⟩) hS (fun I_218 R_219 J_220 AI_221 AJ_222 AR_223 H locs hp_224 hH hS => ?_)
                        dsimp only at hp_224
                        obtain ⟨rfl, rfl, rfl, rfl, hv, pfq, q_225, nx4, nxa, nxb⟩ := hp_224
                        have pf := qF_t pf pfq
                        have u_226_2 : (I_218 mo 2).toInt = (I mo 2).toInt := by rw [pf 2 (by decide) (by decide) (by decide) (by decide) (by decide)]
                        have u_226_5 : (I_218 mo 5).toInt = (I mo 5).toInt := by rw [pf 5 (by decide) (by decide) (by decide) (by decide) (by decide)]
                        have u_226_14 : (I_218 mo 14).toInt = (I mo 14).toInt := by rw [pf 14 (by decide) (by decide) (by decide) (by decide) (by decide)]
                        have u_226_16 : (I_218 mo 16).toInt = (I mo 16).toInt := by rw [pf 16 (by decide) (by decide) (by decide) (by decide) (by decide)]
                        have u_226_18 : (I_218 mo 18).toInt = (I mo 18).toInt := by rw [pf 18 (by decide) (by decide) (by decide) (by decide) (by decide)]
                        have hQ : mQ gh I_218 J_220 AI_3 AJ mo b nn nr nt cc 0 (hc + 2) := mQ_nx hQ nx4 nxa
                        clear nxa nxb
                        refine lv_iload F.1 F.2.1 dX7_termsTold_136 (lv_at hl 0 rfl) ?_
                        refine lv_aload_n F.1 F.2.1 dX7_termsTold_138 rfl (lv_at hl 5 rfl) ?_
                        have b_227 := mJ hv hm
                        unfold mNum1 at b_227
                        refine g_calli (g_runV (As := []) (rest := [.int (iI ((-1)))]) (ci := 7) F hl.1 hH hS hz (c_X7_numberToldf l g gh T b nn nr nt cc 0 (hc + 2) I_218 R J_220 AI_3 AJ AR mo hv hm hT (by omega) h65 hbM hr7 (by omega) hn9 (by omega) hQ) (cwV 0 F.2.2.2.2.1 (good_up gT_X7_numberTold) rfl rfl rfl hdX7_numberTold ⟨Nat.le_of_ble_eq_true rfl, Nat.le_of_ble_eq_true rfl⟩) hm (by decide) rfl rfl rfl (Nat.le_of_ble_eq_true rfl) dX7_termsTold_139 ⟨Nat.zero_le _, Nat.zero_le _⟩) hS (fun v_234 I_228 R_229 J_230 AI_231 AJ_232 AR_233 H locs zv_234 hp_235 hH hS => ?_)
                        dsimp only at hp_235
                        obtain ⟨r_236, er_236⟩ : ∃ qQ : pR, qQ = thn (0, (hc + 2), 0) (fun t _ => sNum b nn t) := ⟨_, rfl⟩
                        rw [← er_236] at hp_235
                        obtain ⟨rfl, rfl, rfl, rfl, hv, pfq, q_237, q_238, hQ, q_239⟩ := hp_235
                        have pf := qF_t pf pfq
                        have u_240_2 : (I_228 mo 2).toInt = (I mo 2).toInt := by rw [pf 2 (by decide) (by decide) (by decide) (by decide) (by decide)]
                        have u_240_5 : (I_228 mo 5).toInt = (I mo 5).toInt := by rw [pf 5 (by decide) (by decide) (by decide) (by decide) (by decide)]
                        have u_240_14 : (I_228 mo 14).toInt = (I mo 14).toInt := by rw [pf 14 (by decide) (by decide) (by decide) (by decide) (by decide)]
                        have u_240_16 : (I_228 mo 16).toInt = (I mo 16).toInt := by rw [pf 16 (by decide) (by decide) (by decide) (by decide) (by decide)]
                        have u_240_18 : (I_228 mo 18).toInt = (I mo 18).toInt := by rw [pf 18 (by decide) (by decide) (by decide) (by decide) (by decide)]
                        have er_236 : r_236 = sNum b nn (hc + 2) := er_236
                        have sr_236 := er_236
                        rcases sNum_c er_236 with ⟨er_236, pr_236⟩ | ⟨er_236, pr_236⟩
                        · have hQ : mQ gh I_228 J_230 AI_3 AJ mo b nn nr nt cc 0 (hc + 3) := by rw [er_236] at hQ; exact hQ
                          have sr_236 : sNum b nn (hc + 2) = (0, hc + 3, pV b nn (hc + 2)) := sr_236.symm.trans er_236
                          have vlr_236 := q_239 (by rw [er_236])
                          try rw [er_236] at vlr_236
                          try dsimp only at vlr_236
                          have kq_238 := q_238 (mQ_0 hQ rfl)
                          replace q_238 := hid q_238
                          refine z_imul F dX7_termsTold_142 ?_
                          refine z_norm (fun v_241 zv_241 ev_241 => ?_)
                          refine lv_istore (lv' := [(6, .int (iI v_241)), (7, .int (iI ((-1)))), (5, .int (iI v_65)), (4, .int (iI mr)), (3, .int (iI n)), (0, .ref mo), (1, .int (iI bl)), (2, .int (iI fm))]) F.1 F.2.1 dX7_termsTold_143 hl (by decide) rfl (fun ls hl => ?_)
                          refine lv_aload_n F.1 F.2.1 dX7_termsTold_145 rfl (lv_at hl 5 rfl) ?_
                          refine lv_iload_n F.1 F.2.1 dX7_termsTold_146 rfl (lv_at hl 7 rfl) ?_
                          refine lv_iload_n F.1 F.2.1 dX7_termsTold_147 rfl (lv_at hl 4 rfl) ?_
                          refine z_iadd F dX7_termsTold_148 ?_
                          refine lv_iload F.1 F.2.1 dX7_termsTold_149 (lv_at hl 2 rfl) ?_
                          refine lv_iload F.1 F.2.1 dX7_termsTold_151 (lv_at hl 0 rfl) ?_
                          refine z_iconst F dX7_termsTold_153 ?_
                          refine z_iconst F dX7_termsTold_154 ?_
                          have b_242 := mJ hv hm
                          unfold mNum1 at b_242
                          refine g_callv (g_runV (As := [.int (iI (fm + n)), .int (iI v_65), .int (iI v_241), .int (iI 0), .int (iI 0)]) (rest := []) (ci := 7) F hl.1 hH hS hz (c_X7_setsPartg l g gh T M I_228 R J_230 AI_3 AJ AR mo (fm + n) v_65 v_241 0 0 ⟨by omega, by omega⟩ zv_65 zv_241 ⟨by decide, by decide⟩ ⟨by decide, by decide⟩ hv hm hT (by omega) (by omega) (by omega)) (cwV 5 F.2.2.2.2.1 (good_up gT_X7_setsPart) rfl rfl rfl hdX7_setsPart ⟨Nat.le_of_ble_eq_true rfl, Nat.le_of_ble_eq_true rfl⟩) hm (by decide) rfl rfl rfl (Nat.le_of_ble_eq_true rfl) dX7_termsTold_155 ⟨Nat.zero_le _, Nat.zero_le _⟩) hS (fun I_243 R_244 J_245 AI_246 AJ_247 AR_248 H locs hp_249 hH hS => ?_)
                          dsimp only at hp_249
                          obtain ⟨rfl, rfl, rfl, rfl, rfl, hv, hT, hsp, q_250⟩ := hp_249
                          replace hsp := hid hsp
                          have hQ : mQ gh I_228 J_230 AI_246 AJ mo b nn nr nt cc 0 (hc + 3) := mQ_a hQ (fun hf9 z9 h09 h19 => (hsp hf9).1 z9 h09 (Or.inl (by omega)))
                          have pn9 := pV_n (b := b) (n := nn) (h := hc + 2) (by omega)
                          have hmu := z_eq zv_241 ⟨by omega, by omega⟩ ev_241
                          have te9 := te_m (b := b) (n := nn) (hc := hc) (by omega) (by omega)
                          have hct := rTerm_mk (b := b) (n := nn) (hc := hc) (k := n) (fm := fm) (by omega) (hsp (mQ_0 hQ rfl)) rfl (by omega) (by omega)
                          have hqa := rAll_s rTerm_l hqa hil (by omega) (by omega) (hsp (mQ_0 hQ rfl)) rfl hct
                          have hTs : sTerm b nn bl n hc = (0, hc + 3, 0) := sTerm_s (by omega) (by omega) (by omega) (by omega)
                          exact cut_158_30 I_228 J_230 AI_246 H locs ls hv hT pf (by omega) (fun hf => ⟨by omega, termP_step (by omega) (by omega) (hp (by omega)).2.1 (hsp (by omega)) (by omega), trF_step (hp (by omega)).2.2 ⟨by omega, by omega⟩ (hsp (by omega))⟩) ⟨_, hQ, hTs⟩ hqa (fun b hb => (q_250 b hb).trans (fA9 b hb)) hH hS (lv_sub hl [3, 4, 5, 6, 7] rfl)
                        · have hQ : mQ gh I_228 J_230 AI_3 AJ mo b nn nr nt cc 1 (hc + 2) := by rw [er_236] at hQ; exact hQ
                          have sr_236 := sr_236.symm.trans er_236
                          have g9r_236 := mQ_f hQ (by omega)
                          replace q_238 := hid q_238
                          refine z_imul F dX7_termsTold_142 ?_
                          refine z_norm (fun v_251 zv_251 ev_251 => ?_)
                          refine lv_istore (lv' := [(6, .int (iI v_251)), (7, .int (iI ((-1)))), (5, .int (iI v_65)), (4, .int (iI mr)), (3, .int (iI n)), (0, .ref mo), (1, .int (iI bl)), (2, .int (iI fm))]) F.1 F.2.1 dX7_termsTold_143 hl (by decide) rfl (fun ls hl => ?_)
                          refine lv_aload_n F.1 F.2.1 dX7_termsTold_145 rfl (lv_at hl 5 rfl) ?_
                          refine lv_iload_n F.1 F.2.1 dX7_termsTold_146 rfl (lv_at hl 7 rfl) ?_
                          refine lv_iload_n F.1 F.2.1 dX7_termsTold_147 rfl (lv_at hl 4 rfl) ?_
                          refine z_iadd F dX7_termsTold_148 ?_
                          refine lv_iload F.1 F.2.1 dX7_termsTold_149 (lv_at hl 2 rfl) ?_
                          refine lv_iload F.1 F.2.1 dX7_termsTold_151 (lv_at hl 0 rfl) ?_
                          refine z_iconst F dX7_termsTold_153 ?_
                          refine z_iconst F dX7_termsTold_154 ?_
                          have b_252 := mJ hv hm
                          unfold mNum1 at b_252
                          refine g_callv (g_runV (As := [.int (iI (fm + n)), .int (iI v_65), .int (iI v_251), .int (iI 0), .int (iI 0)]) (rest := []) (ci := 7) F hl.1 hH hS hz (c_X7_setsPartg l g gh T M I_228 R J_230 AI_3 AJ AR mo (fm + n) v_65 v_251 0 0 ⟨by omega, by omega⟩ zv_65 zv_251 ⟨by decide, by decide⟩ ⟨by decide, by decide⟩ hv hm hT (by omega) (by omega) (by omega)) (cwV 5 F.2.2.2.2.1 (good_up gT_X7_setsPart) rfl rfl rfl hdX7_setsPart ⟨Nat.le_of_ble_eq_true rfl, Nat.le_of_ble_eq_true rfl⟩) hm (by decide) rfl rfl rfl (Nat.le_of_ble_eq_true rfl) dX7_termsTold_155 ⟨Nat.zero_le _, Nat.zero_le _⟩) hS (fun I_253 R_254 J_255 AI_256 AJ_257 AR_258 H locs hp_259 hH hS => ?_)
                          dsimp only at hp_259
                          obtain ⟨rfl, rfl, rfl, rfl, rfl, hv, hT, hsp, q_260⟩ := hp_259
                          replace hsp := hid hsp
                          have hQ : mQ gh I_228 J_230 AI_256 AJ mo b nn nr nt cc 1 (hc + 2) := mQ_bad hQ (by omega) rfl
                          refine z_iinc (lv' := [(3, .int (iI (n + 1))), (6, .int (iI v_251)), (7, .int (iI ((-1)))), (5, .int (iI v_65)), (4, .int (iI mr)), (0, .ref mo), (1, .int (iI bl)), (2, .int (iI fm))]) F dX7_termsTold_158 hl (k := 4) rfl (by decide) rfl (fun ls hl => ?_)
                          have hTs : sTerm b nn bl n hc = (1, hc + 2, 0) := sTerm_s1 (by omega) (by omega) (by omega) (by omega)
                          have hS9 : sTerms b nn bl 5 0 h = (1, hc + 2, 0) := sTerms_no hsq (f := (4 - n).toNat) (by omega) hTs.symm (by omega)
                          have hfin : thn (f, h, 0) (fun t _ => sTerms b nn bl 5 0 t) = (1, hc + 2, 0) := (thn_k q0).trans hS9
                          exact cut_161_10 (n + 1) I_228 J_230 AI_256 H locs ls ⟨by omega, by omega⟩ hv hT pf ⟨_, _, by omega, hQ, hfin⟩ (by omega) (by omega) (fun b hb => (q_260 b hb).trans (fA9 b hb)) hH hS (lv_sub hl [4, 0, 5, 6, 7] rfl)
                      · have t_261 := tIz_y q_215 (by omega)
                        refine z_iconst F dX7_termsTold_125 ?_
                        refine z_goto (tgt := 130) F dX7_termsTold_126 (by decide) ?_
                        refine lv_istore (lv' := [(7, .int (iI 1)), (6, .int (iI 0)), (5, .int (iI v_65)), (4, .int (iI mr)), (3, .int (iI n)), (0, .ref mo), (1, .int (iI bl)), (2, .int (iI fm))]) F.1 F.2.1 dX7_termsTold_130 hl (by decide) rfl (fun ls hl => ?_)
                        refine lv_aload_n F.1 F.2.1 dX7_termsTold_132 rfl (lv_at hl 5 rfl) ?_
                        refine g_callv (g_runV (As := []) (rest := []) (ci := 7) F hl.1 hH hS hz (c_X7_nextf l g gh T b nn (tNd b nn (tPs b nn (hc + 1))) I_59 R J_61 AI_3 AJ AR mo hv hm hT (by omega) (mTp hv h65 hbM) hr7 (by omega) (by omega) (mQ_e0 hQ) tNd_le.1) (cwV 0 F.2.2.2.2.1 (good_up gT_X7_next) rfl rfl rfl hdX7_next ⟨Nat.le_of_ble_eq_true rfl, Nat.le_of_ble_eq_true rfl⟩) hm (by decide) rfl rfl rfl (Nat.le_of_ble_eq_true rfl) dX7_termsTold_133 ⟨Nat.zero_le _, Nat.zero_le _⟩) hS (fun I_262 R_263 J_264 AI_265 AJ_266 AR_267 H locs hp_268 hH hS => ?_)
                        dsimp only at hp_268
                        obtain ⟨rfl, rfl, rfl, rfl, hv, pfq, q_269, nx4, nxa, nxb⟩ := hp_268
                        have pf := qF_t pf pfq
                        have u_270_2 : (I_262 mo 2).toInt = (I mo 2).toInt := by rw [pf 2 (by decide) (by decide) (by decide) (by decide) (by decide)]
                        have u_270_5 : (I_262 mo 5).toInt = (I mo 5).toInt := by rw [pf 5 (by decide) (by decide) (by decide) (by decide) (by decide)]
                        have u_270_14 : (I_262 mo 14).toInt = (I mo 14).toInt := by rw [pf 14 (by decide) (by decide) (by decide) (by decide) (by decide)]
                        have u_270_16 : (I_262 mo 16).toInt = (I mo 16).toInt := by rw [pf 16 (by decide) (by decide) (by decide) (by decide) (by decide)]
                        have u_270_18 : (I_262 mo 18).toInt = (I mo 18).toInt := by rw [pf 18 (by decide) (by decide) (by decide) (by decide) (by decide)]
                        have hQ : mQ gh I_262 J_264 AI_3 AJ mo b nn nr nt cc 0 (hc + 2) := mQ_nx hQ nx4 nxa
                        clear nxa nxb
                        refine lv_iload F.1 F.2.1 dX7_termsTold_136 (lv_at hl 0 rfl) ?_
                        refine lv_aload_n F.1 F.2.1 dX7_termsTold_138 rfl (lv_at hl 5 rfl) ?_
                        have b_271 := mJ hv hm
                        unfold mNum1 at b_271
                        refine g_calli (g_runV (As := []) (rest := [.int (iI 1)]) (ci := 7) F hl.1 hH hS hz (c_X7_numberToldf l g gh T b nn nr nt cc 0 (hc + 2) I_262 R J_264 AI_3 AJ AR mo hv hm hT (by omega) h65 hbM hr7 (by omega) hn9 (by omega) hQ) (cwV 0 F.2.2.2.2.1 (good_up gT_X7_numberTold) rfl rfl rfl hdX7_numberTold ⟨Nat.le_of_ble_eq_true rfl, Nat.le_of_ble_eq_true rfl⟩) hm (by decide) rfl rfl rfl (Nat.le_of_ble_eq_true rfl) dX7_termsTold_139 ⟨Nat.zero_le _, Nat.zero_le _⟩) hS (fun v_278 I_272 R_273 J_274 AI_275 AJ_276 AR_277 H locs zv_278 hp_279 hH hS => ?_)
                        dsimp only at hp_279
                        obtain ⟨r_280, er_280⟩ : ∃ qQ : pR, qQ = thn (0, (hc + 2), 0) (fun t _ => sNum b nn t) := ⟨_, rfl⟩
                        rw [← er_280] at hp_279
                        obtain ⟨rfl, rfl, rfl, rfl, hv, pfq, q_281, q_282, hQ, q_283⟩ := hp_279
                        have pf := qF_t pf pfq
                        have u_284_2 : (I_272 mo 2).toInt = (I mo 2).toInt := by rw [pf 2 (by decide) (by decide) (by decide) (by decide) (by decide)]
                        have u_284_5 : (I_272 mo 5).toInt = (I mo 5).toInt := by rw [pf 5 (by decide) (by decide) (by decide) (by decide) (by decide)]
                        have u_284_14 : (I_272 mo 14).toInt = (I mo 14).toInt := by rw [pf 14 (by decide) (by decide) (by decide) (by decide) (by decide)]
                        have u_284_16 : (I_272 mo 16).toInt = (I mo 16).toInt := by rw [pf 16 (by decide) (by decide) (by decide) (by decide) (by decide)]
                        have u_284_18 : (I_272 mo 18).toInt = (I mo 18).toInt := by rw [pf 18 (by decide) (by decide) (by decide) (by decide) (by decide)]
                        have er_280 : r_280 = sNum b nn (hc + 2) := er_280
                        have sr_280 := er_280
                        rcases sNum_c er_280 with ⟨er_280, pr_280⟩ | ⟨er_280, pr_280⟩
                        · have hQ : mQ gh I_272 J_274 AI_3 AJ mo b nn nr nt cc 0 (hc + 3) := by rw [er_280] at hQ; exact hQ
                          have sr_280 : sNum b nn (hc + 2) = (0, hc + 3, pV b nn (hc + 2)) := sr_280.symm.trans er_280
                          have vlr_280 := q_283 (by rw [er_280])
                          try rw [er_280] at vlr_280
                          try dsimp only at vlr_280
                          have kq_282 := q_282 (mQ_0 hQ rfl)
                          replace q_282 := hid q_282
                          refine z_imul F dX7_termsTold_142 ?_
                          refine z_norm (fun v_285 zv_285 ev_285 => ?_)
                          refine lv_istore (lv' := [(6, .int (iI v_285)), (7, .int (iI 1)), (5, .int (iI v_65)), (4, .int (iI mr)), (3, .int (iI n)), (0, .ref mo), (1, .int (iI bl)), (2, .int (iI fm))]) F.1 F.2.1 dX7_termsTold_143 hl (by decide) rfl (fun ls hl => ?_)
                          refine lv_aload_n F.1 F.2.1 dX7_termsTold_145 rfl (lv_at hl 5 rfl) ?_
                          refine lv_iload_n F.1 F.2.1 dX7_termsTold_146 rfl (lv_at hl 7 rfl) ?_
                          refine lv_iload_n F.1 F.2.1 dX7_termsTold_147 rfl (lv_at hl 4 rfl) ?_
                          refine z_iadd F dX7_termsTold_148 ?_
                          refine lv_iload F.1 F.2.1 dX7_termsTold_149 (lv_at hl 2 rfl) ?_
                          refine lv_iload F.1 F.2.1 dX7_termsTold_151 (lv_at hl 0 rfl) ?_
                          refine z_iconst F dX7_termsTold_153 ?_
                          refine z_iconst F dX7_termsTold_154 ?_
                          have b_286 := mJ hv hm
                          unfold mNum1 at b_286
                          refine g_callv (g_runV (As := [.int (iI (fm + n)), .int (iI v_65), .int (iI v_285), .int (iI 0), .int (iI 0)]) (rest := []) (ci := 7) F hl.1 hH hS hz (c_X7_setsPartg l g gh T M I_272 R J_274 AI_3 AJ AR mo (fm + n) v_65 v_285 0 0 ⟨by omega, by omega⟩ zv_65 zv_285 ⟨by decide, by decide⟩ ⟨by decide, by decide⟩ hv hm hT (by omega) (by omega) (by omega)) (cwV 5 F.2.2.2.2.1 (good_up gT_X7_setsPart) rfl rfl rfl hdX7_setsPart ⟨Nat.le_of_ble_eq_true rfl, Nat.le_of_ble_eq_true rfl⟩) hm (by decide) rfl rfl rfl (Nat.le_of_ble_eq_true rfl) dX7_termsTold_155 ⟨Nat.zero_le _, Nat.zero_le _⟩) hS (fun I_287 R_288 J_289 AI_290 AJ_291 AR_292 H locs hp_293 hH hS => ?_)
                          dsimp only at hp_293
                          obtain ⟨rfl, rfl, rfl, rfl, rfl, hv, hT, hsp, q_294⟩ := hp_293
                          replace hsp := hid hsp
                          have hQ : mQ gh I_272 J_274 AI_290 AJ mo b nn nr nt cc 0 (hc + 3) := mQ_a hQ (fun hf9 z9 h09 h19 => (hsp hf9).1 z9 h09 (Or.inl (by omega)))
                          have pn9 := pV_n (b := b) (n := nn) (h := hc + 2) (by omega)
                          have hmu := z_eq zv_285 ⟨by omega, by omega⟩ ev_285
                          have te9 := te_p (b := b) (n := nn) (hc := hc) (by omega) (by omega)
                          have hct := rTerm_mk (b := b) (n := nn) (hc := hc) (k := n) (fm := fm) (by omega) (hsp (mQ_0 hQ rfl)) rfl (by omega) (by omega)
                          have hqa := rAll_s rTerm_l hqa hil (by omega) (by omega) (hsp (mQ_0 hQ rfl)) rfl hct
                          have hTs : sTerm b nn bl n hc = (0, hc + 3, 0) := sTerm_s (by omega) (by omega) (by omega) (by omega)
                          exact cut_158_30 I_272 J_274 AI_290 H locs ls hv hT pf (by omega) (fun hf => ⟨by omega, termP_step (by omega) (by omega) (hp (by omega)).2.1 (hsp (by omega)) (by omega), trF_step (hp (by omega)).2.2 ⟨by omega, by omega⟩ (hsp (by omega))⟩) ⟨_, hQ, hTs⟩ hqa (fun b hb => (q_294 b hb).trans (fA9 b hb)) hH hS (lv_sub hl [3, 4, 5, 6, 7] rfl)
                        · have hQ : mQ gh I_272 J_274 AI_3 AJ mo b nn nr nt cc 1 (hc + 2) := by rw [er_280] at hQ; exact hQ
                          have sr_280 := sr_280.symm.trans er_280
                          have g9r_280 := mQ_f hQ (by omega)
                          replace q_282 := hid q_282
                          refine z_imul F dX7_termsTold_142 ?_
                          refine z_norm (fun v_295 zv_295 ev_295 => ?_)
                          refine lv_istore (lv' := [(6, .int (iI v_295)), (7, .int (iI 1)), (5, .int (iI v_65)), (4, .int (iI mr)), (3, .int (iI n)), (0, .ref mo), (1, .int (iI bl)), (2, .int (iI fm))]) F.1 F.2.1 dX7_termsTold_143 hl (by decide) rfl (fun ls hl => ?_)
                          refine lv_aload_n F.1 F.2.1 dX7_termsTold_145 rfl (lv_at hl 5 rfl) ?_
                          refine lv_iload_n F.1 F.2.1 dX7_termsTold_146 rfl (lv_at hl 7 rfl) ?_
                          refine lv_iload_n F.1 F.2.1 dX7_termsTold_147 rfl (lv_at hl 4 rfl) ?_
                          refine z_iadd F dX7_termsTold_148 ?_
                          refine lv_iload F.1 F.2.1 dX7_termsTold_149 (lv_at hl 2 rfl) ?_
                          refine lv_iload F.1 F.2.1 dX7_termsTold_151 (lv_at hl 0 rfl) ?_
                          refine z_iconst F dX7_termsTold_153 ?_
                          refine z_iconst F dX7_termsTold_154 ?_
                          have b_296 := mJ hv hm
                          unfold mNum1 at b_296
                          refine g_callv (g_runV (As := [.int (iI (fm + n)), .int (iI v_65), .int (iI v_295), .int (iI 0), .int (iI 0)]) (rest := []) (ci := 7) F hl.1 hH hS hz (c_X7_setsPartg l g gh T M I_272 R J_274 AI_3 AJ AR mo (fm + n) v_65 v_295 0 0 ⟨by omega, by omega⟩ zv_65 zv_295 ⟨by decide, by decide⟩ ⟨by decide, by decide⟩ hv hm hT (by omega) (by omega) (by omega)) (cwV 5 F.2.2.2.2.1 (good_up gT_X7_setsPart) rfl rfl rfl hdX7_setsPart ⟨Nat.le_of_ble_eq_true rfl, Nat.le_of_ble_eq_true rfl⟩) hm (by decide) rfl rfl rfl (Nat.le_of_ble_eq_true rfl) dX7_termsTold_155 ⟨Nat.zero_le _, Nat.zero_le _⟩) hS (fun I_297 R_298 J_299 AI_300 AJ_301 AR_302 H locs hp_303 hH hS => ?_)
                          dsimp only at hp_303
                          obtain ⟨rfl, rfl, rfl, rfl, rfl, hv, hT, hsp, q_304⟩ := hp_303
                          replace hsp := hid hsp
                          have hQ : mQ gh I_272 J_274 AI_300 AJ mo b nn nr nt cc 1 (hc + 2) := mQ_bad hQ (by omega) rfl
                          refine z_iinc (lv' := [(3, .int (iI (n + 1))), (6, .int (iI v_295)), (7, .int (iI 1)), (5, .int (iI v_65)), (4, .int (iI mr)), (0, .ref mo), (1, .int (iI bl)), (2, .int (iI fm))]) F dX7_termsTold_158 hl (k := 4) rfl (by decide) rfl (fun ls hl => ?_)
                          have hTs : sTerm b nn bl n hc = (1, hc + 2, 0) := sTerm_s1 (by omega) (by omega) (by omega) (by omega)
                          have hS9 : sTerms b nn bl 5 0 h = (1, hc + 2, 0) := sTerms_no hsq (f := (4 - n).toNat) (by omega) hTs.symm (by omega)
                          have hfin : thn (f, h, 0) (fun t _ => sTerms b nn bl 5 0 t) = (1, hc + 2, 0) := (thn_k q0).trans hS9
                          exact cut_161_10 (n + 1) I_272 J_274 AI_300 H locs ls ⟨by omega, by omega⟩ hv hT pf ⟨_, _, by omega, hQ, hfin⟩ (by omega) (by omega) (fun b hb => (q_304 b hb).trans (fA9 b hb)) hH hS (lv_sub hl [4, 0, 5, 6, 7] rfl)
                · have hQ : mQ gh I_59 J_61 AI_3 AJ mo b nn nr nt cc (pCf b nn bl hc) hc := by rw [er_67] at hQ; exact hQ
                  have sr_67 := sr_67.symm.trans er_67
                  have g9r_67 := mQ_f hQ (by omega)
                  replace q_69 := hid q_69
                  obtain ⟨f1, ef1⟩ : ∃ q, q = (I_59 mo 24).toInt := ⟨_, rfl⟩
                  have hc1 : Hid (f1 = 0 → v_65 ≤ 3) := fun h9 => by omega
                  refine lv_istore (lv' := [(5, .int (iI v_65)), (4, .int (iI mr)), (3, .int (iI n)), (0, .ref mo), (1, .int (iI bl)), (2, .int (iI fm))]) F.1 F.2.1 dX7_termsTold_93 hl (by decide) rfl (fun ls hl => ?_)
                  refine z_iconst F dX7_termsTold_95 ?_
                  refine lv_istore (lv' := [(6, .int (iI 0)), (5, .int (iI v_65)), (4, .int (iI mr)), (3, .int (iI n)), (0, .ref mo), (1, .int (iI bl)), (2, .int (iI fm))]) F.1 F.2.1 dX7_termsTold_96 hl (by decide) rfl (fun ls hl => ?_)
                  refine lv_aload_n F.1 F.2.1 dX7_termsTold_98 rfl (lv_at hl 4 rfl) ?_
                  refine z_bipush F dX7_termsTold_99 (by decide) ?_
                  have b_305 := mJ hv hm
                  unfold mNum1 at b_305
                  refine g_calli (g_runV (As := [.int (iI 43)]) (rest := []) (ci := 7) F hl.1 hH hS hz (c_X7_isSignf l g gh T b nn nr nt cc (pCf b nn bl hc) hc I_59 R J_61 AI_3 AJ AR mo 43 ⟨by decide, by decide⟩ hv hm hT h65 hbM hr7 (by omega) hn9 (by omega) (by omega) hQ) (cwV 1 F.2.2.2.2.1 (good_up gT_X7_isSign) rfl rfl rfl hdX7_isSign ⟨Nat.le_of_ble_eq_true rfl, Nat.le_of_ble_eq_true rfl⟩) hm (by decide) rfl rfl rfl (Nat.le_of_ble_eq_true rfl) dX7_termsTold_101 ⟨Nat.zero_le _, Nat.zero_le _⟩) hS (fun v_312 I_306 R_307 J_308 AI_309 AJ_310 AR_311 H locs zv_312 hp_313 hH hS => ?_)
                  dsimp only at hp_313
                  obtain ⟨rfl, rfl, rfl, rfl, rfl, rfl, q_314, q_315⟩ := hp_313
                  replace q_314 := q_314.1
                  refine z_if_ne (tgt := 116) F dX7_termsTold_104 (by decide) zv_312 (fun c_316 => ?_) (fun c_316 => ?_)
                  · exact absurd (tIz_1 q_315 (by omega)).1 (by omega)
                  · have t_317 := tIz_0 q_315 (by omega)
                    refine lv_aload_n F.1 F.2.1 dX7_termsTold_107 rfl (lv_at hl 4 rfl) ?_
                    refine z_bipush F dX7_termsTold_108 (by decide) ?_
                    refine g_calli (g_runV (As := [.int (iI 45)]) (rest := []) (ci := 7) F hl.1 hH hS hz (c_X7_isSignf l g gh T b nn nr nt cc (pCf b nn bl hc) hc I_59 R J_61 AI_3 AJ AR mo 45 ⟨by decide, by decide⟩ hv hm hT h65 hbM hr7 (by omega) hn9 (by omega) (by omega) hQ) (cwV 1 F.2.2.2.2.1 (good_up gT_X7_isSign) rfl rfl rfl hdX7_isSign ⟨Nat.le_of_ble_eq_true rfl, Nat.le_of_ble_eq_true rfl⟩) hm (by decide) rfl rfl rfl (Nat.le_of_ble_eq_true rfl) dX7_termsTold_110 ⟨Nat.zero_le _, Nat.zero_le _⟩) hS (fun v_324 I_318 R_319 J_320 AI_321 AJ_322 AR_323 H locs zv_324 hp_325 hH hS => ?_)
                    dsimp only at hp_325
                    obtain ⟨rfl, rfl, rfl, rfl, rfl, rfl, q_326, q_327⟩ := hp_325
                    replace q_326 := q_326.1
                    refine z_if_eq (tgt := 145) F dX7_termsTold_113 (by decide) zv_324 (fun c_328 => ?_) (fun c_328 => ?_)
                    · have t_329 := tIz_0 q_327 (by omega)
                      refine lv_aload_n F.1 F.2.1 dX7_termsTold_145 rfl (lv_at hl 4 rfl) ?_
                      refine lv_iload_n F.1 F.2.1 dX7_termsTold_146 rfl (lv_at hl 6 rfl) ?_
                      refine lv_iload_n F.1 F.2.1 dX7_termsTold_147 rfl (lv_at hl 3 rfl) ?_
                      refine z_iadd F dX7_termsTold_148 ?_
                      refine lv_iload F.1 F.2.1 dX7_termsTold_149 (lv_at hl 1 rfl) ?_
                      refine lv_iload F.1 F.2.1 dX7_termsTold_151 (lv_at hl 0 rfl) ?_
                      refine z_iconst F dX7_termsTold_153 ?_
                      refine z_iconst F dX7_termsTold_154 ?_
                      refine g_callv (g_runV (As := [.int (iI (fm + n)), .int (iI v_65), .int (iI 0), .int (iI 0), .int (iI 0)]) (rest := []) (ci := 7) F hl.1 hH hS hz (c_X7_setsPartg l g gh T M I_59 R J_61 AI_3 AJ AR mo (fm + n) v_65 0 0 0 ⟨by omega, by omega⟩ zv_65 ⟨by decide, by decide⟩ ⟨by decide, by decide⟩ ⟨by decide, by decide⟩ hv hm hT (by omega) (by omega) (by omega)) (cwV 5 F.2.2.2.2.1 (good_up gT_X7_setsPart) rfl rfl rfl hdX7_setsPart ⟨Nat.le_of_ble_eq_true rfl, Nat.le_of_ble_eq_true rfl⟩) hm (by decide) rfl rfl rfl (Nat.le_of_ble_eq_true rfl) dX7_termsTold_155 ⟨Nat.zero_le _, Nat.zero_le _⟩) hS (fun I_330 R_331 J_332 AI_333 AJ_334 AR_335 H locs hp_336 hH hS => ?_)
                      dsimp only at hp_336
                      obtain ⟨rfl, rfl, rfl, rfl, rfl, hv, hT, hsp, q_337⟩ := hp_336
                      replace hsp := hid hsp
                      have hQ : mQ gh I_59 J_61 AI_333 AJ mo b nn nr nt cc (pCf b nn bl hc) hc := mQ_bad hQ (by omega) rfl
                      refine z_iinc (lv' := [(3, .int (iI (n + 1))), (6, .int (iI 0)), (5, .int (iI v_65)), (4, .int (iI mr)), (0, .ref mo), (1, .int (iI bl)), (2, .int (iI fm))]) F dX7_termsTold_158 hl (k := 3) rfl (by decide) rfl (fun ls hl => ?_)
                      have hTs : sTerm b nn bl n hc = (pCf b nn bl hc, hc, 0) := sTerm_x (by omega) (by omega)
                      have hS9 : sTerms b nn bl 5 0 h = (pCf b nn bl hc, hc, 0) := sTerms_no hsq (f := (4 - n).toNat) (by omega) hTs.symm (by omega)
                      have hfin : thn (f, h, 0) (fun t _ => sTerms b nn bl 5 0 t) = (pCf b nn bl hc, hc, 0) := (thn_k q0).trans hS9
                      exact cut_161_10 (n + 1) I_59 J_61 AI_333 H locs ls ⟨by omega, by omega⟩ hv hT pf ⟨_, _, by omega, hQ, hfin⟩ (by omega) (by omega) (fun b hb => (q_337 b hb).trans (fA9 b hb)) hH hS (lv_sub hl [3, 0, 4, 5, 6] rfl)
                    · exact absurd (tIz_1 q_327 (by omega)).1 (by omega)
              · have t_338 := tkM_3 ((mQ_k hQ rfl).symm.trans (by omega))
                have t_338v := mQ_v hQ rfl (by omega)
                refine lv_aload_n F.1 F.2.1 dX7_termsTold_71 rfl (lv_at hl 2 rfl) ?_
                refine lv_iload_n F.1 F.2.1 dX7_termsTold_72 rfl (lv_at hl 4 rfl) ?_
                refine lv_iload_n F.1 F.2.1 dX7_termsTold_73 rfl (lv_at hl 1 rfl) ?_
                refine z_iadd F dX7_termsTold_74 ?_
                refine z_iconst F dX7_termsTold_75 ?_
                refine lv_aload_n F.1 F.2.1 dX7_termsTold_76 rfl (lv_at hl 2 rfl) ?_
                refine g_calli (g_runV (As := []) (rest := [.int (iI ((-1))), .int (iI (fm + n)), .ref mo]) (ci := 7) F hl.1 hH hS hz (c_X7_numberToldf l g gh T b nn nr nt cc 0 hc I_1 R J_2 AI_3 AJ AR mo hv hm hT (by omega) h65 hbM hr7 (by omega) hn9 (by omega) hQ) (cwV 0 F.2.2.2.2.1 (good_up gT_X7_numberTold) rfl rfl rfl hdX7_numberTold ⟨Nat.le_of_ble_eq_true rfl, Nat.le_of_ble_eq_true rfl⟩) hm (by decide) rfl rfl rfl (Nat.le_of_ble_eq_true rfl) dX7_termsTold_77 ⟨Nat.zero_le _, Nat.zero_le _⟩) hS (fun v_345 I_339 R_340 J_341 AI_342 AJ_343 AR_344 H locs zv_345 hp_346 hH hS => ?_)
                dsimp only at hp_346
                obtain ⟨r_347, er_347⟩ : ∃ qQ : pR, qQ = thn (0, hc, 0) (fun t _ => sNum b nn t) := ⟨_, rfl⟩
                rw [← er_347] at hp_346
                obtain ⟨rfl, rfl, rfl, rfl, hv, pfq, q_348, q_349, hQ, q_350⟩ := hp_346
                have pf := qF_t pf pfq
                have u_351_2 : (I_339 mo 2).toInt = (I mo 2).toInt := by rw [pf 2 (by decide) (by decide) (by decide) (by decide) (by decide)]
                have u_351_5 : (I_339 mo 5).toInt = (I mo 5).toInt := by rw [pf 5 (by decide) (by decide) (by decide) (by decide) (by decide)]
                have u_351_14 : (I_339 mo 14).toInt = (I mo 14).toInt := by rw [pf 14 (by decide) (by decide) (by decide) (by decide) (by decide)]
                have u_351_16 : (I_339 mo 16).toInt = (I mo 16).toInt := by rw [pf 16 (by decide) (by decide) (by decide) (by decide) (by decide)]
                have u_351_18 : (I_339 mo 18).toInt = (I mo 18).toInt := by rw [pf 18 (by decide) (by decide) (by decide) (by decide) (by decide)]
                have er_347 : r_347 = sNum b nn hc := er_347
                have sr_347 := er_347
                rcases sNum_c er_347 with ⟨er_347, pr_347⟩ | ⟨er_347, pr_347⟩
                · have hQ : mQ gh I_339 J_341 AI_3 AJ mo b nn nr nt cc 0 (hc + 1) := by rw [er_347] at hQ; exact hQ
                  have sr_347 : sNum b nn hc = (0, hc + 1, pV b nn hc) := sr_347.symm.trans er_347
                  have vlr_347 := q_350 (by rw [er_347])
                  try rw [er_347] at vlr_347
                  try dsimp only at vlr_347
                  have kq_349 := q_349 (mQ_0 hQ rfl)
                  replace q_349 := hid q_349
                  refine z_iconst F dX7_termsTold_80 ?_
                  refine z_iconst F dX7_termsTold_81 ?_
                  have b_352 := mJ hv hm
                  unfold mNum1 at b_352
                  refine g_callv (g_runV (As := [.int (iI (fm + n)), .int (iI ((-1))), .int (iI v_345), .int (iI 0), .int (iI 0)]) (rest := []) (ci := 7) F hl.1 hH hS hz (c_X7_setsPartg l g gh T M I_339 R J_341 AI_3 AJ AR mo (fm + n) (-1) v_345 0 0 ⟨by omega, by omega⟩ ⟨by decide, by decide⟩ zv_345 ⟨by decide, by decide⟩ ⟨by decide, by decide⟩ hv hm hT (by omega) (by omega) (by omega)) (cwV 5 F.2.2.2.2.1 (good_up gT_X7_setsPart) rfl rfl rfl hdX7_setsPart ⟨Nat.le_of_ble_eq_true rfl, Nat.le_of_ble_eq_true rfl⟩) hm (by decide) rfl rfl rfl (Nat.le_of_ble_eq_true rfl) dX7_termsTold_82 ⟨Nat.zero_le _, Nat.zero_le _⟩) hS (fun I_353 R_354 J_355 AI_356 AJ_357 AR_358 H locs hp_359 hH hS => ?_)
                  dsimp only at hp_359
                  obtain ⟨rfl, rfl, rfl, rfl, rfl, hv, hT, hsp, q_360⟩ := hp_359
                  replace hsp := hid hsp
                  have hQ : mQ gh I_339 J_341 AI_356 AJ mo b nn nr nt cc 0 (hc + 1) := mQ_a hQ (fun hf9 z9 h09 h19 => (hsp hf9).1 z9 h09 (Or.inl (by omega)))
                  have te9 := te_n (b := b) (n := nn) (hc := hc) (by omega)
                  have hct := rTerm_mk (b := b) (n := nn) (hc := hc) (k := n) (fm := fm) (by omega) (hsp (mQ_0 hQ rfl)) rfl (by omega) (by omega)
                  have hqa := rAll_s rTerm_l hqa hil (by omega) (by omega) (hsp (mQ_0 hQ rfl)) rfl hct
                  refine z_goto (tgt := 158) F dX7_termsTold_85 (by decide) ?_
                  have hTs : sTerm b nn bl n hc = (0, hc + 1, 0) := sTerm_n (by omega) (by omega)
                  exact cut_158_30 I_339 J_341 AI_356 H locs ls hv hT pf (by omega) (fun hf => ⟨by omega, termP_step (by omega) (by omega) (hp (by omega)).2.1 (hsp (by omega)) (by omega), trF_step (hp (by omega)).2.2 ⟨by omega, by omega⟩ (hsp (by omega))⟩) ⟨_, hQ, hTs⟩ hqa (fun b hb => (q_360 b hb).trans (fA9 b hb)) hH hS (lv_sub hl [0, 1, 2, 3, 4] rfl)
                · have hQ : mQ gh I_339 J_341 AI_3 AJ mo b nn nr nt cc 1 hc := by rw [er_347] at hQ; exact hQ
                  have sr_347 := sr_347.symm.trans er_347
                  have g9r_347 := mQ_f hQ (by omega)
                  replace q_349 := hid q_349
                  refine z_iconst F dX7_termsTold_80 ?_
                  refine z_iconst F dX7_termsTold_81 ?_
                  have b_361 := mJ hv hm
                  unfold mNum1 at b_361
                  refine g_callv (g_runV (As := [.int (iI (fm + n)), .int (iI ((-1))), .int (iI v_345), .int (iI 0), .int (iI 0)]) (rest := []) (ci := 7) F hl.1 hH hS hz (c_X7_setsPartg l g gh T M I_339 R J_341 AI_3 AJ AR mo (fm + n) (-1) v_345 0 0 ⟨by omega, by omega⟩ ⟨by decide, by decide⟩ zv_345 ⟨by decide, by decide⟩ ⟨by decide, by decide⟩ hv hm hT (by omega) (by omega) (by omega)) (cwV 5 F.2.2.2.2.1 (good_up gT_X7_setsPart) rfl rfl rfl hdX7_setsPart ⟨Nat.le_of_ble_eq_true rfl, Nat.le_of_ble_eq_true rfl⟩) hm (by decide) rfl rfl rfl (Nat.le_of_ble_eq_true rfl) dX7_termsTold_82 ⟨Nat.zero_le _, Nat.zero_le _⟩) hS (fun I_362 R_363 J_364 AI_365 AJ_366 AR_367 H locs hp_368 hH hS => ?_)
                  dsimp only at hp_368
                  obtain ⟨rfl, rfl, rfl, rfl, rfl, hv, hT, hsp, q_369⟩ := hp_368
                  replace hsp := hid hsp
                  have hQ : mQ gh I_339 J_341 AI_365 AJ mo b nn nr nt cc 1 hc := mQ_bad hQ (by omega) rfl
                  refine z_goto (tgt := 158) F dX7_termsTold_85 (by decide) ?_
                  refine z_iinc (lv' := [(3, .int (iI (n + 1))), (4, .int (iI mr)), (0, .ref mo), (1, .int (iI bl)), (2, .int (iI fm))]) F dX7_termsTold_158 hl (k := 1) rfl (by decide) rfl (fun ls hl => ?_)
                  have hTs : sTerm b nn bl n hc = (1, hc, 0) := pE1 (sTerm_x (c := bl) (by omega) (pCf_n1 (by omega))) (by omega)
                  have hS9 : sTerms b nn bl 5 0 h = (1, hc, 0) := sTerms_no hsq (f := (4 - n).toNat) (by omega) hTs.symm (by omega)
                  have hfin : thn (f, h, 0) (fun t _ => sTerms b nn bl 5 0 t) = (1, hc, 0) := (thn_k q0).trans hS9
                  exact cut_161_10 (n + 1) I_339 J_341 AI_365 H locs ls ⟨by omega, by omega⟩ hv hT pf ⟨_, _, by omega, hQ, hfin⟩ (by omega) (by omega) (fun b hb => (q_369 b hb).trans (fA9 b hb)) hH hS (lv_sub hl [1, 0, 2, 3, 4] rfl)
            · refine lv_aload_n F.1 F.2.1 dX7_termsTold_22 rfl (lv_at hl 2 rfl) ?_
              refine lv_aload_n F.1 F.2.1 dX7_termsTold_23 rfl (lv_at hl 2 rfl) ?_
              refine g_getI (ci := 7) (k := 21) F hH rfl (by decide) iX7 hm (by decide) rfl k94 dX7_termsTold_24 ?_
              refine z_iconst F dX7_termsTold_27 ?_
              refine z_icmp_ne (tgt := 47) F dX7_termsTold_28 (by decide) (zr_t _) ⟨by decide, by decide⟩ (fun c_370 => ?_) (fun c_370 => ?_)
              · have t_371 : pK b nn hc ≠ 2 := mQ_kn hQ rfl (c := 1) rfl (by omega)
                refine lv_aload_n F.1 F.2.1 dX7_termsTold_47 rfl (lv_at hl 2 rfl) ?_
                refine g_getI (ci := 7) (k := 21) F hH rfl (by decide) iX7 hm (by decide) rfl k94 dX7_termsTold_48 ?_
                refine z_iconst F dX7_termsTold_51 ?_
                refine z_icmp_ne (tgt := 59) F dX7_termsTold_52 (by decide) (zr_t _) ⟨by decide, by decide⟩ (fun c_372 => ?_) (fun c_372 => ?_)
                · have t_373 : pK b nn hc ≠ 4 := mQ_kn hQ rfl (c := 3) rfl (by omega)
                  refine z_iconst F dX7_termsTold_59 ?_
                  refine g_callv (g_runV (As := [.int (iI 1)]) (rest := []) (ci := 7) F hl.1 hH hS hz (c_X7_wrongf l g gh T b nn nr nt cc 0 hc I_1 R J_2 AI_3 AJ AR mo 1 ⟨by decide, by decide⟩ hv hm hT (by omega) h65 hbM hr7 (by omega) hn9 (by omega) hQ) (cwV 1 F.2.2.2.2.1 (good_up gT_X7_wrong) rfl rfl rfl hdX7_wrong ⟨Nat.le_of_ble_eq_true rfl, Nat.le_of_ble_eq_true rfl⟩) hm (by decide) rfl rfl rfl (Nat.le_of_ble_eq_true rfl) dX7_termsTold_60 ⟨Nat.zero_le _, Nat.zero_le _⟩) hS (fun I_374 R_375 J_376 AI_377 AJ_378 AR_379 H locs hp_380 hH hS => ?_)
                  dsimp only at hp_380
                  obtain ⟨r_381, er_381⟩ : ∃ qQ : pR, qQ = thn (0, hc, 0) (fun t _ => (1, t, 0)) := ⟨_, rfl⟩
                  rw [← er_381] at hp_380
                  obtain ⟨rfl, rfl, rfl, rfl, rfl, hv, pfq, q_382, hQ⟩ := hp_380
                  have pf := qF_t pf pfq
                  have u_383_2 : (I_374 mo 2).toInt = (I mo 2).toInt := by rw [pf 2 (by decide) (by decide) (by decide) (by decide) (by decide)]
                  have u_383_5 : (I_374 mo 5).toInt = (I mo 5).toInt := by rw [pf 5 (by decide) (by decide) (by decide) (by decide) (by decide)]
                  have u_383_14 : (I_374 mo 14).toInt = (I mo 14).toInt := by rw [pf 14 (by decide) (by decide) (by decide) (by decide) (by decide)]
                  have u_383_16 : (I_374 mo 16).toInt = (I mo 16).toInt := by rw [pf 16 (by decide) (by decide) (by decide) (by decide) (by decide)]
                  have u_383_18 : (I_374 mo 18).toInt = (I mo 18).toInt := by rw [pf 18 (by decide) (by decide) (by decide) (by decide) (by decide)]
                  have er_381 : r_381 = (1, hc, 0) := er_381
                  have hQ : mQ gh I_374 J_2 AI_3 AJ mo b nn nr nt cc 1 hc := by rw [er_381] at hQ; exact hQ
                  have q9_r_381 : (1 : Int) ≠ 0 := by omega
                  have g9_r_381 := mQ_f hQ q9_r_381
                  refine lv_aload_n F.1 F.2.1 dX7_termsTold_63 rfl (lv_at hl 2 rfl) ?_
                  refine g_getI (ci := 7) (k := 21) F hH rfl (by decide) iX7 hm (by decide) rfl k94 dX7_termsTold_64 ?_
                  have b_384 := mJ hv hm
                  unfold mNum1 at b_384
                  refine z_iconst F dX7_termsTold_67 ?_
                  refine z_icmp_ne (tgt := 88) F dX7_termsTold_68 (by decide) (zr_t _) ⟨by decide, by decide⟩ (fun c_385 => ?_) (fun c_385 => ?_)
                  · refine lv_aload_n F.1 F.2.1 dX7_termsTold_88 rfl (lv_at hl 2 rfl) ?_
                    refine lv_iload_n F.1 F.2.1 dX7_termsTold_89 rfl (lv_at hl 3 rfl) ?_
                    refine g_calli (g_runV (As := [.int (iI bl)]) (rest := []) (ci := 7) F hl.1 hH hS hz (c_X7_columnf l g gh T b nn nr nt cc 1 hc I_374 R J_2 AI_3 AJ AR mo bl zbl hv hm hT (by omega) h65 hbM hr7 (by omega) hn9 (by omega) hQ) (cwV 1 F.2.2.2.2.1 (good_up gT_X7_column) rfl rfl rfl hdX7_column ⟨Nat.le_of_ble_eq_true rfl, Nat.le_of_ble_eq_true rfl⟩) hm (by decide) rfl rfl rfl (Nat.le_of_ble_eq_true rfl) dX7_termsTold_90 ⟨Nat.zero_le _, Nat.zero_le _⟩) hS (fun v_392 I_386 R_387 J_388 AI_389 AJ_390 AR_391 H locs zv_392 hp_393 hH hS => ?_)
                    dsimp only at hp_393
                    obtain ⟨r_394, er_394⟩ : ∃ qQ : pR, qQ = thn (1, hc, 0) (fun t _ => sCol b nn bl t) := ⟨_, rfl⟩
                    rw [← er_394] at hp_393
                    obtain ⟨rfl, rfl, rfl, rfl, hv, pfq, q_395, q_396, hQ, q_397⟩ := hp_393
                    have pf := qF_t pf pfq
                    have u_398_2 : (I_386 mo 2).toInt = (I mo 2).toInt := by rw [pf 2 (by decide) (by decide) (by decide) (by decide) (by decide)]
                    have u_398_5 : (I_386 mo 5).toInt = (I mo 5).toInt := by rw [pf 5 (by decide) (by decide) (by decide) (by decide) (by decide)]
                    have u_398_14 : (I_386 mo 14).toInt = (I mo 14).toInt := by rw [pf 14 (by decide) (by decide) (by decide) (by decide) (by decide)]
                    have u_398_16 : (I_386 mo 16).toInt = (I mo 16).toInt := by rw [pf 16 (by decide) (by decide) (by decide) (by decide) (by decide)]
                    have u_398_18 : (I_386 mo 18).toInt = (I mo 18).toInt := by rw [pf 18 (by decide) (by decide) (by decide) (by decide) (by decide)]
                    rw [thn_b (by omega)] at er_394
                    have hQ : mQ gh I_386 J_388 AI_3 AJ mo b nn nr nt cc 1 hc := by rw [er_394] at hQ; exact hQ
                    replace q_396 := hid q_396
                    obtain ⟨f1, ef1⟩ : ∃ q, q = (I_386 mo 24).toInt := ⟨_, rfl⟩
                    have hc1 : Hid (f1 = 0 → v_392 ≤ 3) := fun h9 => by omega
                    refine lv_istore (lv' := [(5, .int (iI v_392)), (4, .int (iI mr)), (3, .int (iI n)), (0, .ref mo), (1, .int (iI bl)), (2, .int (iI fm))]) F.1 F.2.1 dX7_termsTold_93 hl (by decide) rfl (fun ls hl => ?_)
                    refine z_iconst F dX7_termsTold_95 ?_
                    refine lv_istore (lv' := [(6, .int (iI 0)), (5, .int (iI v_392)), (4, .int (iI mr)), (3, .int (iI n)), (0, .ref mo), (1, .int (iI bl)), (2, .int (iI fm))]) F.1 F.2.1 dX7_termsTold_96 hl (by decide) rfl (fun ls hl => ?_)
                    refine lv_aload_n F.1 F.2.1 dX7_termsTold_98 rfl (lv_at hl 4 rfl) ?_
                    refine z_bipush F dX7_termsTold_99 (by decide) ?_
                    have b_399 := mJ hv hm
                    unfold mNum1 at b_399
                    refine g_calli (g_runV (As := [.int (iI 43)]) (rest := []) (ci := 7) F hl.1 hH hS hz (c_X7_isSignf l g gh T b nn nr nt cc 1 hc I_386 R J_388 AI_3 AJ AR mo 43 ⟨by decide, by decide⟩ hv hm hT h65 hbM hr7 (by omega) hn9 (by omega) (by omega) hQ) (cwV 1 F.2.2.2.2.1 (good_up gT_X7_isSign) rfl rfl rfl hdX7_isSign ⟨Nat.le_of_ble_eq_true rfl, Nat.le_of_ble_eq_true rfl⟩) hm (by decide) rfl rfl rfl (Nat.le_of_ble_eq_true rfl) dX7_termsTold_101 ⟨Nat.zero_le _, Nat.zero_le _⟩) hS (fun v_406 I_400 R_401 J_402 AI_403 AJ_404 AR_405 H locs zv_406 hp_407 hH hS => ?_)
                    dsimp only at hp_407
                    obtain ⟨rfl, rfl, rfl, rfl, rfl, rfl, q_408, q_409⟩ := hp_407
                    replace q_408 := q_408.1
                    refine z_if_ne (tgt := 116) F dX7_termsTold_104 (by decide) zv_406 (fun c_410 => ?_) (fun c_410 => ?_)
                    · exact absurd (tIz_1 q_409 (by omega)).1 (by omega)
                    · have t_411 := tIz_0 q_409 (by omega)
                      refine lv_aload_n F.1 F.2.1 dX7_termsTold_107 rfl (lv_at hl 4 rfl) ?_
                      refine z_bipush F dX7_termsTold_108 (by decide) ?_
                      refine g_calli (g_runV (As := [.int (iI 45)]) (rest := []) (ci := 7) F hl.1 hH hS hz (c_X7_isSignf l g gh T b nn nr nt cc 1 hc I_386 R J_388 AI_3 AJ AR mo 45 ⟨by decide, by decide⟩ hv hm hT h65 hbM hr7 (by omega) hn9 (by omega) (by omega) hQ) (cwV 1 F.2.2.2.2.1 (good_up gT_X7_isSign) rfl rfl rfl hdX7_isSign ⟨Nat.le_of_ble_eq_true rfl, Nat.le_of_ble_eq_true rfl⟩) hm (by decide) rfl rfl rfl (Nat.le_of_ble_eq_true rfl) dX7_termsTold_110 ⟨Nat.zero_le _, Nat.zero_le _⟩) hS (fun v_418 I_412 R_413 J_414 AI_415 AJ_416 AR_417 H locs zv_418 hp_419 hH hS => ?_)
                      dsimp only at hp_419
                      obtain ⟨rfl, rfl, rfl, rfl, rfl, rfl, q_420, q_421⟩ := hp_419
                      replace q_420 := q_420.1
                      refine z_if_eq (tgt := 145) F dX7_termsTold_113 (by decide) zv_418 (fun c_422 => ?_) (fun c_422 => ?_)
                      · have t_423 := tIz_0 q_421 (by omega)
                        refine lv_aload_n F.1 F.2.1 dX7_termsTold_145 rfl (lv_at hl 4 rfl) ?_
                        refine lv_iload_n F.1 F.2.1 dX7_termsTold_146 rfl (lv_at hl 6 rfl) ?_
                        refine lv_iload_n F.1 F.2.1 dX7_termsTold_147 rfl (lv_at hl 3 rfl) ?_
                        refine z_iadd F dX7_termsTold_148 ?_
                        refine lv_iload F.1 F.2.1 dX7_termsTold_149 (lv_at hl 1 rfl) ?_
                        refine lv_iload F.1 F.2.1 dX7_termsTold_151 (lv_at hl 0 rfl) ?_
                        refine z_iconst F dX7_termsTold_153 ?_
                        refine z_iconst F dX7_termsTold_154 ?_
                        refine g_callv (g_runV (As := [.int (iI (fm + n)), .int (iI v_392), .int (iI 0), .int (iI 0), .int (iI 0)]) (rest := []) (ci := 7) F hl.1 hH hS hz (c_X7_setsPartg l g gh T M I_386 R J_388 AI_3 AJ AR mo (fm + n) v_392 0 0 0 ⟨by omega, by omega⟩ zv_392 ⟨by decide, by decide⟩ ⟨by decide, by decide⟩ ⟨by decide, by decide⟩ hv hm hT (by omega) (by omega) (by omega)) (cwV 5 F.2.2.2.2.1 (good_up gT_X7_setsPart) rfl rfl rfl hdX7_setsPart ⟨Nat.le_of_ble_eq_true rfl, Nat.le_of_ble_eq_true rfl⟩) hm (by decide) rfl rfl rfl (Nat.le_of_ble_eq_true rfl) dX7_termsTold_155 ⟨Nat.zero_le _, Nat.zero_le _⟩) hS (fun I_424 R_425 J_426 AI_427 AJ_428 AR_429 H locs hp_430 hH hS => ?_)
                        dsimp only at hp_430
                        obtain ⟨rfl, rfl, rfl, rfl, rfl, hv, hT, hsp, q_431⟩ := hp_430
                        replace hsp := hid hsp
                        have hQ : mQ gh I_386 J_388 AI_427 AJ mo b nn nr nt cc 1 hc := mQ_bad hQ (by omega) rfl
                        refine z_iinc (lv' := [(3, .int (iI (n + 1))), (6, .int (iI 0)), (5, .int (iI v_392)), (4, .int (iI mr)), (0, .ref mo), (1, .int (iI bl)), (2, .int (iI fm))]) F dX7_termsTold_158 hl (k := 3) rfl (by decide) rfl (fun ls hl => ?_)
                        have hTs : sTerm b nn bl n hc = (1, hc, 0) := pE1 (sTerm_x (c := bl) (by omega) (pCf_n1 (by omega))) (by omega)
                        have hS9 : sTerms b nn bl 5 0 h = (1, hc, 0) := sTerms_no hsq (f := (4 - n).toNat) (by omega) hTs.symm (by omega)
                        have hfin : thn (f, h, 0) (fun t _ => sTerms b nn bl 5 0 t) = (1, hc, 0) := (thn_k q0).trans hS9
                        exact cut_161_10 (n + 1) I_386 J_388 AI_427 H locs ls ⟨by omega, by omega⟩ hv hT pf ⟨_, _, by omega, hQ, hfin⟩ (by omega) (by omega) (fun b hb => (q_431 b hb).trans (fA9 b hb)) hH hS (lv_sub hl [3, 0, 4, 5, 6] rfl)
                      · exact absurd (tIz_1 q_421 (by omega)).1 (by omega)
                  · refine lv_aload_n F.1 F.2.1 dX7_termsTold_71 rfl (lv_at hl 2 rfl) ?_
                    refine lv_iload_n F.1 F.2.1 dX7_termsTold_72 rfl (lv_at hl 4 rfl) ?_
                    refine lv_iload_n F.1 F.2.1 dX7_termsTold_73 rfl (lv_at hl 1 rfl) ?_
                    refine z_iadd F dX7_termsTold_74 ?_
                    refine z_iconst F dX7_termsTold_75 ?_
                    refine lv_aload_n F.1 F.2.1 dX7_termsTold_76 rfl (lv_at hl 2 rfl) ?_
                    refine g_calli (g_runV (As := []) (rest := [.int (iI ((-1))), .int (iI (fm + n)), .ref mo]) (ci := 7) F hl.1 hH hS hz (c_X7_numberToldf l g gh T b nn nr nt cc 1 hc I_374 R J_2 AI_3 AJ AR mo hv hm hT (by omega) h65 hbM hr7 (by omega) hn9 (by omega) hQ) (cwV 0 F.2.2.2.2.1 (good_up gT_X7_numberTold) rfl rfl rfl hdX7_numberTold ⟨Nat.le_of_ble_eq_true rfl, Nat.le_of_ble_eq_true rfl⟩) hm (by decide) rfl rfl rfl (Nat.le_of_ble_eq_true rfl) dX7_termsTold_77 ⟨Nat.zero_le _, Nat.zero_le _⟩) hS (fun v_438 I_432 R_433 J_434 AI_435 AJ_436 AR_437 H locs zv_438 hp_439 hH hS => ?_)
                    dsimp only at hp_439
                    obtain ⟨r_440, er_440⟩ : ∃ qQ : pR, qQ = thn (1, hc, 0) (fun t _ => sNum b nn t) := ⟨_, rfl⟩
                    rw [← er_440] at hp_439
                    obtain ⟨rfl, rfl, rfl, rfl, hv, pfq, q_441, q_442, hQ, q_443⟩ := hp_439
                    have pf := qF_t pf pfq
                    have u_444_2 : (I_432 mo 2).toInt = (I mo 2).toInt := by rw [pf 2 (by decide) (by decide) (by decide) (by decide) (by decide)]
                    have u_444_5 : (I_432 mo 5).toInt = (I mo 5).toInt := by rw [pf 5 (by decide) (by decide) (by decide) (by decide) (by decide)]
                    have u_444_14 : (I_432 mo 14).toInt = (I mo 14).toInt := by rw [pf 14 (by decide) (by decide) (by decide) (by decide) (by decide)]
                    have u_444_16 : (I_432 mo 16).toInt = (I mo 16).toInt := by rw [pf 16 (by decide) (by decide) (by decide) (by decide) (by decide)]
                    have u_444_18 : (I_432 mo 18).toInt = (I mo 18).toInt := by rw [pf 18 (by decide) (by decide) (by decide) (by decide) (by decide)]
                    rw [thn_b (by omega)] at er_440
                    have hQ : mQ gh I_432 J_434 AI_3 AJ mo b nn nr nt cc 1 hc := by rw [er_440] at hQ; exact hQ
                    replace q_442 := hid q_442
                    refine z_iconst F dX7_termsTold_80 ?_
                    refine z_iconst F dX7_termsTold_81 ?_
                    have b_445 := mJ hv hm
                    unfold mNum1 at b_445
                    refine g_callv (g_runV (As := [.int (iI (fm + n)), .int (iI ((-1))), .int (iI v_438), .int (iI 0), .int (iI 0)]) (rest := []) (ci := 7) F hl.1 hH hS hz (c_X7_setsPartg l g gh T M I_432 R J_434 AI_3 AJ AR mo (fm + n) (-1) v_438 0 0 ⟨by omega, by omega⟩ ⟨by decide, by decide⟩ zv_438 ⟨by decide, by decide⟩ ⟨by decide, by decide⟩ hv hm hT (by omega) (by omega) (by omega)) (cwV 5 F.2.2.2.2.1 (good_up gT_X7_setsPart) rfl rfl rfl hdX7_setsPart ⟨Nat.le_of_ble_eq_true rfl, Nat.le_of_ble_eq_true rfl⟩) hm (by decide) rfl rfl rfl (Nat.le_of_ble_eq_true rfl) dX7_termsTold_82 ⟨Nat.zero_le _, Nat.zero_le _⟩) hS (fun I_446 R_447 J_448 AI_449 AJ_450 AR_451 H locs hp_452 hH hS => ?_)
                    dsimp only at hp_452
                    obtain ⟨rfl, rfl, rfl, rfl, rfl, hv, hT, hsp, q_453⟩ := hp_452
                    replace hsp := hid hsp
                    have hQ : mQ gh I_432 J_434 AI_449 AJ mo b nn nr nt cc 1 hc := mQ_bad hQ (by omega) rfl
                    refine z_goto (tgt := 158) F dX7_termsTold_85 (by decide) ?_
                    refine z_iinc (lv' := [(3, .int (iI (n + 1))), (4, .int (iI mr)), (0, .ref mo), (1, .int (iI bl)), (2, .int (iI fm))]) F dX7_termsTold_158 hl (k := 1) rfl (by decide) rfl (fun ls hl => ?_)
                    have hTs : sTerm b nn bl n hc = (1, hc, 0) := pE1 (sTerm_x (c := bl) (by omega) (pCf_n1 (by omega))) (by omega)
                    have hS9 : sTerms b nn bl 5 0 h = (1, hc, 0) := sTerms_no hsq (f := (4 - n).toNat) (by omega) hTs.symm (by omega)
                    have hfin : thn (f, h, 0) (fun t _ => sTerms b nn bl 5 0 t) = (1, hc, 0) := (thn_k q0).trans hS9
                    exact cut_161_10 (n + 1) I_432 J_434 AI_449 H locs ls ⟨by omega, by omega⟩ hv hT pf ⟨_, _, by omega, hQ, hfin⟩ (by omega) (by omega) (fun b hb => (q_453 b hb).trans (fA9 b hb)) hH hS (lv_sub hl [1, 0, 2, 3, 4] rfl)
                · have t_454 := tkM_3 ((mQ_k hQ rfl).symm.trans (by omega))
                  have t_454v := mQ_v hQ rfl (by omega)
                  refine z_iconst F dX7_termsTold_55 ?_
                  refine z_goto (tgt := 60) F dX7_termsTold_56 (by decide) ?_
                  refine g_callv (g_runV (As := [.int (iI 4)]) (rest := []) (ci := 7) F hl.1 hH hS hz (c_X7_wrongf l g gh T b nn nr nt cc 0 hc I_1 R J_2 AI_3 AJ AR mo 4 ⟨by decide, by decide⟩ hv hm hT (by omega) h65 hbM hr7 (by omega) hn9 (by omega) hQ) (cwV 1 F.2.2.2.2.1 (good_up gT_X7_wrong) rfl rfl rfl hdX7_wrong ⟨Nat.le_of_ble_eq_true rfl, Nat.le_of_ble_eq_true rfl⟩) hm (by decide) rfl rfl rfl (Nat.le_of_ble_eq_true rfl) dX7_termsTold_60 ⟨Nat.zero_le _, Nat.zero_le _⟩) hS (fun I_455 R_456 J_457 AI_458 AJ_459 AR_460 H locs hp_461 hH hS => ?_)
                  dsimp only at hp_461
                  obtain ⟨r_462, er_462⟩ : ∃ qQ : pR, qQ = thn (0, hc, 0) (fun t _ => (4, t, 0)) := ⟨_, rfl⟩
                  rw [← er_462] at hp_461
                  obtain ⟨rfl, rfl, rfl, rfl, rfl, hv, pfq, q_463, hQ⟩ := hp_461
                  have pf := qF_t pf pfq
                  have u_464_2 : (I_455 mo 2).toInt = (I mo 2).toInt := by rw [pf 2 (by decide) (by decide) (by decide) (by decide) (by decide)]
                  have u_464_5 : (I_455 mo 5).toInt = (I mo 5).toInt := by rw [pf 5 (by decide) (by decide) (by decide) (by decide) (by decide)]
                  have u_464_14 : (I_455 mo 14).toInt = (I mo 14).toInt := by rw [pf 14 (by decide) (by decide) (by decide) (by decide) (by decide)]
                  have u_464_16 : (I_455 mo 16).toInt = (I mo 16).toInt := by rw [pf 16 (by decide) (by decide) (by decide) (by decide) (by decide)]
                  have u_464_18 : (I_455 mo 18).toInt = (I mo 18).toInt := by rw [pf 18 (by decide) (by decide) (by decide) (by decide) (by decide)]
                  have er_462 : r_462 = (4, hc, 0) := er_462
                  have hQ : mQ gh I_455 J_2 AI_3 AJ mo b nn nr nt cc 4 hc := by rw [er_462] at hQ; exact hQ
                  have q9_r_462 : (4 : Int) ≠ 0 := by omega
                  have g9_r_462 := mQ_f hQ q9_r_462
                  refine lv_aload_n F.1 F.2.1 dX7_termsTold_63 rfl (lv_at hl 2 rfl) ?_
                  refine g_getI (ci := 7) (k := 21) F hH rfl (by decide) iX7 hm (by decide) rfl k94 dX7_termsTold_64 ?_
                  have b_465 := mJ hv hm
                  unfold mNum1 at b_465
                  refine z_iconst F dX7_termsTold_67 ?_
                  refine z_icmp_ne (tgt := 88) F dX7_termsTold_68 (by decide) (zr_t _) ⟨by decide, by decide⟩ (fun c_466 => ?_) (fun c_466 => ?_)
                  · refine lv_aload_n F.1 F.2.1 dX7_termsTold_88 rfl (lv_at hl 2 rfl) ?_
                    refine lv_iload_n F.1 F.2.1 dX7_termsTold_89 rfl (lv_at hl 3 rfl) ?_
                    refine g_calli (g_runV (As := [.int (iI bl)]) (rest := []) (ci := 7) F hl.1 hH hS hz (c_X7_columnf l g gh T b nn nr nt cc 4 hc I_455 R J_2 AI_3 AJ AR mo bl zbl hv hm hT (by omega) h65 hbM hr7 (by omega) hn9 (by omega) hQ) (cwV 1 F.2.2.2.2.1 (good_up gT_X7_column) rfl rfl rfl hdX7_column ⟨Nat.le_of_ble_eq_true rfl, Nat.le_of_ble_eq_true rfl⟩) hm (by decide) rfl rfl rfl (Nat.le_of_ble_eq_true rfl) dX7_termsTold_90 ⟨Nat.zero_le _, Nat.zero_le _⟩) hS (fun v_473 I_467 R_468 J_469 AI_470 AJ_471 AR_472 H locs zv_473 hp_474 hH hS => ?_)
                    dsimp only at hp_474
                    obtain ⟨r_475, er_475⟩ : ∃ qQ : pR, qQ = thn (4, hc, 0) (fun t _ => sCol b nn bl t) := ⟨_, rfl⟩
                    rw [← er_475] at hp_474
                    obtain ⟨rfl, rfl, rfl, rfl, hv, pfq, q_476, q_477, hQ, q_478⟩ := hp_474
                    have pf := qF_t pf pfq
                    have u_479_2 : (I_467 mo 2).toInt = (I mo 2).toInt := by rw [pf 2 (by decide) (by decide) (by decide) (by decide) (by decide)]
                    have u_479_5 : (I_467 mo 5).toInt = (I mo 5).toInt := by rw [pf 5 (by decide) (by decide) (by decide) (by decide) (by decide)]
                    have u_479_14 : (I_467 mo 14).toInt = (I mo 14).toInt := by rw [pf 14 (by decide) (by decide) (by decide) (by decide) (by decide)]
                    have u_479_16 : (I_467 mo 16).toInt = (I mo 16).toInt := by rw [pf 16 (by decide) (by decide) (by decide) (by decide) (by decide)]
                    have u_479_18 : (I_467 mo 18).toInt = (I mo 18).toInt := by rw [pf 18 (by decide) (by decide) (by decide) (by decide) (by decide)]
                    rw [thn_b (by omega)] at er_475
                    have hQ : mQ gh I_467 J_469 AI_3 AJ mo b nn nr nt cc 4 hc := by rw [er_475] at hQ; exact hQ
                    replace q_477 := hid q_477
                    obtain ⟨f1, ef1⟩ : ∃ q, q = (I_467 mo 24).toInt := ⟨_, rfl⟩
                    have hc1 : Hid (f1 = 0 → v_473 ≤ 3) := fun h9 => by omega
                    refine lv_istore (lv' := [(5, .int (iI v_473)), (4, .int (iI mr)), (3, .int (iI n)), (0, .ref mo), (1, .int (iI bl)), (2, .int (iI fm))]) F.1 F.2.1 dX7_termsTold_93 hl (by decide) rfl (fun ls hl => ?_)
                    refine z_iconst F dX7_termsTold_95 ?_
                    refine lv_istore (lv' := [(6, .int (iI 0)), (5, .int (iI v_473)), (4, .int (iI mr)), (3, .int (iI n)), (0, .ref mo), (1, .int (iI bl)), (2, .int (iI fm))]) F.1 F.2.1 dX7_termsTold_96 hl (by decide) rfl (fun ls hl => ?_)
                    refine lv_aload_n F.1 F.2.1 dX7_termsTold_98 rfl (lv_at hl 4 rfl) ?_
                    refine z_bipush F dX7_termsTold_99 (by decide) ?_
                    have b_480 := mJ hv hm
                    unfold mNum1 at b_480
                    refine g_calli (g_runV (As := [.int (iI 43)]) (rest := []) (ci := 7) F hl.1 hH hS hz (c_X7_isSignf l g gh T b nn nr nt cc 4 hc I_467 R J_469 AI_3 AJ AR mo 43 ⟨by decide, by decide⟩ hv hm hT h65 hbM hr7 (by omega) hn9 (by omega) (by omega) hQ) (cwV 1 F.2.2.2.2.1 (good_up gT_X7_isSign) rfl rfl rfl hdX7_isSign ⟨Nat.le_of_ble_eq_true rfl, Nat.le_of_ble_eq_true rfl⟩) hm (by decide) rfl rfl rfl (Nat.le_of_ble_eq_true rfl) dX7_termsTold_101 ⟨Nat.zero_le _, Nat.zero_le _⟩) hS (fun v_487 I_481 R_482 J_483 AI_484 AJ_485 AR_486 H locs zv_487 hp_488 hH hS => ?_)
                    dsimp only at hp_488
                    obtain ⟨rfl, rfl, rfl, rfl, rfl, rfl, q_489, q_490⟩ := hp_488
                    replace q_489 := q_489.1
                    refine z_if_ne (tgt := 116) F dX7_termsTold_104 (by decide) zv_487 (fun c_491 => ?_) (fun c_491 => ?_)
                    · exact absurd (tIz_1 q_490 (by omega)).1 (by omega)
                    · have t_492 := tIz_0 q_490 (by omega)
                      refine lv_aload_n F.1 F.2.1 dX7_termsTold_107 rfl (lv_at hl 4 rfl) ?_
                      refine z_bipush F dX7_termsTold_108 (by decide) ?_
                      refine g_calli (g_runV (As := [.int (iI 45)]) (rest := []) (ci := 7) F hl.1 hH hS hz (c_X7_isSignf l g gh T b nn nr nt cc 4 hc I_467 R J_469 AI_3 AJ AR mo 45 ⟨by decide, by decide⟩ hv hm hT h65 hbM hr7 (by omega) hn9 (by omega) (by omega) hQ) (cwV 1 F.2.2.2.2.1 (good_up gT_X7_isSign) rfl rfl rfl hdX7_isSign ⟨Nat.le_of_ble_eq_true rfl, Nat.le_of_ble_eq_true rfl⟩) hm (by decide) rfl rfl rfl (Nat.le_of_ble_eq_true rfl) dX7_termsTold_110 ⟨Nat.zero_le _, Nat.zero_le _⟩) hS (fun v_499 I_493 R_494 J_495 AI_496 AJ_497 AR_498 H locs zv_499 hp_500 hH hS => ?_)
                      dsimp only at hp_500
                      obtain ⟨rfl, rfl, rfl, rfl, rfl, rfl, q_501, q_502⟩ := hp_500
                      replace q_501 := q_501.1
                      refine z_if_eq (tgt := 145) F dX7_termsTold_113 (by decide) zv_499 (fun c_503 => ?_) (fun c_503 => ?_)
                      · have t_504 := tIz_0 q_502 (by omega)
                        refine lv_aload_n F.1 F.2.1 dX7_termsTold_145 rfl (lv_at hl 4 rfl) ?_
                        refine lv_iload_n F.1 F.2.1 dX7_termsTold_146 rfl (lv_at hl 6 rfl) ?_
                        refine lv_iload_n F.1 F.2.1 dX7_termsTold_147 rfl (lv_at hl 3 rfl) ?_
                        refine z_iadd F dX7_termsTold_148 ?_
                        refine lv_iload F.1 F.2.1 dX7_termsTold_149 (lv_at hl 1 rfl) ?_
                        refine lv_iload F.1 F.2.1 dX7_termsTold_151 (lv_at hl 0 rfl) ?_
                        refine z_iconst F dX7_termsTold_153 ?_
                        refine z_iconst F dX7_termsTold_154 ?_
                        refine g_callv (g_runV (As := [.int (iI (fm + n)), .int (iI v_473), .int (iI 0), .int (iI 0), .int (iI 0)]) (rest := []) (ci := 7) F hl.1 hH hS hz (c_X7_setsPartg l g gh T M I_467 R J_469 AI_3 AJ AR mo (fm + n) v_473 0 0 0 ⟨by omega, by omega⟩ zv_473 ⟨by decide, by decide⟩ ⟨by decide, by decide⟩ ⟨by decide, by decide⟩ hv hm hT (by omega) (by omega) (by omega)) (cwV 5 F.2.2.2.2.1 (good_up gT_X7_setsPart) rfl rfl rfl hdX7_setsPart ⟨Nat.le_of_ble_eq_true rfl, Nat.le_of_ble_eq_true rfl⟩) hm (by decide) rfl rfl rfl (Nat.le_of_ble_eq_true rfl) dX7_termsTold_155 ⟨Nat.zero_le _, Nat.zero_le _⟩) hS (fun I_505 R_506 J_507 AI_508 AJ_509 AR_510 H locs hp_511 hH hS => ?_)
                        dsimp only at hp_511
                        obtain ⟨rfl, rfl, rfl, rfl, rfl, hv, hT, hsp, q_512⟩ := hp_511
                        replace hsp := hid hsp
                        have hQ : mQ gh I_467 J_469 AI_508 AJ mo b nn nr nt cc 4 hc := mQ_bad hQ (by omega) rfl
                        refine z_iinc (lv' := [(3, .int (iI (n + 1))), (6, .int (iI 0)), (5, .int (iI v_473)), (4, .int (iI mr)), (0, .ref mo), (1, .int (iI bl)), (2, .int (iI fm))]) F dX7_termsTold_158 hl (k := 3) rfl (by decide) rfl (fun ls hl => ?_)
                        have hTs : sTerm b nn bl n hc = (4, hc, 0) := sTerm_n4 (by omega) (by omega)
                        have hS9 : sTerms b nn bl 5 0 h = (4, hc, 0) := sTerms_no hsq (f := (4 - n).toNat) (by omega) hTs.symm (by omega)
                        have hfin : thn (f, h, 0) (fun t _ => sTerms b nn bl 5 0 t) = (4, hc, 0) := (thn_k q0).trans hS9
                        exact cut_161_10 (n + 1) I_467 J_469 AI_508 H locs ls ⟨by omega, by omega⟩ hv hT pf ⟨_, _, by omega, hQ, hfin⟩ (by omega) (by omega) (fun b hb => (q_512 b hb).trans (fA9 b hb)) hH hS (lv_sub hl [3, 0, 4, 5, 6] rfl)
                      · exact absurd (tIz_1 q_502 (by omega)).1 (by omega)
                  · refine lv_aload_n F.1 F.2.1 dX7_termsTold_71 rfl (lv_at hl 2 rfl) ?_
                    refine lv_iload_n F.1 F.2.1 dX7_termsTold_72 rfl (lv_at hl 4 rfl) ?_
                    refine lv_iload_n F.1 F.2.1 dX7_termsTold_73 rfl (lv_at hl 1 rfl) ?_
                    refine z_iadd F dX7_termsTold_74 ?_
                    refine z_iconst F dX7_termsTold_75 ?_
                    refine lv_aload_n F.1 F.2.1 dX7_termsTold_76 rfl (lv_at hl 2 rfl) ?_
                    refine g_calli (g_runV (As := []) (rest := [.int (iI ((-1))), .int (iI (fm + n)), .ref mo]) (ci := 7) F hl.1 hH hS hz (c_X7_numberToldf l g gh T b nn nr nt cc 4 hc I_455 R J_2 AI_3 AJ AR mo hv hm hT (by omega) h65 hbM hr7 (by omega) hn9 (by omega) hQ) (cwV 0 F.2.2.2.2.1 (good_up gT_X7_numberTold) rfl rfl rfl hdX7_numberTold ⟨Nat.le_of_ble_eq_true rfl, Nat.le_of_ble_eq_true rfl⟩) hm (by decide) rfl rfl rfl (Nat.le_of_ble_eq_true rfl) dX7_termsTold_77 ⟨Nat.zero_le _, Nat.zero_le _⟩) hS (fun v_519 I_513 R_514 J_515 AI_516 AJ_517 AR_518 H locs zv_519 hp_520 hH hS => ?_)
                    dsimp only at hp_520
                    obtain ⟨r_521, er_521⟩ : ∃ qQ : pR, qQ = thn (4, hc, 0) (fun t _ => sNum b nn t) := ⟨_, rfl⟩
                    rw [← er_521] at hp_520
                    obtain ⟨rfl, rfl, rfl, rfl, hv, pfq, q_522, q_523, hQ, q_524⟩ := hp_520
                    have pf := qF_t pf pfq
                    have u_525_2 : (I_513 mo 2).toInt = (I mo 2).toInt := by rw [pf 2 (by decide) (by decide) (by decide) (by decide) (by decide)]
                    have u_525_5 : (I_513 mo 5).toInt = (I mo 5).toInt := by rw [pf 5 (by decide) (by decide) (by decide) (by decide) (by decide)]
                    have u_525_14 : (I_513 mo 14).toInt = (I mo 14).toInt := by rw [pf 14 (by decide) (by decide) (by decide) (by decide) (by decide)]
                    have u_525_16 : (I_513 mo 16).toInt = (I mo 16).toInt := by rw [pf 16 (by decide) (by decide) (by decide) (by decide) (by decide)]
                    have u_525_18 : (I_513 mo 18).toInt = (I mo 18).toInt := by rw [pf 18 (by decide) (by decide) (by decide) (by decide) (by decide)]
                    rw [thn_b (by omega)] at er_521
                    have hQ : mQ gh I_513 J_515 AI_3 AJ mo b nn nr nt cc 4 hc := by rw [er_521] at hQ; exact hQ
                    replace q_523 := hid q_523
                    refine z_iconst F dX7_termsTold_80 ?_
                    refine z_iconst F dX7_termsTold_81 ?_
                    have b_526 := mJ hv hm
                    unfold mNum1 at b_526
                    refine g_callv (g_runV (As := [.int (iI (fm + n)), .int (iI ((-1))), .int (iI v_519), .int (iI 0), .int (iI 0)]) (rest := []) (ci := 7) F hl.1 hH hS hz (c_X7_setsPartg l g gh T M I_513 R J_515 AI_3 AJ AR mo (fm + n) (-1) v_519 0 0 ⟨by omega, by omega⟩ ⟨by decide, by decide⟩ zv_519 ⟨by decide, by decide⟩ ⟨by decide, by decide⟩ hv hm hT (by omega) (by omega) (by omega)) (cwV 5 F.2.2.2.2.1 (good_up gT_X7_setsPart) rfl rfl rfl hdX7_setsPart ⟨Nat.le_of_ble_eq_true rfl, Nat.le_of_ble_eq_true rfl⟩) hm (by decide) rfl rfl rfl (Nat.le_of_ble_eq_true rfl) dX7_termsTold_82 ⟨Nat.zero_le _, Nat.zero_le _⟩) hS (fun I_527 R_528 J_529 AI_530 AJ_531 AR_532 H locs hp_533 hH hS => ?_)
                    dsimp only at hp_533
                    obtain ⟨rfl, rfl, rfl, rfl, rfl, hv, hT, hsp, q_534⟩ := hp_533
                    replace hsp := hid hsp
                    have hQ : mQ gh I_513 J_515 AI_530 AJ mo b nn nr nt cc 4 hc := mQ_bad hQ (by omega) rfl
                    refine z_goto (tgt := 158) F dX7_termsTold_85 (by decide) ?_
                    refine z_iinc (lv' := [(3, .int (iI (n + 1))), (4, .int (iI mr)), (0, .ref mo), (1, .int (iI bl)), (2, .int (iI fm))]) F dX7_termsTold_158 hl (k := 1) rfl (by decide) rfl (fun ls hl => ?_)
                    have hTs : sTerm b nn bl n hc = (4, hc, 0) := sTerm_n4 (by omega) (by omega)
                    have hS9 : sTerms b nn bl 5 0 h = (4, hc, 0) := sTerms_no hsq (f := (4 - n).toNat) (by omega) hTs.symm (by omega)
                    have hfin : thn (f, h, 0) (fun t _ => sTerms b nn bl 5 0 t) = (4, hc, 0) := (thn_k q0).trans hS9
                    exact cut_161_10 (n + 1) I_513 J_515 AI_530 H locs ls ⟨by omega, by omega⟩ hv hT pf ⟨_, _, by omega, hQ, hfin⟩ (by omega) (by omega) (fun b hb => (q_534 b hb).trans (fA9 b hb)) hH hS (lv_sub hl [1, 0, 2, 3, 4] rfl)
              · have t_535 := tkM_1 ((mQ_k hQ rfl).symm.trans (by omega))
                have t_535v := mQ_v hQ rfl (by omega)
                have t_535c := pV_c t_535
                refine lv_aload_n F.1 F.2.1 dX7_termsTold_31 rfl (lv_at hl 2 rfl) ?_
                refine g_getI (ci := 7) (k := 23) F hH rfl (by decide) iX7 hm (by decide) rfl k97 dX7_termsTold_32 ?_
                refine lv_iload_n F.1 F.2.1 dX7_termsTold_35 rfl (lv_at hl 3 rfl) ?_
                refine z_icmp_lt (tgt := 43) F dX7_termsTold_36 (by decide) (zr_t _) zbl (fun c_536 => ?_) (fun c_536 => ?_)
                · refine z_iconst F dX7_termsTold_43 ?_
                  refine z_goto (tgt := 60) F dX7_termsTold_44 (by decide) ?_
                  refine g_callv (g_runV (As := [.int (iI 4)]) (rest := []) (ci := 7) F hl.1 hH hS hz (c_X7_wrongf l g gh T b nn nr nt cc 0 hc I_1 R J_2 AI_3 AJ AR mo 4 ⟨by decide, by decide⟩ hv hm hT (by omega) h65 hbM hr7 (by omega) hn9 (by omega) hQ) (cwV 1 F.2.2.2.2.1 (good_up gT_X7_wrong) rfl rfl rfl hdX7_wrong ⟨Nat.le_of_ble_eq_true rfl, Nat.le_of_ble_eq_true rfl⟩) hm (by decide) rfl rfl rfl (Nat.le_of_ble_eq_true rfl) dX7_termsTold_60 ⟨Nat.zero_le _, Nat.zero_le _⟩) hS (fun I_537 R_538 J_539 AI_540 AJ_541 AR_542 H locs hp_543 hH hS => ?_)
                  dsimp only at hp_543
                  obtain ⟨r_544, er_544⟩ : ∃ qQ : pR, qQ = thn (0, hc, 0) (fun t _ => (4, t, 0)) := ⟨_, rfl⟩
                  rw [← er_544] at hp_543
                  obtain ⟨rfl, rfl, rfl, rfl, rfl, hv, pfq, q_545, hQ⟩ := hp_543
                  have pf := qF_t pf pfq
                  have u_546_2 : (I_537 mo 2).toInt = (I mo 2).toInt := by rw [pf 2 (by decide) (by decide) (by decide) (by decide) (by decide)]
                  have u_546_5 : (I_537 mo 5).toInt = (I mo 5).toInt := by rw [pf 5 (by decide) (by decide) (by decide) (by decide) (by decide)]
                  have u_546_14 : (I_537 mo 14).toInt = (I mo 14).toInt := by rw [pf 14 (by decide) (by decide) (by decide) (by decide) (by decide)]
                  have u_546_16 : (I_537 mo 16).toInt = (I mo 16).toInt := by rw [pf 16 (by decide) (by decide) (by decide) (by decide) (by decide)]
                  have u_546_18 : (I_537 mo 18).toInt = (I mo 18).toInt := by rw [pf 18 (by decide) (by decide) (by decide) (by decide) (by decide)]
                  have er_544 : r_544 = (4, hc, 0) := er_544
                  have hQ : mQ gh I_537 J_2 AI_3 AJ mo b nn nr nt cc 4 hc := by rw [er_544] at hQ; exact hQ
                  have q9_r_544 : (4 : Int) ≠ 0 := by omega
                  have g9_r_544 := mQ_f hQ q9_r_544
                  refine lv_aload_n F.1 F.2.1 dX7_termsTold_63 rfl (lv_at hl 2 rfl) ?_
                  refine g_getI (ci := 7) (k := 21) F hH rfl (by decide) iX7 hm (by decide) rfl k94 dX7_termsTold_64 ?_
                  have b_547 := mJ hv hm
                  unfold mNum1 at b_547
                  refine z_iconst F dX7_termsTold_67 ?_
                  refine z_icmp_ne (tgt := 88) F dX7_termsTold_68 (by decide) (zr_t _) ⟨by decide, by decide⟩ (fun c_548 => ?_) (fun c_548 => ?_)
                  · refine lv_aload_n F.1 F.2.1 dX7_termsTold_88 rfl (lv_at hl 2 rfl) ?_
                    refine lv_iload_n F.1 F.2.1 dX7_termsTold_89 rfl (lv_at hl 3 rfl) ?_
                    refine g_calli (g_runV (As := [.int (iI bl)]) (rest := []) (ci := 7) F hl.1 hH hS hz (c_X7_columnf l g gh T b nn nr nt cc 4 hc I_537 R J_2 AI_3 AJ AR mo bl zbl hv hm hT (by omega) h65 hbM hr7 (by omega) hn9 (by omega) hQ) (cwV 1 F.2.2.2.2.1 (good_up gT_X7_column) rfl rfl rfl hdX7_column ⟨Nat.le_of_ble_eq_true rfl, Nat.le_of_ble_eq_true rfl⟩) hm (by decide) rfl rfl rfl (Nat.le_of_ble_eq_true rfl) dX7_termsTold_90 ⟨Nat.zero_le _, Nat.zero_le _⟩) hS (fun v_555 I_549 R_550 J_551 AI_552 AJ_553 AR_554 H locs zv_555 hp_556 hH hS => ?_)
                    dsimp only at hp_556
                    obtain ⟨r_557, er_557⟩ : ∃ qQ : pR, qQ = thn (4, hc, 0) (fun t _ => sCol b nn bl t) := ⟨_, rfl⟩
                    rw [← er_557] at hp_556
                    obtain ⟨rfl, rfl, rfl, rfl, hv, pfq, q_558, q_559, hQ, q_560⟩ := hp_556
                    have pf := qF_t pf pfq
                    have u_561_2 : (I_549 mo 2).toInt = (I mo 2).toInt := by rw [pf 2 (by decide) (by decide) (by decide) (by decide) (by decide)]
                    have u_561_5 : (I_549 mo 5).toInt = (I mo 5).toInt := by rw [pf 5 (by decide) (by decide) (by decide) (by decide) (by decide)]
                    have u_561_14 : (I_549 mo 14).toInt = (I mo 14).toInt := by rw [pf 14 (by decide) (by decide) (by decide) (by decide) (by decide)]
                    have u_561_16 : (I_549 mo 16).toInt = (I mo 16).toInt := by rw [pf 16 (by decide) (by decide) (by decide) (by decide) (by decide)]
                    have u_561_18 : (I_549 mo 18).toInt = (I mo 18).toInt := by rw [pf 18 (by decide) (by decide) (by decide) (by decide) (by decide)]
                    rw [thn_b (by omega)] at er_557
                    have hQ : mQ gh I_549 J_551 AI_3 AJ mo b nn nr nt cc 4 hc := by rw [er_557] at hQ; exact hQ
                    replace q_559 := hid q_559
                    obtain ⟨f1, ef1⟩ : ∃ q, q = (I_549 mo 24).toInt := ⟨_, rfl⟩
                    have hc1 : Hid (f1 = 0 → v_555 ≤ 3) := fun h9 => by omega
                    refine lv_istore (lv' := [(5, .int (iI v_555)), (4, .int (iI mr)), (3, .int (iI n)), (0, .ref mo), (1, .int (iI bl)), (2, .int (iI fm))]) F.1 F.2.1 dX7_termsTold_93 hl (by decide) rfl (fun ls hl => ?_)
                    refine z_iconst F dX7_termsTold_95 ?_
                    refine lv_istore (lv' := [(6, .int (iI 0)), (5, .int (iI v_555)), (4, .int (iI mr)), (3, .int (iI n)), (0, .ref mo), (1, .int (iI bl)), (2, .int (iI fm))]) F.1 F.2.1 dX7_termsTold_96 hl (by decide) rfl (fun ls hl => ?_)
                    refine lv_aload_n F.1 F.2.1 dX7_termsTold_98 rfl (lv_at hl 4 rfl) ?_
                    refine z_bipush F dX7_termsTold_99 (by decide) ?_
                    have b_562 := mJ hv hm
                    unfold mNum1 at b_562
                    refine g_calli (g_runV (As := [.int (iI 43)]) (rest := []) (ci := 7) F hl.1 hH hS hz (c_X7_isSignf l g gh T b nn nr nt cc 4 hc I_549 R J_551 AI_3 AJ AR mo 43 ⟨by decide, by decide⟩ hv hm hT h65 hbM hr7 (by omega) hn9 (by omega) (by omega) hQ) (cwV 1 F.2.2.2.2.1 (good_up gT_X7_isSign) rfl rfl rfl hdX7_isSign ⟨Nat.le_of_ble_eq_true rfl, Nat.le_of_ble_eq_true rfl⟩) hm (by decide) rfl rfl rfl (Nat.le_of_ble_eq_true rfl) dX7_termsTold_101 ⟨Nat.zero_le _, Nat.zero_le _⟩) hS (fun v_569 I_563 R_564 J_565 AI_566 AJ_567 AR_568 H locs zv_569 hp_570 hH hS => ?_)
                    dsimp only at hp_570
                    obtain ⟨rfl, rfl, rfl, rfl, rfl, rfl, q_571, q_572⟩ := hp_570
                    replace q_571 := q_571.1
                    refine z_if_ne (tgt := 116) F dX7_termsTold_104 (by decide) zv_569 (fun c_573 => ?_) (fun c_573 => ?_)
                    · exact absurd (tIz_1 q_572 (by omega)).1 (by omega)
                    · have t_574 := tIz_0 q_572 (by omega)
                      refine lv_aload_n F.1 F.2.1 dX7_termsTold_107 rfl (lv_at hl 4 rfl) ?_
                      refine z_bipush F dX7_termsTold_108 (by decide) ?_
                      refine g_calli (g_runV (As := [.int (iI 45)]) (rest := []) (ci := 7) F hl.1 hH hS hz (c_X7_isSignf l g gh T b nn nr nt cc 4 hc I_549 R J_551 AI_3 AJ AR mo 45 ⟨by decide, by decide⟩ hv hm hT h65 hbM hr7 (by omega) hn9 (by omega) (by omega) hQ) (cwV 1 F.2.2.2.2.1 (good_up gT_X7_isSign) rfl rfl rfl hdX7_isSign ⟨Nat.le_of_ble_eq_true rfl, Nat.le_of_ble_eq_true rfl⟩) hm (by decide) rfl rfl rfl (Nat.le_of_ble_eq_true rfl) dX7_termsTold_110 ⟨Nat.zero_le _, Nat.zero_le _⟩) hS (fun v_581 I_575 R_576 J_577 AI_578 AJ_579 AR_580 H locs zv_581 hp_582 hH hS => ?_)
                      dsimp only at hp_582
                      obtain ⟨rfl, rfl, rfl, rfl, rfl, rfl, q_583, q_584⟩ := hp_582
                      replace q_583 := q_583.1
                      refine z_if_eq (tgt := 145) F dX7_termsTold_113 (by decide) zv_581 (fun c_585 => ?_) (fun c_585 => ?_)
                      · have t_586 := tIz_0 q_584 (by omega)
                        refine lv_aload_n F.1 F.2.1 dX7_termsTold_145 rfl (lv_at hl 4 rfl) ?_
                        refine lv_iload_n F.1 F.2.1 dX7_termsTold_146 rfl (lv_at hl 6 rfl) ?_
                        refine lv_iload_n F.1 F.2.1 dX7_termsTold_147 rfl (lv_at hl 3 rfl) ?_
                        refine z_iadd F dX7_termsTold_148 ?_
                        refine lv_iload F.1 F.2.1 dX7_termsTold_149 (lv_at hl 1 rfl) ?_
                        refine lv_iload F.1 F.2.1 dX7_termsTold_151 (lv_at hl 0 rfl) ?_
                        refine z_iconst F dX7_termsTold_153 ?_
                        refine z_iconst F dX7_termsTold_154 ?_
                        refine g_callv (g_runV (As := [.int (iI (fm + n)), .int (iI v_555), .int (iI 0), .int (iI 0), .int (iI 0)]) (rest := []) (ci := 7) F hl.1 hH hS hz (c_X7_setsPartg l g gh T M I_549 R J_551 AI_3 AJ AR mo (fm + n) v_555 0 0 0 ⟨by omega, by omega⟩ zv_555 ⟨by decide, by decide⟩ ⟨by decide, by decide⟩ ⟨by decide, by decide⟩ hv hm hT (by omega) (by omega) (by omega)) (cwV 5 F.2.2.2.2.1 (good_up gT_X7_setsPart) rfl rfl rfl hdX7_setsPart ⟨Nat.le_of_ble_eq_true rfl, Nat.le_of_ble_eq_true rfl⟩) hm (by decide) rfl rfl rfl (Nat.le_of_ble_eq_true rfl) dX7_termsTold_155 ⟨Nat.zero_le _, Nat.zero_le _⟩) hS (fun I_587 R_588 J_589 AI_590 AJ_591 AR_592 H locs hp_593 hH hS => ?_)
                        dsimp only at hp_593
                        obtain ⟨rfl, rfl, rfl, rfl, rfl, hv, hT, hsp, q_594⟩ := hp_593
                        replace hsp := hid hsp
                        have hQ : mQ gh I_549 J_551 AI_590 AJ mo b nn nr nt cc 4 hc := mQ_bad hQ (by omega) rfl
                        refine z_iinc (lv' := [(3, .int (iI (n + 1))), (6, .int (iI 0)), (5, .int (iI v_555)), (4, .int (iI mr)), (0, .ref mo), (1, .int (iI bl)), (2, .int (iI fm))]) F dX7_termsTold_158 hl (k := 3) rfl (by decide) rfl (fun ls hl => ?_)
                        have hTs : sTerm b nn bl n hc = (4, hc, 0) := sTerm_c4 (pCf_ok (by omega) (by omega)) (by omega)
                        have hS9 : sTerms b nn bl 5 0 h = (4, hc, 0) := sTerms_no hsq (f := (4 - n).toNat) (by omega) hTs.symm (by omega)
                        have hfin : thn (f, h, 0) (fun t _ => sTerms b nn bl 5 0 t) = (4, hc, 0) := (thn_k q0).trans hS9
                        exact cut_161_10 (n + 1) I_549 J_551 AI_590 H locs ls ⟨by omega, by omega⟩ hv hT pf ⟨_, _, by omega, hQ, hfin⟩ (by omega) (by omega) (fun b hb => (q_594 b hb).trans (fA9 b hb)) hH hS (lv_sub hl [3, 0, 4, 5, 6] rfl)
                      · exact absurd (tIz_1 q_584 (by omega)).1 (by omega)
                  · refine lv_aload_n F.1 F.2.1 dX7_termsTold_71 rfl (lv_at hl 2 rfl) ?_
                    refine lv_iload_n F.1 F.2.1 dX7_termsTold_72 rfl (lv_at hl 4 rfl) ?_
                    refine lv_iload_n F.1 F.2.1 dX7_termsTold_73 rfl (lv_at hl 1 rfl) ?_
                    refine z_iadd F dX7_termsTold_74 ?_
                    refine z_iconst F dX7_termsTold_75 ?_
                    refine lv_aload_n F.1 F.2.1 dX7_termsTold_76 rfl (lv_at hl 2 rfl) ?_
                    refine g_calli (g_runV (As := []) (rest := [.int (iI ((-1))), .int (iI (fm + n)), .ref mo]) (ci := 7) F hl.1 hH hS hz (c_X7_numberToldf l g gh T b nn nr nt cc 4 hc I_537 R J_2 AI_3 AJ AR mo hv hm hT (by omega) h65 hbM hr7 (by omega) hn9 (by omega) hQ) (cwV 0 F.2.2.2.2.1 (good_up gT_X7_numberTold) rfl rfl rfl hdX7_numberTold ⟨Nat.le_of_ble_eq_true rfl, Nat.le_of_ble_eq_true rfl⟩) hm (by decide) rfl rfl rfl (Nat.le_of_ble_eq_true rfl) dX7_termsTold_77 ⟨Nat.zero_le _, Nat.zero_le _⟩) hS (fun v_601 I_595 R_596 J_597 AI_598 AJ_599 AR_600 H locs zv_601 hp_602 hH hS => ?_)
                    dsimp only at hp_602
                    obtain ⟨r_603, er_603⟩ : ∃ qQ : pR, qQ = thn (4, hc, 0) (fun t _ => sNum b nn t) := ⟨_, rfl⟩
                    rw [← er_603] at hp_602
                    obtain ⟨rfl, rfl, rfl, rfl, hv, pfq, q_604, q_605, hQ, q_606⟩ := hp_602
                    have pf := qF_t pf pfq
                    have u_607_2 : (I_595 mo 2).toInt = (I mo 2).toInt := by rw [pf 2 (by decide) (by decide) (by decide) (by decide) (by decide)]
                    have u_607_5 : (I_595 mo 5).toInt = (I mo 5).toInt := by rw [pf 5 (by decide) (by decide) (by decide) (by decide) (by decide)]
                    have u_607_14 : (I_595 mo 14).toInt = (I mo 14).toInt := by rw [pf 14 (by decide) (by decide) (by decide) (by decide) (by decide)]
                    have u_607_16 : (I_595 mo 16).toInt = (I mo 16).toInt := by rw [pf 16 (by decide) (by decide) (by decide) (by decide) (by decide)]
                    have u_607_18 : (I_595 mo 18).toInt = (I mo 18).toInt := by rw [pf 18 (by decide) (by decide) (by decide) (by decide) (by decide)]
                    rw [thn_b (by omega)] at er_603
                    have hQ : mQ gh I_595 J_597 AI_3 AJ mo b nn nr nt cc 4 hc := by rw [er_603] at hQ; exact hQ
                    replace q_605 := hid q_605
                    refine z_iconst F dX7_termsTold_80 ?_
                    refine z_iconst F dX7_termsTold_81 ?_
                    have b_608 := mJ hv hm
                    unfold mNum1 at b_608
                    refine g_callv (g_runV (As := [.int (iI (fm + n)), .int (iI ((-1))), .int (iI v_601), .int (iI 0), .int (iI 0)]) (rest := []) (ci := 7) F hl.1 hH hS hz (c_X7_setsPartg l g gh T M I_595 R J_597 AI_3 AJ AR mo (fm + n) (-1) v_601 0 0 ⟨by omega, by omega⟩ ⟨by decide, by decide⟩ zv_601 ⟨by decide, by decide⟩ ⟨by decide, by decide⟩ hv hm hT (by omega) (by omega) (by omega)) (cwV 5 F.2.2.2.2.1 (good_up gT_X7_setsPart) rfl rfl rfl hdX7_setsPart ⟨Nat.le_of_ble_eq_true rfl, Nat.le_of_ble_eq_true rfl⟩) hm (by decide) rfl rfl rfl (Nat.le_of_ble_eq_true rfl) dX7_termsTold_82 ⟨Nat.zero_le _, Nat.zero_le _⟩) hS (fun I_609 R_610 J_611 AI_612 AJ_613 AR_614 H locs hp_615 hH hS => ?_)
                    dsimp only at hp_615
                    obtain ⟨rfl, rfl, rfl, rfl, rfl, hv, hT, hsp, q_616⟩ := hp_615
                    replace hsp := hid hsp
                    have hQ : mQ gh I_595 J_597 AI_612 AJ mo b nn nr nt cc 4 hc := mQ_bad hQ (by omega) rfl
                    refine z_goto (tgt := 158) F dX7_termsTold_85 (by decide) ?_
                    refine z_iinc (lv' := [(3, .int (iI (n + 1))), (4, .int (iI mr)), (0, .ref mo), (1, .int (iI bl)), (2, .int (iI fm))]) F dX7_termsTold_158 hl (k := 1) rfl (by decide) rfl (fun ls hl => ?_)
                    have hTs : sTerm b nn bl n hc = (4, hc, 0) := sTerm_c4 (pCf_ok (by omega) (by omega)) (by omega)
                    have hS9 : sTerms b nn bl 5 0 h = (4, hc, 0) := sTerms_no hsq (f := (4 - n).toNat) (by omega) hTs.symm (by omega)
                    have hfin : thn (f, h, 0) (fun t _ => sTerms b nn bl 5 0 t) = (4, hc, 0) := (thn_k q0).trans hS9
                    exact cut_161_10 (n + 1) I_595 J_597 AI_612 H locs ls ⟨by omega, by omega⟩ hv hT pf ⟨_, _, by omega, hQ, hfin⟩ (by omega) (by omega) (fun b hb => (q_616 b hb).trans (fA9 b hb)) hH hS (lv_sub hl [1, 0, 2, 3, 4] rfl)
                · refine z_iconst F dX7_termsTold_39 ?_
                  refine z_goto (tgt := 60) F dX7_termsTold_40 (by decide) ?_
                  refine g_callv (g_runV (As := [.int (iI 2)]) (rest := []) (ci := 7) F hl.1 hH hS hz (c_X7_wrongf l g gh T b nn nr nt cc 0 hc I_1 R J_2 AI_3 AJ AR mo 2 ⟨by decide, by decide⟩ hv hm hT (by omega) h65 hbM hr7 (by omega) hn9 (by omega) hQ) (cwV 1 F.2.2.2.2.1 (good_up gT_X7_wrong) rfl rfl rfl hdX7_wrong ⟨Nat.le_of_ble_eq_true rfl, Nat.le_of_ble_eq_true rfl⟩) hm (by decide) rfl rfl rfl (Nat.le_of_ble_eq_true rfl) dX7_termsTold_60 ⟨Nat.zero_le _, Nat.zero_le _⟩) hS (fun I_617 R_618 J_619 AI_620 AJ_621 AR_622 H locs hp_623 hH hS => ?_)
                  dsimp only at hp_623
                  obtain ⟨r_624, er_624⟩ : ∃ qQ : pR, qQ = thn (0, hc, 0) (fun t _ => (2, t, 0)) := ⟨_, rfl⟩
                  rw [← er_624] at hp_623
                  obtain ⟨rfl, rfl, rfl, rfl, rfl, hv, pfq, q_625, hQ⟩ := hp_623
                  have pf := qF_t pf pfq
                  have u_626_2 : (I_617 mo 2).toInt = (I mo 2).toInt := by rw [pf 2 (by decide) (by decide) (by decide) (by decide) (by decide)]
                  have u_626_5 : (I_617 mo 5).toInt = (I mo 5).toInt := by rw [pf 5 (by decide) (by decide) (by decide) (by decide) (by decide)]
                  have u_626_14 : (I_617 mo 14).toInt = (I mo 14).toInt := by rw [pf 14 (by decide) (by decide) (by decide) (by decide) (by decide)]
                  have u_626_16 : (I_617 mo 16).toInt = (I mo 16).toInt := by rw [pf 16 (by decide) (by decide) (by decide) (by decide) (by decide)]
                  have u_626_18 : (I_617 mo 18).toInt = (I mo 18).toInt := by rw [pf 18 (by decide) (by decide) (by decide) (by decide) (by decide)]
                  have er_624 : r_624 = (2, hc, 0) := er_624
                  have hQ : mQ gh I_617 J_2 AI_3 AJ mo b nn nr nt cc 2 hc := by rw [er_624] at hQ; exact hQ
                  have q9_r_624 : (2 : Int) ≠ 0 := by omega
                  have g9_r_624 := mQ_f hQ q9_r_624
                  refine lv_aload_n F.1 F.2.1 dX7_termsTold_63 rfl (lv_at hl 2 rfl) ?_
                  refine g_getI (ci := 7) (k := 21) F hH rfl (by decide) iX7 hm (by decide) rfl k94 dX7_termsTold_64 ?_
                  have b_627 := mJ hv hm
                  unfold mNum1 at b_627
                  refine z_iconst F dX7_termsTold_67 ?_
                  refine z_icmp_ne (tgt := 88) F dX7_termsTold_68 (by decide) (zr_t _) ⟨by decide, by decide⟩ (fun c_628 => ?_) (fun c_628 => ?_)
                  · refine lv_aload_n F.1 F.2.1 dX7_termsTold_88 rfl (lv_at hl 2 rfl) ?_
                    refine lv_iload_n F.1 F.2.1 dX7_termsTold_89 rfl (lv_at hl 3 rfl) ?_
                    refine g_calli (g_runV (As := [.int (iI bl)]) (rest := []) (ci := 7) F hl.1 hH hS hz (c_X7_columnf l g gh T b nn nr nt cc 2 hc I_617 R J_2 AI_3 AJ AR mo bl zbl hv hm hT (by omega) h65 hbM hr7 (by omega) hn9 (by omega) hQ) (cwV 1 F.2.2.2.2.1 (good_up gT_X7_column) rfl rfl rfl hdX7_column ⟨Nat.le_of_ble_eq_true rfl, Nat.le_of_ble_eq_true rfl⟩) hm (by decide) rfl rfl rfl (Nat.le_of_ble_eq_true rfl) dX7_termsTold_90 ⟨Nat.zero_le _, Nat.zero_le _⟩) hS (fun v_635 I_629 R_630 J_631 AI_632 AJ_633 AR_634 H locs zv_635 hp_636 hH hS => ?_)
                    dsimp only at hp_636
                    obtain ⟨r_637, er_637⟩ : ∃ qQ : pR, qQ = thn (2, hc, 0) (fun t _ => sCol b nn bl t) := ⟨_, rfl⟩
                    rw [← er_637] at hp_636
                    obtain ⟨rfl, rfl, rfl, rfl, hv, pfq, q_638, q_639, hQ, q_640⟩ := hp_636
                    have pf := qF_t pf pfq
                    have u_641_2 : (I_629 mo 2).toInt = (I mo 2).toInt := by rw [pf 2 (by decide) (by decide) (by decide) (by decide) (by decide)]
                    have u_641_5 : (I_629 mo 5).toInt = (I mo 5).toInt := by rw [pf 5 (by decide) (by decide) (by decide) (by decide) (by decide)]
                    have u_641_14 : (I_629 mo 14).toInt = (I mo 14).toInt := by rw [pf 14 (by decide) (by decide) (by decide) (by decide) (by decide)]
                    have u_641_16 : (I_629 mo 16).toInt = (I mo 16).toInt := by rw [pf 16 (by decide) (by decide) (by decide) (by decide) (by decide)]
                    have u_641_18 : (I_629 mo 18).toInt = (I mo 18).toInt := by rw [pf 18 (by decide) (by decide) (by decide) (by decide) (by decide)]
                    rw [thn_b (by omega)] at er_637
                    have hQ : mQ gh I_629 J_631 AI_3 AJ mo b nn nr nt cc 2 hc := by rw [er_637] at hQ; exact hQ
                    replace q_639 := hid q_639
                    obtain ⟨f1, ef1⟩ : ∃ q, q = (I_629 mo 24).toInt := ⟨_, rfl⟩
                    have hc1 : Hid (f1 = 0 → v_635 ≤ 3) := fun h9 => by omega
                    refine lv_istore (lv' := [(5, .int (iI v_635)), (4, .int (iI mr)), (3, .int (iI n)), (0, .ref mo), (1, .int (iI bl)), (2, .int (iI fm))]) F.1 F.2.1 dX7_termsTold_93 hl (by decide) rfl (fun ls hl => ?_)
                    refine z_iconst F dX7_termsTold_95 ?_
                    refine lv_istore (lv' := [(6, .int (iI 0)), (5, .int (iI v_635)), (4, .int (iI mr)), (3, .int (iI n)), (0, .ref mo), (1, .int (iI bl)), (2, .int (iI fm))]) F.1 F.2.1 dX7_termsTold_96 hl (by decide) rfl (fun ls hl => ?_)
                    refine lv_aload_n F.1 F.2.1 dX7_termsTold_98 rfl (lv_at hl 4 rfl) ?_
                    refine z_bipush F dX7_termsTold_99 (by decide) ?_
                    have b_642 := mJ hv hm
                    unfold mNum1 at b_642
                    refine g_calli (g_runV (As := [.int (iI 43)]) (rest := []) (ci := 7) F hl.1 hH hS hz (c_X7_isSignf l g gh T b nn nr nt cc 2 hc I_629 R J_631 AI_3 AJ AR mo 43 ⟨by decide, by decide⟩ hv hm hT h65 hbM hr7 (by omega) hn9 (by omega) (by omega) hQ) (cwV 1 F.2.2.2.2.1 (good_up gT_X7_isSign) rfl rfl rfl hdX7_isSign ⟨Nat.le_of_ble_eq_true rfl, Nat.le_of_ble_eq_true rfl⟩) hm (by decide) rfl rfl rfl (Nat.le_of_ble_eq_true rfl) dX7_termsTold_101 ⟨Nat.zero_le _, Nat.zero_le _⟩) hS (fun v_649 I_643 R_644 J_645 AI_646 AJ_647 AR_648 H locs zv_649 hp_650 hH hS => ?_)
                    dsimp only at hp_650
                    obtain ⟨rfl, rfl, rfl, rfl, rfl, rfl, q_651, q_652⟩ := hp_650
                    replace q_651 := q_651.1
                    refine z_if_ne (tgt := 116) F dX7_termsTold_104 (by decide) zv_649 (fun c_653 => ?_) (fun c_653 => ?_)
                    · exact absurd (tIz_1 q_652 (by omega)).1 (by omega)
                    · have t_654 := tIz_0 q_652 (by omega)
                      refine lv_aload_n F.1 F.2.1 dX7_termsTold_107 rfl (lv_at hl 4 rfl) ?_
                      refine z_bipush F dX7_termsTold_108 (by decide) ?_
                      refine g_calli (g_runV (As := [.int (iI 45)]) (rest := []) (ci := 7) F hl.1 hH hS hz (c_X7_isSignf l g gh T b nn nr nt cc 2 hc I_629 R J_631 AI_3 AJ AR mo 45 ⟨by decide, by decide⟩ hv hm hT h65 hbM hr7 (by omega) hn9 (by omega) (by omega) hQ) (cwV 1 F.2.2.2.2.1 (good_up gT_X7_isSign) rfl rfl rfl hdX7_isSign ⟨Nat.le_of_ble_eq_true rfl, Nat.le_of_ble_eq_true rfl⟩) hm (by decide) rfl rfl rfl (Nat.le_of_ble_eq_true rfl) dX7_termsTold_110 ⟨Nat.zero_le _, Nat.zero_le _⟩) hS (fun v_661 I_655 R_656 J_657 AI_658 AJ_659 AR_660 H locs zv_661 hp_662 hH hS => ?_)
                      dsimp only at hp_662
                      obtain ⟨rfl, rfl, rfl, rfl, rfl, rfl, q_663, q_664⟩ := hp_662
                      replace q_663 := q_663.1
                      refine z_if_eq (tgt := 145) F dX7_termsTold_113 (by decide) zv_661 (fun c_665 => ?_) (fun c_665 => ?_)
                      · have t_666 := tIz_0 q_664 (by omega)
                        refine lv_aload_n F.1 F.2.1 dX7_termsTold_145 rfl (lv_at hl 4 rfl) ?_
                        refine lv_iload_n F.1 F.2.1 dX7_termsTold_146 rfl (lv_at hl 6 rfl) ?_
                        refine lv_iload_n F.1 F.2.1 dX7_termsTold_147 rfl (lv_at hl 3 rfl) ?_
                        refine z_iadd F dX7_termsTold_148 ?_
                        refine lv_iload F.1 F.2.1 dX7_termsTold_149 (lv_at hl 1 rfl) ?_
                        refine lv_iload F.1 F.2.1 dX7_termsTold_151 (lv_at hl 0 rfl) ?_
                        refine z_iconst F dX7_termsTold_153 ?_
                        refine z_iconst F dX7_termsTold_154 ?_
                        refine g_callv (g_runV (As := [.int (iI (fm + n)), .int (iI v_635), .int (iI 0), .int (iI 0), .int (iI 0)]) (rest := []) (ci := 7) F hl.1 hH hS hz (c_X7_setsPartg l g gh T M I_629 R J_631 AI_3 AJ AR mo (fm + n) v_635 0 0 0 ⟨by omega, by omega⟩ zv_635 ⟨by decide, by decide⟩ ⟨by decide, by decide⟩ ⟨by decide, by decide⟩ hv hm hT (by omega) (by omega) (by omega)) (cwV 5 F.2.2.2.2.1 (good_up gT_X7_setsPart) rfl rfl rfl hdX7_setsPart ⟨Nat.le_of_ble_eq_true rfl, Nat.le_of_ble_eq_true rfl⟩) hm (by decide) rfl rfl rfl (Nat.le_of_ble_eq_true rfl) dX7_termsTold_155 ⟨Nat.zero_le _, Nat.zero_le _⟩) hS (fun I_667 R_668 J_669 AI_670 AJ_671 AR_672 H locs hp_673 hH hS => ?_)
                        dsimp only at hp_673
                        obtain ⟨rfl, rfl, rfl, rfl, rfl, hv, hT, hsp, q_674⟩ := hp_673
                        replace hsp := hid hsp
                        have hQ : mQ gh I_629 J_631 AI_670 AJ mo b nn nr nt cc 2 hc := mQ_bad hQ (by omega) rfl
                        refine z_iinc (lv' := [(3, .int (iI (n + 1))), (6, .int (iI 0)), (5, .int (iI v_635)), (4, .int (iI mr)), (0, .ref mo), (1, .int (iI bl)), (2, .int (iI fm))]) F dX7_termsTold_158 hl (k := 3) rfl (by decide) rfl (fun ls hl => ?_)
                        have hTs : sTerm b nn bl n hc = (2, hc, 0) := pE2 (sTerm_x (by omega) (pCf_n2 (by omega) (by omega))) (by omega) (by omega)
                        have hS9 : sTerms b nn bl 5 0 h = (2, hc, 0) := sTerms_no hsq (f := (4 - n).toNat) (by omega) hTs.symm (by omega)
                        have hfin : thn (f, h, 0) (fun t _ => sTerms b nn bl 5 0 t) = (2, hc, 0) := (thn_k q0).trans hS9
                        exact cut_161_10 (n + 1) I_629 J_631 AI_670 H locs ls ⟨by omega, by omega⟩ hv hT pf ⟨_, _, by omega, hQ, hfin⟩ (by omega) (by omega) (fun b hb => (q_674 b hb).trans (fA9 b hb)) hH hS (lv_sub hl [3, 0, 4, 5, 6] rfl)
                      · exact absurd (tIz_1 q_664 (by omega)).1 (by omega)
                  · refine lv_aload_n F.1 F.2.1 dX7_termsTold_71 rfl (lv_at hl 2 rfl) ?_
                    refine lv_iload_n F.1 F.2.1 dX7_termsTold_72 rfl (lv_at hl 4 rfl) ?_
                    refine lv_iload_n F.1 F.2.1 dX7_termsTold_73 rfl (lv_at hl 1 rfl) ?_
                    refine z_iadd F dX7_termsTold_74 ?_
                    refine z_iconst F dX7_termsTold_75 ?_
                    refine lv_aload_n F.1 F.2.1 dX7_termsTold_76 rfl (lv_at hl 2 rfl) ?_
                    refine g_calli (g_runV (As := []) (rest := [.int (iI ((-1))), .int (iI (fm + n)), .ref mo]) (ci := 7) F hl.1 hH hS hz (c_X7_numberToldf l g gh T b nn nr nt cc 2 hc I_617 R J_2 AI_3 AJ AR mo hv hm hT (by omega) h65 hbM hr7 (by omega) hn9 (by omega) hQ) (cwV 0 F.2.2.2.2.1 (good_up gT_X7_numberTold) rfl rfl rfl hdX7_numberTold ⟨Nat.le_of_ble_eq_true rfl, Nat.le_of_ble_eq_true rfl⟩) hm (by decide) rfl rfl rfl (Nat.le_of_ble_eq_true rfl) dX7_termsTold_77 ⟨Nat.zero_le _, Nat.zero_le _⟩) hS (fun v_681 I_675 R_676 J_677 AI_678 AJ_679 AR_680 H locs zv_681 hp_682 hH hS => ?_)
                    dsimp only at hp_682
                    obtain ⟨r_683, er_683⟩ : ∃ qQ : pR, qQ = thn (2, hc, 0) (fun t _ => sNum b nn t) := ⟨_, rfl⟩
                    rw [← er_683] at hp_682
                    obtain ⟨rfl, rfl, rfl, rfl, hv, pfq, q_684, q_685, hQ, q_686⟩ := hp_682
                    have pf := qF_t pf pfq
                    have u_687_2 : (I_675 mo 2).toInt = (I mo 2).toInt := by rw [pf 2 (by decide) (by decide) (by decide) (by decide) (by decide)]
                    have u_687_5 : (I_675 mo 5).toInt = (I mo 5).toInt := by rw [pf 5 (by decide) (by decide) (by decide) (by decide) (by decide)]
                    have u_687_14 : (I_675 mo 14).toInt = (I mo 14).toInt := by rw [pf 14 (by decide) (by decide) (by decide) (by decide) (by decide)]
                    have u_687_16 : (I_675 mo 16).toInt = (I mo 16).toInt := by rw [pf 16 (by decide) (by decide) (by decide) (by decide) (by decide)]
                    have u_687_18 : (I_675 mo 18).toInt = (I mo 18).toInt := by rw [pf 18 (by decide) (by decide) (by decide) (by decide) (by decide)]
                    rw [thn_b (by omega)] at er_683
                    have hQ : mQ gh I_675 J_677 AI_3 AJ mo b nn nr nt cc 2 hc := by rw [er_683] at hQ; exact hQ
                    replace q_685 := hid q_685
                    refine z_iconst F dX7_termsTold_80 ?_
                    refine z_iconst F dX7_termsTold_81 ?_
                    have b_688 := mJ hv hm
                    unfold mNum1 at b_688
                    refine g_callv (g_runV (As := [.int (iI (fm + n)), .int (iI ((-1))), .int (iI v_681), .int (iI 0), .int (iI 0)]) (rest := []) (ci := 7) F hl.1 hH hS hz (c_X7_setsPartg l g gh T M I_675 R J_677 AI_3 AJ AR mo (fm + n) (-1) v_681 0 0 ⟨by omega, by omega⟩ ⟨by decide, by decide⟩ zv_681 ⟨by decide, by decide⟩ ⟨by decide, by decide⟩ hv hm hT (by omega) (by omega) (by omega)) (cwV 5 F.2.2.2.2.1 (good_up gT_X7_setsPart) rfl rfl rfl hdX7_setsPart ⟨Nat.le_of_ble_eq_true rfl, Nat.le_of_ble_eq_true rfl⟩) hm (by decide) rfl rfl rfl (Nat.le_of_ble_eq_true rfl) dX7_termsTold_82 ⟨Nat.zero_le _, Nat.zero_le _⟩) hS (fun I_689 R_690 J_691 AI_692 AJ_693 AR_694 H locs hp_695 hH hS => ?_)
                    dsimp only at hp_695
                    obtain ⟨rfl, rfl, rfl, rfl, rfl, hv, hT, hsp, q_696⟩ := hp_695
                    replace hsp := hid hsp
                    have hQ : mQ gh I_675 J_677 AI_692 AJ mo b nn nr nt cc 2 hc := mQ_bad hQ (by omega) rfl
                    refine z_goto (tgt := 158) F dX7_termsTold_85 (by decide) ?_
                    refine z_iinc (lv' := [(3, .int (iI (n + 1))), (4, .int (iI mr)), (0, .ref mo), (1, .int (iI bl)), (2, .int (iI fm))]) F dX7_termsTold_158 hl (k := 1) rfl (by decide) rfl (fun ls hl => ?_)
                    have hTs : sTerm b nn bl n hc = (2, hc, 0) := pE2 (sTerm_x (by omega) (pCf_n2 (by omega) (by omega))) (by omega) (by omega)
                    have hS9 : sTerms b nn bl 5 0 h = (2, hc, 0) := sTerms_no hsq (f := (4 - n).toNat) (by omega) hTs.symm (by omega)
                    have hfin : thn (f, h, 0) (fun t _ => sTerms b nn bl 5 0 t) = (2, hc, 0) := (thn_k q0).trans hS9
                    exact cut_161_10 (n + 1) I_675 J_677 AI_692 H locs ls ⟨by omega, by omega⟩ hv hT pf ⟨_, _, by omega, hQ, hfin⟩ (by omega) (by omega) (fun b hb => (q_696 b hb).trans (fA9 b hb)) hH hS (lv_sub hl [1, 0, 2, 3, 4] rfl)
    exact cut_5_3 (((6 - 0) + 1 : Int).toNat) 0 1 I J AI H locs ls ⟨by decide, by decide⟩ ⟨by decide, by decide⟩ hv hT pf (by omega) ((fun _ => ⟨by omega, fun k a b => absurd b (by omega), trF_r⟩)) ⟨_, hQ, rfl, iL_0, qAll_0 (Int.le_refl 0)⟩ (by omega) (fun _ _ => rfl) (by omega) hH hS (lv_sub hl [0, 1, 2, 3, 4] rfl)
  · have hf1 := mQ_f hQ q0
    refine z_iconst F dX7_termsTold_0 ?_
    refine lv_istore_n (lv' := [(3, .int (iI 0)), (0, .ref mo), (1, .int (iI bl)), (2, .int (iI fm))]) F.1 F.2.1 dX7_termsTold_1 rfl hl (by decide) rfl (fun ls hl => ?_)
    refine z_iconst F dX7_termsTold_2 ?_
    refine lv_istore (lv' := [(4, .int (iI 1)), (3, .int (iI 0)), (0, .ref mo), (1, .int (iI bl)), (2, .int (iI fm))]) F.1 F.2.1 dX7_termsTold_3 hl (by decide) rfl (fun ls hl => ?_)
    refine lv_iload F.1 F.2.1 dX7_termsTold_5 (lv_at hl 0 rfl) ?_
    refine z_if_eq (tgt := 181) F dX7_termsTold_7 (by decide) ⟨by decide, by decide⟩ (fun c_697 => ?_) (fun c_697 => ?_)
    · exact absurd trivial (by omega)
    · refine lv_aload_n F.1 F.2.1 dX7_termsTold_10 rfl (lv_at hl 2 rfl) ?_
      refine g_getI (ci := 7) (k := 24) F hH rfl (by decide) iX7 hm (by decide) rfl k81 dX7_termsTold_11 ?_
      have b_698 := mJ hv hm
      unfold mNum1 at b_698
      refine z_if_ne (tgt := 181) F dX7_termsTold_14 (by decide) (zr_t _) (fun c_699 => ?_) (fun c_699 => ?_)
      · refine lv_iload_n F.1 F.2.1 dX7_termsTold_181 rfl (lv_at hl 1 rfl) ?_
        have hfin : thn (f, h, 0) (fun t _ => sTerms b nn bl 5 0 t) = (f, h, 0) := thn_b q0
        exact g_iret F hr hlk hH hS hz ⟨by decide, by decide⟩ ⟨rfl, rfl, rfl, hv, hT, pf, by first | (dsimp only; omega) | omega | rfl, by first | (dsimp only; omega) | omega | rfl, by (try dsimp only); exact (fun hf => absurd hf (by omega)), by (try dsimp only); rw [hfin]; exact hQ, by (try dsimp only); rw [hfin]; exact pIm_n (by omega), by (try dsimp only); rw [hfin]; exact zIf_n (by omega), fun _ _ => rfl⟩ dX7_termsTold_182
      · exact absurd (mQ_z hQ (by omega)) (by omega)
