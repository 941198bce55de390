def rmX7_termsToldf : Room := { frames := 4, cells := 0, slots := 0, locals := 89 }
set_option maxHeartbeats 4000000 in
set_option maxRecDepth 100000 in
/-- terms told -/
theorem c_X7_termsToldf (l : Launch) (g : gG) (gh : gGh) (T : Nat → Int32) (M : Int) (b : tTx) (nn nr : Nat) (nt : Nat → Nat) (cc : Nat → Int) (f : Int) (h : Nat) (I : gI) (R : gR) (J : gJ) (AI : gI) (AJ : gJ) (AR : gR) (mo : Nat) (bl : Int) (fm : Int) (zbl : zr bl) (zfm : zr fm) (hv : mInv g gh R I AI) (hm : gO g mo 7) (hT : AI (gh 50 0) = T) (hE : (I mo 20).toInt ≤ 936) (hM : (I mo 24).toInt = 0 → (I mo 5).toInt ≤ 15) (hMM : (I mo 5).toInt = M) (hfm : 0 ≤ fm ∧ fm ≤ 1) (h65 : gh 9 (gh 65 0) ≠ 5) (hbM : ∀ k : Nat, k < nn → ((gM g).2 (gh 65 0) k).toInt = b k % 256) (hr7 : ∀ k : Nat, -128 ≤ b k ∧ b k ≤ 127) (hsz : (I mo 18).toInt = (nn : Int)) (hn9 : nn ≤ 900) (hm5 : (I mo 5).toInt = (nr : Int)) (hQ : mQ gh I J AI AJ mo b nn nr nt cc f h) : gMet l g yX7_termsTold tsX7_termsTold rmX7_termsToldf [.ref mo, .int (iI bl), .int (iI fm)] (I, R, J, AI, AJ, AR) (gQi g (fun (z : Int) (w : gS) => R = w.2.1 ∧ AJ = w.2.2.2.2.1 ∧ AR = w.2.2.2.2.2 ∧ (mInv g gh R (w.1) (w.2.2.2.1)) ∧ ((w.2.2.2.1) (gh 50 0) = T) ∧ (qF mo I (w.1)) ∧ (((w.1) mo 20).toInt ≤ 936 ∧ (I mo 24).toInt ≤ ((w.1) mo 24).toInt) ∧ (0 ≤ z ∧ z ≤ 5) ∧ (((w.1) mo 24).toInt = 0 → 1 ≤ z ∧ z ≤ 4 ∧ termP ((w.2.2.2.1) (gh 53 0)) M fm z ∧ trF (AI (gh 53 0)) ((w.2.2.2.1) (gh 53 0)) M fm) ∧ (mQ gh (w.1) (w.2.2.1) (w.2.2.2.1) AJ mo b nn nr nt cc (thn (f, h, 0) (fun t _ => sTerms b nn bl 5 0 t)).1 (thn (f, h, 0) (fun t _ => sTerms b nn bl 5 0 t)).2.1) ∧ (pIm (thn (f, h, 0) (fun t _ => sTerms b nn bl 5 0 t)).1 z (thn (f, h, 0) (fun t _ => sTerms b nn bl 5 0 t)).2.2))) := by
  refine gStart (cc := cX7_termsTold) (maxL := 8) (ret := (some (.int))) (by decide) rfl (Nat.le_of_ble_eq_true rfl) ?_
  intro p e s m below meth c ls F hr hlk hH hz hS hl
  have hl : lv_has ls 8 [(0, .ref mo), (1, .int (iI bl)), (2, .int (iI fm))] := hl
  have hS : va_S (gA g) s.heap s.heap [] := hS
  obtain ⟨H, hHe⟩ : ∃ H : Heap, H = s.heap := ⟨_, rfl⟩
  obtain ⟨locs, hlo⟩ : ∃ k : List Loc, k = [] := ⟨_, rfl⟩
  have hH : gH g I R J AI AJ AR H := by rw [hHe]; exact hH
  have hS : va_S (gA g) s.heap H locs := by rw [hHe, hlo]; exact hS
  suffices hw : W p l e rmX7_termsToldf s m ([.ref mo, .int (iI bl), .int (iI fm)] : List Value).toArray below meth c H locs 0 0 (MQ below (gQi g (fun (z : Int) (w : gS) => R = w.2.1 ∧ AJ = w.2.2.2.2.1 ∧ AR = w.2.2.2.2.2 ∧ (mInv g gh R (w.1) (w.2.2.2.1)) ∧ ((w.2.2.2.1) (gh 50 0) = T) ∧ (qF mo I (w.1)) ∧ (((w.1) mo 20).toInt ≤ 936 ∧ (I mo 24).toInt ≤ ((w.1) mo 24).toInt) ∧ (0 ≤ z ∧ z ≤ 5) ∧ (((w.1) mo 24).toInt = 0 → 1 ≤ z ∧ z ≤ 4 ∧ termP ((w.2.2.2.1) (gh 53 0)) M fm z ∧ trF (AI (gh 53 0)) ((w.2.2.2.1) (gh 53 0)) M fm) ∧ (mQ gh (w.1) (w.2.2.1) (w.2.2.2.1) AJ mo b nn nr nt cc (thn (f, h, 0) (fun t _ => sTerms b nn bl 5 0 t)).1 (thn (f, h, 0) (fun t _ => sTerms b nn bl 5 0 t)).2.1) ∧ (pIm (thn (f, h, 0) (fun t _ => sTerms b nn bl 5 0 t)).1 z (thn (f, h, 0) (fun t _ => sTerms b nn bl 5 0 t)).2.2))) ([.ref mo, .int (iI bl), .int (iI fm)] : List Value).toArray s 0 0 (gA g)) (F0 m 0 ls []) by
    rw [hHe, hlo] at hw; exact hw
  clear hHe hlo
  have pf : qF mo I I := qF_r
  have hb0 := mJ hv hm
  unfold mNum1 at hb0
  have iX7 : ∀ w ∈ u_ws RX7 TX7 32, w ∈ tsX7_termsTold := fun w h => List.mem_cons_of_mem _ (inTB7 w h)
  have k81 : Cond.fieldLink RX7 81 (TX7 24).1 (TX7 24).2.1 (TX7 24).2.2.1 ∈ tsX7_termsTold := List.mem_cons_of_mem _ fl_81
  have k94 : Cond.fieldLink RX7 94 (TX7 21).1 (TX7 21).2.1 (TX7 21).2.2.1 ∈ tsX7_termsTold := List.mem_cons_of_mem _ fl_94
  have k97 : Cond.fieldLink RX7 97 (TX7 23).1 (TX7 23).2.1 (TX7 23).2.2.1 ∈ tsX7_termsTold := List.mem_cons_of_mem _ fl_97
  have hf0 := mQ_p hQ
  by_cases q0 : f = 0
  · have hQ := mQ_ok hQ q0
    have hz0 := mQ_0 hQ rfl
    refine z_iconst F dX7_termsTold_0 ?_
    refine lv_istore_n (lv' := [(3, .int (iI 0)), (0, .ref mo), (1, .int (iI bl)), (2, .int (iI fm))]) F.1 F.2.1 dX7_termsTold_1 rfl hl (by decide) rfl (fun ls hl => ?_)
    refine z_iconst F dX7_termsTold_2 ?_
    refine lv_istore (lv' := [(4, .int (iI 1)), (3, .int (iI 0)), (0, .ref mo), (1, .int (iI bl)), (2, .int (iI fm))]) F.1 F.2.1 dX7_termsTold_3 hl (by decide) rfl (fun ls hl => ?_)
    have cut_5_3 : ∀ (NN : Nat) (n mr : Int) (I_1 : gI) (J_2 : gJ) (AI_3 : gI) (H : Heap) (locs : List Loc) (ls : Array Slot), zr n → zr mr → (mInv g gh R I_1 AI_3) → (AI_3 (gh 50 0) = T) → (qF mo I I_1) → ((I_1 mo 20).toInt ≤ 936 ∧ (I mo 24).toInt ≤ (I_1 mo 24).toInt ∧ 0 ≤ n ∧ n ≤ 5) → (Hid ((I_1 mo 24).toInt = 0 → n ≤ 4 ∧ termP (AI_3 (gh 53 0)) M fm n ∧ trF (AI (gh 53 0)) (AI_3 (gh 53 0)) M fm)) → (∃ hc : Nat, mQ gh I_1 J_2 AI_3 AJ mo b nn nr nt cc 0 hc ∧ sTerms b nn bl 5 0 h = sTerms b nn bl (5 - n).toNat n hc) → (mr = 1) → (6 - n) < ((NN : Nat) : Int) → gH g I_1 R J_2 AI_3 AJ AR H → va_S (gA g) s.heap H locs → lv_has ls 8 [(4, .int (iI mr)), (3, .int (iI n)), (0, .ref mo), (1, .int (iI bl)), (2, .int (iI fm))] → W p l e rmX7_termsToldf s m ([.ref mo, .int (iI bl), .int (iI fm)] : List Value).toArray below meth c H locs 0 0 (MQ below (gQi g (fun (z : Int) (w : gS) => R = w.2.1 ∧ AJ = w.2.2.2.2.1 ∧ AR = w.2.2.2.2.2 ∧ (mInv g gh R (w.1) (w.2.2.2.1)) ∧ ((w.2.2.2.1) (gh 50 0) = T) ∧ (qF mo I (w.1)) ∧ (((w.1) mo 20).toInt ≤ 936 ∧ (I mo 24).toInt ≤ ((w.1) mo 24).toInt) ∧ (0 ≤ z ∧ z ≤ 5) ∧ (((w.1) mo 24).toInt = 0 → 1 ≤ z ∧ z ≤ 4 ∧ termP ((w.2.2.2.1) (gh 53 0)) M fm z ∧ trF (AI (gh 53 0)) ((w.2.2.2.1) (gh 53 0)) M fm) ∧ (mQ gh (w.1) (w.2.2.1) (w.2.2.2.1) AJ mo b nn nr nt cc (thn (f, h, 0) (fun t _ => sTerms b nn bl 5 0 t)).1 (thn (f, h, 0) (fun t _ => sTerms b nn bl 5 0 t)).2.1) ∧ (pIm (thn (f, h, 0) (fun t _ => sTerms b nn bl 5 0 t)).1 z (thn (f, h, 0) (fun t _ => sTerms b nn bl 5 0 t)).2.2))) ([.ref mo, .int (iI bl), .int (iI fm)] : List Value).toArray s 0 0 (gA g)) (F0 m 5 ls []) := by
      intro NN5
      induction NN5 with
      | zero =>
        intro n mr I_1 J_2 AI_3 H locs ls zn zmr hv hT pf hx hp hLs hmr hm5 hH hS hl
        exact absurd hm5 (by omega)
      | succ NN5 ih5 =>
        intro n mr I_1 J_2 AI_3 H locs ls zn zmr hv hT pf hx hp hLs hmr hm5 hH hS hl
        have uc_2 : (I_1 mo 2).toInt = (I mo 2).toInt := by rw [pf 2 (by decide) (by decide) (by decide) (by decide) (by decide)]
        have uc_5 : (I_1 mo 5).toInt = (I mo 5).toInt := by rw [pf 5 (by decide) (by decide) (by decide) (by decide) (by decide)]
        have uc_14 : (I_1 mo 14).toInt = (I mo 14).toInt := by rw [pf 14 (by decide) (by decide) (by decide) (by decide) (by decide)]
        have uc_16 : (I_1 mo 16).toInt = (I mo 16).toInt := by rw [pf 16 (by decide) (by decide) (by decide) (by decide) (by decide)]
        have uc_18 : (I_1 mo 18).toInt = (I mo 18).toInt := by rw [pf 18 (by decide) (by decide) (by decide) (by decide) (by decide)]
        obtain ⟨hc, hQ, hsq⟩ := hLs
        have hp_k := hp (mQ_0 hQ rfl)
        refine lv_iload F.1 F.2.1 dX7_termsTold_5 (lv_at hl 0 rfl) ?_
        refine z_if_eq (tgt := 181) F dX7_termsTold_7 (by decide) zmr (fun c_5 => ?_) (fun c_5 => ?_)
        · exact absurd hmr (by omega)
        · refine lv_aload_n F.1 F.2.1 dX7_termsTold_10 rfl (lv_at hl 2 rfl) ?_
          refine g_getI (ci := 7) (k := 24) F hH rfl (by decide) iX7 hm (by decide) rfl k81 dX7_termsTold_11 ?_
          have b_6 := mJ hv hm
          unfold mNum1 at b_6
          refine z_if_ne (tgt := 181) F dX7_termsTold_14 (by decide) (zr_t _) (fun c_7 => ?_) (fun c_7 => ?_)
          · exact absurd (mQ_0 hQ rfl) (by omega)
          · have cut_161_10 : ∀ (l3 : Int) (I_8 : gI) (J_9 : gJ) (AI_10 : gI) (H : Heap) (locs : List Loc) (ls : Array Slot), zr l3 → (mInv g gh R I_8 AI_10) → (AI_10 (gh 50 0) = T) → (qF mo I I_8) → (∃ (f9 : Int) (h9 : Nat), f9 ≠ 0 ∧ mQ gh I_8 J_9 AI_10 AJ mo b nn nr nt cc f9 h9 ∧ thn (f, h, 0) (fun t _ => sTerms b nn bl 5 0 t) = (f9, h9, 0)) → ((I_8 mo 20).toInt ≤ 936 ∧ (I mo 24).toInt ≤ (I_8 mo 24).toInt) → (0 ≤ l3 ∧ l3 ≤ 5) → gH g I_8 R J_9 AI_10 AJ AR H → va_S (gA g) s.heap H locs → lv_has ls 8 [(4, .int (iI mr)), (3, .int (iI l3)), (0, .ref mo), (1, .int (iI bl)), (2, .int (iI fm))] → W p l e rmX7_termsToldf s m ([.ref mo, .int (iI bl), .int (iI fm)] : List Value).toArray below meth c H locs 0 0 (MQ below (gQi g (fun (z : Int) (w : gS) => R = w.2.1 ∧ AJ = w.2.2.2.2.1 ∧ AR = w.2.2.2.2.2 ∧ (mInv g gh R (w.1) (w.2.2.2.1)) ∧ ((w.2.2.2.1) (gh 50 0) = T) ∧ (qF mo I (w.1)) ∧ (((w.1) mo 20).toInt ≤ 936 ∧ (I mo 24).toInt ≤ ((w.1) mo 24).toInt) ∧ (0 ≤ z ∧ z ≤ 5) ∧ (((w.1) mo 24).toInt = 0 → 1 ≤ z ∧ z ≤ 4 ∧ termP ((w.2.2.2.1) (gh 53 0)) M fm z ∧ trF (AI (gh 53 0)) ((w.2.2.2.1) (gh 53 0)) M fm) ∧ (mQ gh (w.1) (w.2.2.1) (w.2.2.2.1) AJ mo b nn nr nt cc (thn (f, h, 0) (fun t _ => sTerms b nn bl 5 0 t)).1 (thn (f, h, 0) (fun t _ => sTerms b nn bl 5 0 t)).2.1) ∧ (pIm (thn (f, h, 0) (fun t _ => sTerms b nn bl 5 0 t)).1 z (thn (f, h, 0) (fun t _ => sTerms b nn bl 5 0 t)).2.2))) ([.ref mo, .int (iI bl), .int (iI fm)] : List Value).toArray s 0 0 (gA g)) (F0 m 161 ls []) := by
              intro l3 I_8 J_9 AI_10 H locs ls zl3 hv hT pf hBad hx9 hl3 hH hS hl
              (try clear b_6); (try clear uc_18); (try clear uc_16); (try clear uc_14); (try clear uc_5); (try clear uc_2)
              have uc_2 : (I_8 mo 2).toInt = (I mo 2).toInt := by rw [pf 2 (by decide) (by decide) (by decide) (by decide) (by decide)]
              have uc_5 : (I_8 mo 5).toInt = (I mo 5).toInt := by rw [pf 5 (by decide) (by decide) (by decide) (by decide) (by decide)]
              have uc_14 : (I_8 mo 14).toInt = (I mo 14).toInt := by rw [pf 14 (by decide) (by decide) (by decide) (by decide) (by decide)]
              have uc_16 : (I_8 mo 16).toInt = (I mo 16).toInt := by rw [pf 16 (by decide) (by decide) (by decide) (by decide) (by decide)]
              have uc_18 : (I_8 mo 18).toInt = (I mo 18).toInt := by rw [pf 18 (by decide) (by decide) (by decide) (by decide) (by decide)]
              obtain ⟨fb9, hb9, q9, hQ, hfin⟩ := hBad
              have q9f := mQ_f hQ q9
              have q9p := mQ_p hQ
              refine lv_aload_n F.1 F.2.1 dX7_termsTold_161 rfl (lv_at hl 2 rfl) ?_
              refine z_bipush F dX7_termsTold_162 (by decide) ?_
              have b_12 := mJ hv hm
              unfold mNum1 at b_12
              refine g_calli (g_runV (As := [.int (iI 44)]) (rest := []) (ci := 7) F hl.1 hH hS hz (c_X7_isSignf l g gh T b nn nr nt cc fb9 hb9 I_8 R J_9 AI_10 AJ AR mo 44 ⟨by decide, by decide⟩ hv hm hT h65 hbM hr7 (by omega) hn9 (by omega) (by omega) hQ) (cwV 1 F.2.2.2.2.1 (good_up gT_X7_isSign) rfl rfl rfl hdX7_isSign ⟨Nat.le_of_ble_eq_true rfl, Nat.le_of_ble_eq_true rfl⟩) hm (by decide) rfl rfl rfl (Nat.le_of_ble_eq_true rfl) dX7_termsTold_164 ⟨Nat.zero_le _, Nat.zero_le _⟩) hS (fun v_19 I_13 R_14 J_15 AI_16 AJ_17 AR_18 H locs zv_19 hp_20 hH hS => ?_)
              dsimp only at hp_20
              obtain ⟨rfl, rfl, rfl, rfl, rfl, rfl, q_21, q_22⟩ := hp_20
              replace q_21 := q_21.1
              refine lv_istore (lv' := [(4, .int (iI v_19)), (3, .int (iI l3)), (0, .ref mo), (1, .int (iI bl)), (2, .int (iI fm))]) F.1 F.2.1 dX7_termsTold_167 hl (by decide) rfl (fun ls hl => ?_)
              refine lv_iload F.1 F.2.1 dX7_termsTold_169 (lv_at hl 0 rfl) ?_
              refine z_if_eq (tgt := 5) F dX7_termsTold_171 (by decide) zv_19 (fun c_23 => ?_) (fun c_23 => ?_)
              · have t_24 := tIz_0 q_22 (by omega)
                refine lv_iload F.1 F.2.1 dX7_termsTold_5 (lv_at hl 0 rfl) ?_
                refine z_if_eq (tgt := 181) F dX7_termsTold_7 (by decide) zv_19 (fun c_25 => ?_) (fun c_25 => ?_)
                · have t_26 := tIz_0 q_22 (by omega)
                  refine lv_iload_n F.1 F.2.1 dX7_termsTold_181 rfl (lv_at hl 1 rfl) ?_
                  exact g_iret F hr hlk hH hS hz zl3 ⟨rfl, rfl, rfl, hv, hT, pf, by first | (dsimp only; omega) | omega | rfl, by first | (dsimp only; omega) | omega | rfl, by (try dsimp only); exact (fun hf => absurd hf (by omega)), by (try dsimp only); rw [hfin]; exact hQ, by (try dsimp only); rw [hfin]; exact pIm_n (by omega)⟩ dX7_termsTold_182
                · exact absurd trivial (by omega)
              · exact absurd (tIz_1 q_22 (by omega)).1 (by omega)
            refine lv_iload_n F.1 F.2.1 dX7_termsTold_17 rfl (lv_at hl 1 rfl) ?_
            refine z_iconst F dX7_termsTold_18 ?_
            refine z_icmp_ne (tgt := 63) F dX7_termsTold_19 (by decide) zn ⟨by decide, by decide⟩ (fun c_27 => ?_) (fun c_27 => ?_)
            · have cut_158_30 : ∀ (I_28 : gI) (J_29 : gJ) (AI_30 : gI) (H : Heap) (locs : List Loc) (ls : Array Slot), (mInv g gh R I_28 AI_30) → (AI_30 (gh 50 0) = T) → (qF mo I I_28) → ((I_28 mo 20).toInt ≤ 936 ∧ (I mo 24).toInt ≤ (I_28 mo 24).toInt) → (Hid ((I_28 mo 24).toInt = 0 → n ≤ 3 ∧ termP (AI_30 (gh 53 0)) M fm (n + 1) ∧ trF (AI (gh 53 0)) (AI_30 (gh 53 0)) M fm)) → (∃ h1 : Nat, mQ gh I_28 J_29 AI_30 AJ mo b nn nr nt cc 0 h1 ∧ sTerm b nn bl n hc = (0, h1, 0)) → gH g I_28 R J_29 AI_30 AJ AR H → va_S (gA g) s.heap H locs → lv_has ls 8 [(4, .int (iI mr)), (3, .int (iI n)), (0, .ref mo), (1, .int (iI bl)), (2, .int (iI fm))] → W p l e rmX7_termsToldf s m ([.ref mo, .int (iI bl), .int (iI fm)] : List Value).toArray below meth c H locs 0 0 (MQ below (gQi g (fun (z : Int) (w : gS) => R = w.2.1 ∧ AJ = w.2.2.2.2.1 ∧ AR = w.2.2.2.2.2 ∧ (mInv g gh R (w.1) (w.2.2.2.1)) ∧ ((w.2.2.2.1) (gh 50 0) = T) ∧ (qF mo I (w.1)) ∧ (((w.1) mo 20).toInt ≤ 936 ∧ (I mo 24).toInt ≤ ((w.1) mo 24).toInt) ∧ (0 ≤ z ∧ z ≤ 5) ∧ (((w.1) mo 24).toInt = 0 → 1 ≤ z ∧ z ≤ 4 ∧ termP ((w.2.2.2.1) (gh 53 0)) M fm z ∧ trF (AI (gh 53 0)) ((w.2.2.2.1) (gh 53 0)) M fm) ∧ (mQ gh (w.1) (w.2.2.1) (w.2.2.2.1) AJ mo b nn nr nt cc (thn (f, h, 0) (fun t _ => sTerms b nn bl 5 0 t)).1 (thn (f, h, 0) (fun t _ => sTerms b nn bl 5 0 t)).2.1) ∧ (pIm (thn (f, h, 0) (fun t _ => sTerms b nn bl 5 0 t)).1 z (thn (f, h, 0) (fun t _ => sTerms b nn bl 5 0 t)).2.2))) ([.ref mo, .int (iI bl), .int (iI fm)] : List Value).toArray s 0 0 (gA g)) (F0 m 158 ls []) := by
                intro I_28 J_29 AI_30 H locs ls hv hT pf h158a h158 hOk hH hS hl
                (try clear b_6); (try clear uc_18); (try clear uc_16); (try clear uc_14); (try clear uc_5); (try clear uc_2)
                have uc_2 : (I_28 mo 2).toInt = (I mo 2).toInt := by rw [pf 2 (by decide) (by decide) (by decide) (by decide) (by decide)]
                have uc_5 : (I_28 mo 5).toInt = (I mo 5).toInt := by rw [pf 5 (by decide) (by decide) (by decide) (by decide) (by decide)]
                have uc_14 : (I_28 mo 14).toInt = (I mo 14).toInt := by rw [pf 14 (by decide) (by decide) (by decide) (by decide) (by decide)]
                have uc_16 : (I_28 mo 16).toInt = (I mo 16).toInt := by rw [pf 16 (by decide) (by decide) (by decide) (by decide) (by decide)]
                have uc_18 : (I_28 mo 18).toInt = (I mo 18).toInt := by rw [pf 18 (by decide) (by decide) (by decide) (by decide) (by decide)]
                obtain ⟨h1, hQ, hTs⟩ := hOk
                refine z_iinc (lv' := [(3, .int (iI (n + 1))), (4, .int (iI mr)), (0, .ref mo), (1, .int (iI bl)), (2, .int (iI fm))]) F dX7_termsTold_158 hl (k := 1) rfl (by decide) rfl (fun ls hl => ?_)
                refine lv_aload_n F.1 F.2.1 dX7_termsTold_161 rfl (lv_at hl 2 rfl) ?_
                refine z_bipush F dX7_termsTold_162 (by decide) ?_
                have b_32 := mJ hv hm
                unfold mNum1 at b_32
                refine g_calli (g_runV (As := [.int (iI 44)]) (rest := []) (ci := 7) F hl.1 hH hS hz (c_X7_isSignf l g gh T b nn nr nt cc 0 h1 I_28 R J_29 AI_30 AJ AR mo 44 ⟨by decide, by decide⟩ hv hm hT h65 hbM hr7 (by omega) hn9 (by omega) (by omega) hQ) (cwV 1 F.2.2.2.2.1 (good_up gT_X7_isSign) rfl rfl rfl hdX7_isSign ⟨Nat.le_of_ble_eq_true rfl, Nat.le_of_ble_eq_true rfl⟩) hm (by decide) rfl rfl rfl (Nat.le_of_ble_eq_true rfl) dX7_termsTold_164 ⟨Nat.zero_le _, Nat.zero_le _⟩) hS (fun v_39 I_33 R_34 J_35 AI_36 AJ_37 AR_38 H locs zv_39 hp_40 hH hS => ?_)
                dsimp only at hp_40
                obtain ⟨rfl, rfl, rfl, rfl, rfl, rfl, q_41, q_42⟩ := hp_40
                replace q_41 := q_41.1
                refine lv_istore (lv' := [(4, .int (iI v_39)), (3, .int (iI (n + 1))), (0, .ref mo), (1, .int (iI bl)), (2, .int (iI fm))]) F.1 F.2.1 dX7_termsTold_167 hl (by decide) rfl (fun ls hl => ?_)
                refine lv_iload F.1 F.2.1 dX7_termsTold_169 (lv_at hl 0 rfl) ?_
                refine z_if_eq (tgt := 5) F dX7_termsTold_171 (by decide) zv_39 (fun c_43 => ?_) (fun c_43 => ?_)
                · have t_44 := tIz_n q_42 (by omega)
                  have hp : Hid ((I_28 mo 24).toInt = 0 → (n + 1) ≤ 4 ∧ termP (AI_30 (gh 53 0)) M fm (n + 1) ∧ trF (AI (gh 53 0)) (AI_30 (gh 53 0)) M fm) := ((fun hf => ⟨by omega, (h158 (by omega)).2.1, (h158 (by omega)).2.2⟩))
                  have hS9 : sTerms b nn bl 5 0 h = (0, h1, n + 1) := sTerms_st hsq (f := (4 - n).toNat) (by omega) hTs.symm rfl (by omega)
                  refine lv_iload F.1 F.2.1 dX7_termsTold_5 (lv_at hl 0 rfl) ?_
                  refine z_if_eq (tgt := 181) F dX7_termsTold_7 (by decide) zv_39 (fun c_45 => ?_) (fun c_45 => ?_)
                  · have t_46 := tIz_n q_42 (by omega)
                    refine lv_iload_n F.1 F.2.1 dX7_termsTold_181 rfl (lv_at hl 1 rfl) ?_
                    have hfin : thn (f, h, 0) (fun t _ => sTerms b nn bl 5 0 t) = (0, h1, n + 1) := (thn_k q0).trans hS9
                    exact g_iret F hr hlk hH hS hz ⟨by omega, by omega⟩ ⟨rfl, rfl, rfl, hv, hT, pf, by first | (dsimp only; omega) | omega | rfl, by first | (dsimp only; omega) | omega | rfl, by (try dsimp only); intro hf; exact ⟨by omega, by omega, (hp (by omega)).2.1, (hp (by omega)).2.2⟩, by (try dsimp only); rw [hfin]; exact hQ, by (try dsimp only); rw [hfin]; (try dsimp only); exact pIm_y (by omega)⟩ dX7_termsTold_182
                  · exact absurd trivial (by omega)
                · have t_47 := tIz_y q_42 (by omega)
                  refine lv_aload_n F.1 F.2.1 dX7_termsTold_174 rfl (lv_at hl 2 rfl) ?_
                  refine g_callv (g_runV (As := []) (rest := []) (ci := 7) F hl.1 hH hS hz (c_X7_nextf l g gh T b nn (tNd b nn (tPs b nn h1)) I_28 R J_29 AI_30 AJ AR mo hv hm hT (by omega) (mTp hv h65 hbM) hr7 (by omega) (by omega) (mQ_e0 hQ) tNd_le.1) (cwV 0 F.2.2.2.2.1 (good_up gT_X7_next) rfl rfl rfl hdX7_next ⟨Nat.le_of_ble_eq_true rfl, Nat.le_of_ble_eq_true rfl⟩) hm (by decide) rfl rfl rfl (Nat.le_of_ble_eq_true rfl) dX7_termsTold_175 ⟨Nat.zero_le _, Nat.zero_le _⟩) hS (fun I_48 R_49 J_50 AI_51 AJ_52 AR_53 H locs hp_54 hH hS => ?_)
                  dsimp only at hp_54
                  obtain ⟨rfl, rfl, rfl, rfl, hv, pfq, q_55, nx4, nxa, nxb⟩ := hp_54
                  have pf := qF_t pf pfq
                  have u_56_2 : (I_48 mo 2).toInt = (I mo 2).toInt := by rw [pf 2 (by decide) (by decide) (by decide) (by decide) (by decide)]
                  have u_56_5 : (I_48 mo 5).toInt = (I mo 5).toInt := by rw [pf 5 (by decide) (by decide) (by decide) (by decide) (by decide)]
                  have u_56_14 : (I_48 mo 14).toInt = (I mo 14).toInt := by rw [pf 14 (by decide) (by decide) (by decide) (by decide) (by decide)]
                  have u_56_16 : (I_48 mo 16).toInt = (I mo 16).toInt := by rw [pf 16 (by decide) (by decide) (by decide) (by decide) (by decide)]
                  have u_56_18 : (I_48 mo 18).toInt = (I mo 18).toInt := by rw [pf 18 (by decide) (by decide) (by decide) (by decide) (by decide)]
                  have hQ : mQ gh I_48 J_50 AI_30 AJ mo b nn nr nt cc 0 (h1 + 1) := mQ_nx hQ nx4 nxa
                  clear nxa nxb
                  have hsq := sTerms_go hsq (f := (4 - n).toNat) (by omega) hTs.symm rfl (by omega)
                  refine z_goto (tgt := 5) F dX7_termsTold_178 (by decide) ?_
                  exact ih5 (n + 1) v_39 I_48 J_50 AI_30 H locs ls ⟨by omega, by omega⟩ zv_39 hv hT pf (by omega) ((fun hf => ⟨by omega, (h158 (by omega)).2.1, (h158 (by omega)).2.2⟩)) ⟨_, hQ, by rw [show (5 - (n + 1)).toNat = (4 - n).toNat by omega]; exact hsq⟩ (by omega) (by omega) hH hS (lv_sub hl [0, 1, 2, 3, 4] rfl)
              refine lv_aload_n F.1 F.2.1 dX7_termsTold_63 rfl (lv_at hl 2 rfl) ?_
              refine g_getI (ci := 7) (k := 21) F hH rfl (by decide) iX7 hm (by decide) rfl k94 dX7_termsTold_64 ?_
              refine z_iconst F dX7_termsTold_67 ?_
              refine z_icmp_ne (tgt := 88) F dX7_termsTold_68 (by decide) (zr_t _) ⟨by decide, by decide⟩ (fun c_57 => ?_) (fun c_57 => ?_)
              · have t_58 : pK b nn hc ≠ 4 := mQ_kn hQ rfl (c := 3) rfl (by omega)
                refine lv_aload_n F.1 F.2.1 dX7_termsTold_88 rfl (lv_at hl 2 rfl) ?_
                refine lv_iload_n F.1 F.2.1 dX7_termsTold_89 rfl (lv_at hl 3 rfl) ?_
                refine g_calli (g_runV (As := [.int (iI bl)]) (rest := []) (ci := 7) F hl.1 hH hS hz (c_X7_columnf l g gh T b nn nr nt cc 0 hc I_1 R J_2 AI_3 AJ AR mo bl zbl hv hm hT (by omega) h65 hbM hr7 (by omega) hn9 (by omega) hQ) (cwV 1 F.2.2.2.2.1 (good_up gT_X7_column) rfl rfl rfl hdX7_column ⟨Nat.le_of_ble_eq_true rfl, Nat.le_of_ble_eq_true rfl⟩) hm (by decide) rfl rfl rfl (Nat.le_of_ble_eq_true rfl) dX7_termsTold_90 ⟨Nat.zero_le _, Nat.zero_le _⟩) hS (fun v_65 I_59 R_60 J_61 AI_62 AJ_63 AR_64 H locs zv_65 hp_66 hH hS => ?_)
                dsimp only at hp_66
                obtain ⟨r_67, er_67⟩ : ∃ qQ : pR, qQ = thn (0, hc, 0) (fun t _ => sCol b nn bl t) := ⟨_, rfl⟩
                rw [← er_67] at hp_66
                obtain ⟨rfl, rfl, rfl, rfl, hv, pfq, q_68, q_69, hQ, q_70⟩ := hp_66
                have pf := qF_t pf pfq
                have u_71_2 : (I_59 mo 2).toInt = (I mo 2).toInt := by rw [pf 2 (by decide) (by decide) (by decide) (by decide) (by decide)]
                have u_71_5 : (I_59 mo 5).toInt = (I mo 5).toInt := by rw [pf 5 (by decide) (by decide) (by decide) (by decide) (by decide)]
                have u_71_14 : (I_59 mo 14).toInt = (I mo 14).toInt := by rw [pf 14 (by decide) (by decide) (by decide) (by decide) (by decide)]
                have u_71_16 : (I_59 mo 16).toInt = (I mo 16).toInt := by rw [pf 16 (by decide) (by decide) (by decide) (by decide) (by decide)]
                have u_71_18 : (I_59 mo 18).toInt = (I mo 18).toInt := by rw [pf 18 (by decide) (by decide) (by decide) (by decide) (by decide)]
                have er_67 : r_67 = sCol b nn bl hc := er_67
                have sr_67 := er_67
                rcases sCol_c er_67 with ⟨er_67, pr_67⟩ | ⟨er_67, pr_67⟩
                · have hQ : mQ gh I_59 J_61 AI_3 AJ mo b nn nr nt cc 0 (hc + 1) := by rw [er_67] at hQ; exact hQ
                  have sr_67 : sCol b nn bl hc = (0, hc + 1, pV b nn hc) := sr_67.symm.trans er_67
                  have vlr_67 := q_70 (by rw [er_67])
                  try rw [er_67] at vlr_67
                  try dsimp only at vlr_67
                  have kq_69 := q_69 (mQ_0 hQ rfl)
                  replace q_69 := hid q_69
                  obtain ⟨f1, ef1⟩ : ∃ q, q = (I_59 mo 24).toInt := ⟨_, rfl⟩
                  have hc1 : Hid (f1 = 0 → v_65 ≤ 3) := fun h9 => by omega
                  refine lv_istore (lv' := [(5, .int (iI v_65)), (4, .int (iI mr)), (3, .int (iI n)), (0, .ref mo), (1, .int (iI bl)), (2, .int (iI fm))]) F.1 F.2.1 dX7_termsTold_93 hl (by decide) rfl (fun ls hl => ?_)
                  refine z_iconst F dX7_termsTold_95 ?_
                  refine lv_istore (lv' := [(6, .int (iI 0)), (5, .int (iI v_65)), (4, .int (iI mr)), (3, .int (iI n)), (0, .ref mo), (1, .int (iI bl)), (2, .int (iI fm))]) F.1 F.2.1 dX7_termsTold_96 hl (by decide) rfl (fun ls hl => ?_)
                  refine lv_aload_n F.1 F.2.1 dX7_termsTold_98 rfl (lv_at hl 4 rfl) ?_
                  refine z_bipush F dX7_termsTold_99 (by decide) ?_
                  have b_72 := mJ hv hm
                  unfold mNum1 at b_72
                  refine g_calli (g_runV (As := [.int (iI 43)]) (rest := []) (ci := 7) F hl.1 hH hS hz (c_X7_isSignf l g gh T b nn nr nt cc 0 (hc + 1) I_59 R J_61 AI_3 AJ AR mo 43 ⟨by decide, by decide⟩ hv hm hT h65 hbM hr7 (by omega) hn9 (by omega) (by omega) hQ) (cwV 1 F.2.2.2.2.1 (good_up gT_X7_isSign) rfl rfl rfl hdX7_isSign ⟨Nat.le_of_ble_eq_true rfl, Nat.le_of_ble_eq_true rfl⟩) hm (by decide) rfl rfl rfl (Nat.le_of_ble_eq_true rfl) dX7_termsTold_101 ⟨Nat.zero_le _, Nat.zero_le _⟩) hS (fun v_79 I_73 R_74 J_75 AI_76 AJ_77 AR_78 H locs zv_79 hp_80 hH hS => ?_)
                  dsimp only at hp_80
                  obtain ⟨rfl, rfl, rfl, rfl, rfl, rfl, q_81, q_82⟩ := hp_80
                  replace q_81 := q_81.1
                  refine z_if_ne (tgt := 116) F dX7_termsTold_104 (by decide) zv_79 (fun c_83 => ?_) (fun c_83 => ?_)
                  · have t_84 := tIz_y q_82 (by omega)
                    refine lv_aload_n F.1 F.2.1 dX7_termsTold_116 rfl (lv_at hl 4 rfl) ?_
                    refine z_bipush F dX7_termsTold_117 (by decide) ?_
                    refine g_calli (g_runV (As := [.int (iI 43)]) (rest := []) (ci := 7) F hl.1 hH hS hz (c_X7_isSignf l g gh T b nn nr nt cc 0 (hc + 1) I_59 R J_61 AI_3 AJ AR mo 43 ⟨by decide, by decide⟩ hv hm hT h65 hbM hr7 (by omega) hn9 (by omega) (by omega) hQ) (cwV 1 F.2.2.2.2.1 (good_up gT_X7_isSign) rfl rfl rfl hdX7_isSign ⟨Nat.le_of_ble_eq_true rfl, Nat.le_of_ble_eq_true rfl⟩) hm (by decide) rfl rfl rfl (Nat.le_of_ble_eq_true rfl) dX7_termsTold_119 ⟨Nat.zero_le _, Nat.zero_le _⟩) hS (fun v_91 I_85 R_86 J_87 AI_88 AJ_89 AR_90 H locs zv_91 hp_92 hH hS => ?_)
                    dsimp only at hp_92
                    obtain ⟨rfl, rfl, rfl, rfl, rfl, rfl, q_93, q_94⟩ := hp_92
                    replace q_93 := q_93.1
                    refine z_if_eq (tgt := 129) F dX7_termsTold_122 (by decide) zv_91 (fun c_95 => ?_) (fun c_95 => ?_)
                    · have t_96 := tIz_n q_94 (by omega)
                      refine z_iconst F dX7_termsTold_129 ?_
                      refine lv_istore (lv' := [(7, .int (iI ((-1)))), (6, .int (iI 0)), (5, .int (iI v_65)), (4, .int (iI mr)), (3, .int (iI n)), (0, .ref mo), (1, .int (iI bl)), (2, .int (iI fm))]) F.1 F.2.1 dX7_termsTold_130 hl (by decide) rfl (fun ls hl => ?_)
                      refine lv_aload_n F.1 F.2.1 dX7_termsTold_132 rfl (lv_at hl 5 rfl) ?_
                      refine g_callv (g_runV (As := []) (rest := []) (ci := 7) F hl.1 hH hS hz (c_X7_nextf l g gh T b nn (tNd b nn (tPs b nn (hc + 1))) I_59 R J_61 AI_3 AJ AR mo hv hm hT (by omega) (mTp hv h65 hbM) hr7 (by omega) (by omega) (mQ_e0 hQ) tNd_le.1) (cwV 0 F.2.2.2.2.1 (good_up gT_X7_next) rfl rfl rfl hdX7_next ⟨Nat.le_of_ble_eq_true rfl, Nat.le_of_ble_eq_true rfl⟩) hm (by decide) rfl rfl rfl (Nat.le_of_ble_eq_true rfl) dX7_termsTold_133 ⟨Nat.zero_le _, Nat.zero_le _⟩) hS (fun I_97 R_98 J_99 AI_100 AJ_101 AR_102 H locs hp_103 hH hS => ?_)
                      dsimp only at hp_103
                      obtain ⟨rfl, rfl, rfl, rfl, hv, pfq, q_104, nx4, nxa, nxb⟩ := hp_103
                      have pf := qF_t pf pfq
                      have u_105_2 : (I_97 mo 2).toInt = (I mo 2).toInt := by rw [pf 2 (by decide) (by decide) (by decide) (by decide) (by decide)]
                      have u_105_5 : (I_97 mo 5).toInt = (I mo 5).toInt := by rw [pf 5 (by decide) (by decide) (by decide) (by decide) (by decide)]
                      have u_105_14 : (I_97 mo 14).toInt = (I mo 14).toInt := by rw [pf 14 (by decide) (by decide) (by decide) (by decide) (by decide)]
                      have u_105_16 : (I_97 mo 16).toInt = (I mo 16).toInt := by rw [pf 16 (by decide) (by decide) (by decide) (by decide) (by decide)]
                      have u_105_18 : (I_97 mo 18).toInt = (I mo 18).toInt := by rw [pf 18 (by decide) (by decide) (by decide) (by decide) (by decide)]
                      have hQ : mQ gh I_97 J_99 AI_3 AJ mo b nn nr nt cc 0 (hc + 2) := mQ_nx hQ nx4 nxa
                      clear nxa nxb
                      refine lv_iload F.1 F.2.1 dX7_termsTold_136 (lv_at hl 0 rfl) ?_
                      refine lv_aload_n F.1 F.2.1 dX7_termsTold_138 rfl (lv_at hl 5 rfl) ?_
                      have b_106 := mJ hv hm
                      unfold mNum1 at b_106
                      refine g_calli (g_runV (As := []) (rest := [.int (iI ((-1)))]) (ci := 7) F hl.1 hH hS hz (c_X7_numberToldf l g gh T b nn nr nt cc 0 (hc + 2) I_97 R J_99 AI_3 AJ AR mo hv hm hT (by omega) h65 hbM hr7 (by omega) hn9 (by omega) hQ) (cwV 0 F.2.2.2.2.1 (good_up gT_X7_numberTold) rfl rfl rfl hdX7_numberTold ⟨Nat.le_of_ble_eq_true rfl, Nat.le_of_ble_eq_true rfl⟩) hm (by decide) rfl rfl rfl (Nat.le_of_ble_eq_true rfl) dX7_termsTold_139 ⟨Nat.zero_le _, Nat.zero_le _⟩) hS (fun v_113 I_107 R_108 J_109 AI_110 AJ_111 AR_112 H locs zv_113 hp_114 hH hS => ?_)
                      dsimp only at hp_114
                      obtain ⟨r_115, er_115⟩ : ∃ qQ : pR, qQ = thn (0, (hc + 2), 0) (fun t _ => sNum b nn t) := ⟨_, rfl⟩
                      rw [← er_115] at hp_114
                      obtain ⟨rfl, rfl, rfl, rfl, hv, pfq, q_116, q_117, hQ, q_118⟩ := hp_114
                      have pf := qF_t pf pfq
                      have u_119_2 : (I_107 mo 2).toInt = (I mo 2).toInt := by rw [pf 2 (by decide) (by decide) (by decide) (by decide) (by decide)]
                      have u_119_5 : (I_107 mo 5).toInt = (I mo 5).toInt := by rw [pf 5 (by decide) (by decide) (by decide) (by decide) (by decide)]
                      have u_119_14 : (I_107 mo 14).toInt = (I mo 14).toInt := by rw [pf 14 (by decide) (by decide) (by decide) (by decide) (by decide)]
                      have u_119_16 : (I_107 mo 16).toInt = (I mo 16).toInt := by rw [pf 16 (by decide) (by decide) (by decide) (by decide) (by decide)]
                      have u_119_18 : (I_107 mo 18).toInt = (I mo 18).toInt := by rw [pf 18 (by decide) (by decide) (by decide) (by decide) (by decide)]
                      have er_115 : r_115 = sNum b nn (hc + 2) := er_115
                      have sr_115 := er_115
                      rcases sNum_c er_115 with ⟨er_115, pr_115⟩ | ⟨er_115, pr_115⟩
                      · have hQ : mQ gh I_107 J_109 AI_3 AJ mo b nn nr nt cc 0 (hc + 3) := by rw [er_115] at hQ; exact hQ
                        have sr_115 : sNum b nn (hc + 2) = (0, hc + 3, pV b nn (hc + 2)) := sr_115.symm.trans er_115
                        have vlr_115 := q_118 (by rw [er_115])
                        try rw [er_115] at vlr_115
                        try dsimp only at vlr_115
                        have kq_117 := q_117 (mQ_0 hQ rfl)
                        replace q_117 := hid q_117
                        refine z_imul F dX7_termsTold_142 ?_
                        refine z_norm (fun v_120 zv_120 ev_120 => ?_)
                        refine lv_istore (lv' := [(6, .int (iI v_120)), (7, .int (iI ((-1)))), (5, .int (iI v_65)), (4, .int (iI mr)), (3, .int (iI n)), (0, .ref mo), (1, .int (iI bl)), (2, .int (iI fm))]) F.1 F.2.1 dX7_termsTold_143 hl (by decide) rfl (fun ls hl => ?_)
                        refine lv_aload_n F.1 F.2.1 dX7_termsTold_145 rfl (lv_at hl 5 rfl) ?_
                        refine lv_iload_n F.1 F.2.1 dX7_termsTold_146 rfl (lv_at hl 7 rfl) ?_
                        refine lv_iload_n F.1 F.2.1 dX7_termsTold_147 rfl (lv_at hl 4 rfl) ?_
                        refine z_iadd F dX7_termsTold_148 ?_
                        refine lv_iload F.1 F.2.1 dX7_termsTold_149 (lv_at hl 2 rfl) ?_
                        refine lv_iload F.1 F.2.1 dX7_termsTold_151 (lv_at hl 0 rfl) ?_
                        refine z_iconst F dX7_termsTold_153 ?_
                        refine z_iconst F dX7_termsTold_154 ?_
                        have b_121 := mJ hv hm
                        unfold mNum1 at b_121
                        refine g_callv (g_runV (As := [.int (iI (fm + n)), .int (iI v_65), .int (iI v_120), .int (iI 0), .int (iI 0)]) (rest := []) (ci := 7) F hl.1 hH hS hz (c_X7_setsPart l g gh T M I_107 R J_109 AI_3 AJ AR mo (fm + n) v_65 v_120 0 0 ⟨by omega, by omega⟩ zv_65 zv_120 ⟨by decide, by decide⟩ ⟨by decide, by decide⟩ hv hm hT (by omega) (by omega) (by omega)) (cwV 5 F.2.2.2.2.1 (good_up gT_X7_setsPart) rfl rfl rfl hdX7_setsPart ⟨Nat.le_of_ble_eq_true rfl, Nat.le_of_ble_eq_true rfl⟩) hm (by decide) rfl rfl rfl (Nat.le_of_ble_eq_true rfl) dX7_termsTold_155 ⟨Nat.zero_le _, Nat.zero_le _⟩) hS (fun I_122 R_123 J_124 AI_125 AJ_126 AR_127 H locs hp_128 hH hS => ?_)
                        dsimp only at hp_128
                        obtain ⟨rfl, rfl, rfl, rfl, rfl, hv, hT, hsp⟩ := hp_128
                        replace hsp := hid hsp
                        have hQ : mQ gh I_107 J_109 AI_125 AJ mo b nn nr nt cc 0 (hc + 3) := mQ_a hQ (fun hf9 z9 h09 h19 => (hsp hf9).1 z9 h09 (Or.inl (by omega)))
                        have hTs : sTerm b nn bl n hc = (0, hc + 3, 0) := sTerm_s (by omega) (by omega) (by omega) (by omega)
                        exact cut_158_30 I_107 J_109 AI_125 H locs ls hv hT pf (by omega) (fun hf => ⟨by omega, termP_step (by omega) (by omega) (hp (by omega)).2.1 (hsp (by omega)) (by omega), trF_step (hp (by omega)).2.2 ⟨by omega, by omega⟩ (hsp (by omega))⟩) ⟨_, hQ, hTs⟩ hH hS (lv_sub hl [3, 4, 5, 6, 7] rfl)
                      · have hQ : mQ gh I_107 J_109 AI_3 AJ mo b nn nr nt cc 1 (hc + 2) := by rw [er_115] at hQ; exact hQ
                        have sr_115 := sr_115.symm.trans er_115
                        have g9r_115 := mQ_f hQ (by omega)
                        replace q_117 := hid q_117
                        refine z_imul F dX7_termsTold_142 ?_
                        refine z_norm (fun v_129 zv_129 ev_129 => ?_)
                        refine lv_istore (lv' := [(6, .int (iI v_129)), (7, .int (iI ((-1)))), (5, .int (iI v_65)), (4, .int (iI mr)), (3, .int (iI n)), (0, .ref mo), (1, .int (iI bl)), (2, .int (iI fm))]) F.1 F.2.1 dX7_termsTold_143 hl (by decide) rfl (fun ls hl => ?_)
                        refine lv_aload_n F.1 F.2.1 dX7_termsTold_145 rfl (lv_at hl 5 rfl) ?_
                        refine lv_iload_n F.1 F.2.1 dX7_termsTold_146 rfl (lv_at hl 7 rfl) ?_
                        refine lv_iload_n F.1 F.2.1 dX7_termsTold_147 rfl (lv_at hl 4 rfl) ?_
                        refine z_iadd F dX7_termsTold_148 ?_
                        refine lv_iload F.1 F.2.1 dX7_termsTold_149 (lv_at hl 2 rfl) ?_
                        refine lv_iload F.1 F.2.1 dX7_termsTold_151 (lv_at hl 0 rfl) ?_
                        refine z_iconst F dX7_termsTold_153 ?_
                        refine z_iconst F dX7_termsTold_154 ?_
                        have b_130 := mJ hv hm
                        unfold mNum1 at b_130
                        refine g_callv (g_runV (As := [.int (iI (fm + n)), .int (iI v_65), .int (iI v_129), .int (iI 0), .int (iI 0)]) (rest := []) (ci := 7) F hl.1 hH hS hz (c_X7_setsPart l g gh T M I_107 R J_109 AI_3 AJ AR mo (fm + n) v_65 v_129 0 0 ⟨by omega, by omega⟩ zv_65 zv_129 ⟨by decide, by decide⟩ ⟨by decide, by decide⟩ hv hm hT (by omega) (by omega) (by omega)) (cwV 5 F.2.2.2.2.1 (good_up gT_X7_setsPart) rfl rfl rfl hdX7_setsPart ⟨Nat.le_of_ble_eq_true rfl, Nat.le_of_ble_eq_true rfl⟩) hm (by decide) rfl rfl rfl (Nat.le_of_ble_eq_true rfl) dX7_termsTold_155 ⟨Nat.zero_le _, Nat.zero_le _⟩) hS (fun I_131 R_132 J_133 AI_134 AJ_135 AR_136 H locs hp_137 hH hS => ?_)
                        dsimp only at hp_137
                        obtain ⟨rfl, rfl, rfl, rfl, rfl, hv, hT, hsp⟩ := hp_137
                        replace hsp := hid hsp
                        have hQ : mQ gh I_107 J_109 AI_134 AJ mo b nn nr nt cc 1 (hc + 2) := mQ_bad hQ (by omega) rfl
                        refine z_iinc (lv' := [(3, .int (iI (n + 1))), (6, .int (iI v_129)), (7, .int (iI ((-1)))), (5, .int (iI v_65)), (4, .int (iI mr)), (0, .ref mo), (1, .int (iI bl)), (2, .int (iI fm))]) F dX7_termsTold_158 hl (k := 4) rfl (by decide) rfl (fun ls hl => ?_)
                        have hTs : sTerm b nn bl n hc = (1, hc + 2, 0) := sTerm_s1 (by omega) (by omega) (by omega) (by omega)
                        have hS9 : sTerms b nn bl 5 0 h = (1, hc + 2, 0) := sTerms_no hsq (f := (4 - n).toNat) (by omega) hTs.symm (by omega)
                        have hfin : thn (f, h, 0) (fun t _ => sTerms b nn bl 5 0 t) = (1, hc + 2, 0) := (thn_k q0).trans hS9
                        exact cut_161_10 (n + 1) I_107 J_109 AI_134 H locs ls ⟨by omega, by omega⟩ hv hT pf ⟨_, _, by omega, hQ, hfin⟩ (by omega) (by omega) hH hS (lv_sub hl [4, 0, 5, 6, 7] rfl)
                    · have t_138 := tIz_y q_94 (by omega)
                      refine z_iconst F dX7_termsTold_125 ?_
                      refine z_goto (tgt := 130) F dX7_termsTold_126 (by decide) ?_
                      refine lv_istore (lv' := [(7, .int (iI 1)), (6, .int (iI 0)), (5, .int (iI v_65)), (4, .int (iI mr)), (3, .int (iI n)), (0, .ref mo), (1, .int (iI bl)), (2, .int (iI fm))]) F.1 F.2.1 dX7_termsTold_130 hl (by decide) rfl (fun ls hl => ?_)
                      refine lv_aload_n F.1 F.2.1 dX7_termsTold_132 rfl (lv_at hl 5 rfl) ?_
                      refine g_callv (g_runV (As := []) (rest := []) (ci := 7) F hl.1 hH hS hz (c_X7_nextf l g gh T b nn (tNd b nn (tPs b nn (hc + 1))) I_59 R J_61 AI_3 AJ AR mo hv hm hT (by omega) (mTp hv h65 hbM) hr7 (by omega) (by omega) (mQ_e0 hQ) tNd_le.1) (cwV 0 F.2.2.2.2.1 (good_up gT_X7_next) rfl rfl rfl hdX7_next ⟨Nat.le_of_ble_eq_true rfl, Nat.le_of_ble_eq_true rfl⟩) hm (by decide) rfl rfl rfl (Nat.le_of_ble_eq_true rfl) dX7_termsTold_133 ⟨Nat.zero_le _, Nat.zero_le _⟩) hS (fun I_139 R_140 J_141 AI_142 AJ_143 AR_144 H locs hp_145 hH hS => ?_)
                      dsimp only at hp_145
                      obtain ⟨rfl, rfl, rfl, rfl, hv, pfq, q_146, nx4, nxa, nxb⟩ := hp_145
                      have pf := qF_t pf pfq
                      have u_147_2 : (I_139 mo 2).toInt = (I mo 2).toInt := by rw [pf 2 (by decide) (by decide) (by decide) (by decide) (by decide)]
                      have u_147_5 : (I_139 mo 5).toInt = (I mo 5).toInt := by rw [pf 5 (by decide) (by decide) (by decide) (by decide) (by decide)]
                      have u_147_14 : (I_139 mo 14).toInt = (I mo 14).toInt := by rw [pf 14 (by decide) (by decide) (by decide) (by decide) (by decide)]
                      have u_147_16 : (I_139 mo 16).toInt = (I mo 16).toInt := by rw [pf 16 (by decide) (by decide) (by decide) (by decide) (by decide)]
                      have u_147_18 : (I_139 mo 18).toInt = (I mo 18).toInt := by rw [pf 18 (by decide) (by decide) (by decide) (by decide) (by decide)]
                      have hQ : mQ gh I_139 J_141 AI_3 AJ mo b nn nr nt cc 0 (hc + 2) := mQ_nx hQ nx4 nxa
                      clear nxa nxb
                      refine lv_iload F.1 F.2.1 dX7_termsTold_136 (lv_at hl 0 rfl) ?_
                      refine lv_aload_n F.1 F.2.1 dX7_termsTold_138 rfl (lv_at hl 5 rfl) ?_
                      have b_148 := mJ hv hm
                      unfold mNum1 at b_148
                      refine g_calli (g_runV (As := []) (rest := [.int (iI 1)]) (ci := 7) F hl.1 hH hS hz (c_X7_numberToldf l g gh T b nn nr nt cc 0 (hc + 2) I_139 R J_141 AI_3 AJ AR mo hv hm hT (by omega) h65 hbM hr7 (by omega) hn9 (by omega) hQ) (cwV 0 F.2.2.2.2.1 (good_up gT_X7_numberTold) rfl rfl rfl hdX7_numberTold ⟨Nat.le_of_ble_eq_true rfl, Nat.le_of_ble_eq_true rfl⟩) hm (by decide) rfl rfl rfl (Nat.le_of_ble_eq_true rfl) dX7_termsTold_139 ⟨Nat.zero_le _, Nat.zero_le _⟩) hS (fun v_155 I_149 R_150 J_151 AI_152 AJ_153 AR_154 H locs zv_155 hp_156 hH hS => ?_)
                      dsimp only at hp_156
                      obtain ⟨r_157, er_157⟩ : ∃ qQ : pR, qQ = thn (0, (hc + 2), 0) (fun t _ => sNum b nn t) := ⟨_, rfl⟩
                      rw [← er_157] at hp_156
                      obtain ⟨rfl, rfl, rfl, rfl, hv, pfq, q_158, q_159, hQ, q_160⟩ := hp_156
                      have pf := qF_t pf pfq
                      have u_161_2 : (I_149 mo 2).toInt = (I mo 2).toInt := by rw [pf 2 (by decide) (by decide) (by decide) (by decide) (by decide)]
                      have u_161_5 : (I_149 mo 5).toInt = (I mo 5).toInt := by rw [pf 5 (by decide) (by decide) (by decide) (by decide) (by decide)]
                      have u_161_14 : (I_149 mo 14).toInt = (I mo 14).toInt := by rw [pf 14 (by decide) (by decide) (by decide) (by decide) (by decide)]
                      have u_161_16 : (I_149 mo 16).toInt = (I mo 16).toInt := by rw [pf 16 (by decide) (by decide) (by decide) (by decide) (by decide)]
                      have u_161_18 : (I_149 mo 18).toInt = (I mo 18).toInt := by rw [pf 18 (by decide) (by decide) (by decide) (by decide) (by decide)]
                      have er_157 : r_157 = sNum b nn (hc + 2) := er_157
                      have sr_157 := er_157
                      rcases sNum_c er_157 with ⟨er_157, pr_157⟩ | ⟨er_157, pr_157⟩
                      · have hQ : mQ gh I_149 J_151 AI_3 AJ mo b nn nr nt cc 0 (hc + 3) := by rw [er_157] at hQ; exact hQ
                        have sr_157 : sNum b nn (hc + 2) = (0, hc + 3, pV b nn (hc + 2)) := sr_157.symm.trans er_157
                        have vlr_157 := q_160 (by rw [er_157])
                        try rw [er_157] at vlr_157
                        try dsimp only at vlr_157
                        have kq_159 := q_159 (mQ_0 hQ rfl)
                        replace q_159 := hid q_159
                        refine z_imul F dX7_termsTold_142 ?_
                        refine z_norm (fun v_162 zv_162 ev_162 => ?_)
                        refine lv_istore (lv' := [(6, .int (iI v_162)), (7, .int (iI 1)), (5, .int (iI v_65)), (4, .int (iI mr)), (3, .int (iI n)), (0, .ref mo), (1, .int (iI bl)), (2, .int (iI fm))]) F.1 F.2.1 dX7_termsTold_143 hl (by decide) rfl (fun ls hl => ?_)
                        refine lv_aload_n F.1 F.2.1 dX7_termsTold_145 rfl (lv_at hl 5 rfl) ?_
                        refine lv_iload_n F.1 F.2.1 dX7_termsTold_146 rfl (lv_at hl 7 rfl) ?_
                        refine lv_iload_n F.1 F.2.1 dX7_termsTold_147 rfl (lv_at hl 4 rfl) ?_
                        refine z_iadd F dX7_termsTold_148 ?_
                        refine lv_iload F.1 F.2.1 dX7_termsTold_149 (lv_at hl 2 rfl) ?_
                        refine lv_iload F.1 F.2.1 dX7_termsTold_151 (lv_at hl 0 rfl) ?_
                        refine z_iconst F dX7_termsTold_153 ?_
                        refine z_iconst F dX7_termsTold_154 ?_
                        have b_163 := mJ hv hm
                        unfold mNum1 at b_163
                        refine g_callv (g_runV (As := [.int (iI (fm + n)), .int (iI v_65), .int (iI v_162), .int (iI 0), .int (iI 0)]) (rest := []) (ci := 7) F hl.1 hH hS hz (c_X7_setsPart l g gh T M I_149 R J_151 AI_3 AJ AR mo (fm + n) v_65 v_162 0 0 ⟨by omega, by omega⟩ zv_65 zv_162 ⟨by decide, by decide⟩ ⟨by decide, by decide⟩ hv hm hT (by omega) (by omega) (by omega)) (cwV 5 F.2.2.2.2.1 (good_up gT_X7_setsPart) rfl rfl rfl hdX7_setsPart ⟨Nat.le_of_ble_eq_true rfl, Nat.le_of_ble_eq_true rfl⟩) hm (by decide) rfl rfl rfl (Nat.le_of_ble_eq_true rfl) dX7_termsTold_155 ⟨Nat.zero_le _, Nat.zero_le _⟩) hS (fun I_164 R_165 J_166 AI_167 AJ_168 AR_169 H locs hp_170 hH hS => ?_)
                        dsimp only at hp_170
                        obtain ⟨rfl, rfl, rfl, rfl, rfl, hv, hT, hsp⟩ := hp_170
                        replace hsp := hid hsp
                        have hQ : mQ gh I_149 J_151 AI_167 AJ mo b nn nr nt cc 0 (hc + 3) := mQ_a hQ (fun hf9 z9 h09 h19 => (hsp hf9).1 z9 h09 (Or.inl (by omega)))
                        have hTs : sTerm b nn bl n hc = (0, hc + 3, 0) := sTerm_s (by omega) (by omega) (by omega) (by omega)
                        exact cut_158_30 I_149 J_151 AI_167 H locs ls hv hT pf (by omega) (fun hf => ⟨by omega, termP_step (by omega) (by omega) (hp (by omega)).2.1 (hsp (by omega)) (by omega), trF_step (hp (by omega)).2.2 ⟨by omega, by omega⟩ (hsp (by omega))⟩) ⟨_, hQ, hTs⟩ hH hS (lv_sub hl [3, 4, 5, 6, 7] rfl)
                      · have hQ : mQ gh I_149 J_151 AI_3 AJ mo b nn nr nt cc 1 (hc + 2) := by rw [er_157] at hQ; exact hQ
                        have sr_157 := sr_157.symm.trans er_157
                        have g9r_157 := mQ_f hQ (by omega)
                        replace q_159 := hid q_159
                        refine z_imul F dX7_termsTold_142 ?_
                        refine z_norm (fun v_171 zv_171 ev_171 => ?_)
                        refine lv_istore (lv' := [(6, .int (iI v_171)), (7, .int (iI 1)), (5, .int (iI v_65)), (4, .int (iI mr)), (3, .int (iI n)), (0, .ref mo), (1, .int (iI bl)), (2, .int (iI fm))]) F.1 F.2.1 dX7_termsTold_143 hl (by decide) rfl (fun ls hl => ?_)
                        refine lv_aload_n F.1 F.2.1 dX7_termsTold_145 rfl (lv_at hl 5 rfl) ?_
                        refine lv_iload_n F.1 F.2.1 dX7_termsTold_146 rfl (lv_at hl 7 rfl) ?_
                        refine lv_iload_n F.1 F.2.1 dX7_termsTold_147 rfl (lv_at hl 4 rfl) ?_
                        refine z_iadd F dX7_termsTold_148 ?_
                        refine lv_iload F.1 F.2.1 dX7_termsTold_149 (lv_at hl 2 rfl) ?_
                        refine lv_iload F.1 F.2.1 dX7_termsTold_151 (lv_at hl 0 rfl) ?_
                        refine z_iconst F dX7_termsTold_153 ?_
                        refine z_iconst F dX7_termsTold_154 ?_
                        have b_172 := mJ hv hm
                        unfold mNum1 at b_172
                        refine g_callv (g_runV (As := [.int (iI (fm + n)), .int (iI v_65), .int (iI v_171), .int (iI 0), .int (iI 0)]) (rest := []) (ci := 7) F hl.1 hH hS hz (c_X7_setsPart l g gh T M I_149 R J_151 AI_3 AJ AR mo (fm + n) v_65 v_171 0 0 ⟨by omega, by omega⟩ zv_65 zv_171 ⟨by decide, by decide⟩ ⟨by decide, by decide⟩ hv hm hT (by omega) (by omega) (by omega)) (cwV 5 F.2.2.2.2.1 (good_up gT_X7_setsPart) rfl rfl rfl hdX7_setsPart ⟨Nat.le_of_ble_eq_true rfl, Nat.le_of_ble_eq_true rfl⟩) hm (by decide) rfl rfl rfl (Nat.le_of_ble_eq_true rfl) dX7_termsTold_155 ⟨Nat.zero_le _, Nat.zero_le _⟩) hS (fun I_173 R_174 J_175 AI_176 AJ_177 AR_178 H locs hp_179 hH hS => ?_)
                        dsimp only at hp_179
                        obtain ⟨rfl, rfl, rfl, rfl, rfl, hv, hT, hsp⟩ := hp_179
                        replace hsp := hid hsp
                        have hQ : mQ gh I_149 J_151 AI_176 AJ mo b nn nr nt cc 1 (hc + 2) := mQ_bad hQ (by omega) rfl
                        refine z_iinc (lv' := [(3, .int (iI (n + 1))), (6, .int (iI v_171)), (7, .int (iI 1)), (5, .int (iI v_65)), (4, .int (iI mr)), (0, .ref mo), (1, .int (iI bl)), (2, .int (iI fm))]) F dX7_termsTold_158 hl (k := 4) rfl (by decide) rfl (fun ls hl => ?_)
                        have hTs : sTerm b nn bl n hc = (1, hc + 2, 0) := sTerm_s1 (by omega) (by omega) (by omega) (by omega)
                        have hS9 : sTerms b nn bl 5 0 h = (1, hc + 2, 0) := sTerms_no hsq (f := (4 - n).toNat) (by omega) hTs.symm (by omega)
                        have hfin : thn (f, h, 0) (fun t _ => sTerms b nn bl 5 0 t) = (1, hc + 2, 0) := (thn_k q0).trans hS9
                        exact cut_161_10 (n + 1) I_149 J_151 AI_176 H locs ls ⟨by omega, by omega⟩ hv hT pf ⟨_, _, by omega, hQ, hfin⟩ (by omega) (by omega) hH hS (lv_sub hl [4, 0, 5, 6, 7] rfl)
                  · have t_180 := tIz_n q_82 (by omega)
                    refine lv_aload_n F.1 F.2.1 dX7_termsTold_107 rfl (lv_at hl 4 rfl) ?_
                    refine z_bipush F dX7_termsTold_108 (by decide) ?_
                    refine g_calli (g_runV (As := [.int (iI 45)]) (rest := []) (ci := 7) F hl.1 hH hS hz (c_X7_isSignf l g gh T b nn nr nt cc 0 (hc + 1) I_59 R J_61 AI_3 AJ AR mo 45 ⟨by decide, by decide⟩ hv hm hT h65 hbM hr7 (by omega) hn9 (by omega) (by omega) hQ) (cwV 1 F.2.2.2.2.1 (good_up gT_X7_isSign) rfl rfl rfl hdX7_isSign ⟨Nat.le_of_ble_eq_true rfl, Nat.le_of_ble_eq_true rfl⟩) hm (by decide) rfl rfl rfl (Nat.le_of_ble_eq_true rfl) dX7_termsTold_110 ⟨Nat.zero_le _, Nat.zero_le _⟩) hS (fun v_187 I_181 R_182 J_183 AI_184 AJ_185 AR_186 H locs zv_187 hp_188 hH hS => ?_)
                    dsimp only at hp_188
                    obtain ⟨rfl, rfl, rfl, rfl, rfl, rfl, q_189, q_190⟩ := hp_188
                    replace q_189 := q_189.1
                    refine z_if_eq (tgt := 145) F dX7_termsTold_113 (by decide) zv_187 (fun c_191 => ?_) (fun c_191 => ?_)
                    · have t_192 := tIz_n q_190 (by omega)
                      refine lv_aload_n F.1 F.2.1 dX7_termsTold_145 rfl (lv_at hl 4 rfl) ?_
                      refine lv_iload_n F.1 F.2.1 dX7_termsTold_146 rfl (lv_at hl 6 rfl) ?_
                      refine lv_iload_n F.1 F.2.1 dX7_termsTold_147 rfl (lv_at hl 3 rfl) ?_
                      refine z_iadd F dX7_termsTold_148 ?_
                      refine lv_iload F.1 F.2.1 dX7_termsTold_149 (lv_at hl 1 rfl) ?_
                      refine lv_iload F.1 F.2.1 dX7_termsTold_151 (lv_at hl 0 rfl) ?_
                      refine z_iconst F dX7_termsTold_153 ?_
                      refine z_iconst F dX7_termsTold_154 ?_
                      refine g_callv (g_runV (As := [.int (iI (fm + n)), .int (iI v_65), .int (iI 0), .int (iI 0), .int (iI 0)]) (rest := []) (ci := 7) F hl.1 hH hS hz (c_X7_setsPart l g gh T M I_59 R J_61 AI_3 AJ AR mo (fm + n) v_65 0 0 0 ⟨by omega, by omega⟩ zv_65 ⟨by decide, by decide⟩ ⟨by decide, by decide⟩ ⟨by decide, by decide⟩ hv hm hT (by omega) (by omega) (by omega)) (cwV 5 F.2.2.2.2.1 (good_up gT_X7_setsPart) rfl rfl rfl hdX7_setsPart ⟨Nat.le_of_ble_eq_true rfl, Nat.le_of_ble_eq_true rfl⟩) hm (by decide) rfl rfl rfl (Nat.le_of_ble_eq_true rfl) dX7_termsTold_155 ⟨Nat.zero_le _, Nat.zero_le _⟩) hS (fun I_193 R_194 J_195 AI_196 AJ_197 AR_198 H locs hp_199 hH hS => ?_)
                      dsimp only at hp_199
                      obtain ⟨rfl, rfl, rfl, rfl, rfl, hv, hT, hsp⟩ := hp_199
                      replace hsp := hid hsp
                      have hQ : mQ gh I_59 J_61 AI_196 AJ mo b nn nr nt cc 0 (hc + 1) := mQ_a hQ (fun hf9 z9 h09 h19 => (hsp hf9).1 z9 h09 (Or.inl (by omega)))
                      have hTs : sTerm b nn bl n hc = (0, hc + 1, 0) := sTerm_c (by omega) (by omega) (by omega)
                      exact cut_158_30 I_59 J_61 AI_196 H locs ls hv hT pf (by omega) (fun hf => ⟨by omega, termP_step (by omega) (by omega) (hp (by omega)).2.1 (hsp (by omega)) (by omega), trF_step (hp (by omega)).2.2 ⟨by omega, by omega⟩ (hsp (by omega))⟩) ⟨_, hQ, hTs⟩ hH hS (lv_sub hl [2, 3, 4, 5, 6] rfl)
                    · have t_200 := tIz_y q_190 (by omega)
                      refine lv_aload_n F.1 F.2.1 dX7_termsTold_116 rfl (lv_at hl 4 rfl) ?_
                      refine z_bipush F dX7_termsTold_117 (by decide) ?_
                      refine g_calli (g_runV (As := [.int (iI 43)]) (rest := []) (ci := 7) F hl.1 hH hS hz (c_X7_isSignf l g gh T b nn nr nt cc 0 (hc + 1) I_59 R J_61 AI_3 AJ AR mo 43 ⟨by decide, by decide⟩ hv hm hT h65 hbM hr7 (by omega) hn9 (by omega) (by omega) hQ) (cwV 1 F.2.2.2.2.1 (good_up gT_X7_isSign) rfl rfl rfl hdX7_isSign ⟨Nat.le_of_ble_eq_true rfl, Nat.le_of_ble_eq_true rfl⟩) hm (by decide) rfl rfl rfl (Nat.le_of_ble_eq_true rfl) dX7_termsTold_119 ⟨Nat.zero_le _, Nat.zero_le _⟩) hS (fun v_207 I_201 R_202 J_203 AI_204 AJ_205 AR_206 H locs zv_207 hp_208 hH hS => ?_)
                      dsimp only at hp_208
                      obtain ⟨rfl, rfl, rfl, rfl, rfl, rfl, q_209, q_210⟩ := hp_208
                      replace q_209 := q_209.1
                      refine z_if_eq (tgt := 129) F dX7_termsTold_122 (by decide) zv_207 (fun c_211 => ?_) (fun c_211 => ?_)
                      · have t_212 := tIz_n q_210 (by omega)
                        refine z_iconst F dX7_termsTold_129 ?_
                        refine lv_istore (lv' := [(7, .int (iI ((-1)))), (6, .int (iI 0)), (5, .int (iI v_65)), (4, .int (iI mr)), (3, .int (iI n)), (0, .ref mo), (1, .int (iI bl)), (2, .int (iI fm))]) F.1 F.2.1 dX7_termsTold_130 hl (by decide) rfl (fun ls hl => ?_)
                        refine lv_aload_n F.1 F.2.1 dX7_termsTold_132 rfl (lv_at hl 5 rfl) ?_
                        refine g_callv (g_runV (As := []) (rest := []) (ci := 7) F hl.1 hH hS hz (c_X7_nextf l g gh T b nn (tNd b nn (tPs b nn (hc + 1))) I_59 R J_61 AI_3 AJ AR mo hv hm hT (by omega) (mTp hv h65 hbM) hr7 (by omega) (by omega) (mQ_e0 hQ) tNd_le.1) (cwV 0 F.2.2.2.2.1 (good_up gT_X7_next) rfl rfl rfl hdX7_next ⟨Nat.le_of_ble_eq_true rfl, Nat.le_of_ble_eq_true rfl⟩) hm (by decide) rfl rfl rfl (Nat.le_of_ble_eq_true rfl) dX7_termsTold_133 ⟨Nat.zero_le _, Nat.zero_le _⟩) hS (fun I_213 R_214 J_215 AI_216 AJ_217 AR_218 H locs hp_219 hH hS => ?_)
                        dsimp only at hp_219
                        obtain ⟨rfl, rfl, rfl, rfl, hv, pfq, q_220, nx4, nxa, nxb⟩ := hp_219
                        have pf := qF_t pf pfq
                        have u_221_2 : (I_213 mo 2).toInt = (I mo 2).toInt := by rw [pf 2 (by decide) (by decide) (by decide) (by decide) (by decide)]
                        have u_221_5 : (I_213 mo 5).toInt = (I mo 5).toInt := by rw [pf 5 (by decide) (by decide) (by decide) (by decide) (by decide)]
                        have u_221_14 : (I_213 mo 14).toInt = (I mo 14).toInt := by rw [pf 14 (by decide) (by decide) (by decide) (by decide) (by decide)]
                        have u_221_16 : (I_213 mo 16).toInt = (I mo 16).toInt := by rw [pf 16 (by decide) (by decide) (by decide) (by decide) (by decide)]
                        have u_221_18 : (I_213 mo 18).toInt = (I mo 18).toInt := by rw [pf 18 (by decide) (by decide) (by decide) (by decide) (by decide)]
                        have hQ : mQ gh I_213 J_215 AI_3 AJ mo b nn nr nt cc 0 (hc + 2) := mQ_nx hQ nx4 nxa
                        clear nxa nxb
                        refine lv_iload F.1 F.2.1 dX7_termsTold_136 (lv_at hl 0 rfl) ?_
                        refine lv_aload_n F.1 F.2.1 dX7_termsTold_138 rfl (lv_at hl 5 rfl) ?_
                        have b_222 := mJ hv hm
                        unfold mNum1 at b_222
                        refine g_calli (g_runV (As := []) (rest := [.int (iI ((-1)))]) (ci := 7) F hl.1 hH hS hz (c_X7_numberToldf l g gh T b nn nr nt cc 0 (hc + 2) I_213 R J_215 AI_3 AJ AR mo hv hm hT (by omega) h65 hbM hr7 (by omega) hn9 (by omega) hQ) (cwV 0 F.2.2.2.2.1 (good_up gT_X7_numberTold) rfl rfl rfl hdX7_numberTold ⟨Nat.le_of_ble_eq_true rfl, Nat.le_of_ble_eq_true rfl⟩) hm (by decide) rfl rfl rfl (Nat.le_of_ble_eq_true rfl) dX7_termsTold_139 ⟨Nat.zero_le _, Nat.zero_le _⟩) hS (fun v_229 I_223 R_224 J_225 AI_226 AJ_227 AR_228 H locs zv_229 hp_230 hH hS => ?_)
                        dsimp only at hp_230
                        obtain ⟨r_231, er_231⟩ : ∃ qQ : pR, qQ = thn (0, (hc + 2), 0) (fun t _ => sNum b nn t) := ⟨_, rfl⟩
                        rw [← er_231] at hp_230
                        obtain ⟨rfl, rfl, rfl, rfl, hv, pfq, q_232, q_233, hQ, q_234⟩ := hp_230
                        have pf := qF_t pf pfq
                        have u_235_2 : (I_223 mo 2).toInt = (I mo 2).toInt := by rw [pf 2 (by decide) (by decide) (by decide) (by decide) (by decide)]
                        have u_235_5 : (I_223 mo 5).toInt = (I mo 5).toInt := by rw [pf 5 (by decide) (by decide) (by decide) (by decide) (by decide)]
                        have u_235_14 : (I_223 mo 14).toInt = (I mo 14).toInt := by rw [pf 14 (by decide) (by decide) (by decide) (by decide) (by decide)]
                        have u_235_16 : (I_223 mo 16).toInt = (I mo 16).toInt := by rw [pf 16 (by decide) (by decide) (by decide) (by decide) (by decide)]
                        have u_235_18 : (I_223 mo 18).toInt = (I mo 18).toInt := by rw [pf 18 (by decide) (by decide) (by decide) (by decide) (by decide)]
                        have er_231 : r_231 = sNum b nn (hc + 2) := er_231
                        have sr_231 := er_231
                        rcases sNum_c er_231 with ⟨er_231, pr_231⟩ | ⟨er_231, pr_231⟩
                        · have hQ : mQ gh I_223 J_225 AI_3 AJ mo b nn nr nt cc 0 (hc + 3) := by rw [er_231] at hQ; exact hQ
                          have sr_231 : sNum b nn (hc + 2) = (0, hc + 3, pV b nn (hc + 2)) := sr_231.symm.trans er_231
                          have vlr_231 := q_234 (by rw [er_231])
                          try rw [er_231] at vlr_231
                          try dsimp only at vlr_231
                          have kq_233 := q_233 (mQ_0 hQ rfl)
                          replace q_233 := hid q_233
                          refine z_imul F dX7_termsTold_142 ?_
                          refine z_norm (fun v_236 zv_236 ev_236 => ?_)
                          refine lv_istore (lv' := [(6, .int (iI v_236)), (7, .int (iI ((-1)))), (5, .int (iI v_65)), (4, .int (iI mr)), (3, .int (iI n)), (0, .ref mo), (1, .int (iI bl)), (2, .int (iI fm))]) F.1 F.2.1 dX7_termsTold_143 hl (by decide) rfl (fun ls hl => ?_)
                          refine lv_aload_n F.1 F.2.1 dX7_termsTold_145 rfl (lv_at hl 5 rfl) ?_
                          refine lv_iload_n F.1 F.2.1 dX7_termsTold_146 rfl (lv_at hl 7 rfl) ?_
                          refine lv_iload_n F.1 F.2.1 dX7_termsTold_147 rfl (lv_at hl 4 rfl) ?_
                          refine z_iadd F dX7_termsTold_148 ?_
                          refine lv_iload F.1 F.2.1 dX7_termsTold_149 (lv_at hl 2 rfl) ?_
                          refine lv_iload F.1 F.2.1 dX7_termsTold_151 (lv_at hl 0 rfl) ?_
                          refine z_iconst F dX7_termsTold_153 ?_
                          refine z_iconst F dX7_termsTold_154 ?_
                          have b_237 := mJ hv hm
                          unfold mNum1 at b_237
                          refine g_callv (g_runV (As := [.int (iI (fm + n)), .int (iI v_65), .int (iI v_236), .int (iI 0), .int (iI 0)]) (rest := []) (ci := 7) F hl.1 hH hS hz (c_X7_setsPart l g gh T M I_223 R J_225 AI_3 AJ AR mo (fm + n) v_65 v_236 0 0 ⟨by omega, by omega⟩ zv_65 zv_236 ⟨by decide, by decide⟩ ⟨by decide, by decide⟩ hv hm hT (by omega) (by omega) (by omega)) (cwV 5 F.2.2.2.2.1 (good_up gT_X7_setsPart) rfl rfl rfl hdX7_setsPart ⟨Nat.le_of_ble_eq_true rfl, Nat.le_of_ble_eq_true rfl⟩) hm (by decide) rfl rfl rfl (Nat.le_of_ble_eq_true rfl) dX7_termsTold_155 ⟨Nat.zero_le _, Nat.zero_le _⟩) hS (fun I_238 R_239 J_240 AI_241 AJ_242 AR_243 H locs hp_244 hH hS => ?_)
                          dsimp only at hp_244
                          obtain ⟨rfl, rfl, rfl, rfl, rfl, hv, hT, hsp⟩ := hp_244
                          replace hsp := hid hsp
                          have hQ : mQ gh I_223 J_225 AI_241 AJ mo b nn nr nt cc 0 (hc + 3) := mQ_a hQ (fun hf9 z9 h09 h19 => (hsp hf9).1 z9 h09 (Or.inl (by omega)))
                          have hTs : sTerm b nn bl n hc = (0, hc + 3, 0) := sTerm_s (by omega) (by omega) (by omega) (by omega)
                          exact cut_158_30 I_223 J_225 AI_241 H locs ls hv hT pf (by omega) (fun hf => ⟨by omega, termP_step (by omega) (by omega) (hp (by omega)).2.1 (hsp (by omega)) (by omega), trF_step (hp (by omega)).2.2 ⟨by omega, by omega⟩ (hsp (by omega))⟩) ⟨_, hQ, hTs⟩ hH hS (lv_sub hl [3, 4, 5, 6, 7] rfl)
                        · have hQ : mQ gh I_223 J_225 AI_3 AJ mo b nn nr nt cc 1 (hc + 2) := by rw [er_231] at hQ; exact hQ
                          have sr_231 := sr_231.symm.trans er_231
                          have g9r_231 := mQ_f hQ (by omega)
                          replace q_233 := hid q_233
                          refine z_imul F dX7_termsTold_142 ?_
                          refine z_norm (fun v_245 zv_245 ev_245 => ?_)
                          refine lv_istore (lv' := [(6, .int (iI v_245)), (7, .int (iI ((-1)))), (5, .int (iI v_65)), (4, .int (iI mr)), (3, .int (iI n)), (0, .ref mo), (1, .int (iI bl)), (2, .int (iI fm))]) F.1 F.2.1 dX7_termsTold_143 hl (by decide) rfl (fun ls hl => ?_)
                          refine lv_aload_n F.1 F.2.1 dX7_termsTold_145 rfl (lv_at hl 5 rfl) ?_
                          refine lv_iload_n F.1 F.2.1 dX7_termsTold_146 rfl (lv_at hl 7 rfl) ?_
                          refine lv_iload_n F.1 F.2.1 dX7_termsTold_147 rfl (lv_at hl 4 rfl) ?_
                          refine z_iadd F dX7_termsTold_148 ?_
                          refine lv_iload F.1 F.2.1 dX7_termsTold_149 (lv_at hl 2 rfl) ?_
                          refine lv_iload F.1 F.2.1 dX7_termsTold_151 (lv_at hl 0 rfl) ?_
                          refine z_iconst F dX7_termsTold_153 ?_
                          refine z_iconst F dX7_termsTold_154 ?_
                          have b_246 := mJ hv hm
                          unfold mNum1 at b_246
                          refine g_callv (g_runV (As := [.int (iI (fm + n)), .int (iI v_65), .int (iI v_245), .int (iI 0), .int (iI 0)]) (rest := []) (ci := 7) F hl.1 hH hS hz (c_X7_setsPart l g gh T M I_223 R J_225 AI_3 AJ AR mo (fm + n) v_65 v_245 0 0 ⟨by omega, by omega⟩ zv_65 zv_245 ⟨by decide, by decide⟩ ⟨by decide, by decide⟩ hv hm hT (by omega) (by omega) (by omega)) (cwV 5 F.2.2.2.2.1 (good_up gT_X7_setsPart) rfl rfl rfl hdX7_setsPart ⟨Nat.le_of_ble_eq_true rfl, Nat.le_of_ble_eq_true rfl⟩) hm (by decide) rfl rfl rfl (Nat.le_of_ble_eq_true rfl) dX7_termsTold_155 ⟨Nat.zero_le _, Nat.zero_le _⟩) hS (fun I_247 R_248 J_249 AI_250 AJ_251 AR_252 H locs hp_253 hH hS => ?_)
                          dsimp only at hp_253
                          obtain ⟨rfl, rfl, rfl, rfl, rfl, hv, hT, hsp⟩ := hp_253
                          replace hsp := hid hsp
                          have hQ : mQ gh I_223 J_225 AI_250 AJ mo b nn nr nt cc 1 (hc + 2) := mQ_bad hQ (by omega) rfl
                          refine z_iinc (lv' := [(3, .int (iI (n + 1))), (6, .int (iI v_245)), (7, .int (iI ((-1)))), (5, .int (iI v_65)), (4, .int (iI mr)), (0, .ref mo), (1, .int (iI bl)), (2, .int (iI fm))]) F dX7_termsTold_158 hl (k := 4) rfl (by decide) rfl (fun ls hl => ?_)
                          have hTs : sTerm b nn bl n hc = (1, hc + 2, 0) := sTerm_s1 (by omega) (by omega) (by omega) (by omega)
                          have hS9 : sTerms b nn bl 5 0 h = (1, hc + 2, 0) := sTerms_no hsq (f := (4 - n).toNat) (by omega) hTs.symm (by omega)
                          have hfin : thn (f, h, 0) (fun t _ => sTerms b nn bl 5 0 t) = (1, hc + 2, 0) := (thn_k q0).trans hS9
                          exact cut_161_10 (n + 1) I_223 J_225 AI_250 H locs ls ⟨by omega, by omega⟩ hv hT pf ⟨_, _, by omega, hQ, hfin⟩ (by omega) (by omega) hH hS (lv_sub hl [4, 0, 5, 6, 7] rfl)
                      · have t_254 := tIz_y q_210 (by omega)
                        refine z_iconst F dX7_termsTold_125 ?_
                        refine z_goto (tgt := 130) F dX7_termsTold_126 (by decide) ?_
                        refine lv_istore (lv' := [(7, .int (iI 1)), (6, .int (iI 0)), (5, .int (iI v_65)), (4, .int (iI mr)), (3, .int (iI n)), (0, .ref mo), (1, .int (iI bl)), (2, .int (iI fm))]) F.1 F.2.1 dX7_termsTold_130 hl (by decide) rfl (fun ls hl => ?_)
                        refine lv_aload_n F.1 F.2.1 dX7_termsTold_132 rfl (lv_at hl 5 rfl) ?_
                        refine g_callv (g_runV (As := []) (rest := []) (ci := 7) F hl.1 hH hS hz (c_X7_nextf l g gh T b nn (tNd b nn (tPs b nn (hc + 1))) I_59 R J_61 AI_3 AJ AR mo hv hm hT (by omega) (mTp hv h65 hbM) hr7 (by omega) (by omega) (mQ_e0 hQ) tNd_le.1) (cwV 0 F.2.2.2.2.1 (good_up gT_X7_next) rfl rfl rfl hdX7_next ⟨Nat.le_of_ble_eq_true rfl, Nat.le_of_ble_eq_true rfl⟩) hm (by decide) rfl rfl rfl (Nat.le_of_ble_eq_true rfl) dX7_termsTold_133 ⟨Nat.zero_le _, Nat.zero_le _⟩) hS (fun I_255 R_256 J_257 AI_258 AJ_259 AR_260 H locs hp_261 hH hS => ?_)
                        dsimp only at hp_261
                        obtain ⟨rfl, rfl, rfl, rfl, hv, pfq, q_262, nx4, nxa, nxb⟩ := hp_261
                        have pf := qF_t pf pfq
                        have u_263_2 : (I_255 mo 2).toInt = (I mo 2).toInt := by rw [pf 2 (by decide) (by decide) (by decide) (by decide) (by decide)]
                        have u_263_5 : (I_255 mo 5).toInt = (I mo 5).toInt := by rw [pf 5 (by decide) (by decide) (by decide) (by decide) (by decide)]
                        have u_263_14 : (I_255 mo 14).toInt = (I mo 14).toInt := by rw [pf 14 (by decide) (by decide) (by decide) (by decide) (by decide)]
                        have u_263_16 : (I_255 mo 16).toInt = (I mo 16).toInt := by rw [pf 16 (by decide) (by decide) (by decide) (by decide) (by decide)]
                        have u_263_18 : (I_255 mo 18).toInt = (I mo 18).toInt := by rw [pf 18 (by decide) (by decide) (by decide) (by decide) (by decide)]
                        have hQ : mQ gh I_255 J_257 AI_3 AJ mo b nn nr nt cc 0 (hc + 2) := mQ_nx hQ nx4 nxa
                        clear nxa nxb
                        refine lv_iload F.1 F.2.1 dX7_termsTold_136 (lv_at hl 0 rfl) ?_
                        refine lv_aload_n F.1 F.2.1 dX7_termsTold_138 rfl (lv_at hl 5 rfl) ?_
                        have b_264 := mJ hv hm
                        unfold mNum1 at b_264
                        refine g_calli (g_runV (As := []) (rest := [.int (iI 1)]) (ci := 7) F hl.1 hH hS hz (c_X7_numberToldf l g gh T b nn nr nt cc 0 (hc + 2) I_255 R J_257 AI_3 AJ AR mo hv hm hT (by omega) h65 hbM hr7 (by omega) hn9 (by omega) hQ) (cwV 0 F.2.2.2.2.1 (good_up gT_X7_numberTold) rfl rfl rfl hdX7_numberTold ⟨Nat.le_of_ble_eq_true rfl, Nat.le_of_ble_eq_true rfl⟩) hm (by decide) rfl rfl rfl (Nat.le_of_ble_eq_true rfl) dX7_termsTold_139 ⟨Nat.zero_le _, Nat.zero_le _⟩) hS (fun v_271 I_265 R_266 J_267 AI_268 AJ_269 AR_270 H locs zv_271 hp_272 hH hS => ?_)
                        dsimp only at hp_272
                        obtain ⟨r_273, er_273⟩ : ∃ qQ : pR, qQ = thn (0, (hc + 2), 0) (fun t _ => sNum b nn t) := ⟨_, rfl⟩
                        rw [← er_273] at hp_272
                        obtain ⟨rfl, rfl, rfl, rfl, hv, pfq, q_274, q_275, hQ, q_276⟩ := hp_272
                        have pf := qF_t pf pfq
                        have u_277_2 : (I_265 mo 2).toInt = (I mo 2).toInt := by rw [pf 2 (by decide) (by decide) (by decide) (by decide) (by decide)]
                        have u_277_5 : (I_265 mo 5).toInt = (I mo 5).toInt := by rw [pf 5 (by decide) (by decide) (by decide) (by decide) (by decide)]
                        have u_277_14 : (I_265 mo 14).toInt = (I mo 14).toInt := by rw [pf 14 (by decide) (by decide) (by decide) (by decide) (by decide)]
                        have u_277_16 : (I_265 mo 16).toInt = (I mo 16).toInt := by rw [pf 16 (by decide) (by decide) (by decide) (by decide) (by decide)]
                        have u_277_18 : (I_265 mo 18).toInt = (I mo 18).toInt := by rw [pf 18 (by decide) (by decide) (by decide) (by decide) (by decide)]
                        have er_273 : r_273 = sNum b nn (hc + 2) := er_273
                        have sr_273 := er_273
                        rcases sNum_c er_273 with ⟨er_273, pr_273⟩ | ⟨er_273, pr_273⟩
                        · have hQ : mQ gh I_265 J_267 AI_3 AJ mo b nn nr nt cc 0 (hc + 3) := by rw [er_273] at hQ; exact hQ
                          have sr_273 : sNum b nn (hc + 2) = (0, hc + 3, pV b nn (hc + 2)) := sr_273.symm.trans er_273
                          have vlr_273 := q_276 (by rw [er_273])
                          try rw [er_273] at vlr_273
                          try dsimp only at vlr_273
                          have kq_275 := q_275 (mQ_0 hQ rfl)
                          replace q_275 := hid q_275
                          refine z_imul F dX7_termsTold_142 ?_
                          refine z_norm (fun v_278 zv_278 ev_278 => ?_)
                          refine lv_istore (lv' := [(6, .int (iI v_278)), (7, .int (iI 1)), (5, .int (iI v_65)), (4, .int (iI mr)), (3, .int (iI n)), (0, .ref mo), (1, .int (iI bl)), (2, .int (iI fm))]) F.1 F.2.1 dX7_termsTold_143 hl (by decide) rfl (fun ls hl => ?_)
                          refine lv_aload_n F.1 F.2.1 dX7_termsTold_145 rfl (lv_at hl 5 rfl) ?_
                          refine lv_iload_n F.1 F.2.1 dX7_termsTold_146 rfl (lv_at hl 7 rfl) ?_
                          refine lv_iload_n F.1 F.2.1 dX7_termsTold_147 rfl (lv_at hl 4 rfl) ?_
                          refine z_iadd F dX7_termsTold_148 ?_
                          refine lv_iload F.1 F.2.1 dX7_termsTold_149 (lv_at hl 2 rfl) ?_
                          refine lv_iload F.1 F.2.1 dX7_termsTold_151 (lv_at hl 0 rfl) ?_
                          refine z_iconst F dX7_termsTold_153 ?_
                          refine z_iconst F dX7_termsTold_154 ?_
                          have b_279 := mJ hv hm
                          unfold mNum1 at b_279
                          refine g_callv (g_runV (As := [.int (iI (fm + n)), .int (iI v_65), .int (iI v_278), .int (iI 0), .int (iI 0)]) (rest := []) (ci := 7) F hl.1 hH hS hz (c_X7_setsPart l g gh T M I_265 R J_267 AI_3 AJ AR mo (fm + n) v_65 v_278 0 0 ⟨by omega, by omega⟩ zv_65 zv_278 ⟨by decide, by decide⟩ ⟨by decide, by decide⟩ hv hm hT (by omega) (by omega) (by omega)) (cwV 5 F.2.2.2.2.1 (good_up gT_X7_setsPart) rfl rfl rfl hdX7_setsPart ⟨Nat.le_of_ble_eq_true rfl, Nat.le_of_ble_eq_true rfl⟩) hm (by decide) rfl rfl rfl (Nat.le_of_ble_eq_true rfl) dX7_termsTold_155 ⟨Nat.zero_le _, Nat.zero_le _⟩) hS (fun I_280 R_281 J_282 AI_283 AJ_284 AR_285 H locs hp_286 hH hS => ?_)
                          dsimp only at hp_286
                          obtain ⟨rfl, rfl, rfl, rfl, rfl, hv, hT, hsp⟩ := hp_286
                          replace hsp := hid hsp
                          have hQ : mQ gh I_265 J_267 AI_283 AJ mo b nn nr nt cc 0 (hc + 3) := mQ_a hQ (fun hf9 z9 h09 h19 => (hsp hf9).1 z9 h09 (Or.inl (by omega)))
                          have hTs : sTerm b nn bl n hc = (0, hc + 3, 0) := sTerm_s (by omega) (by omega) (by omega) (by omega)
                          exact cut_158_30 I_265 J_267 AI_283 H locs ls hv hT pf (by omega) (fun hf => ⟨by omega, termP_step (by omega) (by omega) (hp (by omega)).2.1 (hsp (by omega)) (by omega), trF_step (hp (by omega)).2.2 ⟨by omega, by omega⟩ (hsp (by omega))⟩) ⟨_, hQ, hTs⟩ hH hS (lv_sub hl [3, 4, 5, 6, 7] rfl)
                        · have hQ : mQ gh I_265 J_267 AI_3 AJ mo b nn nr nt cc 1 (hc + 2) := by rw [er_273] at hQ; exact hQ
                          have sr_273 := sr_273.symm.trans er_273
                          have g9r_273 := mQ_f hQ (by omega)
                          replace q_275 := hid q_275
                          refine z_imul F dX7_termsTold_142 ?_
                          refine z_norm (fun v_287 zv_287 ev_287 => ?_)
                          refine lv_istore (lv' := [(6, .int (iI v_287)), (7, .int (iI 1)), (5, .int (iI v_65)), (4, .int (iI mr)), (3, .int (iI n)), (0, .ref mo), (1, .int (iI bl)), (2, .int (iI fm))]) F.1 F.2.1 dX7_termsTold_143 hl (by decide) rfl (fun ls hl => ?_)
                          refine lv_aload_n F.1 F.2.1 dX7_termsTold_145 rfl (lv_at hl 5 rfl) ?_
                          refine lv_iload_n F.1 F.2.1 dX7_termsTold_146 rfl (lv_at hl 7 rfl) ?_
                          refine lv_iload_n F.1 F.2.1 dX7_termsTold_147 rfl (lv_at hl 4 rfl) ?_
                          refine z_iadd F dX7_termsTold_148 ?_
                          refine lv_iload F.1 F.2.1 dX7_termsTold_149 (lv_at hl 2 rfl) ?_
                          refine lv_iload F.1 F.2.1 dX7_termsTold_151 (lv_at hl 0 rfl) ?_
                          refine z_iconst F dX7_termsTold_153 ?_
                          refine z_iconst F dX7_termsTold_154 ?_
                          have b_288 := mJ hv hm
                          unfold mNum1 at b_288
                          refine g_callv (g_runV (As := [.int (iI (fm + n)), .int (iI v_65), .int (iI v_287), .int (iI 0), .int (iI 0)]) (rest := []) (ci := 7) F hl.1 hH hS hz (c_X7_setsPart l g gh T M I_265 R J_267 AI_3 AJ AR mo (fm + n) v_65 v_287 0 0 ⟨by omega, by omega⟩ zv_65 zv_287 ⟨by decide, by decide⟩ ⟨by decide, by decide⟩ hv hm hT (by omega) (by omega) (by omega)) (cwV 5 F.2.2.2.2.1 (good_up gT_X7_setsPart) rfl rfl rfl hdX7_setsPart ⟨Nat.le_of_ble_eq_true rfl, Nat.le_of_ble_eq_true rfl⟩) hm (by decide) rfl rfl rfl (Nat.le_of_ble_eq_true rfl) dX7_termsTold_155 ⟨Nat.zero_le _, Nat.zero_le _⟩) hS (fun I_289 R_290 J_291 AI_292 AJ_293 AR_294 H locs hp_295 hH hS => ?_)
                          dsimp only at hp_295
                          obtain ⟨rfl, rfl, rfl, rfl, rfl, hv, hT, hsp⟩ := hp_295
                          replace hsp := hid hsp
                          have hQ : mQ gh I_265 J_267 AI_292 AJ mo b nn nr nt cc 1 (hc + 2) := mQ_bad hQ (by omega) rfl
                          refine z_iinc (lv' := [(3, .int (iI (n + 1))), (6, .int (iI v_287)), (7, .int (iI 1)), (5, .int (iI v_65)), (4, .int (iI mr)), (0, .ref mo), (1, .int (iI bl)), (2, .int (iI fm))]) F dX7_termsTold_158 hl (k := 4) rfl (by decide) rfl (fun ls hl => ?_)
                          have hTs : sTerm b nn bl n hc = (1, hc + 2, 0) := sTerm_s1 (by omega) (by omega) (by omega) (by omega)
                          have hS9 : sTerms b nn bl 5 0 h = (1, hc + 2, 0) := sTerms_no hsq (f := (4 - n).toNat) (by omega) hTs.symm (by omega)
                          have hfin : thn (f, h, 0) (fun t _ => sTerms b nn bl 5 0 t) = (1, hc + 2, 0) := (thn_k q0).trans hS9
                          exact cut_161_10 (n + 1) I_265 J_267 AI_292 H locs ls ⟨by omega, by omega⟩ hv hT pf ⟨_, _, by omega, hQ, hfin⟩ (by omega) (by omega) hH hS (lv_sub hl [4, 0, 5, 6, 7] rfl)
                · have hQ : mQ gh I_59 J_61 AI_3 AJ mo b nn nr nt cc (pCf b nn bl hc) hc := by rw [er_67] at hQ; exact hQ
                  have sr_67 := sr_67.symm.trans er_67
                  have g9r_67 := mQ_f hQ (by omega)
                  replace q_69 := hid q_69
                  obtain ⟨f1, ef1⟩ : ∃ q, q = (I_59 mo 24).toInt := ⟨_, rfl⟩
                  have hc1 : Hid (f1 = 0 → v_65 ≤ 3) := fun h9 => by omega
                  refine lv_istore (lv' := [(5, .int (iI v_65)), (4, .int (iI mr)), (3, .int (iI n)), (0, .ref mo), (1, .int (iI bl)), (2, .int (iI fm))]) F.1 F.2.1 dX7_termsTold_93 hl (by decide) rfl (fun ls hl => ?_)
                  refine z_iconst F dX7_termsTold_95 ?_
                  refine lv_istore (lv' := [(6, .int (iI 0)), (5, .int (iI v_65)), (4, .int (iI mr)), (3, .int (iI n)), (0, .ref mo), (1, .int (iI bl)), (2, .int (iI fm))]) F.1 F.2.1 dX7_termsTold_96 hl (by decide) rfl (fun ls hl => ?_)
                  refine lv_aload_n F.1 F.2.1 dX7_termsTold_98 rfl (lv_at hl 4 rfl) ?_
                  refine z_bipush F dX7_termsTold_99 (by decide) ?_
                  have b_296 := mJ hv hm
                  unfold mNum1 at b_296
                  refine g_calli (g_runV (As := [.int (iI 43)]) (rest := []) (ci := 7) F hl.1 hH hS hz (c_X7_isSignf l g gh T b nn nr nt cc (pCf b nn bl hc) hc I_59 R J_61 AI_3 AJ AR mo 43 ⟨by decide, by decide⟩ hv hm hT h65 hbM hr7 (by omega) hn9 (by omega) (by omega) hQ) (cwV 1 F.2.2.2.2.1 (good_up gT_X7_isSign) rfl rfl rfl hdX7_isSign ⟨Nat.le_of_ble_eq_true rfl, Nat.le_of_ble_eq_true rfl⟩) hm (by decide) rfl rfl rfl (Nat.le_of_ble_eq_true rfl) dX7_termsTold_101 ⟨Nat.zero_le _, Nat.zero_le _⟩) hS (fun v_303 I_297 R_298 J_299 AI_300 AJ_301 AR_302 H locs zv_303 hp_304 hH hS => ?_)
                  dsimp only at hp_304
                  obtain ⟨rfl, rfl, rfl, rfl, rfl, rfl, q_305, q_306⟩ := hp_304
                  replace q_305 := q_305.1
                  refine z_if_ne (tgt := 116) F dX7_termsTold_104 (by decide) zv_303 (fun c_307 => ?_) (fun c_307 => ?_)
                  · exact absurd (tIz_1 q_306 (by omega)).1 (by omega)
                  · have t_308 := tIz_0 q_306 (by omega)
                    refine lv_aload_n F.1 F.2.1 dX7_termsTold_107 rfl (lv_at hl 4 rfl) ?_
                    refine z_bipush F dX7_termsTold_108 (by decide) ?_
                    refine g_calli (g_runV (As := [.int (iI 45)]) (rest := []) (ci := 7) F hl.1 hH hS hz (c_X7_isSignf l g gh T b nn nr nt cc (pCf b nn bl hc) hc I_59 R J_61 AI_3 AJ AR mo 45 ⟨by decide, by decide⟩ hv hm hT h65 hbM hr7 (by omega) hn9 (by omega) (by omega) hQ) (cwV 1 F.2.2.2.2.1 (good_up gT_X7_isSign) rfl rfl rfl hdX7_isSign ⟨Nat.le_of_ble_eq_true rfl, Nat.le_of_ble_eq_true rfl⟩) hm (by decide) rfl rfl rfl (Nat.le_of_ble_eq_true rfl) dX7_termsTold_110 ⟨Nat.zero_le _, Nat.zero_le _⟩) hS (fun v_315 I_309 R_310 J_311 AI_312 AJ_313 AR_314 H locs zv_315 hp_316 hH hS => ?_)
                    dsimp only at hp_316
                    obtain ⟨rfl, rfl, rfl, rfl, rfl, rfl, q_317, q_318⟩ := hp_316
                    replace q_317 := q_317.1
                    refine z_if_eq (tgt := 145) F dX7_termsTold_113 (by decide) zv_315 (fun c_319 => ?_) (fun c_319 => ?_)
                    · have t_320 := tIz_0 q_318 (by omega)
                      refine lv_aload_n F.1 F.2.1 dX7_termsTold_145 rfl (lv_at hl 4 rfl) ?_
                      refine lv_iload_n F.1 F.2.1 dX7_termsTold_146 rfl (lv_at hl 6 rfl) ?_
                      refine lv_iload_n F.1 F.2.1 dX7_termsTold_147 rfl (lv_at hl 3 rfl) ?_
                      refine z_iadd F dX7_termsTold_148 ?_
                      refine lv_iload F.1 F.2.1 dX7_termsTold_149 (lv_at hl 1 rfl) ?_
                      refine lv_iload F.1 F.2.1 dX7_termsTold_151 (lv_at hl 0 rfl) ?_
                      refine z_iconst F dX7_termsTold_153 ?_
                      refine z_iconst F dX7_termsTold_154 ?_
                      refine g_callv (g_runV (As := [.int (iI (fm + n)), .int (iI v_65), .int (iI 0), .int (iI 0), .int (iI 0)]) (rest := []) (ci := 7) F hl.1 hH hS hz (c_X7_setsPart l g gh T M I_59 R J_61 AI_3 AJ AR mo (fm + n) v_65 0 0 0 ⟨by omega, by omega⟩ zv_65 ⟨by decide, by decide⟩ ⟨by decide, by decide⟩ ⟨by decide, by decide⟩ hv hm hT (by omega) (by omega) (by omega)) (cwV 5 F.2.2.2.2.1 (good_up gT_X7_setsPart) rfl rfl rfl hdX7_setsPart ⟨Nat.le_of_ble_eq_true rfl, Nat.le_of_ble_eq_true rfl⟩) hm (by decide) rfl rfl rfl (Nat.le_of_ble_eq_true rfl) dX7_termsTold_155 ⟨Nat.zero_le _, Nat.zero_le _⟩) hS (fun I_321 R_322 J_323 AI_324 AJ_325 AR_326 H locs hp_327 hH hS => ?_)
                      dsimp only at hp_327
                      obtain ⟨rfl, rfl, rfl, rfl, rfl, hv, hT, hsp⟩ := hp_327
                      replace hsp := hid hsp
                      have hQ : mQ gh I_59 J_61 AI_324 AJ mo b nn nr nt cc (pCf b nn bl hc) hc := mQ_bad hQ (by omega) rfl
                      refine z_iinc (lv' := [(3, .int (iI (n + 1))), (6, .int (iI 0)), (5, .int (iI v_65)), (4, .int (iI mr)), (0, .ref mo), (1, .int (iI bl)), (2, .int (iI fm))]) F dX7_termsTold_158 hl (k := 3) rfl (by decide) rfl (fun ls hl => ?_)
                      have hTs : sTerm b nn bl n hc = (pCf b nn bl hc, hc, 0) := sTerm_x (by omega) (by omega)
                      have hS9 : sTerms b nn bl 5 0 h = (pCf b nn bl hc, hc, 0) := sTerms_no hsq (f := (4 - n).toNat) (by omega) hTs.symm (by omega)
                      have hfin : thn (f, h, 0) (fun t _ => sTerms b nn bl 5 0 t) = (pCf b nn bl hc, hc, 0) := (thn_k q0).trans hS9
                      exact cut_161_10 (n + 1) I_59 J_61 AI_324 H locs ls ⟨by omega, by omega⟩ hv hT pf ⟨_, _, by omega, hQ, hfin⟩ (by omega) (by omega) hH hS (lv_sub hl [3, 0, 4, 5, 6] rfl)
                    · exact absurd (tIz_1 q_318 (by omega)).1 (by omega)
              · have t_328 := tkM_3 ((mQ_k hQ rfl).symm.trans (by omega))
                have t_328v := mQ_v hQ rfl (by omega)
                refine lv_aload_n F.1 F.2.1 dX7_termsTold_71 rfl (lv_at hl 2 rfl) ?_
                refine lv_iload_n F.1 F.2.1 dX7_termsTold_72 rfl (lv_at hl 4 rfl) ?_
                refine lv_iload_n F.1 F.2.1 dX7_termsTold_73 rfl (lv_at hl 1 rfl) ?_
                refine z_iadd F dX7_termsTold_74 ?_
                refine z_iconst F dX7_termsTold_75 ?_
                refine lv_aload_n F.1 F.2.1 dX7_termsTold_76 rfl (lv_at hl 2 rfl) ?_
                refine g_calli (g_runV (As := []) (rest := [.int (iI ((-1))), .int (iI (fm + n)), .ref mo]) (ci := 7) F hl.1 hH hS hz (c_X7_numberToldf l g gh T b nn nr nt cc 0 hc I_1 R J_2 AI_3 AJ AR mo hv hm hT (by omega) h65 hbM hr7 (by omega) hn9 (by omega) hQ) (cwV 0 F.2.2.2.2.1 (good_up gT_X7_numberTold) rfl rfl rfl hdX7_numberTold ⟨Nat.le_of_ble_eq_true rfl, Nat.le_of_ble_eq_true rfl⟩) hm (by decide) rfl rfl rfl (Nat.le_of_ble_eq_true rfl) dX7_termsTold_77 ⟨Nat.zero_le _, Nat.zero_le _⟩) hS (fun v_335 I_329 R_330 J_331 AI_332 AJ_333 AR_334 H locs zv_335 hp_336 hH hS => ?_)
                dsimp only at hp_336
                obtain ⟨r_337, er_337⟩ : ∃ qQ : pR, qQ = thn (0, hc, 0) (fun t _ => sNum b nn t) := ⟨_, rfl⟩
                rw [← er_337] at hp_336
                obtain ⟨rfl, rfl, rfl, rfl, hv, pfq, q_338, q_339, hQ, q_340⟩ := hp_336
                have pf := qF_t pf pfq
                have u_341_2 : (I_329 mo 2).toInt = (I mo 2).toInt := by rw [pf 2 (by decide) (by decide) (by decide) (by decide) (by decide)]
                have u_341_5 : (I_329 mo 5).toInt = (I mo 5).toInt := by rw [pf 5 (by decide) (by decide) (by decide) (by decide) (by decide)]
                have u_341_14 : (I_329 mo 14).toInt = (I mo 14).toInt := by rw [pf 14 (by decide) (by decide) (by decide) (by decide) (by decide)]
                have u_341_16 : (I_329 mo 16).toInt = (I mo 16).toInt := by rw [pf 16 (by decide) (by decide) (by decide) (by decide) (by decide)]
                have u_341_18 : (I_329 mo 18).toInt = (I mo 18).toInt := by rw [pf 18 (by decide) (by decide) (by decide) (by decide) (by decide)]
                have er_337 : r_337 = sNum b nn hc := er_337
                have sr_337 := er_337
                rcases sNum_c er_337 with ⟨er_337, pr_337⟩ | ⟨er_337, pr_337⟩
                · have hQ : mQ gh I_329 J_331 AI_3 AJ mo b nn nr nt cc 0 (hc + 1) := by rw [er_337] at hQ; exact hQ
                  have sr_337 : sNum b nn hc = (0, hc + 1, pV b nn hc) := sr_337.symm.trans er_337
                  have vlr_337 := q_340 (by rw [er_337])
                  try rw [er_337] at vlr_337
                  try dsimp only at vlr_337
                  have kq_339 := q_339 (mQ_0 hQ rfl)
                  replace q_339 := hid q_339
                  refine z_iconst F dX7_termsTold_80 ?_
                  refine z_iconst F dX7_termsTold_81 ?_
                  have b_342 := mJ hv hm
                  unfold mNum1 at b_342
                  refine g_callv (g_runV (As := [.int (iI (fm + n)), .int (iI ((-1))), .int (iI v_335), .int (iI 0), .int (iI 0)]) (rest := []) (ci := 7) F hl.1 hH hS hz (c_X7_setsPart l g gh T M I_329 R J_331 AI_3 AJ AR mo (fm + n) (-1) v_335 0 0 ⟨by omega, by omega⟩ ⟨by decide, by decide⟩ zv_335 ⟨by decide, by decide⟩ ⟨by decide, by decide⟩ hv hm hT (by omega) (by omega) (by omega)) (cwV 5 F.2.2.2.2.1 (good_up gT_X7_setsPart) rfl rfl rfl hdX7_setsPart ⟨Nat.le_of_ble_eq_true rfl, Nat.le_of_ble_eq_true rfl⟩) hm (by decide) rfl rfl rfl (Nat.le_of_ble_eq_true rfl) dX7_termsTold_82 ⟨Nat.zero_le _, Nat.zero_le _⟩) hS (fun I_343 R_344 J_345 AI_346 AJ_347 AR_348 H locs hp_349 hH hS => ?_)
                  dsimp only at hp_349
                  obtain ⟨rfl, rfl, rfl, rfl, rfl, hv, hT, hsp⟩ := hp_349
                  replace hsp := hid hsp
                  have hQ : mQ gh I_329 J_331 AI_346 AJ mo b nn nr nt cc 0 (hc + 1) := mQ_a hQ (fun hf9 z9 h09 h19 => (hsp hf9).1 z9 h09 (Or.inl (by omega)))
                  refine z_goto (tgt := 158) F dX7_termsTold_85 (by decide) ?_
                  have hTs : sTerm b nn bl n hc = (0, hc + 1, 0) := sTerm_n (by omega) (by omega)
                  exact cut_158_30 I_329 J_331 AI_346 H locs ls hv hT pf (by omega) (fun hf => ⟨by omega, termP_step (by omega) (by omega) (hp (by omega)).2.1 (hsp (by omega)) (by omega), trF_step (hp (by omega)).2.2 ⟨by omega, by omega⟩ (hsp (by omega))⟩) ⟨_, hQ, hTs⟩ hH hS (lv_sub hl [0, 1, 2, 3, 4] rfl)
                · have hQ : mQ gh I_329 J_331 AI_3 AJ mo b nn nr nt cc 1 hc := by rw [er_337] at hQ; exact hQ
                  have sr_337 := sr_337.symm.trans er_337
                  have g9r_337 := mQ_f hQ (by omega)
                  replace q_339 := hid q_339
                  refine z_iconst F dX7_termsTold_80 ?_
                  refine z_iconst F dX7_termsTold_81 ?_
                  have b_350 := mJ hv hm
                  unfold mNum1 at b_350
                  refine g_callv (g_runV (As := [.int (iI (fm + n)), .int (iI ((-1))), .int (iI v_335), .int (iI 0), .int (iI 0)]) (rest := []) (ci := 7) F hl.1 hH hS hz (c_X7_setsPart l g gh T M I_329 R J_331 AI_3 AJ AR mo (fm + n) (-1) v_335 0 0 ⟨by omega, by omega⟩ ⟨by decide, by decide⟩ zv_335 ⟨by decide, by decide⟩ ⟨by decide, by decide⟩ hv hm hT (by omega) (by omega) (by omega)) (cwV 5 F.2.2.2.2.1 (good_up gT_X7_setsPart) rfl rfl rfl hdX7_setsPart ⟨Nat.le_of_ble_eq_true rfl, Nat.le_of_ble_eq_true rfl⟩) hm (by decide) rfl rfl rfl (Nat.le_of_ble_eq_true rfl) dX7_termsTold_82 ⟨Nat.zero_le _, Nat.zero_le _⟩) hS (fun I_351 R_352 J_353 AI_354 AJ_355 AR_356 H locs hp_357 hH hS => ?_)
                  dsimp only at hp_357
                  obtain ⟨rfl, rfl, rfl, rfl, rfl, hv, hT, hsp⟩ := hp_357
                  replace hsp := hid hsp
                  have hQ : mQ gh I_329 J_331 AI_354 AJ mo b nn nr nt cc 1 hc := mQ_bad hQ (by omega) rfl
                  refine z_goto (tgt := 158) F dX7_termsTold_85 (by decide) ?_
                  refine z_iinc (lv' := [(3, .int (iI (n + 1))), (4, .int (iI mr)), (0, .ref mo), (1, .int (iI bl)), (2, .int (iI fm))]) F dX7_termsTold_158 hl (k := 1) rfl (by decide) rfl (fun ls hl => ?_)
                  have hTs : sTerm b nn bl n hc = (1, hc, 0) := pE1 (sTerm_x (c := bl) (by omega) (pCf_n1 (by omega))) (by omega)
                  have hS9 : sTerms b nn bl 5 0 h = (1, hc, 0) := sTerms_no hsq (f := (4 - n).toNat) (by omega) hTs.symm (by omega)
                  have hfin : thn (f, h, 0) (fun t _ => sTerms b nn bl 5 0 t) = (1, hc, 0) := (thn_k q0).trans hS9
                  exact cut_161_10 (n + 1) I_329 J_331 AI_354 H locs ls ⟨by omega, by omega⟩ hv hT pf ⟨_, _, by omega, hQ, hfin⟩ (by omega) (by omega) hH hS (lv_sub hl [1, 0, 2, 3, 4] rfl)
            · refine lv_aload_n F.1 F.2.1 dX7_termsTold_22 rfl (lv_at hl 2 rfl) ?_
              refine lv_aload_n F.1 F.2.1 dX7_termsTold_23 rfl (lv_at hl 2 rfl) ?_
              refine g_getI (ci := 7) (k := 21) F hH rfl (by decide) iX7 hm (by decide) rfl k94 dX7_termsTold_24 ?_
              refine z_iconst F dX7_termsTold_27 ?_
              refine z_icmp_ne (tgt := 47) F dX7_termsTold_28 (by decide) (zr_t _) ⟨by decide, by decide⟩ (fun c_358 => ?_) (fun c_358 => ?_)
              · have t_359 : pK b nn hc ≠ 2 := mQ_kn hQ rfl (c := 1) rfl (by omega)
                refine lv_aload_n F.1 F.2.1 dX7_termsTold_47 rfl (lv_at hl 2 rfl) ?_
                refine g_getI (ci := 7) (k := 21) F hH rfl (by decide) iX7 hm (by decide) rfl k94 dX7_termsTold_48 ?_
                refine z_iconst F dX7_termsTold_51 ?_
                refine z_icmp_ne (tgt := 59) F dX7_termsTold_52 (by decide) (zr_t _) ⟨by decide, by decide⟩ (fun c_360 => ?_) (fun c_360 => ?_)
                · have t_361 : pK b nn hc ≠ 4 := mQ_kn hQ rfl (c := 3) rfl (by omega)
                  refine z_iconst F dX7_termsTold_59 ?_
                  refine g_callv (g_runV (As := [.int (iI 1)]) (rest := []) (ci := 7) F hl.1 hH hS hz (c_X7_wrongf l g gh T b nn nr nt cc 0 hc I_1 R J_2 AI_3 AJ AR mo 1 ⟨by decide, by decide⟩ hv hm hT (by omega) h65 hbM hr7 (by omega) hn9 (by omega) hQ) (cwV 1 F.2.2.2.2.1 (good_up gT_X7_wrong) rfl rfl rfl hdX7_wrong ⟨Nat.le_of_ble_eq_true rfl, Nat.le_of_ble_eq_true rfl⟩) hm (by decide) rfl rfl rfl (Nat.le_of_ble_eq_true rfl) dX7_termsTold_60 ⟨Nat.zero_le _, Nat.zero_le _⟩) hS (fun I_362 R_363 J_364 AI_365 AJ_366 AR_367 H locs hp_368 hH hS => ?_)
                  dsimp only at hp_368
                  obtain ⟨r_369, er_369⟩ : ∃ qQ : pR, qQ = thn (0, hc, 0) (fun t _ => (1, t, 0)) := ⟨_, rfl⟩
                  rw [← er_369] at hp_368
                  obtain ⟨rfl, rfl, rfl, rfl, rfl, hv, pfq, q_370, hQ⟩ := hp_368
                  have pf := qF_t pf pfq
                  have u_371_2 : (I_362 mo 2).toInt = (I mo 2).toInt := by rw [pf 2 (by decide) (by decide) (by decide) (by decide) (by decide)]
                  have u_371_5 : (I_362 mo 5).toInt = (I mo 5).toInt := by rw [pf 5 (by decide) (by decide) (by decide) (by decide) (by decide)]
                  have u_371_14 : (I_362 mo 14).toInt = (I mo 14).toInt := by rw [pf 14 (by decide) (by decide) (by decide) (by decide) (by decide)]
                  have u_371_16 : (I_362 mo 16).toInt = (I mo 16).toInt := by rw [pf 16 (by decide) (by decide) (by decide) (by decide) (by decide)]
                  have u_371_18 : (I_362 mo 18).toInt = (I mo 18).toInt := by rw [pf 18 (by decide) (by decide) (by decide) (by decide) (by decide)]
                  have er_369 : r_369 = (1, hc, 0) := er_369
                  have hQ : mQ gh I_362 J_2 AI_3 AJ mo b nn nr nt cc 1 hc := by rw [er_369] at hQ; exact hQ
                  have q9_r_369 : (1 : Int) ≠ 0 := by omega
                  have g9_r_369 := mQ_f hQ q9_r_369
                  refine lv_aload_n F.1 F.2.1 dX7_termsTold_63 rfl (lv_at hl 2 rfl) ?_
                  refine g_getI (ci := 7) (k := 21) F hH rfl (by decide) iX7 hm (by decide) rfl k94 dX7_termsTold_64 ?_
                  have b_372 := mJ hv hm
                  unfold mNum1 at b_372
                  refine z_iconst F dX7_termsTold_67 ?_
                  refine z_icmp_ne (tgt := 88) F dX7_termsTold_68 (by decide) (zr_t _) ⟨by decide, by decide⟩ (fun c_373 => ?_) (fun c_373 => ?_)
                  · refine lv_aload_n F.1 F.2.1 dX7_termsTold_88 rfl (lv_at hl 2 rfl) ?_
                    refine lv_iload_n F.1 F.2.1 dX7_termsTold_89 rfl (lv_at hl 3 rfl) ?_
                    refine g_calli (g_runV (As := [.int (iI bl)]) (rest := []) (ci := 7) F hl.1 hH hS hz (c_X7_columnf l g gh T b nn nr nt cc 1 hc I_362 R J_2 AI_3 AJ AR mo bl zbl hv hm hT (by omega) h65 hbM hr7 (by omega) hn9 (by omega) hQ) (cwV 1 F.2.2.2.2.1 (good_up gT_X7_column) rfl rfl rfl hdX7_column ⟨Nat.le_of_ble_eq_true rfl, Nat.le_of_ble_eq_true rfl⟩) hm (by decide) rfl rfl rfl (Nat.le_of_ble_eq_true rfl) dX7_termsTold_90 ⟨Nat.zero_le _, Nat.zero_le _⟩) hS (fun v_380 I_374 R_375 J_376 AI_377 AJ_378 AR_379 H locs zv_380 hp_381 hH hS => ?_)
                    dsimp only at hp_381
                    obtain ⟨r_382, er_382⟩ : ∃ qQ : pR, qQ = thn (1, hc, 0) (fun t _ => sCol b nn bl t) := ⟨_, rfl⟩
                    rw [← er_382] at hp_381
                    obtain ⟨rfl, rfl, rfl, rfl, hv, pfq, q_383, q_384, hQ, q_385⟩ := hp_381
                    have pf := qF_t pf pfq
                    have u_386_2 : (I_374 mo 2).toInt = (I mo 2).toInt := by rw [pf 2 (by decide) (by decide) (by decide) (by decide) (by decide)]
                    have u_386_5 : (I_374 mo 5).toInt = (I mo 5).toInt := by rw [pf 5 (by decide) (by decide) (by decide) (by decide) (by decide)]
                    have u_386_14 : (I_374 mo 14).toInt = (I mo 14).toInt := by rw [pf 14 (by decide) (by decide) (by decide) (by decide) (by decide)]
                    have u_386_16 : (I_374 mo 16).toInt = (I mo 16).toInt := by rw [pf 16 (by decide) (by decide) (by decide) (by decide) (by decide)]
                    have u_386_18 : (I_374 mo 18).toInt = (I mo 18).toInt := by rw [pf 18 (by decide) (by decide) (by decide) (by decide) (by decide)]
                    rw [thn_b (by omega)] at er_382
                    have hQ : mQ gh I_374 J_376 AI_3 AJ mo b nn nr nt cc 1 hc := by rw [er_382] at hQ; exact hQ
                    replace q_384 := hid q_384
                    obtain ⟨f1, ef1⟩ : ∃ q, q = (I_374 mo 24).toInt := ⟨_, rfl⟩
                    have hc1 : Hid (f1 = 0 → v_380 ≤ 3) := fun h9 => by omega
                    refine lv_istore (lv' := [(5, .int (iI v_380)), (4, .int (iI mr)), (3, .int (iI n)), (0, .ref mo), (1, .int (iI bl)), (2, .int (iI fm))]) F.1 F.2.1 dX7_termsTold_93 hl (by decide) rfl (fun ls hl => ?_)
                    refine z_iconst F dX7_termsTold_95 ?_
                    refine lv_istore (lv' := [(6, .int (iI 0)), (5, .int (iI v_380)), (4, .int (iI mr)), (3, .int (iI n)), (0, .ref mo), (1, .int (iI bl)), (2, .int (iI fm))]) F.1 F.2.1 dX7_termsTold_96 hl (by decide) rfl (fun ls hl => ?_)
                    refine lv_aload_n F.1 F.2.1 dX7_termsTold_98 rfl (lv_at hl 4 rfl) ?_
                    refine z_bipush F dX7_termsTold_99 (by decide) ?_
                    have b_387 := mJ hv hm
                    unfold mNum1 at b_387
                    refine g_calli (g_runV (As := [.int (iI 43)]) (rest := []) (ci := 7) F hl.1 hH hS hz (c_X7_isSignf l g gh T b nn nr nt cc 1 hc I_374 R J_376 AI_3 AJ AR mo 43 ⟨by decide, by decide⟩ hv hm hT h65 hbM hr7 (by omega) hn9 (by omega) (by omega) hQ) (cwV 1 F.2.2.2.2.1 (good_up gT_X7_isSign) rfl rfl rfl hdX7_isSign ⟨Nat.le_of_ble_eq_true rfl, Nat.le_of_ble_eq_true rfl⟩) hm (by decide) rfl rfl rfl (Nat.le_of_ble_eq_true rfl) dX7_termsTold_101 ⟨Nat.zero_le _, Nat.zero_le _⟩) hS (fun v_394 I_388 R_389 J_390 AI_391 AJ_392 AR_393 H locs zv_394 hp_395 hH hS => ?_)
                    dsimp only at hp_395
                    obtain ⟨rfl, rfl, rfl, rfl, rfl, rfl, q_396, q_397⟩ := hp_395
                    replace q_396 := q_396.1
                    refine z_if_ne (tgt := 116) F dX7_termsTold_104 (by decide) zv_394 (fun c_398 => ?_) (fun c_398 => ?_)
                    · exact absurd (tIz_1 q_397 (by omega)).1 (by omega)
                    · have t_399 := tIz_0 q_397 (by omega)
                      refine lv_aload_n F.1 F.2.1 dX7_termsTold_107 rfl (lv_at hl 4 rfl) ?_
                      refine z_bipush F dX7_termsTold_108 (by decide) ?_
                      refine g_calli (g_runV (As := [.int (iI 45)]) (rest := []) (ci := 7) F hl.1 hH hS hz (c_X7_isSignf l g gh T b nn nr nt cc 1 hc I_374 R J_376 AI_3 AJ AR mo 45 ⟨by decide, by decide⟩ hv hm hT h65 hbM hr7 (by omega) hn9 (by omega) (by omega) hQ) (cwV 1 F.2.2.2.2.1 (good_up gT_X7_isSign) rfl rfl rfl hdX7_isSign ⟨Nat.le_of_ble_eq_true rfl, Nat.le_of_ble_eq_true rfl⟩) hm (by decide) rfl rfl rfl (Nat.le_of_ble_eq_true rfl) dX7_termsTold_110 ⟨Nat.zero_le _, Nat.zero_le _⟩) hS (fun v_406 I_400 R_401 J_402 AI_403 AJ_404 AR_405 H locs zv_406 hp_407 hH hS => ?_)
                      dsimp only at hp_407
                      obtain ⟨rfl, rfl, rfl, rfl, rfl, rfl, q_408, q_409⟩ := hp_407
                      replace q_408 := q_408.1
                      refine z_if_eq (tgt := 145) F dX7_termsTold_113 (by decide) zv_406 (fun c_410 => ?_) (fun c_410 => ?_)
                      · have t_411 := tIz_0 q_409 (by omega)
                        refine lv_aload_n F.1 F.2.1 dX7_termsTold_145 rfl (lv_at hl 4 rfl) ?_
                        refine lv_iload_n F.1 F.2.1 dX7_termsTold_146 rfl (lv_at hl 6 rfl) ?_
                        refine lv_iload_n F.1 F.2.1 dX7_termsTold_147 rfl (lv_at hl 3 rfl) ?_
                        refine z_iadd F dX7_termsTold_148 ?_
                        refine lv_iload F.1 F.2.1 dX7_termsTold_149 (lv_at hl 1 rfl) ?_
                        refine lv_iload F.1 F.2.1 dX7_termsTold_151 (lv_at hl 0 rfl) ?_
                        refine z_iconst F dX7_termsTold_153 ?_
                        refine z_iconst F dX7_termsTold_154 ?_
                        refine g_callv (g_runV (As := [.int (iI (fm + n)), .int (iI v_380), .int (iI 0), .int (iI 0), .int (iI 0)]) (rest := []) (ci := 7) F hl.1 hH hS hz (c_X7_setsPart l g gh T M I_374 R J_376 AI_3 AJ AR mo (fm + n) v_380 0 0 0 ⟨by omega, by omega⟩ zv_380 ⟨by decide, by decide⟩ ⟨by decide, by decide⟩ ⟨by decide, by decide⟩ hv hm hT (by omega) (by omega) (by omega)) (cwV 5 F.2.2.2.2.1 (good_up gT_X7_setsPart) rfl rfl rfl hdX7_setsPart ⟨Nat.le_of_ble_eq_true rfl, Nat.le_of_ble_eq_true rfl⟩) hm (by decide) rfl rfl rfl (Nat.le_of_ble_eq_true rfl) dX7_termsTold_155 ⟨Nat.zero_le _, Nat.zero_le _⟩) hS (fun I_412 R_413 J_414 AI_415 AJ_416 AR_417 H locs hp_418 hH hS => ?_)
                        dsimp only at hp_418
                        obtain ⟨rfl, rfl, rfl, rfl, rfl, hv, hT, hsp⟩ := hp_418
                        replace hsp := hid hsp
                        have hQ : mQ gh I_374 J_376 AI_415 AJ mo b nn nr nt cc 1 hc := mQ_bad hQ (by omega) rfl
                        refine z_iinc (lv' := [(3, .int (iI (n + 1))), (6, .int (iI 0)), (5, .int (iI v_380)), (4, .int (iI mr)), (0, .ref mo), (1, .int (iI bl)), (2, .int (iI fm))]) F dX7_termsTold_158 hl (k := 3) rfl (by decide) rfl (fun ls hl => ?_)
                        have hTs : sTerm b nn bl n hc = (1, hc, 0) := pE1 (sTerm_x (c := bl) (by omega) (pCf_n1 (by omega))) (by omega)
                        have hS9 : sTerms b nn bl 5 0 h = (1, hc, 0) := sTerms_no hsq (f := (4 - n).toNat) (by omega) hTs.symm (by omega)
                        have hfin : thn (f, h, 0) (fun t _ => sTerms b nn bl 5 0 t) = (1, hc, 0) := (thn_k q0).trans hS9
                        exact cut_161_10 (n + 1) I_374 J_376 AI_415 H locs ls ⟨by omega, by omega⟩ hv hT pf ⟨_, _, by omega, hQ, hfin⟩ (by omega) (by omega) hH hS (lv_sub hl [3, 0, 4, 5, 6] rfl)
                      · exact absurd (tIz_1 q_409 (by omega)).1 (by omega)
                  · refine lv_aload_n F.1 F.2.1 dX7_termsTold_71 rfl (lv_at hl 2 rfl) ?_
                    refine lv_iload_n F.1 F.2.1 dX7_termsTold_72 rfl (lv_at hl 4 rfl) ?_
                    refine lv_iload_n F.1 F.2.1 dX7_termsTold_73 rfl (lv_at hl 1 rfl) ?_
                    refine z_iadd F dX7_termsTold_74 ?_
                    refine z_iconst F dX7_termsTold_75 ?_
                    refine lv_aload_n F.1 F.2.1 dX7_termsTold_76 rfl (lv_at hl 2 rfl) ?_
                    refine g_calli (g_runV (As := []) (rest := [.int (iI ((-1))), .int (iI (fm + n)), .ref mo]) (ci := 7) F hl.1 hH hS hz (c_X7_numberToldf l g gh T b nn nr nt cc 1 hc I_362 R J_2 AI_3 AJ AR mo hv hm hT (by omega) h65 hbM hr7 (by omega) hn9 (by omega) hQ) (cwV 0 F.2.2.2.2.1 (good_up gT_X7_numberTold) rfl rfl rfl hdX7_numberTold ⟨Nat.le_of_ble_eq_true rfl, Nat.le_of_ble_eq_true rfl⟩) hm (by decide) rfl rfl rfl (Nat.le_of_ble_eq_true rfl) dX7_termsTold_77 ⟨Nat.zero_le _, Nat.zero_le _⟩) hS (fun v_425 I_419 R_420 J_421 AI_422 AJ_423 AR_424 H locs zv_425 hp_426 hH hS => ?_)
                    dsimp only at hp_426
                    obtain ⟨r_427, er_427⟩ : ∃ qQ : pR, qQ = thn (1, hc, 0) (fun t _ => sNum b nn t) := ⟨_, rfl⟩
                    rw [← er_427] at hp_426
                    obtain ⟨rfl, rfl, rfl, rfl, hv, pfq, q_428, q_429, hQ, q_430⟩ := hp_426
                    have pf := qF_t pf pfq
                    have u_431_2 : (I_419 mo 2).toInt = (I mo 2).toInt := by rw [pf 2 (by decide) (by decide) (by decide) (by decide) (by decide)]
                    have u_431_5 : (I_419 mo 5).toInt = (I mo 5).toInt := by rw [pf 5 (by decide) (by decide) (by decide) (by decide) (by decide)]
                    have u_431_14 : (I_419 mo 14).toInt = (I mo 14).toInt := by rw [pf 14 (by decide) (by decide) (by decide) (by decide) (by decide)]
                    have u_431_16 : (I_419 mo 16).toInt = (I mo 16).toInt := by rw [pf 16 (by decide) (by decide) (by decide) (by decide) (by decide)]
                    have u_431_18 : (I_419 mo 18).toInt = (I mo 18).toInt := by rw [pf 18 (by decide) (by decide) (by decide) (by decide) (by decide)]
                    rw [thn_b (by omega)] at er_427
                    have hQ : mQ gh I_419 J_421 AI_3 AJ mo b nn nr nt cc 1 hc := by rw [er_427] at hQ; exact hQ
                    replace q_429 := hid q_429
                    refine z_iconst F dX7_termsTold_80 ?_
                    refine z_iconst F dX7_termsTold_81 ?_
                    have b_432 := mJ hv hm
                    unfold mNum1 at b_432
                    refine g_callv (g_runV (As := [.int (iI (fm + n)), .int (iI ((-1))), .int (iI v_425), .int (iI 0), .int (iI 0)]) (rest := []) (ci := 7) F hl.1 hH hS hz (c_X7_setsPart l g gh T M I_419 R J_421 AI_3 AJ AR mo (fm + n) (-1) v_425 0 0 ⟨by omega, by omega⟩ ⟨by decide, by decide⟩ zv_425 ⟨by decide, by decide⟩ ⟨by decide, by decide⟩ hv hm hT (by omega) (by omega) (by omega)) (cwV 5 F.2.2.2.2.1 (good_up gT_X7_setsPart) rfl rfl rfl hdX7_setsPart ⟨Nat.le_of_ble_eq_true rfl, Nat.le_of_ble_eq_true rfl⟩) hm (by decide) rfl rfl rfl (Nat.le_of_ble_eq_true rfl) dX7_termsTold_82 ⟨Nat.zero_le _, Nat.zero_le _⟩) hS (fun I_433 R_434 J_435 AI_436 AJ_437 AR_438 H locs hp_439 hH hS => ?_)
                    dsimp only at hp_439
                    obtain ⟨rfl, rfl, rfl, rfl, rfl, hv, hT, hsp⟩ := hp_439
                    replace hsp := hid hsp
                    have hQ : mQ gh I_419 J_421 AI_436 AJ mo b nn nr nt cc 1 hc := mQ_bad hQ (by omega) rfl
                    refine z_goto (tgt := 158) F dX7_termsTold_85 (by decide) ?_
                    refine z_iinc (lv' := [(3, .int (iI (n + 1))), (4, .int (iI mr)), (0, .ref mo), (1, .int (iI bl)), (2, .int (iI fm))]) F dX7_termsTold_158 hl (k := 1) rfl (by decide) rfl (fun ls hl => ?_)
                    have hTs : sTerm b nn bl n hc = (1, hc, 0) := pE1 (sTerm_x (c := bl) (by omega) (pCf_n1 (by omega))) (by omega)
                    have hS9 : sTerms b nn bl 5 0 h = (1, hc, 0) := sTerms_no hsq (f := (4 - n).toNat) (by omega) hTs.symm (by omega)
                    have hfin : thn (f, h, 0) (fun t _ => sTerms b nn bl 5 0 t) = (1, hc, 0) := (thn_k q0).trans hS9
                    exact cut_161_10 (n + 1) I_419 J_421 AI_436 H locs ls ⟨by omega, by omega⟩ hv hT pf ⟨_, _, by omega, hQ, hfin⟩ (by omega) (by omega) hH hS (lv_sub hl [1, 0, 2, 3, 4] rfl)
                · have t_440 := tkM_3 ((mQ_k hQ rfl).symm.trans (by omega))
                  have t_440v := mQ_v hQ rfl (by omega)
                  refine z_iconst F dX7_termsTold_55 ?_
                  refine z_goto (tgt := 60) F dX7_termsTold_56 (by decide) ?_
                  refine g_callv (g_runV (As := [.int (iI 4)]) (rest := []) (ci := 7) F hl.1 hH hS hz (c_X7_wrongf l g gh T b nn nr nt cc 0 hc I_1 R J_2 AI_3 AJ AR mo 4 ⟨by decide, by decide⟩ hv hm hT (by omega) h65 hbM hr7 (by omega) hn9 (by omega) hQ) (cwV 1 F.2.2.2.2.1 (good_up gT_X7_wrong) rfl rfl rfl hdX7_wrong ⟨Nat.le_of_ble_eq_true rfl, Nat.le_of_ble_eq_true rfl⟩) hm (by decide) rfl rfl rfl (Nat.le_of_ble_eq_true rfl) dX7_termsTold_60 ⟨Nat.zero_le _, Nat.zero_le _⟩) hS (fun I_441 R_442 J_443 AI_444 AJ_445 AR_446 H locs hp_447 hH hS => ?_)
                  dsimp only at hp_447
                  obtain ⟨r_448, er_448⟩ : ∃ qQ : pR, qQ = thn (0, hc, 0) (fun t _ => (4, t, 0)) := ⟨_, rfl⟩
                  rw [← er_448] at hp_447
                  obtain ⟨rfl, rfl, rfl, rfl, rfl, hv, pfq, q_449, hQ⟩ := hp_447
                  have pf := qF_t pf pfq
                  have u_450_2 : (I_441 mo 2).toInt = (I mo 2).toInt := by rw [pf 2 (by decide) (by decide) (by decide) (by decide) (by decide)]
                  have u_450_5 : (I_441 mo 5).toInt = (I mo 5).toInt := by rw [pf 5 (by decide) (by decide) (by decide) (by decide) (by decide)]
                  have u_450_14 : (I_441 mo 14).toInt = (I mo 14).toInt := by rw [pf 14 (by decide) (by decide) (by decide) (by decide) (by decide)]
                  have u_450_16 : (I_441 mo 16).toInt = (I mo 16).toInt := by rw [pf 16 (by decide) (by decide) (by decide) (by decide) (by decide)]
                  have u_450_18 : (I_441 mo 18).toInt = (I mo 18).toInt := by rw [pf 18 (by decide) (by decide) (by decide) (by decide) (by decide)]
                  have er_448 : r_448 = (4, hc, 0) := er_448
                  have hQ : mQ gh I_441 J_2 AI_3 AJ mo b nn nr nt cc 4 hc := by rw [er_448] at hQ; exact hQ
                  have q9_r_448 : (4 : Int) ≠ 0 := by omega
                  have g9_r_448 := mQ_f hQ q9_r_448
                  refine lv_aload_n F.1 F.2.1 dX7_termsTold_63 rfl (lv_at hl 2 rfl) ?_
                  refine g_getI (ci := 7) (k := 21) F hH rfl (by decide) iX7 hm (by decide) rfl k94 dX7_termsTold_64 ?_
                  have b_451 := mJ hv hm
                  unfold mNum1 at b_451
                  refine z_iconst F dX7_termsTold_67 ?_
                  refine z_icmp_ne (tgt := 88) F dX7_termsTold_68 (by decide) (zr_t _) ⟨by decide, by decide⟩ (fun c_452 => ?_) (fun c_452 => ?_)
                  · refine lv_aload_n F.1 F.2.1 dX7_termsTold_88 rfl (lv_at hl 2 rfl) ?_
                    refine lv_iload_n F.1 F.2.1 dX7_termsTold_89 rfl (lv_at hl 3 rfl) ?_
                    refine g_calli (g_runV (As := [.int (iI bl)]) (rest := []) (ci := 7) F hl.1 hH hS hz (c_X7_columnf l g gh T b nn nr nt cc 4 hc I_441 R J_2 AI_3 AJ AR mo bl zbl hv hm hT (by omega) h65 hbM hr7 (by omega) hn9 (by omega) hQ) (cwV 1 F.2.2.2.2.1 (good_up gT_X7_column) rfl rfl rfl hdX7_column ⟨Nat.le_of_ble_eq_true rfl, Nat.le_of_ble_eq_true rfl⟩) hm (by decide) rfl rfl rfl (Nat.le_of_ble_eq_true rfl) dX7_termsTold_90 ⟨Nat.zero_le _, Nat.zero_le _⟩) hS (fun v_459 I_453 R_454 J_455 AI_456 AJ_457 AR_458 H locs zv_459 hp_460 hH hS => ?_)
                    dsimp only at hp_460
                    obtain ⟨r_461, er_461⟩ : ∃ qQ : pR, qQ = thn (4, hc, 0) (fun t _ => sCol b nn bl t) := ⟨_, rfl⟩
                    rw [← er_461] at hp_460
                    obtain ⟨rfl, rfl, rfl, rfl, hv, pfq, q_462, q_463, hQ, q_464⟩ := hp_460
                    have pf := qF_t pf pfq
                    have u_465_2 : (I_453 mo 2).toInt = (I mo 2).toInt := by rw [pf 2 (by decide) (by decide) (by decide) (by decide) (by decide)]
                    have u_465_5 : (I_453 mo 5).toInt = (I mo 5).toInt := by rw [pf 5 (by decide) (by decide) (by decide) (by decide) (by decide)]
                    have u_465_14 : (I_453 mo 14).toInt = (I mo 14).toInt := by rw [pf 14 (by decide) (by decide) (by decide) (by decide) (by decide)]
                    have u_465_16 : (I_453 mo 16).toInt = (I mo 16).toInt := by rw [pf 16 (by decide) (by decide) (by decide) (by decide) (by decide)]
                    have u_465_18 : (I_453 mo 18).toInt = (I mo 18).toInt := by rw [pf 18 (by decide) (by decide) (by decide) (by decide) (by decide)]
                    rw [thn_b (by omega)] at er_461
                    have hQ : mQ gh I_453 J_455 AI_3 AJ mo b nn nr nt cc 4 hc := by rw [er_461] at hQ; exact hQ
                    replace q_463 := hid q_463
                    obtain ⟨f1, ef1⟩ : ∃ q, q = (I_453 mo 24).toInt := ⟨_, rfl⟩
                    have hc1 : Hid (f1 = 0 → v_459 ≤ 3) := fun h9 => by omega
                    refine lv_istore (lv' := [(5, .int (iI v_459)), (4, .int (iI mr)), (3, .int (iI n)), (0, .ref mo), (1, .int (iI bl)), (2, .int (iI fm))]) F.1 F.2.1 dX7_termsTold_93 hl (by decide) rfl (fun ls hl => ?_)
                    refine z_iconst F dX7_termsTold_95 ?_
                    refine lv_istore (lv' := [(6, .int (iI 0)), (5, .int (iI v_459)), (4, .int (iI mr)), (3, .int (iI n)), (0, .ref mo), (1, .int (iI bl)), (2, .int (iI fm))]) F.1 F.2.1 dX7_termsTold_96 hl (by decide) rfl (fun ls hl => ?_)
                    refine lv_aload_n F.1 F.2.1 dX7_termsTold_98 rfl (lv_at hl 4 rfl) ?_
                    refine z_bipush F dX7_termsTold_99 (by decide) ?_
                    have b_466 := mJ hv hm
                    unfold mNum1 at b_466
                    refine g_calli (g_runV (As := [.int (iI 43)]) (rest := []) (ci := 7) F hl.1 hH hS hz (c_X7_isSignf l g gh T b nn nr nt cc 4 hc I_453 R J_455 AI_3 AJ AR mo 43 ⟨by decide, by decide⟩ hv hm hT h65 hbM hr7 (by omega) hn9 (by omega) (by omega) hQ) (cwV 1 F.2.2.2.2.1 (good_up gT_X7_isSign) rfl rfl rfl hdX7_isSign ⟨Nat.le_of_ble_eq_true rfl, Nat.le_of_ble_eq_true rfl⟩) hm (by decide) rfl rfl rfl (Nat.le_of_ble_eq_true rfl) dX7_termsTold_101 ⟨Nat.zero_le _, Nat.zero_le _⟩) hS (fun v_473 I_467 R_468 J_469 AI_470 AJ_471 AR_472 H locs zv_473 hp_474 hH hS => ?_)
                    dsimp only at hp_474
                    obtain ⟨rfl, rfl, rfl, rfl, rfl, rfl, q_475, q_476⟩ := hp_474
                    replace q_475 := q_475.1
                    refine z_if_ne (tgt := 116) F dX7_termsTold_104 (by decide) zv_473 (fun c_477 => ?_) (fun c_477 => ?_)
                    · exact absurd (tIz_1 q_476 (by omega)).1 (by omega)
                    · have t_478 := tIz_0 q_476 (by omega)
                      refine lv_aload_n F.1 F.2.1 dX7_termsTold_107 rfl (lv_at hl 4 rfl) ?_
                      refine z_bipush F dX7_termsTold_108 (by decide) ?_
                      refine g_calli (g_runV (As := [.int (iI 45)]) (rest := []) (ci := 7) F hl.1 hH hS hz (c_X7_isSignf l g gh T b nn nr nt cc 4 hc I_453 R J_455 AI_3 AJ AR mo 45 ⟨by decide, by decide⟩ hv hm hT h65 hbM hr7 (by omega) hn9 (by omega) (by omega) hQ) (cwV 1 F.2.2.2.2.1 (good_up gT_X7_isSign) rfl rfl rfl hdX7_isSign ⟨Nat.le_of_ble_eq_true rfl, Nat.le_of_ble_eq_true rfl⟩) hm (by decide) rfl rfl rfl (Nat.le_of_ble_eq_true rfl) dX7_termsTold_110 ⟨Nat.zero_le _, Nat.zero_le _⟩) hS (fun v_485 I_479 R_480 J_481 AI_482 AJ_483 AR_484 H locs zv_485 hp_486 hH hS => ?_)
                      dsimp only at hp_486
                      obtain ⟨rfl, rfl, rfl, rfl, rfl, rfl, q_487, q_488⟩ := hp_486
                      replace q_487 := q_487.1
                      refine z_if_eq (tgt := 145) F dX7_termsTold_113 (by decide) zv_485 (fun c_489 => ?_) (fun c_489 => ?_)
                      · have t_490 := tIz_0 q_488 (by omega)
                        refine lv_aload_n F.1 F.2.1 dX7_termsTold_145 rfl (lv_at hl 4 rfl) ?_
                        refine lv_iload_n F.1 F.2.1 dX7_termsTold_146 rfl (lv_at hl 6 rfl) ?_
                        refine lv_iload_n F.1 F.2.1 dX7_termsTold_147 rfl (lv_at hl 3 rfl) ?_
                        refine z_iadd F dX7_termsTold_148 ?_
                        refine lv_iload F.1 F.2.1 dX7_termsTold_149 (lv_at hl 1 rfl) ?_
                        refine lv_iload F.1 F.2.1 dX7_termsTold_151 (lv_at hl 0 rfl) ?_
                        refine z_iconst F dX7_termsTold_153 ?_
                        refine z_iconst F dX7_termsTold_154 ?_
                        refine g_callv (g_runV (As := [.int (iI (fm + n)), .int (iI v_459), .int (iI 0), .int (iI 0), .int (iI 0)]) (rest := []) (ci := 7) F hl.1 hH hS hz (c_X7_setsPart l g gh T M I_453 R J_455 AI_3 AJ AR mo (fm + n) v_459 0 0 0 ⟨by omega, by omega⟩ zv_459 ⟨by decide, by decide⟩ ⟨by decide, by decide⟩ ⟨by decide, by decide⟩ hv hm hT (by omega) (by omega) (by omega)) (cwV 5 F.2.2.2.2.1 (good_up gT_X7_setsPart) rfl rfl rfl hdX7_setsPart ⟨Nat.le_of_ble_eq_true rfl, Nat.le_of_ble_eq_true rfl⟩) hm (by decide) rfl rfl rfl (Nat.le_of_ble_eq_true rfl) dX7_termsTold_155 ⟨Nat.zero_le _, Nat.zero_le _⟩) hS (fun I_491 R_492 J_493 AI_494 AJ_495 AR_496 H locs hp_497 hH hS => ?_)
                        dsimp only at hp_497
                        obtain ⟨rfl, rfl, rfl, rfl, rfl, hv, hT, hsp⟩ := hp_497
                        replace hsp := hid hsp
                        have hQ : mQ gh I_453 J_455 AI_494 AJ mo b nn nr nt cc 4 hc := mQ_bad hQ (by omega) rfl
                        refine z_iinc (lv' := [(3, .int (iI (n + 1))), (6, .int (iI 0)), (5, .int (iI v_459)), (4, .int (iI mr)), (0, .ref mo), (1, .int (iI bl)), (2, .int (iI fm))]) F dX7_termsTold_158 hl (k := 3) rfl (by decide) rfl (fun ls hl => ?_)
                        have hTs : sTerm b nn bl n hc = (4, hc, 0) := sTerm_n4 (by omega) (by omega)
                        have hS9 : sTerms b nn bl 5 0 h = (4, hc, 0) := sTerms_no hsq (f := (4 - n).toNat) (by omega) hTs.symm (by omega)
                        have hfin : thn (f, h, 0) (fun t _ => sTerms b nn bl 5 0 t) = (4, hc, 0) := (thn_k q0).trans hS9
                        exact cut_161_10 (n + 1) I_453 J_455 AI_494 H locs ls ⟨by omega, by omega⟩ hv hT pf ⟨_, _, by omega, hQ, hfin⟩ (by omega) (by omega) hH hS (lv_sub hl [3, 0, 4, 5, 6] rfl)
                      · exact absurd (tIz_1 q_488 (by omega)).1 (by omega)
                  · refine lv_aload_n F.1 F.2.1 dX7_termsTold_71 rfl (lv_at hl 2 rfl) ?_
                    refine lv_iload_n F.1 F.2.1 dX7_termsTold_72 rfl (lv_at hl 4 rfl) ?_
                    refine lv_iload_n F.1 F.2.1 dX7_termsTold_73 rfl (lv_at hl 1 rfl) ?_
                    refine z_iadd F dX7_termsTold_74 ?_
                    refine z_iconst F dX7_termsTold_75 ?_
                    refine lv_aload_n F.1 F.2.1 dX7_termsTold_76 rfl (lv_at hl 2 rfl) ?_
                    refine g_calli (g_runV (As := []) (rest := [.int (iI ((-1))), .int (iI (fm + n)), .ref mo]) (ci := 7) F hl.1 hH hS hz (c_X7_numberToldf l g gh T b nn nr nt cc 4 hc I_441 R J_2 AI_3 AJ AR mo hv hm hT (by omega) h65 hbM hr7 (by omega) hn9 (by omega) hQ) (cwV 0 F.2.2.2.2.1 (good_up gT_X7_numberTold) rfl rfl rfl hdX7_numberTold ⟨Nat.le_of_ble_eq_true rfl, Nat.le_of_ble_eq_true rfl⟩) hm (by decide) rfl rfl rfl (Nat.le_of_ble_eq_true rfl) dX7_termsTold_77 ⟨Nat.zero_le _, Nat.zero_le _⟩) hS (fun v_504 I_498 R_499 J_500 AI_501 AJ_502 AR_503 H locs zv_504 hp_505 hH hS => ?_)
                    dsimp only at hp_505
                    obtain ⟨r_506, er_506⟩ : ∃ qQ : pR, qQ = thn (4, hc, 0) (fun t _ => sNum b nn t) := ⟨_, rfl⟩
                    rw [← er_506] at hp_505
                    obtain ⟨rfl, rfl, rfl, rfl, hv, pfq, q_507, q_508, hQ, q_509⟩ := hp_505
                    have pf := qF_t pf pfq
                    have u_510_2 : (I_498 mo 2).toInt = (I mo 2).toInt := by rw [pf 2 (by decide) (by decide) (by decide) (by decide) (by decide)]
                    have u_510_5 : (I_498 mo 5).toInt = (I mo 5).toInt := by rw [pf 5 (by decide) (by decide) (by decide) (by decide) (by decide)]
                    have u_510_14 : (I_498 mo 14).toInt = (I mo 14).toInt := by rw [pf 14 (by decide) (by decide) (by decide) (by decide) (by decide)]
                    have u_510_16 : (I_498 mo 16).toInt = (I mo 16).toInt := by rw [pf 16 (by decide) (by decide) (by decide) (by decide) (by decide)]
                    have u_510_18 : (I_498 mo 18).toInt = (I mo 18).toInt := by rw [pf 18 (by decide) (by decide) (by decide) (by decide) (by decide)]
                    rw [thn_b (by omega)] at er_506
                    have hQ : mQ gh I_498 J_500 AI_3 AJ mo b nn nr nt cc 4 hc := by rw [er_506] at hQ; exact hQ
                    replace q_508 := hid q_508
                    refine z_iconst F dX7_termsTold_80 ?_
                    refine z_iconst F dX7_termsTold_81 ?_
                    have b_511 := mJ hv hm
                    unfold mNum1 at b_511
                    refine g_callv (g_runV (As := [.int (iI (fm + n)), .int (iI ((-1))), .int (iI v_504), .int (iI 0), .int (iI 0)]) (rest := []) (ci := 7) F hl.1 hH hS hz (c_X7_setsPart l g gh T M I_498 R J_500 AI_3 AJ AR mo (fm + n) (-1) v_504 0 0 ⟨by omega, by omega⟩ ⟨by decide, by decide⟩ zv_504 ⟨by decide, by decide⟩ ⟨by decide, by decide⟩ hv hm hT (by omega) (by omega) (by omega)) (cwV 5 F.2.2.2.2.1 (good_up gT_X7_setsPart) rfl rfl rfl hdX7_setsPart ⟨Nat.le_of_ble_eq_true rfl, Nat.le_of_ble_eq_true rfl⟩) hm (by decide) rfl rfl rfl (Nat.le_of_ble_eq_true rfl) dX7_termsTold_82 ⟨Nat.zero_le _, Nat.zero_le _⟩) hS (fun I_512 R_513 J_514 AI_515 AJ_516 AR_517 H locs hp_518 hH hS => ?_)
                    dsimp only at hp_518
                    obtain ⟨rfl, rfl, rfl, rfl, rfl, hv, hT, hsp⟩ := hp_518
                    replace hsp := hid hsp
                    have hQ : mQ gh I_498 J_500 AI_515 AJ mo b nn nr nt cc 4 hc := mQ_bad hQ (by omega) rfl
                    refine z_goto (tgt := 158) F dX7_termsTold_85 (by decide) ?_
                    refine z_iinc (lv' := [(3, .int (iI (n + 1))), (4, .int (iI mr)), (0, .ref mo), (1, .int (iI bl)), (2, .int (iI fm))]) F dX7_termsTold_158 hl (k := 1) rfl (by decide) rfl (fun ls hl => ?_)
                    have hTs : sTerm b nn bl n hc = (4, hc, 0) := sTerm_n4 (by omega) (by omega)
                    have hS9 : sTerms b nn bl 5 0 h = (4, hc, 0) := sTerms_no hsq (f := (4 - n).toNat) (by omega) hTs.symm (by omega)
                    have hfin : thn (f, h, 0) (fun t _ => sTerms b nn bl 5 0 t) = (4, hc, 0) := (thn_k q0).trans hS9
                    exact cut_161_10 (n + 1) I_498 J_500 AI_515 H locs ls ⟨by omega, by omega⟩ hv hT pf ⟨_, _, by omega, hQ, hfin⟩ (by omega) (by omega) hH hS (lv_sub hl [1, 0, 2, 3, 4] rfl)
              · have t_519 := tkM_1 ((mQ_k hQ rfl).symm.trans (by omega))
                have t_519v := mQ_v hQ rfl (by omega)
                have t_519c := pV_c t_519
                refine lv_aload_n F.1 F.2.1 dX7_termsTold_31 rfl (lv_at hl 2 rfl) ?_
                refine g_getI (ci := 7) (k := 23) F hH rfl (by decide) iX7 hm (by decide) rfl k97 dX7_termsTold_32 ?_
                refine lv_iload_n F.1 F.2.1 dX7_termsTold_35 rfl (lv_at hl 3 rfl) ?_
                refine z_icmp_lt (tgt := 43) F dX7_termsTold_36 (by decide) (zr_t _) zbl (fun c_520 => ?_) (fun c_520 => ?_)
                · refine z_iconst F dX7_termsTold_43 ?_
                  refine z_goto (tgt := 60) F dX7_termsTold_44 (by decide) ?_
                  refine g_callv (g_runV (As := [.int (iI 4)]) (rest := []) (ci := 7) F hl.1 hH hS hz (c_X7_wrongf l g gh T b nn nr nt cc 0 hc I_1 R J_2 AI_3 AJ AR mo 4 ⟨by decide, by decide⟩ hv hm hT (by omega) h65 hbM hr7 (by omega) hn9 (by omega) hQ) (cwV 1 F.2.2.2.2.1 (good_up gT_X7_wrong) rfl rfl rfl hdX7_wrong ⟨Nat.le_of_ble_eq_true rfl, Nat.le_of_ble_eq_true rfl⟩) hm (by decide) rfl rfl rfl (Nat.le_of_ble_eq_true rfl) dX7_termsTold_60 ⟨Nat.zero_le _, Nat.zero_le _⟩) hS (fun I_521 R_522 J_523 AI_524 AJ_525 AR_526 H locs hp_527 hH hS => ?_)
                  dsimp only at hp_527
                  obtain ⟨r_528, er_528⟩ : ∃ qQ : pR, qQ = thn (0, hc, 0) (fun t _ => (4, t, 0)) := ⟨_, rfl⟩
                  rw [← er_528] at hp_527
                  obtain ⟨rfl, rfl, rfl, rfl, rfl, hv, pfq, q_529, hQ⟩ := hp_527
                  have pf := qF_t pf pfq
                  have u_530_2 : (I_521 mo 2).toInt = (I mo 2).toInt := by rw [pf 2 (by decide) (by decide) (by decide) (by decide) (by decide)]
                  have u_530_5 : (I_521 mo 5).toInt = (I mo 5).toInt := by rw [pf 5 (by decide) (by decide) (by decide) (by decide) (by decide)]
                  have u_530_14 : (I_521 mo 14).toInt = (I mo 14).toInt := by rw [pf 14 (by decide) (by decide) (by decide) (by decide) (by decide)]
                  have u_530_16 : (I_521 mo 16).toInt = (I mo 16).toInt := by rw [pf 16 (by decide) (by decide) (by decide) (by decide) (by decide)]
                  have u_530_18 : (I_521 mo 18).toInt = (I mo 18).toInt := by rw [pf 18 (by decide) (by decide) (by decide) (by decide) (by decide)]
                  have er_528 : r_528 = (4, hc, 0) := er_528
                  have hQ : mQ gh I_521 J_2 AI_3 AJ mo b nn nr nt cc 4 hc := by rw [er_528] at hQ; exact hQ
                  have q9_r_528 : (4 : Int) ≠ 0 := by omega
                  have g9_r_528 := mQ_f hQ q9_r_528
                  refine lv_aload_n F.1 F.2.1 dX7_termsTold_63 rfl (lv_at hl 2 rfl) ?_
                  refine g_getI (ci := 7) (k := 21) F hH rfl (by decide) iX7 hm (by decide) rfl k94 dX7_termsTold_64 ?_
                  have b_531 := mJ hv hm
                  unfold mNum1 at b_531
                  refine z_iconst F dX7_termsTold_67 ?_
                  refine z_icmp_ne (tgt := 88) F dX7_termsTold_68 (by decide) (zr_t _) ⟨by decide, by decide⟩ (fun c_532 => ?_) (fun c_532 => ?_)
                  · refine lv_aload_n F.1 F.2.1 dX7_termsTold_88 rfl (lv_at hl 2 rfl) ?_
                    refine lv_iload_n F.1 F.2.1 dX7_termsTold_89 rfl (lv_at hl 3 rfl) ?_
                    refine g_calli (g_runV (As := [.int (iI bl)]) (rest := []) (ci := 7) F hl.1 hH hS hz (c_X7_columnf l g gh T b nn nr nt cc 4 hc I_521 R J_2 AI_3 AJ AR mo bl zbl hv hm hT (by omega) h65 hbM hr7 (by omega) hn9 (by omega) hQ) (cwV 1 F.2.2.2.2.1 (good_up gT_X7_column) rfl rfl rfl hdX7_column ⟨Nat.le_of_ble_eq_true rfl, Nat.le_of_ble_eq_true rfl⟩) hm (by decide) rfl rfl rfl (Nat.le_of_ble_eq_true rfl) dX7_termsTold_90 ⟨Nat.zero_le _, Nat.zero_le _⟩) hS (fun v_539 I_533 R_534 J_535 AI_536 AJ_537 AR_538 H locs zv_539 hp_540 hH hS => ?_)
                    dsimp only at hp_540
                    obtain ⟨r_541, er_541⟩ : ∃ qQ : pR, qQ = thn (4, hc, 0) (fun t _ => sCol b nn bl t) := ⟨_, rfl⟩
                    rw [← er_541] at hp_540
                    obtain ⟨rfl, rfl, rfl, rfl, hv, pfq, q_542, q_543, hQ, q_544⟩ := hp_540
                    have pf := qF_t pf pfq
                    have u_545_2 : (I_533 mo 2).toInt = (I mo 2).toInt := by rw [pf 2 (by decide) (by decide) (by decide) (by decide) (by decide)]
                    have u_545_5 : (I_533 mo 5).toInt = (I mo 5).toInt := by rw [pf 5 (by decide) (by decide) (by decide) (by decide) (by decide)]
                    have u_545_14 : (I_533 mo 14).toInt = (I mo 14).toInt := by rw [pf 14 (by decide) (by decide) (by decide) (by decide) (by decide)]
                    have u_545_16 : (I_533 mo 16).toInt = (I mo 16).toInt := by rw [pf 16 (by decide) (by decide) (by decide) (by decide) (by decide)]
                    have u_545_18 : (I_533 mo 18).toInt = (I mo 18).toInt := by rw [pf 18 (by decide) (by decide) (by decide) (by decide) (by decide)]
                    rw [thn_b (by omega)] at er_541
                    have hQ : mQ gh I_533 J_535 AI_3 AJ mo b nn nr nt cc 4 hc := by rw [er_541] at hQ; exact hQ
                    replace q_543 := hid q_543
                    obtain ⟨f1, ef1⟩ : ∃ q, q = (I_533 mo 24).toInt := ⟨_, rfl⟩
                    have hc1 : Hid (f1 = 0 → v_539 ≤ 3) := fun h9 => by omega
                    refine lv_istore (lv' := [(5, .int (iI v_539)), (4, .int (iI mr)), (3, .int (iI n)), (0, .ref mo), (1, .int (iI bl)), (2, .int (iI fm))]) F.1 F.2.1 dX7_termsTold_93 hl (by decide) rfl (fun ls hl => ?_)
                    refine z_iconst F dX7_termsTold_95 ?_
                    refine lv_istore (lv' := [(6, .int (iI 0)), (5, .int (iI v_539)), (4, .int (iI mr)), (3, .int (iI n)), (0, .ref mo), (1, .int (iI bl)), (2, .int (iI fm))]) F.1 F.2.1 dX7_termsTold_96 hl (by decide) rfl (fun ls hl => ?_)
                    refine lv_aload_n F.1 F.2.1 dX7_termsTold_98 rfl (lv_at hl 4 rfl) ?_
                    refine z_bipush F dX7_termsTold_99 (by decide) ?_
                    have b_546 := mJ hv hm
                    unfold mNum1 at b_546
                    refine g_calli (g_runV (As := [.int (iI 43)]) (rest := []) (ci := 7) F hl.1 hH hS hz (c_X7_isSignf l g gh T b nn nr nt cc 4 hc I_533 R J_535 AI_3 AJ AR mo 43 ⟨by decide, by decide⟩ hv hm hT h65 hbM hr7 (by omega) hn9 (by omega) (by omega) hQ) (cwV 1 F.2.2.2.2.1 (good_up gT_X7_isSign) rfl rfl rfl hdX7_isSign ⟨Nat.le_of_ble_eq_true rfl, Nat.le_of_ble_eq_true rfl⟩) hm (by decide) rfl rfl rfl (Nat.le_of_ble_eq_true rfl) dX7_termsTold_101 ⟨Nat.zero_le _, Nat.zero_le _⟩) hS (fun v_553 I_547 R_548 J_549 AI_550 AJ_551 AR_552 H locs zv_553 hp_554 hH hS => ?_)
                    dsimp only at hp_554
                    obtain ⟨rfl, rfl, rfl, rfl, rfl, rfl, q_555, q_556⟩ := hp_554
                    replace q_555 := q_555.1
                    refine z_if_ne (tgt := 116) F dX7_termsTold_104 (by decide) zv_553 (fun c_557 => ?_) (fun c_557 => ?_)
                    · exact absurd (tIz_1 q_556 (by omega)).1 (by omega)
                    · have t_558 := tIz_0 q_556 (by omega)
                      refine lv_aload_n F.1 F.2.1 dX7_termsTold_107 rfl (lv_at hl 4 rfl) ?_
                      refine z_bipush F dX7_termsTold_108 (by decide) ?_
                      refine g_calli (g_runV (As := [.int (iI 45)]) (rest := []) (ci := 7) F hl.1 hH hS hz (c_X7_isSignf l g gh T b nn nr nt cc 4 hc I_533 R J_535 AI_3 AJ AR mo 45 ⟨by decide, by decide⟩ hv hm hT h65 hbM hr7 (by omega) hn9 (by omega) (by omega) hQ) (cwV 1 F.2.2.2.2.1 (good_up gT_X7_isSign) rfl rfl rfl hdX7_isSign ⟨Nat.le_of_ble_eq_true rfl, Nat.le_of_ble_eq_true rfl⟩) hm (by decide) rfl rfl rfl (Nat.le_of_ble_eq_true rfl) dX7_termsTold_110 ⟨Nat.zero_le _, Nat.zero_le _⟩) hS (fun v_565 I_559 R_560 J_561 AI_562 AJ_563 AR_564 H locs zv_565 hp_566 hH hS => ?_)
                      dsimp only at hp_566
                      obtain ⟨rfl, rfl, rfl, rfl, rfl, rfl, q_567, q_568⟩ := hp_566
                      replace q_567 := q_567.1
                      refine z_if_eq (tgt := 145) F dX7_termsTold_113 (by decide) zv_565 (fun c_569 => ?_) (fun c_569 => ?_)
                      · have t_570 := tIz_0 q_568 (by omega)
                        refine lv_aload_n F.1 F.2.1 dX7_termsTold_145 rfl (lv_at hl 4 rfl) ?_
                        refine lv_iload_n F.1 F.2.1 dX7_termsTold_146 rfl (lv_at hl 6 rfl) ?_
                        refine lv_iload_n F.1 F.2.1 dX7_termsTold_147 rfl (lv_at hl 3 rfl) ?_
                        refine z_iadd F dX7_termsTold_148 ?_
                        refine lv_iload F.1 F.2.1 dX7_termsTold_149 (lv_at hl 1 rfl) ?_
                        refine lv_iload F.1 F.2.1 dX7_termsTold_151 (lv_at hl 0 rfl) ?_
                        refine z_iconst F dX7_termsTold_153 ?_
                        refine z_iconst F dX7_termsTold_154 ?_
                        refine g_callv (g_runV (As := [.int (iI (fm + n)), .int (iI v_539), .int (iI 0), .int (iI 0), .int (iI 0)]) (rest := []) (ci := 7) F hl.1 hH hS hz (c_X7_setsPart l g gh T M I_533 R J_535 AI_3 AJ AR mo (fm + n) v_539 0 0 0 ⟨by omega, by omega⟩ zv_539 ⟨by decide, by decide⟩ ⟨by decide, by decide⟩ ⟨by decide, by decide⟩ hv hm hT (by omega) (by omega) (by omega)) (cwV 5 F.2.2.2.2.1 (good_up gT_X7_setsPart) rfl rfl rfl hdX7_setsPart ⟨Nat.le_of_ble_eq_true rfl, Nat.le_of_ble_eq_true rfl⟩) hm (by decide) rfl rfl rfl (Nat.le_of_ble_eq_true rfl) dX7_termsTold_155 ⟨Nat.zero_le _, Nat.zero_le _⟩) hS (fun I_571 R_572 J_573 AI_574 AJ_575 AR_576 H locs hp_577 hH hS => ?_)
                        dsimp only at hp_577
                        obtain ⟨rfl, rfl, rfl, rfl, rfl, hv, hT, hsp⟩ := hp_577
                        replace hsp := hid hsp
                        have hQ : mQ gh I_533 J_535 AI_574 AJ mo b nn nr nt cc 4 hc := mQ_bad hQ (by omega) rfl
                        refine z_iinc (lv' := [(3, .int (iI (n + 1))), (6, .int (iI 0)), (5, .int (iI v_539)), (4, .int (iI mr)), (0, .ref mo), (1, .int (iI bl)), (2, .int (iI fm))]) F dX7_termsTold_158 hl (k := 3) rfl (by decide) rfl (fun ls hl => ?_)
                        have hTs : sTerm b nn bl n hc = (4, hc, 0) := sTerm_c4 (pCf_ok (by omega) (by omega)) (by omega)
                        have hS9 : sTerms b nn bl 5 0 h = (4, hc, 0) := sTerms_no hsq (f := (4 - n).toNat) (by omega) hTs.symm (by omega)
                        have hfin : thn (f, h, 0) (fun t _ => sTerms b nn bl 5 0 t) = (4, hc, 0) := (thn_k q0).trans hS9
                        exact cut_161_10 (n + 1) I_533 J_535 AI_574 H locs ls ⟨by omega, by omega⟩ hv hT pf ⟨_, _, by omega, hQ, hfin⟩ (by omega) (by omega) hH hS (lv_sub hl [3, 0, 4, 5, 6] rfl)
                      · exact absurd (tIz_1 q_568 (by omega)).1 (by omega)
                  · refine lv_aload_n F.1 F.2.1 dX7_termsTold_71 rfl (lv_at hl 2 rfl) ?_
                    refine lv_iload_n F.1 F.2.1 dX7_termsTold_72 rfl (lv_at hl 4 rfl) ?_
                    refine lv_iload_n F.1 F.2.1 dX7_termsTold_73 rfl (lv_at hl 1 rfl) ?_
                    refine z_iadd F dX7_termsTold_74 ?_
                    refine z_iconst F dX7_termsTold_75 ?_
                    refine lv_aload_n F.1 F.2.1 dX7_termsTold_76 rfl (lv_at hl 2 rfl) ?_
                    refine g_calli (g_runV (As := []) (rest := [.int (iI ((-1))), .int (iI (fm + n)), .ref mo]) (ci := 7) F hl.1 hH hS hz (c_X7_numberToldf l g gh T b nn nr nt cc 4 hc I_521 R J_2 AI_3 AJ AR mo hv hm hT (by omega) h65 hbM hr7 (by omega) hn9 (by omega) hQ) (cwV 0 F.2.2.2.2.1 (good_up gT_X7_numberTold) rfl rfl rfl hdX7_numberTold ⟨Nat.le_of_ble_eq_true rfl, Nat.le_of_ble_eq_true rfl⟩) hm (by decide) rfl rfl rfl (Nat.le_of_ble_eq_true rfl) dX7_termsTold_77 ⟨Nat.zero_le _, Nat.zero_le _⟩) hS (fun v_584 I_578 R_579 J_580 AI_581 AJ_582 AR_583 H locs zv_584 hp_585 hH hS => ?_)
                    dsimp only at hp_585
                    obtain ⟨r_586, er_586⟩ : ∃ qQ : pR, qQ = thn (4, hc, 0) (fun t _ => sNum b nn t) := ⟨_, rfl⟩
                    rw [← er_586] at hp_585
                    obtain ⟨rfl, rfl, rfl, rfl, hv, pfq, q_587, q_588, hQ, q_589⟩ := hp_585
                    have pf := qF_t pf pfq
                    have u_590_2 : (I_578 mo 2).toInt = (I mo 2).toInt := by rw [pf 2 (by decide) (by decide) (by decide) (by decide) (by decide)]
                    have u_590_5 : (I_578 mo 5).toInt = (I mo 5).toInt := by rw [pf 5 (by decide) (by decide) (by decide) (by decide) (by decide)]
                    have u_590_14 : (I_578 mo 14).toInt = (I mo 14).toInt := by rw [pf 14 (by decide) (by decide) (by decide) (by decide) (by decide)]
                    have u_590_16 : (I_578 mo 16).toInt = (I mo 16).toInt := by rw [pf 16 (by decide) (by decide) (by decide) (by decide) (by decide)]
                    have u_590_18 : (I_578 mo 18).toInt = (I mo 18).toInt := by rw [pf 18 (by decide) (by decide) (by decide) (by decide) (by decide)]
                    rw [thn_b (by omega)] at er_586
                    have hQ : mQ gh I_578 J_580 AI_3 AJ mo b nn nr nt cc 4 hc := by rw [er_586] at hQ; exact hQ
                    replace q_588 := hid q_588
                    refine z_iconst F dX7_termsTold_80 ?_
                    refine z_iconst F dX7_termsTold_81 ?_
                    have b_591 := mJ hv hm
                    unfold mNum1 at b_591
                    refine g_callv (g_runV (As := [.int (iI (fm + n)), .int (iI ((-1))), .int (iI v_584), .int (iI 0), .int (iI 0)]) (rest := []) (ci := 7) F hl.1 hH hS hz (c_X7_setsPart l g gh T M I_578 R J_580 AI_3 AJ AR mo (fm + n) (-1) v_584 0 0 ⟨by omega, by omega⟩ ⟨by decide, by decide⟩ zv_584 ⟨by decide, by decide⟩ ⟨by decide, by decide⟩ hv hm hT (by omega) (by omega) (by omega)) (cwV 5 F.2.2.2.2.1 (good_up gT_X7_setsPart) rfl rfl rfl hdX7_setsPart ⟨Nat.le_of_ble_eq_true rfl, Nat.le_of_ble_eq_true rfl⟩) hm (by decide) rfl rfl rfl (Nat.le_of_ble_eq_true rfl) dX7_termsTold_82 ⟨Nat.zero_le _, Nat.zero_le _⟩) hS (fun I_592 R_593 J_594 AI_595 AJ_596 AR_597 H locs hp_598 hH hS => ?_)
                    dsimp only at hp_598
                    obtain ⟨rfl, rfl, rfl, rfl, rfl, hv, hT, hsp⟩ := hp_598
                    replace hsp := hid hsp
                    have hQ : mQ gh I_578 J_580 AI_595 AJ mo b nn nr nt cc 4 hc := mQ_bad hQ (by omega) rfl
                    refine z_goto (tgt := 158) F dX7_termsTold_85 (by decide) ?_
                    refine z_iinc (lv' := [(3, .int (iI (n + 1))), (4, .int (iI mr)), (0, .ref mo), (1, .int (iI bl)), (2, .int (iI fm))]) F dX7_termsTold_158 hl (k := 1) rfl (by decide) rfl (fun ls hl => ?_)
                    have hTs : sTerm b nn bl n hc = (4, hc, 0) := sTerm_c4 (pCf_ok (by omega) (by omega)) (by omega)
                    have hS9 : sTerms b nn bl 5 0 h = (4, hc, 0) := sTerms_no hsq (f := (4 - n).toNat) (by omega) hTs.symm (by omega)
                    have hfin : thn (f, h, 0) (fun t _ => sTerms b nn bl 5 0 t) = (4, hc, 0) := (thn_k q0).trans hS9
                    exact cut_161_10 (n + 1) I_578 J_580 AI_595 H locs ls ⟨by omega, by omega⟩ hv hT pf ⟨_, _, by omega, hQ, hfin⟩ (by omega) (by omega) hH hS (lv_sub hl [1, 0, 2, 3, 4] rfl)
                · refine z_iconst F dX7_termsTold_39 ?_
                  refine z_goto (tgt := 60) F dX7_termsTold_40 (by decide) ?_
                  refine g_callv (g_runV (As := [.int (iI 2)]) (rest := []) (ci := 7) F hl.1 hH hS hz (c_X7_wrongf l g gh T b nn nr nt cc 0 hc I_1 R J_2 AI_3 AJ AR mo 2 ⟨by decide, by decide⟩ hv hm hT (by omega) h65 hbM hr7 (by omega) hn9 (by omega) hQ) (cwV 1 F.2.2.2.2.1 (good_up gT_X7_wrong) rfl rfl rfl hdX7_wrong ⟨Nat.le_of_ble_eq_true rfl, Nat.le_of_ble_eq_true rfl⟩) hm (by decide) rfl rfl rfl (Nat.le_of_ble_eq_true rfl) dX7_termsTold_60 ⟨Nat.zero_le _, Nat.zero_le _⟩) hS (fun I_599 R_600 J_601 AI_602 AJ_603 AR_604 H locs hp_605 hH hS => ?_)
                  dsimp only at hp_605
                  obtain ⟨r_606, er_606⟩ : ∃ qQ : pR, qQ = thn (0, hc, 0) (fun t _ => (2, t, 0)) := ⟨_, rfl⟩
                  rw [← er_606] at hp_605
                  obtain ⟨rfl, rfl, rfl, rfl, rfl, hv, pfq, q_607, hQ⟩ := hp_605
                  have pf := qF_t pf pfq
                  have u_608_2 : (I_599 mo 2).toInt = (I mo 2).toInt := by rw [pf 2 (by decide) (by decide) (by decide) (by decide) (by decide)]
                  have u_608_5 : (I_599 mo 5).toInt = (I mo 5).toInt := by rw [pf 5 (by decide) (by decide) (by decide) (by decide) (by decide)]
                  have u_608_14 : (I_599 mo 14).toInt = (I mo 14).toInt := by rw [pf 14 (by decide) (by decide) (by decide) (by decide) (by decide)]
                  have u_608_16 : (I_599 mo 16).toInt = (I mo 16).toInt := by rw [pf 16 (by decide) (by decide) (by decide) (by decide) (by decide)]
                  have u_608_18 : (I_599 mo 18).toInt = (I mo 18).toInt := by rw [pf 18 (by decide) (by decide) (by decide) (by decide) (by decide)]
                  have er_606 : r_606 = (2, hc, 0) := er_606
                  have hQ : mQ gh I_599 J_2 AI_3 AJ mo b nn nr nt cc 2 hc := by rw [er_606] at hQ; exact hQ
                  have q9_r_606 : (2 : Int) ≠ 0 := by omega
                  have g9_r_606 := mQ_f hQ q9_r_606
                  refine lv_aload_n F.1 F.2.1 dX7_termsTold_63 rfl (lv_at hl 2 rfl) ?_
                  refine g_getI (ci := 7) (k := 21) F hH rfl (by decide) iX7 hm (by decide) rfl k94 dX7_termsTold_64 ?_
                  have b_609 := mJ hv hm
                  unfold mNum1 at b_609
                  refine z_iconst F dX7_termsTold_67 ?_
                  refine z_icmp_ne (tgt := 88) F dX7_termsTold_68 (by decide) (zr_t _) ⟨by decide, by decide⟩ (fun c_610 => ?_) (fun c_610 => ?_)
                  · refine lv_aload_n F.1 F.2.1 dX7_termsTold_88 rfl (lv_at hl 2 rfl) ?_
                    refine lv_iload_n F.1 F.2.1 dX7_termsTold_89 rfl (lv_at hl 3 rfl) ?_
                    refine g_calli (g_runV (As := [.int (iI bl)]) (rest := []) (ci := 7) F hl.1 hH hS hz (c_X7_columnf l g gh T b nn nr nt cc 2 hc I_599 R J_2 AI_3 AJ AR mo bl zbl hv hm hT (by omega) h65 hbM hr7 (by omega) hn9 (by omega) hQ) (cwV 1 F.2.2.2.2.1 (good_up gT_X7_column) rfl rfl rfl hdX7_column ⟨Nat.le_of_ble_eq_true rfl, Nat.le_of_ble_eq_true rfl⟩) hm (by decide) rfl rfl rfl (Nat.le_of_ble_eq_true rfl) dX7_termsTold_90 ⟨Nat.zero_le _, Nat.zero_le _⟩) hS (fun v_617 I_611 R_612 J_613 AI_614 AJ_615 AR_616 H locs zv_617 hp_618 hH hS => ?_)
                    dsimp only at hp_618
                    obtain ⟨r_619, er_619⟩ : ∃ qQ : pR, qQ = thn (2, hc, 0) (fun t _ => sCol b nn bl t) := ⟨_, rfl⟩
                    rw [← er_619] at hp_618
                    obtain ⟨rfl, rfl, rfl, rfl, hv, pfq, q_620, q_621, hQ, q_622⟩ := hp_618
                    have pf := qF_t pf pfq
                    have u_623_2 : (I_611 mo 2).toInt = (I mo 2).toInt := by rw [pf 2 (by decide) (by decide) (by decide) (by decide) (by decide)]
                    have u_623_5 : (I_611 mo 5).toInt = (I mo 5).toInt := by rw [pf 5 (by decide) (by decide) (by decide) (by decide) (by decide)]
                    have u_623_14 : (I_611 mo 14).toInt = (I mo 14).toInt := by rw [pf 14 (by decide) (by decide) (by decide) (by decide) (by decide)]
                    have u_623_16 : (I_611 mo 16).toInt = (I mo 16).toInt := by rw [pf 16 (by decide) (by decide) (by decide) (by decide) (by decide)]
                    have u_623_18 : (I_611 mo 18).toInt = (I mo 18).toInt := by rw [pf 18 (by decide) (by decide) (by decide) (by decide) (by decide)]
                    rw [thn_b (by omega)] at er_619
                    have hQ : mQ gh I_611 J_613 AI_3 AJ mo b nn nr nt cc 2 hc := by rw [er_619] at hQ; exact hQ
                    replace q_621 := hid q_621
                    obtain ⟨f1, ef1⟩ : ∃ q, q = (I_611 mo 24).toInt := ⟨_, rfl⟩
                    have hc1 : Hid (f1 = 0 → v_617 ≤ 3) := fun h9 => by omega
                    refine lv_istore (lv' := [(5, .int (iI v_617)), (4, .int (iI mr)), (3, .int (iI n)), (0, .ref mo), (1, .int (iI bl)), (2, .int (iI fm))]) F.1 F.2.1 dX7_termsTold_93 hl (by decide) rfl (fun ls hl => ?_)
                    refine z_iconst F dX7_termsTold_95 ?_
                    refine lv_istore (lv' := [(6, .int (iI 0)), (5, .int (iI v_617)), (4, .int (iI mr)), (3, .int (iI n)), (0, .ref mo), (1, .int (iI bl)), (2, .int (iI fm))]) F.1 F.2.1 dX7_termsTold_96 hl (by decide) rfl (fun ls hl => ?_)
                    refine lv_aload_n F.1 F.2.1 dX7_termsTold_98 rfl (lv_at hl 4 rfl) ?_
                    refine z_bipush F dX7_termsTold_99 (by decide) ?_
                    have b_624 := mJ hv hm
                    unfold mNum1 at b_624
                    refine g_calli (g_runV (As := [.int (iI 43)]) (rest := []) (ci := 7) F hl.1 hH hS hz (c_X7_isSignf l g gh T b nn nr nt cc 2 hc I_611 R J_613 AI_3 AJ AR mo 43 ⟨by decide, by decide⟩ hv hm hT h65 hbM hr7 (by omega) hn9 (by omega) (by omega) hQ) (cwV 1 F.2.2.2.2.1 (good_up gT_X7_isSign) rfl rfl rfl hdX7_isSign ⟨Nat.le_of_ble_eq_true rfl, Nat.le_of_ble_eq_true rfl⟩) hm (by decide) rfl rfl rfl (Nat.le_of_ble_eq_true rfl) dX7_termsTold_101 ⟨Nat.zero_le _, Nat.zero_le _⟩) hS (fun v_631 I_625 R_626 J_627 AI_628 AJ_629 AR_630 H locs zv_631 hp_632 hH hS => ?_)
                    dsimp only at hp_632
                    obtain ⟨rfl, rfl, rfl, rfl, rfl, rfl, q_633, q_634⟩ := hp_632
                    replace q_633 := q_633.1
                    refine z_if_ne (tgt := 116) F dX7_termsTold_104 (by decide) zv_631 (fun c_635 => ?_) (fun c_635 => ?_)
                    · exact absurd (tIz_1 q_634 (by omega)).1 (by omega)
                    · have t_636 := tIz_0 q_634 (by omega)
                      refine lv_aload_n F.1 F.2.1 dX7_termsTold_107 rfl (lv_at hl 4 rfl) ?_
                      refine z_bipush F dX7_termsTold_108 (by decide) ?_
                      refine g_calli (g_runV (As := [.int (iI 45)]) (rest := []) (ci := 7) F hl.1 hH hS hz (c_X7_isSignf l g gh T b nn nr nt cc 2 hc I_611 R J_613 AI_3 AJ AR mo 45 ⟨by decide, by decide⟩ hv hm hT h65 hbM hr7 (by omega) hn9 (by omega) (by omega) hQ) (cwV 1 F.2.2.2.2.1 (good_up gT_X7_isSign) rfl rfl rfl hdX7_isSign ⟨Nat.le_of_ble_eq_true rfl, Nat.le_of_ble_eq_true rfl⟩) hm (by decide) rfl rfl rfl (Nat.le_of_ble_eq_true rfl) dX7_termsTold_110 ⟨Nat.zero_le _, Nat.zero_le _⟩) hS (fun v_643 I_637 R_638 J_639 AI_640 AJ_641 AR_642 H locs zv_643 hp_644 hH hS => ?_)
                      dsimp only at hp_644
                      obtain ⟨rfl, rfl, rfl, rfl, rfl, rfl, q_645, q_646⟩ := hp_644
                      replace q_645 := q_645.1
                      refine z_if_eq (tgt := 145) F dX7_termsTold_113 (by decide) zv_643 (fun c_647 => ?_) (fun c_647 => ?_)
                      · have t_648 := tIz_0 q_646 (by omega)
                        refine lv_aload_n F.1 F.2.1 dX7_termsTold_145 rfl (lv_at hl 4 rfl) ?_
                        refine lv_iload_n F.1 F.2.1 dX7_termsTold_146 rfl (lv_at hl 6 rfl) ?_
                        refine lv_iload_n F.1 F.2.1 dX7_termsTold_147 rfl (lv_at hl 3 rfl) ?_
                        refine z_iadd F dX7_termsTold_148 ?_
                        refine lv_iload F.1 F.2.1 dX7_termsTold_149 (lv_at hl 1 rfl) ?_
                        refine lv_iload F.1 F.2.1 dX7_termsTold_151 (lv_at hl 0 rfl) ?_
                        refine z_iconst F dX7_termsTold_153 ?_
                        refine z_iconst F dX7_termsTold_154 ?_
                        refine g_callv (g_runV (As := [.int (iI (fm + n)), .int (iI v_617), .int (iI 0), .int (iI 0), .int (iI 0)]) (rest := []) (ci := 7) F hl.1 hH hS hz (c_X7_setsPart l g gh T M I_611 R J_613 AI_3 AJ AR mo (fm + n) v_617 0 0 0 ⟨by omega, by omega⟩ zv_617 ⟨by decide, by decide⟩ ⟨by decide, by decide⟩ ⟨by decide, by decide⟩ hv hm hT (by omega) (by omega) (by omega)) (cwV 5 F.2.2.2.2.1 (good_up gT_X7_setsPart) rfl rfl rfl hdX7_setsPart ⟨Nat.le_of_ble_eq_true rfl, Nat.le_of_ble_eq_true rfl⟩) hm (by decide) rfl rfl rfl (Nat.le_of_ble_eq_true rfl) dX7_termsTold_155 ⟨Nat.zero_le _, Nat.zero_le _⟩) hS (fun I_649 R_650 J_651 AI_652 AJ_653 AR_654 H locs hp_655 hH hS => ?_)
                        dsimp only at hp_655
                        obtain ⟨rfl, rfl, rfl, rfl, rfl, hv, hT, hsp⟩ := hp_655
                        replace hsp := hid hsp
                        have hQ : mQ gh I_611 J_613 AI_652 AJ mo b nn nr nt cc 2 hc := mQ_bad hQ (by omega) rfl
                        refine z_iinc (lv' := [(3, .int (iI (n + 1))), (6, .int (iI 0)), (5, .int (iI v_617)), (4, .int (iI mr)), (0, .ref mo), (1, .int (iI bl)), (2, .int (iI fm))]) F dX7_termsTold_158 hl (k := 3) rfl (by decide) rfl (fun ls hl => ?_)
                        have hTs : sTerm b nn bl n hc = (2, hc, 0) := pE2 (sTerm_x (by omega) (pCf_n2 (by omega) (by omega))) (by omega) (by omega)
                        have hS9 : sTerms b nn bl 5 0 h = (2, hc, 0) := sTerms_no hsq (f := (4 - n).toNat) (by omega) hTs.symm (by omega)
                        have hfin : thn (f, h, 0) (fun t _ => sTerms b nn bl 5 0 t) = (2, hc, 0) := (thn_k q0).trans hS9
                        exact cut_161_10 (n + 1) I_611 J_613 AI_652 H locs ls ⟨by omega, by omega⟩ hv hT pf ⟨_, _, by omega, hQ, hfin⟩ (by omega) (by omega) hH hS (lv_sub hl [3, 0, 4, 5, 6] rfl)
                      · exact absurd (tIz_1 q_646 (by omega)).1 (by omega)
                  · refine lv_aload_n F.1 F.2.1 dX7_termsTold_71 rfl (lv_at hl 2 rfl) ?_
                    refine lv_iload_n F.1 F.2.1 dX7_termsTold_72 rfl (lv_at hl 4 rfl) ?_
                    refine lv_iload_n F.1 F.2.1 dX7_termsTold_73 rfl (lv_at hl 1 rfl) ?_
                    refine z_iadd F dX7_termsTold_74 ?_
                    refine z_iconst F dX7_termsTold_75 ?_
                    refine lv_aload_n F.1 F.2.1 dX7_termsTold_76 rfl (lv_at hl 2 rfl) ?_
                    refine g_calli (g_runV (As := []) (rest := [.int (iI ((-1))), .int (iI (fm + n)), .ref mo]) (ci := 7) F hl.1 hH hS hz (c_X7_numberToldf l g gh T b nn nr nt cc 2 hc I_599 R J_2 AI_3 AJ AR mo hv hm hT (by omega) h65 hbM hr7 (by omega) hn9 (by omega) hQ) (cwV 0 F.2.2.2.2.1 (good_up gT_X7_numberTold) rfl rfl rfl hdX7_numberTold ⟨Nat.le_of_ble_eq_true rfl, Nat.le_of_ble_eq_true rfl⟩) hm (by decide) rfl rfl rfl (Nat.le_of_ble_eq_true rfl) dX7_termsTold_77 ⟨Nat.zero_le _, Nat.zero_le _⟩) hS (fun v_662 I_656 R_657 J_658 AI_659 AJ_660 AR_661 H locs zv_662 hp_663 hH hS => ?_)
                    dsimp only at hp_663
                    obtain ⟨r_664, er_664⟩ : ∃ qQ : pR, qQ = thn (2, hc, 0) (fun t _ => sNum b nn t) := ⟨_, rfl⟩
                    rw [← er_664] at hp_663
                    obtain ⟨rfl, rfl, rfl, rfl, hv, pfq, q_665, q_666, hQ, q_667⟩ := hp_663
                    have pf := qF_t pf pfq
                    have u_668_2 : (I_656 mo 2).toInt = (I mo 2).toInt := by rw [pf 2 (by decide) (by decide) (by decide) (by decide) (by decide)]
                    have u_668_5 : (I_656 mo 5).toInt = (I mo 5).toInt := by rw [pf 5 (by decide) (by decide) (by decide) (by decide) (by decide)]
                    have u_668_14 : (I_656 mo 14).toInt = (I mo 14).toInt := by rw [pf 14 (by decide) (by decide) (by decide) (by decide) (by decide)]
                    have u_668_16 : (I_656 mo 16).toInt = (I mo 16).toInt := by rw [pf 16 (by decide) (by decide) (by decide) (by decide) (by decide)]
                    have u_668_18 : (I_656 mo 18).toInt = (I mo 18).toInt := by rw [pf 18 (by decide) (by decide) (by decide) (by decide) (by decide)]
                    rw [thn_b (by omega)] at er_664
                    have hQ : mQ gh I_656 J_658 AI_3 AJ mo b nn nr nt cc 2 hc := by rw [er_664] at hQ; exact hQ
                    replace q_666 := hid q_666
                    refine z_iconst F dX7_termsTold_80 ?_
                    refine z_iconst F dX7_termsTold_81 ?_
                    have b_669 := mJ hv hm
                    unfold mNum1 at b_669
                    refine g_callv (g_runV (As := [.int (iI (fm + n)), .int (iI ((-1))), .int (iI v_662), .int (iI 0), .int (iI 0)]) (rest := []) (ci := 7) F hl.1 hH hS hz (c_X7_setsPart l g gh T M I_656 R J_658 AI_3 AJ AR mo (fm + n) (-1) v_662 0 0 ⟨by omega, by omega⟩ ⟨by decide, by decide⟩ zv_662 ⟨by decide, by decide⟩ ⟨by decide, by decide⟩ hv hm hT (by omega) (by omega) (by omega)) (cwV 5 F.2.2.2.2.1 (good_up gT_X7_setsPart) rfl rfl rfl hdX7_setsPart ⟨Nat.le_of_ble_eq_true rfl, Nat.le_of_ble_eq_true rfl⟩) hm (by decide) rfl rfl rfl (Nat.le_of_ble_eq_true rfl) dX7_termsTold_82 ⟨Nat.zero_le _, Nat.zero_le _⟩) hS (fun I_670 R_671 J_672 AI_673 AJ_674 AR_675 H locs hp_676 hH hS => ?_)
                    dsimp only at hp_676
                    obtain ⟨rfl, rfl, rfl, rfl, rfl, hv, hT, hsp⟩ := hp_676
                    replace hsp := hid hsp
                    have hQ : mQ gh I_656 J_658 AI_673 AJ mo b nn nr nt cc 2 hc := mQ_bad hQ (by omega) rfl
                    refine z_goto (tgt := 158) F dX7_termsTold_85 (by decide) ?_
                    refine z_iinc (lv' := [(3, .int (iI (n + 1))), (4, .int (iI mr)), (0, .ref mo), (1, .int (iI bl)), (2, .int (iI fm))]) F dX7_termsTold_158 hl (k := 1) rfl (by decide) rfl (fun ls hl => ?_)
                    have hTs : sTerm b nn bl n hc = (2, hc, 0) := pE2 (sTerm_x (by omega) (pCf_n2 (by omega) (by omega))) (by omega) (by omega)
                    have hS9 : sTerms b nn bl 5 0 h = (2, hc, 0) := sTerms_no hsq (f := (4 - n).toNat) (by omega) hTs.symm (by omega)
                    have hfin : thn (f, h, 0) (fun t _ => sTerms b nn bl 5 0 t) = (2, hc, 0) := (thn_k q0).trans hS9
                    exact cut_161_10 (n + 1) I_656 J_658 AI_673 H locs ls ⟨by omega, by omega⟩ hv hT pf ⟨_, _, by omega, hQ, hfin⟩ (by omega) (by omega) hH hS (lv_sub hl [1, 0, 2, 3, 4] rfl)
    exact cut_5_3 (((6 - 0) + 1 : Int).toNat) 0 1 I J AI H locs ls ⟨by decide, by decide⟩ ⟨by decide, by decide⟩ hv hT pf (by omega) ((fun _ => ⟨by omega, fun k a b => absurd b (by omega), trF_r⟩)) ⟨_, hQ, rfl⟩ (by omega) (by omega) hH hS (lv_sub hl [0, 1, 2, 3, 4] rfl)
  · have hf1 := mQ_f hQ q0
    refine z_iconst F dX7_termsTold_0 ?_
    refine lv_istore_n (lv' := [(3, .int (iI 0)), (0, .ref mo), (1, .int (iI bl)), (2, .int (iI fm))]) F.1 F.2.1 dX7_termsTold_1 rfl hl (by decide) rfl (fun ls hl => ?_)
    refine z_iconst F dX7_termsTold_2 ?_
    refine lv_istore (lv' := [(4, .int (iI 1)), (3, .int (iI 0)), (0, .ref mo), (1, .int (iI bl)), (2, .int (iI fm))]) F.1 F.2.1 dX7_termsTold_3 hl (by decide) rfl (fun ls hl => ?_)
    refine lv_iload F.1 F.2.1 dX7_termsTold_5 (lv_at hl 0 rfl) ?_
    refine z_if_eq (tgt := 181) F dX7_termsTold_7 (by decide) ⟨by decide, by decide⟩ (fun c_677 => ?_) (fun c_677 => ?_)
    · exact absurd trivial (by omega)
    · refine lv_aload_n F.1 F.2.1 dX7_termsTold_10 rfl (lv_at hl 2 rfl) ?_
      refine g_getI (ci := 7) (k := 24) F hH rfl (by decide) iX7 hm (by decide) rfl k81 dX7_termsTold_11 ?_
      have b_678 := mJ hv hm
      unfold mNum1 at b_678
      refine z_if_ne (tgt := 181) F dX7_termsTold_14 (by decide) (zr_t _) (fun c_679 => ?_) (fun c_679 => ?_)
      · refine lv_iload_n F.1 F.2.1 dX7_termsTold_181 rfl (lv_at hl 1 rfl) ?_
        have hfin : thn (f, h, 0) (fun t _ => sTerms b nn bl 5 0 t) = (f, h, 0) := thn_b q0
        exact g_iret F hr hlk hH hS hz ⟨by decide, by decide⟩ ⟨rfl, rfl, rfl, hv, hT, pf, by first | (dsimp only; omega) | omega | rfl, by first | (dsimp only; omega) | omega | rfl, by (try dsimp only); exact (fun hf => absurd hf (by omega)), by (try dsimp only); rw [hfin]; exact hQ, by (try dsimp only); rw [hfin]; exact pIm_n (by omega)⟩ dX7_termsTold_182
      · exact absurd (mQ_z hQ (by omega)) (by omega)

def rmX7_projectToldf : Room := { frames := 8, cells := 0, slots := 0, locals := 170 }
set_option maxHeartbeats 4000000 in
set_option maxRecDepth 100000 in
/-- a projection told -/
theorem c_X7_projectToldf (l : Launch) (g : gG) (gh : gGh) (T : Nat → Int32) (M : Int) (b : tTx) (nn nr : Nat) (nt : Nat → Nat) (cc : Nat → Int) (f : Int) (h : Nat) (I : gI) (R : gR) (J : gJ) (AI : gI) (AJ : gJ) (AR : gR) (mo : Nat) (hv : mInv g gh R I AI) (hm : gO g mo 7) (hT : AI (gh 50 0) = T) (hE : (I mo 20).toInt ≤ 936) (hM : (I mo 24).toInt = 0 → (I mo 5).toInt ≤ 15) (hMM : (I mo 5).toInt = M) (h65 : gh 9 (gh 65 0) ≠ 5) (hbM : ∀ k : Nat, k < nn → ((gM g).2 (gh 65 0) k).toInt = b k % 256) (hr7 : ∀ k : Nat, -128 ≤ b k ∧ b k ≤ 127) (hsz : (I mo 18).toInt = (nn : Int)) (hn9 : nn ≤ 900) (hm5 : (I mo 5).toInt = (nr : Int)) (hQ : mQ gh I J AI AJ mo b nn nr nt cc f h) : gMet l g yX7_projectTold tsX7_projectTold rmX7_projectToldf [.ref mo] (I, R, J, AI, AJ, AR) (gQv g (fun w : gS => R = w.2.1 ∧ AJ = w.2.2.2.2.1 ∧ AR = w.2.2.2.2.2 ∧ (mInv g gh R (w.1) (w.2.2.2.1)) ∧ ((w.2.2.2.1) (gh 50 0) = T) ∧ (qF mo I (w.1)) ∧ (((w.1) mo 20).toInt ≤ 936 ∧ (I mo 24).toInt ≤ ((w.1) mo 24).toInt) ∧ (((w.1) mo 24).toInt = 0 → ((w.1) mo 21).toInt = 4 → ((w.1) mo 23).toInt = 59 → rowOK ((w.2.2.2.1) (gh 53 0)) M) ∧ (((w.1) mo 24).toInt = 0 → tI ((w.2.2.2.1) (gh 53 0)) (40 * M) = 2) ∧ (mQ gh (w.1) (w.2.2.1) (w.2.2.2.1) AJ mo b nn nr nt cc (thn (f, h, 0) (fun t _ => sPrj b nn nr nt cc t)).1 (thn (f, h, 0) (fun t _ => sPrj b nn nr nt cc t)).2.1) ∧ (pIc (thn (f, h, 0) (fun t _ => sPrj b nn nr nt cc t)).1 (pK b nn (thn (f, h, 0) (fun t _ => sPrj b nn nr nt cc t)).2.1) (tI ((w.2.2.2.1) (gh 53 0)) (40 * (nr : Int) + 1)) (thn (f, h, 0) (fun t _ => sPrj b nn nr nt cc t)).2.2))) := by
  refine gStart (cc := cX7_projectTold) (maxL := 3) (ret := none) (by decide) rfl (Nat.le_of_ble_eq_true rfl) ?_
  intro p e s m below meth c ls F hr hlk hH hz hS hl
  have hl : lv_has ls 3 [(0, .ref mo)] := hl
  have hS : va_S (gA g) s.heap s.heap [] := hS
  obtain ⟨H, hHe⟩ : ∃ H : Heap, H = s.heap := ⟨_, rfl⟩
  obtain ⟨locs, hlo⟩ : ∃ k : List Loc, k = [] := ⟨_, rfl⟩
  have hH : gH g I R J AI AJ AR H := by rw [hHe]; exact hH
  have hS : va_S (gA g) s.heap H locs := by rw [hHe, hlo]; exact hS
  suffices hw : W p l e rmX7_projectToldf s m ([.ref mo] : List Value).toArray below meth c H locs 0 0 (MQ below (gQv g (fun w : gS => R = w.2.1 ∧ AJ = w.2.2.2.2.1 ∧ AR = w.2.2.2.2.2 ∧ (mInv g gh R (w.1) (w.2.2.2.1)) ∧ ((w.2.2.2.1) (gh 50 0) = T) ∧ (qF mo I (w.1)) ∧ (((w.1) mo 20).toInt ≤ 936 ∧ (I mo 24).toInt ≤ ((w.1) mo 24).toInt) ∧ (((w.1) mo 24).toInt = 0 → ((w.1) mo 21).toInt = 4 → ((w.1) mo 23).toInt = 59 → rowOK ((w.2.2.2.1) (gh 53 0)) M) ∧ (((w.1) mo 24).toInt = 0 → tI ((w.2.2.2.1) (gh 53 0)) (40 * M) = 2) ∧ (mQ gh (w.1) (w.2.2.1) (w.2.2.2.1) AJ mo b nn nr nt cc (thn (f, h, 0) (fun t _ => sPrj b nn nr nt cc t)).1 (thn (f, h, 0) (fun t _ => sPrj b nn nr nt cc t)).2.1) ∧ (pIc (thn (f, h, 0) (fun t _ => sPrj b nn nr nt cc t)).1 (pK b nn (thn (f, h, 0) (fun t _ => sPrj b nn nr nt cc t)).2.1) (tI ((w.2.2.2.1) (gh 53 0)) (40 * (nr : Int) + 1)) (thn (f, h, 0) (fun t _ => sPrj b nn nr nt cc t)).2.2))) ([.ref mo] : List Value).toArray s 0 0 (gA g)) (F0 m 0 ls []) by
    rw [hHe, hlo] at hw; exact hw
  clear hHe hlo
  have pf : qF mo I I := qF_r
  have hb0 := mJ hv hm
  unfold mNum1 at hb0
  have hf0 := mQ_p hQ
  by_cases q0 : f = 0
  · have hQ := mQ_ok hQ q0
    have hz0 := mQ_0 hQ rfl
    refine lv_aload_n F.1 F.2.1 dX7_projectTold_0 rfl (lv_at hl 0 rfl) ?_
    have b_1 := mJ hv hm
    unfold mNum1 at b_1
    refine g_calli (g_runV (As := []) (rest := []) (ci := 7) F hl.1 hH hS hz (c_X7_relationf l g gh T b nn nr nt cc 0 h I R J AI AJ AR mo hv hm hT (by omega) h65 hbM hr7 (by omega) hn9 (by omega) hQ) (cwV 0 F.2.2.2.2.1 (good_up gT_X7_relation) rfl rfl rfl hdX7_relation ⟨Nat.le_of_ble_eq_true rfl, Nat.le_of_ble_eq_true rfl⟩) hm (by decide) rfl rfl rfl (Nat.le_of_ble_eq_true rfl) dX7_projectTold_1 ⟨Nat.zero_le _, Nat.zero_le _⟩) hS (fun v_8 I_2 R_3 J_4 AI_5 AJ_6 AR_7 H locs zv_8 hp_9 hH hS => ?_)
    dsimp only at hp_9
    obtain ⟨r_10, er_10⟩ : ∃ qQ : pR, qQ = thn (0, h, 0) (fun t _ => sRl b nn nr nt cc t) := ⟨_, rfl⟩
    rw [← er_10] at hp_9
    obtain ⟨rfl, rfl, rfl, rfl, hv, pfq, q_11, q_12, hQ, q_13⟩ := hp_9
    have pf := qF_t pf pfq
    have u_14_2 : (I_2 mo 2).toInt = (I mo 2).toInt := by rw [pf 2 (by decide) (by decide) (by decide) (by decide) (by decide)]
    have u_14_5 : (I_2 mo 5).toInt = (I mo 5).toInt := by rw [pf 5 (by decide) (by decide) (by decide) (by decide) (by decide)]
    have u_14_14 : (I_2 mo 14).toInt = (I mo 14).toInt := by rw [pf 14 (by decide) (by decide) (by decide) (by decide) (by decide)]
    have u_14_16 : (I_2 mo 16).toInt = (I mo 16).toInt := by rw [pf 16 (by decide) (by decide) (by decide) (by decide) (by decide)]
    have u_14_18 : (I_2 mo 18).toInt = (I mo 18).toInt := by rw [pf 18 (by decide) (by decide) (by decide) (by decide) (by decide)]
    have er_10 : r_10 = sRl b nn nr nt cc h := er_10
    have sr_10 := er_10
    rcases sRl_c er_10 with ⟨er_10, pr_10⟩ | ⟨er_10, pr_10⟩
    · have hQ : mQ gh I_2 J_4 AI AJ mo b nn nr nt cc 0 (h + 1) := by rw [er_10] at hQ; exact hQ
      have sr_10 : sRl b nn nr nt cc h = (0, h + 1, cF b nn nr nt cc h) := sr_10.symm.trans er_10
      have vlr_10 := q_13 (by rw [er_10])
      try rw [er_10] at vlr_10
      try dsimp only at vlr_10
      replace q_12 := (⟨q_12.1, q_12.2.1, q_12.2.2 (mQ_0 hQ rfl)⟩ : _ ∧ _ ∧ _)
      obtain ⟨f0, ef0⟩ : ∃ q, q = (I_2 mo 24).toInt := ⟨_, rfl⟩
      have hr1 : Hid (f0 = 0 → v_8 < M) := fun h9 => by omega
      refine lv_istore_n (lv' := [(1, .int (iI v_8)), (0, .ref mo)]) F.1 F.2.1 dX7_projectTold_4 rfl hl (by decide) rfl (fun ls hl => ?_)
      refine lv_aload_n F.1 F.2.1 dX7_projectTold_5 rfl (lv_at hl 1 rfl) ?_
      refine lv_aload_n F.1 F.2.1 dX7_projectTold_6 rfl (lv_at hl 1 rfl) ?_
      refine lv_iload_n F.1 F.2.1 dX7_projectTold_7 rfl (lv_at hl 0 rfl) ?_
      have b_16 := mJ hv hm
      unfold mNum1 at b_16
      refine g_calli (g_runV (As := [.int (iI v_8)]) (rest := [.ref mo]) (ci := 7) F hl.1 hH hS hz (c_X7_columns l g gh T I_2 R J_4 AI AJ AR mo v_8 zv_8 hv hm hT (by omega)) (cwV 1 F.2.2.2.2.1 (good_up gT_X7_columns) rfl rfl rfl hdX7_columns ⟨Nat.le_of_ble_eq_true rfl, Nat.le_of_ble_eq_true rfl⟩) hm (by decide) rfl rfl rfl (Nat.le_of_ble_eq_true rfl) dX7_projectTold_8 ⟨Nat.zero_le _, Nat.zero_le _⟩) hS (fun v_23 I_17 R_18 J_19 AI_20 AJ_21 AR_22 H locs zv_23 hp_24 hH hS => ?_)
      dsimp only at hp_24
      obtain ⟨rfl, rfl, rfl, rfl, rfl, rfl, q_15⟩ := hp_24
      have cvv_23 : v_23 = cF b nn nr nt cc h := q_15.trans ((mQ_c hQ rfl vlr_10.1 vlr_10.2.1).trans vlr_10.2.2)
      refine z_iconst F dX7_projectTold_11 ?_
      refine g_calli (g_runV (As := [.int (iI v_23), .int (iI 0)]) (rest := []) (ci := 7) F hl.1 hH hS hz (c_X7_termsToldf l g gh T M b nn nr nt cc 0 (h + 1) I_2 R J_4 AI AJ AR mo v_23 0 zv_23 ⟨by decide, by decide⟩ hv hm hT (by omega) (by omega) (by omega) (by omega) h65 hbM hr7 (by omega) hn9 (by omega) hQ) (cwV 2 F.2.2.2.2.1 (good_up gT_X7_termsTold) rfl rfl rfl hdX7_termsTold ⟨Nat.le_of_ble_eq_true rfl, Nat.le_of_ble_eq_true rfl⟩) hm (by decide) rfl rfl rfl (Nat.le_of_ble_eq_true rfl) dX7_projectTold_12 ⟨Nat.zero_le _, Nat.zero_le _⟩) hS (fun v_31 I_25 R_26 J_27 AI_28 AJ_29 AR_30 H locs zv_31 hp_32 hH hS => ?_)
      dsimp only at hp_32
      rw [show v_23 = cF b nn nr nt cc h by omega] at hp_32
      obtain ⟨r_33, er_33⟩ : ∃ qQ : pR, qQ = thn (0, (h + 1), 0) (fun t _ => sTerms b nn (cF b nn nr nt cc h) 5 0 t) := ⟨_, rfl⟩
      rw [← er_33] at hp_32
      obtain ⟨rfl, rfl, rfl, hv, hT, pfq, q_34, q_35, htt, hQ, q_36⟩ := hp_32
      have pf := qF_t pf pfq
      have u_37_2 : (I_25 mo 2).toInt = (I mo 2).toInt := by rw [pf 2 (by decide) (by decide) (by decide) (by decide) (by decide)]
      have u_37_5 : (I_25 mo 5).toInt = (I mo 5).toInt := by rw [pf 5 (by decide) (by decide) (by decide) (by decide) (by decide)]
      have u_37_14 : (I_25 mo 14).toInt = (I mo 14).toInt := by rw [pf 14 (by decide) (by decide) (by decide) (by decide) (by decide)]
      have u_37_16 : (I_25 mo 16).toInt = (I mo 16).toInt := by rw [pf 16 (by decide) (by decide) (by decide) (by decide) (by decide)]
      have u_37_18 : (I_25 mo 18).toInt = (I mo 18).toInt := by rw [pf 18 (by decide) (by decide) (by decide) (by decide) (by decide)]
      have er_33 : r_33 = sTerms b nn (cF b nn nr nt cc h) 5 0 (h + 1) := er_33
      by_cases pr_33 : r_33.1 = 0
      · have hQ := mQ_ok hQ pr_33
        have vlr_33_7 := q_36 pr_33
        replace htt := hid htt
        refine lv_istore_n (lv' := [(2, .int (iI v_31)), (1, .int (iI v_8)), (0, .ref mo)]) F.1 F.2.1 dX7_projectTold_15 rfl hl (by decide) rfl (fun ls hl => ?_)
        refine lv_aload_n F.1 F.2.1 dX7_projectTold_16 rfl (lv_at hl 2 rfl) ?_
        refine z_iconst F dX7_projectTold_17 ?_
        refine lv_iload_n F.1 F.2.1 dX7_projectTold_18 rfl (lv_at hl 0 rfl) ?_
        refine lv_iload_n F.1 F.2.1 dX7_projectTold_19 rfl (lv_at hl 1 rfl) ?_
        refine z_iconst F dX7_projectTold_20 ?_
        refine lv_iload_n F.1 F.2.1 dX7_projectTold_21 rfl (lv_at hl 0 rfl) ?_
        have b_38 := mJ hv hm
        unfold mNum1 at b_38
        refine g_callv (g_runV (As := [.int (iI 2), .int (iI v_31), .int (iI v_8), .int (iI ((-1))), .int (iI v_31)]) (rest := []) (ci := 7) F hl.1 hH hS hz (c_X7_header l g gh T M I_25 R J_27 AI_28 AJ AR mo 2 v_31 v_8 (-1) v_31 ⟨by decide, by decide⟩ zv_31 zv_8 ⟨by decide, by decide⟩ zv_31 hv hm hT (by omega) (by omega)) (cwV 5 F.2.2.2.2.1 (good_up gT_X7_header) rfl rfl rfl hdX7_header ⟨Nat.le_of_ble_eq_true rfl, Nat.le_of_ble_eq_true rfl⟩) hm (by decide) rfl rfl rfl (Nat.le_of_ble_eq_true rfl) dX7_projectTold_22 ⟨Nat.zero_le _, Nat.zero_le _⟩) hS (fun I_39 R_40 J_41 AI_42 AJ_43 AR_44 H locs hp_45 hH hS => ?_)
        dsimp only at hp_45
        obtain ⟨rfl, rfl, rfl, rfl, rfl, hv, hT, hhd⟩ := hp_45
        replace hhd := hid hhd
        have hQ : mQ gh I_25 J_27 AI_42 AJ mo b nn nr nt cc 0 r_33.2.1 := mQ_a hQ (fun hf9 z9 h09 h19 => (hhd hf9).1 z9 h09 (Or.inl (by omega)))
        have hfin : thn (f, h, 0) (fun t _ => sPrj b nn nr nt cc t) = (0, r_33.2.1, r_33.2.2) := by
          refine (thn_k q0).trans ?_
          show sPrj b nn nr nt cc h = _
          unfold sPrj
          repeat (first | with_reducible rfl | refine ite_y (by omega) ?_ | refine ite_n (by omega) ?_ | refine thn_t sr_10 (by first | rfl | omega) ?_ | exact (thn_x sr_10.symm (by omega)).trans (pr_e (by omega) (by omega) (by omega)) | exact er_33.symm.trans (pr_x pr_33) | refine thn_y (r := r_33) (by first | exact er_33 | exact er_33.symm) (by first | omega | rfl) ?_ | exact pr_e (by omega) (by omega) (by omega) | refine ite_y (pCf_ok (by omega) (by omega)) ?_ | refine ite_n (fun e9 => absurd (pCf_0 e9) (by omega)) ?_ | exact pr_e (pCf_no (by omega)) (by omega) (by omega) | exact pr_e (pCf_big (by omega) (by omega)) (by omega) (by omega))
        exact g_vret F hr hlk hH hS hz ⟨rfl, rfl, rfl, hv, hT, pf, by first | (dsimp only; omega) | omega | rfl, by (try dsimp only); intro hf ht hn; have q9 := htt (by omega); exact row_mk (by omega) (hhd (by omega)) (by omega) (by omega) (by omega) (by omega) (fun h => absurd h (by omega)) (fun h => absurd h (by omega)) (fun _ => ⟨by omega, q9.2.2.1⟩) (fun h => absurd h (by omega)) (fun h => absurd h (by omega)) (fun h => absurd h (by omega)) (fun h => absurd h (by omega)), by (try dsimp only); intro hf; exact (hhd (by omega)).2.1, by (try dsimp only); rw [hfin]; exact hQ, by (try dsimp only); rw [hfin]; have q9 := (hhd (mQ_0 hQ rfl)).2.2.1; rw [show M = (nr : Int) by omega] at q9; (try dsimp only); exact pIc_y (by omega)⟩ dX7_projectTold_25
      · have g9r_33 := mQ_f hQ pr_33
        have g8r_33 := mQ_p hQ
        replace htt := hid htt
        refine lv_istore_n (lv' := [(2, .int (iI v_31)), (1, .int (iI v_8)), (0, .ref mo)]) F.1 F.2.1 dX7_projectTold_15 rfl hl (by decide) rfl (fun ls hl => ?_)
        refine lv_aload_n F.1 F.2.1 dX7_projectTold_16 rfl (lv_at hl 2 rfl) ?_
        refine z_iconst F dX7_projectTold_17 ?_
        refine lv_iload_n F.1 F.2.1 dX7_projectTold_18 rfl (lv_at hl 0 rfl) ?_
        refine lv_iload_n F.1 F.2.1 dX7_projectTold_19 rfl (lv_at hl 1 rfl) ?_
        refine z_iconst F dX7_projectTold_20 ?_
        refine lv_iload_n F.1 F.2.1 dX7_projectTold_21 rfl (lv_at hl 0 rfl) ?_
        have b_46 := mJ hv hm
        unfold mNum1 at b_46
        refine g_callv (g_runV (As := [.int (iI 2), .int (iI v_31), .int (iI v_8), .int (iI ((-1))), .int (iI v_31)]) (rest := []) (ci := 7) F hl.1 hH hS hz (c_X7_header l g gh T M I_25 R J_27 AI_28 AJ AR mo 2 v_31 v_8 (-1) v_31 ⟨by decide, by decide⟩ zv_31 zv_8 ⟨by decide, by decide⟩ zv_31 hv hm hT (by omega) (by omega)) (cwV 5 F.2.2.2.2.1 (good_up gT_X7_header) rfl rfl rfl hdX7_header ⟨Nat.le_of_ble_eq_true rfl, Nat.le_of_ble_eq_true rfl⟩) hm (by decide) rfl rfl rfl (Nat.le_of_ble_eq_true rfl) dX7_projectTold_22 ⟨Nat.zero_le _, Nat.zero_le _⟩) hS (fun I_47 R_48 J_49 AI_50 AJ_51 AR_52 H locs hp_53 hH hS => ?_)
        dsimp only at hp_53
        obtain ⟨rfl, rfl, rfl, rfl, rfl, hv, hT, hhd⟩ := hp_53
        replace hhd := hid hhd
        have hQ : mQ gh I_25 J_27 AI_50 AJ mo b nn nr nt cc r_33.1 r_33.2.1 := mQ_bad hQ (by omega) rfl
        have hfin : thn (f, h, 0) (fun t _ => sPrj b nn nr nt cc t) = r_33 := by
          refine (thn_k q0).trans ?_
          show sPrj b nn nr nt cc h = _
          unfold sPrj
          repeat (first | with_reducible rfl | refine ite_y (by omega) ?_ | refine ite_n (by omega) ?_ | exact er_33.symm | exact thn_x er_33 (by omega) | refine thn_t sr_10 (by first | rfl | omega) ?_ | exact (thn_x sr_10.symm (by omega)).trans (pr_e (by omega) (by omega) (by omega)) | exact pr_e (by omega) (by omega) (by omega) | refine ite_y (pCf_ok (by omega) (by omega)) ?_ | refine ite_n (fun e9 => absurd (pCf_0 e9) (by omega)) ?_ | exact pr_e (pCf_no (by omega)) (by omega) (by omega) | exact pr_e (pCf_big (by omega) (by omega)) (by omega) (by omega))
        exact g_vret F hr hlk hH hS hz ⟨rfl, rfl, rfl, hv, hT, pf, by first | (dsimp only; omega) | omega | rfl, by (try dsimp only); exact (fun hf => absurd hf (by omega)), by (try dsimp only); exact (fun hf => absurd hf (by omega)), by (try dsimp only); rw [hfin]; exact hQ, by (try dsimp only); rw [hfin]; exact pIc_n (by omega)⟩ dX7_projectTold_25
    · have hQ : mQ gh I_2 J_4 AI AJ mo b nn nr nt cc (pRf b nn nt nr h) h := by rw [er_10] at hQ; exact hQ
      have sr_10 := sr_10.symm.trans er_10
      have g9r_10 := mQ_f hQ (by omega)
      replace q_12 := (⟨q_12.1, q_12.2.1⟩ : _ ∧ _)
      obtain ⟨f0, ef0⟩ : ∃ q, q = (I_2 mo 24).toInt := ⟨_, rfl⟩
      have hr1 : Hid (f0 = 0 → v_8 < M) := fun h9 => by omega
      refine lv_istore_n (lv' := [(1, .int (iI v_8)), (0, .ref mo)]) F.1 F.2.1 dX7_projectTold_4 rfl hl (by decide) rfl (fun ls hl => ?_)
      refine lv_aload_n F.1 F.2.1 dX7_projectTold_5 rfl (lv_at hl 1 rfl) ?_
      refine lv_aload_n F.1 F.2.1 dX7_projectTold_6 rfl (lv_at hl 1 rfl) ?_
      refine lv_iload_n F.1 F.2.1 dX7_projectTold_7 rfl (lv_at hl 0 rfl) ?_
      have b_55 := mJ hv hm
      unfold mNum1 at b_55
      refine g_calli (g_runV (As := [.int (iI v_8)]) (rest := [.ref mo]) (ci := 7) F hl.1 hH hS hz (c_X7_columns l g gh T I_2 R J_4 AI AJ AR mo v_8 zv_8 hv hm hT (by omega)) (cwV 1 F.2.2.2.2.1 (good_up gT_X7_columns) rfl rfl rfl hdX7_columns ⟨Nat.le_of_ble_eq_true rfl, Nat.le_of_ble_eq_true rfl⟩) hm (by decide) rfl rfl rfl (Nat.le_of_ble_eq_true rfl) dX7_projectTold_8 ⟨Nat.zero_le _, Nat.zero_le _⟩) hS (fun v_62 I_56 R_57 J_58 AI_59 AJ_60 AR_61 H locs zv_62 hp_63 hH hS => ?_)
      dsimp only at hp_63
      obtain ⟨rfl, rfl, rfl, rfl, rfl, rfl, q_54⟩ := hp_63
      refine z_iconst F dX7_projectTold_11 ?_
      refine g_calli (g_runV (As := [.int (iI v_62), .int (iI 0)]) (rest := []) (ci := 7) F hl.1 hH hS hz (c_X7_termsToldf l g gh T M b nn nr nt cc (pRf b nn nt nr h) h I_2 R J_4 AI AJ AR mo v_62 0 zv_62 ⟨by decide, by decide⟩ hv hm hT (by omega) (by omega) (by omega) (by omega) h65 hbM hr7 (by omega) hn9 (by omega) hQ) (cwV 2 F.2.2.2.2.1 (good_up gT_X7_termsTold) rfl rfl rfl hdX7_termsTold ⟨Nat.le_of_ble_eq_true rfl, Nat.le_of_ble_eq_true rfl⟩) hm (by decide) rfl rfl rfl (Nat.le_of_ble_eq_true rfl) dX7_projectTold_12 ⟨Nat.zero_le _, Nat.zero_le _⟩) hS (fun v_70 I_64 R_65 J_66 AI_67 AJ_68 AR_69 H locs zv_70 hp_71 hH hS => ?_)
      dsimp only at hp_71
      obtain ⟨r_72, er_72⟩ : ∃ qQ : pR, qQ = thn ((pRf b nn nt nr h), h, 0) (fun t _ => sTerms b nn v_62 5 0 t) := ⟨_, rfl⟩
      rw [← er_72] at hp_71
      obtain ⟨rfl, rfl, rfl, hv, hT, pfq, q_73, q_74, htt, hQ, q_75⟩ := hp_71
      have pf := qF_t pf pfq
      have u_76_2 : (I_64 mo 2).toInt = (I mo 2).toInt := by rw [pf 2 (by decide) (by decide) (by decide) (by decide) (by decide)]
      have u_76_5 : (I_64 mo 5).toInt = (I mo 5).toInt := by rw [pf 5 (by decide) (by decide) (by decide) (by decide) (by decide)]
      have u_76_14 : (I_64 mo 14).toInt = (I mo 14).toInt := by rw [pf 14 (by decide) (by decide) (by decide) (by decide) (by decide)]
      have u_76_16 : (I_64 mo 16).toInt = (I mo 16).toInt := by rw [pf 16 (by decide) (by decide) (by decide) (by decide) (by decide)]
      have u_76_18 : (I_64 mo 18).toInt = (I mo 18).toInt := by rw [pf 18 (by decide) (by decide) (by decide) (by decide) (by decide)]
      rw [thn_b (by omega)] at er_72
      have hQ : mQ gh I_64 J_66 AI_67 AJ mo b nn nr nt cc (pRf b nn nt nr h) h := by rw [er_72] at hQ; exact hQ
      replace htt := hid htt
      refine lv_istore_n (lv' := [(2, .int (iI v_70)), (1, .int (iI v_8)), (0, .ref mo)]) F.1 F.2.1 dX7_projectTold_15 rfl hl (by decide) rfl (fun ls hl => ?_)
      refine lv_aload_n F.1 F.2.1 dX7_projectTold_16 rfl (lv_at hl 2 rfl) ?_
      refine z_iconst F dX7_projectTold_17 ?_
      refine lv_iload_n F.1 F.2.1 dX7_projectTold_18 rfl (lv_at hl 0 rfl) ?_
      refine lv_iload_n F.1 F.2.1 dX7_projectTold_19 rfl (lv_at hl 1 rfl) ?_
      refine z_iconst F dX7_projectTold_20 ?_
      refine lv_iload_n F.1 F.2.1 dX7_projectTold_21 rfl (lv_at hl 0 rfl) ?_
      have b_77 := mJ hv hm
      unfold mNum1 at b_77
      refine g_callv (g_runV (As := [.int (iI 2), .int (iI v_70), .int (iI v_8), .int (iI ((-1))), .int (iI v_70)]) (rest := []) (ci := 7) F hl.1 hH hS hz (c_X7_header l g gh T M I_64 R J_66 AI_67 AJ AR mo 2 v_70 v_8 (-1) v_70 ⟨by decide, by decide⟩ zv_70 zv_8 ⟨by decide, by decide⟩ zv_70 hv hm hT (by omega) (by omega)) (cwV 5 F.2.2.2.2.1 (good_up gT_X7_header) rfl rfl rfl hdX7_header ⟨Nat.le_of_ble_eq_true rfl, Nat.le_of_ble_eq_true rfl⟩) hm (by decide) rfl rfl rfl (Nat.le_of_ble_eq_true rfl) dX7_projectTold_22 ⟨Nat.zero_le _, Nat.zero_le _⟩) hS (fun I_78 R_79 J_80 AI_81 AJ_82 AR_83 H locs hp_84 hH hS => ?_)
      dsimp only at hp_84
      obtain ⟨rfl, rfl, rfl, rfl, rfl, hv, hT, hhd⟩ := hp_84
      replace hhd := hid hhd
      have hQ : mQ gh I_64 J_66 AI_81 AJ mo b nn nr nt cc (pRf b nn nt nr h) h := mQ_bad hQ (by omega) rfl
      have hfin : thn (f, h, 0) (fun t _ => sPrj b nn nr nt cc t) = (pRf b nn nt nr h, h, 0) := by
        refine (thn_k q0).trans ?_
        show sPrj b nn nr nt cc h = _
        unfold sPrj
        repeat (first | with_reducible rfl | refine ite_y (by omega) ?_ | refine ite_n (by omega) ?_ | refine thn_t sr_10 (by first | rfl | omega) ?_ | exact (thn_x sr_10.symm (by omega)).trans (pr_e (by omega) (by omega) (by omega)) | exact pr_e (by omega) (by omega) (by omega) | refine ite_y (pCf_ok (by omega) (by omega)) ?_ | refine ite_n (fun e9 => absurd (pCf_0 e9) (by omega)) ?_ | exact pr_e (pCf_no (by omega)) (by omega) (by omega) | exact pr_e (pCf_big (by omega) (by omega)) (by omega) (by omega))
      exact g_vret F hr hlk hH hS hz ⟨rfl, rfl, rfl, hv, hT, pf, by first | (dsimp only; omega) | omega | rfl, by (try dsimp only); exact (fun hf => absurd hf (by omega)), by (try dsimp only); exact (fun hf => absurd hf (by omega)), by (try dsimp only); rw [hfin]; exact hQ, by (try dsimp only); rw [hfin]; exact pIc_n (by omega)⟩ dX7_projectTold_25
  · have hf1 := mQ_f hQ q0
    refine lv_aload_n F.1 F.2.1 dX7_projectTold_0 rfl (lv_at hl 0 rfl) ?_
    have b_85 := mJ hv hm
    unfold mNum1 at b_85
    refine g_calli (g_runV (As := []) (rest := []) (ci := 7) F hl.1 hH hS hz (c_X7_relationf l g gh T b nn nr nt cc f h I R J AI AJ AR mo hv hm hT (by omega) h65 hbM hr7 (by omega) hn9 (by omega) hQ) (cwV 0 F.2.2.2.2.1 (good_up gT_X7_relation) rfl rfl rfl hdX7_relation ⟨Nat.le_of_ble_eq_true rfl, Nat.le_of_ble_eq_true rfl⟩) hm (by decide) rfl rfl rfl (Nat.le_of_ble_eq_true rfl) dX7_projectTold_1 ⟨Nat.zero_le _, Nat.zero_le _⟩) hS (fun v_92 I_86 R_87 J_88 AI_89 AJ_90 AR_91 H locs zv_92 hp_93 hH hS => ?_)
    dsimp only at hp_93
    obtain ⟨r_94, er_94⟩ : ∃ qQ : pR, qQ = thn (f, h, 0) (fun t _ => sRl b nn nr nt cc t) := ⟨_, rfl⟩
    rw [← er_94] at hp_93
    obtain ⟨rfl, rfl, rfl, rfl, hv, pfq, q_95, q_96, hQ, q_97⟩ := hp_93
    have pf := qF_t pf pfq
    have u_98_2 : (I_86 mo 2).toInt = (I mo 2).toInt := by rw [pf 2 (by decide) (by decide) (by decide) (by decide) (by decide)]
    have u_98_5 : (I_86 mo 5).toInt = (I mo 5).toInt := by rw [pf 5 (by decide) (by decide) (by decide) (by decide) (by decide)]
    have u_98_14 : (I_86 mo 14).toInt = (I mo 14).toInt := by rw [pf 14 (by decide) (by decide) (by decide) (by decide) (by decide)]
    have u_98_16 : (I_86 mo 16).toInt = (I mo 16).toInt := by rw [pf 16 (by decide) (by decide) (by decide) (by decide) (by decide)]
    have u_98_18 : (I_86 mo 18).toInt = (I mo 18).toInt := by rw [pf 18 (by decide) (by decide) (by decide) (by decide) (by decide)]
    rw [thn_b (by omega)] at er_94
    have hQ : mQ gh I_86 J_88 AI AJ mo b nn nr nt cc f h := by rw [er_94] at hQ; exact hQ
    replace q_96 := (⟨q_96.1, q_96.2.1⟩ : _ ∧ _)
    obtain ⟨f0, ef0⟩ : ∃ q, q = (I_86 mo 24).toInt := ⟨_, rfl⟩
    have hr1 : Hid (f0 = 0 → v_92 < M) := fun h9 => by omega
    refine lv_istore_n (lv' := [(1, .int (iI v_92)), (0, .ref mo)]) F.1 F.2.1 dX7_projectTold_4 rfl hl (by decide) rfl (fun ls hl => ?_)
    refine lv_aload_n F.1 F.2.1 dX7_projectTold_5 rfl (lv_at hl 1 rfl) ?_
    refine lv_aload_n F.1 F.2.1 dX7_projectTold_6 rfl (lv_at hl 1 rfl) ?_
    refine lv_iload_n F.1 F.2.1 dX7_projectTold_7 rfl (lv_at hl 0 rfl) ?_
    have b_100 := mJ hv hm
    unfold mNum1 at b_100
    refine g_calli (g_runV (As := [.int (iI v_92)]) (rest := [.ref mo]) (ci := 7) F hl.1 hH hS hz (c_X7_columns l g gh T I_86 R J_88 AI AJ AR mo v_92 zv_92 hv hm hT (by omega)) (cwV 1 F.2.2.2.2.1 (good_up gT_X7_columns) rfl rfl rfl hdX7_columns ⟨Nat.le_of_ble_eq_true rfl, Nat.le_of_ble_eq_true rfl⟩) hm (by decide) rfl rfl rfl (Nat.le_of_ble_eq_true rfl) dX7_projectTold_8 ⟨Nat.zero_le _, Nat.zero_le _⟩) hS (fun v_107 I_101 R_102 J_103 AI_104 AJ_105 AR_106 H locs zv_107 hp_108 hH hS => ?_)
    dsimp only at hp_108
    obtain ⟨rfl, rfl, rfl, rfl, rfl, rfl, q_99⟩ := hp_108
    refine z_iconst F dX7_projectTold_11 ?_
    refine g_calli (g_runV (As := [.int (iI v_107), .int (iI 0)]) (rest := []) (ci := 7) F hl.1 hH hS hz (c_X7_termsToldf l g gh T M b nn nr nt cc f h I_86 R J_88 AI AJ AR mo v_107 0 zv_107 ⟨by decide, by decide⟩ hv hm hT (by omega) (by omega) (by omega) (by omega) h65 hbM hr7 (by omega) hn9 (by omega) hQ) (cwV 2 F.2.2.2.2.1 (good_up gT_X7_termsTold) rfl rfl rfl hdX7_termsTold ⟨Nat.le_of_ble_eq_true rfl, Nat.le_of_ble_eq_true rfl⟩) hm (by decide) rfl rfl rfl (Nat.le_of_ble_eq_true rfl) dX7_projectTold_12 ⟨Nat.zero_le _, Nat.zero_le _⟩) hS (fun v_115 I_109 R_110 J_111 AI_112 AJ_113 AR_114 H locs zv_115 hp_116 hH hS => ?_)
    dsimp only at hp_116
    obtain ⟨r_117, er_117⟩ : ∃ qQ : pR, qQ = thn (f, h, 0) (fun t _ => sTerms b nn v_107 5 0 t) := ⟨_, rfl⟩
    rw [← er_117] at hp_116
    obtain ⟨rfl, rfl, rfl, hv, hT, pfq, q_118, q_119, htt, hQ, q_120⟩ := hp_116
    have pf := qF_t pf pfq
    have u_121_2 : (I_109 mo 2).toInt = (I mo 2).toInt := by rw [pf 2 (by decide) (by decide) (by decide) (by decide) (by decide)]
    have u_121_5 : (I_109 mo 5).toInt = (I mo 5).toInt := by rw [pf 5 (by decide) (by decide) (by decide) (by decide) (by decide)]
    have u_121_14 : (I_109 mo 14).toInt = (I mo 14).toInt := by rw [pf 14 (by decide) (by decide) (by decide) (by decide) (by decide)]
    have u_121_16 : (I_109 mo 16).toInt = (I mo 16).toInt := by rw [pf 16 (by decide) (by decide) (by decide) (by decide) (by decide)]
    have u_121_18 : (I_109 mo 18).toInt = (I mo 18).toInt := by rw [pf 18 (by decide) (by decide) (by decide) (by decide) (by decide)]
    rw [thn_b (by omega)] at er_117
    have hQ : mQ gh I_109 J_111 AI_112 AJ mo b nn nr nt cc f h := by rw [er_117] at hQ; exact hQ
    replace htt := hid htt
    refine lv_istore_n (lv' := [(2, .int (iI v_115)), (1, .int (iI v_92)), (0, .ref mo)]) F.1 F.2.1 dX7_projectTold_15 rfl hl (by decide) rfl (fun ls hl => ?_)
    refine lv_aload_n F.1 F.2.1 dX7_projectTold_16 rfl (lv_at hl 2 rfl) ?_
    refine z_iconst F dX7_projectTold_17 ?_
    refine lv_iload_n F.1 F.2.1 dX7_projectTold_18 rfl (lv_at hl 0 rfl) ?_
    refine lv_iload_n F.1 F.2.1 dX7_projectTold_19 rfl (lv_at hl 1 rfl) ?_
    refine z_iconst F dX7_projectTold_20 ?_
    refine lv_iload_n F.1 F.2.1 dX7_projectTold_21 rfl (lv_at hl 0 rfl) ?_
    have b_122 := mJ hv hm
    unfold mNum1 at b_122
    refine g_callv (g_runV (As := [.int (iI 2), .int (iI v_115), .int (iI v_92), .int (iI ((-1))), .int (iI v_115)]) (rest := []) (ci := 7) F hl.1 hH hS hz (c_X7_header l g gh T M I_109 R J_111 AI_112 AJ AR mo 2 v_115 v_92 (-1) v_115 ⟨by decide, by decide⟩ zv_115 zv_92 ⟨by decide, by decide⟩ zv_115 hv hm hT (by omega) (by omega)) (cwV 5 F.2.2.2.2.1 (good_up gT_X7_header) rfl rfl rfl hdX7_header ⟨Nat.le_of_ble_eq_true rfl, Nat.le_of_ble_eq_true rfl⟩) hm (by decide) rfl rfl rfl (Nat.le_of_ble_eq_true rfl) dX7_projectTold_22 ⟨Nat.zero_le _, Nat.zero_le _⟩) hS (fun I_123 R_124 J_125 AI_126 AJ_127 AR_128 H locs hp_129 hH hS => ?_)
    dsimp only at hp_129
    obtain ⟨rfl, rfl, rfl, rfl, rfl, hv, hT, hhd⟩ := hp_129
    replace hhd := hid hhd
    have hQ : mQ gh I_109 J_111 AI_126 AJ mo b nn nr nt cc f h := mQ_bad hQ (by omega) rfl
    have hfin : thn (f, h, 0) (fun t _ => sPrj b nn nr nt cc t) = (f, h, 0) := thn_b q0
    exact g_vret F hr hlk hH hS hz ⟨rfl, rfl, rfl, hv, hT, pf, by first | (dsimp only; omega) | omega | rfl, by (try dsimp only); exact (fun hf => absurd hf (by omega)), by (try dsimp only); exact (fun hf => absurd hf (by omega)), by (try dsimp only); rw [hfin]; exact hQ, by (try dsimp only); rw [hfin]; exact pIc_n (by omega)⟩ dX7_projectTold_25
