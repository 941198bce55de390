def rmX7_wrongf : Room := { frames := 0, cells := 0, slots := 0, locals := 0 }
set_option maxHeartbeats 4000000 in
set_option maxRecDepth 100000 in
/-- a fault -/
theorem c_X7_wrongf (l : Launch) (g : gG) (gh : gGh) (T : Nat → Int32) (b : tTx) (nn nr : Nat) (nt : Nat → Nat) (cc : Nat → Int) (f : Int) (h : Nat) (I : gI) (R : gR) (J : gJ) (AI : gI) (AJ : gJ) (AR : gR) (mo : Nat) (kd : Int) (zkd : zr kd) (hv : mInv g gh R I AI) (hm : gO g mo 7) (hT : AI (gh 50 0) = T) (hk : 1 ≤ kd ∧ kd ≤ 8) (h65 : gh 9 (gh 65 0) ≠ 5) (hbM : ∀ k : Nat, k < nn → ((gM g).2 (gh 65 0) k).toInt = b k % 256) (hr7 : ∀ k : Nat, -128 ≤ b k ∧ b k ≤ 127) (hsz : (I mo 18).toInt = (nn : Int)) (hn9 : nn ≤ 900) (hm5 : (I mo 5).toInt = (nr : Int)) (hQ : mQ gh I J AI AJ mo b nn nr nt cc f h) : gMet l g yX7_wrong tsX7_wrong rmX7_wrongf [.ref mo, .int (iI kd)] (I, R, J, AI, AJ, AR) (gQv g (fun w : gS => R = w.2.1 ∧ J = w.2.2.1 ∧ AI = w.2.2.2.1 ∧ AJ = w.2.2.2.2.1 ∧ AR = w.2.2.2.2.2 ∧ (mInv g gh R (w.1) AI) ∧ (qF mo I (w.1)) ∧ (0 < ((w.1) mo 24).toInt ∧ (I mo 24).toInt ≤ ((w.1) mo 24).toInt ∧ ((w.1) mo 20).toInt = (I mo 20).toInt) ∧ (mQ gh (w.1) J AI AJ mo b nn nr nt cc (thn (f, h, 0) (fun t _ => (kd, t, 0))).1 (thn (f, h, 0) (fun t _ => (kd, t, 0))).2.1))) := by
  refine gStart (cc := cX7_wrong) (maxL := 2) (ret := none) (by decide) rfl (Nat.le_of_ble_eq_true rfl) ?_
  intro p e s m below meth c ls F hr hlk hH hz hS hl
  have hl : lv_has ls 2 [(0, .ref mo), (1, .int (iI kd))] := hl
  have hS : va_S (gA g) s.heap s.heap [] := hS
  obtain ⟨H, hHe⟩ : ∃ H : Heap, H = s.heap := ⟨_, rfl⟩
  obtain ⟨locs, hlo⟩ : ∃ k : List Loc, k = [] := ⟨_, rfl⟩
  have hH : gH g I R J AI AJ AR H := by rw [hHe]; exact hH
  have hS : va_S (gA g) s.heap H locs := by rw [hHe, hlo]; exact hS
  suffices hw : W p l e rmX7_wrongf s m ([.ref mo, .int (iI kd)] : List Value).toArray below meth c H locs 0 0 (MQ below (gQv g (fun w : gS => R = w.2.1 ∧ J = w.2.2.1 ∧ AI = w.2.2.2.1 ∧ AJ = w.2.2.2.2.1 ∧ AR = w.2.2.2.2.2 ∧ (mInv g gh R (w.1) AI) ∧ (qF mo I (w.1)) ∧ (0 < ((w.1) mo 24).toInt ∧ (I mo 24).toInt ≤ ((w.1) mo 24).toInt ∧ ((w.1) mo 20).toInt = (I mo 20).toInt) ∧ (mQ gh (w.1) J AI AJ mo b nn nr nt cc (thn (f, h, 0) (fun t _ => (kd, t, 0))).1 (thn (f, h, 0) (fun t _ => (kd, t, 0))).2.1))) ([.ref mo, .int (iI kd)] : List Value).toArray s 0 0 (gA g)) (F0 m 0 ls []) by
    rw [hHe, hlo] at hw; exact hw
  clear hHe hlo
  have pf : qF mo I I := qF_r
  have iX7 : ∀ w ∈ u_ws RX7 TX7 32, w ∈ tsX7_wrong := fun w h => List.mem_cons_of_mem _ (inTB7 w h)
  have k81 : Cond.fieldLink RX7 81 (TX7 24).1 (TX7 24).2.1 (TX7 24).2.2.1 ∈ tsX7_wrong := List.mem_cons_of_mem _ fl_81
  have k91 : Cond.fieldLink RX7 91 (TX7 19).1 (TX7 19).2.1 (TX7 19).2.2.1 ∈ tsX7_wrong := List.mem_cons_of_mem _ fl_91
  refine lv_aload_n F.1 F.2.1 dX7_wrong_0 rfl (lv_at hl 0 rfl) ?_
  refine g_getI (ci := 7) (k := 24) F hH rfl (by decide) iX7 hm (by decide) rfl k81 dX7_wrong_1 ?_
  have b_1 := mJ hv hm
  unfold mNum1 at b_1
  refine z_if_ne (tgt := 20) F dX7_wrong_4 (by decide) (zr_t _) (fun c_2 => ?_) (fun c_2 => ?_)
  · exact g_vret F hr hlk hH hS hz ⟨rfl, rfl, rfl, rfl, rfl, hv, pf, by first | omega | rfl | (dsimp only; omega), by (try dsimp only); first | (rw [thn_k (mQ_z hQ (by omega))]; exact mQ_wr hQ (mQ_z hQ (by omega)) (by omega) (by omega)) | (rw [thn_b (mQ_nz hQ (by omega))]; exact hQ)⟩ dX7_wrong_20
  · refine lv_aload_n F.1 F.2.1 dX7_wrong_7 rfl (lv_at hl 0 rfl) ?_
    refine z_bipush F dX7_wrong_8 (by decide) ?_
    refine lv_aload_n F.1 F.2.1 dX7_wrong_10 rfl (lv_at hl 0 rfl) ?_
    refine g_getI (ci := 7) (k := 19) F hH rfl (by decide) iX7 hm (by decide) rfl k91 dX7_wrong_11 ?_
    refine z_imul F dX7_wrong_14 ?_
    refine lv_iload_n F.1 F.2.1 dX7_wrong_15 rfl (lv_at hl 1 rfl) ?_
    refine z_iadd F dX7_wrong_16 ?_
    refine g_putI (ci := 7) (k := 24) F hH hS rfl (by decide) iX7 hm (by decide) tyX7 tyX7_ok nmX7 rfl rfl rfl k81 dX7_wrong_17 (fun H locs hH hS => ?_)
    obtain ⟨I_3, eI_3⟩ : ∃ qQ, qQ = gup2 I mo 24 (iI ((8 * ((I mo 19).toInt)) + kd)) := ⟨_, rfl⟩
    rw [← eI_3] at hH
    have kI_3 : ∀ b, b ≠ mo → I_3 b = I b := fun b hb => by rw [eI_3]; exact funext fun j => gup2_a _ _ hb
    have w_4 : (I_3 mo 24).toInt = (8 * ((I mo 19).toInt)) + kd := by rw [eI_3, gup2_s]; exact iI_val ⟨by omega, by omega⟩
    have hv : mInv g gh R I_3 AI := by rw [eI_3]; exact mP24 hv hm (by omega) (by omega)
    have pf : qF mo I I_3 := qF_t pf (by rw [eI_3]; exact qF_p (by decide))
    have u_5_2 : (I_3 mo 2).toInt = (I mo 2).toInt := by rw [pf 2 (by decide) (by decide) (by decide) (by decide) (by decide)]
    have u_5_5 : (I_3 mo 5).toInt = (I mo 5).toInt := by rw [pf 5 (by decide) (by decide) (by decide) (by decide) (by decide)]
    have u_5_14 : (I_3 mo 14).toInt = (I mo 14).toInt := by rw [pf 14 (by decide) (by decide) (by decide) (by decide) (by decide)]
    have u_5_16 : (I_3 mo 16).toInt = (I mo 16).toInt := by rw [pf 16 (by decide) (by decide) (by decide) (by decide) (by decide)]
    have u_5_18 : (I_3 mo 18).toInt = (I mo 18).toInt := by rw [pf 18 (by decide) (by decide) (by decide) (by decide) (by decide)]
    have w_4_k19 : (I_3 mo 19).toInt = (I mo 19).toInt := by rw [eI_3, gup2_k _ _ (by decide)]
    have w_4_k20 : (I_3 mo 20).toInt = (I mo 20).toInt := by rw [eI_3, gup2_k _ _ (by decide)]
    have w_4_k21 : (I_3 mo 21).toInt = (I mo 21).toInt := by rw [eI_3, gup2_k _ _ (by decide)]
    have w_4_k23 : (I_3 mo 23).toInt = (I mo 23).toInt := by rw [eI_3, gup2_k _ _ (by decide)]
    exact g_vret F hr hlk hH hS hz ⟨rfl, rfl, rfl, rfl, rfl, hv, pf, by first | omega | rfl | (dsimp only; omega), by (try dsimp only); first | (rw [thn_k (mQ_z hQ (by omega))]; exact mQ_wr hQ (mQ_z hQ (by omega)) (by omega) (by omega)) | (rw [thn_b (mQ_nz hQ (by omega))]; exact hQ)⟩ dX7_wrong_20

def rmX7_packedf : Room := { frames := 4, cells := 0, slots := 0, locals := 85 }
set_option maxHeartbeats 4000000 in
set_option maxRecDepth 100000 in
/-- letters packed -/
theorem c_X7_packedf (l : Launch) (g : gG) (i : Nat) (q : String × Nat × String × List Int32) (I : gI) (R : gR) (J : gJ) (AI : gI) (AJ : gJ) (AR : gR)  (hq : sTab[i]? = some q) (hl8 : q.2.2.2.length ≤ 8) : gMet l g yX7_packed tsX7_packed rmX7_packedf [.ref (gSK g i)] (I, R, J, AI, AJ, AR) (gQl g (fun (z : Int64) (w : gS) => I = w.1 ∧ R = w.2.1 ∧ J = w.2.2.1 ∧ AI = w.2.2.2.1 ∧ AJ = w.2.2.2.2.1 ∧ AR = w.2.2.2.2.2 ∧ (z = tMw (fun k9 : Nat => (q.2.2.2.getD k9 0).toInt) 0 q.2.2.2.length))) := by
  refine gStart (cc := cX7_packed) (maxL := 4) (ret := (some (.long))) (by decide) rfl (Nat.le_of_ble_eq_true rfl) ?_
  intro p e s m below meth c ls F hr hlk hH hz hS hl
  have hl : lv_has ls 4 [(0, .ref (gSK g i))] := hl
  have hS : va_S (gA g) s.heap s.heap [] := hS
  obtain ⟨H, hHe⟩ : ∃ H : Heap, H = s.heap := ⟨_, rfl⟩
  obtain ⟨locs, hlo⟩ : ∃ k : List Loc, k = [] := ⟨_, rfl⟩
  have hH : gH g I R J AI AJ AR H := by rw [hHe]; exact hH
  have hS : va_S (gA g) s.heap H locs := by rw [hHe, hlo]; exact hS
  suffices hw : W p l e rmX7_packedf s m ([.ref (gSK g i)] : List Value).toArray below meth c H locs 0 0 (MQ below (gQl g (fun (z : Int64) (w : gS) => I = w.1 ∧ R = w.2.1 ∧ J = w.2.2.1 ∧ AI = w.2.2.2.1 ∧ AJ = w.2.2.2.2.1 ∧ AR = w.2.2.2.2.2 ∧ (z = tMw (fun k9 : Nat => (q.2.2.2.getD k9 0).toInt) 0 q.2.2.2.length))) ([.ref (gSK g i)] : List Value).toArray s 0 0 (gA g)) (F0 m 0 ls []) by
    rw [hHe, hlo] at hw; exact hw
  clear hHe hlo
  have hlen := sTab_len hq
  have hby := sTab_by hq
  refine lv_lconst (v := 0) F.1 F.2.1 dX7_packed_0 (by decide) ?_
  refine lv_lstore_n (lv' := [(1, .long 0), (0, .ref (gSK g i))]) F.1 F.2.1 dX7_packed_1 rfl hl (by decide) rfl (fun ls hl => ?_)
  refine z_iconst F dX7_packed_2 ?_
  refine lv_istore_n (lv' := [(3, .int (iI 0)), (1, .long 0), (0, .ref (gSK g i))]) F.1 F.2.1 dX7_packed_3 rfl hl (by decide) rfl (fun ls hl => ?_)
  have cut_4_1 : ∀ (NN : Nat) (k : Int) (lv9 : Int64) (H : Heap) (locs : List Loc) (ls : Array Slot), zr k → (0 ≤ k ∧ k ≤ ((q.2.2.2.length : Nat) : Int)) → (lv9 = tMw (fun k9 : Nat => (q.2.2.2.getD k9 0).toInt) 0 k.toNat) → (((q.2.2.2.length : Nat) : Int) - k) < ((NN : Nat) : Int) → gH g I R J AI AJ AR H → va_S (gA g) s.heap H locs → lv_has ls 4 [(3, .int (iI k)), (1, .long lv9), (0, .ref (gSK g i))] → W p l e rmX7_packedf s m ([.ref (gSK g i)] : List Value).toArray below meth c H locs 0 0 (MQ below (gQl g (fun (z : Int64) (w : gS) => I = w.1 ∧ R = w.2.1 ∧ J = w.2.2.1 ∧ AI = w.2.2.2.1 ∧ AJ = w.2.2.2.2.1 ∧ AR = w.2.2.2.2.2 ∧ (z = tMw (fun k9 : Nat => (q.2.2.2.getD k9 0).toInt) 0 q.2.2.2.length))) ([.ref (gSK g i)] : List Value).toArray s 0 0 (gA g)) (F0 m 4 ls []) := by
    intro NN4
    induction NN4 with
    | zero =>
      intro k lv9 H locs ls zk hk hpk hm4 hH hS hl
      exact absurd hm4 (by omega)
    | succ NN4 ih4 =>
      intro k lv9 H locs ls zk hk hpk hm4 hH hS hl
      refine lv_iload_n F.1 F.2.1 dX7_packed_4 rfl (lv_at hl 0 rfl) ?_
      refine lv_aload_n F.1 F.2.1 dX7_packed_5 rfl (lv_at hl 2 rfl) ?_
      refine g_calli (g_runVS (As := []) (rest := [.int (iI k)]) F hl.1 hH hS hz hq (c_J0_length_8abf5 l g i q I R J AI AJ AR  hq) (cwV 0 F.2.2.2.2.1 (good_up gT_X7_packed_J0_length_8abf5) rfl rfl rfl hdJ0_length_8abf5 ⟨Nat.le_of_ble_eq_true rfl, Nat.le_of_ble_eq_true rfl⟩) rfl rfl (Nat.le_of_ble_eq_true rfl) dX7_packed_6 ⟨Nat.zero_le _, Nat.zero_le _⟩) hS (fun v_9 I_3 R_4 J_5 AI_6 AJ_7 AR_8 H locs zv_9 hp_10 hH hS => ?_)
      dsimp only at hp_10
      obtain ⟨rfl, rfl, rfl, rfl, rfl, rfl, q_11⟩ := hp_10
      refine z_icmp_ge (tgt := 31) F dX7_packed_9 (by decide) zk zv_9 (fun c_12 => ?_) (fun c_12 => ?_)
      · refine lv_lload_n F.1 F.2.1 dX7_packed_31 rfl (lv_at hl 1 rfl) ?_
        exact g_lret F hr hlk hH hS hz ⟨rfl, rfl, rfl, rfl, rfl, rfl, by rw [hpk]; congr 1; omega⟩ dX7_packed_32
      · refine lv_ldc2 (v := 256) F.1 F.2.1 F.2.2.2.1 (F.2.2.2.2.1 _ (List.mem_cons_of_mem _ cl_115)) dX7_packed_12 ?_
        refine lv_lload_n F.1 F.2.1 dX7_packed_15 rfl (lv_at hl 1 rfl) ?_
        refine lv_lmul F.1 F.2.1 dX7_packed_16 ?_
        refine lv_topl (fun j_13 ej_13 => ?_)
        refine lv_aload_n F.1 F.2.1 dX7_packed_17 rfl (lv_at hl 2 rfl) ?_
        refine lv_iload_n F.1 F.2.1 dX7_packed_18 rfl (lv_at hl 0 rfl) ?_
        refine g_calli (g_runVS (As := [.int (iI k)]) (rest := [.long j_13]) F hl.1 hH hS hz hq (c_J0_charAt_5068ef l g i q I R J AI AJ AR k zk hq (by omega) (by omega)) (cwV 1 F.2.2.2.2.1 (good_up gT_X7_packed_J0_charAt_5068e) rfl rfl rfl hdJ0_charAt_5068e ⟨Nat.le_of_ble_eq_true rfl, Nat.le_of_ble_eq_true rfl⟩) rfl rfl (Nat.le_of_ble_eq_true rfl) dX7_packed_19 ⟨Nat.zero_le _, Nat.zero_le _⟩) hS (fun v_20 I_14 R_15 J_16 AI_17 AJ_18 AR_19 H locs zv_20 hp_21 hH hS => ?_)
        dsimp only at hp_21
        obtain ⟨rfl, rfl, rfl, rfl, rfl, rfl, q19⟩ := hp_21
        refine lv_i2l F.1 F.2.1 dX7_packed_22 rfl ?_
        refine lv_topl (fun j_22 ej_22 => ?_)
        refine lv_ladd F.1 F.2.1 dX7_packed_23 ?_
        refine lv_topl (fun j_23 ej_23 => ?_)
        have hpk2 : j_23 = tMw (fun k9 : Nat => (q.2.2.2.getD k9 0).toInt) 0 (k + 1).toNat := by
          have b9 := hby k.toNat
          rw [show (k + 1).toNat = k.toNat + 1 by omega, tMw, if_pos (by omega), ej_23, ej_13, ej_22, hpk, q19, show 0 + k.toNat = k.toNat by omega]
          rw [show ((q.2.2.2.getD k.toNat 0).toInt) % 256 = (q.2.2.2.getD k.toNat 0).toInt by omega]
        refine lv_lstore_n (lv' := [(1, .long j_23), (3, .int (iI k)), (0, .ref (gSK g i))]) F.1 F.2.1 dX7_packed_24 rfl hl (by decide) rfl (fun ls hl => ?_)
        refine z_iinc (lv' := [(3, .int (iI (k + 1))), (1, .long j_23), (0, .ref (gSK g i))]) F dX7_packed_25 hl (k := 1) rfl (by decide) rfl (fun ls hl => ?_)
        refine z_goto (tgt := 4) F dX7_packed_28 (by decide) ?_
        exact ih4 (k + 1) j_23 H locs ls ⟨by omega, by omega⟩ (by omega) (by first | exact hpk2 | rfl) (by omega) hH hS (lv_sub hl [0, 1, 2] rfl)
  exact cut_4_1 (((((q.2.2.2.length : Nat) : Int) - 0) + 1 : Int).toNat) 0 0 H locs ls ⟨by decide, by decide⟩ (by omega) (by first | exact hpk2 | rfl) (by omega) hH hS (lv_sub hl [0, 1, 2] rfl)

def rmX7_isWordf : Room := { frames := 5, cells := 0, slots := 0, locals := 108 }
set_option maxHeartbeats 4000000 in
set_option maxRecDepth 100000 in
/-- is it the word -/
theorem c_X7_isWordf (l : Launch) (g : gG) (gh : gGh) (T : Nat → Int32) (i : Nat) (q : String × Nat × String × List Int32) (w7 : Nat) (b : tTx) (nn nr : Nat) (nt : Nat → Nat) (cc : Nat → Int) (f : Int) (h : Nat) (I : gI) (R : gR) (J : gJ) (AI : gI) (AJ : gJ) (AR : gR) (mo : Nat) (hv : mInv g gh R I AI) (hm : gO g mo 7) (hT : AI (gh 50 0) = T) (hq : sTab[i]? = some q) (hl8 : q.2.2.2.length ≤ 8) (hw7 : w7 < 20 ∧ tMw (fun k9 : Nat => (q.2.2.2.getD k9 0).toInt) 0 q.2.2.2.length = tMw wCh (wSt w7) (wLn w7)) (h65 : gh 9 (gh 65 0) ≠ 5) (hbM : ∀ k : Nat, k < nn → ((gM g).2 (gh 65 0) k).toInt = b k % 256) (hr7 : ∀ k : Nat, -128 ≤ b k ∧ b k ≤ 127) (hsz : (I mo 18).toInt = (nn : Int)) (hn9 : nn ≤ 900) (hm5 : (I mo 5).toInt = (nr : Int)) (hQ : mQ gh I J AI AJ mo b nn nr nt cc f h) : gMet l g yX7_isWord tsX7_isWord rmX7_isWordf [.ref mo, .ref (gSK g i)] (I, R, J, AI, AJ, AR) (gQi g (fun (z : Int) (w : gS) => I = w.1 ∧ R = w.2.1 ∧ J = w.2.2.1 ∧ AI = w.2.2.2.1 ∧ AJ = w.2.2.2.2.1 ∧ AR = w.2.2.2.2.2 ∧ (z = 0 ∨ z = 1) ∧ (tIz z (f = 0 ∧ pK b nn h = 3 ∧ pV b nn h = (w7 : Int))))) := by
  refine gStart (cc := cX7_isWord) (maxL := 2) (ret := (some (.boolean))) (by decide) rfl (Nat.le_of_ble_eq_true rfl) ?_
  intro p e s m below meth c ls F hr hlk hH hz hS hl
  have hl : lv_has ls 2 [(0, .ref mo), (1, .ref (gSK g i))] := hl
  have hS : va_S (gA g) s.heap s.heap [] := hS
  obtain ⟨H, hHe⟩ : ∃ H : Heap, H = s.heap := ⟨_, rfl⟩
  obtain ⟨locs, hlo⟩ : ∃ k : List Loc, k = [] := ⟨_, rfl⟩
  have hH : gH g I R J AI AJ AR H := by rw [hHe]; exact hH
  have hS : va_S (gA g) s.heap H locs := by rw [hHe, hlo]; exact hS
  suffices hw : W p l e rmX7_isWordf s m ([.ref mo, .ref (gSK g i)] : List Value).toArray below meth c H locs 0 0 (MQ below (gQi g (fun (z : Int) (w : gS) => I = w.1 ∧ R = w.2.1 ∧ J = w.2.2.1 ∧ AI = w.2.2.2.1 ∧ AJ = w.2.2.2.2.1 ∧ AR = w.2.2.2.2.2 ∧ (z = 0 ∨ z = 1) ∧ (tIz z (f = 0 ∧ pK b nn h = 3 ∧ pV b nn h = (w7 : Int))))) ([.ref mo, .ref (gSK g i)] : List Value).toArray s 0 0 (gA g)) (F0 m 0 ls []) by
    rw [hHe, hlo] at hw; exact hw
  clear hHe hlo
  have hlen := sTab_len hq
  have iX7 : ∀ w ∈ u_ws RX7 TX7 32, w ∈ tsX7_isWord := fun w h => List.mem_cons_of_mem _ (inTB7 w h)
  have k81 : Cond.fieldLink RX7 81 (TX7 24).1 (TX7 24).2.1 (TX7 24).2.2.1 ∈ tsX7_isWord := List.mem_cons_of_mem _ fl_81
  have k94 : Cond.fieldLink RX7 94 (TX7 21).1 (TX7 21).2.1 (TX7 21).2.2.1 ∈ tsX7_isWord := List.mem_cons_of_mem _ fl_94
  have k111 : Cond.fieldLink RX7 111 (TX7 22).1 (TX7 22).2.1 (TX7 22).2.2.1 ∈ tsX7_isWord := List.mem_cons_of_mem _ fl_111
  refine lv_aload_n F.1 F.2.1 dX7_isWord_0 rfl (lv_at hl 0 rfl) ?_
  refine g_getI (ci := 7) (k := 24) F hH rfl (by decide) iX7 hm (by decide) rfl k81 dX7_isWord_1 ?_
  have b_1 := mJ hv hm
  unfold mNum1 at b_1
  refine z_if_ne (tgt := 31) F dX7_isWord_4 (by decide) (zr_t _) (fun c_2 => ?_) (fun c_2 => ?_)
  · refine z_iconst F dX7_isWord_31 ?_
    exact g_zret F hr hlk hH hS hz (by omega) ⟨rfl, rfl, rfl, rfl, rfl, rfl, by first | omega | rfl | (dsimp only; omega), by exact tIz_f (mIw_x hQ (by omega))⟩ dX7_isWord_32
  · refine lv_aload_n F.1 F.2.1 dX7_isWord_7 rfl (lv_at hl 0 rfl) ?_
    refine g_getI (ci := 7) (k := 21) F hH rfl (by decide) iX7 hm (by decide) rfl k94 dX7_isWord_8 ?_
    refine z_iconst F dX7_isWord_11 ?_
    refine z_icmp_ne (tgt := 31) F dX7_isWord_12 (by decide) (zr_t _) ⟨by decide, by decide⟩ (fun c_3 => ?_) (fun c_3 => ?_)
    · refine z_iconst F dX7_isWord_31 ?_
      exact g_zret F hr hlk hH hS hz (by omega) ⟨rfl, rfl, rfl, rfl, rfl, rfl, by first | omega | rfl | (dsimp only; omega), by exact tIz_f (mIw_x hQ (by omega))⟩ dX7_isWord_32
    · refine lv_aload_n F.1 F.2.1 dX7_isWord_15 rfl (lv_at hl 0 rfl) ?_
      refine g_getJ (ci := 7) (k := 22) F hH rfl (by decide) iX7 hm (by decide) rfl k111 dX7_isWord_16 ?_
      refine lv_topl (fun j_4 ej_4 => ?_)
      refine lv_aload_n F.1 F.2.1 dX7_isWord_19 rfl (lv_at hl 1 rfl) ?_
      refine g_calll (g_runS (As := [.ref (gSK g i)]) (rest := [.long j_4]) F hl.1 hH hS hz (c_X7_packedf l g i q I R J AI AJ AR  hq hl8) (va_cwS 1 F.2.2.2.2.1 (good_up gT_X7_packed) rfl rfl rfl hdX7_packed.2 ⟨Nat.le_of_ble_eq_true rfl, Nat.le_of_ble_eq_true rfl⟩) rfl rfl (Nat.le_of_ble_eq_true rfl) dX7_isWord_20 ⟨Nat.zero_le _, Nat.zero_le _⟩) hS (fun v_11 I_5 R_6 J_7 AI_8 AJ_9 AR_10 H locs hp_12 hH hS => ?_)
      dsimp only at hp_12
      obtain ⟨rfl, rfl, rfl, rfl, rfl, rfl, q20⟩ := hp_12
      refine W.lcmp F.1 F.2.1 dX7_isWord_23 ?_
      refine z_top (fun v_13 zv_13 ev_13 => ?_)
      have lv_13 : v_13 = 0 ↔ j_4 = v_11 := by rw [ev_13]; exact z_lcmp
      refine z_if_ne (tgt := 31) F dX7_isWord_24 (by decide) zv_13 (fun c_14 => ?_) (fun c_14 => ?_)
      · refine z_iconst F dX7_isWord_31 ?_
        exact g_zret F hr hlk hH hS hz (by omega) ⟨rfl, rfl, rfl, rfl, rfl, rfl, by first | omega | rfl | (dsimp only; omega), by first | exact tIz_t (mIw_t hQ hw7 (by omega) (by omega) (by rw [← ej_4, ← q20]; exact lv_13.mp (by omega))) | exact tIz_f (mIw_f hQ hw7 (by omega) (fun e9 => absurd (lv_13.mpr (by rw [ej_4, e9, q20])) (by omega))) | exact tIz_f (mIw_x hQ (by omega))⟩ dX7_isWord_32
      · refine z_iconst F dX7_isWord_27 ?_
        refine z_goto (tgt := 32) F dX7_isWord_28 (by decide) ?_
        exact g_zret F hr hlk hH hS hz (by omega) ⟨rfl, rfl, rfl, rfl, rfl, rfl, by first | omega | rfl | (dsimp only; omega), by first | exact tIz_t (mIw_t hQ hw7 (by omega) (by omega) (by rw [← ej_4, ← q20]; exact lv_13.mp (by omega))) | exact tIz_f (mIw_f hQ hw7 (by omega) (fun e9 => absurd (lv_13.mpr (by rw [ej_4, e9, q20])) (by omega))) | exact tIz_f (mIw_x hQ (by omega))⟩ dX7_isWord_32

def rmX7_isSignf : Room := { frames := 0, cells := 0, slots := 0, locals := 0 }
set_option maxHeartbeats 4000000 in
set_option maxRecDepth 100000 in
/-- is it the sign -/
theorem c_X7_isSignf (l : Launch) (g : gG) (gh : gGh) (T : Nat → Int32) (b : tTx) (nn nr : Nat) (nt : Nat → Nat) (cc : Nat → Int) (f : Int) (h : Nat) (I : gI) (R : gR) (J : gJ) (AI : gI) (AJ : gJ) (AR : gR) (mo : Nat) (ch : Int) (zch : zr ch) (hv : mInv g gh R I AI) (hm : gO g mo 7) (hT : AI (gh 50 0) = T) (h65 : gh 9 (gh 65 0) ≠ 5) (hbM : ∀ k : Nat, k < nn → ((gM g).2 (gh 65 0) k).toInt = b k % 256) (hr7 : ∀ k : Nat, -128 ≤ b k ∧ b k ≤ 127) (hsz : (I mo 18).toInt = (nn : Int)) (hn9 : nn ≤ 900) (hm5 : (I mo 5).toInt = (nr : Int)) (hc5 : 5 ≤ ch) (hQ : mQ gh I J AI AJ mo b nn nr nt cc f h) : gMet l g yX7_isSign tsX7_isSign rmX7_isSignf [.ref mo, .int (iI ch)] (I, R, J, AI, AJ, AR) (gQi g (fun (z : Int) (w : gS) => I = w.1 ∧ R = w.2.1 ∧ J = w.2.2.1 ∧ AI = w.2.2.2.1 ∧ AJ = w.2.2.2.2.1 ∧ AR = w.2.2.2.2.2 ∧ ((z = 0 ∨ z = 1) ∧ (z = 1 → (I mo 24).toInt = 0 ∧ (I mo 21).toInt = 4 ∧ (I mo 23).toInt = ch) ∧ (z = 0 → (I mo 24).toInt = 0 → (I mo 21).toInt = 4 → (I mo 23).toInt ≠ ch)) ∧ (tIz z (f = 0 ∧ pK b nn h = ch)))) := by
  refine gStart (cc := cX7_isSign) (maxL := 2) (ret := (some (.boolean))) (by decide) rfl (Nat.le_of_ble_eq_true rfl) ?_
  intro p e s m below meth c ls F hr hlk hH hz hS hl
  have hl : lv_has ls 2 [(0, .ref mo), (1, .int (iI ch))] := hl
  have hS : va_S (gA g) s.heap s.heap [] := hS
  obtain ⟨H, hHe⟩ : ∃ H : Heap, H = s.heap := ⟨_, rfl⟩
  obtain ⟨locs, hlo⟩ : ∃ k : List Loc, k = [] := ⟨_, rfl⟩
  have hH : gH g I R J AI AJ AR H := by rw [hHe]; exact hH
  have hS : va_S (gA g) s.heap H locs := by rw [hHe, hlo]; exact hS
  suffices hw : W p l e rmX7_isSignf s m ([.ref mo, .int (iI ch)] : List Value).toArray below meth c H locs 0 0 (MQ below (gQi g (fun (z : Int) (w : gS) => I = w.1 ∧ R = w.2.1 ∧ J = w.2.2.1 ∧ AI = w.2.2.2.1 ∧ AJ = w.2.2.2.2.1 ∧ AR = w.2.2.2.2.2 ∧ ((z = 0 ∨ z = 1) ∧ (z = 1 → (I mo 24).toInt = 0 ∧ (I mo 21).toInt = 4 ∧ (I mo 23).toInt = ch) ∧ (z = 0 → (I mo 24).toInt = 0 → (I mo 21).toInt = 4 → (I mo 23).toInt ≠ ch)) ∧ (tIz z (f = 0 ∧ pK b nn h = ch)))) ([.ref mo, .int (iI ch)] : List Value).toArray s 0 0 (gA g)) (F0 m 0 ls []) by
    rw [hHe, hlo] at hw; exact hw
  clear hHe hlo
  have iX7 : ∀ w ∈ u_ws RX7 TX7 32, w ∈ tsX7_isSign := fun w h => List.mem_cons_of_mem _ (inTB7 w h)
  have k81 : Cond.fieldLink RX7 81 (TX7 24).1 (TX7 24).2.1 (TX7 24).2.2.1 ∈ tsX7_isSign := List.mem_cons_of_mem _ fl_81
  have k94 : Cond.fieldLink RX7 94 (TX7 21).1 (TX7 21).2.1 (TX7 21).2.2.1 ∈ tsX7_isSign := List.mem_cons_of_mem _ fl_94
  have k97 : Cond.fieldLink RX7 97 (TX7 23).1 (TX7 23).2.1 (TX7 23).2.2.1 ∈ tsX7_isSign := List.mem_cons_of_mem _ fl_97
  refine lv_aload_n F.1 F.2.1 dX7_isSign_0 rfl (lv_at hl 0 rfl) ?_
  refine g_getI (ci := 7) (k := 24) F hH rfl (by decide) iX7 hm (by decide) rfl k81 dX7_isSign_1 ?_
  have b_1 := mJ hv hm
  unfold mNum1 at b_1
  refine z_if_ne (tgt := 27) F dX7_isSign_4 (by decide) (zr_t _) (fun c_2 => ?_) (fun c_2 => ?_)
  · refine z_iconst F dX7_isSign_27 ?_
    exact g_zret F hr hlk hH hS hz (by omega) ⟨rfl, rfl, rfl, rfl, rfl, rfl, ⟨by omega, fun _ => by omega, fun _ _ _ => by omega⟩, by first | exact tIz_t (mIs_t hQ (by omega) hc5 (by omega)) | exact tIz_f (mIs_f hQ hc5 (by omega))⟩ dX7_isSign_28
  · refine lv_aload_n F.1 F.2.1 dX7_isSign_7 rfl (lv_at hl 0 rfl) ?_
    refine g_getI (ci := 7) (k := 21) F hH rfl (by decide) iX7 hm (by decide) rfl k94 dX7_isSign_8 ?_
    refine z_iconst F dX7_isSign_11 ?_
    refine z_icmp_ne (tgt := 27) F dX7_isSign_12 (by decide) (zr_t _) ⟨by decide, by decide⟩ (fun c_3 => ?_) (fun c_3 => ?_)
    · refine z_iconst F dX7_isSign_27 ?_
      exact g_zret F hr hlk hH hS hz (by omega) ⟨rfl, rfl, rfl, rfl, rfl, rfl, ⟨by omega, fun _ => by omega, fun _ _ _ => by omega⟩, by first | exact tIz_t (mIs_t hQ (by omega) hc5 (by omega)) | exact tIz_f (mIs_f hQ hc5 (by omega))⟩ dX7_isSign_28
    · refine lv_aload_n F.1 F.2.1 dX7_isSign_15 rfl (lv_at hl 0 rfl) ?_
      refine g_getI (ci := 7) (k := 23) F hH rfl (by decide) iX7 hm (by decide) rfl k97 dX7_isSign_16 ?_
      refine lv_iload_n F.1 F.2.1 dX7_isSign_19 rfl (lv_at hl 1 rfl) ?_
      refine z_icmp_ne (tgt := 27) F dX7_isSign_20 (by decide) (zr_t _) zch (fun c_4 => ?_) (fun c_4 => ?_)
      · refine z_iconst F dX7_isSign_27 ?_
        exact g_zret F hr hlk hH hS hz (by omega) ⟨rfl, rfl, rfl, rfl, rfl, rfl, ⟨by omega, fun _ => by omega, fun _ _ _ => by omega⟩, by first | exact tIz_t (mIs_t hQ (by omega) hc5 (by omega)) | exact tIz_f (mIs_f hQ hc5 (by omega))⟩ dX7_isSign_28
      · refine z_iconst F dX7_isSign_23 ?_
        refine z_goto (tgt := 28) F dX7_isSign_24 (by decide) ?_
        exact g_zret F hr hlk hH hS hz (by omega) ⟨rfl, rfl, rfl, rfl, rfl, rfl, ⟨by omega, fun _ => by omega, fun _ _ _ => by omega⟩, by first | exact tIz_t (mIs_t hQ (by omega) hc5 (by omega)) | exact tIz_f (mIs_f hQ hc5 (by omega))⟩ dX7_isSign_28

def rmX7_mustSignf : Room := { frames := 3, cells := 0, slots := 0, locals := 67 }
set_option maxHeartbeats 4000000 in
set_option maxRecDepth 100000 in
/-- must be the sign -/
theorem c_X7_mustSignf (l : Launch) (g : gG) (gh : gGh) (T : Nat → Int32) (b : tTx) (nn nr : Nat) (nt : Nat → Nat) (cc : Nat → Int) (f : Int) (h : Nat) (I : gI) (R : gR) (J : gJ) (AI : gI) (AJ : gJ) (AR : gR) (mo : Nat) (ch : Int) (zch : zr ch) (hv : mInv g gh R I AI) (hm : gO g mo 7) (hT : AI (gh 50 0) = T) (hE : (I mo 20).toInt ≤ 936) (h65 : gh 9 (gh 65 0) ≠ 5) (hbM : ∀ k : Nat, k < nn → ((gM g).2 (gh 65 0) k).toInt = b k % 256) (hr7 : ∀ k : Nat, -128 ≤ b k ∧ b k ≤ 127) (hsz : (I mo 18).toInt = (nn : Int)) (hn9 : nn ≤ 900) (hm5 : (I mo 5).toInt = (nr : Int)) (hc5 : 5 ≤ ch) (hQ : mQ gh I J AI AJ mo b nn nr nt cc f h) : gMet l g yX7_mustSign tsX7_mustSign rmX7_mustSignf [.ref mo, .int (iI ch)] (I, R, J, AI, AJ, AR) (gQv g (fun w : gS => R = w.2.1 ∧ AI = w.2.2.2.1 ∧ AJ = w.2.2.2.2.1 ∧ AR = w.2.2.2.2.2 ∧ (mInv g gh R (w.1) AI) ∧ (qF mo I (w.1)) ∧ (((w.1) mo 20).toInt ≤ 936 ∧ (I mo 24).toInt ≤ ((w.1) mo 24).toInt) ∧ (((w.1) mo 24).toInt = 0 → (I mo 21).toInt = 4 ∧ (I mo 23).toInt = ch) ∧ (mQ gh (w.1) (w.2.2.1) AI AJ mo b nn nr nt cc (thn (f, h, 0) (fun t _ => sTk b nn ch t)).1 (thn (f, h, 0) (fun t _ => sTk b nn ch t)).2.1))) := by
  refine gStart (cc := cX7_mustSign) (maxL := 2) (ret := none) (by decide) rfl (Nat.le_of_ble_eq_true rfl) ?_
  intro p e s m below meth c ls F hr hlk hH hz hS hl
  have hl : lv_has ls 2 [(0, .ref mo), (1, .int (iI ch))] := hl
  have hS : va_S (gA g) s.heap s.heap [] := hS
  obtain ⟨H, hHe⟩ : ∃ H : Heap, H = s.heap := ⟨_, rfl⟩
  obtain ⟨locs, hlo⟩ : ∃ k : List Loc, k = [] := ⟨_, rfl⟩
  have hH : gH g I R J AI AJ AR H := by rw [hHe]; exact hH
  have hS : va_S (gA g) s.heap H locs := by rw [hHe, hlo]; exact hS
  suffices hw : W p l e rmX7_mustSignf s m ([.ref mo, .int (iI ch)] : List Value).toArray below meth c H locs 0 0 (MQ below (gQv g (fun w : gS => R = w.2.1 ∧ AI = w.2.2.2.1 ∧ AJ = w.2.2.2.2.1 ∧ AR = w.2.2.2.2.2 ∧ (mInv g gh R (w.1) AI) ∧ (qF mo I (w.1)) ∧ (((w.1) mo 20).toInt ≤ 936 ∧ (I mo 24).toInt ≤ ((w.1) mo 24).toInt) ∧ (((w.1) mo 24).toInt = 0 → (I mo 21).toInt = 4 ∧ (I mo 23).toInt = ch) ∧ (mQ gh (w.1) (w.2.2.1) AI AJ mo b nn nr nt cc (thn (f, h, 0) (fun t _ => sTk b nn ch t)).1 (thn (f, h, 0) (fun t _ => sTk b nn ch t)).2.1))) ([.ref mo, .int (iI ch)] : List Value).toArray s 0 0 (gA g)) (F0 m 0 ls []) by
    rw [hHe, hlo] at hw; exact hw
  clear hHe hlo
  have pf : qF mo I I := qF_r
  have hb0 := mJ hv hm
  unfold mNum1 at hb0
  have iX7 : ∀ w ∈ u_ws RX7 TX7 32, w ∈ tsX7_mustSign := fun w h => List.mem_cons_of_mem _ (inTB7 w h)
  have k81 : Cond.fieldLink RX7 81 (TX7 24).1 (TX7 24).2.1 (TX7 24).2.2.1 ∈ tsX7_mustSign := List.mem_cons_of_mem _ fl_81
  have hf0 := mQ_p hQ
  by_cases q0 : f = 0
  · have hQ := mQ_ok hQ q0
    have hz0 := mQ_0 hQ rfl
    refine lv_aload_n F.1 F.2.1 dX7_mustSign_0 rfl (lv_at hl 0 rfl) ?_
    refine g_getI (ci := 7) (k := 24) F hH rfl (by decide) iX7 hm (by decide) rfl k81 dX7_mustSign_1 ?_
    have b_1 := mJ hv hm
    unfold mNum1 at b_1
    refine z_if_ne (tgt := 20) F dX7_mustSign_4 (by decide) (zr_t _) (fun c_2 => ?_) (fun c_2 => ?_)
    · exact absurd (mQ_0 hQ rfl) (by omega)
    · refine lv_aload_n F.1 F.2.1 dX7_mustSign_7 rfl (lv_at hl 0 rfl) ?_
      refine lv_iload_n F.1 F.2.1 dX7_mustSign_8 rfl (lv_at hl 1 rfl) ?_
      refine g_calli (g_runV (As := [.int (iI ch)]) (rest := []) (ci := 7) F hl.1 hH hS hz (c_X7_isSignf l g gh T b nn nr nt cc 0 h I R J AI AJ AR mo ch zch hv hm hT h65 hbM hr7 (by omega) hn9 (by omega) (by omega) hQ) (cwV 1 F.2.2.2.2.1 (good_up gT_X7_isSign) rfl rfl rfl hdX7_isSign ⟨Nat.le_of_ble_eq_true rfl, Nat.le_of_ble_eq_true rfl⟩) hm (by decide) rfl rfl rfl (Nat.le_of_ble_eq_true rfl) dX7_mustSign_9 ⟨Nat.zero_le _, Nat.zero_le _⟩) hS (fun v_9 I_3 R_4 J_5 AI_6 AJ_7 AR_8 H locs zv_9 hp_10 hH hS => ?_)
      dsimp only at hp_10
      obtain ⟨rfl, rfl, rfl, rfl, rfl, rfl, q_11, q_12⟩ := hp_10
      refine z_if_ne (tgt := 20) F dX7_mustSign_12 (by decide) zv_9 (fun c_13 => ?_) (fun c_13 => ?_)
      · have t_14 := tIz_1 q_12 (by omega)
        refine lv_aload_n F.1 F.2.1 dX7_mustSign_20 rfl (lv_at hl 0 rfl) ?_
        refine g_callv (g_runV (As := []) (rest := []) (ci := 7) F hl.1 hH hS hz (c_X7_nextf l g gh T b nn (tNd b nn (tPs b nn h)) I R J AI AJ AR mo hv hm hT (by omega) (mTp hv h65 hbM) hr7 (by omega) (by omega) (mQ_e0 hQ) tNd_le.1) (cwV 0 F.2.2.2.2.1 (good_up gT_X7_next) rfl rfl rfl hdX7_next ⟨Nat.le_of_ble_eq_true rfl, Nat.le_of_ble_eq_true rfl⟩) hm (by decide) rfl rfl rfl (Nat.le_of_ble_eq_true rfl) dX7_mustSign_21 ⟨Nat.zero_le _, Nat.zero_le _⟩) hS (fun I_15 R_16 J_17 AI_18 AJ_19 AR_20 H locs hp_21 hH hS => ?_)
        dsimp only at hp_21
        obtain ⟨rfl, rfl, rfl, rfl, hv, pfq, q_22, nx4, nxa, nxb⟩ := hp_21
        have pf := qF_t pf pfq
        have u_23_2 : (I_15 mo 2).toInt = (I mo 2).toInt := by rw [pf 2 (by decide) (by decide) (by decide) (by decide) (by decide)]
        have u_23_5 : (I_15 mo 5).toInt = (I mo 5).toInt := by rw [pf 5 (by decide) (by decide) (by decide) (by decide) (by decide)]
        have u_23_14 : (I_15 mo 14).toInt = (I mo 14).toInt := by rw [pf 14 (by decide) (by decide) (by decide) (by decide) (by decide)]
        have u_23_16 : (I_15 mo 16).toInt = (I mo 16).toInt := by rw [pf 16 (by decide) (by decide) (by decide) (by decide) (by decide)]
        have u_23_18 : (I_15 mo 18).toInt = (I mo 18).toInt := by rw [pf 18 (by decide) (by decide) (by decide) (by decide) (by decide)]
        have hQ : mQ gh I_15 J_17 AI AJ mo b nn nr nt cc 0 (h + 1) := mQ_nx hQ nx4 nxa
        clear nxa nxb
        have hfin : thn (f, h, 0) (fun t _ => sTk b nn ch t) = (0, h + 1, 0) := by
          refine (thn_k q0).trans ?_
          show sTk b nn ch h = _
          unfold sTk
          repeat (first | with_reducible rfl | refine ite_y (by omega) ?_ | refine ite_n (by omega) ?_ | exact pr_e (by omega) (by omega) (by omega) | refine ite_y (pCf_ok (by omega) (by omega)) ?_ | refine ite_n (fun e9 => absurd (pCf_0 e9) (by omega)) ?_ | exact pr_e (pCf_no (by omega)) (by omega) (by omega) | exact pr_e (pCf_big (by omega) (by omega)) (by omega) (by omega))
        exact g_vret F hr hlk hH hS hz ⟨rfl, rfl, rfl, rfl, hv, pf, by first | omega | rfl | (dsimp only; omega), by first | omega | rfl | (dsimp only; omega), by (try dsimp only); rw [hfin]; exact hQ⟩ dX7_mustSign_24
      · have t_24 := tIz_0 q_12 (by omega)
        refine lv_aload_n F.1 F.2.1 dX7_mustSign_15 rfl (lv_at hl 0 rfl) ?_
        refine z_iconst F dX7_mustSign_16 ?_
        refine g_callv (g_runV (As := [.int (iI 1)]) (rest := []) (ci := 7) F hl.1 hH hS hz (c_X7_wrongf l g gh T b nn nr nt cc 0 h I R J AI AJ AR mo 1 ⟨by decide, by decide⟩ hv hm hT (by omega) h65 hbM hr7 (by omega) hn9 (by omega) hQ) (cwV 1 F.2.2.2.2.1 (good_up gT_X7_wrong) rfl rfl rfl hdX7_wrong ⟨Nat.le_of_ble_eq_true rfl, Nat.le_of_ble_eq_true rfl⟩) hm (by decide) rfl rfl rfl (Nat.le_of_ble_eq_true rfl) dX7_mustSign_17 ⟨Nat.zero_le _, Nat.zero_le _⟩) hS (fun I_25 R_26 J_27 AI_28 AJ_29 AR_30 H locs hp_31 hH hS => ?_)
        dsimp only at hp_31
        obtain ⟨r_32, er_32⟩ : ∃ qQ : pR, qQ = thn (0, h, 0) (fun t _ => (1, t, 0)) := ⟨_, rfl⟩
        rw [← er_32] at hp_31
        obtain ⟨rfl, rfl, rfl, rfl, rfl, hv, pfq, q_33, hQ⟩ := hp_31
        have pf := qF_t pf pfq
        have u_34_2 : (I_25 mo 2).toInt = (I mo 2).toInt := by rw [pf 2 (by decide) (by decide) (by decide) (by decide) (by decide)]
        have u_34_5 : (I_25 mo 5).toInt = (I mo 5).toInt := by rw [pf 5 (by decide) (by decide) (by decide) (by decide) (by decide)]
        have u_34_14 : (I_25 mo 14).toInt = (I mo 14).toInt := by rw [pf 14 (by decide) (by decide) (by decide) (by decide) (by decide)]
        have u_34_16 : (I_25 mo 16).toInt = (I mo 16).toInt := by rw [pf 16 (by decide) (by decide) (by decide) (by decide) (by decide)]
        have u_34_18 : (I_25 mo 18).toInt = (I mo 18).toInt := by rw [pf 18 (by decide) (by decide) (by decide) (by decide) (by decide)]
        have er_32 : r_32 = (1, h, 0) := er_32
        have hQ : mQ gh I_25 J AI AJ mo b nn nr nt cc 1 h := by rw [er_32] at hQ; exact hQ
        have q9_r_32 : (1 : Int) ≠ 0 := by omega
        have g9_r_32 := mQ_f hQ q9_r_32
        refine lv_aload_n F.1 F.2.1 dX7_mustSign_20 rfl (lv_at hl 0 rfl) ?_
        have b_35 := mJ hv hm
        unfold mNum1 at b_35
        refine g_callv (g_runV (As := []) (rest := []) (ci := 7) F hl.1 hH hS hz (c_X7_nextf l g gh T b nn (tNd b nn (tPs b nn h)) I_25 R J AI AJ AR mo hv hm hT (by omega) (mTp hv h65 hbM) hr7 (by omega) (by omega) (mQ_e0 hQ) tNd_le.1) (cwV 0 F.2.2.2.2.1 (good_up gT_X7_next) rfl rfl rfl hdX7_next ⟨Nat.le_of_ble_eq_true rfl, Nat.le_of_ble_eq_true rfl⟩) hm (by decide) rfl rfl rfl (Nat.le_of_ble_eq_true rfl) dX7_mustSign_21 ⟨Nat.zero_le _, Nat.zero_le _⟩) hS (fun I_36 R_37 J_38 AI_39 AJ_40 AR_41 H locs hp_42 hH hS => ?_)
        dsimp only at hp_42
        obtain ⟨rfl, rfl, rfl, rfl, hv, pfq, q_43, nx4, nxa, nxb⟩ := hp_42
        have pf := qF_t pf pfq
        have u_44_2 : (I_36 mo 2).toInt = (I mo 2).toInt := by rw [pf 2 (by decide) (by decide) (by decide) (by decide) (by decide)]
        have u_44_5 : (I_36 mo 5).toInt = (I mo 5).toInt := by rw [pf 5 (by decide) (by decide) (by decide) (by decide) (by decide)]
        have u_44_14 : (I_36 mo 14).toInt = (I mo 14).toInt := by rw [pf 14 (by decide) (by decide) (by decide) (by decide) (by decide)]
        have u_44_16 : (I_36 mo 16).toInt = (I mo 16).toInt := by rw [pf 16 (by decide) (by decide) (by decide) (by decide) (by decide)]
        have u_44_18 : (I_36 mo 18).toInt = (I mo 18).toInt := by rw [pf 18 (by decide) (by decide) (by decide) (by decide) (by decide)]
        have hQ : mQ gh I_36 J_38 AI AJ mo b nn nr nt cc 1 h := by have q9 := mQ_nx hQ nx4 nxa; rw [thn_b (by omega)] at q9; exact q9
        clear nxa nxb
        have hfin : thn (f, h, 0) (fun t _ => sTk b nn ch t) = (1, h, 0) := by
          refine (thn_k q0).trans ?_
          show sTk b nn ch h = _
          unfold sTk
          repeat (first | with_reducible rfl | refine ite_y (by omega) ?_ | refine ite_n (by omega) ?_ | exact pr_e (by omega) (by omega) (by omega) | refine ite_y (pCf_ok (by omega) (by omega)) ?_ | refine ite_n (fun e9 => absurd (pCf_0 e9) (by omega)) ?_ | exact pr_e (pCf_no (by omega)) (by omega) (by omega) | exact pr_e (pCf_big (by omega) (by omega)) (by omega) (by omega))
        exact g_vret F hr hlk hH hS hz ⟨rfl, rfl, rfl, rfl, hv, pf, by first | omega | rfl | (dsimp only; omega), by first | omega | rfl | (dsimp only; omega), by (try dsimp only); rw [hfin]; exact hQ⟩ dX7_mustSign_24
  · have hf1 := mQ_f hQ q0
    refine lv_aload_n F.1 F.2.1 dX7_mustSign_0 rfl (lv_at hl 0 rfl) ?_
    refine g_getI (ci := 7) (k := 24) F hH rfl (by decide) iX7 hm (by decide) rfl k81 dX7_mustSign_1 ?_
    have b_45 := mJ hv hm
    unfold mNum1 at b_45
    refine z_if_ne (tgt := 20) F dX7_mustSign_4 (by decide) (zr_t _) (fun c_46 => ?_) (fun c_46 => ?_)
    · refine lv_aload_n F.1 F.2.1 dX7_mustSign_20 rfl (lv_at hl 0 rfl) ?_
      refine g_callv (g_runV (As := []) (rest := []) (ci := 7) F hl.1 hH hS hz (c_X7_nextf l g gh T b nn (tNd b nn (tPs b nn h)) I R J AI AJ AR mo hv hm hT (by omega) (mTp hv h65 hbM) hr7 (by omega) (by omega) (mQ_e0 hQ) tNd_le.1) (cwV 0 F.2.2.2.2.1 (good_up gT_X7_next) rfl rfl rfl hdX7_next ⟨Nat.le_of_ble_eq_true rfl, Nat.le_of_ble_eq_true rfl⟩) hm (by decide) rfl rfl rfl (Nat.le_of_ble_eq_true rfl) dX7_mustSign_21 ⟨Nat.zero_le _, Nat.zero_le _⟩) hS (fun I_47 R_48 J_49 AI_50 AJ_51 AR_52 H locs hp_53 hH hS => ?_)
      dsimp only at hp_53
      obtain ⟨rfl, rfl, rfl, rfl, hv, pfq, q_54, nx4, nxa, nxb⟩ := hp_53
      have pf := qF_t pf pfq
      have u_55_2 : (I_47 mo 2).toInt = (I mo 2).toInt := by rw [pf 2 (by decide) (by decide) (by decide) (by decide) (by decide)]
      have u_55_5 : (I_47 mo 5).toInt = (I mo 5).toInt := by rw [pf 5 (by decide) (by decide) (by decide) (by decide) (by decide)]
      have u_55_14 : (I_47 mo 14).toInt = (I mo 14).toInt := by rw [pf 14 (by decide) (by decide) (by decide) (by decide) (by decide)]
      have u_55_16 : (I_47 mo 16).toInt = (I mo 16).toInt := by rw [pf 16 (by decide) (by decide) (by decide) (by decide) (by decide)]
      have u_55_18 : (I_47 mo 18).toInt = (I mo 18).toInt := by rw [pf 18 (by decide) (by decide) (by decide) (by decide) (by decide)]
      have hQ : mQ gh I_47 J_49 AI AJ mo b nn nr nt cc f h := by have q9 := mQ_nx hQ nx4 nxa; rw [thn_b (by omega)] at q9; exact q9
      clear nxa nxb
      have hfin : thn (f, h, 0) (fun t _ => sTk b nn ch t) = (f, h, 0) := thn_b q0
      exact g_vret F hr hlk hH hS hz ⟨rfl, rfl, rfl, rfl, hv, pf, by first | omega | rfl | (dsimp only; omega), by first | omega | rfl | (dsimp only; omega), by (try dsimp only); rw [hfin]; exact hQ⟩ dX7_mustSign_24
    · exact absurd (mQ_z hQ (by omega)) (by omega)

def rmX7_mustWordf : Room := { frames := 6, cells := 0, slots := 0, locals := 129 }
set_option maxHeartbeats 4000000 in
set_option maxRecDepth 100000 in
/-- must be the word -/
theorem c_X7_mustWordf (l : Launch) (g : gG) (gh : gGh) (T : Nat → Int32) (i : Nat) (q : String × Nat × String × List Int32) (w7 : Nat) (b : tTx) (nn nr : Nat) (nt : Nat → Nat) (cc : Nat → Int) (f : Int) (h : Nat) (I : gI) (R : gR) (J : gJ) (AI : gI) (AJ : gJ) (AR : gR) (mo : Nat) (hv : mInv g gh R I AI) (hm : gO g mo 7) (hT : AI (gh 50 0) = T) (hE : (I mo 20).toInt ≤ 936) (hq : sTab[i]? = some q) (h65 : gh 9 (gh 65 0) ≠ 5) (hbM : ∀ k : Nat, k < nn → ((gM g).2 (gh 65 0) k).toInt = b k % 256) (hr7 : ∀ k : Nat, -128 ≤ b k ∧ b k ≤ 127) (hsz : (I mo 18).toInt = (nn : Int)) (hn9 : nn ≤ 900) (hm5 : (I mo 5).toInt = (nr : Int)) (hl8 : q.2.2.2.length ≤ 8) (hw7 : w7 < 20 ∧ tMw (fun k9 : Nat => (q.2.2.2.getD k9 0).toInt) 0 q.2.2.2.length = tMw wCh (wSt w7) (wLn w7)) (hQ : mQ gh I J AI AJ mo b nn nr nt cc f h) : gMet l g yX7_mustWord tsX7_mustWord rmX7_mustWordf [.ref mo, .ref (gSK g i)] (I, R, J, AI, AJ, AR) (gQv g (fun w : gS => R = w.2.1 ∧ AI = w.2.2.2.1 ∧ AJ = w.2.2.2.2.1 ∧ AR = w.2.2.2.2.2 ∧ (mInv g gh R (w.1) AI) ∧ (qF mo I (w.1)) ∧ (((w.1) mo 20).toInt ≤ 936 ∧ (I mo 24).toInt ≤ ((w.1) mo 24).toInt) ∧ (mQ gh (w.1) (w.2.2.1) AI AJ mo b nn nr nt cc (thn (f, h, 0) (fun t _ => sTw b nn ((w7 : Nat) : Int) t)).1 (thn (f, h, 0) (fun t _ => sTw b nn ((w7 : Nat) : Int) t)).2.1))) := by
  refine gStart (cc := cX7_mustWord) (maxL := 2) (ret := none) (by decide) rfl (Nat.le_of_ble_eq_true rfl) ?_
  intro p e s m below meth c ls F hr hlk hH hz hS hl
  have hl : lv_has ls 2 [(0, .ref mo), (1, .ref (gSK g i))] := hl
  have hS : va_S (gA g) s.heap s.heap [] := hS
  obtain ⟨H, hHe⟩ : ∃ H : Heap, H = s.heap := ⟨_, rfl⟩
  obtain ⟨locs, hlo⟩ : ∃ k : List Loc, k = [] := ⟨_, rfl⟩
  have hH : gH g I R J AI AJ AR H := by rw [hHe]; exact hH
  have hS : va_S (gA g) s.heap H locs := by rw [hHe, hlo]; exact hS
  suffices hw : W p l e rmX7_mustWordf s m ([.ref mo, .ref (gSK g i)] : List Value).toArray below meth c H locs 0 0 (MQ below (gQv g (fun w : gS => R = w.2.1 ∧ AI = w.2.2.2.1 ∧ AJ = w.2.2.2.2.1 ∧ AR = w.2.2.2.2.2 ∧ (mInv g gh R (w.1) AI) ∧ (qF mo I (w.1)) ∧ (((w.1) mo 20).toInt ≤ 936 ∧ (I mo 24).toInt ≤ ((w.1) mo 24).toInt) ∧ (mQ gh (w.1) (w.2.2.1) AI AJ mo b nn nr nt cc (thn (f, h, 0) (fun t _ => sTw b nn ((w7 : Nat) : Int) t)).1 (thn (f, h, 0) (fun t _ => sTw b nn ((w7 : Nat) : Int) t)).2.1))) ([.ref mo, .ref (gSK g i)] : List Value).toArray s 0 0 (gA g)) (F0 m 0 ls []) by
    rw [hHe, hlo] at hw; exact hw
  clear hHe hlo
  have pf : qF mo I I := qF_r
  have hb0 := mJ hv hm
  unfold mNum1 at hb0
  have hlen := sTab_len hq
  have iX7 : ∀ w ∈ u_ws RX7 TX7 32, w ∈ tsX7_mustWord := fun w h => List.mem_cons_of_mem _ (inTB7 w h)
  have k81 : Cond.fieldLink RX7 81 (TX7 24).1 (TX7 24).2.1 (TX7 24).2.2.1 ∈ tsX7_mustWord := List.mem_cons_of_mem _ fl_81
  have hf0 := mQ_p hQ
  by_cases q0 : f = 0
  · have hQ := mQ_ok hQ q0
    have hz0 := mQ_0 hQ rfl
    refine lv_aload_n F.1 F.2.1 dX7_mustWord_0 rfl (lv_at hl 0 rfl) ?_
    refine g_getI (ci := 7) (k := 24) F hH rfl (by decide) iX7 hm (by decide) rfl k81 dX7_mustWord_1 ?_
    have b_1 := mJ hv hm
    unfold mNum1 at b_1
    refine z_if_ne (tgt := 20) F dX7_mustWord_4 (by decide) (zr_t _) (fun c_2 => ?_) (fun c_2 => ?_)
    · exact absurd (mQ_0 hQ rfl) (by omega)
    · refine lv_aload_n F.1 F.2.1 dX7_mustWord_7 rfl (lv_at hl 0 rfl) ?_
      refine lv_aload_n F.1 F.2.1 dX7_mustWord_8 rfl (lv_at hl 1 rfl) ?_
      refine g_calli (g_runV (As := [.ref (gSK g i)]) (rest := []) (ci := 7) F hl.1 hH hS hz (c_X7_isWordf l g gh T i q w7 b nn nr nt cc 0 h I R J AI AJ AR mo hv hm hT hq hl8 hw7 h65 hbM hr7 (by omega) hn9 (by omega) hQ) (cwV 1 F.2.2.2.2.1 (good_up gT_X7_isWord) rfl rfl rfl hdX7_isWord ⟨Nat.le_of_ble_eq_true rfl, Nat.le_of_ble_eq_true rfl⟩) hm (by decide) rfl rfl rfl (Nat.le_of_ble_eq_true rfl) dX7_mustWord_9 ⟨Nat.zero_le _, Nat.zero_le _⟩) hS (fun v_9 I_3 R_4 J_5 AI_6 AJ_7 AR_8 H locs zv_9 hp_10 hH hS => ?_)
      dsimp only at hp_10
      obtain ⟨rfl, rfl, rfl, rfl, rfl, rfl, q_11, q_12⟩ := hp_10
      refine z_if_ne (tgt := 20) F dX7_mustWord_12 (by decide) zv_9 (fun c_13 => ?_) (fun c_13 => ?_)
      · have t_14 := tIz_1 q_12 (by omega)
        refine lv_aload_n F.1 F.2.1 dX7_mustWord_20 rfl (lv_at hl 0 rfl) ?_
        refine g_callv (g_runV (As := []) (rest := []) (ci := 7) F hl.1 hH hS hz (c_X7_nextf l g gh T b nn (tNd b nn (tPs b nn h)) I R J AI AJ AR mo hv hm hT (by omega) (mTp hv h65 hbM) hr7 (by omega) (by omega) (mQ_e0 hQ) tNd_le.1) (cwV 0 F.2.2.2.2.1 (good_up gT_X7_next) rfl rfl rfl hdX7_next ⟨Nat.le_of_ble_eq_true rfl, Nat.le_of_ble_eq_true rfl⟩) hm (by decide) rfl rfl rfl (Nat.le_of_ble_eq_true rfl) dX7_mustWord_21 ⟨Nat.zero_le _, Nat.zero_le _⟩) hS (fun I_15 R_16 J_17 AI_18 AJ_19 AR_20 H locs hp_21 hH hS => ?_)
        dsimp only at hp_21
        obtain ⟨rfl, rfl, rfl, rfl, hv, pfq, q_22, nx4, nxa, nxb⟩ := hp_21
        have pf := qF_t pf pfq
        have u_23_2 : (I_15 mo 2).toInt = (I mo 2).toInt := by rw [pf 2 (by decide) (by decide) (by decide) (by decide) (by decide)]
        have u_23_5 : (I_15 mo 5).toInt = (I mo 5).toInt := by rw [pf 5 (by decide) (by decide) (by decide) (by decide) (by decide)]
        have u_23_14 : (I_15 mo 14).toInt = (I mo 14).toInt := by rw [pf 14 (by decide) (by decide) (by decide) (by decide) (by decide)]
        have u_23_16 : (I_15 mo 16).toInt = (I mo 16).toInt := by rw [pf 16 (by decide) (by decide) (by decide) (by decide) (by decide)]
        have u_23_18 : (I_15 mo 18).toInt = (I mo 18).toInt := by rw [pf 18 (by decide) (by decide) (by decide) (by decide) (by decide)]
        have hQ : mQ gh I_15 J_17 AI AJ mo b nn nr nt cc 0 (h + 1) := mQ_nx hQ nx4 nxa
        clear nxa nxb
        have hfin : thn (f, h, 0) (fun t _ => sTw b nn ((w7 : Nat) : Int) t) = (0, h + 1, 0) := by
          refine (thn_k q0).trans ?_
          show sTw b nn ((w7 : Nat) : Int) h = _
          unfold sTw
          repeat (first | with_reducible rfl | refine ite_y (by omega) ?_ | refine ite_n (by omega) ?_ | exact pr_e (by omega) (by omega) (by omega) | refine ite_y (pCf_ok (by omega) (by omega)) ?_ | refine ite_n (fun e9 => absurd (pCf_0 e9) (by omega)) ?_ | exact pr_e (pCf_no (by omega)) (by omega) (by omega) | exact pr_e (pCf_big (by omega) (by omega)) (by omega) (by omega))
        exact g_vret F hr hlk hH hS hz ⟨rfl, rfl, rfl, rfl, hv, pf, by first | omega | rfl | (dsimp only; omega), by (try dsimp only); rw [hfin]; exact hQ⟩ dX7_mustWord_24
      · have t_24 := tIz_0 q_12 (by omega)
        refine lv_aload_n F.1 F.2.1 dX7_mustWord_15 rfl (lv_at hl 0 rfl) ?_
        refine z_iconst F dX7_mustWord_16 ?_
        refine g_callv (g_runV (As := [.int (iI 1)]) (rest := []) (ci := 7) F hl.1 hH hS hz (c_X7_wrongf l g gh T b nn nr nt cc 0 h I R J AI AJ AR mo 1 ⟨by decide, by decide⟩ hv hm hT (by omega) h65 hbM hr7 (by omega) hn9 (by omega) hQ) (cwV 1 F.2.2.2.2.1 (good_up gT_X7_wrong) rfl rfl rfl hdX7_wrong ⟨Nat.le_of_ble_eq_true rfl, Nat.le_of_ble_eq_true rfl⟩) hm (by decide) rfl rfl rfl (Nat.le_of_ble_eq_true rfl) dX7_mustWord_17 ⟨Nat.zero_le _, Nat.zero_le _⟩) hS (fun I_25 R_26 J_27 AI_28 AJ_29 AR_30 H locs hp_31 hH hS => ?_)
        dsimp only at hp_31
        obtain ⟨r_32, er_32⟩ : ∃ qQ : pR, qQ = thn (0, h, 0) (fun t _ => (1, t, 0)) := ⟨_, rfl⟩
        rw [← er_32] at hp_31
        obtain ⟨rfl, rfl, rfl, rfl, rfl, hv, pfq, q_33, hQ⟩ := hp_31
        have pf := qF_t pf pfq
        have u_34_2 : (I_25 mo 2).toInt = (I mo 2).toInt := by rw [pf 2 (by decide) (by decide) (by decide) (by decide) (by decide)]
        have u_34_5 : (I_25 mo 5).toInt = (I mo 5).toInt := by rw [pf 5 (by decide) (by decide) (by decide) (by decide) (by decide)]
        have u_34_14 : (I_25 mo 14).toInt = (I mo 14).toInt := by rw [pf 14 (by decide) (by decide) (by decide) (by decide) (by decide)]
        have u_34_16 : (I_25 mo 16).toInt = (I mo 16).toInt := by rw [pf 16 (by decide) (by decide) (by decide) (by decide) (by decide)]
        have u_34_18 : (I_25 mo 18).toInt = (I mo 18).toInt := by rw [pf 18 (by decide) (by decide) (by decide) (by decide) (by decide)]
        have er_32 : r_32 = (1, h, 0) := er_32
        have hQ : mQ gh I_25 J AI AJ mo b nn nr nt cc 1 h := by rw [er_32] at hQ; exact hQ
        have q9_r_32 : (1 : Int) ≠ 0 := by omega
        have g9_r_32 := mQ_f hQ q9_r_32
        refine lv_aload_n F.1 F.2.1 dX7_mustWord_20 rfl (lv_at hl 0 rfl) ?_
        have b_35 := mJ hv hm
        unfold mNum1 at b_35
        refine g_callv (g_runV (As := []) (rest := []) (ci := 7) F hl.1 hH hS hz (c_X7_nextf l g gh T b nn (tNd b nn (tPs b nn h)) I_25 R J AI AJ AR mo hv hm hT (by omega) (mTp hv h65 hbM) hr7 (by omega) (by omega) (mQ_e0 hQ) tNd_le.1) (cwV 0 F.2.2.2.2.1 (good_up gT_X7_next) rfl rfl rfl hdX7_next ⟨Nat.le_of_ble_eq_true rfl, Nat.le_of_ble_eq_true rfl⟩) hm (by decide) rfl rfl rfl (Nat.le_of_ble_eq_true rfl) dX7_mustWord_21 ⟨Nat.zero_le _, Nat.zero_le _⟩) hS (fun I_36 R_37 J_38 AI_39 AJ_40 AR_41 H locs hp_42 hH hS => ?_)
        dsimp only at hp_42
        obtain ⟨rfl, rfl, rfl, rfl, hv, pfq, q_43, nx4, nxa, nxb⟩ := hp_42
        have pf := qF_t pf pfq
        have u_44_2 : (I_36 mo 2).toInt = (I mo 2).toInt := by rw [pf 2 (by decide) (by decide) (by decide) (by decide) (by decide)]
        have u_44_5 : (I_36 mo 5).toInt = (I mo 5).toInt := by rw [pf 5 (by decide) (by decide) (by decide) (by decide) (by decide)]
        have u_44_14 : (I_36 mo 14).toInt = (I mo 14).toInt := by rw [pf 14 (by decide) (by decide) (by decide) (by decide) (by decide)]
        have u_44_16 : (I_36 mo 16).toInt = (I mo 16).toInt := by rw [pf 16 (by decide) (by decide) (by decide) (by decide) (by decide)]
        have u_44_18 : (I_36 mo 18).toInt = (I mo 18).toInt := by rw [pf 18 (by decide) (by decide) (by decide) (by decide) (by decide)]
        have hQ : mQ gh I_36 J_38 AI AJ mo b nn nr nt cc 1 h := by have q9 := mQ_nx hQ nx4 nxa; rw [thn_b (by omega)] at q9; exact q9
        clear nxa nxb
        have hfin : thn (f, h, 0) (fun t _ => sTw b nn ((w7 : Nat) : Int) t) = (1, h, 0) := by
          refine (thn_k q0).trans ?_
          show sTw b nn ((w7 : Nat) : Int) h = _
          unfold sTw
          repeat (first | with_reducible rfl | refine ite_y (by omega) ?_ | refine ite_n (by omega) ?_ | exact pr_e (by omega) (by omega) (by omega) | refine ite_y (pCf_ok (by omega) (by omega)) ?_ | refine ite_n (fun e9 => absurd (pCf_0 e9) (by omega)) ?_ | exact pr_e (pCf_no (by omega)) (by omega) (by omega) | exact pr_e (pCf_big (by omega) (by omega)) (by omega) (by omega))
        exact g_vret F hr hlk hH hS hz ⟨rfl, rfl, rfl, rfl, hv, pf, by first | omega | rfl | (dsimp only; omega), by (try dsimp only); rw [hfin]; exact hQ⟩ dX7_mustWord_24
  · have hf1 := mQ_f hQ q0
    refine lv_aload_n F.1 F.2.1 dX7_mustWord_0 rfl (lv_at hl 0 rfl) ?_
    refine g_getI (ci := 7) (k := 24) F hH rfl (by decide) iX7 hm (by decide) rfl k81 dX7_mustWord_1 ?_
    have b_45 := mJ hv hm
    unfold mNum1 at b_45
    refine z_if_ne (tgt := 20) F dX7_mustWord_4 (by decide) (zr_t _) (fun c_46 => ?_) (fun c_46 => ?_)
    · refine lv_aload_n F.1 F.2.1 dX7_mustWord_20 rfl (lv_at hl 0 rfl) ?_
      refine g_callv (g_runV (As := []) (rest := []) (ci := 7) F hl.1 hH hS hz (c_X7_nextf l g gh T b nn (tNd b nn (tPs b nn h)) I R J AI AJ AR mo hv hm hT (by omega) (mTp hv h65 hbM) hr7 (by omega) (by omega) (mQ_e0 hQ) tNd_le.1) (cwV 0 F.2.2.2.2.1 (good_up gT_X7_next) rfl rfl rfl hdX7_next ⟨Nat.le_of_ble_eq_true rfl, Nat.le_of_ble_eq_true rfl⟩) hm (by decide) rfl rfl rfl (Nat.le_of_ble_eq_true rfl) dX7_mustWord_21 ⟨Nat.zero_le _, Nat.zero_le _⟩) hS (fun I_47 R_48 J_49 AI_50 AJ_51 AR_52 H locs hp_53 hH hS => ?_)
      dsimp only at hp_53
      obtain ⟨rfl, rfl, rfl, rfl, hv, pfq, q_54, nx4, nxa, nxb⟩ := hp_53
      have pf := qF_t pf pfq
      have u_55_2 : (I_47 mo 2).toInt = (I mo 2).toInt := by rw [pf 2 (by decide) (by decide) (by decide) (by decide) (by decide)]
      have u_55_5 : (I_47 mo 5).toInt = (I mo 5).toInt := by rw [pf 5 (by decide) (by decide) (by decide) (by decide) (by decide)]
      have u_55_14 : (I_47 mo 14).toInt = (I mo 14).toInt := by rw [pf 14 (by decide) (by decide) (by decide) (by decide) (by decide)]
      have u_55_16 : (I_47 mo 16).toInt = (I mo 16).toInt := by rw [pf 16 (by decide) (by decide) (by decide) (by decide) (by decide)]
      have u_55_18 : (I_47 mo 18).toInt = (I mo 18).toInt := by rw [pf 18 (by decide) (by decide) (by decide) (by decide) (by decide)]
      have hQ : mQ gh I_47 J_49 AI AJ mo b nn nr nt cc f h := by have q9 := mQ_nx hQ nx4 nxa; rw [thn_b (by omega)] at q9; exact q9
      clear nxa nxb
      have hfin : thn (f, h, 0) (fun t _ => sTw b nn ((w7 : Nat) : Int) t) = (f, h, 0) := thn_b q0
      exact g_vret F hr hlk hH hS hz ⟨rfl, rfl, rfl, rfl, hv, pf, by first | omega | rfl | (dsimp only; omega), by (try dsimp only); rw [hfin]; exact hQ⟩ dX7_mustWord_24
    · exact absurd (mQ_z hQ (by omega)) (by omega)

def rmX7_isReservedf : Room := { frames := 6, cells := 0, slots := 0, locals := 129 }
set_option maxHeartbeats 4000000 in
set_option maxRecDepth 100000 in
/-- reserved -/
theorem c_X7_isReservedf (l : Launch) (g : gG) (gh : gGh) (T : Nat → Int32) (b : tTx) (nn nr : Nat) (nt : Nat → Nat) (cc : Nat → Int) (f : Int) (h : Nat) (I : gI) (R : gR) (J : gJ) (AI : gI) (AJ : gJ) (AR : gR) (mo : Nat) (hv : mInv g gh R I AI) (hm : gO g mo 7) (hT : AI (gh 50 0) = T) (h65 : gh 9 (gh 65 0) ≠ 5) (hbM : ∀ k : Nat, k < nn → ((gM g).2 (gh 65 0) k).toInt = b k % 256) (hr7 : ∀ k : Nat, -128 ≤ b k ∧ b k ≤ 127) (hsz : (I mo 18).toInt = (nn : Int)) (hn9 : nn ≤ 900) (hm5 : (I mo 5).toInt = (nr : Int)) (hQ : mQ gh I J AI AJ mo b nn nr nt cc f h) : gMet l g yX7_isReserved tsX7_isReserved rmX7_isReservedf [.ref mo] (I, R, J, AI, AJ, AR) (gQi g (fun (z : Int) (w : gS) => I = w.1 ∧ R = w.2.1 ∧ J = w.2.2.1 ∧ AI = w.2.2.2.1 ∧ AJ = w.2.2.2.2.1 ∧ AR = w.2.2.2.2.2 ∧ (z = 0 ∨ z = 1) ∧ (tIz z (f = 0 ∧ pK b nn h = 3 ∧ 0 ≤ pV b nn h)))) := by
  refine gStart (cc := cX7_isReserved) (maxL := 1) (ret := (some (.boolean))) (by decide) rfl (Nat.le_of_ble_eq_true rfl) ?_
  intro p e s m below meth c ls F hr hlk hH hz hS hl
  have hl : lv_has ls 1 [(0, .ref mo)] := hl
  have hS : va_S (gA g) s.heap s.heap [] := hS
  obtain ⟨H, hHe⟩ : ∃ H : Heap, H = s.heap := ⟨_, rfl⟩
  obtain ⟨locs, hlo⟩ : ∃ k : List Loc, k = [] := ⟨_, rfl⟩
  have hH : gH g I R J AI AJ AR H := by rw [hHe]; exact hH
  have hS : va_S (gA g) s.heap H locs := by rw [hHe, hlo]; exact hS
  suffices hw : W p l e rmX7_isReservedf s m ([.ref mo] : List Value).toArray below meth c H locs 0 0 (MQ below (gQi g (fun (z : Int) (w : gS) => I = w.1 ∧ R = w.2.1 ∧ J = w.2.2.1 ∧ AI = w.2.2.2.1 ∧ AJ = w.2.2.2.2.1 ∧ AR = w.2.2.2.2.2 ∧ (z = 0 ∨ z = 1) ∧ (tIz z (f = 0 ∧ pK b nn h = 3 ∧ 0 ≤ pV b nn h)))) ([.ref mo] : List Value).toArray s 0 0 (gA g)) (F0 m 0 ls []) by
    rw [hHe, hlo] at hw; exact hw
  clear hHe hlo
  have hno : ∀ w ∈ ([] : List Int), ¬ (f = 0 ∧ pK b nn h = 3 ∧ pV b nn h = w) := fun w hw => absurd hw List.not_mem_nil
  refine lv_aload_n F.1 F.2.1 dX7_isReserved_0 rfl (lv_at hl 0 rfl) ?_
  refine va_ldcS F.1 F.2.1 F.2.2.2.1 (F.2.2.2.2.2.2.1 7 _ rfl).1 dX7_isReserved_1 ?_
  have b_1 := mJ hv hm
  unfold mNum1 at b_1
  refine g_calli (g_runV (As := [.ref (gSK g 7)]) (rest := []) (ci := 7) F hl.1 hH hS hz (c_X7_isWordf l g gh T 7 _ 0 b nn nr nt cc f h I R J AI AJ AR mo hv hm hT (rfl : sTab[7]? = some _) (by decide) (by decide +kernel) h65 hbM hr7 (by omega) hn9 (by omega) hQ) (cwV 1 F.2.2.2.2.1 (good_up gT_X7_isWord) rfl rfl rfl hdX7_isWord ⟨Nat.le_of_ble_eq_true rfl, Nat.le_of_ble_eq_true rfl⟩) hm (by decide) rfl rfl rfl (Nat.le_of_ble_eq_true rfl) dX7_isReserved_3 ⟨Nat.zero_le _, Nat.zero_le _⟩) hS (fun v_8 I_2 R_3 J_4 AI_5 AJ_6 AR_7 H locs zv_8 hp_9 hH hS => ?_)
  dsimp only at hp_9
  obtain ⟨rfl, rfl, rfl, rfl, rfl, rfl, q_10, q_11⟩ := hp_9
  refine z_if_ne (tgt := 54) F dX7_isReserved_6 (by decide) zv_8 (fun c_12 => ?_) (fun c_12 => ?_)
  · have hyes := tIz_1 q_11 (by omega)
    refine z_iconst F dX7_isReserved_54 ?_
    exact g_zret F hr hlk hH hS hz (by omega) ⟨rfl, rfl, rfl, rfl, rfl, rfl, by first | omega | rfl | (dsimp only; omega), by first | exact tIz_t (mRs_y hyes (by omega)) | exact tIz_f (mRs_n hno (by decide))⟩ dX7_isReserved_55
  · have hno : ∀ w ∈ [(0 : Int)], ¬ (f = 0 ∧ pK b nn h = 3 ∧ pV b nn h = w) := mRs hno (tIz_0 q_11 (by omega))
    refine lv_aload_n F.1 F.2.1 dX7_isReserved_9 rfl (lv_at hl 0 rfl) ?_
    refine va_ldcS F.1 F.2.1 F.2.2.2.1 (F.2.2.2.2.2.2.1 8 _ rfl).1 dX7_isReserved_10 ?_
    refine g_calli (g_runV (As := [.ref (gSK g 8)]) (rest := []) (ci := 7) F hl.1 hH hS hz (c_X7_isWordf l g gh T 8 _ 9 b nn nr nt cc f h I R J AI AJ AR mo hv hm hT (rfl : sTab[8]? = some _) (by decide) (by decide +kernel) h65 hbM hr7 (by omega) hn9 (by omega) hQ) (cwV 1 F.2.2.2.2.1 (good_up gT_X7_isWord) rfl rfl rfl hdX7_isWord ⟨Nat.le_of_ble_eq_true rfl, Nat.le_of_ble_eq_true rfl⟩) hm (by decide) rfl rfl rfl (Nat.le_of_ble_eq_true rfl) dX7_isReserved_12 ⟨Nat.zero_le _, Nat.zero_le _⟩) hS (fun v_19 I_13 R_14 J_15 AI_16 AJ_17 AR_18 H locs zv_19 hp_20 hH hS => ?_)
    dsimp only at hp_20
    obtain ⟨rfl, rfl, rfl, rfl, rfl, rfl, q_21, q_22⟩ := hp_20
    refine z_if_ne (tgt := 54) F dX7_isReserved_15 (by decide) zv_19 (fun c_23 => ?_) (fun c_23 => ?_)
    · have hyes := tIz_1 q_22 (by omega)
      refine z_iconst F dX7_isReserved_54 ?_
      exact g_zret F hr hlk hH hS hz (by omega) ⟨rfl, rfl, rfl, rfl, rfl, rfl, by first | omega | rfl | (dsimp only; omega), by first | exact tIz_t (mRs_y hyes (by omega)) | exact tIz_f (mRs_n hno (by decide))⟩ dX7_isReserved_55
    · have hno : ∀ w ∈ [(9 : Int), (0 : Int)], ¬ (f = 0 ∧ pK b nn h = 3 ∧ pV b nn h = w) := mRs hno (tIz_0 q_22 (by omega))
      refine lv_aload_n F.1 F.2.1 dX7_isReserved_18 rfl (lv_at hl 0 rfl) ?_
      refine va_ldcS F.1 F.2.1 F.2.2.2.1 (F.2.2.2.2.2.2.1 9 _ rfl).1 dX7_isReserved_19 ?_
      refine g_calli (g_runV (As := [.ref (gSK g 9)]) (rest := []) (ci := 7) F hl.1 hH hS hz (c_X7_isWordf l g gh T 9 _ 1 b nn nr nt cc f h I R J AI AJ AR mo hv hm hT (rfl : sTab[9]? = some _) (by decide) (by decide +kernel) h65 hbM hr7 (by omega) hn9 (by omega) hQ) (cwV 1 F.2.2.2.2.1 (good_up gT_X7_isWord) rfl rfl rfl hdX7_isWord ⟨Nat.le_of_ble_eq_true rfl, Nat.le_of_ble_eq_true rfl⟩) hm (by decide) rfl rfl rfl (Nat.le_of_ble_eq_true rfl) dX7_isReserved_21 ⟨Nat.zero_le _, Nat.zero_le _⟩) hS (fun v_30 I_24 R_25 J_26 AI_27 AJ_28 AR_29 H locs zv_30 hp_31 hH hS => ?_)
      dsimp only at hp_31
      obtain ⟨rfl, rfl, rfl, rfl, rfl, rfl, q_32, q_33⟩ := hp_31
      refine z_if_ne (tgt := 54) F dX7_isReserved_24 (by decide) zv_30 (fun c_34 => ?_) (fun c_34 => ?_)
      · have hyes := tIz_1 q_33 (by omega)
        refine z_iconst F dX7_isReserved_54 ?_
        exact g_zret F hr hlk hH hS hz (by omega) ⟨rfl, rfl, rfl, rfl, rfl, rfl, by first | omega | rfl | (dsimp only; omega), by first | exact tIz_t (mRs_y hyes (by omega)) | exact tIz_f (mRs_n hno (by decide))⟩ dX7_isReserved_55
      · have hno : ∀ w ∈ [(1 : Int), (9 : Int), (0 : Int)], ¬ (f = 0 ∧ pK b nn h = 3 ∧ pV b nn h = w) := mRs hno (tIz_0 q_33 (by omega))
        refine lv_aload_n F.1 F.2.1 dX7_isReserved_27 rfl (lv_at hl 0 rfl) ?_
        refine va_ldcS F.1 F.2.1 F.2.2.2.1 (F.2.2.2.2.2.2.1 10 _ rfl).1 dX7_isReserved_28 ?_
        refine g_calli (g_runV (As := [.ref (gSK g 10)]) (rest := []) (ci := 7) F hl.1 hH hS hz (c_X7_isWordf l g gh T 10 _ 10 b nn nr nt cc f h I R J AI AJ AR mo hv hm hT (rfl : sTab[10]? = some _) (by decide) (by decide +kernel) h65 hbM hr7 (by omega) hn9 (by omega) hQ) (cwV 1 F.2.2.2.2.1 (good_up gT_X7_isWord) rfl rfl rfl hdX7_isWord ⟨Nat.le_of_ble_eq_true rfl, Nat.le_of_ble_eq_true rfl⟩) hm (by decide) rfl rfl rfl (Nat.le_of_ble_eq_true rfl) dX7_isReserved_30 ⟨Nat.zero_le _, Nat.zero_le _⟩) hS (fun v_41 I_35 R_36 J_37 AI_38 AJ_39 AR_40 H locs zv_41 hp_42 hH hS => ?_)
        dsimp only at hp_42
        obtain ⟨rfl, rfl, rfl, rfl, rfl, rfl, q_43, q_44⟩ := hp_42
        refine z_if_ne (tgt := 54) F dX7_isReserved_33 (by decide) zv_41 (fun c_45 => ?_) (fun c_45 => ?_)
        · have hyes := tIz_1 q_44 (by omega)
          refine z_iconst F dX7_isReserved_54 ?_
          exact g_zret F hr hlk hH hS hz (by omega) ⟨rfl, rfl, rfl, rfl, rfl, rfl, by first | omega | rfl | (dsimp only; omega), by first | exact tIz_t (mRs_y hyes (by omega)) | exact tIz_f (mRs_n hno (by decide))⟩ dX7_isReserved_55
        · have hno : ∀ w ∈ [(10 : Int), (1 : Int), (9 : Int), (0 : Int)], ¬ (f = 0 ∧ pK b nn h = 3 ∧ pV b nn h = w) := mRs hno (tIz_0 q_44 (by omega))
          refine lv_aload_n F.1 F.2.1 dX7_isReserved_36 rfl (lv_at hl 0 rfl) ?_
          refine va_ldcS F.1 F.2.1 F.2.2.2.1 (F.2.2.2.2.2.2.1 11 _ rfl).1 dX7_isReserved_37 ?_
          refine g_calli (g_runV (As := [.ref (gSK g 11)]) (rest := []) (ci := 7) F hl.1 hH hS hz (c_X7_isWordf l g gh T 11 _ 11 b nn nr nt cc f h I R J AI AJ AR mo hv hm hT (rfl : sTab[11]? = some _) (by decide) (by decide +kernel) h65 hbM hr7 (by omega) hn9 (by omega) hQ) (cwV 1 F.2.2.2.2.1 (good_up gT_X7_isWord) rfl rfl rfl hdX7_isWord ⟨Nat.le_of_ble_eq_true rfl, Nat.le_of_ble_eq_true rfl⟩) hm (by decide) rfl rfl rfl (Nat.le_of_ble_eq_true rfl) dX7_isReserved_39 ⟨Nat.zero_le _, Nat.zero_le _⟩) hS (fun v_52 I_46 R_47 J_48 AI_49 AJ_50 AR_51 H locs zv_52 hp_53 hH hS => ?_)
          dsimp only at hp_53
          obtain ⟨rfl, rfl, rfl, rfl, rfl, rfl, q_54, q_55⟩ := hp_53
          refine z_if_ne (tgt := 54) F dX7_isReserved_42 (by decide) zv_52 (fun c_56 => ?_) (fun c_56 => ?_)
          · have hyes := tIz_1 q_55 (by omega)
            refine z_iconst F dX7_isReserved_54 ?_
            exact g_zret F hr hlk hH hS hz (by omega) ⟨rfl, rfl, rfl, rfl, rfl, rfl, by first | omega | rfl | (dsimp only; omega), by first | exact tIz_t (mRs_y hyes (by omega)) | exact tIz_f (mRs_n hno (by decide))⟩ dX7_isReserved_55
          · have hno : ∀ w ∈ [(11 : Int), (10 : Int), (1 : Int), (9 : Int), (0 : Int)], ¬ (f = 0 ∧ pK b nn h = 3 ∧ pV b nn h = w) := mRs hno (tIz_0 q_55 (by omega))
            refine lv_aload_n F.1 F.2.1 dX7_isReserved_45 rfl (lv_at hl 0 rfl) ?_
            refine va_ldcS F.1 F.2.1 F.2.2.2.1 (F.2.2.2.2.2.2.1 12 _ rfl).1 dX7_isReserved_46 ?_
            refine g_calli (g_runV (As := [.ref (gSK g 12)]) (rest := []) (ci := 7) F hl.1 hH hS hz (c_X7_isWordf l g gh T 12 _ 2 b nn nr nt cc f h I R J AI AJ AR mo hv hm hT (rfl : sTab[12]? = some _) (by decide) (by decide +kernel) h65 hbM hr7 (by omega) hn9 (by omega) hQ) (cwV 1 F.2.2.2.2.1 (good_up gT_X7_isWord) rfl rfl rfl hdX7_isWord ⟨Nat.le_of_ble_eq_true rfl, Nat.le_of_ble_eq_true rfl⟩) hm (by decide) rfl rfl rfl (Nat.le_of_ble_eq_true rfl) dX7_isReserved_48 ⟨Nat.zero_le _, Nat.zero_le _⟩) hS (fun v_63 I_57 R_58 J_59 AI_60 AJ_61 AR_62 H locs zv_63 hp_64 hH hS => ?_)
            dsimp only at hp_64
            obtain ⟨rfl, rfl, rfl, rfl, rfl, rfl, q_65, q_66⟩ := hp_64
            refine z_if_eq (tgt := 56) F dX7_isReserved_51 (by decide) zv_63 (fun c_67 => ?_) (fun c_67 => ?_)
            · have hno : ∀ w ∈ [(2 : Int), (11 : Int), (10 : Int), (1 : Int), (9 : Int), (0 : Int)], ¬ (f = 0 ∧ pK b nn h = 3 ∧ pV b nn h = w) := mRs hno (tIz_0 q_66 (by omega))
              refine lv_aload_n F.1 F.2.1 dX7_isReserved_56 rfl (lv_at hl 0 rfl) ?_
              refine va_ldcS F.1 F.2.1 F.2.2.2.1 (F.2.2.2.2.2.2.1 13 _ rfl).1 dX7_isReserved_57 ?_
              refine g_calli (g_runV (As := [.ref (gSK g 13)]) (rest := []) (ci := 7) F hl.1 hH hS hz (c_X7_isWordf l g gh T 13 _ 3 b nn nr nt cc f h I R J AI AJ AR mo hv hm hT (rfl : sTab[13]? = some _) (by decide) (by decide +kernel) h65 hbM hr7 (by omega) hn9 (by omega) hQ) (cwV 1 F.2.2.2.2.1 (good_up gT_X7_isWord) rfl rfl rfl hdX7_isWord ⟨Nat.le_of_ble_eq_true rfl, Nat.le_of_ble_eq_true rfl⟩) hm (by decide) rfl rfl rfl (Nat.le_of_ble_eq_true rfl) dX7_isReserved_59 ⟨Nat.zero_le _, Nat.zero_le _⟩) hS (fun v_74 I_68 R_69 J_70 AI_71 AJ_72 AR_73 H locs zv_74 hp_75 hH hS => ?_)
              dsimp only at hp_75
              obtain ⟨rfl, rfl, rfl, rfl, rfl, rfl, q_76, q_77⟩ := hp_75
              refine z_if_ne (tgt := 110) F dX7_isReserved_62 (by decide) zv_74 (fun c_78 => ?_) (fun c_78 => ?_)
              · have hyes := tIz_1 q_77 (by omega)
                refine z_iconst F dX7_isReserved_110 ?_
                exact g_zret F hr hlk hH hS hz (by omega) ⟨rfl, rfl, rfl, rfl, rfl, rfl, by first | omega | rfl | (dsimp only; omega), by first | exact tIz_t (mRs_y hyes (by omega)) | exact tIz_f (mRs_n hno (by decide))⟩ dX7_isReserved_111
              · have hno : ∀ w ∈ [(3 : Int), (2 : Int), (11 : Int), (10 : Int), (1 : Int), (9 : Int), (0 : Int)], ¬ (f = 0 ∧ pK b nn h = 3 ∧ pV b nn h = w) := mRs hno (tIz_0 q_77 (by omega))
                refine lv_aload_n F.1 F.2.1 dX7_isReserved_65 rfl (lv_at hl 0 rfl) ?_
                refine va_ldcS F.1 F.2.1 F.2.2.2.1 (F.2.2.2.2.2.2.1 14 _ rfl).1 dX7_isReserved_66 ?_
                refine g_calli (g_runV (As := [.ref (gSK g 14)]) (rest := []) (ci := 7) F hl.1 hH hS hz (c_X7_isWordf l g gh T 14 _ 12 b nn nr nt cc f h I R J AI AJ AR mo hv hm hT (rfl : sTab[14]? = some _) (by decide) (by decide +kernel) h65 hbM hr7 (by omega) hn9 (by omega) hQ) (cwV 1 F.2.2.2.2.1 (good_up gT_X7_isWord) rfl rfl rfl hdX7_isWord ⟨Nat.le_of_ble_eq_true rfl, Nat.le_of_ble_eq_true rfl⟩) hm (by decide) rfl rfl rfl (Nat.le_of_ble_eq_true rfl) dX7_isReserved_68 ⟨Nat.zero_le _, Nat.zero_le _⟩) hS (fun v_85 I_79 R_80 J_81 AI_82 AJ_83 AR_84 H locs zv_85 hp_86 hH hS => ?_)
                dsimp only at hp_86
                obtain ⟨rfl, rfl, rfl, rfl, rfl, rfl, q_87, q_88⟩ := hp_86
                refine z_if_ne (tgt := 110) F dX7_isReserved_71 (by decide) zv_85 (fun c_89 => ?_) (fun c_89 => ?_)
                · have hyes := tIz_1 q_88 (by omega)
                  refine z_iconst F dX7_isReserved_110 ?_
                  exact g_zret F hr hlk hH hS hz (by omega) ⟨rfl, rfl, rfl, rfl, rfl, rfl, by first | omega | rfl | (dsimp only; omega), by first | exact tIz_t (mRs_y hyes (by omega)) | exact tIz_f (mRs_n hno (by decide))⟩ dX7_isReserved_111
                · have hno : ∀ w ∈ [(12 : Int), (3 : Int), (2 : Int), (11 : Int), (10 : Int), (1 : Int), (9 : Int), (0 : Int)], ¬ (f = 0 ∧ pK b nn h = 3 ∧ pV b nn h = w) := mRs hno (tIz_0 q_88 (by omega))
                  refine lv_aload_n F.1 F.2.1 dX7_isReserved_74 rfl (lv_at hl 0 rfl) ?_
                  refine va_ldcS F.1 F.2.1 F.2.2.2.1 (F.2.2.2.2.2.2.1 15 _ rfl).1 dX7_isReserved_75 ?_
                  refine g_calli (g_runV (As := [.ref (gSK g 15)]) (rest := []) (ci := 7) F hl.1 hH hS hz (c_X7_isWordf l g gh T 15 _ 4 b nn nr nt cc f h I R J AI AJ AR mo hv hm hT (rfl : sTab[15]? = some _) (by decide) (by decide +kernel) h65 hbM hr7 (by omega) hn9 (by omega) hQ) (cwV 1 F.2.2.2.2.1 (good_up gT_X7_isWord) rfl rfl rfl hdX7_isWord ⟨Nat.le_of_ble_eq_true rfl, Nat.le_of_ble_eq_true rfl⟩) hm (by decide) rfl rfl rfl (Nat.le_of_ble_eq_true rfl) dX7_isReserved_77 ⟨Nat.zero_le _, Nat.zero_le _⟩) hS (fun v_96 I_90 R_91 J_92 AI_93 AJ_94 AR_95 H locs zv_96 hp_97 hH hS => ?_)
                  dsimp only at hp_97
                  obtain ⟨rfl, rfl, rfl, rfl, rfl, rfl, q_98, q_99⟩ := hp_97
                  refine z_if_ne (tgt := 110) F dX7_isReserved_80 (by decide) zv_96 (fun c_100 => ?_) (fun c_100 => ?_)
                  · have hyes := tIz_1 q_99 (by omega)
                    refine z_iconst F dX7_isReserved_110 ?_
                    exact g_zret F hr hlk hH hS hz (by omega) ⟨rfl, rfl, rfl, rfl, rfl, rfl, by first | omega | rfl | (dsimp only; omega), by first | exact tIz_t (mRs_y hyes (by omega)) | exact tIz_f (mRs_n hno (by decide))⟩ dX7_isReserved_111
                  · have hno : ∀ w ∈ [(4 : Int), (12 : Int), (3 : Int), (2 : Int), (11 : Int), (10 : Int), (1 : Int), (9 : Int), (0 : Int)], ¬ (f = 0 ∧ pK b nn h = 3 ∧ pV b nn h = w) := mRs hno (tIz_0 q_99 (by omega))
                    refine lv_aload_n F.1 F.2.1 dX7_isReserved_83 rfl (lv_at hl 0 rfl) ?_
                    refine va_ldcS F.1 F.2.1 F.2.2.2.1 (F.2.2.2.2.2.2.1 16 _ rfl).1 dX7_isReserved_84 ?_
                    refine g_calli (g_runV (As := [.ref (gSK g 16)]) (rest := []) (ci := 7) F hl.1 hH hS hz (c_X7_isWordf l g gh T 16 _ 5 b nn nr nt cc f h I R J AI AJ AR mo hv hm hT (rfl : sTab[16]? = some _) (by decide) (by decide +kernel) h65 hbM hr7 (by omega) hn9 (by omega) hQ) (cwV 1 F.2.2.2.2.1 (good_up gT_X7_isWord) rfl rfl rfl hdX7_isWord ⟨Nat.le_of_ble_eq_true rfl, Nat.le_of_ble_eq_true rfl⟩) hm (by decide) rfl rfl rfl (Nat.le_of_ble_eq_true rfl) dX7_isReserved_86 ⟨Nat.zero_le _, Nat.zero_le _⟩) hS (fun v_107 I_101 R_102 J_103 AI_104 AJ_105 AR_106 H locs zv_107 hp_108 hH hS => ?_)
                    dsimp only at hp_108
                    obtain ⟨rfl, rfl, rfl, rfl, rfl, rfl, q_109, q_110⟩ := hp_108
                    refine z_if_ne (tgt := 110) F dX7_isReserved_89 (by decide) zv_107 (fun c_111 => ?_) (fun c_111 => ?_)
                    · have hyes := tIz_1 q_110 (by omega)
                      refine z_iconst F dX7_isReserved_110 ?_
                      exact g_zret F hr hlk hH hS hz (by omega) ⟨rfl, rfl, rfl, rfl, rfl, rfl, by first | omega | rfl | (dsimp only; omega), by first | exact tIz_t (mRs_y hyes (by omega)) | exact tIz_f (mRs_n hno (by decide))⟩ dX7_isReserved_111
                    · have hno : ∀ w ∈ [(5 : Int), (4 : Int), (12 : Int), (3 : Int), (2 : Int), (11 : Int), (10 : Int), (1 : Int), (9 : Int), (0 : Int)], ¬ (f = 0 ∧ pK b nn h = 3 ∧ pV b nn h = w) := mRs hno (tIz_0 q_110 (by omega))
                      refine lv_aload_n F.1 F.2.1 dX7_isReserved_92 rfl (lv_at hl 0 rfl) ?_
                      refine va_ldcS F.1 F.2.1 F.2.2.2.1 (F.2.2.2.2.2.2.1 17 _ rfl).1 dX7_isReserved_93 ?_
                      refine g_calli (g_runV (As := [.ref (gSK g 17)]) (rest := []) (ci := 7) F hl.1 hH hS hz (c_X7_isWordf l g gh T 17 _ 6 b nn nr nt cc f h I R J AI AJ AR mo hv hm hT (rfl : sTab[17]? = some _) (by decide) (by decide +kernel) h65 hbM hr7 (by omega) hn9 (by omega) hQ) (cwV 1 F.2.2.2.2.1 (good_up gT_X7_isWord) rfl rfl rfl hdX7_isWord ⟨Nat.le_of_ble_eq_true rfl, Nat.le_of_ble_eq_true rfl⟩) hm (by decide) rfl rfl rfl (Nat.le_of_ble_eq_true rfl) dX7_isReserved_95 ⟨Nat.zero_le _, Nat.zero_le _⟩) hS (fun v_118 I_112 R_113 J_114 AI_115 AJ_116 AR_117 H locs zv_118 hp_119 hH hS => ?_)
                      dsimp only at hp_119
                      obtain ⟨rfl, rfl, rfl, rfl, rfl, rfl, q_120, q_121⟩ := hp_119
                      refine z_if_ne (tgt := 110) F dX7_isReserved_98 (by decide) zv_118 (fun c_122 => ?_) (fun c_122 => ?_)
                      · have hyes := tIz_1 q_121 (by omega)
                        refine z_iconst F dX7_isReserved_110 ?_
                        exact g_zret F hr hlk hH hS hz (by omega) ⟨rfl, rfl, rfl, rfl, rfl, rfl, by first | omega | rfl | (dsimp only; omega), by first | exact tIz_t (mRs_y hyes (by omega)) | exact tIz_f (mRs_n hno (by decide))⟩ dX7_isReserved_111
                      · have hno : ∀ w ∈ [(6 : Int), (5 : Int), (4 : Int), (12 : Int), (3 : Int), (2 : Int), (11 : Int), (10 : Int), (1 : Int), (9 : Int), (0 : Int)], ¬ (f = 0 ∧ pK b nn h = 3 ∧ pV b nn h = w) := mRs hno (tIz_0 q_121 (by omega))
                        refine lv_aload_n F.1 F.2.1 dX7_isReserved_101 rfl (lv_at hl 0 rfl) ?_
                        refine va_ldcS F.1 F.2.1 F.2.2.2.1 (F.2.2.2.2.2.2.1 18 _ rfl).1 dX7_isReserved_102 ?_
                        refine g_calli (g_runV (As := [.ref (gSK g 18)]) (rest := []) (ci := 7) F hl.1 hH hS hz (c_X7_isWordf l g gh T 18 _ 7 b nn nr nt cc f h I R J AI AJ AR mo hv hm hT (rfl : sTab[18]? = some _) (by decide) (by decide +kernel) h65 hbM hr7 (by omega) hn9 (by omega) hQ) (cwV 1 F.2.2.2.2.1 (good_up gT_X7_isWord) rfl rfl rfl hdX7_isWord ⟨Nat.le_of_ble_eq_true rfl, Nat.le_of_ble_eq_true rfl⟩) hm (by decide) rfl rfl rfl (Nat.le_of_ble_eq_true rfl) dX7_isReserved_104 ⟨Nat.zero_le _, Nat.zero_le _⟩) hS (fun v_129 I_123 R_124 J_125 AI_126 AJ_127 AR_128 H locs zv_129 hp_130 hH hS => ?_)
                        dsimp only at hp_130
                        obtain ⟨rfl, rfl, rfl, rfl, rfl, rfl, q_131, q_132⟩ := hp_130
                        refine z_if_eq (tgt := 112) F dX7_isReserved_107 (by decide) zv_129 (fun c_133 => ?_) (fun c_133 => ?_)
                        · have hno : ∀ w ∈ [(7 : Int), (6 : Int), (5 : Int), (4 : Int), (12 : Int), (3 : Int), (2 : Int), (11 : Int), (10 : Int), (1 : Int), (9 : Int), (0 : Int)], ¬ (f = 0 ∧ pK b nn h = 3 ∧ pV b nn h = w) := mRs hno (tIz_0 q_132 (by omega))
                          refine lv_aload_n F.1 F.2.1 dX7_isReserved_112 rfl (lv_at hl 0 rfl) ?_
                          refine va_ldcS F.1 F.2.1 F.2.2.2.1 (F.2.2.2.2.2.2.1 19 _ rfl).1 dX7_isReserved_113 ?_
                          refine g_calli (g_runV (As := [.ref (gSK g 19)]) (rest := []) (ci := 7) F hl.1 hH hS hz (c_X7_isWordf l g gh T 19 _ 13 b nn nr nt cc f h I R J AI AJ AR mo hv hm hT (rfl : sTab[19]? = some _) (by decide) (by decide +kernel) h65 hbM hr7 (by omega) hn9 (by omega) hQ) (cwV 1 F.2.2.2.2.1 (good_up gT_X7_isWord) rfl rfl rfl hdX7_isWord ⟨Nat.le_of_ble_eq_true rfl, Nat.le_of_ble_eq_true rfl⟩) hm (by decide) rfl rfl rfl (Nat.le_of_ble_eq_true rfl) dX7_isReserved_115 ⟨Nat.zero_le _, Nat.zero_le _⟩) hS (fun v_140 I_134 R_135 J_136 AI_137 AJ_138 AR_139 H locs zv_140 hp_141 hH hS => ?_)
                          dsimp only at hp_141
                          obtain ⟨rfl, rfl, rfl, rfl, rfl, rfl, q_142, q_143⟩ := hp_141
                          refine z_if_ne (tgt := 157) F dX7_isReserved_118 (by decide) zv_140 (fun c_144 => ?_) (fun c_144 => ?_)
                          · have hyes := tIz_1 q_143 (by omega)
                            refine z_iconst F dX7_isReserved_157 ?_
                            exact g_zret F hr hlk hH hS hz (by omega) ⟨rfl, rfl, rfl, rfl, rfl, rfl, by first | omega | rfl | (dsimp only; omega), by first | exact tIz_t (mRs_y hyes (by omega)) | exact tIz_f (mRs_n hno (by decide))⟩ dX7_isReserved_158
                          · have hno : ∀ w ∈ [(13 : Int), (7 : Int), (6 : Int), (5 : Int), (4 : Int), (12 : Int), (3 : Int), (2 : Int), (11 : Int), (10 : Int), (1 : Int), (9 : Int), (0 : Int)], ¬ (f = 0 ∧ pK b nn h = 3 ∧ pV b nn h = w) := mRs hno (tIz_0 q_143 (by omega))
                            refine lv_aload_n F.1 F.2.1 dX7_isReserved_121 rfl (lv_at hl 0 rfl) ?_
                            refine va_ldcS F.1 F.2.1 F.2.2.2.1 (F.2.2.2.2.2.2.1 20 _ rfl).1 dX7_isReserved_122 ?_
                            refine g_calli (g_runV (As := [.ref (gSK g 20)]) (rest := []) (ci := 7) F hl.1 hH hS hz (c_X7_isWordf l g gh T 20 _ 16 b nn nr nt cc f h I R J AI AJ AR mo hv hm hT (rfl : sTab[20]? = some _) (by decide) (by decide +kernel) h65 hbM hr7 (by omega) hn9 (by omega) hQ) (cwV 1 F.2.2.2.2.1 (good_up gT_X7_isWord) rfl rfl rfl hdX7_isWord ⟨Nat.le_of_ble_eq_true rfl, Nat.le_of_ble_eq_true rfl⟩) hm (by decide) rfl rfl rfl (Nat.le_of_ble_eq_true rfl) dX7_isReserved_124 ⟨Nat.zero_le _, Nat.zero_le _⟩) hS (fun v_151 I_145 R_146 J_147 AI_148 AJ_149 AR_150 H locs zv_151 hp_152 hH hS => ?_)
                            dsimp only at hp_152
                            obtain ⟨rfl, rfl, rfl, rfl, rfl, rfl, q_153, q_154⟩ := hp_152
                            refine z_if_ne (tgt := 157) F dX7_isReserved_127 (by decide) zv_151 (fun c_155 => ?_) (fun c_155 => ?_)
                            · have hyes := tIz_1 q_154 (by omega)
                              refine z_iconst F dX7_isReserved_157 ?_
                              exact g_zret F hr hlk hH hS hz (by omega) ⟨rfl, rfl, rfl, rfl, rfl, rfl, by first | omega | rfl | (dsimp only; omega), by first | exact tIz_t (mRs_y hyes (by omega)) | exact tIz_f (mRs_n hno (by decide))⟩ dX7_isReserved_158
                            · have hno : ∀ w ∈ [(16 : Int), (13 : Int), (7 : Int), (6 : Int), (5 : Int), (4 : Int), (12 : Int), (3 : Int), (2 : Int), (11 : Int), (10 : Int), (1 : Int), (9 : Int), (0 : Int)], ¬ (f = 0 ∧ pK b nn h = 3 ∧ pV b nn h = w) := mRs hno (tIz_0 q_154 (by omega))
                              refine lv_aload_n F.1 F.2.1 dX7_isReserved_130 rfl (lv_at hl 0 rfl) ?_
                              refine va_ldcS F.1 F.2.1 F.2.2.2.1 (F.2.2.2.2.2.2.1 21 _ rfl).1 dX7_isReserved_131 ?_
                              refine g_calli (g_runV (As := [.ref (gSK g 21)]) (rest := []) (ci := 7) F hl.1 hH hS hz (c_X7_isWordf l g gh T 21 _ 17 b nn nr nt cc f h I R J AI AJ AR mo hv hm hT (rfl : sTab[21]? = some _) (by decide) (by decide +kernel) h65 hbM hr7 (by omega) hn9 (by omega) hQ) (cwV 1 F.2.2.2.2.1 (good_up gT_X7_isWord) rfl rfl rfl hdX7_isWord ⟨Nat.le_of_ble_eq_true rfl, Nat.le_of_ble_eq_true rfl⟩) hm (by decide) rfl rfl rfl (Nat.le_of_ble_eq_true rfl) dX7_isReserved_133 ⟨Nat.zero_le _, Nat.zero_le _⟩) hS (fun v_162 I_156 R_157 J_158 AI_159 AJ_160 AR_161 H locs zv_162 hp_163 hH hS => ?_)
                              dsimp only at hp_163
                              obtain ⟨rfl, rfl, rfl, rfl, rfl, rfl, q_164, q_165⟩ := hp_163
                              refine z_if_ne (tgt := 157) F dX7_isReserved_136 (by decide) zv_162 (fun c_166 => ?_) (fun c_166 => ?_)
                              · have hyes := tIz_1 q_165 (by omega)
                                refine z_iconst F dX7_isReserved_157 ?_
                                exact g_zret F hr hlk hH hS hz (by omega) ⟨rfl, rfl, rfl, rfl, rfl, rfl, by first | omega | rfl | (dsimp only; omega), by first | exact tIz_t (mRs_y hyes (by omega)) | exact tIz_f (mRs_n hno (by decide))⟩ dX7_isReserved_158
                              · have hno : ∀ w ∈ [(17 : Int), (16 : Int), (13 : Int), (7 : Int), (6 : Int), (5 : Int), (4 : Int), (12 : Int), (3 : Int), (2 : Int), (11 : Int), (10 : Int), (1 : Int), (9 : Int), (0 : Int)], ¬ (f = 0 ∧ pK b nn h = 3 ∧ pV b nn h = w) := mRs hno (tIz_0 q_165 (by omega))
                                refine lv_aload_n F.1 F.2.1 dX7_isReserved_139 rfl (lv_at hl 0 rfl) ?_
                                refine va_ldcS F.1 F.2.1 F.2.2.2.1 (F.2.2.2.2.2.2.1 22 _ rfl).1 dX7_isReserved_140 ?_
                                refine g_calli (g_runV (As := [.ref (gSK g 22)]) (rest := []) (ci := 7) F hl.1 hH hS hz (c_X7_isWordf l g gh T 22 _ 18 b nn nr nt cc f h I R J AI AJ AR mo hv hm hT (rfl : sTab[22]? = some _) (by decide) (by decide +kernel) h65 hbM hr7 (by omega) hn9 (by omega) hQ) (cwV 1 F.2.2.2.2.1 (good_up gT_X7_isWord) rfl rfl rfl hdX7_isWord ⟨Nat.le_of_ble_eq_true rfl, Nat.le_of_ble_eq_true rfl⟩) hm (by decide) rfl rfl rfl (Nat.le_of_ble_eq_true rfl) dX7_isReserved_142 ⟨Nat.zero_le _, Nat.zero_le _⟩) hS (fun v_173 I_167 R_168 J_169 AI_170 AJ_171 AR_172 H locs zv_173 hp_174 hH hS => ?_)
                                dsimp only at hp_174
                                obtain ⟨rfl, rfl, rfl, rfl, rfl, rfl, q_175, q_176⟩ := hp_174
                                refine z_if_ne (tgt := 157) F dX7_isReserved_145 (by decide) zv_173 (fun c_177 => ?_) (fun c_177 => ?_)
                                · have hyes := tIz_1 q_176 (by omega)
                                  refine z_iconst F dX7_isReserved_157 ?_
                                  exact g_zret F hr hlk hH hS hz (by omega) ⟨rfl, rfl, rfl, rfl, rfl, rfl, by first | omega | rfl | (dsimp only; omega), by first | exact tIz_t (mRs_y hyes (by omega)) | exact tIz_f (mRs_n hno (by decide))⟩ dX7_isReserved_158
                                · have hno : ∀ w ∈ [(18 : Int), (17 : Int), (16 : Int), (13 : Int), (7 : Int), (6 : Int), (5 : Int), (4 : Int), (12 : Int), (3 : Int), (2 : Int), (11 : Int), (10 : Int), (1 : Int), (9 : Int), (0 : Int)], ¬ (f = 0 ∧ pK b nn h = 3 ∧ pV b nn h = w) := mRs hno (tIz_0 q_176 (by omega))
                                  refine lv_aload_n F.1 F.2.1 dX7_isReserved_148 rfl (lv_at hl 0 rfl) ?_
                                  refine va_ldcS F.1 F.2.1 F.2.2.2.1 (F.2.2.2.2.2.2.1 23 _ rfl).1 dX7_isReserved_149 ?_
                                  refine g_calli (g_runV (As := [.ref (gSK g 23)]) (rest := []) (ci := 7) F hl.1 hH hS hz (c_X7_isWordf l g gh T 23 _ 19 b nn nr nt cc f h I R J AI AJ AR mo hv hm hT (rfl : sTab[23]? = some _) (by decide) (by decide +kernel) h65 hbM hr7 (by omega) hn9 (by omega) hQ) (cwV 1 F.2.2.2.2.1 (good_up gT_X7_isWord) rfl rfl rfl hdX7_isWord ⟨Nat.le_of_ble_eq_true rfl, Nat.le_of_ble_eq_true rfl⟩) hm (by decide) rfl rfl rfl (Nat.le_of_ble_eq_true rfl) dX7_isReserved_151 ⟨Nat.zero_le _, Nat.zero_le _⟩) hS (fun v_184 I_178 R_179 J_180 AI_181 AJ_182 AR_183 H locs zv_184 hp_185 hH hS => ?_)
                                  dsimp only at hp_185
                                  obtain ⟨rfl, rfl, rfl, rfl, rfl, rfl, q_186, q_187⟩ := hp_185
                                  refine z_if_eq (tgt := 159) F dX7_isReserved_154 (by decide) zv_184 (fun c_188 => ?_) (fun c_188 => ?_)
                                  · have hno : ∀ w ∈ [(19 : Int), (18 : Int), (17 : Int), (16 : Int), (13 : Int), (7 : Int), (6 : Int), (5 : Int), (4 : Int), (12 : Int), (3 : Int), (2 : Int), (11 : Int), (10 : Int), (1 : Int), (9 : Int), (0 : Int)], ¬ (f = 0 ∧ pK b nn h = 3 ∧ pV b nn h = w) := mRs hno (tIz_0 q_187 (by omega))
                                    refine lv_aload_n F.1 F.2.1 dX7_isReserved_159 rfl (lv_at hl 0 rfl) ?_
                                    refine va_ldcS F.1 F.2.1 F.2.2.2.1 (F.2.2.2.2.2.2.1 24 _ rfl).1 dX7_isReserved_160 ?_
                                    refine g_calli (g_runV (As := [.ref (gSK g 24)]) (rest := []) (ci := 7) F hl.1 hH hS hz (c_X7_isWordf l g gh T 24 _ 8 b nn nr nt cc f h I R J AI AJ AR mo hv hm hT (rfl : sTab[24]? = some _) (by decide) (by decide +kernel) h65 hbM hr7 (by omega) hn9 (by omega) hQ) (cwV 1 F.2.2.2.2.1 (good_up gT_X7_isWord) rfl rfl rfl hdX7_isWord ⟨Nat.le_of_ble_eq_true rfl, Nat.le_of_ble_eq_true rfl⟩) hm (by decide) rfl rfl rfl (Nat.le_of_ble_eq_true rfl) dX7_isReserved_162 ⟨Nat.zero_le _, Nat.zero_le _⟩) hS (fun v_195 I_189 R_190 J_191 AI_192 AJ_193 AR_194 H locs zv_195 hp_196 hH hS => ?_)
                                    dsimp only at hp_196
                                    obtain ⟨rfl, rfl, rfl, rfl, rfl, rfl, q_197, q_198⟩ := hp_196
                                    refine z_if_ne (tgt := 186) F dX7_isReserved_165 (by decide) zv_195 (fun c_199 => ?_) (fun c_199 => ?_)
                                    · have hyes := tIz_1 q_198 (by omega)
                                      refine z_iconst F dX7_isReserved_186 ?_
                                      refine z_goto (tgt := 191) F dX7_isReserved_187 (by decide) ?_
                                      exact g_zret F hr hlk hH hS hz (by omega) ⟨rfl, rfl, rfl, rfl, rfl, rfl, by first | omega | rfl | (dsimp only; omega), by first | exact tIz_t (mRs_y hyes (by omega)) | exact tIz_f (mRs_n hno (by decide))⟩ dX7_isReserved_191
                                    · have hno : ∀ w ∈ [(8 : Int), (19 : Int), (18 : Int), (17 : Int), (16 : Int), (13 : Int), (7 : Int), (6 : Int), (5 : Int), (4 : Int), (12 : Int), (3 : Int), (2 : Int), (11 : Int), (10 : Int), (1 : Int), (9 : Int), (0 : Int)], ¬ (f = 0 ∧ pK b nn h = 3 ∧ pV b nn h = w) := mRs hno (tIz_0 q_198 (by omega))
                                      refine lv_aload_n F.1 F.2.1 dX7_isReserved_168 rfl (lv_at hl 0 rfl) ?_
                                      refine va_ldcS F.1 F.2.1 F.2.2.2.1 (F.2.2.2.2.2.2.1 25 _ rfl).1 dX7_isReserved_169 ?_
                                      refine g_calli (g_runV (As := [.ref (gSK g 25)]) (rest := []) (ci := 7) F hl.1 hH hS hz (c_X7_isWordf l g gh T 25 _ 14 b nn nr nt cc f h I R J AI AJ AR mo hv hm hT (rfl : sTab[25]? = some _) (by decide) (by decide +kernel) h65 hbM hr7 (by omega) hn9 (by omega) hQ) (cwV 1 F.2.2.2.2.1 (good_up gT_X7_isWord) rfl rfl rfl hdX7_isWord ⟨Nat.le_of_ble_eq_true rfl, Nat.le_of_ble_eq_true rfl⟩) hm (by decide) rfl rfl rfl (Nat.le_of_ble_eq_true rfl) dX7_isReserved_171 ⟨Nat.zero_le _, Nat.zero_le _⟩) hS (fun v_206 I_200 R_201 J_202 AI_203 AJ_204 AR_205 H locs zv_206 hp_207 hH hS => ?_)
                                      dsimp only at hp_207
                                      obtain ⟨rfl, rfl, rfl, rfl, rfl, rfl, q_208, q_209⟩ := hp_207
                                      refine z_if_ne (tgt := 186) F dX7_isReserved_174 (by decide) zv_206 (fun c_210 => ?_) (fun c_210 => ?_)
                                      · have hyes := tIz_1 q_209 (by omega)
                                        refine z_iconst F dX7_isReserved_186 ?_
                                        refine z_goto (tgt := 191) F dX7_isReserved_187 (by decide) ?_
                                        exact g_zret F hr hlk hH hS hz (by omega) ⟨rfl, rfl, rfl, rfl, rfl, rfl, by first | omega | rfl | (dsimp only; omega), by first | exact tIz_t (mRs_y hyes (by omega)) | exact tIz_f (mRs_n hno (by decide))⟩ dX7_isReserved_191
                                      · have hno : ∀ w ∈ [(14 : Int), (8 : Int), (19 : Int), (18 : Int), (17 : Int), (16 : Int), (13 : Int), (7 : Int), (6 : Int), (5 : Int), (4 : Int), (12 : Int), (3 : Int), (2 : Int), (11 : Int), (10 : Int), (1 : Int), (9 : Int), (0 : Int)], ¬ (f = 0 ∧ pK b nn h = 3 ∧ pV b nn h = w) := mRs hno (tIz_0 q_209 (by omega))
                                        refine lv_aload_n F.1 F.2.1 dX7_isReserved_177 rfl (lv_at hl 0 rfl) ?_
                                        refine va_ldcS F.1 F.2.1 F.2.2.2.1 (F.2.2.2.2.2.2.1 26 _ rfl).1 dX7_isReserved_178 ?_
                                        refine g_calli (g_runV (As := [.ref (gSK g 26)]) (rest := []) (ci := 7) F hl.1 hH hS hz (c_X7_isWordf l g gh T 26 _ 15 b nn nr nt cc f h I R J AI AJ AR mo hv hm hT (rfl : sTab[26]? = some _) (by decide) (by decide +kernel) h65 hbM hr7 (by omega) hn9 (by omega) hQ) (cwV 1 F.2.2.2.2.1 (good_up gT_X7_isWord) rfl rfl rfl hdX7_isWord ⟨Nat.le_of_ble_eq_true rfl, Nat.le_of_ble_eq_true rfl⟩) hm (by decide) rfl rfl rfl (Nat.le_of_ble_eq_true rfl) dX7_isReserved_180 ⟨Nat.zero_le _, Nat.zero_le _⟩) hS (fun v_217 I_211 R_212 J_213 AI_214 AJ_215 AR_216 H locs zv_217 hp_218 hH hS => ?_)
                                        dsimp only at hp_218
                                        obtain ⟨rfl, rfl, rfl, rfl, rfl, rfl, q_219, q_220⟩ := hp_218
                                        refine z_if_eq (tgt := 190) F dX7_isReserved_183 (by decide) zv_217 (fun c_221 => ?_) (fun c_221 => ?_)
                                        · have hno : ∀ w ∈ [(15 : Int), (14 : Int), (8 : Int), (19 : Int), (18 : Int), (17 : Int), (16 : Int), (13 : Int), (7 : Int), (6 : Int), (5 : Int), (4 : Int), (12 : Int), (3 : Int), (2 : Int), (11 : Int), (10 : Int), (1 : Int), (9 : Int), (0 : Int)], ¬ (f = 0 ∧ pK b nn h = 3 ∧ pV b nn h = w) := mRs hno (tIz_0 q_220 (by omega))
                                          refine z_iconst F dX7_isReserved_190 ?_
                                          exact g_zret F hr hlk hH hS hz (by omega) ⟨rfl, rfl, rfl, rfl, rfl, rfl, by first | omega | rfl | (dsimp only; omega), by first | exact tIz_t (mRs_y hyes (by omega)) | exact tIz_f (mRs_n hno (by decide))⟩ dX7_isReserved_191
                                        · have hyes := tIz_1 q_220 (by omega)
                                          refine z_iconst F dX7_isReserved_186 ?_
                                          refine z_goto (tgt := 191) F dX7_isReserved_187 (by decide) ?_
                                          exact g_zret F hr hlk hH hS hz (by omega) ⟨rfl, rfl, rfl, rfl, rfl, rfl, by first | omega | rfl | (dsimp only; omega), by first | exact tIz_t (mRs_y hyes (by omega)) | exact tIz_f (mRs_n hno (by decide))⟩ dX7_isReserved_191
                                  · have hyes := tIz_1 q_187 (by omega)
                                    refine z_iconst F dX7_isReserved_157 ?_
                                    exact g_zret F hr hlk hH hS hz (by omega) ⟨rfl, rfl, rfl, rfl, rfl, rfl, by first | omega | rfl | (dsimp only; omega), by first | exact tIz_t (mRs_y hyes (by omega)) | exact tIz_f (mRs_n hno (by decide))⟩ dX7_isReserved_158
                        · have hyes := tIz_1 q_132 (by omega)
                          refine z_iconst F dX7_isReserved_110 ?_
                          exact g_zret F hr hlk hH hS hz (by omega) ⟨rfl, rfl, rfl, rfl, rfl, rfl, by first | omega | rfl | (dsimp only; omega), by first | exact tIz_t (mRs_y hyes (by omega)) | exact tIz_f (mRs_n hno (by decide))⟩ dX7_isReserved_111
            · have hyes := tIz_1 q_66 (by omega)
              refine z_iconst F dX7_isReserved_54 ?_
              exact g_zret F hr hlk hH hS hz (by omega) ⟨rfl, rfl, rfl, rfl, rfl, rfl, by first | omega | rfl | (dsimp only; omega), by first | exact tIz_t (mRs_y hyes (by omega)) | exact tIz_f (mRs_n hno (by decide))⟩ dX7_isReserved_55

def rmX7_columnf : Room := { frames := 3, cells := 0, slots := 0, locals := 67 }
set_option maxHeartbeats 4000000 in
set_option maxRecDepth 100000 in
/-- a column -/
theorem c_X7_columnf (l : Launch) (g : gG) (gh : gGh) (T : Nat → Int32) (b : tTx) (nn nr : Nat) (nt : Nat → Nat) (cc : Nat → Int) (f : Int) (h : Nat) (I : gI) (R : gR) (J : gJ) (AI : gI) (AJ : gJ) (AR : gR) (mo : Nat) (bl : Int) (zbl : zr bl) (hv : mInv g gh R I AI) (hm : gO g mo 7) (hT : AI (gh 50 0) = T) (hE : (I mo 20).toInt ≤ 936) (h65 : gh 9 (gh 65 0) ≠ 5) (hbM : ∀ k : Nat, k < nn → ((gM g).2 (gh 65 0) k).toInt = b k % 256) (hr7 : ∀ k : Nat, -128 ≤ b k ∧ b k ≤ 127) (hsz : (I mo 18).toInt = (nn : Int)) (hn9 : nn ≤ 900) (hm5 : (I mo 5).toInt = (nr : Int)) (hQ : mQ gh I J AI AJ mo b nn nr nt cc f h) : gMet l g yX7_column tsX7_column rmX7_columnf [.ref mo, .int (iI bl)] (I, R, J, AI, AJ, AR) (gQi g (fun (z : Int) (w : gS) => R = w.2.1 ∧ AI = w.2.2.2.1 ∧ AJ = w.2.2.2.2.1 ∧ AR = w.2.2.2.2.2 ∧ (mInv g gh R (w.1) AI) ∧ (qF mo I (w.1)) ∧ (((w.1) mo 20).toInt ≤ 936 ∧ (I mo 24).toInt ≤ ((w.1) mo 24).toInt) ∧ (((w.1) mo 24).toInt = 0 → 0 ≤ z ∧ z ≤ 3 ∧ z < bl) ∧ (mQ gh (w.1) (w.2.2.1) AI AJ mo b nn nr nt cc (thn (f, h, 0) (fun t _ => sCol b nn bl t)).1 (thn (f, h, 0) (fun t _ => sCol b nn bl t)).2.1) ∧ (pIm (thn (f, h, 0) (fun t _ => sCol b nn bl t)).1 z (thn (f, h, 0) (fun t _ => sCol b nn bl t)).2.2))) := by
  refine gStart (cc := cX7_column) (maxL := 3) (ret := (some (.int))) (by decide) rfl (Nat.le_of_ble_eq_true rfl) ?_
  intro p e s m below meth c ls F hr hlk hH hz hS hl
  have hl : lv_has ls 3 [(0, .ref mo), (1, .int (iI bl))] := hl
  have hS : va_S (gA g) s.heap s.heap [] := hS
  obtain ⟨H, hHe⟩ : ∃ H : Heap, H = s.heap := ⟨_, rfl⟩
  obtain ⟨locs, hlo⟩ : ∃ k : List Loc, k = [] := ⟨_, rfl⟩
  have hH : gH g I R J AI AJ AR H := by rw [hHe]; exact hH
  have hS : va_S (gA g) s.heap H locs := by rw [hHe, hlo]; exact hS
  suffices hw : W p l e rmX7_columnf s m ([.ref mo, .int (iI bl)] : List Value).toArray below meth c H locs 0 0 (MQ below (gQi g (fun (z : Int) (w : gS) => R = w.2.1 ∧ AI = w.2.2.2.1 ∧ AJ = w.2.2.2.2.1 ∧ AR = w.2.2.2.2.2 ∧ (mInv g gh R (w.1) AI) ∧ (qF mo I (w.1)) ∧ (((w.1) mo 20).toInt ≤ 936 ∧ (I mo 24).toInt ≤ ((w.1) mo 24).toInt) ∧ (((w.1) mo 24).toInt = 0 → 0 ≤ z ∧ z ≤ 3 ∧ z < bl) ∧ (mQ gh (w.1) (w.2.2.1) AI AJ mo b nn nr nt cc (thn (f, h, 0) (fun t _ => sCol b nn bl t)).1 (thn (f, h, 0) (fun t _ => sCol b nn bl t)).2.1) ∧ (pIm (thn (f, h, 0) (fun t _ => sCol b nn bl t)).1 z (thn (f, h, 0) (fun t _ => sCol b nn bl t)).2.2))) ([.ref mo, .int (iI bl)] : List Value).toArray s 0 0 (gA g)) (F0 m 0 ls []) by
    rw [hHe, hlo] at hw; exact hw
  clear hHe hlo
  have pf : qF mo I I := qF_r
  have hb0 := mJ hv hm
  unfold mNum1 at hb0
  have htk := mTok hv hm
  have iX7 : ∀ w ∈ u_ws RX7 TX7 32, w ∈ tsX7_column := fun w h => List.mem_cons_of_mem _ (inTB7 w h)
  have k81 : Cond.fieldLink RX7 81 (TX7 24).1 (TX7 24).2.1 (TX7 24).2.2.1 ∈ tsX7_column := List.mem_cons_of_mem _ fl_81
  have k94 : Cond.fieldLink RX7 94 (TX7 21).1 (TX7 21).2.1 (TX7 21).2.2.1 ∈ tsX7_column := List.mem_cons_of_mem _ fl_94
  have k97 : Cond.fieldLink RX7 97 (TX7 23).1 (TX7 23).2.1 (TX7 23).2.2.1 ∈ tsX7_column := List.mem_cons_of_mem _ fl_97
  have hf0 := mQ_p hQ
  by_cases q0 : f = 0
  · have hQ := mQ_ok hQ q0
    have hz0 := mQ_0 hQ rfl
    refine lv_aload_n F.1 F.2.1 dX7_column_0 rfl (lv_at hl 0 rfl) ?_
    refine g_getI (ci := 7) (k := 24) F hH rfl (by decide) iX7 hm (by decide) rfl k81 dX7_column_1 ?_
    have b_1 := mJ hv hm
    unfold mNum1 at b_1
    refine z_if_ne (tgt := 20) F dX7_column_4 (by decide) (zr_t _) (fun c_2 => ?_) (fun c_2 => ?_)
    · exact absurd (mQ_0 hQ rfl) (by omega)
    · refine lv_aload_n F.1 F.2.1 dX7_column_7 rfl (lv_at hl 0 rfl) ?_
      refine g_getI (ci := 7) (k := 21) F hH rfl (by decide) iX7 hm (by decide) rfl k94 dX7_column_8 ?_
      refine z_iconst F dX7_column_11 ?_
      refine z_icmp_eq (tgt := 20) F dX7_column_12 (by decide) (zr_t _) ⟨by decide, by decide⟩ (fun c_3 => ?_) (fun c_3 => ?_)
      · have t_4 := tkM_1 ((mQ_k hQ rfl).symm.trans (by omega))
        have t_4v := mQ_v hQ rfl (by omega)
        have t_4c := pV_c t_4
        refine lv_aload_n F.1 F.2.1 dX7_column_20 rfl (lv_at hl 0 rfl) ?_
        refine g_getI (ci := 7) (k := 24) F hH rfl (by decide) iX7 hm (by decide) rfl k81 dX7_column_21 ?_
        refine z_if_ne (tgt := 40) F dX7_column_24 (by decide) (zr_t _) (fun c_5 => ?_) (fun c_5 => ?_)
        · exact absurd trivial (by omega)
        · refine lv_aload_n F.1 F.2.1 dX7_column_27 rfl (lv_at hl 0 rfl) ?_
          refine g_getI (ci := 7) (k := 23) F hH rfl (by decide) iX7 hm (by decide) rfl k97 dX7_column_28 ?_
          refine lv_iload_n F.1 F.2.1 dX7_column_31 rfl (lv_at hl 1 rfl) ?_
          refine z_icmp_lt (tgt := 40) F dX7_column_32 (by decide) (zr_t _) zbl (fun c_6 => ?_) (fun c_6 => ?_)
          · refine lv_aload_n F.1 F.2.1 dX7_column_40 rfl (lv_at hl 0 rfl) ?_
            refine g_getI (ci := 7) (k := 23) F hH rfl (by decide) iX7 hm (by decide) rfl k97 dX7_column_41 ?_
            refine lv_istore_n (lv' := [(2, .int (iI ((I mo 23).toInt))), (0, .ref mo), (1, .int (iI bl))]) F.1 F.2.1 dX7_column_44 rfl hl (by decide) rfl (fun ls hl => ?_)
            refine lv_aload_n F.1 F.2.1 dX7_column_45 rfl (lv_at hl 1 rfl) ?_
            refine g_callv (g_runV (As := []) (rest := []) (ci := 7) F hl.1 hH hS hz (c_X7_nextf l g gh T b nn (tNd b nn (tPs b nn h)) I R J AI AJ AR mo hv hm hT (by omega) (mTp hv h65 hbM) hr7 (by omega) (by omega) (mQ_e0 hQ) tNd_le.1) (cwV 0 F.2.2.2.2.1 (good_up gT_X7_next) rfl rfl rfl hdX7_next ⟨Nat.le_of_ble_eq_true rfl, Nat.le_of_ble_eq_true rfl⟩) hm (by decide) rfl rfl rfl (Nat.le_of_ble_eq_true rfl) dX7_column_46 ⟨Nat.zero_le _, Nat.zero_le _⟩) hS (fun I_7 R_8 J_9 AI_10 AJ_11 AR_12 H locs hp_13 hH hS => ?_)
            dsimp only at hp_13
            obtain ⟨rfl, rfl, rfl, rfl, hv, pfq, q_14, nx4, nxa, nxb⟩ := hp_13
            have pf := qF_t pf pfq
            have u_15_2 : (I_7 mo 2).toInt = (I mo 2).toInt := by rw [pf 2 (by decide) (by decide) (by decide) (by decide) (by decide)]
            have u_15_5 : (I_7 mo 5).toInt = (I mo 5).toInt := by rw [pf 5 (by decide) (by decide) (by decide) (by decide) (by decide)]
            have u_15_14 : (I_7 mo 14).toInt = (I mo 14).toInt := by rw [pf 14 (by decide) (by decide) (by decide) (by decide) (by decide)]
            have u_15_16 : (I_7 mo 16).toInt = (I mo 16).toInt := by rw [pf 16 (by decide) (by decide) (by decide) (by decide) (by decide)]
            have u_15_18 : (I_7 mo 18).toInt = (I mo 18).toInt := by rw [pf 18 (by decide) (by decide) (by decide) (by decide) (by decide)]
            have hQ : mQ gh I_7 J_9 AI AJ mo b nn nr nt cc 0 (h + 1) := mQ_nx hQ nx4 nxa
            clear nxa nxb
            refine lv_iload_n F.1 F.2.1 dX7_column_49 rfl (lv_at hl 0 rfl) ?_
            have hfin : thn (f, h, 0) (fun t _ => sCol b nn bl t) = (0, h + 1, pV b nn h) := by
              refine (thn_k q0).trans ?_
              show sCol b nn bl h = _
              unfold sCol
              repeat (first | with_reducible rfl | refine ite_y (by omega) ?_ | refine ite_n (by omega) ?_ | exact pr_e (by omega) (by omega) (by omega) | refine ite_y (pCf_ok (by omega) (by omega)) ?_ | refine ite_n (fun e9 => absurd (pCf_0 e9) (by omega)) ?_ | exact pr_e (pCf_no (by omega)) (by omega) (by omega) | exact pr_e (pCf_big (by omega) (by omega)) (by omega) (by omega))
            exact g_iret F hr hlk hH hS hz (zr_t _) ⟨rfl, rfl, rfl, rfl, hv, pf, by first | omega | rfl | (dsimp only; omega), by first | omega | rfl | (dsimp only; omega), by (try dsimp only); rw [hfin]; exact hQ, by (try dsimp only); rw [hfin]; (try dsimp only); exact pIm_y (by omega)⟩ dX7_column_50
          · refine lv_aload_n F.1 F.2.1 dX7_column_35 rfl (lv_at hl 0 rfl) ?_
            refine z_iconst F dX7_column_36 ?_
            refine g_callv (g_runV (As := [.int (iI 2)]) (rest := []) (ci := 7) F hl.1 hH hS hz (c_X7_wrongf l g gh T b nn nr nt cc 0 h I R J AI AJ AR mo 2 ⟨by decide, by decide⟩ hv hm hT (by omega) h65 hbM hr7 (by omega) hn9 (by omega) hQ) (cwV 1 F.2.2.2.2.1 (good_up gT_X7_wrong) rfl rfl rfl hdX7_wrong ⟨Nat.le_of_ble_eq_true rfl, Nat.le_of_ble_eq_true rfl⟩) hm (by decide) rfl rfl rfl (Nat.le_of_ble_eq_true rfl) dX7_column_37 ⟨Nat.zero_le _, Nat.zero_le _⟩) hS (fun I_16 R_17 J_18 AI_19 AJ_20 AR_21 H locs hp_22 hH hS => ?_)
            dsimp only at hp_22
            obtain ⟨r_23, er_23⟩ : ∃ qQ : pR, qQ = thn (0, h, 0) (fun t _ => (2, t, 0)) := ⟨_, rfl⟩
            rw [← er_23] at hp_22
            obtain ⟨rfl, rfl, rfl, rfl, rfl, hv, pfq, q_24, hQ⟩ := hp_22
            have pf := qF_t pf pfq
            have u_25_2 : (I_16 mo 2).toInt = (I mo 2).toInt := by rw [pf 2 (by decide) (by decide) (by decide) (by decide) (by decide)]
            have u_25_5 : (I_16 mo 5).toInt = (I mo 5).toInt := by rw [pf 5 (by decide) (by decide) (by decide) (by decide) (by decide)]
            have u_25_14 : (I_16 mo 14).toInt = (I mo 14).toInt := by rw [pf 14 (by decide) (by decide) (by decide) (by decide) (by decide)]
            have u_25_16 : (I_16 mo 16).toInt = (I mo 16).toInt := by rw [pf 16 (by decide) (by decide) (by decide) (by decide) (by decide)]
            have u_25_18 : (I_16 mo 18).toInt = (I mo 18).toInt := by rw [pf 18 (by decide) (by decide) (by decide) (by decide) (by decide)]
            have er_23 : r_23 = (2, h, 0) := er_23
            have hQ : mQ gh I_16 J AI AJ mo b nn nr nt cc 2 h := by rw [er_23] at hQ; exact hQ
            have q9_r_23 : (2 : Int) ≠ 0 := by omega
            have g9_r_23 := mQ_f hQ q9_r_23
            refine lv_aload_n F.1 F.2.1 dX7_column_40 rfl (lv_at hl 0 rfl) ?_
            refine g_getI (ci := 7) (k := 23) F hH rfl (by decide) iX7 hm (by decide) rfl k97 dX7_column_41 ?_
            have b_26 := mJ hv hm
            unfold mNum1 at b_26
            refine lv_istore_n (lv' := [(2, .int (iI ((I_16 mo 23).toInt))), (0, .ref mo), (1, .int (iI bl))]) F.1 F.2.1 dX7_column_44 rfl hl (by decide) rfl (fun ls hl => ?_)
            refine lv_aload_n F.1 F.2.1 dX7_column_45 rfl (lv_at hl 1 rfl) ?_
            refine g_callv (g_runV (As := []) (rest := []) (ci := 7) F hl.1 hH hS hz (c_X7_nextf l g gh T b nn (tNd b nn (tPs b nn h)) I_16 R J AI AJ AR mo hv hm hT (by omega) (mTp hv h65 hbM) hr7 (by omega) (by omega) (mQ_e0 hQ) tNd_le.1) (cwV 0 F.2.2.2.2.1 (good_up gT_X7_next) rfl rfl rfl hdX7_next ⟨Nat.le_of_ble_eq_true rfl, Nat.le_of_ble_eq_true rfl⟩) hm (by decide) rfl rfl rfl (Nat.le_of_ble_eq_true rfl) dX7_column_46 ⟨Nat.zero_le _, Nat.zero_le _⟩) hS (fun I_27 R_28 J_29 AI_30 AJ_31 AR_32 H locs hp_33 hH hS => ?_)
            dsimp only at hp_33
            obtain ⟨rfl, rfl, rfl, rfl, hv, pfq, q_34, nx4, nxa, nxb⟩ := hp_33
            have pf := qF_t pf pfq
            have u_35_2 : (I_27 mo 2).toInt = (I mo 2).toInt := by rw [pf 2 (by decide) (by decide) (by decide) (by decide) (by decide)]
            have u_35_5 : (I_27 mo 5).toInt = (I mo 5).toInt := by rw [pf 5 (by decide) (by decide) (by decide) (by decide) (by decide)]
            have u_35_14 : (I_27 mo 14).toInt = (I mo 14).toInt := by rw [pf 14 (by decide) (by decide) (by decide) (by decide) (by decide)]
            have u_35_16 : (I_27 mo 16).toInt = (I mo 16).toInt := by rw [pf 16 (by decide) (by decide) (by decide) (by decide) (by decide)]
            have u_35_18 : (I_27 mo 18).toInt = (I mo 18).toInt := by rw [pf 18 (by decide) (by decide) (by decide) (by decide) (by decide)]
            have hQ : mQ gh I_27 J_29 AI AJ mo b nn nr nt cc 2 h := by have q9 := mQ_nx hQ nx4 nxa; rw [thn_b (by omega)] at q9; exact q9
            clear nxa nxb
            refine lv_iload_n F.1 F.2.1 dX7_column_49 rfl (lv_at hl 0 rfl) ?_
            have hfin : thn (f, h, 0) (fun t _ => sCol b nn bl t) = (2, h, 0) := by
              refine (thn_k q0).trans ?_
              show sCol b nn bl h = _
              unfold sCol
              repeat (first | with_reducible rfl | refine ite_y (by omega) ?_ | refine ite_n (by omega) ?_ | exact pr_e (by omega) (by omega) (by omega) | refine ite_y (pCf_ok (by omega) (by omega)) ?_ | refine ite_n (fun e9 => absurd (pCf_0 e9) (by omega)) ?_ | exact pr_e (pCf_no (by omega)) (by omega) (by omega) | exact pr_e (pCf_big (by omega) (by omega)) (by omega) (by omega))
            exact g_iret F hr hlk hH hS hz (zr_t _) ⟨rfl, rfl, rfl, rfl, hv, pf, by first | omega | rfl | (dsimp only; omega), by first | omega | rfl | (dsimp only; omega), by (try dsimp only); rw [hfin]; exact hQ, by (try dsimp only); rw [hfin]; exact pIm_n (by omega)⟩ dX7_column_50
      · have t_36 : pK b nn h ≠ 2 := mQ_kn hQ rfl (c := 1) rfl (by omega)
        refine lv_aload_n F.1 F.2.1 dX7_column_15 rfl (lv_at hl 0 rfl) ?_
        refine z_iconst F dX7_column_16 ?_
        refine g_callv (g_runV (As := [.int (iI 1)]) (rest := []) (ci := 7) F hl.1 hH hS hz (c_X7_wrongf l g gh T b nn nr nt cc 0 h I R J AI AJ AR mo 1 ⟨by decide, by decide⟩ hv hm hT (by omega) h65 hbM hr7 (by omega) hn9 (by omega) hQ) (cwV 1 F.2.2.2.2.1 (good_up gT_X7_wrong) rfl rfl rfl hdX7_wrong ⟨Nat.le_of_ble_eq_true rfl, Nat.le_of_ble_eq_true rfl⟩) hm (by decide) rfl rfl rfl (Nat.le_of_ble_eq_true rfl) dX7_column_17 ⟨Nat.zero_le _, Nat.zero_le _⟩) hS (fun I_37 R_38 J_39 AI_40 AJ_41 AR_42 H locs hp_43 hH hS => ?_)
        dsimp only at hp_43
        obtain ⟨r_44, er_44⟩ : ∃ qQ : pR, qQ = thn (0, h, 0) (fun t _ => (1, t, 0)) := ⟨_, rfl⟩
        rw [← er_44] at hp_43
        obtain ⟨rfl, rfl, rfl, rfl, rfl, hv, pfq, q_45, hQ⟩ := hp_43
        have pf := qF_t pf pfq
        have u_46_2 : (I_37 mo 2).toInt = (I mo 2).toInt := by rw [pf 2 (by decide) (by decide) (by decide) (by decide) (by decide)]
        have u_46_5 : (I_37 mo 5).toInt = (I mo 5).toInt := by rw [pf 5 (by decide) (by decide) (by decide) (by decide) (by decide)]
        have u_46_14 : (I_37 mo 14).toInt = (I mo 14).toInt := by rw [pf 14 (by decide) (by decide) (by decide) (by decide) (by decide)]
        have u_46_16 : (I_37 mo 16).toInt = (I mo 16).toInt := by rw [pf 16 (by decide) (by decide) (by decide) (by decide) (by decide)]
        have u_46_18 : (I_37 mo 18).toInt = (I mo 18).toInt := by rw [pf 18 (by decide) (by decide) (by decide) (by decide) (by decide)]
        have er_44 : r_44 = (1, h, 0) := er_44
        have hQ : mQ gh I_37 J AI AJ mo b nn nr nt cc 1 h := by rw [er_44] at hQ; exact hQ
        have q9_r_44 : (1 : Int) ≠ 0 := by omega
        have g9_r_44 := mQ_f hQ q9_r_44
        refine lv_aload_n F.1 F.2.1 dX7_column_20 rfl (lv_at hl 0 rfl) ?_
        refine g_getI (ci := 7) (k := 24) F hH rfl (by decide) iX7 hm (by decide) rfl k81 dX7_column_21 ?_
        have b_47 := mJ hv hm
        unfold mNum1 at b_47
        refine z_if_ne (tgt := 40) F dX7_column_24 (by decide) (zr_t _) (fun c_48 => ?_) (fun c_48 => ?_)
        · refine lv_aload_n F.1 F.2.1 dX7_column_40 rfl (lv_at hl 0 rfl) ?_
          refine g_getI (ci := 7) (k := 23) F hH rfl (by decide) iX7 hm (by decide) rfl k97 dX7_column_41 ?_
          refine lv_istore_n (lv' := [(2, .int (iI ((I_37 mo 23).toInt))), (0, .ref mo), (1, .int (iI bl))]) F.1 F.2.1 dX7_column_44 rfl hl (by decide) rfl (fun ls hl => ?_)
          refine lv_aload_n F.1 F.2.1 dX7_column_45 rfl (lv_at hl 1 rfl) ?_
          refine g_callv (g_runV (As := []) (rest := []) (ci := 7) F hl.1 hH hS hz (c_X7_nextf l g gh T b nn (tNd b nn (tPs b nn h)) I_37 R J AI AJ AR mo hv hm hT (by omega) (mTp hv h65 hbM) hr7 (by omega) (by omega) (mQ_e0 hQ) tNd_le.1) (cwV 0 F.2.2.2.2.1 (good_up gT_X7_next) rfl rfl rfl hdX7_next ⟨Nat.le_of_ble_eq_true rfl, Nat.le_of_ble_eq_true rfl⟩) hm (by decide) rfl rfl rfl (Nat.le_of_ble_eq_true rfl) dX7_column_46 ⟨Nat.zero_le _, Nat.zero_le _⟩) hS (fun I_49 R_50 J_51 AI_52 AJ_53 AR_54 H locs hp_55 hH hS => ?_)
          dsimp only at hp_55
          obtain ⟨rfl, rfl, rfl, rfl, hv, pfq, q_56, nx4, nxa, nxb⟩ := hp_55
          have pf := qF_t pf pfq
          have u_57_2 : (I_49 mo 2).toInt = (I mo 2).toInt := by rw [pf 2 (by decide) (by decide) (by decide) (by decide) (by decide)]
          have u_57_5 : (I_49 mo 5).toInt = (I mo 5).toInt := by rw [pf 5 (by decide) (by decide) (by decide) (by decide) (by decide)]
          have u_57_14 : (I_49 mo 14).toInt = (I mo 14).toInt := by rw [pf 14 (by decide) (by decide) (by decide) (by decide) (by decide)]
          have u_57_16 : (I_49 mo 16).toInt = (I mo 16).toInt := by rw [pf 16 (by decide) (by decide) (by decide) (by decide) (by decide)]
          have u_57_18 : (I_49 mo 18).toInt = (I mo 18).toInt := by rw [pf 18 (by decide) (by decide) (by decide) (by decide) (by decide)]
          have hQ : mQ gh I_49 J_51 AI AJ mo b nn nr nt cc 1 h := by have q9 := mQ_nx hQ nx4 nxa; rw [thn_b (by omega)] at q9; exact q9
          clear nxa nxb
          refine lv_iload_n F.1 F.2.1 dX7_column_49 rfl (lv_at hl 0 rfl) ?_
          have hfin : thn (f, h, 0) (fun t _ => sCol b nn bl t) = (1, h, 0) := by
            refine (thn_k q0).trans ?_
            show sCol b nn bl h = _
            unfold sCol
            repeat (first | with_reducible rfl | refine ite_y (by omega) ?_ | refine ite_n (by omega) ?_ | exact pr_e (by omega) (by omega) (by omega) | refine ite_y (pCf_ok (by omega) (by omega)) ?_ | refine ite_n (fun e9 => absurd (pCf_0 e9) (by omega)) ?_ | exact pr_e (pCf_no (by omega)) (by omega) (by omega) | exact pr_e (pCf_big (by omega) (by omega)) (by omega) (by omega))
          exact g_iret F hr hlk hH hS hz (zr_t _) ⟨rfl, rfl, rfl, rfl, hv, pf, by first | omega | rfl | (dsimp only; omega), by first | omega | rfl | (dsimp only; omega), by (try dsimp only); rw [hfin]; exact hQ, by (try dsimp only); rw [hfin]; exact pIm_n (by omega)⟩ dX7_column_50
        · exact absurd (mQ_z hQ (by omega)) (by omega)
  · have hf1 := mQ_f hQ q0
    refine lv_aload_n F.1 F.2.1 dX7_column_0 rfl (lv_at hl 0 rfl) ?_
    refine g_getI (ci := 7) (k := 24) F hH rfl (by decide) iX7 hm (by decide) rfl k81 dX7_column_1 ?_
    have b_58 := mJ hv hm
    unfold mNum1 at b_58
    refine z_if_ne (tgt := 20) F dX7_column_4 (by decide) (zr_t _) (fun c_59 => ?_) (fun c_59 => ?_)
    · refine lv_aload_n F.1 F.2.1 dX7_column_20 rfl (lv_at hl 0 rfl) ?_
      refine g_getI (ci := 7) (k := 24) F hH rfl (by decide) iX7 hm (by decide) rfl k81 dX7_column_21 ?_
      refine z_if_ne (tgt := 40) F dX7_column_24 (by decide) (zr_t _) (fun c_60 => ?_) (fun c_60 => ?_)
      · refine lv_aload_n F.1 F.2.1 dX7_column_40 rfl (lv_at hl 0 rfl) ?_
        refine g_getI (ci := 7) (k := 23) F hH rfl (by decide) iX7 hm (by decide) rfl k97 dX7_column_41 ?_
        refine lv_istore_n (lv' := [(2, .int (iI ((I mo 23).toInt))), (0, .ref mo), (1, .int (iI bl))]) F.1 F.2.1 dX7_column_44 rfl hl (by decide) rfl (fun ls hl => ?_)
        refine lv_aload_n F.1 F.2.1 dX7_column_45 rfl (lv_at hl 1 rfl) ?_
        refine g_callv (g_runV (As := []) (rest := []) (ci := 7) F hl.1 hH hS hz (c_X7_nextf l g gh T b nn (tNd b nn (tPs b nn h)) I R J AI AJ AR mo hv hm hT (by omega) (mTp hv h65 hbM) hr7 (by omega) (by omega) (mQ_e0 hQ) tNd_le.1) (cwV 0 F.2.2.2.2.1 (good_up gT_X7_next) rfl rfl rfl hdX7_next ⟨Nat.le_of_ble_eq_true rfl, Nat.le_of_ble_eq_true rfl⟩) hm (by decide) rfl rfl rfl (Nat.le_of_ble_eq_true rfl) dX7_column_46 ⟨Nat.zero_le _, Nat.zero_le _⟩) hS (fun I_61 R_62 J_63 AI_64 AJ_65 AR_66 H locs hp_67 hH hS => ?_)
        dsimp only at hp_67
        obtain ⟨rfl, rfl, rfl, rfl, hv, pfq, q_68, nx4, nxa, nxb⟩ := hp_67
        have pf := qF_t pf pfq
        have u_69_2 : (I_61 mo 2).toInt = (I mo 2).toInt := by rw [pf 2 (by decide) (by decide) (by decide) (by decide) (by decide)]
        have u_69_5 : (I_61 mo 5).toInt = (I mo 5).toInt := by rw [pf 5 (by decide) (by decide) (by decide) (by decide) (by decide)]
        have u_69_14 : (I_61 mo 14).toInt = (I mo 14).toInt := by rw [pf 14 (by decide) (by decide) (by decide) (by decide) (by decide)]
        have u_69_16 : (I_61 mo 16).toInt = (I mo 16).toInt := by rw [pf 16 (by decide) (by decide) (by decide) (by decide) (by decide)]
        have u_69_18 : (I_61 mo 18).toInt = (I mo 18).toInt := by rw [pf 18 (by decide) (by decide) (by decide) (by decide) (by decide)]
        have hQ : mQ gh I_61 J_63 AI AJ mo b nn nr nt cc f h := by have q9 := mQ_nx hQ nx4 nxa; rw [thn_b (by omega)] at q9; exact q9
        clear nxa nxb
        refine lv_iload_n F.1 F.2.1 dX7_column_49 rfl (lv_at hl 0 rfl) ?_
        have hfin : thn (f, h, 0) (fun t _ => sCol b nn bl t) = (f, h, 0) := thn_b q0
        exact g_iret F hr hlk hH hS hz (zr_t _) ⟨rfl, rfl, rfl, rfl, hv, pf, by first | omega | rfl | (dsimp only; omega), by first | omega | rfl | (dsimp only; omega), by (try dsimp only); rw [hfin]; exact hQ, by (try dsimp only); rw [hfin]; exact pIm_n (by omega)⟩ dX7_column_50
      · exact absurd trivial (by omega)
    · exact absurd (mQ_z hQ (by omega)) (by omega)

def rmX7_numberToldf : Room := { frames := 3, cells := 0, slots := 0, locals := 67 }
set_option maxHeartbeats 4000000 in
set_option maxRecDepth 100000 in
/-- a number -/
theorem c_X7_numberToldf (l : Launch) (g : gG) (gh : gGh) (T : Nat → Int32) (b : tTx) (nn nr : Nat) (nt : Nat → Nat) (cc : Nat → Int) (f : Int) (h : Nat) (I : gI) (R : gR) (J : gJ) (AI : gI) (AJ : gJ) (AR : gR) (mo : Nat) (hv : mInv g gh R I AI) (hm : gO g mo 7) (hT : AI (gh 50 0) = T) (hE : (I mo 20).toInt ≤ 936) (h65 : gh 9 (gh 65 0) ≠ 5) (hbM : ∀ k : Nat, k < nn → ((gM g).2 (gh 65 0) k).toInt = b k % 256) (hr7 : ∀ k : Nat, -128 ≤ b k ∧ b k ≤ 127) (hsz : (I mo 18).toInt = (nn : Int)) (hn9 : nn ≤ 900) (hm5 : (I mo 5).toInt = (nr : Int)) (hQ : mQ gh I J AI AJ mo b nn nr nt cc f h) : gMet l g yX7_numberTold tsX7_numberTold rmX7_numberToldf [.ref mo] (I, R, J, AI, AJ, AR) (gQi g (fun (z : Int) (w : gS) => R = w.2.1 ∧ AI = w.2.2.2.1 ∧ AJ = w.2.2.2.2.1 ∧ AR = w.2.2.2.2.2 ∧ (mInv g gh R (w.1) AI) ∧ (qF mo I (w.1)) ∧ (((w.1) mo 20).toInt ≤ 936 ∧ (I mo 24).toInt ≤ ((w.1) mo 24).toInt) ∧ (((w.1) mo 24).toInt = 0 → (I mo 21).toInt = 3 ∧ z = (I mo 23).toInt) ∧ (mQ gh (w.1) (w.2.2.1) AI AJ mo b nn nr nt cc (thn (f, h, 0) (fun t _ => sNum b nn t)).1 (thn (f, h, 0) (fun t _ => sNum b nn t)).2.1) ∧ (pIm (thn (f, h, 0) (fun t _ => sNum b nn t)).1 z (thn (f, h, 0) (fun t _ => sNum b nn t)).2.2))) := by
  refine gStart (cc := cX7_numberTold) (maxL := 2) (ret := (some (.int))) (by decide) rfl (Nat.le_of_ble_eq_true rfl) ?_
  intro p e s m below meth c ls F hr hlk hH hz hS hl
  have hl : lv_has ls 2 [(0, .ref mo)] := hl
  have hS : va_S (gA g) s.heap s.heap [] := hS
  obtain ⟨H, hHe⟩ : ∃ H : Heap, H = s.heap := ⟨_, rfl⟩
  obtain ⟨locs, hlo⟩ : ∃ k : List Loc, k = [] := ⟨_, rfl⟩
  have hH : gH g I R J AI AJ AR H := by rw [hHe]; exact hH
  have hS : va_S (gA g) s.heap H locs := by rw [hHe, hlo]; exact hS
  suffices hw : W p l e rmX7_numberToldf s m ([.ref mo] : List Value).toArray below meth c H locs 0 0 (MQ below (gQi g (fun (z : Int) (w : gS) => R = w.2.1 ∧ AI = w.2.2.2.1 ∧ AJ = w.2.2.2.2.1 ∧ AR = w.2.2.2.2.2 ∧ (mInv g gh R (w.1) AI) ∧ (qF mo I (w.1)) ∧ (((w.1) mo 20).toInt ≤ 936 ∧ (I mo 24).toInt ≤ ((w.1) mo 24).toInt) ∧ (((w.1) mo 24).toInt = 0 → (I mo 21).toInt = 3 ∧ z = (I mo 23).toInt) ∧ (mQ gh (w.1) (w.2.2.1) AI AJ mo b nn nr nt cc (thn (f, h, 0) (fun t _ => sNum b nn t)).1 (thn (f, h, 0) (fun t _ => sNum b nn t)).2.1) ∧ (pIm (thn (f, h, 0) (fun t _ => sNum b nn t)).1 z (thn (f, h, 0) (fun t _ => sNum b nn t)).2.2))) ([.ref mo] : List Value).toArray s 0 0 (gA g)) (F0 m 0 ls []) by
    rw [hHe, hlo] at hw; exact hw
  clear hHe hlo
  have pf : qF mo I I := qF_r
  have hb0 := mJ hv hm
  unfold mNum1 at hb0
  have iX7 : ∀ w ∈ u_ws RX7 TX7 32, w ∈ tsX7_numberTold := fun w h => List.mem_cons_of_mem _ (inTB7 w h)
  have k81 : Cond.fieldLink RX7 81 (TX7 24).1 (TX7 24).2.1 (TX7 24).2.2.1 ∈ tsX7_numberTold := List.mem_cons_of_mem _ fl_81
  have k94 : Cond.fieldLink RX7 94 (TX7 21).1 (TX7 21).2.1 (TX7 21).2.2.1 ∈ tsX7_numberTold := List.mem_cons_of_mem _ fl_94
  have k97 : Cond.fieldLink RX7 97 (TX7 23).1 (TX7 23).2.1 (TX7 23).2.2.1 ∈ tsX7_numberTold := List.mem_cons_of_mem _ fl_97
  have hf0 := mQ_p hQ
  by_cases q0 : f = 0
  · have hQ := mQ_ok hQ q0
    have hz0 := mQ_0 hQ rfl
    refine lv_aload_n F.1 F.2.1 dX7_numberTold_0 rfl (lv_at hl 0 rfl) ?_
    refine g_getI (ci := 7) (k := 24) F hH rfl (by decide) iX7 hm (by decide) rfl k81 dX7_numberTold_1 ?_
    have b_1 := mJ hv hm
    unfold mNum1 at b_1
    refine z_if_ne (tgt := 20) F dX7_numberTold_4 (by decide) (zr_t _) (fun c_2 => ?_) (fun c_2 => ?_)
    · exact absurd (mQ_0 hQ rfl) (by omega)
    · refine lv_aload_n F.1 F.2.1 dX7_numberTold_7 rfl (lv_at hl 0 rfl) ?_
      refine g_getI (ci := 7) (k := 21) F hH rfl (by decide) iX7 hm (by decide) rfl k94 dX7_numberTold_8 ?_
      refine z_iconst F dX7_numberTold_11 ?_
      refine z_icmp_eq (tgt := 20) F dX7_numberTold_12 (by decide) (zr_t _) ⟨by decide, by decide⟩ (fun c_3 => ?_) (fun c_3 => ?_)
      · have t_4 := tkM_3 ((mQ_k hQ rfl).symm.trans (by omega))
        have t_4v := mQ_v hQ rfl (by omega)
        refine lv_aload_n F.1 F.2.1 dX7_numberTold_20 rfl (lv_at hl 0 rfl) ?_
        refine g_getI (ci := 7) (k := 23) F hH rfl (by decide) iX7 hm (by decide) rfl k97 dX7_numberTold_21 ?_
        refine lv_istore_n (lv' := [(1, .int (iI ((I mo 23).toInt))), (0, .ref mo)]) F.1 F.2.1 dX7_numberTold_24 rfl hl (by decide) rfl (fun ls hl => ?_)
        refine lv_aload_n F.1 F.2.1 dX7_numberTold_25 rfl (lv_at hl 1 rfl) ?_
        refine g_callv (g_runV (As := []) (rest := []) (ci := 7) F hl.1 hH hS hz (c_X7_nextf l g gh T b nn (tNd b nn (tPs b nn h)) I R J AI AJ AR mo hv hm hT (by omega) (mTp hv h65 hbM) hr7 (by omega) (by omega) (mQ_e0 hQ) tNd_le.1) (cwV 0 F.2.2.2.2.1 (good_up gT_X7_next) rfl rfl rfl hdX7_next ⟨Nat.le_of_ble_eq_true rfl, Nat.le_of_ble_eq_true rfl⟩) hm (by decide) rfl rfl rfl (Nat.le_of_ble_eq_true rfl) dX7_numberTold_26 ⟨Nat.zero_le _, Nat.zero_le _⟩) hS (fun I_5 R_6 J_7 AI_8 AJ_9 AR_10 H locs hp_11 hH hS => ?_)
        dsimp only at hp_11
        obtain ⟨rfl, rfl, rfl, rfl, hv, pfq, q_12, nx4, nxa, nxb⟩ := hp_11
        have pf := qF_t pf pfq
        have u_13_2 : (I_5 mo 2).toInt = (I mo 2).toInt := by rw [pf 2 (by decide) (by decide) (by decide) (by decide) (by decide)]
        have u_13_5 : (I_5 mo 5).toInt = (I mo 5).toInt := by rw [pf 5 (by decide) (by decide) (by decide) (by decide) (by decide)]
        have u_13_14 : (I_5 mo 14).toInt = (I mo 14).toInt := by rw [pf 14 (by decide) (by decide) (by decide) (by decide) (by decide)]
        have u_13_16 : (I_5 mo 16).toInt = (I mo 16).toInt := by rw [pf 16 (by decide) (by decide) (by decide) (by decide) (by decide)]
        have u_13_18 : (I_5 mo 18).toInt = (I mo 18).toInt := by rw [pf 18 (by decide) (by decide) (by decide) (by decide) (by decide)]
        have hQ : mQ gh I_5 J_7 AI AJ mo b nn nr nt cc 0 (h + 1) := mQ_nx hQ nx4 nxa
        clear nxa nxb
        refine lv_iload_n F.1 F.2.1 dX7_numberTold_29 rfl (lv_at hl 0 rfl) ?_
        have hfin : thn (f, h, 0) (fun t _ => sNum b nn t) = (0, h + 1, pV b nn h) := by
          refine (thn_k q0).trans ?_
          show sNum b nn h = _
          unfold sNum
          repeat (first | with_reducible rfl | refine ite_y (by omega) ?_ | refine ite_n (by omega) ?_ | exact pr_e (by omega) (by omega) (by omega) | refine ite_y (pCf_ok (by omega) (by omega)) ?_ | refine ite_n (fun e9 => absurd (pCf_0 e9) (by omega)) ?_ | exact pr_e (pCf_no (by omega)) (by omega) (by omega) | exact pr_e (pCf_big (by omega) (by omega)) (by omega) (by omega))
        exact g_iret F hr hlk hH hS hz (zr_t _) ⟨rfl, rfl, rfl, rfl, hv, pf, by first | omega | rfl | (dsimp only; omega), by first | omega | rfl | (dsimp only; omega), by (try dsimp only); rw [hfin]; exact hQ, by (try dsimp only); rw [hfin]; (try dsimp only); exact pIm_y (by omega)⟩ dX7_numberTold_30
      · have t_14 : pK b nn h ≠ 4 := mQ_kn hQ rfl (c := 3) rfl (by omega)
        refine lv_aload_n F.1 F.2.1 dX7_numberTold_15 rfl (lv_at hl 0 rfl) ?_
        refine z_iconst F dX7_numberTold_16 ?_
        refine g_callv (g_runV (As := [.int (iI 1)]) (rest := []) (ci := 7) F hl.1 hH hS hz (c_X7_wrongf l g gh T b nn nr nt cc 0 h I R J AI AJ AR mo 1 ⟨by decide, by decide⟩ hv hm hT (by omega) h65 hbM hr7 (by omega) hn9 (by omega) hQ) (cwV 1 F.2.2.2.2.1 (good_up gT_X7_wrong) rfl rfl rfl hdX7_wrong ⟨Nat.le_of_ble_eq_true rfl, Nat.le_of_ble_eq_true rfl⟩) hm (by decide) rfl rfl rfl (Nat.le_of_ble_eq_true rfl) dX7_numberTold_17 ⟨Nat.zero_le _, Nat.zero_le _⟩) hS (fun I_15 R_16 J_17 AI_18 AJ_19 AR_20 H locs hp_21 hH hS => ?_)
        dsimp only at hp_21
        obtain ⟨r_22, er_22⟩ : ∃ qQ : pR, qQ = thn (0, h, 0) (fun t _ => (1, t, 0)) := ⟨_, rfl⟩
        rw [← er_22] at hp_21
        obtain ⟨rfl, rfl, rfl, rfl, rfl, hv, pfq, q_23, hQ⟩ := hp_21
        have pf := qF_t pf pfq
        have u_24_2 : (I_15 mo 2).toInt = (I mo 2).toInt := by rw [pf 2 (by decide) (by decide) (by decide) (by decide) (by decide)]
        have u_24_5 : (I_15 mo 5).toInt = (I mo 5).toInt := by rw [pf 5 (by decide) (by decide) (by decide) (by decide) (by decide)]
        have u_24_14 : (I_15 mo 14).toInt = (I mo 14).toInt := by rw [pf 14 (by decide) (by decide) (by decide) (by decide) (by decide)]
        have u_24_16 : (I_15 mo 16).toInt = (I mo 16).toInt := by rw [pf 16 (by decide) (by decide) (by decide) (by decide) (by decide)]
        have u_24_18 : (I_15 mo 18).toInt = (I mo 18).toInt := by rw [pf 18 (by decide) (by decide) (by decide) (by decide) (by decide)]
        have er_22 : r_22 = (1, h, 0) := er_22
        have hQ : mQ gh I_15 J AI AJ mo b nn nr nt cc 1 h := by rw [er_22] at hQ; exact hQ
        have q9_r_22 : (1 : Int) ≠ 0 := by omega
        have g9_r_22 := mQ_f hQ q9_r_22
        refine lv_aload_n F.1 F.2.1 dX7_numberTold_20 rfl (lv_at hl 0 rfl) ?_
        refine g_getI (ci := 7) (k := 23) F hH rfl (by decide) iX7 hm (by decide) rfl k97 dX7_numberTold_21 ?_
        have b_25 := mJ hv hm
        unfold mNum1 at b_25
        refine lv_istore_n (lv' := [(1, .int (iI ((I_15 mo 23).toInt))), (0, .ref mo)]) F.1 F.2.1 dX7_numberTold_24 rfl hl (by decide) rfl (fun ls hl => ?_)
        refine lv_aload_n F.1 F.2.1 dX7_numberTold_25 rfl (lv_at hl 1 rfl) ?_
        refine g_callv (g_runV (As := []) (rest := []) (ci := 7) F hl.1 hH hS hz (c_X7_nextf l g gh T b nn (tNd b nn (tPs b nn h)) I_15 R J AI AJ AR mo hv hm hT (by omega) (mTp hv h65 hbM) hr7 (by omega) (by omega) (mQ_e0 hQ) tNd_le.1) (cwV 0 F.2.2.2.2.1 (good_up gT_X7_next) rfl rfl rfl hdX7_next ⟨Nat.le_of_ble_eq_true rfl, Nat.le_of_ble_eq_true rfl⟩) hm (by decide) rfl rfl rfl (Nat.le_of_ble_eq_true rfl) dX7_numberTold_26 ⟨Nat.zero_le _, Nat.zero_le _⟩) hS (fun I_26 R_27 J_28 AI_29 AJ_30 AR_31 H locs hp_32 hH hS => ?_)
        dsimp only at hp_32
        obtain ⟨rfl, rfl, rfl, rfl, hv, pfq, q_33, nx4, nxa, nxb⟩ := hp_32
        have pf := qF_t pf pfq
        have u_34_2 : (I_26 mo 2).toInt = (I mo 2).toInt := by rw [pf 2 (by decide) (by decide) (by decide) (by decide) (by decide)]
        have u_34_5 : (I_26 mo 5).toInt = (I mo 5).toInt := by rw [pf 5 (by decide) (by decide) (by decide) (by decide) (by decide)]
        have u_34_14 : (I_26 mo 14).toInt = (I mo 14).toInt := by rw [pf 14 (by decide) (by decide) (by decide) (by decide) (by decide)]
        have u_34_16 : (I_26 mo 16).toInt = (I mo 16).toInt := by rw [pf 16 (by decide) (by decide) (by decide) (by decide) (by decide)]
        have u_34_18 : (I_26 mo 18).toInt = (I mo 18).toInt := by rw [pf 18 (by decide) (by decide) (by decide) (by decide) (by decide)]
        have hQ : mQ gh I_26 J_28 AI AJ mo b nn nr nt cc 1 h := by have q9 := mQ_nx hQ nx4 nxa; rw [thn_b (by omega)] at q9; exact q9
        clear nxa nxb
        refine lv_iload_n F.1 F.2.1 dX7_numberTold_29 rfl (lv_at hl 0 rfl) ?_
        have hfin : thn (f, h, 0) (fun t _ => sNum b nn t) = (1, h, 0) := by
          refine (thn_k q0).trans ?_
          show sNum b nn h = _
          unfold sNum
          repeat (first | with_reducible rfl | refine ite_y (by omega) ?_ | refine ite_n (by omega) ?_ | exact pr_e (by omega) (by omega) (by omega) | refine ite_y (pCf_ok (by omega) (by omega)) ?_ | refine ite_n (fun e9 => absurd (pCf_0 e9) (by omega)) ?_ | exact pr_e (pCf_no (by omega)) (by omega) (by omega) | exact pr_e (pCf_big (by omega) (by omega)) (by omega) (by omega))
        exact g_iret F hr hlk hH hS hz (zr_t _) ⟨rfl, rfl, rfl, rfl, hv, pf, by first | omega | rfl | (dsimp only; omega), by first | omega | rfl | (dsimp only; omega), by (try dsimp only); rw [hfin]; exact hQ, by (try dsimp only); rw [hfin]; exact pIm_n (by omega)⟩ dX7_numberTold_30
  · have hf1 := mQ_f hQ q0
    refine lv_aload_n F.1 F.2.1 dX7_numberTold_0 rfl (lv_at hl 0 rfl) ?_
    refine g_getI (ci := 7) (k := 24) F hH rfl (by decide) iX7 hm (by decide) rfl k81 dX7_numberTold_1 ?_
    have b_35 := mJ hv hm
    unfold mNum1 at b_35
    refine z_if_ne (tgt := 20) F dX7_numberTold_4 (by decide) (zr_t _) (fun c_36 => ?_) (fun c_36 => ?_)
    · refine lv_aload_n F.1 F.2.1 dX7_numberTold_20 rfl (lv_at hl 0 rfl) ?_
      refine g_getI (ci := 7) (k := 23) F hH rfl (by decide) iX7 hm (by decide) rfl k97 dX7_numberTold_21 ?_
      refine lv_istore_n (lv' := [(1, .int (iI ((I mo 23).toInt))), (0, .ref mo)]) F.1 F.2.1 dX7_numberTold_24 rfl hl (by decide) rfl (fun ls hl => ?_)
      refine lv_aload_n F.1 F.2.1 dX7_numberTold_25 rfl (lv_at hl 1 rfl) ?_
      refine g_callv (g_runV (As := []) (rest := []) (ci := 7) F hl.1 hH hS hz (c_X7_nextf l g gh T b nn (tNd b nn (tPs b nn h)) I R J AI AJ AR mo hv hm hT (by omega) (mTp hv h65 hbM) hr7 (by omega) (by omega) (mQ_e0 hQ) tNd_le.1) (cwV 0 F.2.2.2.2.1 (good_up gT_X7_next) rfl rfl rfl hdX7_next ⟨Nat.le_of_ble_eq_true rfl, Nat.le_of_ble_eq_true rfl⟩) hm (by decide) rfl rfl rfl (Nat.le_of_ble_eq_true rfl) dX7_numberTold_26 ⟨Nat.zero_le _, Nat.zero_le _⟩) hS (fun I_37 R_38 J_39 AI_40 AJ_41 AR_42 H locs hp_43 hH hS => ?_)
      dsimp only at hp_43
      obtain ⟨rfl, rfl, rfl, rfl, hv, pfq, q_44, nx4, nxa, nxb⟩ := hp_43
      have pf := qF_t pf pfq
      have u_45_2 : (I_37 mo 2).toInt = (I mo 2).toInt := by rw [pf 2 (by decide) (by decide) (by decide) (by decide) (by decide)]
      have u_45_5 : (I_37 mo 5).toInt = (I mo 5).toInt := by rw [pf 5 (by decide) (by decide) (by decide) (by decide) (by decide)]
      have u_45_14 : (I_37 mo 14).toInt = (I mo 14).toInt := by rw [pf 14 (by decide) (by decide) (by decide) (by decide) (by decide)]
      have u_45_16 : (I_37 mo 16).toInt = (I mo 16).toInt := by rw [pf 16 (by decide) (by decide) (by decide) (by decide) (by decide)]
      have u_45_18 : (I_37 mo 18).toInt = (I mo 18).toInt := by rw [pf 18 (by decide) (by decide) (by decide) (by decide) (by decide)]
      have hQ : mQ gh I_37 J_39 AI AJ mo b nn nr nt cc f h := by have q9 := mQ_nx hQ nx4 nxa; rw [thn_b (by omega)] at q9; exact q9
      clear nxa nxb
      refine lv_iload_n F.1 F.2.1 dX7_numberTold_29 rfl (lv_at hl 0 rfl) ?_
      have hfin : thn (f, h, 0) (fun t _ => sNum b nn t) = (f, h, 0) := thn_b q0
      exact g_iret F hr hlk hH hS hz (zr_t _) ⟨rfl, rfl, rfl, rfl, hv, pf, by first | omega | rfl | (dsimp only; omega), by first | omega | rfl | (dsimp only; omega), by (try dsimp only); rw [hfin]; exact hQ, by (try dsimp only); rw [hfin]; exact pIm_n (by omega)⟩ dX7_numberTold_30
    · exact absurd (mQ_z hQ (by omega)) (by omega)

def rmX7_newNamef : Room := { frames := 7, cells := 0, slots := 0, locals := 149 }
set_option maxHeartbeats 4000000 in
set_option maxRecDepth 100000 in
/-- a new name -/
theorem c_X7_newNamef (l : Launch) (g : gG) (gh : gGh) (T : Nat → Int32) (b : tTx) (nn nr : Nat) (nt : Nat → Nat) (cc : Nat → Int) (f : Int) (h : Nat) (I : gI) (R : gR) (J : gJ) (AI : gI) (AJ : gJ) (AR : gR) (mo : Nat) (hv : mInv g gh R I AI) (hm : gO g mo 7) (hT : AI (gh 50 0) = T) (hE : (I mo 20).toInt ≤ 936) (hM : (I mo 24).toInt = 0 → (I mo 5).toInt ≤ 15) (h65 : gh 9 (gh 65 0) ≠ 5) (hbM : ∀ k : Nat, k < nn → ((gM g).2 (gh 65 0) k).toInt = b k % 256) (hr7 : ∀ k : Nat, -128 ≤ b k ∧ b k ≤ 127) (hsz : (I mo 18).toInt = (nn : Int)) (hn9 : nn ≤ 900) (hm5 : (I mo 5).toInt = (nr : Int)) (hQ : mQ gh I J AI AJ mo b nn nr nt cc f h) : gMet l g yX7_newName tsX7_newName rmX7_newNamef [.ref mo] (I, R, J, AI, AJ, AR) (gQv g (fun w : gS => R = w.2.1 ∧ AI = w.2.2.2.1 ∧ AR = w.2.2.2.2.2 ∧ (mInv g gh R (w.1) AI) ∧ (qF mo I (w.1)) ∧ (((w.1) mo 20).toInt ≤ 936 ∧ (I mo 24).toInt ≤ ((w.1) mo 24).toInt) ∧ (mQ gh (w.1) (w.2.2.1) AI (w.2.2.2.2.1) mo b nn nr nt cc (thn (f, h, 0) (fun t _ => sNam b nn nr nt t)).1 (thn (f, h, 0) (fun t _ => sNam b nn nr nt t)).2.1) ∧ (pJm (thn (f, h, 0) (fun t _ => sNam b nn nr nt t)).1 ((w.2.2.2.2.1) (gh 54 0) nr) (pMw b nn h)))) := by
  refine gStart (cc := cX7_newName) (maxL := 1) (ret := none) (by decide) rfl (Nat.le_of_ble_eq_true rfl) ?_
  intro p e s m below meth c ls F hr hlk hH hz hS hl
  have hl : lv_has ls 1 [(0, .ref mo)] := hl
  have hS : va_S (gA g) s.heap s.heap [] := hS
  obtain ⟨H, hHe⟩ : ∃ H : Heap, H = s.heap := ⟨_, rfl⟩
  obtain ⟨locs, hlo⟩ : ∃ k : List Loc, k = [] := ⟨_, rfl⟩
  have hH : gH g I R J AI AJ AR H := by rw [hHe]; exact hH
  have hS : va_S (gA g) s.heap H locs := by rw [hHe, hlo]; exact hS
  suffices hw : W p l e rmX7_newNamef s m ([.ref mo] : List Value).toArray below meth c H locs 0 0 (MQ below (gQv g (fun w : gS => R = w.2.1 ∧ AI = w.2.2.2.1 ∧ AR = w.2.2.2.2.2 ∧ (mInv g gh R (w.1) AI) ∧ (qF mo I (w.1)) ∧ (((w.1) mo 20).toInt ≤ 936 ∧ (I mo 24).toInt ≤ ((w.1) mo 24).toInt) ∧ (mQ gh (w.1) (w.2.2.1) AI (w.2.2.2.2.1) mo b nn nr nt cc (thn (f, h, 0) (fun t _ => sNam b nn nr nt t)).1 (thn (f, h, 0) (fun t _ => sNam b nn nr nt t)).2.1) ∧ (pJm (thn (f, h, 0) (fun t _ => sNam b nn nr nt t)).1 ((w.2.2.2.2.1) (gh 54 0) nr) (pMw b nn h)))) ([.ref mo] : List Value).toArray s 0 0 (gA g)) (F0 m 0 ls []) by
    rw [hHe, hlo] at hw; exact hw
  clear hHe hlo
  have pf : qF mo I I := qF_r
  have hb0 := mJ hv hm
  unfold mNum1 at hb0
  have iX7 : ∀ w ∈ u_ws RX7 TX7 32, w ∈ tsX7_newName := fun w h => List.mem_cons_of_mem _ (inTB7 w h)
  have k81 : Cond.fieldLink RX7 81 (TX7 24).1 (TX7 24).2.1 (TX7 24).2.2.1 ∈ tsX7_newName := List.mem_cons_of_mem _ fl_81
  have k94 : Cond.fieldLink RX7 94 (TX7 21).1 (TX7 21).2.1 (TX7 21).2.2.1 ∈ tsX7_newName := List.mem_cons_of_mem _ fl_94
  have k111 : Cond.fieldLink RX7 111 (TX7 22).1 (TX7 22).2.1 (TX7 22).2.2.1 ∈ tsX7_newName := List.mem_cons_of_mem _ fl_111
  have k20 : Cond.fieldLink RX7 20 (TX7 4).1 (TX7 4).2.1 (TX7 4).2.2.1 ∈ tsX7_newName := List.mem_cons_of_mem _ fl_20
  have k184 : Cond.fieldLink RX7 184 (TX7 5).1 (TX7 5).2.1 (TX7 5).2.2.1 ∈ tsX7_newName := List.mem_cons_of_mem _ fl_184
  have hf0 := mQ_p hQ
  by_cases q0 : f = 0
  · have hQ := mQ_ok hQ q0
    have hz0 := mQ_0 hQ rfl
    refine lv_aload_n F.1 F.2.1 dX7_newName_0 rfl (lv_at hl 0 rfl) ?_
    refine g_getI (ci := 7) (k := 24) F hH rfl (by decide) iX7 hm (by decide) rfl k81 dX7_newName_1 ?_
    have b_1 := mJ hv hm
    unfold mNum1 at b_1
    refine z_if_ne (tgt := 27) F dX7_newName_4 (by decide) (zr_t _) (fun c_2 => ?_) (fun c_2 => ?_)
    · exact absurd (mQ_0 hQ rfl) (by omega)
    · refine lv_aload_n F.1 F.2.1 dX7_newName_7 rfl (lv_at hl 0 rfl) ?_
      refine g_getI (ci := 7) (k := 21) F hH rfl (by decide) iX7 hm (by decide) rfl k94 dX7_newName_8 ?_
      refine z_iconst F dX7_newName_11 ?_
      refine z_icmp_ne (tgt := 22) F dX7_newName_12 (by decide) (zr_t _) ⟨by decide, by decide⟩ (fun c_3 => ?_) (fun c_3 => ?_)
      · have t_4 : pK b nn h ≠ 3 := mQ_kn hQ rfl (c := 2) rfl (by omega)
        refine lv_aload_n F.1 F.2.1 dX7_newName_22 rfl (lv_at hl 0 rfl) ?_
        refine z_iconst F dX7_newName_23 ?_
        refine g_callv (g_runV (As := [.int (iI 1)]) (rest := []) (ci := 7) F hl.1 hH hS hz (c_X7_wrongf l g gh T b nn nr nt cc 0 h I R J AI AJ AR mo 1 ⟨by decide, by decide⟩ hv hm hT (by omega) h65 hbM hr7 (by omega) hn9 (by omega) hQ) (cwV 1 F.2.2.2.2.1 (good_up gT_X7_wrong) rfl rfl rfl hdX7_wrong ⟨Nat.le_of_ble_eq_true rfl, Nat.le_of_ble_eq_true rfl⟩) hm (by decide) rfl rfl rfl (Nat.le_of_ble_eq_true rfl) dX7_newName_24 ⟨Nat.zero_le _, Nat.zero_le _⟩) hS (fun I_5 R_6 J_7 AI_8 AJ_9 AR_10 H locs hp_11 hH hS => ?_)
        dsimp only at hp_11
        obtain ⟨r_12, er_12⟩ : ∃ qQ : pR, qQ = thn (0, h, 0) (fun t _ => (1, t, 0)) := ⟨_, rfl⟩
        rw [← er_12] at hp_11
        obtain ⟨rfl, rfl, rfl, rfl, rfl, hv, pfq, q_13, hQ⟩ := hp_11
        have pf := qF_t pf pfq
        have u_14_2 : (I_5 mo 2).toInt = (I mo 2).toInt := by rw [pf 2 (by decide) (by decide) (by decide) (by decide) (by decide)]
        have u_14_5 : (I_5 mo 5).toInt = (I mo 5).toInt := by rw [pf 5 (by decide) (by decide) (by decide) (by decide) (by decide)]
        have u_14_14 : (I_5 mo 14).toInt = (I mo 14).toInt := by rw [pf 14 (by decide) (by decide) (by decide) (by decide) (by decide)]
        have u_14_16 : (I_5 mo 16).toInt = (I mo 16).toInt := by rw [pf 16 (by decide) (by decide) (by decide) (by decide) (by decide)]
        have u_14_18 : (I_5 mo 18).toInt = (I mo 18).toInt := by rw [pf 18 (by decide) (by decide) (by decide) (by decide) (by decide)]
        have er_12 : r_12 = (1, h, 0) := er_12
        have hQ : mQ gh I_5 J AI AJ mo b nn nr nt cc 1 h := by rw [er_12] at hQ; exact hQ
        have q9_r_12 : (1 : Int) ≠ 0 := by omega
        have g9_r_12 := mQ_f hQ q9_r_12
        refine lv_aload_n F.1 F.2.1 dX7_newName_27 rfl (lv_at hl 0 rfl) ?_
        refine g_getI (ci := 7) (k := 24) F hH rfl (by decide) iX7 hm (by decide) rfl k81 dX7_newName_28 ?_
        have b_15 := mJ hv hm
        unfold mNum1 at b_15
        refine z_if_ne (tgt := 50) F dX7_newName_31 (by decide) (zr_t _) (fun c_16 => ?_) (fun c_16 => ?_)
        · refine lv_aload_n F.1 F.2.1 dX7_newName_50 rfl (lv_at hl 0 rfl) ?_
          refine g_getI (ci := 7) (k := 24) F hH rfl (by decide) iX7 hm (by decide) rfl k81 dX7_newName_51 ?_
          refine z_if_ne (tgt := 70) F dX7_newName_54 (by decide) (zr_t _) (fun c_17 => ?_) (fun c_17 => ?_)
          · refine lv_aload_n F.1 F.2.1 dX7_newName_70 rfl (lv_at hl 0 rfl) ?_
            refine g_callv (g_runV (As := []) (rest := []) (ci := 7) F hl.1 hH hS hz (c_X7_nextf l g gh T b nn (tNd b nn (tPs b nn h)) I_5 R J AI AJ AR mo hv hm hT (by omega) (mTp hv h65 hbM) hr7 (by omega) (by omega) (mQ_e0 hQ) tNd_le.1) (cwV 0 F.2.2.2.2.1 (good_up gT_X7_next) rfl rfl rfl hdX7_next ⟨Nat.le_of_ble_eq_true rfl, Nat.le_of_ble_eq_true rfl⟩) hm (by decide) rfl rfl rfl (Nat.le_of_ble_eq_true rfl) dX7_newName_71 ⟨Nat.zero_le _, Nat.zero_le _⟩) hS (fun I_18 R_19 J_20 AI_21 AJ_22 AR_23 H locs hp_24 hH hS => ?_)
            dsimp only at hp_24
            obtain ⟨rfl, rfl, rfl, rfl, hv, pfq, q_25, nx4, nxa, nxb⟩ := hp_24
            have pf := qF_t pf pfq
            have u_26_2 : (I_18 mo 2).toInt = (I mo 2).toInt := by rw [pf 2 (by decide) (by decide) (by decide) (by decide) (by decide)]
            have u_26_5 : (I_18 mo 5).toInt = (I mo 5).toInt := by rw [pf 5 (by decide) (by decide) (by decide) (by decide) (by decide)]
            have u_26_14 : (I_18 mo 14).toInt = (I mo 14).toInt := by rw [pf 14 (by decide) (by decide) (by decide) (by decide) (by decide)]
            have u_26_16 : (I_18 mo 16).toInt = (I mo 16).toInt := by rw [pf 16 (by decide) (by decide) (by decide) (by decide) (by decide)]
            have u_26_18 : (I_18 mo 18).toInt = (I mo 18).toInt := by rw [pf 18 (by decide) (by decide) (by decide) (by decide) (by decide)]
            have hQ : mQ gh I_18 J_20 AI AJ mo b nn nr nt cc 1 h := by have q9 := mQ_nx hQ nx4 nxa; rw [thn_b (by omega)] at q9; exact q9
            clear nxa nxb
            have hfin : thn (f, h, 0) (fun t _ => sNam b nn nr nt t) = (1, h, 0) := by
              refine (thn_k q0).trans ?_
              show sNam b nn nr nt h = _
              unfold sNam
              repeat (first | with_reducible rfl | refine ite_y (by omega) ?_ | refine ite_n (by omega) ?_ | exact pr_e (by omega) (by omega) (by omega) | refine ite_y (pCf_ok (by omega) (by omega)) ?_ | refine ite_n (fun e9 => absurd (pCf_0 e9) (by omega)) ?_ | exact pr_e (pCf_no (by omega)) (by omega) (by omega) | exact pr_e (pCf_big (by omega) (by omega)) (by omega) (by omega))
            exact g_vret F hr hlk hH hS hz ⟨rfl, rfl, rfl, hv, pf, by first | omega | rfl | (dsimp only; omega), by (try dsimp only); rw [hfin]; exact hQ, by (try dsimp only); rw [hfin]; first | exact pJm_n (by omega) | exact pJm_y (hnj.trans hjw)⟩ dX7_newName_74
          · exact absurd trivial (by omega)
        · exact absurd (mQ_z hQ (by omega)) (by omega)
      · have t_27 := tkM_2 ((mQ_k hQ rfl).symm.trans (by omega))
        have t_27r := pV_r t_27
        refine lv_aload_n F.1 F.2.1 dX7_newName_15 rfl (lv_at hl 0 rfl) ?_
        refine g_calli (g_runV (As := []) (rest := []) (ci := 7) F hl.1 hH hS hz (c_X7_isReservedf l g gh T b nn nr nt cc 0 h I R J AI AJ AR mo hv hm hT h65 hbM hr7 (by omega) hn9 (by omega) hQ) (cwV 0 F.2.2.2.2.1 (good_up gT_X7_isReserved) rfl rfl rfl hdX7_isReserved ⟨Nat.le_of_ble_eq_true rfl, Nat.le_of_ble_eq_true rfl⟩) hm (by decide) rfl rfl rfl (Nat.le_of_ble_eq_true rfl) dX7_newName_16 ⟨Nat.zero_le _, Nat.zero_le _⟩) hS (fun v_34 I_28 R_29 J_30 AI_31 AJ_32 AR_33 H locs zv_34 hp_35 hH hS => ?_)
        dsimp only at hp_35
        obtain ⟨rfl, rfl, rfl, rfl, rfl, rfl, q_36, q_37⟩ := hp_35
        refine z_if_eq (tgt := 27) F dX7_newName_19 (by decide) zv_34 (fun c_38 => ?_) (fun c_38 => ?_)
        · have t_39 := tIz_0 q_37 (by omega)
          refine lv_aload_n F.1 F.2.1 dX7_newName_27 rfl (lv_at hl 0 rfl) ?_
          refine g_getI (ci := 7) (k := 24) F hH rfl (by decide) iX7 hm (by decide) rfl k81 dX7_newName_28 ?_
          refine z_if_ne (tgt := 50) F dX7_newName_31 (by decide) (zr_t _) (fun c_40 => ?_) (fun c_40 => ?_)
          · exact absurd trivial (by omega)
          · refine lv_aload_n F.1 F.2.1 dX7_newName_34 rfl (lv_at hl 0 rfl) ?_
            refine lv_aload_n F.1 F.2.1 dX7_newName_35 rfl (lv_at hl 0 rfl) ?_
            refine g_getJ (ci := 7) (k := 22) F hH rfl (by decide) iX7 hm (by decide) rfl k111 dX7_newName_36 ?_
            refine lv_topl (fun j_41 ej_41 => ?_)
            have ew36 := ej_41
            refine g_calli (g_runV (As := [.long j_41]) (rest := []) (ci := 7) F hl.1 hH hS hz (c_X7_named l g gh T I R J AI AJ AR mo j_41 hv hm hT) (cwV 1 F.2.2.2.2.1 (good_up gT_X7_named) rfl rfl rfl hdX7_named ⟨Nat.le_of_ble_eq_true rfl, Nat.le_of_ble_eq_true rfl⟩) hm (by decide) rfl rfl rfl (Nat.le_of_ble_eq_true rfl) dX7_newName_39 ⟨Nat.zero_le _, Nat.zero_le _⟩) hS (fun v_48 I_42 R_43 J_44 AI_45 AJ_46 AR_47 H locs zv_48 hp_49 hH hS => ?_)
            dsimp only at hp_49
            obtain ⟨rfl, rfl, rfl, rfl, rfl, rfl, nma, nmb⟩ := hp_49
            have hfd : v_48 = pFd b nn nt nr h := mQ_fd hQ rfl (by omega) (by omega) ew36 nma nmb
            refine z_if_lt (tgt := 50) F dX7_newName_42 (by decide) zv_48 (fun c_50 => ?_) (fun c_50 => ?_)
            · refine lv_aload_n F.1 F.2.1 dX7_newName_50 rfl (lv_at hl 0 rfl) ?_
              refine g_getI (ci := 7) (k := 24) F hH rfl (by decide) iX7 hm (by decide) rfl k81 dX7_newName_51 ?_
              refine z_if_ne (tgt := 70) F dX7_newName_54 (by decide) (zr_t _) (fun c_51 => ?_) (fun c_51 => ?_)
              · exact absurd trivial (by omega)
              · refine lv_aload_n F.1 F.2.1 dX7_newName_57 rfl (lv_at hl 0 rfl) ?_
                refine g_getR (ci := 7) (k := 4) F hH rfl (by decide) iX7 hm (by decide) rfl (b := gh 54 0) (hv.1 mo hm).2.2.2.1 k20 dX7_newName_58 ?_
                refine lv_aload_n F.1 F.2.1 dX7_newName_61 rfl (lv_at hl 0 rfl) ?_
                refine g_getI (ci := 7) (k := 5) F hH rfl (by decide) iX7 hm (by decide) rfl k184 dX7_newName_62 ?_
                refine lv_aload_n F.1 F.2.1 dX7_newName_65 rfl (lv_at hl 0 rfl) ?_
                refine g_getJ (ci := 7) (k := 22) F hH rfl (by decide) iX7 hm (by decide) rfl k111 dX7_newName_66 ?_
                refine lv_topl (fun j_52 ej_52 => ?_)
                have ew66 := ej_52
                have hjw : j_52 = pMw b nn h := ew66.trans (mQ_w hQ rfl (by omega))
                have hx69 : 0 ≤ ((I mo 5).toInt) ∧ ((I mo 5).toInt) < ((16 : Nat) : Int) ∧ ((I mo 5).toInt) ≤ 2147483647 := ⟨by omega, by omega, by omega⟩
                refine g_last F hH hS (hv.1 mo hm).2.2.2.2 hx69.1 hx69.2.1 hx69.2.2 dX7_newName_69 (fun H locs hH hS => ?_)
                obtain ⟨AJ_53, eAJ_53⟩ : ∃ qQ, qQ = gup2 AJ (gh 54 0) (((I mo 5).toInt)).toNat (j_52) := ⟨_, rfl⟩
                rw [← eAJ_53] at hH
                have kAJ_53 : ∀ b, b ≠ (gh 54 0) → AJ_53 b = AJ b := fun b hb => by rw [eAJ_53]; exact funext fun j => gup2_a _ _ hb
                have hnj : AJ_53 (gh 54 0) nr = j_52 := by rw [eAJ_53, gup2_e _ _ (by omega)]
                have hQ : mQ gh I J AI AJ_53 mo b nn nr nt cc 0 h := mQ_aj hQ (fun r hr => by rw [eAJ_53, gup2_k _ _ (by omega)])
                refine lv_aload_n F.1 F.2.1 dX7_newName_70 rfl (lv_at hl 0 rfl) ?_
                refine g_callv (g_runV (As := []) (rest := []) (ci := 7) F hl.1 hH hS hz (c_X7_nextf l g gh T b nn (tNd b nn (tPs b nn h)) I R J AI AJ_53 AR mo hv hm hT (by omega) (mTp hv h65 hbM) hr7 (by omega) (by omega) (mQ_e0 hQ) tNd_le.1) (cwV 0 F.2.2.2.2.1 (good_up gT_X7_next) rfl rfl rfl hdX7_next ⟨Nat.le_of_ble_eq_true rfl, Nat.le_of_ble_eq_true rfl⟩) hm (by decide) rfl rfl rfl (Nat.le_of_ble_eq_true rfl) dX7_newName_71 ⟨Nat.zero_le _, Nat.zero_le _⟩) hS (fun I_54 R_55 J_56 AI_57 AJ_58 AR_59 H locs hp_60 hH hS => ?_)
                dsimp only at hp_60
                obtain ⟨rfl, rfl, rfl, rfl, hv, pfq, q_61, nx4, nxa, nxb⟩ := hp_60
                have pf := qF_t pf pfq
                have u_62_2 : (I_54 mo 2).toInt = (I mo 2).toInt := by rw [pf 2 (by decide) (by decide) (by decide) (by decide) (by decide)]
                have u_62_5 : (I_54 mo 5).toInt = (I mo 5).toInt := by rw [pf 5 (by decide) (by decide) (by decide) (by decide) (by decide)]
                have u_62_14 : (I_54 mo 14).toInt = (I mo 14).toInt := by rw [pf 14 (by decide) (by decide) (by decide) (by decide) (by decide)]
                have u_62_16 : (I_54 mo 16).toInt = (I mo 16).toInt := by rw [pf 16 (by decide) (by decide) (by decide) (by decide) (by decide)]
                have u_62_18 : (I_54 mo 18).toInt = (I mo 18).toInt := by rw [pf 18 (by decide) (by decide) (by decide) (by decide) (by decide)]
                have hQ : mQ gh I_54 J_56 AI AJ_53 mo b nn nr nt cc 0 (h + 1) := mQ_nx hQ nx4 nxa
                clear nxa nxb
                have hfin : thn (f, h, 0) (fun t _ => sNam b nn nr nt t) = (0, h + 1, 0) := by
                  refine (thn_k q0).trans ?_
                  show sNam b nn nr nt h = _
                  unfold sNam
                  repeat (first | with_reducible rfl | refine ite_y (by omega) ?_ | refine ite_n (by omega) ?_ | exact pr_e (by omega) (by omega) (by omega) | refine ite_y (pCf_ok (by omega) (by omega)) ?_ | refine ite_n (fun e9 => absurd (pCf_0 e9) (by omega)) ?_ | exact pr_e (pCf_no (by omega)) (by omega) (by omega) | exact pr_e (pCf_big (by omega) (by omega)) (by omega) (by omega))
                exact g_vret F hr hlk hH hS hz ⟨rfl, rfl, rfl, hv, pf, by first | omega | rfl | (dsimp only; omega), by (try dsimp only); rw [hfin]; exact hQ, by (try dsimp only); rw [hfin]; first | exact pJm_n (by omega) | exact pJm_y (hnj.trans hjw)⟩ dX7_newName_74
            · refine lv_aload_n F.1 F.2.1 dX7_newName_45 rfl (lv_at hl 0 rfl) ?_
              refine z_iconst F dX7_newName_46 ?_
              refine g_callv (g_runV (As := [.int (iI 3)]) (rest := []) (ci := 7) F hl.1 hH hS hz (c_X7_wrongf l g gh T b nn nr nt cc 0 h I R J AI AJ AR mo 3 ⟨by decide, by decide⟩ hv hm hT (by omega) h65 hbM hr7 (by omega) hn9 (by omega) hQ) (cwV 1 F.2.2.2.2.1 (good_up gT_X7_wrong) rfl rfl rfl hdX7_wrong ⟨Nat.le_of_ble_eq_true rfl, Nat.le_of_ble_eq_true rfl⟩) hm (by decide) rfl rfl rfl (Nat.le_of_ble_eq_true rfl) dX7_newName_47 ⟨Nat.zero_le _, Nat.zero_le _⟩) hS (fun I_63 R_64 J_65 AI_66 AJ_67 AR_68 H locs hp_69 hH hS => ?_)
              dsimp only at hp_69
              obtain ⟨r_70, er_70⟩ : ∃ qQ : pR, qQ = thn (0, h, 0) (fun t _ => (3, t, 0)) := ⟨_, rfl⟩
              rw [← er_70] at hp_69
              obtain ⟨rfl, rfl, rfl, rfl, rfl, hv, pfq, q_71, hQ⟩ := hp_69
              have pf := qF_t pf pfq
              have u_72_2 : (I_63 mo 2).toInt = (I mo 2).toInt := by rw [pf 2 (by decide) (by decide) (by decide) (by decide) (by decide)]
              have u_72_5 : (I_63 mo 5).toInt = (I mo 5).toInt := by rw [pf 5 (by decide) (by decide) (by decide) (by decide) (by decide)]
              have u_72_14 : (I_63 mo 14).toInt = (I mo 14).toInt := by rw [pf 14 (by decide) (by decide) (by decide) (by decide) (by decide)]
              have u_72_16 : (I_63 mo 16).toInt = (I mo 16).toInt := by rw [pf 16 (by decide) (by decide) (by decide) (by decide) (by decide)]
              have u_72_18 : (I_63 mo 18).toInt = (I mo 18).toInt := by rw [pf 18 (by decide) (by decide) (by decide) (by decide) (by decide)]
              have er_70 : r_70 = (3, h, 0) := er_70
              have hQ : mQ gh I_63 J AI AJ mo b nn nr nt cc 3 h := by rw [er_70] at hQ; exact hQ
              have q9_r_70 : (3 : Int) ≠ 0 := by omega
              have g9_r_70 := mQ_f hQ q9_r_70
              refine lv_aload_n F.1 F.2.1 dX7_newName_50 rfl (lv_at hl 0 rfl) ?_
              refine g_getI (ci := 7) (k := 24) F hH rfl (by decide) iX7 hm (by decide) rfl k81 dX7_newName_51 ?_
              have b_73 := mJ hv hm
              unfold mNum1 at b_73
              refine z_if_ne (tgt := 70) F dX7_newName_54 (by decide) (zr_t _) (fun c_74 => ?_) (fun c_74 => ?_)
              · refine lv_aload_n F.1 F.2.1 dX7_newName_70 rfl (lv_at hl 0 rfl) ?_
                refine g_callv (g_runV (As := []) (rest := []) (ci := 7) F hl.1 hH hS hz (c_X7_nextf l g gh T b nn (tNd b nn (tPs b nn h)) I_63 R J AI AJ AR mo hv hm hT (by omega) (mTp hv h65 hbM) hr7 (by omega) (by omega) (mQ_e0 hQ) tNd_le.1) (cwV 0 F.2.2.2.2.1 (good_up gT_X7_next) rfl rfl rfl hdX7_next ⟨Nat.le_of_ble_eq_true rfl, Nat.le_of_ble_eq_true rfl⟩) hm (by decide) rfl rfl rfl (Nat.le_of_ble_eq_true rfl) dX7_newName_71 ⟨Nat.zero_le _, Nat.zero_le _⟩) hS (fun I_75 R_76 J_77 AI_78 AJ_79 AR_80 H locs hp_81 hH hS => ?_)
                dsimp only at hp_81
                obtain ⟨rfl, rfl, rfl, rfl, hv, pfq, q_82, nx4, nxa, nxb⟩ := hp_81
                have pf := qF_t pf pfq
                have u_83_2 : (I_75 mo 2).toInt = (I mo 2).toInt := by rw [pf 2 (by decide) (by decide) (by decide) (by decide) (by decide)]
                have u_83_5 : (I_75 mo 5).toInt = (I mo 5).toInt := by rw [pf 5 (by decide) (by decide) (by decide) (by decide) (by decide)]
                have u_83_14 : (I_75 mo 14).toInt = (I mo 14).toInt := by rw [pf 14 (by decide) (by decide) (by decide) (by decide) (by decide)]
                have u_83_16 : (I_75 mo 16).toInt = (I mo 16).toInt := by rw [pf 16 (by decide) (by decide) (by decide) (by decide) (by decide)]
                have u_83_18 : (I_75 mo 18).toInt = (I mo 18).toInt := by rw [pf 18 (by decide) (by decide) (by decide) (by decide) (by decide)]
                have hQ : mQ gh I_75 J_77 AI AJ mo b nn nr nt cc 3 h := by have q9 := mQ_nx hQ nx4 nxa; rw [thn_b (by omega)] at q9; exact q9
                clear nxa nxb
                have hfin : thn (f, h, 0) (fun t _ => sNam b nn nr nt t) = (3, h, 0) := by
                  refine (thn_k q0).trans ?_
                  show sNam b nn nr nt h = _
                  unfold sNam
                  repeat (first | with_reducible rfl | refine ite_y (by omega) ?_ | refine ite_n (by omega) ?_ | exact pr_e (by omega) (by omega) (by omega) | refine ite_y (pCf_ok (by omega) (by omega)) ?_ | refine ite_n (fun e9 => absurd (pCf_0 e9) (by omega)) ?_ | exact pr_e (pCf_no (by omega)) (by omega) (by omega) | exact pr_e (pCf_big (by omega) (by omega)) (by omega) (by omega))
                exact g_vret F hr hlk hH hS hz ⟨rfl, rfl, rfl, hv, pf, by first | omega | rfl | (dsimp only; omega), by (try dsimp only); rw [hfin]; exact hQ, by (try dsimp only); rw [hfin]; first | exact pJm_n (by omega) | exact pJm_y (hnj.trans hjw)⟩ dX7_newName_74
              · exact absurd (mQ_z hQ (by omega)) (by omega)
        · have t_84 := tIz_1 q_37 (by omega)
          refine lv_aload_n F.1 F.2.1 dX7_newName_22 rfl (lv_at hl 0 rfl) ?_
          refine z_iconst F dX7_newName_23 ?_
          refine g_callv (g_runV (As := [.int (iI 1)]) (rest := []) (ci := 7) F hl.1 hH hS hz (c_X7_wrongf l g gh T b nn nr nt cc 0 h I R J AI AJ AR mo 1 ⟨by decide, by decide⟩ hv hm hT (by omega) h65 hbM hr7 (by omega) hn9 (by omega) hQ) (cwV 1 F.2.2.2.2.1 (good_up gT_X7_wrong) rfl rfl rfl hdX7_wrong ⟨Nat.le_of_ble_eq_true rfl, Nat.le_of_ble_eq_true rfl⟩) hm (by decide) rfl rfl rfl (Nat.le_of_ble_eq_true rfl) dX7_newName_24 ⟨Nat.zero_le _, Nat.zero_le _⟩) hS (fun I_85 R_86 J_87 AI_88 AJ_89 AR_90 H locs hp_91 hH hS => ?_)
          dsimp only at hp_91
          obtain ⟨r_92, er_92⟩ : ∃ qQ : pR, qQ = thn (0, h, 0) (fun t _ => (1, t, 0)) := ⟨_, rfl⟩
          rw [← er_92] at hp_91
          obtain ⟨rfl, rfl, rfl, rfl, rfl, hv, pfq, q_93, hQ⟩ := hp_91
          have pf := qF_t pf pfq
          have u_94_2 : (I_85 mo 2).toInt = (I mo 2).toInt := by rw [pf 2 (by decide) (by decide) (by decide) (by decide) (by decide)]
          have u_94_5 : (I_85 mo 5).toInt = (I mo 5).toInt := by rw [pf 5 (by decide) (by decide) (by decide) (by decide) (by decide)]
          have u_94_14 : (I_85 mo 14).toInt = (I mo 14).toInt := by rw [pf 14 (by decide) (by decide) (by decide) (by decide) (by decide)]
          have u_94_16 : (I_85 mo 16).toInt = (I mo 16).toInt := by rw [pf 16 (by decide) (by decide) (by decide) (by decide) (by decide)]
          have u_94_18 : (I_85 mo 18).toInt = (I mo 18).toInt := by rw [pf 18 (by decide) (by decide) (by decide) (by decide) (by decide)]
          have er_92 : r_92 = (1, h, 0) := er_92
          have hQ : mQ gh I_85 J AI AJ mo b nn nr nt cc 1 h := by rw [er_92] at hQ; exact hQ
          have q9_r_92 : (1 : Int) ≠ 0 := by omega
          have g9_r_92 := mQ_f hQ q9_r_92
          refine lv_aload_n F.1 F.2.1 dX7_newName_27 rfl (lv_at hl 0 rfl) ?_
          refine g_getI (ci := 7) (k := 24) F hH rfl (by decide) iX7 hm (by decide) rfl k81 dX7_newName_28 ?_
          have b_95 := mJ hv hm
          unfold mNum1 at b_95
          refine z_if_ne (tgt := 50) F dX7_newName_31 (by decide) (zr_t _) (fun c_96 => ?_) (fun c_96 => ?_)
          · refine lv_aload_n F.1 F.2.1 dX7_newName_50 rfl (lv_at hl 0 rfl) ?_
            refine g_getI (ci := 7) (k := 24) F hH rfl (by decide) iX7 hm (by decide) rfl k81 dX7_newName_51 ?_
            refine z_if_ne (tgt := 70) F dX7_newName_54 (by decide) (zr_t _) (fun c_97 => ?_) (fun c_97 => ?_)
            · refine lv_aload_n F.1 F.2.1 dX7_newName_70 rfl (lv_at hl 0 rfl) ?_
              refine g_callv (g_runV (As := []) (rest := []) (ci := 7) F hl.1 hH hS hz (c_X7_nextf l g gh T b nn (tNd b nn (tPs b nn h)) I_85 R J AI AJ AR mo hv hm hT (by omega) (mTp hv h65 hbM) hr7 (by omega) (by omega) (mQ_e0 hQ) tNd_le.1) (cwV 0 F.2.2.2.2.1 (good_up gT_X7_next) rfl rfl rfl hdX7_next ⟨Nat.le_of_ble_eq_true rfl, Nat.le_of_ble_eq_true rfl⟩) hm (by decide) rfl rfl rfl (Nat.le_of_ble_eq_true rfl) dX7_newName_71 ⟨Nat.zero_le _, Nat.zero_le _⟩) hS (fun I_98 R_99 J_100 AI_101 AJ_102 AR_103 H locs hp_104 hH hS => ?_)
              dsimp only at hp_104
              obtain ⟨rfl, rfl, rfl, rfl, hv, pfq, q_105, nx4, nxa, nxb⟩ := hp_104
              have pf := qF_t pf pfq
              have u_106_2 : (I_98 mo 2).toInt = (I mo 2).toInt := by rw [pf 2 (by decide) (by decide) (by decide) (by decide) (by decide)]
              have u_106_5 : (I_98 mo 5).toInt = (I mo 5).toInt := by rw [pf 5 (by decide) (by decide) (by decide) (by decide) (by decide)]
              have u_106_14 : (I_98 mo 14).toInt = (I mo 14).toInt := by rw [pf 14 (by decide) (by decide) (by decide) (by decide) (by decide)]
              have u_106_16 : (I_98 mo 16).toInt = (I mo 16).toInt := by rw [pf 16 (by decide) (by decide) (by decide) (by decide) (by decide)]
              have u_106_18 : (I_98 mo 18).toInt = (I mo 18).toInt := by rw [pf 18 (by decide) (by decide) (by decide) (by decide) (by decide)]
              have hQ : mQ gh I_98 J_100 AI AJ mo b nn nr nt cc 1 h := by have q9 := mQ_nx hQ nx4 nxa; rw [thn_b (by omega)] at q9; exact q9
              clear nxa nxb
              have hfin : thn (f, h, 0) (fun t _ => sNam b nn nr nt t) = (1, h, 0) := by
                refine (thn_k q0).trans ?_
                show sNam b nn nr nt h = _
                unfold sNam
                repeat (first | with_reducible rfl | refine ite_y (by omega) ?_ | refine ite_n (by omega) ?_ | exact pr_e (by omega) (by omega) (by omega) | refine ite_y (pCf_ok (by omega) (by omega)) ?_ | refine ite_n (fun e9 => absurd (pCf_0 e9) (by omega)) ?_ | exact pr_e (pCf_no (by omega)) (by omega) (by omega) | exact pr_e (pCf_big (by omega) (by omega)) (by omega) (by omega))
              exact g_vret F hr hlk hH hS hz ⟨rfl, rfl, rfl, hv, pf, by first | omega | rfl | (dsimp only; omega), by (try dsimp only); rw [hfin]; exact hQ, by (try dsimp only); rw [hfin]; first | exact pJm_n (by omega) | exact pJm_y (hnj.trans hjw)⟩ dX7_newName_74
            · exact absurd trivial (by omega)
          · exact absurd (mQ_z hQ (by omega)) (by omega)
  · have hf1 := mQ_f hQ q0
    refine lv_aload_n F.1 F.2.1 dX7_newName_0 rfl (lv_at hl 0 rfl) ?_
    refine g_getI (ci := 7) (k := 24) F hH rfl (by decide) iX7 hm (by decide) rfl k81 dX7_newName_1 ?_
    have b_107 := mJ hv hm
    unfold mNum1 at b_107
    refine z_if_ne (tgt := 27) F dX7_newName_4 (by decide) (zr_t _) (fun c_108 => ?_) (fun c_108 => ?_)
    · refine lv_aload_n F.1 F.2.1 dX7_newName_27 rfl (lv_at hl 0 rfl) ?_
      refine g_getI (ci := 7) (k := 24) F hH rfl (by decide) iX7 hm (by decide) rfl k81 dX7_newName_28 ?_
      refine z_if_ne (tgt := 50) F dX7_newName_31 (by decide) (zr_t _) (fun c_109 => ?_) (fun c_109 => ?_)
      · refine lv_aload_n F.1 F.2.1 dX7_newName_50 rfl (lv_at hl 0 rfl) ?_
        refine g_getI (ci := 7) (k := 24) F hH rfl (by decide) iX7 hm (by decide) rfl k81 dX7_newName_51 ?_
        refine z_if_ne (tgt := 70) F dX7_newName_54 (by decide) (zr_t _) (fun c_110 => ?_) (fun c_110 => ?_)
        · refine lv_aload_n F.1 F.2.1 dX7_newName_70 rfl (lv_at hl 0 rfl) ?_
          refine g_callv (g_runV (As := []) (rest := []) (ci := 7) F hl.1 hH hS hz (c_X7_nextf l g gh T b nn (tNd b nn (tPs b nn h)) I R J AI AJ AR mo hv hm hT (by omega) (mTp hv h65 hbM) hr7 (by omega) (by omega) (mQ_e0 hQ) tNd_le.1) (cwV 0 F.2.2.2.2.1 (good_up gT_X7_next) rfl rfl rfl hdX7_next ⟨Nat.le_of_ble_eq_true rfl, Nat.le_of_ble_eq_true rfl⟩) hm (by decide) rfl rfl rfl (Nat.le_of_ble_eq_true rfl) dX7_newName_71 ⟨Nat.zero_le _, Nat.zero_le _⟩) hS (fun I_111 R_112 J_113 AI_114 AJ_115 AR_116 H locs hp_117 hH hS => ?_)
          dsimp only at hp_117
          obtain ⟨rfl, rfl, rfl, rfl, hv, pfq, q_118, nx4, nxa, nxb⟩ := hp_117
          have pf := qF_t pf pfq
          have u_119_2 : (I_111 mo 2).toInt = (I mo 2).toInt := by rw [pf 2 (by decide) (by decide) (by decide) (by decide) (by decide)]
          have u_119_5 : (I_111 mo 5).toInt = (I mo 5).toInt := by rw [pf 5 (by decide) (by decide) (by decide) (by decide) (by decide)]
          have u_119_14 : (I_111 mo 14).toInt = (I mo 14).toInt := by rw [pf 14 (by decide) (by decide) (by decide) (by decide) (by decide)]
          have u_119_16 : (I_111 mo 16).toInt = (I mo 16).toInt := by rw [pf 16 (by decide) (by decide) (by decide) (by decide) (by decide)]
          have u_119_18 : (I_111 mo 18).toInt = (I mo 18).toInt := by rw [pf 18 (by decide) (by decide) (by decide) (by decide) (by decide)]
          have hQ : mQ gh I_111 J_113 AI AJ mo b nn nr nt cc f h := by have q9 := mQ_nx hQ nx4 nxa; rw [thn_b (by omega)] at q9; exact q9
          clear nxa nxb
          have hfin : thn (f, h, 0) (fun t _ => sNam b nn nr nt t) = (f, h, 0) := thn_b q0
          exact g_vret F hr hlk hH hS hz ⟨rfl, rfl, rfl, hv, pf, by first | omega | rfl | (dsimp only; omega), by (try dsimp only); rw [hfin]; exact hQ, by (try dsimp only); rw [hfin]; first | exact pJm_n (by omega) | exact pJm_y (hnj.trans hjw)⟩ dX7_newName_74
        · exact absurd trivial (by omega)
      · exact absurd trivial (by omega)
    · exact absurd (mQ_z hQ (by omega)) (by omega)
