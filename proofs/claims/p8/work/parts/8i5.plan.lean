def rmX6_plang : Room := { frames := 9, cells := 0, slots := 0, locals := 208 }
set_option maxHeartbeats 4000000 in
set_option maxRecDepth 100000 in
/-- plan -/
theorem c_X6_plang (l : Launch) (g : gG) (gh : gGh) (pA bA nA : Nat) (b : tTx) (n : Nat) (qq : Nat) (I : gI) (R : gR) (J : gJ) (AI : gI) (AJ : gJ) (AR : gR) (x : Nat) (hv : gInv g gh R AR I AI) (hx : xS g gh R AR x pA bA nA) (h37 : gh 42 0 ≠ 1) (hb : ∀ k : Nat, (AI (gh 28 0) k).toInt = b k) (hr7 : ∀ k : Nat, -128 ≤ b k ∧ b k ≤ 127) (hnn : (I x 1).toInt = (n : Int)) (hqq : R (gh 21 0) 1 = some qq) (hqp : qq ≠ pA) (hB : I (gh 37 0) 3 = (gM g).1 (gh 37 0) 3 ∧ AI (gh 0 (gh 37 0)) = (gM g).2 (gh 0 (gh 37 0))) : gMet l g yX6_plan wsX6_plan rmX6_plang [.ref x] (I, R, J, AI, AJ, AR) (gQi g (fun (z : Int) (w : gS) => AR = w.2.2.2.2.2 ∧ (gInv g gh (w.2.1) AR (w.1) (w.2.2.2.1)) ∧ (∃ p1 b1 n1, xS g gh (w.2.1) AR x p1 b1 n1) ∧ (((w.1) x 1).toInt = 0) ∧ (∀ b, gO g b 7 → (w.2.1) b = R b) ∧ (z = sPln b n) ∧ (plE g gh AR I J AI (w.2.1) (w.1) (w.2.2.1) (w.2.2.2.1) x pA qq bA nA b n z) ∧ (plC g gh AR I AI (w.1) (w.2.2.2.1) x pA qq bA b n z))) := by
  refine gStart (cc := cX6_plan) (maxL := 3) (ret := (some (.int))) (by decide) rfl (Nat.le_of_ble_eq_true rfl) ?_
  intro p e s m below meth c ls F hr hlk hH hz hS hl
  have hl : lv_has ls 3 [(0, .ref x)] := hl
  have hS : va_S (gA g) s.heap s.heap [] := hS
  obtain ⟨H, hHe⟩ : ∃ H : Heap, H = s.heap := ⟨_, rfl⟩
  obtain ⟨locs, hlo⟩ : ∃ k : List Loc, k = [] := ⟨_, rfl⟩
  have hH : gH g I R J AI AJ AR H := by rw [hHe]; exact hH
  have hS : va_S (gA g) s.heap H locs := by rw [hHe, hlo]; exact hS
  suffices hw : W p l e rmX6_plang s m ([.ref x] : List Value).toArray below meth c H locs 0 0 (MQ below (gQi g (fun (z : Int) (w : gS) => AR = w.2.2.2.2.2 ∧ (gInv g gh (w.2.1) AR (w.1) (w.2.2.2.1)) ∧ (∃ p1 b1 n1, xS g gh (w.2.1) AR x p1 b1 n1) ∧ (((w.1) x 1).toInt = 0) ∧ (∀ b, gO g b 7 → (w.2.1) b = R b) ∧ (z = sPln b n) ∧ (plE g gh AR I J AI (w.2.1) (w.1) (w.2.2.1) (w.2.2.2.1) x pA qq bA nA b n z) ∧ (plC g gh AR I AI (w.1) (w.2.2.2.1) x pA qq bA b n z))) ([.ref x] : List Value).toArray s 0 0 (gA g)) (F0 m 0 ls []) by
    rw [hHe, hlo] at hw; exact hw
  clear hHe hlo
  obtain ⟨q, hRq, hq⟩ := (hv.2.2.2.2.2.1 _ (gR_x2 hv hx.1).2).2.1
  have r7 : ∀ b, gO g b 7 → R b = R b := fun _ _ => rfl
  have eq9 : q = qq := Option.some.inj (hRq.symm.trans hqq)
  subst eq9
  have h3g := gR_x8 hv hx.1
  have iX6 : ∀ w ∈ u_ws RX6 TX6 18, w ∈ wsX6_plan := (by decide +kernel)
  have iX2 : ∀ w ∈ u_ws RX2 TX2 3, w ∈ wsX6_plan := (by decide +kernel)
  have k77 : Cond.fieldLink RX6 77 (TX6 1).1 (TX6 1).2.1 (TX6 1).2.2.1 ∈ wsX6_plan := List.mem_of_getElem? (i := 1) rfl
  have k16 : Cond.fieldLink RX6 16 (TX6 2).1 (TX6 2).2.1 (TX6 2).2.2.1 ∈ wsX6_plan := List.mem_of_getElem? (i := 2) rfl
  have k9 : Cond.fieldLink RX6 9 (TX6 0).1 (TX6 0).2.1 (TX6 0).2.2.1 ∈ wsX6_plan := List.mem_of_getElem? (i := 3) rfl
  have k23 : Cond.fieldLink RX6 23 (TX6 3).1 (TX6 3).2.1 (TX6 3).2.2.1 ∈ wsX6_plan := List.mem_of_getElem? (i := 4) rfl
  have k96 : Cond.fieldLink RX6 96 (TX2 1).1 (TX2 1).2.1 (TX2 1).2.2.1 ∈ wsX6_plan := List.mem_of_getElem? (i := 5) rfl
  refine lv_aload_n F.1 F.2.1 dX6_plan_0 rfl (lv_at hl 0 rfl) ?_
  refine g_getI (ci := 6) (k := 1) F hH rfl (by decide) iX6 hx.1 (by decide) rfl k77 dX6_plan_1 ?_
  have b_1 := gI_x hv hx.1
  refine lv_istore_n (lv' := [(1, .int (iI ((I x 1).toInt))), (0, .ref x)]) F.1 F.2.1 dX6_plan_4 rfl hl (by decide) rfl (fun ls hl => ?_)
  refine lv_aload_n F.1 F.2.1 dX6_plan_5 rfl (lv_at hl 1 rfl) ?_
  refine z_iconst F dX6_plan_6 ?_
  refine g_putI (ci := 6) (k := 1) F hH hS rfl (by decide) iX6 hx.1 (by decide) tyX6 tyX6_ok nmX6 rfl rfl rfl k77 dX6_plan_7 (fun H locs hH hS => ?_)
  obtain ⟨I_2, eI_2⟩ : ∃ qQ, qQ = gup2 I x 1 (iI (0)) := ⟨_, rfl⟩
  rw [← eI_2] at hH
  have kI_2 : ∀ b, b ≠ x → I_2 b = I b := fun b hb => by rw [eI_2]; exact funext fun j => gup2_a _ _ hb
  have x1 : (I_2 x 1).toInt = 0 := by rw [eI_2, gup2_s]; exact iI_val ⟨by decide, by decide⟩
  have hv : gInv g gh R AR I_2 AI := by rw [eI_2]; exact gInv_x1 hv hx.1 (by decide) (by decide)
  have b2 : I_2 (gh 37 0) = I (gh 37 0) := kI_2 _ (gO_ne h3g.2.1 hx.1 (by decide))
  have l2 : ∀ y, gO g y 0 → I_2 y = I y := fun y hy => kI_2 y (gO_ne hy hx.1 (by decide))
  have p2 : I_2 pA = I pA := kI_2 pA (gO_ne hx.2.2.1 hx.1 (by decide))
  have hvF : gInv g (ghF 1 gh) R AR I_2 AI := gInv_up hv ⟨h3g.2.1, h3g.2.2.2⟩ ⟨by rw [b2]; exact hB.1, hB.2⟩
  have r4 : ∀ o, gO g o 4 → I_2 o = I o := fun o ho => kI_2 o (gO_ne ho hx.1 (by decide))
  have xk : ∀ k, k ≠ 1 → I_2 x k = I x k := fun k hk => by rw [eI_2]; exact gup2_k _ _ hk
  refine lv_iload_n F.1 F.2.1 dX6_plan_10 rfl (lv_at hl 0 rfl) ?_
  refine z_sipush F dX6_plan_11 (by decide) ?_
  refine z_icmp_le (tgt := 19) F dX6_plan_14 (by decide) (zr_t _) ⟨by decide, by decide⟩ (fun c_3 => ?_) (fun c_3 => ?_)
  · refine lv_aload_n F.1 F.2.1 dX6_plan_19 rfl (lv_at hl 1 rfl) ?_
    obtain ⟨r_4a, r_4b⟩ := gR_x2 hv hx.1
    refine g_getR (ci := 6) (k := 2) F hH rfl (by decide) iX6 hx.1 (by decide) rfl (b := gh 21 0) r_4a k16 dX6_plan_20 ?_
    refine lv_aload_n F.1 F.2.1 dX6_plan_23 rfl (lv_at hl 1 rfl) ?_
    obtain ⟨r_5a, r_5b⟩ := gR_x0 hv hx.1
    refine g_getR (ci := 6) (k := 0) F hH rfl (by decide) iX6 hx.1 (by decide) rfl (b := gh 28 0) r_5a k9 dX6_plan_24 ?_
    refine lv_iload_n F.1 F.2.1 dX6_plan_27 rfl (lv_at hl 0 rfl) ?_
    refine g_calli (g_runV (As := [.ref (gh 28 0), .int (iI ((I x 1).toInt))]) (rest := []) (ci := 1) F hl.1 hH hS hz (c_X1_parseg l g (ghF 1 gh) q b n I_2 R J AI AJ AR (gh 21 0) (gh 28 0) ((I x 1).toInt) (zr_t _) hvF r_4b hRq hq r_5b (by omega) hb hr7 (by omega)) (cwV 2 F.2.2.2.2.1 gX6_plan_X1_parse rfl rfl rfl hdX1_parse ⟨Nat.le_of_ble_eq_true rfl, Nat.le_of_ble_eq_true rfl⟩) r_4b (by decide) rfl rfl rfl (Nat.le_of_ble_eq_true rfl) dX6_plan_28 ⟨Nat.zero_le _, Nat.zero_le _⟩) hS (fun v_12 I_6 R_7 J_8 AI_9 AJ_10 AR_11 H locs zv_12 hp_13 hH hS => ?_)
    dsimp only at hp_13
    obtain ⟨rfl, hv, rfq, yfq, qz, qn, q_14, flq, fpq, plq, rcq, fAAq, fA4q⟩ := hp_13
    have fz := hv.2.2.2.2.2.2.2.2.2.2 rfl
    have bI : I_6 (gh 37 0) 3 = I (gh 37 0) 3 := fz.2.2.1.trans hB.1.symm
    have bA9 : AI_9 (gh 0 (gh 37 0)) = AI (gh 0 (gh 37 0)) := fz.2.2.2.trans hB.2.symm
    have hv : gInv g gh R_7 AR I_6 AI_9 := gInv_un hv h37
    have pI : I_6 pA = I pA := (fpq pA hx.2.2.1 (fun e => hqp e.symm)).trans p2
    have lI : ∀ y, gO g y 0 → gh 4 y = pA → I_6 y = I y ∧ J_8 y = J y := fun y hy h4 => ⟨((flq y hy (fun e => hqp (e.symm.trans h4))).1).trans (l2 y hy), (flq y hy (fun e => hqp (e.symm.trans h4))).2⟩
    have x1 : (I_6 x 1).toInt = 0 := by rw [yfq x 6 hx.1 (by decide) (by decide) (by decide) (by decide)]; exact x1
    have hx := xS_R hx (fun k => rfq x k (Or.inl (gO_ne hx.1 (gR_x2 hv hx.1).2 (by decide))))
    have r7 : ∀ b, gO g b 7 → R_7 b = R b := fun b hb => (funext fun k => rfq b k (Or.inl (gO_ne hb (gR_x2 hv hx.1).2 (by decide)))).trans (r7 b hb)
    have hRq : R_7 (gh 21 0) 1 = some q := by rw [rfq _ 1 (Or.inr (by decide))]; exact hRq
    have hk24 := hv.2.2.2.2.2.2.1 _ (gR_pr0 hv (gR_x2 hv hx.1).2).2
    have r4 : ∀ o, gO g o 4 → I_6 o = I o := fun o ho => (yfq o 4 ho (by decide) (by decide) (by decide) (by decide)).trans (r4 o ho)
    have xk : ∀ k, k ≠ 1 → I_6 x k = I x k := fun k hk => (congrFun (yfq x 6 hx.1 (by decide) (by decide) (by decide) (by decide)) k).trans (xk k hk)
    have a1 : ∀ o, gh 9 o = 1 → AI_9 o = AI o := fun o h1 => fAAq o (fun e => absurd (h1.symm.trans e) (by decide)) (ne_9 h1 hk24.1.2.2.2 (by decide)) (ne_9 h1 hk24.2.1.2.2 (by decide)) (ne_9 h1 hk24.2.2.1.2.2 (by decide))
    have a4 : ∀ y, gO g y 0 → gh 4 y = pA → AI_9 (gh 3 y) = AI (gh 3 y) := fun y hy h4 => fA4q y hy (fun e => hqp (e.symm.trans h4))
    refine lv_istore_n (lv' := [(2, .int (iI v_12)), (1, .int (iI ((I x 1).toInt))), (0, .ref x)]) F.1 F.2.1 dX6_plan_31 rfl hl (by decide) rfl (fun ls hl => ?_)
    refine lv_iload_n F.1 F.2.1 dX6_plan_32 rfl (lv_at hl 0 rfl) ?_
    refine z_if_eq (tgt := 41) F dX6_plan_33 (by decide) zv_12 (fun c_15 => ?_) (fun c_15 => ?_)
    · refine lv_aload_n F.1 F.2.1 dX6_plan_41 rfl (lv_at hl 2 rfl) ?_
      refine lv_aload_n F.1 F.2.1 dX6_plan_42 rfl (lv_at hl 2 rfl) ?_
      obtain ⟨r_16a, r_16b⟩ := gR_x2 hv hx.1
      refine g_getR (ci := 6) (k := 2) F hH rfl (by decide) iX6 hx.1 (by decide) rfl (b := gh 21 0) r_16a k16 dX6_plan_43 ?_
      refine lv_aload_n F.1 F.2.1 dX6_plan_46 rfl (lv_at hl 2 rfl) ?_
      refine g_getR (ci := 6) (k := 3) F hH rfl (by decide) iX6 hx.1 (by decide) rfl (b := pA) hx.2.1 k23 dX6_plan_47 ?_
      have b_17 := gI_plan hv hx.2.2.1
      refine g_callr (g_runV (As := [.ref pA]) (rest := [.ref x]) (ci := 1) F hl.1 hH hS hz (c_X1_exchangePlan l g gh q I_6 R_7 J_8 AI_9 AJ_10 AR (gh 21 0) pA hv r_16b hx.2.2.1 hRq hq) (cwV 1 F.2.2.2.2.1 gX6_plan_X1_exchangePlan rfl rfl rfl hdX1_exchangePlan ⟨Nat.le_of_ble_eq_true rfl, Nat.le_of_ble_eq_true rfl⟩) r_16b (by decide) rfl rfl rfl (Nat.le_of_ble_eq_true rfl) dX6_plan_50 ⟨Nat.zero_le _, Nat.zero_le _⟩) hS (fun v_24 I_18 R_19 J_20 AI_21 AJ_22 AR_23 H locs hp_25 hH hS => ?_)
      dsimp only at hp_25
      obtain ⟨rfl, rfl, rfl, rfl, rfl, hv, fx, qx, rx1⟩ := hp_25
      have r7 : ∀ b, gO g b 7 → R_19 b = R b := fun b hb => (fx b (gO_ne hb (gR_x2 hv hx.1).2 (by decide))).trans (r7 b hb)
      subst qx
      have hx : xS g gh R_19 AR x pA bA nA := xS_R hx (fun k => by rw [fx x (gO_ne hx.1 (gR_x2 hv hx.1).2 (by decide))])
      refine g_putR (ci := 6) (k := 3) F hH hS rfl (by decide) iX6 hx.1 (by decide) tyX6 tyX6_ok nmX6 rfl (ty := tyX6 3) rfl rfl rfl rfl k23 dX6_plan_53 (fun H locs hH hS => ?_)
      obtain ⟨R_26, eR_26⟩ : ∃ qQ, qQ = gup2 R_19 x 3 (some (q)) := ⟨_, rfl⟩
      rw [← eR_26] at hH
      have kR_26 : ∀ b, b ≠ x → R_26 b = R_19 b := fun b hb => by rw [eR_26]; exact funext fun j => gup2_a _ _ hb
      have r7 : ∀ b, gO g b 7 → R_26 b = R b := fun b hb => (show R_26 b = R_19 b by rw [eR_26]; exact funext fun j => gup2_a _ _ (gO_ne hb hx.1 (by decide))).trans (r7 b hb)
      have hv : gInv g gh R_26 AR I_6 AI_9 := by rw [eR_26]; exact gInv_Rx hv hx.1 (Or.inl ⟨rfl, hq⟩)
      have hx : xS g gh R_26 AR x q bA nA := ⟨hx.1, by rw [eR_26, gup2_s], hq, by rw [eR_26, gup2_k _ _ (by decide)]; exact hx.2.2.2.1, hx.2.2.2.2.1, by rw [eR_26, gup2_k _ _ (by decide)]; exact hx.2.2.2.2.2.1, hx.2.2.2.2.2.2⟩
      have kR9 : ∀ b, b ≠ x → R_26 b = R_19 b := kR_26
      refine lv_aload_n F.1 F.2.1 dX6_plan_56 rfl (lv_at hl 2 rfl) ?_
      have b_27 := gI_x hv hx.1
      refine g_callv (g_runV (As := []) (rest := []) (ci := 6) F hl.1 hH hS hz (c_X6_startAnewg l g gh q bA nA I_6 R_26 J_8 AI_9 AJ_10 AR x hv hx h37) (cwV 0 F.2.2.2.2.1 gX6_plan_X6_startAnew rfl rfl rfl hdX6_startAnew ⟨Nat.le_of_ble_eq_true rfl, Nat.le_of_ble_eq_true rfl⟩) hx.1 (by decide) rfl rfl rfl (Nat.le_of_ble_eq_true rfl) dX6_plan_57 ⟨Nat.zero_le _, Nat.zero_le _⟩) hS (fun I_28 R_29 J_30 AI_31 AJ_32 AR_33 H locs hp_34 hH hS => ?_)
      dsimp only at hp_34
      obtain ⟨rfl, rfl, rfl, rfl, rfl, hv, xfq, b57, zlq, frq, zxq⟩ := hp_34
      have x1 : (I_28 x 1).toInt = 0 := by rw [xfq.2]; exact x1
      have hqp : (I_28 q 1).toInt = (I_6 q 1).toInt := by rw [xfq.1 q 2 hq (by decide) (by decide)]
      have qnn := qn (by omega)
      have plf := pLn_f hv hq (plq (by omega)).1 (fun b c hb h4 h6 => xfq.1 b c hb h4 h6)
      have plt : (I_28 q 2).toInt = (sPlF b n).2.2.2 := by rw [xfq.1 q 2 hq (by decide) (by decide)]; exact (plq (by omega)).2
      have r21 : R_26 (gh 21 0) 1 = some pA := by rw [show R_26 (gh 21 0) = _ from kR9 _ (gO_ne (gR_x2 hv hx.1).2 hx.1 (by decide))]; exact rx1
      have hrc9 : rowsC gh AR I_28 AI_9 q b n (sPlF b n).1 (sPlF b n).2.1 (sPlF b n).2.2.1 := rowsC_f hv hq plf.2.1 (rcq (by omega)) (fun y hy _ _ => ⟨fun j _ _ => congrFun (xfq.1 y 0 hy (by decide) (by decide)) j, rfl⟩)
      have fr9 : ∀ o, gO g o 4 → (∀ r, r < 16 → rob AR bA r ≠ o) → (∀ r, r < 16 → rob AR (gh 35 0) r ≠ o) → o ≠ gh 37 0 → I_28 o = I o := fun o ho h1 h2 h3 => (frq o ho h1 h2 h3).trans (r4 o ho)
      refine lv_aload_n F.1 F.2.1 dX6_plan_60 rfl (lv_at hl 2 rfl) ?_
      refine g_getR (ci := 6) (k := 3) F hH rfl (by decide) iX6 hx.1 (by decide) rfl (b := q) hx.2.1 k23 dX6_plan_61 ?_
      refine g_getI (ci := 2) (k := 1) F hH rfl (by decide) iX2 hx.2.2.1 (by decide) rfl k96 dX6_plan_64 ?_
      have b_35 := gI_plan hv hx.2.2.1
      exact g_iret F hr hlk hH hS hz (zr_t _) ⟨rfl, hv, ⟨_, _, _, hx⟩, x1, r7, by (try dsimp only); rw [sPln_y (by omega) (by omega)]; omega, Or.inr ⟨by (try dsimp only); omega, hx, r21, plf, plt, b57⟩, Or.inr ⟨by (try dsimp only); omega, hrc9, zlq, fr9, a1, zxq.1, zxq.2.1, zxq.2.2⟩⟩ dX6_plan_67
    · refine z_bipush F dX6_plan_36 (by decide) ?_
      refine lv_iload_n F.1 F.2.1 dX6_plan_38 rfl (lv_at hl 0 rfl) ?_
      refine z_isub F dX6_plan_39 ?_
      exact g_iret F hr hlk hH hS hz ⟨by omega, by omega⟩ ⟨rfl, hv, ⟨_, _, _, hx⟩, x1, r7, by (try dsimp only); rw [sPln_n (by omega) (by omega)]; omega, Or.inl ⟨by (try dsimp only); omega, hx, hRq, pI, lI, bI, bA9⟩, Or.inl ⟨by (try dsimp only); omega, r4, a1, xk, a4⟩⟩ dX6_plan_40
  · refine z_iconst F dX6_plan_17 ?_
    exact g_iret F hr hlk hH hS hz ⟨by decide, by decide⟩ ⟨rfl, hv, ⟨_, _, _, hx⟩, x1, r7, by (try dsimp only); rw [sPln_b (by omega)], Or.inl ⟨by (try dsimp only); omega, hx, hRq, p2, fun y hy _ => ⟨l2 y hy, rfl⟩, congrFun b2 3, rfl⟩, Or.inl ⟨by (try dsimp only); omega, r4, fun _ _ => rfl, xk, fun _ _ _ => rfl⟩⟩ dX6_plan_18
