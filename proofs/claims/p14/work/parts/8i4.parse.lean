section
def rmX1_parseg : Room := { frames := 8, cells := 0, slots := 0, locals := 184 }
set_option maxHeartbeats 4000000 in
set_option maxRecDepth 100000 in
/-- reads a plan -/
theorem c_X1_parseg (l : Launch) (g : gG) (gh : gGh) (q : Nat) (b : tTx) (n : Nat) (I : gI) (R : gR) (J : gJ) (AI : gI) (AJ : gJ) (AR : gR) (a : Nat) (t : Nat) (tn : Int) (ztn : zr tn) (hv : gInv g gh R AR I AI) (h1 : gO g a 1) (hRq : R a 1 = some q) (hq : gO g q 2) (ht : gAr g t 8 936) (hn : 0 ≤ tn ∧ tn ≤ 900) (hb : ∀ k : Nat, (AI t k).toInt = b k) (hr7 : ∀ k : Nat, -128 ≤ b k ∧ b k ≤ 127) (hnn : tn = (n : Int)) : gMet l g yX1_parse wsX1_parse rmX1_parseg [.ref a, .ref t, .int (iI tn)] (I, R, J, AI, AJ, AR) (gQi g (fun (z : Int) (w : gS) => AR = w.2.2.2.2.2 ∧ (gInv g gh (w.2.1) AR (w.1) (w.2.2.2.1)) ∧ (∀ b k, b ≠ a ∨ k ≠ 2 → (w.2.1) b k = R b k) ∧ (yF g I (w.1)) ∧ (z = (sPl b n).1) ∧ (pIm z ((w.1) q 1).toInt ((sPl b n).2 : Int)) ∧ (0 ≤ z ∧ z ≤ 7206) ∧ (∀ y, gO g y 0 → gh 4 y ≠ q → (w.1) y = I y ∧ (w.2.2.1) y = J y) ∧ (∀ b, gO g b 2 → b ≠ q → (w.1) b = I b) ∧ (z = 0 → pLn gh AR (w.1) (w.2.2.1) q b n (sPlF b n).1 (sPlF b n).2.1 (sPlF b n).2.2.1 ∧ ((w.1) q 2).toInt = (sPlF b n).2.2.2) ∧ (z = 0 → rowsC gh AR (w.1) (w.2.2.2.1) q b n (sPlF b n).1 (sPlF b n).2.1 (sPlF b n).2.2.1) ∧ (∀ b, gh 9 b ≠ 2 → b ≠ gh 24 0 → b ≠ gh 25 0 → b ≠ gh 26 0 → (w.2.2.2.1) b = AI b) ∧ (∀ y, gO g y 0 → gh 4 y ≠ q → (w.2.2.2.1) (gh 3 y) = AI (gh 3 y)))) := by
  refine gStart (cc := cX1_parse) (maxL := 5) (ret := (some (.int))) (by decide) rfl (Nat.le_of_ble_eq_true rfl) ?_
  intro p e s m below meth c ls F hr hlk hH hz hS hl
  have hl : lv_has ls 5 [(0, .ref a), (1, .ref t), (2, .int (iI tn))] := hl
  have hS : va_S (gA g) s.heap s.heap [] := hS
  obtain ⟨H, hHe⟩ : ∃ H : Heap, H = s.heap := ⟨_, rfl⟩
  obtain ⟨locs, hlo⟩ : ∃ k : List Loc, k = [] := ⟨_, rfl⟩
  have hH : gH g I R J AI AJ AR H := by rw [hHe]; exact hH
  have hS : va_S (gA g) s.heap H locs := by rw [hHe, hlo]; exact hS
  suffices hw : W p l e rmX1_parseg s m ([.ref a, .ref t, .int (iI tn)] : List Value).toArray below meth c H locs 0 0 (MQ below (gQi g (fun (z : Int) (w : gS) => AR = w.2.2.2.2.2 ∧ (gInv g gh (w.2.1) AR (w.1) (w.2.2.2.1)) ∧ (∀ b k, b ≠ a ∨ k ≠ 2 → (w.2.1) b k = R b k) ∧ (yF g I (w.1)) ∧ (z = (sPl b n).1) ∧ (pIm z ((w.1) q 1).toInt ((sPl b n).2 : Int)) ∧ (0 ≤ z ∧ z ≤ 7206) ∧ (∀ y, gO g y 0 → gh 4 y ≠ q → (w.1) y = I y ∧ (w.2.2.1) y = J y) ∧ (∀ b, gO g b 2 → b ≠ q → (w.1) b = I b) ∧ (z = 0 → pLn gh AR (w.1) (w.2.2.1) q b n (sPlF b n).1 (sPlF b n).2.1 (sPlF b n).2.2.1 ∧ ((w.1) q 2).toInt = (sPlF b n).2.2.2) ∧ (z = 0 → rowsC gh AR (w.1) (w.2.2.2.1) q b n (sPlF b n).1 (sPlF b n).2.1 (sPlF b n).2.2.1) ∧ (∀ b, gh 9 b ≠ 2 → b ≠ gh 24 0 → b ≠ gh 25 0 → b ≠ gh 26 0 → (w.2.2.2.1) b = AI b) ∧ (∀ y, gO g y 0 → gh 4 y ≠ q → (w.2.2.2.1) (gh 3 y) = AI (gh 3 y)))) ([.ref a, .ref t, .int (iI tn)] : List Value).toArray s 0 0 (gA g)) (F0 m 0 ls []) by
    rw [hHe, hlo] at hw; exact hw
  clear hHe hlo
  have yf : yF g I I := yF_r
  have rf : ∀ b k, b ≠ a ∨ k ≠ 2 → R b k = R b k := fun _ _ _ => rfl
  have fl : ∀ y, gO g y 0 → gh 4 y ≠ q → I y = I y ∧ J y = J y := fun _ _ _ => ⟨rfl, rfl⟩
  have fp : ∀ b, gO g b 2 → b ≠ q → I b = I b := fun _ _ _ => rfl
  have fAA : ∀ b, gh 9 b ≠ 2 → b ≠ gh 24 0 → b ≠ gh 25 0 → b ≠ gh 26 0 → AI b = AI b := fun _ _ _ _ _ => rfl
  have fA4 : ∀ y, gO g y 0 → gh 4 y ≠ q → AI (gh 3 y) = AI (gh 3 y) := fun _ _ _ => rfl
  have hk24 := hv.2.2.2.2.2.2.1 _ (gR_pr0 hv h1).2
  have iX5 : ∀ w ∈ u_ws RX5 TX5 5, w ∈ wsX1_parse := (by decide +kernel)
  have iX2 : ∀ w ∈ u_ws RX2 TX2 3, w ∈ wsX1_parse := (by decide +kernel)
  have iX1 : ∀ w ∈ u_ws RX1 TX1 4, w ∈ wsX1_parse := (by decide +kernel)
  have k12 : Cond.fieldLink RX1 12 (TX1 0).1 (TX1 0).2.1 (TX1 0).2.2.1 ∈ wsX1_parse := List.mem_of_getElem? (i := 1) rfl
  have k21 : Cond.fieldLink RX1 21 (TX1 1).1 (TX1 1).2.1 (TX1 1).2.2.1 ∈ wsX1_parse := List.mem_of_getElem? (i := 2) rfl
  have k37 : Cond.fieldLink RX1 37 (TX2 1).1 (TX2 1).2.1 (TX2 1).2.2.1 ∈ wsX1_parse := List.mem_of_getElem? (i := 3) rfl
  have k41 : Cond.fieldLink RX1 41 (TX2 2).1 (TX2 2).2.1 (TX2 2).2.2.1 ∈ wsX1_parse := List.mem_of_getElem? (i := 4) rfl
  have k44 : Cond.fieldLink RX1 44 (TX1 3).1 (TX1 3).2.1 (TX1 3).2.2.1 ∈ wsX1_parse := List.mem_of_getElem? (i := 5) rfl
  have k47 : Cond.fieldLink RX1 47 (TX5 0).1 (TX5 0).2.1 (TX5 0).2.2.1 ∈ wsX1_parse := List.mem_of_getElem? (i := 6) rfl
  have k61 : Cond.fieldLink RX1 61 (TX5 1).1 (TX5 1).2.1 (TX5 1).2.2.1 ∈ wsX1_parse := List.mem_of_getElem? (i := 7) rfl
  refine lv_aload_n F.1 F.2.1 dX1_parse_0 rfl (lv_at hl 0 rfl) ?_
  refine g_getR (ci := 1) (k := 0) F hH rfl (by decide) iX1 h1 (by decide) rfl (b := gh 22 0) (gR_pr0 hv h1).1 k12 dX1_parse_1 ?_
  refine lv_aload_n F.1 F.2.1 dX1_parse_4 rfl (lv_at hl 1 rfl) ?_
  refine lv_iload_n F.1 F.2.1 dX1_parse_5 rfl (lv_at hl 2 rfl) ?_
  have b_1 := gI_tk hv (gR_pr0 hv h1).2
  refine g_callv (g_runV (As := [.ref t, .int (iI tn)]) (rest := []) (ci := 5) F hl.1 hH hS hz (c_X5_readf l g gh b I R J AI AJ AR (gh 22 0) t tn ztn hv (gR_pr0 hv h1).2 ht hb hr7 (by omega)) (cwV 2 F.2.2.2.2.1 gX1_parse_X5_read rfl rfl rfl hdX5_read ⟨Nat.le_of_ble_eq_true rfl, Nat.le_of_ble_eq_true rfl⟩) (gR_pr0 hv h1).2 (by decide) rfl rfl rfl (Nat.le_of_ble_eq_true rfl) dX1_parse_6 ⟨Nat.zero_le _, Nat.zero_le _⟩) hS (fun I_2 R_3 J_4 AI_5 AJ_6 AR_7 H locs hp_8 hH hS => ?_)
  dsimp only at hp_8
  obtain ⟨rfl, rfl, rfl, hv, ft, hl1, fo6, htk⟩ := hp_8
  have yf := yF_t yf (yF_o (gR_pr0 hv h1).2 (by decide) ft)
  have hl1 := hl1.1
  rw [show tn.toNat = n by omega] at htk
  obtain ⟨tl, etl⟩ : ∃ x, x = (I_2 (gh 22 0) 4).toInt := ⟨_, rfl⟩
  have htk : pTk gh AI_5 AJ_6 b n tl := by rw [etl]; exact htk
  have hl4 : (I_2 (gh 22 0) 4).toInt = tl := etl.symm
  have fl : ∀ y, gO g y 0 → gh 4 y ≠ q → I_2 y = I y ∧ J y = J y := fun y hy h4 => ⟨(ft y (gO_ne hy (gR_pr0 hv h1).2 (by decide))).trans (fl y hy h4).1, (fl y hy h4).2⟩
  have fp : ∀ b, gO g b 2 → b ≠ q → I_2 b = I b := fun b hb hn => (ft b (gO_ne hb (gR_pr0 hv h1).2 (by decide))).trans (fp b hb hn)
  have fAA : ∀ b, gh 9 b ≠ 2 → b ≠ gh 24 0 → b ≠ gh 25 0 → b ≠ gh 26 0 → AI_5 b = AI b := fun b h2 h4 h5 h6 => (fo6 b h4 h5 h6).trans (fAA b h2 h4 h5 h6)
  have fA4 : ∀ y, gO g y 0 → gh 4 y ≠ q → AI_5 (gh 3 y) = AI (gh 3 y) := fun y hy h4 => (fo6 _ (ne_9 (ln_9 hv hy) hk24.1.2.2.2 (by decide)) (ne_9 (ln_9 hv hy) hk24.2.1.2.2 (by decide)) (ne_9 (ln_9 hv hy) hk24.2.2.1.2.2 (by decide))).trans (fA4 y hy h4)
  refine lv_aload_n F.1 F.2.1 dX1_parse_9 rfl (lv_at hl 0 rfl) ?_
  refine g_getR (ci := 1) (k := 1) F hH rfl (by decide) iX1 h1 (by decide) rfl (b := q) hRq k21 dX1_parse_10 ?_
  refine z_iconst F dX1_parse_13 ?_
  refine g_putI (ci := 2) (k := 1) F hH hS rfl (by decide) iX2 hq (by decide) tyX2 tyX2_ok nmX2 rfl rfl rfl k37 dX1_parse_14 (fun H locs hH hS => ?_)
  obtain ⟨I_9, eI_9⟩ : ∃ qQ, qQ = gup2 I_2 q 1 (iI (0)) := ⟨_, rfl⟩
  rw [← eI_9] at hH
  have kI_9 : ∀ b, b ≠ q → I_9 b = I_2 b := fun b hb => by rw [eI_9]; exact funext fun j => gup2_a _ _ hb
  have w1 : (I_9 q 1).toInt = 0 := by rw [eI_9, gup2_s]; exact iI_val ⟨by decide, by decide⟩
  have hv : gInv g gh R AR I_9 AI_5 := by rw [eI_9]; exact gInv_planLen hv hq (by decide) (by decide) (fun b _ _ h => absurd h (by omega))
  have yf := yF_t yf (yF_o hq (by decide) kI_9)
  have hl1 : 1 ≤ (I_9 (gh 22 0) 4).toInt := by rw [kI_9 _ (gO_ne (gR_pr0 hv h1).2 hq (by decide))]; exact hl1
  have hl4 : (I_9 (gh 22 0) 4).toInt = tl := by rw [kI_9 _ (gO_ne (gR_pr0 hv h1).2 hq (by decide))]; exact hl4
  have fl : ∀ y, gO g y 0 → gh 4 y ≠ q → I_9 y = I y ∧ J y = J y := fun y hy h4 => ⟨(kI_9 y (gO_ne hy hq (by decide))).trans (fl y hy h4).1, (fl y hy h4).2⟩
  have fp : ∀ b, gO g b 2 → b ≠ q → I_9 b = I b := fun b hb hn => (kI_9 b hn).trans (fp b hb hn)
  refine lv_aload_n F.1 F.2.1 dX1_parse_17 rfl (lv_at hl 0 rfl) ?_
  refine g_getR (ci := 1) (k := 1) F hH rfl (by decide) iX1 h1 (by decide) rfl (b := q) hRq k21 dX1_parse_18 ?_
  refine z_iconst F dX1_parse_21 ?_
  refine g_putI (ci := 2) (k := 2) F hH hS rfl (by decide) iX2 hq (by decide) tyX2 tyX2_ok nmX2 rfl rfl rfl k41 dX1_parse_22 (fun H locs hH hS => ?_)
  obtain ⟨I_10, eI_10⟩ : ∃ qQ, qQ = gup2 I_9 q 2 (iI (0)) := ⟨_, rfl⟩
  rw [← eI_10] at hH
  have kI_10 : ∀ b, b ≠ q → I_10 b = I_9 b := fun b hb => by rw [eI_10]; exact funext fun j => gup2_a _ _ hb
  have w2 : (I_10 q 2).toInt = 0 := by rw [eI_10, gup2_s]; exact iI_val ⟨by decide, by decide⟩
  have w1 : (I_10 q 1).toInt = 0 := by rw [eI_10, gup2_k _ _ (by decide)]; exact w1
  have hv : gInv g gh R AR I_10 AI_5 := by rw [eI_10]; exact gInv_planTab hv hq (by decide) (by decide)
  have yf := yF_t yf (yF_o hq (by decide) kI_10)
  have hl1 : 1 ≤ (I_10 (gh 22 0) 4).toInt := by rw [kI_10 _ (gO_ne (gR_pr0 hv h1).2 hq (by decide))]; exact hl1
  have hl4 : (I_10 (gh 22 0) 4).toInt = tl := by rw [kI_10 _ (gO_ne (gR_pr0 hv h1).2 hq (by decide))]; exact hl4
  have fl : ∀ y, gO g y 0 → gh 4 y ≠ q → I_10 y = I y ∧ J y = J y := fun y hy h4 => ⟨(kI_10 y (gO_ne hy hq (by decide))).trans (fl y hy h4).1, (fl y hy h4).2⟩
  have fp : ∀ b, gO g b 2 → b ≠ q → I_10 b = I b := fun b hb hn => (kI_10 b hn).trans (fp b hb hn)
  refine lv_aload_n F.1 F.2.1 dX1_parse_25 rfl (lv_at hl 0 rfl) ?_
  refine z_iconst F dX1_parse_26 ?_
  refine g_putI (ci := 1) (k := 3) F hH hS rfl (by decide) iX1 h1 (by decide) tyX1 tyX1_ok nmX1 rfl rfl rfl k44 dX1_parse_27 (fun H locs hH hS => ?_)
  obtain ⟨I_11, eI_11⟩ : ∃ qQ, qQ = gup2 I_10 a 3 (iI (0)) := ⟨_, rfl⟩
  rw [← eI_11] at hH
  have kI_11 : ∀ b, b ≠ a → I_11 b = I_10 b := fun b hb => by rw [eI_11]; exact funext fun j => gup2_a _ _ hb
  have w1 : (I_11 q 1).toInt = 0 := by rw [kI_11 q (gO_ne hq h1 (by decide))]; exact w1
  have w2 : (I_11 q 2).toInt = 0 := by rw [kI_11 q (gO_ne hq h1 (by decide))]; exact w2
  have hh : (I_11 a 3).toInt < (I_11 (gh 22 0) 4).toInt := by rw [eI_11, gup2_s, gup2_a _ _ (gO_ne (gR_pr0 hv h1).2 h1 (by decide)), iI_val ⟨by decide, by decide⟩]; omega
  have hv : gInv g gh R AR I_11 AI_5 := by rw [eI_11]; exact gInv_here hv h1 (by decide) (by decide)
  have yf := yF_t yf (yF_o h1 (by decide) kI_11)
  have htb : 0 ≤ (I_11 q 2).toInt ∧ (I_11 q 2).toInt ≤ (I_11 q 1).toInt := by rw [kI_11 q (gO_ne hq h1 (by decide))]; omega
  have hl4 : (I_11 (gh 22 0) 4).toInt = tl := by rw [kI_11 _ (gO_ne (gR_pr0 hv h1).2 h1 (by decide))]; exact hl4
  have w3 : (I_11 a 3).toInt = 0 := by rw [eI_11, gup2_s]; exact iI_val ⟨by decide, by decide⟩
  have hP0 : pH gh AR I_11 J AI_5 AJ_6 a q b n tl 0 (fun _ => 0) (fun _ => 0) 0 := pH_0 htk hl4 (by omega) w3 w1
  have fl : ∀ y, gO g y 0 → gh 4 y ≠ q → I_11 y = I y ∧ J y = J y := fun y hy h4 => ⟨(kI_11 y (gO_ne hy h1 (by decide))).trans (fl y hy h4).1, (fl y hy h4).2⟩
  have fp : ∀ b, gO g b 2 → b ≠ q → I_11 b = I b := fun b hb hn => (kI_11 b (gO_ne hb h1 (by decide))).trans (fp b hb hn)
  refine z_iconst F dX1_parse_30 ?_
  refine lv_istore_n (lv' := [(3, .int (iI 0)), (0, .ref a), (1, .ref t), (2, .int (iI tn))]) F.1 F.2.1 dX1_parse_31 rfl hl (by decide) rfl (fun ls hl => ?_)
  have cut_32_15 : ∀ (NN : Nat) (nn : Int) (I_12 : gI) (R_13 : gR) (J_14 : gJ) (AI_15 : gI) (H : Heap) (locs : List Loc) (ls : Array Slot), zr nn → (gInv g gh R_13 AR I_12 AI_15) → (R_13 a 1 = some q) → (∀ b k, b ≠ a ∨ k ≠ 2 → R_13 b k = R b k) → (yF g I I_12) → ((I_12 a 3).toInt < (I_12 (gh 22 0) 4).toInt) → (0 ≤ (I_12 q 2).toInt ∧ (I_12 q 2).toInt ≤ (I_12 q 1).toInt) → (0 ≤ nn ∧ nn ≤ 17) → (∃ (nr : Nat) (nt : Nat → Nat) (cl : Nat → Int) (hc : Nat), pH gh AR I_12 J_14 AI_15 AJ_6 a q b n tl nr nt cl hc ∧ sPl b n = sPar b n (17 - nn).toNat nr nt cl (I_12 q 2).toInt hc ∧ (nr : Int) = nn ∧ sPlF b n = sParF b n (17 - nn).toNat nr nt cl (I_12 q 2).toInt hc ∧ rowsC gh AR I_12 AI_15 q b n nr nt cl) → (∀ y, gO g y 0 → gh 4 y ≠ q → I_12 y = I y ∧ J_14 y = J y) → (∀ b, gO g b 2 → b ≠ q → I_12 b = I b) → (∀ b, gh 9 b ≠ 2 → b ≠ gh 24 0 → b ≠ gh 25 0 → b ≠ gh 26 0 → AI_15 b = AI b) → (∀ y, gO g y 0 → gh 4 y ≠ q → AI_15 (gh 3 y) = AI (gh 3 y)) → (17 - nn) < ((NN : Nat) : Int) → gH g I_12 R_13 J_14 AI_15 AJ_6 AR H → va_S (gA g) s.heap H locs → lv_has ls 5 [(3, .int (iI nn)), (0, .ref a), (1, .ref t), (2, .int (iI tn))] → W p l e rmX1_parseg s m ([.ref a, .ref t, .int (iI tn)] : List Value).toArray below meth c H locs 0 0 (MQ below (gQi g (fun (z : Int) (w : gS) => AR = w.2.2.2.2.2 ∧ (gInv g gh (w.2.1) AR (w.1) (w.2.2.2.1)) ∧ (∀ b k, b ≠ a ∨ k ≠ 2 → (w.2.1) b k = R b k) ∧ (yF g I (w.1)) ∧ (z = (sPl b n).1) ∧ (pIm z ((w.1) q 1).toInt ((sPl b n).2 : Int)) ∧ (0 ≤ z ∧ z ≤ 7206) ∧ (∀ y, gO g y 0 → gh 4 y ≠ q → (w.1) y = I y ∧ (w.2.2.1) y = J y) ∧ (∀ b, gO g b 2 → b ≠ q → (w.1) b = I b) ∧ (z = 0 → pLn gh AR (w.1) (w.2.2.1) q b n (sPlF b n).1 (sPlF b n).2.1 (sPlF b n).2.2.1 ∧ ((w.1) q 2).toInt = (sPlF b n).2.2.2) ∧ (z = 0 → rowsC gh AR (w.1) (w.2.2.2.1) q b n (sPlF b n).1 (sPlF b n).2.1 (sPlF b n).2.2.1) ∧ (∀ b, gh 9 b ≠ 2 → b ≠ gh 24 0 → b ≠ gh 25 0 → b ≠ gh 26 0 → (w.2.2.2.1) b = AI b) ∧ (∀ y, gO g y 0 → gh 4 y ≠ q → (w.2.2.2.1) (gh 3 y) = AI (gh 3 y)))) ([.ref a, .ref t, .int (iI tn)] : List Value).toArray s 0 0 (gA g)) (F0 m 32 ls []) := by
    intro NN32
    induction NN32 with
    | zero =>
      intro nn I_12 R_13 J_14 AI_15 H locs ls znn hv hRq rf yf hh htb hi hE fl fp fAA fA4 hm32 hH hS hl
      exact absurd hm32 (by omega)
    | succ NN32 ih32 =>
      intro nn I_12 R_13 J_14 AI_15 H locs ls znn hv hRq rf yf hh htb hi hE fl fp fAA fA4 hm32 hH hS hl
      obtain ⟨nr, nt, cl, hc, hP, hsq, hnr, hsF⟩ := hE
      obtain ⟨hsF, hrc⟩ := hsF
      have h16 := hP.2.2.2.2.2.1
      refine lv_iload_n F.1 F.2.1 dX1_parse_32 rfl (lv_at hl 0 rfl) ?_
      refine z_bipush F dX1_parse_33 (by decide) ?_
      refine z_icmp_gt (tgt := 118) F dX1_parse_35 (by decide) znn ⟨by decide, by decide⟩ (fun c_17 => ?_) (fun c_17 => ?_)
      · refine z_iconst F dX1_parse_118 ?_
        have hfin : sPl b n = (0, nr) := sPar_e hsq (by omega)
        have hfnF : sPlF b n = (nr, nt, cl, (I_12 q 2).toInt) := sParF_e hsF (by omega)
        exact g_iret F hr hlk hH hS hz ⟨by decide, by decide⟩ ⟨rfl, hv, rf, yf, by (try dsimp only); rw [hfin]; first | done | omega | rfl, by (try dsimp only); first | exact pIm_n (by omega) | (rw [hfin]; exact pIm_y (pH_l hP)), by first | omega | (dsimp only; omega), fl, fp, by (try dsimp only); first | exact (fun h => absurd h (by omega)) | exact (fun _ => by rw [hfnF]; exact ⟨hP.2.2.2.2, rfl⟩), by (try dsimp only); first | exact (fun h => absurd h (by omega)) | exact (fun _ => by rw [hfnF]; exact hrc), fAA, fA4⟩ dX1_parse_119
      · refine lv_aload_n F.1 F.2.1 dX1_parse_38 rfl (lv_at hl 1 rfl) ?_
        refine g_getR (ci := 1) (k := 0) F hH rfl (by decide) iX1 h1 (by decide) rfl (b := gh 22 0) (gR_pr0 hv h1).1 k12 dX1_parse_39 ?_
        obtain ⟨r_18a, r_18b⟩ := gR_tk0 hv (gR_pr0 hv h1).2
        refine g_getR (ci := 5) (k := 0) F hH rfl (by decide) iX5 (gR_pr0 hv h1).2 (by decide) rfl (b := gh 24 0) r_18a k47 dX1_parse_42 ?_
        refine lv_aload_n F.1 F.2.1 dX1_parse_45 rfl (lv_at hl 1 rfl) ?_
        refine g_getI (ci := 1) (k := 3) F hH rfl (by decide) iX1 h1 (by decide) rfl k44 dX1_parse_46 ?_
        have b_19 := gI_pr hv h1
        have b_19t := gI_tk hv (gR_pr0 hv h1).2
        have hx49 : 0 ≤ ((I_12 a 3).toInt) ∧ ((I_12 a 3).toInt) < ((901 : Nat) : Int) ∧ ((I_12 a 3).toInt) ≤ 2147483647 := ⟨by omega, by omega, by omega⟩
        refine g_iald F hH r_18b hx49.1 hx49.2.1 hx49.2.2 dX1_parse_49 ?_
        refine z_name (fun v_20 ev_20 => ?_)
        have zv_20 : zr v_20 := by rw [ev_20]; exact zr_t _
        have t49 : v_20 = pK b n (hc) := by rw [ev_20]; exact pH_K hP
        refine z_if_eq (tgt := 118) F dX1_parse_50 (by decide) zv_20 (fun c_21 => ?_) (fun c_21 => ?_)
        · refine z_iconst F dX1_parse_118 ?_
          have hfin : sPl b n = (0, nr) := sPar_e hsq (by omega)
          have hfnF : sPlF b n = (nr, nt, cl, (I_12 q 2).toInt) := sParF_e hsF (by omega)
          exact g_iret F hr hlk hH hS hz ⟨by decide, by decide⟩ ⟨rfl, hv, rf, yf, by (try dsimp only); rw [hfin]; first | done | omega | rfl, by (try dsimp only); first | exact pIm_n (by omega) | (rw [hfin]; exact pIm_y (pH_l hP)), by first | omega | (dsimp only; omega), fl, fp, by (try dsimp only); first | exact (fun h => absurd h (by omega)) | exact (fun _ => by rw [hfnF]; exact ⟨hP.2.2.2.2, rfl⟩), by (try dsimp only); first | exact (fun h => absurd h (by omega)) | exact (fun _ => by rw [hfnF]; exact hrc), fAA, fA4⟩ dX1_parse_119
        · refine lv_aload_n F.1 F.2.1 dX1_parse_53 rfl (lv_at hl 1 rfl) ?_
          refine g_calli (g_runV (As := []) (rest := []) (ci := 1) F hl.1 hH hS hz (c_X1_readHeadh l g gh q b n tl nr nt cl hc ((I_12 q 2).toInt) I_12 R_13 J_14 AI_15 AJ_6 AR a hv h1 (by first | exact hp.2.2.2.2.2.2.2 | exact hh | omega) hRq hq hP rfl) (cwV 0 F.2.2.2.2.1 gX1_parse_X1_readHead rfl rfl rfl hdX1_readHead ⟨Nat.le_of_ble_eq_true rfl, Nat.le_of_ble_eq_true rfl⟩) h1 (by decide) rfl rfl rfl (Nat.le_of_ble_eq_true rfl) dX1_parse_54 ⟨Nat.zero_le _, Nat.zero_le _⟩) hS (fun v_28 I_22 R_23 J_24 AI_25 AJ_26 AR_27 H locs zv_28 hp_29 hH hS => ?_)
          dsimp only at hp_29
          obtain ⟨r_30, er_30⟩ : ∃ qQ : pR, qQ = sHd b n nr nt ((I_12 q 2).toInt) hc := ⟨_, rfl⟩
          rw [← er_30] at hp_29
          obtain ⟨rfl, rfl, rfl, hv, rfh, cfh, hsh, exh, zb, q_31, hP, flh, fl2q⟩ := hp_29
          have hRq : R_23 a 1 = some q := by rw [rfh a 1 (Or.inr (by decide))]; exact hRq
          have rf : ∀ b k, b ≠ a ∨ k ≠ 2 → R_23 b k = R b k := fun b k h => (rfh b k h).trans (rf b k h)
          have yf := yF_t yf (fun b c hb h0 h1' _ _ => cfh b c hb h0 h1')
          have hq1 : I_22 q = I_12 q := cfh q 2 hq (by decide) (by decide)
          have ht1 : I_22 (gh 22 0) = I_12 (gh 22 0) := cfh _ 5 (gR_pr0 hv h1).2 (by decide) (by decide)
          have hh : (I_22 a 3).toInt < (I_22 (gh 22 0) 4).toInt := by rw [ht1]; exact hsh
          have htb : 0 ≤ (I_22 q 2).toInt ∧ (I_22 q 2).toInt ≤ (I_22 q 1).toInt := by rw [hq1]; exact htb
          have hq11 : (I_22 q 1).toInt = (I_12 q 1).toInt := by rw [hq1]
          have hq2_ : (I_22 q 2).toInt = (I_12 q 2).toInt := by rw [hq1]
          have fl : ∀ y, gO g y 0 → gh 4 y ≠ q → I_22 y = I y ∧ J_24 y = J y := fun y hy h4 => ⟨((flh y hy h4).1).trans (fl y hy h4).1, ((flh y hy h4).2).trans (fl y hy h4).2⟩
          have fp : ∀ b, gO g b 2 → b ≠ q → I_22 b = I b := fun b hb hn => (cfh b 2 hb (by decide) (by decide)).trans (fp b hb hn)
          have hrc : rowsC gh AR I_22 AI_15 q b n nr nt cl := rowsC_f hv hq h16 hrc (fun y hy h4 h5 => ⟨fun j _ _ => congrFun (fl2q y hy (by omega)) j, rfl⟩)
          refine lv_istore (lv' := [(4, .int (iI v_28)), (3, .int (iI nn)), (0, .ref a), (1, .ref t), (2, .int (iI tn))]) F.1 F.2.1 dX1_parse_57 hl (by decide) rfl (fun ls hl => ?_)
          refine lv_iload F.1 F.2.1 dX1_parse_59 (lv_at hl 0 rfl) ?_
          refine z_if_ne (tgt := 70) F dX1_parse_61 (by decide) zv_28 (fun c_32 => ?_) (fun c_32 => ?_)
          · refine lv_iload F.1 F.2.1 dX1_parse_70 (lv_at hl 0 rfl) ?_
            refine z_if_ne (tgt := 81) F dX1_parse_72 (by decide) zv_28 (fun c_33 => ?_) (fun c_33 => ?_)
            · refine lv_iload F.1 F.2.1 dX1_parse_81 (lv_at hl 0 rfl) ?_
              refine z_if_eq (tgt := 105) F dX1_parse_83 (by decide) zv_28 (fun c_34 => ?_) (fun c_34 => ?_)
              · exact absurd trivial (by omega)
              · refine z_bipush F dX1_parse_86 (by decide) ?_
                refine lv_aload_n F.1 F.2.1 dX1_parse_88 rfl (lv_at hl 2 rfl) ?_
                refine g_getR (ci := 1) (k := 0) F hH rfl (by decide) iX1 h1 (by decide) rfl (b := gh 22 0) (gR_pr0 hv h1).1 k12 dX1_parse_89 ?_
                obtain ⟨r_35a, r_35b⟩ := gR_tk1 hv (gR_pr0 hv h1).2
                refine g_getR (ci := 5) (k := 1) F hH rfl (by decide) iX5 (gR_pr0 hv h1).2 (by decide) rfl (b := gh 25 0) r_35a k61 dX1_parse_92 ?_
                refine lv_aload_n F.1 F.2.1 dX1_parse_95 rfl (lv_at hl 2 rfl) ?_
                refine g_getI (ci := 1) (k := 3) F hH rfl (by decide) iX1 h1 (by decide) rfl k44 dX1_parse_96 ?_
                have b_36 := gI_pr hv h1
                have b_36t := gI_tk hv (gR_pr0 hv h1).2
                have hx99 : 0 ≤ ((I_22 a 3).toInt) ∧ ((I_22 a 3).toInt) < ((901 : Nat) : Int) ∧ ((I_22 a 3).toInt) ≤ 2147483647 := ⟨by omega, by omega, by omega⟩
                refine g_iald F hH r_35b hx99.1 hx99.2.1 hx99.2.2 dX1_parse_99 ?_
                refine z_name (fun v_37 ev_37 => ?_)
                have zv_37 : zr v_37 := by rw [ev_37]; exact zr_t _
                have t99 : v_37 = (tPs b n (r_30.2.1) : Int) := by rw [ev_37]; exact pH_P hP
                have b99 := tPs_le (b := b) (n := n) (r_30.2.1)
                refine z_imul F dX1_parse_100 ?_
                refine lv_iload F.1 F.2.1 dX1_parse_101 (lv_at hl 0 rfl) ?_
                refine z_iadd F dX1_parse_103 ?_
                have hLn : r_30 = sLine b n nr nt cl (I_12 q 2).toInt hc := Eq.symm (by unfold sLine; exact thn_x er_30 (by omega))
                have hfin : sPl b n = (8 * (tPs b n r_30.2.1 : Int) + r_30.1, nr) := sPar_n hsq (f := (16 - nn).toNat) (by omega) (by omega) hLn (by omega)
                exact g_iret F hr hlk hH hS hz ⟨by omega, by omega⟩ ⟨rfl, hv, rf, yf, by (try dsimp only); rw [hfin]; first | done | omega | rfl, by (try dsimp only); first | exact pIm_n (by omega) | (rw [hfin]; exact pIm_y (pH_l hP)), by first | omega | (dsimp only; omega), fl, fp, by (try dsimp only); first | exact (fun h => absurd h (by omega)) | exact (fun _ => by rw [hfnF]; exact ⟨hP.2.2.2.2, rfl⟩), by (try dsimp only); first | exact (fun h => absurd h (by omega)) | exact (fun _ => by rw [hfnF]; exact hrc), fAA, fA4⟩ dX1_parse_104
            · exact absurd trivial (by omega)
          · obtain ⟨ln1, hp, h15, hk0, hk8, hnm, h3n, h4n⟩ := exh (by omega)
            clear exh
            have hhd := sHd_0 er_30 (by omega)
            have hsd : r_30.2.2 = kdT b n (hc + 1) ∧ r_30.2.1 = bTk b n (hc + 1) ∧ True := by have q9 := sHd_h (show (sHd b n nr nt _ hc).1 = 0 by rw [← er_30]; omega); rw [← er_30] at q9; exact ⟨q9.1, q9.2.1, trivial⟩
            have hln5 : (gh 5 ln1 : Int) = (nr : Int) := by have q7 := hp.2.2.2.2.2.2.1; have q8 := pH_l hP; omega
            refine lv_aload_n F.1 F.2.1 dX1_parse_64 rfl (lv_at hl 2 rfl) ?_
            refine g_calli (g_runV (As := []) (rest := []) (ci := 1) F hl.1 hH hS hz (c_X1_readBodyg l g gh q ln1 r_30.2.2 b n tl nr nt cl r_30.2.1 I_22 R_23 J_24 AI_15 AJ_6 AR a hv hp hP (by omega) hk8 (by omega) (by omega)) (cwV 0 F.2.2.2.2.1 gX1_parse_X1_readBody rfl rfl rfl hdX1_readBody ⟨Nat.le_of_ble_eq_true rfl, Nat.le_of_ble_eq_true rfl⟩) h1 (by decide) rfl rfl rfl (Nat.le_of_ble_eq_true rfl) dX1_parse_65 ⟨Nat.zero_le _, Nat.zero_le _⟩) hS (fun v_44 I_38 R_39 J_40 AI_41 AJ_42 AR_43 H locs zv_44 hp_45 hH hS => ?_)
            dsimp only at hp_45
            obtain ⟨r_46, er_46⟩ : ∃ qQ : pR, qQ = sBody b n nr nt cl r_30.2.2 r_30.2.1 := ⟨_, rfl⟩
            rw [← er_46] at hp_45
            obtain ⟨rfl, rfl, rfl, rfl, hv, hp, pfq, q_47, q_48, hP, hbz, fAb, ctb⟩ := hp_45
            have yf := yF_t yf (fun b c hb h0 h1' _ _ => pfq.1 b (gO_ne hb h1 h1') (gO_ne hb hp.2.2.2.2.1 h0))
            have hq1 : I_38 q = I_22 q := pF_q hp pfq
            have hq11 : (I_38 q 1).toInt = (I_22 q 1).toInt := by rw [hq1]
            have hh := hp.2.2.2.2.2.2.2
            have htb : 0 ≤ (I_38 q 2).toInt ∧ (I_38 q 2).toInt ≤ (I_38 q 1).toInt := by rw [hq1]; exact htb
            have hq2_ : (I_38 q 2).toInt = (I_22 q 2).toInt := by rw [hq1]
            have hk0 : (I_38 ln1 0).toInt = r_30.2.2 := by rw [pfq.2]; exact hk0
            have fl : ∀ y, gO g y 0 → gh 4 y ≠ q → I_38 y = I y ∧ J_24 y = J y := fun y hy h4 => ⟨(pfq.1 y (gO_ne hy h1 (by decide)) (fun e => h4 (by rw [e]; exact hp.2.2.2.2.2.1))).trans (fl y hy h4).1, (fl y hy h4).2⟩
            have fp : ∀ b, gO g b 2 → b ≠ q → I_38 b = I b := fun b hb hn => (pfq.1 b (gO_ne hb h1 (by decide)) (gO_ne hb hp.2.2.2.2.1 (by decide))).trans (fp b hb hn)
            have hrc : rowsC gh AR I_38 AI_41 q b n nr nt cl := rowsC_f hv hq h16 hrc (fun y hy h4 h5 => ⟨fun j _ _ => congrFun (pfq.1 y (gO_ne hy h1 (by decide)) (fun e => by rw [e] at h5; omega)) j, fAb _ (ln3_ne hv hy hp.2.2.2.2.1 (fun e => by rw [e] at h5; omega))⟩)
            have fAA : ∀ b, gh 9 b ≠ 2 → b ≠ gh 24 0 → b ≠ gh 25 0 → b ≠ gh 26 0 → AI_41 b = AI b := fun b h2 h4 h5 h6 => (fAb b (fun e => h2 (by rw [e]; exact ln_9 hv hp.2.2.2.2.1))).trans (fAA b h2 h4 h5 h6)
            have fA4 : ∀ y, gO g y 0 → gh 4 y ≠ q → AI_41 (gh 3 y) = AI (gh 3 y) := fun y hy h4 => (fAb _ (ln3_ne hv hy hp.2.2.2.2.1 (fun e => h4 (by rw [e]; exact hp.2.2.2.2.2.1)))).trans (fA4 y hy h4)
            refine lv_istore (lv' := [(4, .int (iI v_44)), (3, .int (iI nn)), (0, .ref a), (1, .ref t), (2, .int (iI tn))]) F.1 F.2.1 dX1_parse_68 hl (by decide) rfl (fun ls hl => ?_)
            refine lv_iload F.1 F.2.1 dX1_parse_70 (lv_at hl 0 rfl) ?_
            refine z_if_ne (tgt := 81) F dX1_parse_72 (by decide) zv_44 (fun c_49 => ?_) (fun c_49 => ?_)
            · refine lv_iload F.1 F.2.1 dX1_parse_81 (lv_at hl 0 rfl) ?_
              refine z_if_eq (tgt := 105) F dX1_parse_83 (by decide) zv_44 (fun c_50 => ?_) (fun c_50 => ?_)
              · exact absurd trivial (by omega)
              · refine z_bipush F dX1_parse_86 (by decide) ?_
                refine lv_aload_n F.1 F.2.1 dX1_parse_88 rfl (lv_at hl 2 rfl) ?_
                refine g_getR (ci := 1) (k := 0) F hH rfl (by decide) iX1 h1 (by decide) rfl (b := gh 22 0) (gR_pr0 hv h1).1 k12 dX1_parse_89 ?_
                obtain ⟨r_51a, r_51b⟩ := gR_tk1 hv (gR_pr0 hv h1).2
                refine g_getR (ci := 5) (k := 1) F hH rfl (by decide) iX5 (gR_pr0 hv h1).2 (by decide) rfl (b := gh 25 0) r_51a k61 dX1_parse_92 ?_
                refine lv_aload_n F.1 F.2.1 dX1_parse_95 rfl (lv_at hl 2 rfl) ?_
                refine g_getI (ci := 1) (k := 3) F hH rfl (by decide) iX1 h1 (by decide) rfl k44 dX1_parse_96 ?_
                have b_52 := gI_pr hv h1
                have b_52t := gI_tk hv (gR_pr0 hv h1).2
                have hx99 : 0 ≤ ((I_38 a 3).toInt) ∧ ((I_38 a 3).toInt) < ((901 : Nat) : Int) ∧ ((I_38 a 3).toInt) ≤ 2147483647 := ⟨by omega, by omega, by omega⟩
                refine g_iald F hH r_51b hx99.1 hx99.2.1 hx99.2.2 dX1_parse_99 ?_
                refine z_name (fun v_53 ev_53 => ?_)
                have zv_53 : zr v_53 := by rw [ev_53]; exact zr_t _
                have t99 : v_53 = (tPs b n (r_46.2.1) : Int) := by rw [ev_53]; exact pH_P hP
                have b99 := tPs_le (b := b) (n := n) (r_46.2.1)
                refine z_imul F dX1_parse_100 ?_
                refine lv_iload F.1 F.2.1 dX1_parse_101 (lv_at hl 0 rfl) ?_
                refine z_iadd F dX1_parse_103 ?_
                have hLn : r_46 = sLine b n nr nt cl (I_12 q 2).toInt hc := Eq.symm (by unfold sLine; exact thn_y er_30 (by omega) (thn_x er_46 (by omega)))
                have hfin : sPl b n = (8 * (tPs b n r_46.2.1 : Int) + r_46.1, nr) := sPar_n hsq (f := (16 - nn).toNat) (by omega) (by omega) hLn (by omega)
                exact g_iret F hr hlk hH hS hz ⟨by omega, by omega⟩ ⟨rfl, hv, rf, yf, by (try dsimp only); rw [hfin]; first | done | omega | rfl, by (try dsimp only); first | exact pIm_n (by omega) | (rw [hfin]; exact pIm_y (pH_l hP)), by first | omega | (dsimp only; omega), fl, fp, by (try dsimp only); first | exact (fun h => absurd h (by omega)) | exact (fun _ => by rw [hfnF]; exact ⟨hP.2.2.2.2, rfl⟩), by (try dsimp only); first | exact (fun h => absurd h (by omega)) | exact (fun _ => by rw [hfnF]; exact hrc), fAA, fA4⟩ dX1_parse_104
            · refine lv_aload_n F.1 F.2.1 dX1_parse_75 rfl (lv_at hl 2 rfl) ?_
              have hkl : kLn b n nr nt cl (hc + 1 + 3) (I_38 ln1) (AI_41 (gh 3 ln1)) (kdT b n (hc + 1)) := kLn_b (by have q9 := ctb (by omega); rw [hsd.1, hsd.2.1] at q9; exact q9)
              refine g_calli (g_runV (As := []) (rest := []) (ci := 1) F hl.1 hH hS hz (c_X1_readCloseg l g gh q ln1 r_46.2.2 b n tl nr nt cl r_46.2.1 I_38 R_23 J_24 AI_41 AJ_6 AR a hv hp hP (hbz (by omega))) (cwV 0 F.2.2.2.2.1 gX1_parse_X1_readClose rfl rfl rfl hdX1_readClose ⟨Nat.le_of_ble_eq_true rfl, Nat.le_of_ble_eq_true rfl⟩) h1 (by decide) rfl rfl rfl (Nat.le_of_ble_eq_true rfl) dX1_parse_76 ⟨Nat.zero_le _, Nat.zero_le _⟩) hS (fun v_60 I_54 R_55 J_56 AI_57 AJ_58 AR_59 H locs zv_60 hp_61 hH hS => ?_)
              dsimp only at hp_61
              obtain ⟨r_62, er_62⟩ : ∃ qQ : pR, qQ = sClo b n r_46.2.2 r_46.2.1 := ⟨_, rfl⟩
              rw [← er_62] at hp_61
              obtain ⟨rfl, rfl, rfl, rfl, rfl, hv, hp, pfq, hcl, zcl, q_63, hP, hc2, fIc⟩ := hp_61
              have yf := yF_t yf (fun b c hb h0 h1' _ _ => pfq.1 b (gO_ne hb h1 h1') (gO_ne hb hp.2.2.2.2.1 h0))
              have hq1 : I_54 q = I_38 q := pF_q hp pfq
              have hq11 : (I_54 q 1).toInt = (I_38 q 1).toInt := by rw [hq1]
              have hh := hp.2.2.2.2.2.2.2
              have htb : 0 ≤ (I_54 q 2).toInt ∧ (I_54 q 2).toInt ≤ (I_54 q 1).toInt := by rw [hq1]; exact htb
              have hq2_ : (I_54 q 2).toInt = (I_38 q 2).toInt := by rw [hq1]
              have hk0 : (I_54 ln1 0).toInt = r_30.2.2 := by rw [pfq.2]; exact hk0
              have fl : ∀ y, gO g y 0 → gh 4 y ≠ q → I_54 y = I y ∧ J_24 y = J y := fun y hy h4 => ⟨(pfq.1 y (gO_ne hy h1 (by decide)) (fun e => h4 (by rw [e]; exact hp.2.2.2.2.2.1))).trans (fl y hy h4).1, (fl y hy h4).2⟩
              have fp : ∀ b, gO g b 2 → b ≠ q → I_54 b = I b := fun b hb hn => (pfq.1 b (gO_ne hb h1 (by decide)) (gO_ne hb hp.2.2.2.2.1 (by decide))).trans (fp b hb hn)
              have hrc : rowsC gh AR I_54 AI_41 q b n nr nt cl := rowsC_f hv hq h16 hrc (fun y hy h4 h5 => ⟨fun j _ _ => congrFun (pfq.1 y (gO_ne hy h1 (by decide)) (fun e => by rw [e] at h5; omega)) j, rfl⟩)
              have hkl : kLn b n nr nt cl (hc + 1 + 3) (I_54 ln1) (AI_41 (gh 3 ln1)) (kdT b n (hc + 1)) := by rw [fIc]; exact hkl
              refine lv_istore (lv' := [(4, .int (iI v_60)), (3, .int (iI nn)), (0, .ref a), (1, .ref t), (2, .int (iI tn))]) F.1 F.2.1 dX1_parse_79 hl (by decide) rfl (fun ls hl => ?_)
              refine lv_iload F.1 F.2.1 dX1_parse_81 (lv_at hl 0 rfl) ?_
              refine z_if_eq (tgt := 105) F dX1_parse_83 (by decide) zv_60 (fun c_64 => ?_) (fun c_64 => ?_)
              · have t_65 := hc2 (by omega)
                refine lv_aload_n F.1 F.2.1 dX1_parse_105 rfl (lv_at hl 2 rfl) ?_
                refine g_getR (ci := 1) (k := 1) F hH rfl (by decide) iX1 h1 (by decide) rfl (b := q) hRq k21 dX1_parse_106 ?_
                have htbe : (I_54 q 2).toInt = (I_12 q 2).toInt := by first | rfl | omega
                have b_66 := gI_plan hv hq
                refine g_callv (g_runV (As := []) (rest := []) (ci := 2) F hl.1 hH hS hz (c_X2_keepLineg l g gh ln1 I_54 R_23 J_24 AI_41 AJ_6 AR q hv hq (by omega) (by omega) (fun b hb h4 h5 => by
          have e := gA_same hv hq hb h4 hp.2.2.2.2.1 hp.2.2.2.2.2.1 (by have := hp.2.2.2.2.2.2.1; omega)
          rw [e]; exact hcl (by omega)) (pS_at hv hp)) (cwV 0 F.2.2.2.2.1 gX1_parse_X2_keepLine rfl rfl rfl hdX2_keepLine ⟨Nat.le_of_ble_eq_true rfl, Nat.le_of_ble_eq_true rfl⟩) hq (by decide) rfl rfl rfl (Nat.le_of_ble_eq_true rfl) dX1_parse_109 ⟨Nat.zero_le _, Nat.zero_le _⟩) hS (fun I_67 R_68 J_69 AI_70 AJ_71 AR_72 H locs hp_73 hH hS => ?_)
                dsimp only at hp_73
                obtain ⟨rfl, rfl, rfl, rfl, rfl, hv, kl, kt, kf, kt1, kim, knm, kt7⟩ := hp_73
                have fl : ∀ y, gO g y 0 → gh 4 y ≠ q → I_67 y = I y ∧ J_24 y = J y := fun y hy h4 => ⟨(kt7 y (gO_ne hy hq (by decide)) (fun e => h4 (by rw [e]; exact hp.2.2.2.2.2.1))).trans (fl y hy h4).1, (fl y hy h4).2⟩
                have fp : ∀ b, gO g b 2 → b ≠ q → I_67 b = I b := fun b hb hn => (kt7 b hn (gO_ne hb hp.2.2.2.2.1 (by decide))).trans (fp b hb hn)
                have yf := yF_t yf (fun b c hb h0 _ h2 _ => kf b c hb h0 h2)
                have hh : (I_67 a 3).toInt < (I_67 (gh 22 0) 4).toInt := by rw [kf a 1 h1 (by decide) (by decide), kf _ 5 (gR_pr0 hv h1).2 (by decide) (by decide)]; exact hh
                have htb : 0 ≤ (I_67 q 2).toInt ∧ (I_67 q 2).toInt ≤ (I_67 q 1).toInt := by have := gI_plan hv hq; omega
                have hsF0 := hsF
                have hLn : r_62 = sLine b n nr nt cl (I_12 q 2).toInt hc := Eq.symm (by unfold sLine; exact thn_y er_30 (by omega) (thn_y er_46 (by omega) (er_62.symm)))
                have hlg := (sLine_LG (b := b) (n := n) (nr := nr) (nt := nt) (cl := cl) (tb := (I_12 q 2).toInt) (h := hc) (by rw [← hLn]; omega)).1
                rw [← hLn] at hlg
                have hrc : rowsC gh AR I_67 AI_41 q b n nr nt cl := rowsC_f hv hq h16 hrc (fun y hy h4 h5 => ⟨fun j _ _ => congrFun (kt7 y (gO_ne hy hq (by decide)) (fun e => by rw [e] at h5; omega)) j, rfl⟩)
                have hkl := kLn_f (fun j a3 a4 => kt1 ln1 j a3 a4 hp.2.2.2.2.1) hkl
                have hkk : (I_67 ln1 0).toInt = kdT b n (hc + 1) := by rw [kt1 ln1 0 (by decide) (by decide) hp.2.2.2.2.1, hk0]; exact hsd.1
                have hrc := rowsC_s hv hq (by omega) hp.2.2.2.2.1 hp.2.2.2.2.2.1 (by omega) hrc hlg hkk hkl
                rw [htbe] at kim knm
                have htbb := sHd_tb er_30 (by omega) hk0 kim knm
                have hP := pH_keep hv hp hP (by omega) kl kf kt1 (hc2 (by omega)) hnm hhd.1
                have hsq := sPar_s hsq (f := (16 - nn).toNat) (by omega) (by omega) hLn (by omega) htbb
                have hsF := sParF_s hsF (f := (16 - nn).toNat) (by omega) (by omega) hLn (by omega) htbb
                refine z_iinc (lv' := [(3, .int (iI (nn + 1))), (4, .int (iI v_60)), (0, .ref a), (1, .ref t), (2, .int (iI tn))]) F dX1_parse_112 hl (k := 1) rfl (by decide) rfl (fun ls hl => ?_)
                refine z_goto (tgt := 32) F dX1_parse_115 (by decide) ?_
                exact ih32 (nn + 1) I_67 R_23 J_24 AI_41 H locs ls ⟨by omega, by omega⟩ hv hRq rf yf hh htb (by omega) ⟨nr + 1, _, _, _, hP, by rw [show (17 - (nn + 1)).toNat = (16 - nn).toNat by omega]; exact hsq, by omega, by rw [show (17 - (nn + 1)).toNat = (16 - nn).toNat by omega]; exact hsF, hrc⟩ fl fp fAA fA4 (by omega) hH hS (lv_sub hl [0, 2, 3, 4] rfl)
              · refine z_bipush F dX1_parse_86 (by decide) ?_
                refine lv_aload_n F.1 F.2.1 dX1_parse_88 rfl (lv_at hl 2 rfl) ?_
                refine g_getR (ci := 1) (k := 0) F hH rfl (by decide) iX1 h1 (by decide) rfl (b := gh 22 0) (gR_pr0 hv h1).1 k12 dX1_parse_89 ?_
                obtain ⟨r_74a, r_74b⟩ := gR_tk1 hv (gR_pr0 hv h1).2
                refine g_getR (ci := 5) (k := 1) F hH rfl (by decide) iX5 (gR_pr0 hv h1).2 (by decide) rfl (b := gh 25 0) r_74a k61 dX1_parse_92 ?_
                refine lv_aload_n F.1 F.2.1 dX1_parse_95 rfl (lv_at hl 2 rfl) ?_
                refine g_getI (ci := 1) (k := 3) F hH rfl (by decide) iX1 h1 (by decide) rfl k44 dX1_parse_96 ?_
                have b_75 := gI_pr hv h1
                have b_75t := gI_tk hv (gR_pr0 hv h1).2
                have hx99 : 0 ≤ ((I_54 a 3).toInt) ∧ ((I_54 a 3).toInt) < ((901 : Nat) : Int) ∧ ((I_54 a 3).toInt) ≤ 2147483647 := ⟨by omega, by omega, by omega⟩
                refine g_iald F hH r_74b hx99.1 hx99.2.1 hx99.2.2 dX1_parse_99 ?_
                refine z_name (fun v_76 ev_76 => ?_)
                have zv_76 : zr v_76 := by rw [ev_76]; exact zr_t _
                have t99 : v_76 = (tPs b n (r_62.2.1) : Int) := by rw [ev_76]; exact pH_P hP
                have b99 := tPs_le (b := b) (n := n) (r_62.2.1)
                refine z_imul F dX1_parse_100 ?_
                refine lv_iload F.1 F.2.1 dX1_parse_101 (lv_at hl 0 rfl) ?_
                refine z_iadd F dX1_parse_103 ?_
                have hLn : r_62 = sLine b n nr nt cl (I_12 q 2).toInt hc := Eq.symm (by unfold sLine; exact thn_y er_30 (by omega) (thn_y er_46 (by omega) (er_62.symm)))
                have hfin : sPl b n = (8 * (tPs b n r_62.2.1 : Int) + r_62.1, nr) := sPar_n hsq (f := (16 - nn).toNat) (by omega) (by omega) hLn (by omega)
                exact g_iret F hr hlk hH hS hz ⟨by omega, by omega⟩ ⟨rfl, hv, rf, yf, by (try dsimp only); rw [hfin]; first | done | omega | rfl, by (try dsimp only); first | exact pIm_n (by omega) | (rw [hfin]; exact pIm_y (pH_l hP)), by first | omega | (dsimp only; omega), fl, fp, by (try dsimp only); first | exact (fun h => absurd h (by omega)) | exact (fun _ => by rw [hfnF]; exact ⟨hP.2.2.2.2, rfl⟩), by (try dsimp only); first | exact (fun h => absurd h (by omega)) | exact (fun _ => by rw [hfnF]; exact hrc), fAA, fA4⟩ dX1_parse_104
  exact cut_32_15 (((17 - 0) + 1 : Int).toNat) 0 I_11 R J AI_5 H locs ls ⟨by decide, by decide⟩ hv hRq rf yf hh htb (by omega) ⟨0, fun _ => 0, fun _ => 0, 0, hP0, by rw [w2]; rfl, rfl, by rw [w2]; rfl, rowsC_0⟩ fl fp fAA fA4 (by omega) hH hS (lv_sub hl [0, 1, 2, 3] rfl)
end
section
def rmX6_plang : Room := { frames := 9, cells := 0, slots := 0, locals := 208 }
set_option maxHeartbeats 4000000 in
set_option maxRecDepth 100000 in
/-- plan -/
theorem c_X6_plang (l : Launch) (g : gG) (gh : gGh) (pA bA nA : Nat) (b : tTx) (n : Nat) (qq : Nat) (I : gI) (R : gR) (J : gJ) (AI : gI) (AJ : gJ) (AR : gR) (x : Nat) (hv : gInv g gh R AR I AI) (hx : xS g gh R AR x pA bA nA) (h37 : gh 42 0 ≠ 1) (hb : ∀ k : Nat, (AI (gh 28 0) k).toInt = b k) (hr7 : ∀ k : Nat, -128 ≤ b k ∧ b k ≤ 127) (hnn : (I x 1).toInt = (n : Int)) (hqq : R (gh 21 0) 1 = some qq) (hqp : qq ≠ pA) (hB : I (gh 37 0) 3 = (gM g).1 (gh 37 0) 3 ∧ AI (gh 0 (gh 37 0)) = (gM g).2 (gh 0 (gh 37 0))) : gMet l g yX6_plan wsX6_plan rmX6_plang [.ref x] (I, R, J, AI, AJ, AR) (gQi g (fun (z : Int) (w : gS) => AR = w.2.2.2.2.2 ∧ (gInv g gh (w.2.1) AR (w.1) (w.2.2.2.1)) ∧ (∃ p1 b1 n1, xS g gh (w.2.1) AR x p1 b1 n1) ∧ (((w.1) x 1).toInt = 0) ∧ (∀ b, gO g b 7 → (w.2.1) b = R b) ∧ (z = sPln b n) ∧ (plE g gh AR I J AI (w.2.1) (w.1) (w.2.2.1) (w.2.2.2.1) x pA qq bA nA b n z) ∧ (plC g gh AR I AI (w.1) (w.2.2.2.1) x pA qq bA b n z))) := by
  refine gStart (cc := cX6_plan) (maxL := 3) (ret := (some (.int))) (by decide) rfl (Nat.le_of_ble_eq_true rfl) ?_
  intro p e s m below meth c ls F hr hlk hH hz hS hl
  have hl : lv_has ls 3 [(0, .ref x)] := hl
  have hS : va_S (gA g) s.heap s.heap [] := hS
  obtain ⟨H, hHe⟩ : ∃ H : Heap, H = s.heap := ⟨_, rfl⟩
  obtain ⟨locs, hlo⟩ : ∃ k : List Loc, k = [] := ⟨_, rfl⟩
  have hH : gH g I R J AI AJ AR H := by rw [hHe]; exact hH
  have hS : va_S (gA g) s.heap H locs := by rw [hHe, hlo]; exact hS
  suffices hw : W p l e rmX6_plang s m ([.ref x] : List Value).toArray below meth c H locs 0 0 (MQ below (gQi g (fun (z : Int) (w : gS) => AR = w.2.2.2.2.2 ∧ (gInv g gh (w.2.1) AR (w.1) (w.2.2.2.1)) ∧ (∃ p1 b1 n1, xS g gh (w.2.1) AR x p1 b1 n1) ∧ (((w.1) x 1).toInt = 0) ∧ (∀ b, gO g b 7 → (w.2.1) b = R b) ∧ (z = sPln b n) ∧ (plE g gh AR I J AI (w.2.1) (w.1) (w.2.2.1) (w.2.2.2.1) x pA qq bA nA b n z) ∧ (plC g gh AR I AI (w.1) (w.2.2.2.1) x pA qq bA b n z))) ([.ref x] : List Value).toArray s 0 0 (gA g)) (F0 m 0 ls []) by
    rw [hHe, hlo] at hw; exact hw
  clear hHe hlo
  obtain ⟨q, hRq, hq⟩ := (hv.2.2.2.2.2.1 _ (gR_x2 hv hx.1).2).2.1
  have r7 : ∀ b, gO g b 7 → R b = R b := fun _ _ => rfl
  have eq9 : q = qq := Option.some.inj (hRq.symm.trans hqq)
  subst eq9
  have h3g := gR_x8 hv hx.1
  have iX6 : ∀ w ∈ u_ws RX6 TX6 18, w ∈ wsX6_plan := (by decide +kernel)
  have iX2 : ∀ w ∈ u_ws RX2 TX2 3, w ∈ wsX6_plan := (by decide +kernel)
  have k77 : Cond.fieldLink RX6 77 (TX6 1).1 (TX6 1).2.1 (TX6 1).2.2.1 ∈ wsX6_plan := List.mem_of_getElem? (i := 1) rfl
  have k16 : Cond.fieldLink RX6 16 (TX6 2).1 (TX6 2).2.1 (TX6 2).2.2.1 ∈ wsX6_plan := List.mem_of_getElem? (i := 2) rfl
  have k9 : Cond.fieldLink RX6 9 (TX6 0).1 (TX6 0).2.1 (TX6 0).2.2.1 ∈ wsX6_plan := List.mem_of_getElem? (i := 3) rfl
  have k23 : Cond.fieldLink RX6 23 (TX6 3).1 (TX6 3).2.1 (TX6 3).2.2.1 ∈ wsX6_plan := List.mem_of_getElem? (i := 4) rfl
  have k96 : Cond.fieldLink RX6 96 (TX2 1).1 (TX2 1).2.1 (TX2 1).2.2.1 ∈ wsX6_plan := List.mem_of_getElem? (i := 5) rfl
  refine lv_aload_n F.1 F.2.1 dX6_plan_0 rfl (lv_at hl 0 rfl) ?_
  refine g_getI (ci := 6) (k := 1) F hH rfl (by decide) iX6 hx.1 (by decide) rfl k77 dX6_plan_1 ?_
  have b_1 := gI_x hv hx.1
  refine lv_istore_n (lv' := [(1, .int (iI ((I x 1).toInt))), (0, .ref x)]) F.1 F.2.1 dX6_plan_4 rfl hl (by decide) rfl (fun ls hl => ?_)
  refine lv_aload_n F.1 F.2.1 dX6_plan_5 rfl (lv_at hl 1 rfl) ?_
  refine z_iconst F dX6_plan_6 ?_
  refine g_putI (ci := 6) (k := 1) F hH hS rfl (by decide) iX6 hx.1 (by decide) tyX6 tyX6_ok nmX6 rfl rfl rfl k77 dX6_plan_7 (fun H locs hH hS => ?_)
  obtain ⟨I_2, eI_2⟩ : ∃ qQ, qQ = gup2 I x 1 (iI (0)) := ⟨_, rfl⟩
  rw [← eI_2] at hH
  have kI_2 : ∀ b, b ≠ x → I_2 b = I b := fun b hb => by rw [eI_2]; exact funext fun j => gup2_a _ _ hb
  have x1 : (I_2 x 1).toInt = 0 := by rw [eI_2, gup2_s]; exact iI_val ⟨by decide, by decide⟩
  have hv : gInv g gh R AR I_2 AI := by rw [eI_2]; exact gInv_x1 hv hx.1 (by decide) (by decide)
  have b2 : I_2 (gh 37 0) = I (gh 37 0) := kI_2 _ (gO_ne h3g.2.1 hx.1 (by decide))
  have l2 : ∀ y, gO g y 0 → I_2 y = I y := fun y hy => kI_2 y (gO_ne hy hx.1 (by decide))
  have p2 : I_2 pA = I pA := kI_2 pA (gO_ne hx.2.2.1 hx.1 (by decide))
  have hvF : gInv g (ghF 1 gh) R AR I_2 AI := gInv_up hv ⟨h3g.2.1, h3g.2.2.2⟩ ⟨by rw [b2]; exact hB.1, hB.2⟩
  have r4 : ∀ o, gO g o 4 → I_2 o = I o := fun o ho => kI_2 o (gO_ne ho hx.1 (by decide))
  have xk : ∀ k, k ≠ 1 → I_2 x k = I x k := fun k hk => by rw [eI_2]; exact gup2_k _ _ hk
  refine lv_iload_n F.1 F.2.1 dX6_plan_10 rfl (lv_at hl 0 rfl) ?_
  refine z_sipush F dX6_plan_11 (by decide) ?_
  refine z_icmp_le (tgt := 19) F dX6_plan_14 (by decide) (zr_t _) ⟨by decide, by decide⟩ (fun c_3 => ?_) (fun c_3 => ?_)
  · refine lv_aload_n F.1 F.2.1 dX6_plan_19 rfl (lv_at hl 1 rfl) ?_
    obtain ⟨r_4a, r_4b⟩ := gR_x2 hv hx.1
    refine g_getR (ci := 6) (k := 2) F hH rfl (by decide) iX6 hx.1 (by decide) rfl (b := gh 21 0) r_4a k16 dX6_plan_20 ?_
    refine lv_aload_n F.1 F.2.1 dX6_plan_23 rfl (lv_at hl 1 rfl) ?_
    obtain ⟨r_5a, r_5b⟩ := gR_x0 hv hx.1
    refine g_getR (ci := 6) (k := 0) F hH rfl (by decide) iX6 hx.1 (by decide) rfl (b := gh 28 0) r_5a k9 dX6_plan_24 ?_
    refine lv_iload_n F.1 F.2.1 dX6_plan_27 rfl (lv_at hl 0 rfl) ?_
    refine g_calli (g_runV (As := [.ref (gh 28 0), .int (iI ((I x 1).toInt))]) (rest := []) (ci := 1) F hl.1 hH hS hz (c_X1_parseg l g (ghF 1 gh) q b n I_2 R J AI AJ AR (gh 21 0) (gh 28 0) ((I x 1).toInt) (zr_t _) hvF r_4b hRq hq r_5b (by omega) hb hr7 (by omega)) (cwV 2 F.2.2.2.2.1 gX6_plan_X1_parse rfl rfl rfl hdX1_parse ⟨Nat.le_of_ble_eq_true rfl, Nat.le_of_ble_eq_true rfl⟩) r_4b (by decide) rfl rfl rfl (Nat.le_of_ble_eq_true rfl) dX6_plan_28 ⟨Nat.zero_le _, Nat.zero_le _⟩) hS (fun v_12 I_6 R_7 J_8 AI_9 AJ_10 AR_11 H locs zv_12 hp_13 hH hS => ?_)
    dsimp only at hp_13
    obtain ⟨rfl, hv, rfq, yfq, qz, qn, q_14, flq, fpq, plq, rcq, fAAq, fA4q⟩ := hp_13
    have fz := hv.2.2.2.2.2.2.2.2.2.2 rfl
    have bI : I_6 (gh 37 0) 3 = I (gh 37 0) 3 := fz.2.2.1.trans hB.1.symm
    have bA9 : AI_9 (gh 0 (gh 37 0)) = AI (gh 0 (gh 37 0)) := fz.2.2.2.trans hB.2.symm
    have hv : gInv g gh R_7 AR I_6 AI_9 := gInv_un hv h37
    have pI : I_6 pA = I pA := (fpq pA hx.2.2.1 (fun e => hqp e.symm)).trans p2
    have lI : ∀ y, gO g y 0 → gh 4 y = pA → I_6 y = I y ∧ J_8 y = J y := fun y hy h4 => ⟨((flq y hy (fun e => hqp (e.symm.trans h4))).1).trans (l2 y hy), (flq y hy (fun e => hqp (e.symm.trans h4))).2⟩
    have x1 : (I_6 x 1).toInt = 0 := by rw [yfq x 6 hx.1 (by decide) (by decide) (by decide) (by decide)]; exact x1
    have hx := xS_R hx (fun k => rfq x k (Or.inl (gO_ne hx.1 (gR_x2 hv hx.1).2 (by decide))))
    have r7 : ∀ b, gO g b 7 → R_7 b = R b := fun b hb => (funext fun k => rfq b k (Or.inl (gO_ne hb (gR_x2 hv hx.1).2 (by decide)))).trans (r7 b hb)
    have hRq : R_7 (gh 21 0) 1 = some q := by rw [rfq _ 1 (Or.inr (by decide))]; exact hRq
    have hk24 := hv.2.2.2.2.2.2.1 _ (gR_pr0 hv (gR_x2 hv hx.1).2).2
    have r4 : ∀ o, gO g o 4 → I_6 o = I o := fun o ho => (yfq o 4 ho (by decide) (by decide) (by decide) (by decide)).trans (r4 o ho)
    have xk : ∀ k, k ≠ 1 → I_6 x k = I x k := fun k hk => (congrFun (yfq x 6 hx.1 (by decide) (by decide) (by decide) (by decide)) k).trans (xk k hk)
    have a1 : ∀ o, gh 9 o = 1 → AI_9 o = AI o := fun o h1 => fAAq o (fun e => absurd (h1.symm.trans e) (by decide)) (ne_9 h1 hk24.1.2.2.2 (by decide)) (ne_9 h1 hk24.2.1.2.2 (by decide)) (ne_9 h1 hk24.2.2.1.2.2 (by decide))
    have a4 : ∀ y, gO g y 0 → gh 4 y = pA → AI_9 (gh 3 y) = AI (gh 3 y) := fun y hy h4 => fA4q y hy (fun e => hqp (e.symm.trans h4))
    refine lv_istore_n (lv' := [(2, .int (iI v_12)), (1, .int (iI ((I x 1).toInt))), (0, .ref x)]) F.1 F.2.1 dX6_plan_31 rfl hl (by decide) rfl (fun ls hl => ?_)
    refine lv_iload_n F.1 F.2.1 dX6_plan_32 rfl (lv_at hl 0 rfl) ?_
    refine z_if_eq (tgt := 41) F dX6_plan_33 (by decide) zv_12 (fun c_15 => ?_) (fun c_15 => ?_)
    · refine lv_aload_n F.1 F.2.1 dX6_plan_41 rfl (lv_at hl 2 rfl) ?_
      refine lv_aload_n F.1 F.2.1 dX6_plan_42 rfl (lv_at hl 2 rfl) ?_
      obtain ⟨r_16a, r_16b⟩ := gR_x2 hv hx.1
      refine g_getR (ci := 6) (k := 2) F hH rfl (by decide) iX6 hx.1 (by decide) rfl (b := gh 21 0) r_16a k16 dX6_plan_43 ?_
      refine lv_aload_n F.1 F.2.1 dX6_plan_46 rfl (lv_at hl 2 rfl) ?_
      refine g_getR (ci := 6) (k := 3) F hH rfl (by decide) iX6 hx.1 (by decide) rfl (b := pA) hx.2.1 k23 dX6_plan_47 ?_
      have b_17 := gI_plan hv hx.2.2.1
      refine g_callr (g_runV (As := [.ref pA]) (rest := [.ref x]) (ci := 1) F hl.1 hH hS hz (c_X1_exchangePlan l g gh q I_6 R_7 J_8 AI_9 AJ_10 AR (gh 21 0) pA hv r_16b hx.2.2.1 hRq hq) (cwV 1 F.2.2.2.2.1 gX6_plan_X1_exchangePlan rfl rfl rfl hdX1_exchangePlan ⟨Nat.le_of_ble_eq_true rfl, Nat.le_of_ble_eq_true rfl⟩) r_16b (by decide) rfl rfl rfl (Nat.le_of_ble_eq_true rfl) dX6_plan_50 ⟨Nat.zero_le _, Nat.zero_le _⟩) hS (fun v_24 I_18 R_19 J_20 AI_21 AJ_22 AR_23 H locs hp_25 hH hS => ?_)
      dsimp only at hp_25
      obtain ⟨rfl, rfl, rfl, rfl, rfl, hv, fx, qx, rx1⟩ := hp_25
      have r7 : ∀ b, gO g b 7 → R_19 b = R b := fun b hb => (fx b (gO_ne hb (gR_x2 hv hx.1).2 (by decide))).trans (r7 b hb)
      subst qx
      have hx : xS g gh R_19 AR x pA bA nA := xS_R hx (fun k => by rw [fx x (gO_ne hx.1 (gR_x2 hv hx.1).2 (by decide))])
      refine g_putR (ci := 6) (k := 3) F hH hS rfl (by decide) iX6 hx.1 (by decide) tyX6 tyX6_ok nmX6 rfl (ty := tyX6 3) rfl rfl rfl rfl k23 dX6_plan_53 (fun H locs hH hS => ?_)
      obtain ⟨R_26, eR_26⟩ : ∃ qQ, qQ = gup2 R_19 x 3 (some (q)) := ⟨_, rfl⟩
      rw [← eR_26] at hH
      have kR_26 : ∀ b, b ≠ x → R_26 b = R_19 b := fun b hb => by rw [eR_26]; exact funext fun j => gup2_a _ _ hb
      have r7 : ∀ b, gO g b 7 → R_26 b = R b := fun b hb => (show R_26 b = R_19 b by rw [eR_26]; exact funext fun j => gup2_a _ _ (gO_ne hb hx.1 (by decide))).trans (r7 b hb)
      have hv : gInv g gh R_26 AR I_6 AI_9 := by rw [eR_26]; exact gInv_Rx hv hx.1 (Or.inl ⟨rfl, hq⟩)
      have hx : xS g gh R_26 AR x q bA nA := ⟨hx.1, by rw [eR_26, gup2_s], hq, by rw [eR_26, gup2_k _ _ (by decide)]; exact hx.2.2.2.1, hx.2.2.2.2.1, by rw [eR_26, gup2_k _ _ (by decide)]; exact hx.2.2.2.2.2.1, hx.2.2.2.2.2.2⟩
      have kR9 : ∀ b, b ≠ x → R_26 b = R_19 b := kR_26
      refine lv_aload_n F.1 F.2.1 dX6_plan_56 rfl (lv_at hl 2 rfl) ?_
      have b_27 := gI_x hv hx.1
      refine g_callv (g_runV (As := []) (rest := []) (ci := 6) F hl.1 hH hS hz (c_X6_startAnewg l g gh q bA nA I_6 R_26 J_8 AI_9 AJ_10 AR x hv hx h37) (cwV 0 F.2.2.2.2.1 gX6_plan_X6_startAnew rfl rfl rfl hdX6_startAnew ⟨Nat.le_of_ble_eq_true rfl, Nat.le_of_ble_eq_true rfl⟩) hx.1 (by decide) rfl rfl rfl (Nat.le_of_ble_eq_true rfl) dX6_plan_57 ⟨Nat.zero_le _, Nat.zero_le _⟩) hS (fun I_28 R_29 J_30 AI_31 AJ_32 AR_33 H locs hp_34 hH hS => ?_)
      dsimp only at hp_34
      obtain ⟨rfl, rfl, rfl, rfl, rfl, hv, xfq, b57, zlq, frq, zxq⟩ := hp_34
      have x1 : (I_28 x 1).toInt = 0 := by rw [xfq.2]; exact x1
      have hqp : (I_28 q 1).toInt = (I_6 q 1).toInt := by rw [xfq.1 q 2 hq (by decide) (by decide)]
      have qnn := qn (by omega)
      have plf := pLn_f hv hq (plq (by omega)).1 (fun b c hb h4 h6 => xfq.1 b c hb h4 h6)
      have plt : (I_28 q 2).toInt = (sPlF b n).2.2.2 := by rw [xfq.1 q 2 hq (by decide) (by decide)]; exact (plq (by omega)).2
      have r21 : R_26 (gh 21 0) 1 = some pA := by rw [show R_26 (gh 21 0) = _ from kR9 _ (gO_ne (gR_x2 hv hx.1).2 hx.1 (by decide))]; exact rx1
      have hrc9 : rowsC gh AR I_28 AI_9 q b n (sPlF b n).1 (sPlF b n).2.1 (sPlF b n).2.2.1 := rowsC_f hv hq plf.2.1 (rcq (by omega)) (fun y hy _ _ => ⟨fun j _ _ => congrFun (xfq.1 y 0 hy (by decide) (by decide)) j, rfl⟩)
      have fr9 : ∀ o, gO g o 4 → (∀ r, r < 16 → rob AR bA r ≠ o) → (∀ r, r < 16 → rob AR (gh 35 0) r ≠ o) → o ≠ gh 37 0 → I_28 o = I o := fun o ho h1 h2 h3 => (frq o ho h1 h2 h3).trans (r4 o ho)
      refine lv_aload_n F.1 F.2.1 dX6_plan_60 rfl (lv_at hl 2 rfl) ?_
      refine g_getR (ci := 6) (k := 3) F hH rfl (by decide) iX6 hx.1 (by decide) rfl (b := q) hx.2.1 k23 dX6_plan_61 ?_
      refine g_getI (ci := 2) (k := 1) F hH rfl (by decide) iX2 hx.2.2.1 (by decide) rfl k96 dX6_plan_64 ?_
      have b_35 := gI_plan hv hx.2.2.1
      exact g_iret F hr hlk hH hS hz (zr_t _) ⟨rfl, hv, ⟨_, _, _, hx⟩, x1, r7, by (try dsimp only); rw [sPln_y (by omega) (by omega)]; omega, Or.inr ⟨by (try dsimp only); omega, hx, r21, plf, plt, b57⟩, Or.inr ⟨by (try dsimp only); omega, hrc9, zlq, fr9, a1, zxq.1, zxq.2.1, zxq.2.2⟩⟩ dX6_plan_67
    · refine z_bipush F dX6_plan_36 (by decide) ?_
      refine lv_iload_n F.1 F.2.1 dX6_plan_38 rfl (lv_at hl 0 rfl) ?_
      refine z_isub F dX6_plan_39 ?_
      exact g_iret F hr hlk hH hS hz ⟨by omega, by omega⟩ ⟨rfl, hv, ⟨_, _, _, hx⟩, x1, r7, by (try dsimp only); rw [sPln_n (by omega) (by omega)]; omega, Or.inl ⟨by (try dsimp only); omega, hx, hRq, pI, lI, bI, bA9⟩, Or.inl ⟨by (try dsimp only); omega, r4, a1, xk, a4⟩⟩ dX6_plan_40
  · refine z_iconst F dX6_plan_17 ?_
    exact g_iret F hr hlk hH hS hz ⟨by decide, by decide⟩ ⟨rfl, hv, ⟨_, _, _, hx⟩, x1, r7, by (try dsimp only); rw [sPln_b (by omega)], Or.inl ⟨by (try dsimp only); omega, hx, hRq, p2, fun y hy _ => ⟨l2 y hy, rfl⟩, congrFun b2 3, rfl⟩, Or.inl ⟨by (try dsimp only); omega, r4, fun _ _ => rfl, xk, fun _ _ _ => rfl⟩⟩ dX6_plan_18
end
