def rmX6_undof : Room := { frames := 7, cells := 0, slots := 0, locals := 214 }
set_option maxHeartbeats 4000000 in
set_option maxRecDepth 100000 in
/-- undo -/
theorem c_X6_undof (l : Launch) (g : gG) (gh : gGh) (pA bA nA : Nat) (nb nr : Nat) (cc : Nat → LC) (cl : Nat → Int) (I : gI) (R : gR) (J : gJ) (AI : gI) (AJ : gJ) (AR : gR) (x : Nat) (hv : gInv g gh R AR I AI) (hx : xS g gh R AR x pA bA nA) (hnb : (I (rob AR (gh 36 0) (((I x 14).toInt + 7) % 8).toNat) 3).toInt = (nb : Int)) (hbt : btO (AI (gh 0 (rob AR (gh 36 0) (((I x 14).toInt + 7) % 8).toNat))) nb) (hlen : (I pA 1).toInt = (nr : Int)) (htb2 : 0 ≤ (I pA 2).toInt ∧ (I pA 2).toInt ≤ (nr : Int) ∧ nr ≤ 16) (hln : ∀ r, r < nr → lnC (I (rob AR (gh 6 pA) r)) (AI (gh 3 (rob AR (gh 6 pA) r))) (cc r)) (hcK : ∀ r : Nat, r < nr → (I pA 2).toInt ≤ (r : Int) → cOK (cc r) r cl ∧ cZ (cc r) r cl) (hbg : ∀ r, r < nr → bgOK (rfC gh AR I AI bA) cl r) (hbz : btZ cl (AI (gh 0 (rob AR (gh 36 0) (((I x 14).toInt + 7) % 8).toNat))) nb) (htb : ∀ i, i < nb → 0 ≤ ((AI (gh 0 (rob AR (gh 36 0) (((I x 14).toInt + 7) % 8).toNat))) (6 * i)).toInt ∧ ((AI (gh 0 (rob AR (gh 36 0) (((I x 14).toInt + 7) % 8).toNat))) (6 * i)).toInt < (I pA 2).toInt) (hD : xD gh AR bA nA) (hok : ∃ F : RF, rnP (I pA 2).toInt nr cc (∃ i, i < nb ∧ blw (AI (gh 0 (rob AR (gh 36 0) (((I x 14).toInt + 7) % 8).toNat))) (rfC gh AR I AI bA) (-1) i) (tbS (AI (gh 0 (rob AR (gh 36 0) (((I x 14).toInt + 7) % 8).toNat))) nb (rfC gh AR I AI bA) (-1)) 0 F) : gMet l g yX6_undo wsX6_undo rmX6_undof [.ref x] (I, R, J, AI, AJ, AR) (gQi g (fun (z : Int) (w : gS) => J = w.2.2.1 ∧ AJ = w.2.2.2.2.1 ∧ AR = w.2.2.2.2.2 ∧ (gInv g gh (w.2.1) AR (w.1) (w.2.2.2.1)) ∧ (xF g x I (w.1)) ∧ (∃ b1 n1, xS g gh (w.2.1) AR x pA b1 n1) ∧ (∀ b k, b ≠ x ∨ (k ≠ 5 ∧ k ≠ 6) → (w.2.1) b k = R b k) ∧ (-1 ≤ z ∧ z ≤ 8) ∧ (((I x 15).toInt = 0 ∧ z = -1 ∧ (w.1) = I ∧ (w.2.2.2.1) = AI ∧ (w.2.1) = R) ∨ (0 < (I x 15).toInt ∧ z = (I x 15).toInt - 1 ∧ xS g gh (w.2.1) AR x pA nA bA ∧ ∃ Fn : RF, rnP (I pA 2).toInt nr cc (∃ i, i < nb ∧ blw (AI (gh 0 (rob AR (gh 36 0) (((I x 14).toInt + 7) % 8).toNat))) (rfC gh AR I AI bA) (-1) i) (tbS (AI (gh 0 (rob AR (gh 36 0) (((I x 14).toInt + 7) % 8).toNat))) nb (rfC gh AR I AI bA) (-1)) 0 Fn ∧ cmU gh AR x bA nA nr I AI Fn (w.1) (w.2.2.2.1))))) := by
  refine gStart (cc := cX6_undo) (maxL := 1) (ret := (some (.int))) (by decide) rfl (Nat.le_of_ble_eq_true rfl) ?_
  intro p e s m below meth c ls F hr hlk hH hz hS hl
  have hl : lv_has ls 1 [(0, .ref x)] := hl
  have hS : va_S (gA g) s.heap s.heap [] := hS
  obtain ⟨H, hHe⟩ : ∃ H : Heap, H = s.heap := ⟨_, rfl⟩
  obtain ⟨locs, hlo⟩ : ∃ k : List Loc, k = [] := ⟨_, rfl⟩
  have hH : gH g I R J AI AJ AR H := by rw [hHe]; exact hH
  have hS : va_S (gA g) s.heap H locs := by rw [hHe, hlo]; exact hS
  suffices hw : W p l e rmX6_undof s m ([.ref x] : List Value).toArray below meth c H locs 0 0 (MQ below (gQi g (fun (z : Int) (w : gS) => J = w.2.2.1 ∧ AJ = w.2.2.2.2.1 ∧ AR = w.2.2.2.2.2 ∧ (gInv g gh (w.2.1) AR (w.1) (w.2.2.2.1)) ∧ (xF g x I (w.1)) ∧ (∃ b1 n1, xS g gh (w.2.1) AR x pA b1 n1) ∧ (∀ b k, b ≠ x ∨ (k ≠ 5 ∧ k ≠ 6) → (w.2.1) b k = R b k) ∧ (-1 ≤ z ∧ z ≤ 8) ∧ (((I x 15).toInt = 0 ∧ z = -1 ∧ (w.1) = I ∧ (w.2.2.2.1) = AI ∧ (w.2.1) = R) ∨ (0 < (I x 15).toInt ∧ z = (I x 15).toInt - 1 ∧ xS g gh (w.2.1) AR x pA nA bA ∧ ∃ Fn : RF, rnP (I pA 2).toInt nr cc (∃ i, i < nb ∧ blw (AI (gh 0 (rob AR (gh 36 0) (((I x 14).toInt + 7) % 8).toNat))) (rfC gh AR I AI bA) (-1) i) (tbS (AI (gh 0 (rob AR (gh 36 0) (((I x 14).toInt + 7) % 8).toNat))) nb (rfC gh AR I AI bA) (-1)) 0 Fn ∧ cmU gh AR x bA nA nr I AI Fn (w.1) (w.2.2.2.1))))) ([.ref x] : List Value).toArray s 0 0 (gA g)) (F0 m 0 ls []) by
    rw [hHe, hlo] at hw; exact hw
  clear hHe hlo
  have xf : xF g x I I := xF_r
  have h37g := gR_x8 hv hx.1
  have h39g := gR_x10 hv hx.1
  have h38g := gR_x9 hv hx.1
  have h16g := gI_x hv hx.1
  have hc39 : gh 37 0 ≠ gh 39 0 := fun e9 => by have q9 := h37g.2.2.2; rw [e9, h39g.2.2.2] at q9; exact absurd q9 (by decide)
  have hnn := hx.2.2.2.2.2.2
  have h35g := (gR_x7 hv hx.1).2
  have h36g := (gR_x13 hv hx.1).2
  have hx0 := hx
  have hv00 := hv
  have iX6 : ∀ w ∈ u_ws RX6 TX6 18, w ∈ wsX6_undo := (by decide +kernel)
  have k100 : Cond.fieldLink RX6 100 (TX6 15).1 (TX6 15).2.1 (TX6 15).2.2.1 ∈ wsX6_undo := List.mem_of_getElem? (i := 1) rfl
  have k160 : Cond.fieldLink RX6 160 (TX6 14).1 (TX6 14).2.1 (TX6 14).2.2.1 ∈ wsX6_undo := List.mem_of_getElem? (i := 2) rfl
  have k74 : Cond.fieldLink RX6 74 (TX6 13).1 (TX6 13).2.1 (TX6 13).2.2.1 ∈ wsX6_undo := List.mem_of_getElem? (i := 3) rfl
  refine lv_aload_n F.1 F.2.1 dX6_undo_0 rfl (lv_at hl 0 rfl) ?_
  refine g_getI (ci := 6) (k := 15) F hH rfl (by decide) iX6 hx.1 (by decide) rfl k100 dX6_undo_1 ?_
  have b_1 := gI_x hv hx.1
  refine z_if_ne (tgt := 9) F dX6_undo_4 (by decide) (zr_t _) (fun c_2 => ?_) (fun c_2 => ?_)
  · refine lv_aload_n F.1 F.2.1 dX6_undo_9 rfl (lv_at hl 0 rfl) ?_
    refine lv_dup F.1 F.2.1 dX6_undo_10 rfl ?_
    refine g_getI (ci := 6) (k := 15) F hH rfl (by decide) iX6 hx.1 (by decide) rfl k100 dX6_undo_11 ?_
    refine z_iconst F dX6_undo_14 ?_
    refine z_isub F dX6_undo_15 ?_
    refine g_putI (ci := 6) (k := 15) F hH hS rfl (by decide) iX6 hx.1 (by decide) tyX6 tyX6_ok nmX6 rfl rfl rfl k100 dX6_undo_16 (fun H locs hH hS => ?_)
    obtain ⟨I_3, eI_3⟩ : ∃ qQ, qQ = gup2 I x 15 (iI (((I x 15).toInt) - 1)) := ⟨_, rfl⟩
    rw [← eI_3] at hH
    have kI_3 : ∀ b, b ≠ x → I_3 b = I b := fun b hb => by rw [eI_3]; exact funext fun j => gup2_a _ _ hb
    have w_4 : (I_3 x 15).toInt = ((I x 15).toInt) - 1 := by rw [eI_3, gup2_s]; exact iI_val ⟨by omega, by omega⟩
    have hv : gInv g gh R AR I_3 AI := by rw [eI_3]; exact gInv_x15 hv hx.1 (by omega) (by omega)
    have xf : xF g x I I_3 := xF_t xf (by rw [eI_3]; exact xF_k hx.1 (by decide))
    have w_4t : (I_3 x 1).toInt = (I x 1).toInt := by rw [xf.2]
    have w_4_14 : (I_3 x 14).toInt = (I x 14).toInt := by rw [eI_3, gup2_k _ _ (by decide)]
    have v15 : (I_3 x 15).toInt = (I x 15).toInt - 1 := by rw [eI_3, gup2_s, iI_val ⟨by omega, by omega⟩]
    have vx : ∀ b j, b ≠ x ∨ j ≠ 15 → I_3 b j = I b j := fun b j h => by rw [eI_3]; rcases h with h | h; (· exact gup2_a _ _ h); (· exact gup2_k _ _ h)
    refine lv_aload_n F.1 F.2.1 dX6_undo_19 rfl (lv_at hl 0 rfl) ?_
    refine lv_aload_n F.1 F.2.1 dX6_undo_20 rfl (lv_at hl 0 rfl) ?_
    refine g_getI (ci := 6) (k := 14) F hH rfl (by decide) iX6 hx.1 (by decide) rfl k160 dX6_undo_21 ?_
    have b_5 := gI_x hv hx.1
    refine z_bipush F dX6_undo_24 (by decide) ?_
    refine z_iadd F dX6_undo_26 ?_
    refine z_iconst F dX6_undo_27 ?_
    refine z_isub F dX6_undo_28 ?_
    refine z_bipush F dX6_undo_29 (by decide) ?_
    refine z_irem F (by omega) (by omega) (by omega) (by omega) dX6_undo_31 ?_
    refine g_putI (ci := 6) (k := 14) F hH hS rfl (by decide) iX6 hx.1 (by decide) tyX6 tyX6_ok nmX6 rfl rfl rfl k160 dX6_undo_32 (fun H locs hH hS => ?_)
    obtain ⟨I_6, eI_6⟩ : ∃ qQ, qQ = gup2 I_3 x 14 (iI (((((I_3 x 14).toInt) + 8) - 1) % 8)) := ⟨_, rfl⟩
    rw [← eI_6] at hH
    have kI_6 : ∀ b, b ≠ x → I_6 b = I_3 b := fun b hb => by rw [eI_6]; exact funext fun j => gup2_a _ _ hb
    have w_7 : (I_6 x 14).toInt = ((((I_3 x 14).toInt) + 8) - 1) % 8 := by rw [eI_6, gup2_s]; exact iI_val ⟨by omega, by omega⟩
    have hv : gInv g gh R AR I_6 AI := by rw [eI_6]; exact gInv_x14 hv hx.1 (by omega) (by omega)
    have xf : xF g x I I_6 := xF_t xf (by rw [eI_6]; exact xF_k hx.1 (by decide))
    have w_7t : (I_6 x 1).toInt = (I x 1).toInt := by rw [xf.2]
    have w_7_15 : (I_6 x 15).toInt = (I_3 x 15).toInt := by rw [eI_6, gup2_k _ _ (by decide)]
    have w14 : (I_6 x 14).toInt = ((I x 14).toInt + 7) % 8 := by rw [eI_6, gup2_s, iI_val ⟨by omega, by omega⟩]; omega
    have w15 : (I_6 x 15).toInt = (I x 15).toInt - 1 := by rw [eI_6, gup2_k _ _ (by decide)]; exact v15
    have wx : ∀ b j, b ≠ x ∨ (j ≠ 14 ∧ j ≠ 15) → I_6 b j = I b j := fun b j h => by rw [eI_6]; rcases h with h | h; (· rw [gup2_a _ _ h]; exact vx b j (Or.inl h)); (· rw [gup2_k _ _ h.1]; exact vx b j (Or.inr h.2))
    have wo : ∀ b, b ≠ x → I_6 b = I b := fun b h => funext fun j => wx b j (Or.inl h)
    have eF0 : rfC gh AR I_6 AI bA = rfC gh AR I AI bA := funext fun r => by unfold rfC; rw [wx _ 3 (Or.inr (by decide))]
    have epA0 : I_6 pA = I pA := wo pA (gO_ne hx.2.2.1 hx.1 (by decide))
    have h8o := isRA_o h36g (r := (((I x 14).toInt + 7) % 8).toNat) (by omega)
    have h8n39 : (rob AR (gh 36 0) (((I x 14).toInt + 7) % 8).toNat) ≠ gh 39 0 := ra_ne1 h36g h39g.2.2.1 h39g.2.2.2 (Or.inr (by decide)) (by omega)
    have h8I : (I_6 (rob AR (gh 36 0) (((I x 14).toInt + 7) % 8).toNat) 3).toInt = (nb : Int) := by rw [wo _ (gO_ne h8o.2.1 hx.1 (by decide))]; exact hnb
    have hln9 : ∀ r, r < nr → lnC (I_6 (rob AR (gh 6 pA) r)) (AI (gh 3 (rob AR (gh 6 pA) r))) (cc r) := fun r hr => lnC_m (hln r hr) (funext fun j => wx _ j (Or.inl (fun e9 => by have q9 := gl_o hv hx.2.2.1 (show r < 16 by omega); rw [e9] at q9; exact gO_ne q9 hx.1 (by decide) rfl))) rfl
    refine lv_aload_n F.1 F.2.1 dX6_undo_35 rfl (lv_at hl 0 rfl) ?_
    refine lv_aload_n F.1 F.2.1 dX6_undo_36 rfl (lv_at hl 0 rfl) ?_
    obtain ⟨r_8a, r_8b⟩ := gR_x13 hv hx.1
    refine g_getR (ci := 6) (k := 13) F hH rfl (by decide) iX6 hx.1 (by decide) rfl (b := gh 36 0) r_8a k74 dX6_undo_37 ?_
    refine lv_aload_n F.1 F.2.1 dX6_undo_40 rfl (lv_at hl 0 rfl) ?_
    refine g_getI (ci := 6) (k := 14) F hH rfl (by decide) iX6 hx.1 (by decide) rfl k160 dX6_undo_41 ?_
    have b_9 := gI_x hv hx.1
    have hx44 : 0 ≤ ((I_6 x 14).toInt) ∧ ((I_6 x 14).toInt) < ((8 : Nat) : Int) ∧ ((I_6 x 14).toInt) ≤ 2147483647 := ⟨by omega, by omega, by omega⟩
    obtain ⟨y_10, y_10a, y_10b, y_10c, y_10d, y_10e⟩ := r_8b.2 (((I_6 x 14).toInt)).toNat (by omega)
    refine g_aldR F hH r_8b.1 hx44.1 hx44.2.1 hx44.2.2 (b := y_10) y_10a dX6_undo_44 ?_
    have e8 : y_10 = (rob AR (gh 36 0) (((I x 14).toInt + 7) % 8).toNat) := by rw [← w14]; exact (rob_e y_10a).symm
    refine z_iconst F dX6_undo_45 ?_
    obtain ⟨b_11a, b_11b, b_11c, b_11d, b_11e, b_11f, b_11g, b_11h⟩ := gI_rows hv y_10b
    refine g_calli (g_runV (As := [.ref y_10, .int (iI ((-1)))]) (rest := []) (ci := 6) F hl.1 hH hS hz (c_X6_reckonNextf l g gh pA bA nA nb nr cc cl I_6 R J AI AJ AR x y_10 (-1) ⟨by decide, by decide⟩ hv hx y_10b (by omega) (by rw [e8]; exact h8I) (by rw [e8]; exact hbt) (by rw [e8]; exact h8n39) (by rw [e8]; exact h8o.2.2.1) (by rw [epA0]; exact hlen) (by rw [epA0]; exact htb2) hln9 (by rw [epA0]; exact hcK) (by rw [eF0]; exact hbg) (by rw [e8]; exact hbz) (by rw [e8, epA0]; exact htb) hD.2.1 hD.2.2.1 (by rw [e8]; exact fun r hr => ra_ne hnn h36g (Or.inl (by decide)) hr (by omega))) (cwV 2 F.2.2.2.2.1 gX6_undo_X6_reckonNext rfl rfl rfl hdX6_reckonNext ⟨Nat.le_of_ble_eq_true rfl, Nat.le_of_ble_eq_true rfl⟩) hx.1 (by decide) rfl rfl rfl (Nat.le_of_ble_eq_true rfl) dX6_undo_46 ⟨Nat.zero_le _, Nat.zero_le _⟩) hS (fun v_18 I_12 R_13 J_14 AI_15 AJ_16 AR_17 H locs zv_18 hp_19 hH hS => ?_)
    dsimp only at hp_19
    obtain ⟨rfl, rfl, rfl, rfl, hv, rfq, q_20, nIq, nAq, qrn, qst⟩ := hp_19
    have xf := xF_t xf (xF_rF hx.1 rfq)
    have u_21 : (I_12 x 1).toInt = (I x 1).toInt := by rw [xf.2]
    have u_21p : I_12 pA = I pA := xf.1 pA 2 hx.2.2.1 (by decide) (by decide)
    have u_21p1 : (I_12 pA 1).toInt = (I pA 1).toInt := by rw [u_21p]
    have u_21p2 : (I_12 pA 2).toInt = (I pA 2).toInt := by rw [u_21p]
    rw [eF0, e8, epA0] at qrn
    rw [eF0, e8, epA0] at qst
    obtain ⟨F9, hok9⟩ := hok
    have hz0 := (rnP_u (cLt_of hcK) hok9 qrn).1
    rw [← hz0] at qrn qst
    have hst9 := qst rfl
    have hcs := cmS_n hv hx hD nIq nAq
    have hbg9 : ∀ r, r < nr → bgOK (rfC gh AR I_12 AI_15 bA) cl r := fun r hr => by have q9 := hbg r hr; unfold bgOK at q9 ⊢; rw [hcs.1 r (by omega), eF0]; exact q9
    have epA : I_12 pA = I pA := (nIq pA (gO_ne hx.2.2.1 h39g.2.1 (by decide)) (fun r hr => (gO_ne hx.2.2.1 (isRA_o hnn hr).2.1 (by decide)).symm)).trans epA0
    refine lv_pop F.1 F.2.1 dX6_undo_49 rfl ?_
    refine lv_aload_n F.1 F.2.1 dX6_undo_50 rfl (lv_at hl 0 rfl) ?_
    have b_22 := gI_x hv hx.1
    refine g_callv (g_runV (As := []) (rest := []) (ci := 6) F hl.1 hH hS hz (c_X6_takeNextf l g gh pA bA nA nr cl I_12 R J AI_15 AJ AR x hv hx (by rw [epA]; exact hlen) (by omega) hbg9 (fun r hr => (hst9 r hr).2) hD.2.2.2.1) (cwV 0 F.2.2.2.2.1 gX6_undo_X6_takeNext rfl rfl rfl hdX6_takeNext ⟨Nat.le_of_ble_eq_true rfl, Nat.le_of_ble_eq_true rfl⟩) hx.1 (by decide) rfl rfl rfl (Nat.le_of_ble_eq_true rfl) dX6_undo_51 ⟨Nat.zero_le _, Nat.zero_le _⟩) hS (fun I_23 R_24 J_25 AI_26 AJ_27 AR_28 H locs hp_29 hH hS => ?_)
    dsimp only at hp_29
    obtain ⟨rfl, rfl, rfl, hv, rfq, xs2, rk, tIq, tAq, tMq⟩ := hp_29
    have xf := xF_t xf (xF_rF hx.1 rfq)
    have u_30 : (I_23 x 1).toInt = (I x 1).toInt := by rw [xf.2]
    have u_30p : I_23 pA = I pA := xf.1 pA 2 hx.2.2.1 (by decide) (by decide)
    have u_30p1 : (I_23 pA 1).toInt = (I pA 1).toInt := by rw [u_30p]
    have u_30p2 : (I_23 pA 2).toInt = (I pA 2).toInt := by rw [u_30p]
    have hx := xs2
    refine lv_aload_n F.1 F.2.1 dX6_undo_54 rfl (lv_at hl 0 rfl) ?_
    refine g_getI (ci := 6) (k := 15) F hH rfl (by decide) iX6 hx.1 (by decide) rfl k100 dX6_undo_55 ?_
    have b_31 := gI_x hv hx.1
    exact g_iret F hr hlk hH hS hz (zr_t _) ⟨rfl, rfl, rfl, hv, xf, ⟨_, _, hx⟩, rk, by first | omega | rfl | (dsimp only; omega), Or.inr ⟨by omega, by (try dsimp only); have q9 := un_15 hv00 hx0 nIq tIq; omega, hx, _, qrn, un_yes hv00 hx0 hD (by omega) wx w14 w15 nIq nAq tIq tAq tMq⟩⟩ dX6_undo_58
  · refine z_iconst F dX6_undo_7 ?_
    exact g_iret F hr hlk hH hS hz ⟨by decide, by decide⟩ ⟨rfl, rfl, rfl, hv, xf, ⟨_, _, hx⟩, fun _ _ _ => rfl, by first | omega | rfl | (dsimp only; omega), Or.inl ⟨by omega, rfl, rfl, rfl, rfl⟩⟩ dX6_undo_8
