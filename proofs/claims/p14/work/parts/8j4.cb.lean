section
def rmX6_commitg : Room := { frames := 7, cells := 0, slots := 0, locals := 214 }
set_option maxHeartbeats 4000000 in
set_option maxRecDepth 100000 in
/-- commit -/
theorem c_X6_commitg (l : Launch) (g : gG) (gh : gGh) (pA bA nA : Nat) (nb nr : Nat) (cc : Nat → LC) (cl : Nat → Int) (I : gI) (R : gR) (J : gJ) (AI : gI) (AJ : gJ) (AR : gR) (x : Nat) (hv : gInv g gh R AR I AI) (hx : xS g gh R AR x pA bA nA) (h37 : gh 42 0 ≠ 1) (hnb : (I (gh 37 0) 3).toInt = (nb : Int)) (hbt : btO (AI (gh 0 (gh 37 0))) nb) (hlen : (I pA 1).toInt = (nr : Int)) (htb2 : 0 ≤ (I pA 2).toInt ∧ (I pA 2).toInt ≤ (nr : Int) ∧ nr ≤ 16) (hln : ∀ r, r < nr → lnC (I (rob AR (gh 6 pA) r)) (AI (gh 3 (rob AR (gh 6 pA) r))) (cc r)) (hcK : ∀ r : Nat, r < nr → (I pA 2).toInt ≤ (r : Int) → cOK (cc r) r cl ∧ cZ (cc r) r cl) (hbg : ∀ r, r < nr → bgOK (rfC gh AR I AI bA) cl r) (hbz : btZ cl (AI (gh 0 (gh 37 0))) nb) (htb : ∀ i, i < nb → 0 ≤ ((AI (gh 0 (gh 37 0))) (6 * i)).toInt ∧ ((AI (gh 0 (gh 37 0))) (6 * i)).toInt < (I pA 2).toInt) (hD : xD gh AR bA nA) : gMet l g yX6_commit wsX6_commit rmX6_commitg [.ref x] (I, R, J, AI, AJ, AR) (gQi g (fun (z : Int) (w : gS) => J = w.2.2.1 ∧ AJ = w.2.2.2.2.1 ∧ AR = w.2.2.2.2.2 ∧ (gInv g gh (w.2.1) AR (w.1) (w.2.2.2.1)) ∧ (xF g x I (w.1)) ∧ (∃ b1 n1, xS g gh (w.2.1) AR x pA b1 n1) ∧ (∀ b k, b ≠ x ∨ (k ≠ 5 ∧ k ≠ 6) → (w.2.1) b k = R b k) ∧ (((w.1) (gh 37 0) 3).toInt = 0) ∧ (∃ (code : Int) (Fn : RF), rnP (I pA 2).toInt nr cc (∃ i, i < nb ∧ blw (AI (gh 0 (gh 37 0))) (rfC gh AR I AI bA) 1 i) (tbS (AI (gh 0 (gh 37 0))) nb (rfC gh AR I AI bA) 1) code Fn ∧ (code = 0 → stA (I pA 2).toInt cc (tbS (AI (gh 0 (gh 37 0))) nb (rfC gh AR I AI bA) 1) cl Fn nr) ∧ ((code ≠ 0 ∧ z = code ∧ xS g gh (w.2.1) AR x pA bA nA ∧ cmS gh AR x bA I AI (w.1) (w.2.2.2.1) ∧ (w.1) x 14 = I x 14 ∧ (w.1) x 15 = I x 15 ∧ (w.1) x 16 = I x 16 ∧ (w.1) x 17 = I x 17 + 1) ∨ (code = 0 ∧ xS g gh (w.2.1) AR x pA nA bA ∧ cmY gh AR x bA nA nr (I pA 2).toInt I AI nb Fn z (w.1) (w.2.2.2.1)))) ∧ ((w.1) (gh 38 0) 3 = I (gh 38 0) 3) ∧ (∀ y, gO g y 0 → (w.2.2.2.1) (gh 3 y) = AI (gh 3 y)))) := by
  refine gStart (cc := cX6_commit) (maxL := 2) (ret := (some (.int))) (by decide) rfl (Nat.le_of_ble_eq_true rfl) ?_
  intro p e s m below meth c ls F hr hlk hH hz hS hl
  have hl : lv_has ls 2 [(0, .ref x)] := hl
  have hS : va_S (gA g) s.heap s.heap [] := hS
  obtain ⟨H, hHe⟩ : ∃ H : Heap, H = s.heap := ⟨_, rfl⟩
  obtain ⟨locs, hlo⟩ : ∃ k : List Loc, k = [] := ⟨_, rfl⟩
  have hH : gH g I R J AI AJ AR H := by rw [hHe]; exact hH
  have hS : va_S (gA g) s.heap H locs := by rw [hHe, hlo]; exact hS
  suffices hw : W p l e rmX6_commitg s m ([.ref x] : List Value).toArray below meth c H locs 0 0 (MQ below (gQi g (fun (z : Int) (w : gS) => J = w.2.2.1 ∧ AJ = w.2.2.2.2.1 ∧ AR = w.2.2.2.2.2 ∧ (gInv g gh (w.2.1) AR (w.1) (w.2.2.2.1)) ∧ (xF g x I (w.1)) ∧ (∃ b1 n1, xS g gh (w.2.1) AR x pA b1 n1) ∧ (∀ b k, b ≠ x ∨ (k ≠ 5 ∧ k ≠ 6) → (w.2.1) b k = R b k) ∧ (((w.1) (gh 37 0) 3).toInt = 0) ∧ (∃ (code : Int) (Fn : RF), rnP (I pA 2).toInt nr cc (∃ i, i < nb ∧ blw (AI (gh 0 (gh 37 0))) (rfC gh AR I AI bA) 1 i) (tbS (AI (gh 0 (gh 37 0))) nb (rfC gh AR I AI bA) 1) code Fn ∧ (code = 0 → stA (I pA 2).toInt cc (tbS (AI (gh 0 (gh 37 0))) nb (rfC gh AR I AI bA) 1) cl Fn nr) ∧ ((code ≠ 0 ∧ z = code ∧ xS g gh (w.2.1) AR x pA bA nA ∧ cmS gh AR x bA I AI (w.1) (w.2.2.2.1) ∧ (w.1) x 14 = I x 14 ∧ (w.1) x 15 = I x 15 ∧ (w.1) x 16 = I x 16 ∧ (w.1) x 17 = I x 17 + 1) ∨ (code = 0 ∧ xS g gh (w.2.1) AR x pA nA bA ∧ cmY gh AR x bA nA nr (I pA 2).toInt I AI nb Fn z (w.1) (w.2.2.2.1)))) ∧ ((w.1) (gh 38 0) 3 = I (gh 38 0) 3) ∧ (∀ y, gO g y 0 → (w.2.2.2.1) (gh 3 y) = AI (gh 3 y)))) ([.ref x] : List Value).toArray s 0 0 (gA g)) (F0 m 0 ls []) by
    rw [hHe, hlo] at hw; exact hw
  clear hHe hlo
  have xf : xF g x I I := xF_r
  have h37g := gR_x8 hv hx.1
  have h39g := gR_x10 hv hx.1
  have h38g := gR_x9 hv hx.1
  have h16g := gI_x hv hx.1
  have hc39 : gh 37 0 ≠ gh 39 0 := fun e9 => by have q9 := h37g.2.2.2; rw [e9, h39g.2.2.2] at q9; exact absurd q9 (by decide)
  have hnn := hx.2.2.2.2.2.2
  have h35g := (gR_x7 hv hx.1).2
  have h36g := (gR_x13 hv hx.1).2
  have hx0 := hx
  have hv00 := hv
  have fLN : ∀ y, gO g y 0 → AI (gh 3 y) = AI (gh 3 y) := fun _ _ => rfl
  have iX6 : ∀ w ∈ u_ws RX6 TX6 18, w ∈ wsX6_commit := (by decide +kernel)
  have iX4 : ∀ w ∈ u_ws RX4 TX4 4, w ∈ wsX6_commit := (by decide +kernel)
  have k53 : Cond.fieldLink RX6 53 (TX6 8).1 (TX6 8).2.1 (TX6 8).2.2.1 ∈ wsX6_commit := List.mem_of_getElem? (i := 1) rfl
  have k103 : Cond.fieldLink RX6 103 (TX6 16).1 (TX6 16).2.1 (TX6 16).2.2.1 ∈ wsX6_commit := List.mem_of_getElem? (i := 2) rfl
  have k106 : Cond.fieldLink RX6 106 (TX6 17).1 (TX6 17).2.1 (TX6 17).2.2.1 ∈ wsX6_commit := List.mem_of_getElem? (i := 3) rfl
  have k99 : Cond.fieldLink RX6 99 (TX4 3).1 (TX4 3).2.1 (TX4 3).2.2.1 ∈ wsX6_commit := List.mem_of_getElem? (i := 4) rfl
  refine lv_aload_n F.1 F.2.1 dX6_commit_0 rfl (lv_at hl 0 rfl) ?_
  refine lv_aload_n F.1 F.2.1 dX6_commit_1 rfl (lv_at hl 0 rfl) ?_
  obtain ⟨r_1a, r_1b, r_1c, r_1d⟩ := gR_x8 hv hx.1
  refine g_getR (ci := 6) (k := 8) F hH rfl (by decide) iX6 hx.1 (by decide) rfl (b := gh 37 0) r_1a k53 dX6_commit_2 ?_
  refine z_iconst F dX6_commit_5 ?_
  have b_2 := gI_x hv hx.1
  obtain ⟨b_3a, b_3b, b_3c, b_3d, b_3e, b_3f, b_3g, b_3h⟩ := gI_rows hv r_1b
  refine g_calli (g_runV (As := [.ref (gh 37 0), .int (iI 1)]) (rest := []) (ci := 6) F hl.1 hH hS hz (c_X6_reckonNextf l g gh pA bA nA nb nr cc cl I R J AI AJ AR x (gh 37 0) 1 ⟨by decide, by decide⟩ hv hx r_1b (by omega) hnb hbt hc39 h37g.2.2.1 (by omega) (by omega) hln hcK hbg hbz htb hD.2.1 hD.2.2.1 (fun r hr => isRA_37 hnn hr)) (cwV 2 F.2.2.2.2.1 gX6_commit_X6_reckonNext rfl rfl rfl hdX6_reckonNext ⟨Nat.le_of_ble_eq_true rfl, Nat.le_of_ble_eq_true rfl⟩) hx.1 (by decide) rfl rfl rfl (Nat.le_of_ble_eq_true rfl) dX6_commit_6 ⟨Nat.zero_le _, Nat.zero_le _⟩) hS (fun v_10 I_4 R_5 J_6 AI_7 AJ_8 AR_9 H locs zv_10 hp_11 hH hS => ?_)
  dsimp only at hp_11
  obtain ⟨rfl, rfl, rfl, rfl, hv, rfq, q_12, nIq, nAq, qrn, qst⟩ := hp_11
  have xf := xF_t xf (xF_rF hx.1 rfq)
  have u_13 : (I_4 x 1).toInt = (I x 1).toInt := by rw [xf.2]
  have u_13p : I_4 pA = I pA := xf.1 pA 2 hx.2.2.1 (by decide) (by decide)
  have u_13p1 : (I_4 pA 1).toInt = (I pA 1).toInt := by rw [u_13p]
  have u_13p2 : (I_4 pA 2).toInt = (I pA 2).toInt := by rw [u_13p]
  have fLN : ∀ y, gO g y 0 → AI_7 (gh 3 y) = AI (gh 3 y) := fun y hy => (nAf_ln nAq hv00 hx0.1 hy hnn).trans (fLN y hy)
  have e37I : I_4 (gh 37 0) = I (gh 37 0) := nIq _ hc39 (fun r hr => isRA_37 hnn hr)
  have e37A : AI_7 (gh 0 (gh 37 0)) = (AI (gh 0 (gh 37 0))) := nAf_o nAq hv hx.1 h37g.2.1 hnn hc39 (fun r hr => isRA_37 hnn hr)
  have eX : I_4 x = I x := nIq x (gO_ne hx.1 h39g.2.1 (by decide)) (fun r hr => (gO_ne hx.1 (isRA_o hnn hr).2.1 (by decide)).symm)
  have epA : I_4 pA = I pA := nIq pA (gO_ne hx.2.2.1 h39g.2.1 (by decide)) (fun r hr => (gO_ne hx.2.2.1 (isRA_o hnn hr).2.1 (by decide)).symm)
  have hnb1 : (I_4 (gh 37 0) 3).toInt = (nb : Int) := by rw [e37I]; exact hnb
  have hcs := cmS_n hv hx hD nIq nAq
  refine lv_istore_n (lv' := [(1, .int (iI v_10)), (0, .ref x)]) F.1 F.2.1 dX6_commit_9 rfl hl (by decide) rfl (fun ls hl => ?_)
  refine lv_iload_n F.1 F.2.1 dX6_commit_10 rfl (lv_at hl 0 rfl) ?_
  refine z_if_ne (tgt := 44) F dX6_commit_11 (by decide) zv_10 (fun c_14 => ?_) (fun c_14 => ?_)
  · refine lv_aload_n F.1 F.2.1 dX6_commit_44 rfl (lv_at hl 1 rfl) ?_
    refine lv_dup F.1 F.2.1 dX6_commit_45 rfl ?_
    refine g_getI (ci := 6) (k := 17) F hH rfl (by decide) iX6 hx.1 (by decide) rfl k106 dX6_commit_46 ?_
    refine z_iconst F dX6_commit_49 ?_
    refine z_iadd F dX6_commit_50 ?_
    refine z_norm (fun v_15 zv_15 ev_15 => ?_)
    refine g_putI (ci := 6) (k := 17) F hH hS rfl (by decide) iX6 hx.1 (by decide) tyX6 tyX6_ok nmX6 rfl rfl rfl k106 dX6_commit_51 (fun H locs hH hS => ?_)
    obtain ⟨I_16, eI_16⟩ : ∃ qQ, qQ = gup2 I_4 x 17 (iI (v_15)) := ⟨_, rfl⟩
    rw [← eI_16] at hH
    have kI_16 : ∀ b, b ≠ x → I_16 b = I_4 b := fun b hb => by rw [eI_16]; exact funext fun j => gup2_a _ _ hb
    have hv : gInv g gh R AR I_16 AI_7 := by rw [eI_16]; exact gInv_x17 hv hx.1
    have xf : xF g x I I_16 := xF_t xf (by rw [eI_16]; exact xF_k hx.1 (by decide))
    have w_17t : (I_16 x 1).toInt = (I x 1).toInt := by rw [xf.2]
    have w_17_14 : (I_16 x 14).toInt = (I_4 x 14).toInt := by rw [eI_16, gup2_k _ _ (by decide)]
    have w_17_15 : (I_16 x 15).toInt = (I_4 x 15).toInt := by rw [eI_16, gup2_k _ _ (by decide)]
    have f3 : ∀ b j, b ≠ x ∨ j ≠ 17 → I_16 b j = I_4 b j := fun b j h => by rw [eI_16]; rcases h with h | h; (· exact gup2_a _ _ h); (· exact gup2_k _ _ h)
    have f4 : I_16 x 17 = I_4 x 17 + 1 := by rw [eI_16, gup2_s, ev_15, ← iI_add, iI_self]; rfl
    refine lv_aload_n F.1 F.2.1 dX6_commit_54 rfl (lv_at hl 1 rfl) ?_
    refine g_getR (ci := 6) (k := 8) F hH rfl (by decide) iX6 hx.1 (by decide) rfl (b := gh 37 0) r_1a k53 dX6_commit_55 ?_
    refine z_iconst F dX6_commit_58 ?_
    refine g_putI (ci := 4) (k := 3) F hH hS rfl (by decide) iX4 r_1b (by decide) tyX4 tyX4_ok nmX4 rfl rfl rfl k99 dX6_commit_59 (fun H locs hH hS => ?_)
    obtain ⟨I_18, eI_18⟩ : ∃ qQ, qQ = gup2 I_16 (gh 37 0) 3 (iI (0)) := ⟨_, rfl⟩
    rw [← eI_18] at hH
    have kI_18 : ∀ b, b ≠ (gh 37 0) → I_18 b = I_16 b := fun b hb => by rw [eI_18]; exact funext fun j => gup2_a _ _ hb
    have w_19 : (I_18 (gh 37 0) 3).toInt = 0 := by rw [eI_18, gup2_s]; exact iI_val ⟨by omega, by omega⟩
    have hv : gInv g gh R AR I_18 AI_7 := by rw [eI_18]; exact gInv_len hv r_1b (by omega) (by omega) (by first | exact hfz | omega)
    have xf : xF g x I I_18 := xF_t xf (xF_rF hx.1 (rF_o r_1b kI_18))
    have w_20x : (I_18 x 1).toInt = (I x 1).toInt := by rw [xf.2]
    have b5 : ∀ b j, b ≠ gh 37 0 ∨ j ≠ 3 → I_18 b j = I_16 b j := fun b j h => by rw [eI_18]; rcases h with h | h; (· exact gup2_a _ _ h); (· exact gup2_k _ _ h)
    have hcm := cm_no hv00 hx0 hD nIq nAq f3 f4 b5
    refine lv_iload_n F.1 F.2.1 dX6_commit_62 rfl (lv_at hl 0 rfl) ?_
    exact g_iret F hr hlk hH hS hz zv_10 ⟨rfl, rfl, rfl, hv, xf, ⟨_, _, hx⟩, fun _ _ _ => rfl, by first | omega | rfl | (dsimp only; omega), ⟨_, (rfC gh AR I_4 AI_7 nA), qrn, qst, Or.inl ⟨by omega, rfl, hx, hcm⟩⟩, by (try dsimp only); rw [b5 _ 3 (Or.inl hD.2.2.2.2.2.2.1.symm), f3 _ 3 (Or.inl (gO_ne h38g.2.1 hx0.1 (by decide))), nIq _ (fun e9 => by have q9 := h38g.2.2.2; rw [e9, h39g.2.2.2] at q9; exact absurd q9 (by decide)) (fun r hr => ra_ne1 hnn h38g.2.2.1 h38g.2.2.2 (Or.inr (by decide)) hr)], fLN⟩ dX6_commit_63
  · refine lv_aload_n F.1 F.2.1 dX6_commit_14 rfl (lv_at hl 1 rfl) ?_
    refine lv_aload_n F.1 F.2.1 dX6_commit_15 rfl (lv_at hl 1 rfl) ?_
    refine g_getR (ci := 6) (k := 8) F hH rfl (by decide) iX6 hx.1 (by decide) rfl (b := gh 37 0) r_1a k53 dX6_commit_16 ?_
    have b_21 := gI_x hv hx.1
    obtain ⟨b_22a, b_22b, b_22c, b_22d, b_22e, b_22f, b_22g, b_22h⟩ := gI_rows hv r_1b
    refine g_callv (g_runV (As := [.ref (gh 37 0)]) (rest := []) (ci := 6) F hl.1 hH hS hz (c_X6_rememberf l g gh pA bA nA nb I_4 R J AI_7 AJ AR x (gh 37 0) hv hx r_1b (by omega) hnb1 (by have q9 := (gI_rows hv h37g.2.1).2.2.2.1; rw [h37g.2.2.1, hnb1] at q9; omega)) (cwV 1 F.2.2.2.2.1 gX6_commit_X6_remember rfl rfl rfl hdX6_remember ⟨Nat.le_of_ble_eq_true rfl, Nat.le_of_ble_eq_true rfl⟩) hx.1 (by decide) rfl rfl rfl (Nat.le_of_ble_eq_true rfl) dX6_commit_19 ⟨Nat.zero_le _, Nat.zero_le _⟩) hS (fun I_23 R_24 J_25 AI_26 AJ_27 AR_28 H locs hp_29 hH hS => ?_)
    dsimp only at hp_29
    obtain ⟨rfl, rfl, rfl, rfl, hv, xfq, qR1, qR2, qR3, qR4⟩ := hp_29
    have xf := xF_t xf xfq
    have u_30 : (I_23 x 1).toInt = (I x 1).toInt := by rw [xf.2]
    have u_30p : I_23 pA = I pA := xf.1 pA 2 hx.2.2.1 (by decide) (by decide)
    have u_30p1 : (I_23 pA 1).toInt = (I pA 1).toInt := by rw [u_30p]
    have u_30p2 : (I_23 pA 2).toInt = (I pA 2).toInt := by rw [u_30p]
    have fLN : ∀ y, gO g y 0 → AI_26 (gh 3 y) = AI (gh 3 y) := fun y hy => (qR2 _ (ne_9 (ln_9 hv00 hy) (cells_9 hv00 (isRA_o h36g (show (I_4 x 14).toInt.toNat < 8 by rw [eX]; omega)).2.1) (by decide))).trans (fLN y hy)
    refine lv_aload_n F.1 F.2.1 dX6_commit_22 rfl (lv_at hl 1 rfl) ?_
    refine lv_dup F.1 F.2.1 dX6_commit_23 rfl ?_
    refine g_getI (ci := 6) (k := 16) F hH rfl (by decide) iX6 hx.1 (by decide) rfl k103 dX6_commit_24 ?_
    refine z_iconst F dX6_commit_27 ?_
    refine z_iadd F dX6_commit_28 ?_
    refine z_norm (fun v_31 zv_31 ev_31 => ?_)
    refine g_putI (ci := 6) (k := 16) F hH hS rfl (by decide) iX6 hx.1 (by decide) tyX6 tyX6_ok nmX6 rfl rfl rfl k103 dX6_commit_29 (fun H locs hH hS => ?_)
    obtain ⟨I_32, eI_32⟩ : ∃ qQ, qQ = gup2 I_23 x 16 (iI (v_31)) := ⟨_, rfl⟩
    rw [← eI_32] at hH
    have kI_32 : ∀ b, b ≠ x → I_32 b = I_23 b := fun b hb => by rw [eI_32]; exact funext fun j => gup2_a _ _ hb
    have hv : gInv g gh R AR I_32 AI_26 := by rw [eI_32]; exact gInv_x16 hv hx.1
    have xf : xF g x I I_32 := xF_t xf (by rw [eI_32]; exact xF_k hx.1 (by decide))
    have w_33t : (I_32 x 1).toInt = (I x 1).toInt := by rw [xf.2]
    have w_33_14 : (I_32 x 14).toInt = (I_23 x 14).toInt := by rw [eI_32, gup2_k _ _ (by decide)]
    have w_33_15 : (I_32 x 15).toInt = (I_23 x 15).toInt := by rw [eI_32, gup2_k _ _ (by decide)]
    have d3 : ∀ b j, b ≠ x ∨ j ≠ 16 → I_32 b j = I_23 b j := fun b j h => by rw [eI_32]; rcases h with h | h; (· exact gup2_a _ _ h); (· exact gup2_k _ _ h)
    have d4 : I_32 x 16 = I_23 x 16 + 1 := by rw [eI_32, gup2_s, ev_31, ← iI_add, iI_self]; rfl
    have stb : ∀ r, r < 16 → rfC gh AR I_32 AI_26 bA r = rfC gh AR I_4 AI_7 bA r := fun r hr => by
      have o := isRA_o hx.2.2.2.2.1 hr
      have nh : rob AR bA r ≠ rob AR (gh 36 0) (I_4 x 14).toInt.toNat := ra_ne hx.2.2.2.2.1 h36g (Or.inr (by decide)) hr (by rw [eX]; omega)
      have nx : rob AR bA r ≠ x := gO_ne o.2.1 hx.1 (by decide)
      unfold rfC; rw [d3 _ 3 (Or.inl nx), qR1 _ 3 (Or.inl nx) nh, qR2 _ (cells_ne hv (isRA_o h36g (by rw [eX]; omega)).2.1 o.2.1 nh)]
    have stn : ∀ r, r < 16 → rfC gh AR I_32 AI_26 nA r = rfC gh AR I_4 AI_7 nA r := fun r hr => by
      have o := isRA_o hnn hr
      have nh : rob AR nA r ≠ rob AR (gh 36 0) (I_4 x 14).toInt.toNat := ra_ne hnn h36g (Or.inr (by decide)) hr (by rw [eX]; omega)
      have nx : rob AR nA r ≠ x := gO_ne o.2.1 hx.1 (by decide)
      unfold rfC; rw [d3 _ 3 (Or.inl nx), qR1 _ 3 (Or.inl nx) nh, qR2 _ (cells_ne hv (isRA_o h36g (by rw [eX]; omega)).2.1 o.2.1 nh)]
    have hst9 := qst (by omega)
    have hbg9 : ∀ r, r < nr → bgOK (rfC gh AR I_32 AI_26 bA) cl r := fun r hr => by have q9 := hbg r hr; unfold bgOK at q9 ⊢; rw [stb r (by omega), hcs.1 r (by omega)]; exact q9
    have hbn9 : ∀ r, r < nr → bgOK (rfC gh AR I_32 AI_26 nA) cl r := fun r hr => by have q9 := (hst9 r hr).2; unfold bgOK at q9 ⊢; rw [stn r (by omega)]; exact q9
    have hp3 : (I_32 pA 1).toInt = (nr : Int) := by
      rw [d3 pA 1 (Or.inl (gO_ne hx.2.2.1 hx.1 (by decide))), qR1 pA 1 (Or.inl (gO_ne hx.2.2.1 hx.1 (by decide))) (gO_ne hx.2.2.1 (isRA_o h36g (by rw [eX]; omega)).2.1 (by decide)), epA]; exact hlen
    refine lv_aload_n F.1 F.2.1 dX6_commit_32 rfl (lv_at hl 1 rfl) ?_
    have b_34 := gI_x hv hx.1
    refine g_callv (g_runV (As := []) (rest := []) (ci := 6) F hl.1 hH hS hz (c_X6_takeNextf l g gh pA bA nA nr cl I_32 R J AI_26 AJ AR x hv hx hp3 (by omega) hbg9 hbn9 hD.2.2.2.1) (cwV 0 F.2.2.2.2.1 gX6_commit_X6_takeNext rfl rfl rfl hdX6_takeNext ⟨Nat.le_of_ble_eq_true rfl, Nat.le_of_ble_eq_true rfl⟩) hx.1 (by decide) rfl rfl rfl (Nat.le_of_ble_eq_true rfl) dX6_commit_33 ⟨Nat.zero_le _, Nat.zero_le _⟩) hS (fun I_35 R_36 J_37 AI_38 AJ_39 AR_40 H locs hp_41 hH hS => ?_)
    dsimp only at hp_41
    obtain ⟨rfl, rfl, rfl, hv, rfq, xs2, rk, tIq, tAq, tMq⟩ := hp_41
    have xf := xF_t xf (xF_rF hx.1 rfq)
    have u_42 : (I_35 x 1).toInt = (I x 1).toInt := by rw [xf.2]
    have u_42p : I_35 pA = I pA := xf.1 pA 2 hx.2.2.1 (by decide) (by decide)
    have u_42p1 : (I_35 pA 1).toInt = (I pA 1).toInt := by rw [u_42p]
    have u_42p2 : (I_35 pA 2).toInt = (I pA 2).toInt := by rw [u_42p]
    have fLN : ∀ y, gO g y 0 → AI_38 (gh 3 y) = AI (gh 3 y) := fun y hy => (tAq _ (fun r hr => ne_9 (cells_9 hv00 (isRA_o h35g hr).2.1) (ln_9 hv00 hy) (by decide))).trans (fLN y hy)
    have hx := xs2
    have epA4 : I_35 pA = I pA := by
      have o2 := hx0.2.2.1
      rw [tIq pA (fun r hr => gO_ne (isRA_o h35g hr).2.1 o2 (by decide))]
      funext j
      rw [d3 pA j (Or.inl (gO_ne o2 hx0.1 (by decide))), qR1 pA j (Or.inl (gO_ne o2 hx0.1 (by decide))) (gO_ne o2 (isRA_o h36g (by rw [eX]; omega)).2.1 (by decide)), epA]
    refine lv_aload_n F.1 F.2.1 dX6_commit_36 rfl (lv_at hl 1 rfl) ?_
    have b_43 := gI_x hv hx.1
    refine g_calli (g_runV (As := []) (rest := []) (ci := 6) F hl.1 hH hS hz (c_X6_movedInViewsf l g gh pA nA bA nr I_35 R_36 J AI_38 AJ AR x hv hx (by rw [epA4]; exact hlen) (by rw [epA4]; exact htb2)) (cwV 0 F.2.2.2.2.1 gX6_commit_X6_movedInViews rfl rfl rfl hdX6_movedInViews ⟨Nat.le_of_ble_eq_true rfl, Nat.le_of_ble_eq_true rfl⟩) hx.1 (by decide) rfl rfl rfl (Nat.le_of_ble_eq_true rfl) dX6_commit_37 ⟨Nat.zero_le _, Nat.zero_le _⟩) hS (fun v_50 I_44 R_45 J_46 AI_47 AJ_48 AR_49 H locs zv_50 hp_51 hH hS => ?_)
    dsimp only at hp_51
    obtain ⟨rfl, rfl, rfl, rfl, rfl, rfl, q_52, qsm⟩ := hp_51
    refine lv_istore_n (lv' := [(1, .int (iI v_50)), (0, .ref x)]) F.1 F.2.1 dX6_commit_40 rfl hl (by decide) rfl (fun ls hl => ?_)
    refine z_goto (tgt := 54) F dX6_commit_41 (by decide) ?_
    refine lv_aload_n F.1 F.2.1 dX6_commit_54 rfl (lv_at hl 1 rfl) ?_
    obtain ⟨r_53a, r_53b, r_53c, r_53d⟩ := gR_x8 hv hx.1
    refine g_getR (ci := 6) (k := 8) F hH rfl (by decide) iX6 hx.1 (by decide) rfl (b := gh 37 0) r_53a k53 dX6_commit_55 ?_
    refine z_iconst F dX6_commit_58 ?_
    refine g_putI (ci := 4) (k := 3) F hH hS rfl (by decide) iX4 r_53b (by decide) tyX4 tyX4_ok nmX4 rfl rfl rfl k99 dX6_commit_59 (fun H locs hH hS => ?_)
    obtain ⟨I_54, eI_54⟩ : ∃ qQ, qQ = gup2 I_35 (gh 37 0) 3 (iI (0)) := ⟨_, rfl⟩
    rw [← eI_54] at hH
    have kI_54 : ∀ b, b ≠ (gh 37 0) → I_54 b = I_35 b := fun b hb => by rw [eI_54]; exact funext fun j => gup2_a _ _ hb
    have w_55 : (I_54 (gh 37 0) 3).toInt = 0 := by rw [eI_54, gup2_s]; exact iI_val ⟨by omega, by omega⟩
    have hv : gInv g gh R_36 AR I_54 AI_38 := by rw [eI_54]; exact gInv_len hv r_53b (by omega) (by omega) (by first | exact hfz | omega)
    have xf : xF g x I I_54 := xF_t xf (xF_rF hx.1 (rF_o r_53b kI_54))
    have w_56x : (I_54 x 1).toInt = (I x 1).toInt := by rw [xf.2]
    have b5 : ∀ b j, b ≠ gh 37 0 ∨ j ≠ 3 → I_54 b j = I_35 b j := fun b j h => by rw [eI_54]; rcases h with h | h; (· exact gup2_a _ _ h); (· exact gup2_k _ _ h)
    have hcm := cm_yes (tbs := (I pA 2).toInt) (nr := nr) (nb := nb) (z := v_50) hv00 hx0 hD ⟨h16g.2.2.1, h16g.2.2.2.1⟩ (by omega) nIq nAq qR1 qR2 qR3 qR4 d3 d4 tIq tAq tMq b5 (by rw [qsm, epA4])
    refine lv_iload_n F.1 F.2.1 dX6_commit_62 rfl (lv_at hl 0 rfl) ?_
    exact g_iret F hr hlk hH hS hz zv_50 ⟨rfl, rfl, rfl, hv, xf, ⟨_, _, hx⟩, rk, by first | omega | rfl | (dsimp only; omega), ⟨0, (rfC gh AR I_4 AI_7 nA), by rw [← show v_10 = 0 by omega]; exact qrn, fun _ => hst9, Or.inr ⟨rfl, hx, hcm⟩⟩, by (try dsimp only); rw [b5 _ 3 (Or.inl hD.2.2.2.2.2.2.1.symm), tIq _ (fun r hr => ra_ne1 h35g h38g.2.2.1 h38g.2.2.2 (Or.inr (by decide)) hr), d3 _ 3 (Or.inl (gO_ne h38g.2.1 hx0.1 (by decide))), qR1 _ 3 (Or.inl (gO_ne h38g.2.1 hx0.1 (by decide))) (fun e9 => hD.2.2.2.2.2.1 _ (by rw [eX]; omega) e9.symm), nIq _ (fun e9 => by have q9 := h38g.2.2.2; rw [e9, h39g.2.2.2] at q9; exact absurd q9 (by decide)) (fun r hr => ra_ne1 hnn h38g.2.2.1 h38g.2.2.2 (Or.inr (by decide)) hr)], fLN⟩ dX6_commit_63

def rmX6_wouldg : Room := { frames := 7, cells := 0, slots := 0, locals := 214 }
set_option maxHeartbeats 4000000 in
set_option maxRecDepth 100000 in
/-- would -/
theorem c_X6_wouldg (l : Launch) (g : gG) (gh : gGh) (pA bA nA : Nat) (nb nr : Nat) (cc : Nat → LC) (cl : Nat → Int) (I : gI) (R : gR) (J : gJ) (AI : gI) (AJ : gJ) (AR : gR) (x : Nat) (rel : Int) (zrel : zr rel) (hv : gInv g gh R AR I AI) (hx : xS g gh R AR x pA bA nA) (hnb : (I (gh 37 0) 3).toInt = (nb : Int)) (hbt : btO (AI (gh 0 (gh 37 0))) nb) (hlen : (I pA 1).toInt = (nr : Int)) (htb2 : 0 ≤ (I pA 2).toInt ∧ (I pA 2).toInt ≤ (nr : Int) ∧ nr ≤ 16) (hln : ∀ r, r < nr → lnC (I (rob AR (gh 6 pA) r)) (AI (gh 3 (rob AR (gh 6 pA) r))) (cc r)) (hcK : ∀ r : Nat, r < nr → (I pA 2).toInt ≤ (r : Int) → cOK (cc r) r cl ∧ cZ (cc r) r cl) (hbg : ∀ r, r < nr → bgOK (rfC gh AR I AI bA) cl r) (hbz : btZ cl (AI (gh 0 (gh 37 0))) nb) (htb : ∀ i, i < nb → 0 ≤ ((AI (gh 0 (gh 37 0))) (6 * i)).toInt ∧ ((AI (gh 0 (gh 37 0))) (6 * i)).toInt < (I pA 2).toInt) (hD : xD gh AR bA nA) : gMet l g yX6_would wsX6_would rmX6_wouldg [.ref x, .int (iI rel)] (I, R, J, AI, AJ, AR) (gQi g (fun (z : Int) (w : gS) => R = w.2.1 ∧ J = w.2.2.1 ∧ AJ = w.2.2.2.2.1 ∧ AR = w.2.2.2.2.2 ∧ (gInv g gh R AR (w.1) (w.2.2.2.1)) ∧ (rF g I (w.1)) ∧ (((rel < 0 ∨ (nr : Int) ≤ rel) ∧ z = -1) ∨ ((0 ≤ rel ∧ rel < (nr : Int)) ∧ ∃ (code : Int) (Fn : RF), rnP (I pA 2).toInt nr cc (∃ i, i < nb ∧ blw (AI (gh 0 (gh 37 0))) (rfC gh AR I AI bA) 1 i) (tbS (AI (gh 0 (gh 37 0))) nb (rfC gh AR I AI bA) 1) code Fn ∧ (code ≠ 0 → z = code) ∧ (code = 0 → z = (((Fn rel.toNat).1 : Nat) : Int)))) ∧ (cmS gh AR x bA I AI (w.1) (w.2.2.2.1) ∧ (w.1) x = I x ∧ (w.1) (gh 37 0) = I (gh 37 0) ∧ (w.2.2.2.1) (gh 0 (gh 37 0)) = AI (gh 0 (gh 37 0)) ∧ (w.1) (gh 38 0) = I (gh 38 0)) ∧ (∀ y, gO g y 0 → (w.2.2.2.1) (gh 3 y) = AI (gh 3 y)))) := by
  refine gStart (cc := cX6_would) (maxL := 3) (ret := (some (.int))) (by decide) rfl (Nat.le_of_ble_eq_true rfl) ?_
  intro p e s m below meth c ls F hr hlk hH hz hS hl
  have hl : lv_has ls 3 [(0, .ref x), (1, .int (iI rel))] := hl
  have hS : va_S (gA g) s.heap s.heap [] := hS
  obtain ⟨H, hHe⟩ : ∃ H : Heap, H = s.heap := ⟨_, rfl⟩
  obtain ⟨locs, hlo⟩ : ∃ k : List Loc, k = [] := ⟨_, rfl⟩
  have hH : gH g I R J AI AJ AR H := by rw [hHe]; exact hH
  have hS : va_S (gA g) s.heap H locs := by rw [hHe, hlo]; exact hS
  suffices hw : W p l e rmX6_wouldg s m ([.ref x, .int (iI rel)] : List Value).toArray below meth c H locs 0 0 (MQ below (gQi g (fun (z : Int) (w : gS) => R = w.2.1 ∧ J = w.2.2.1 ∧ AJ = w.2.2.2.2.1 ∧ AR = w.2.2.2.2.2 ∧ (gInv g gh R AR (w.1) (w.2.2.2.1)) ∧ (rF g I (w.1)) ∧ (((rel < 0 ∨ (nr : Int) ≤ rel) ∧ z = -1) ∨ ((0 ≤ rel ∧ rel < (nr : Int)) ∧ ∃ (code : Int) (Fn : RF), rnP (I pA 2).toInt nr cc (∃ i, i < nb ∧ blw (AI (gh 0 (gh 37 0))) (rfC gh AR I AI bA) 1 i) (tbS (AI (gh 0 (gh 37 0))) nb (rfC gh AR I AI bA) 1) code Fn ∧ (code ≠ 0 → z = code) ∧ (code = 0 → z = (((Fn rel.toNat).1 : Nat) : Int)))) ∧ (cmS gh AR x bA I AI (w.1) (w.2.2.2.1) ∧ (w.1) x = I x ∧ (w.1) (gh 37 0) = I (gh 37 0) ∧ (w.2.2.2.1) (gh 0 (gh 37 0)) = AI (gh 0 (gh 37 0)) ∧ (w.1) (gh 38 0) = I (gh 38 0)) ∧ (∀ y, gO g y 0 → (w.2.2.2.1) (gh 3 y) = AI (gh 3 y)))) ([.ref x, .int (iI rel)] : List Value).toArray s 0 0 (gA g)) (F0 m 0 ls []) by
    rw [hHe, hlo] at hw; exact hw
  clear hHe hlo
  have rf : rF g I I := rF_r
  have h37g := gR_x8 hv hx.1
  have h39g := gR_x10 hv hx.1
  have h38g := gR_x9 hv hx.1
  have h16g := gI_x hv hx.1
  have hc39 : gh 37 0 ≠ gh 39 0 := fun e9 => by have q9 := h37g.2.2.2; rw [e9, h39g.2.2.2] at q9; exact absurd q9 (by decide)
  have hnn := hx.2.2.2.2.2.2
  have h35g := (gR_x7 hv hx.1).2
  have h36g := (gR_x13 hv hx.1).2
  have hx0 := hx
  have hv00 := hv
  have fLN : ∀ y, gO g y 0 → AI (gh 3 y) = AI (gh 3 y) := fun _ _ => rfl
  have iX6 : ∀ w ∈ u_ws RX6 TX6 18, w ∈ wsX6_would := (by decide +kernel)
  have iX4 : ∀ w ∈ u_ws RX4 TX4 4, w ∈ wsX6_would := (by decide +kernel)
  have k53 : Cond.fieldLink RX6 53 (TX6 8).1 (TX6 8).2.1 (TX6 8).2.2.1 ∈ wsX6_would := List.mem_of_getElem? (i := 1) rfl
  have k42 : Cond.fieldLink RX6 42 (TX6 6).1 (TX6 6).2.1 (TX6 6).2.2.1 ∈ wsX6_would := List.mem_of_getElem? (i := 2) rfl
  have k99 : Cond.fieldLink RX6 99 (TX4 3).1 (TX4 3).2.1 (TX4 3).2.2.1 ∈ wsX6_would := List.mem_of_getElem? (i := 3) rfl
  refine lv_aload_n F.1 F.2.1 dX6_would_0 rfl (lv_at hl 0 rfl) ?_
  refine lv_iload_n F.1 F.2.1 dX6_would_1 rfl (lv_at hl 1 rfl) ?_
  have b_1 := gI_x hv hx.1
  refine g_calli (g_runV (As := [.int (iI rel)]) (rest := []) (ci := 6) F hl.1 hH hS hz (c_X6_isRelationf l g gh pA bA nA I R J AI AJ AR x rel zrel hv hx) (cwV 1 F.2.2.2.2.1 gX6_would_X6_isRelation rfl rfl rfl hdX6_isRelation ⟨Nat.le_of_ble_eq_true rfl, Nat.le_of_ble_eq_true rfl⟩) hx.1 (by decide) rfl rfl rfl (Nat.le_of_ble_eq_true rfl) dX6_would_2 ⟨Nat.zero_le _, Nat.zero_le _⟩) hS (fun v_8 I_2 R_3 J_4 AI_5 AJ_6 AR_7 H locs zv_8 hp_9 hH hS => ?_)
  dsimp only at hp_9
  obtain ⟨rfl, rfl, rfl, rfl, rfl, rfl, q_10, qir⟩ := hp_9
  refine z_if_ne (tgt := 10) F dX6_would_5 (by decide) zv_8 (fun c_11 => ?_) (fun c_11 => ?_)
  · refine lv_aload_n F.1 F.2.1 dX6_would_10 rfl (lv_at hl 0 rfl) ?_
    refine lv_aload_n F.1 F.2.1 dX6_would_11 rfl (lv_at hl 0 rfl) ?_
    obtain ⟨r_12a, r_12b, r_12c, r_12d⟩ := gR_x8 hv hx.1
    refine g_getR (ci := 6) (k := 8) F hH rfl (by decide) iX6 hx.1 (by decide) rfl (b := gh 37 0) r_12a k53 dX6_would_12 ?_
    refine z_iconst F dX6_would_15 ?_
    obtain ⟨b_13a, b_13b, b_13c, b_13d, b_13e, b_13f, b_13g, b_13h⟩ := gI_rows hv r_12b
    refine g_calli (g_runV (As := [.ref (gh 37 0), .int (iI 1)]) (rest := []) (ci := 6) F hl.1 hH hS hz (c_X6_reckonNextf l g gh pA bA nA nb nr cc cl I R J AI AJ AR x (gh 37 0) 1 ⟨by decide, by decide⟩ hv hx r_12b (by omega) hnb hbt hc39 h37g.2.2.1 (by omega) (by omega) hln hcK hbg hbz htb hD.2.1 hD.2.2.1 (fun r hr => isRA_37 hnn hr)) (cwV 2 F.2.2.2.2.1 gX6_would_X6_reckonNext rfl rfl rfl hdX6_reckonNext ⟨Nat.le_of_ble_eq_true rfl, Nat.le_of_ble_eq_true rfl⟩) hx.1 (by decide) rfl rfl rfl (Nat.le_of_ble_eq_true rfl) dX6_would_16 ⟨Nat.zero_le _, Nat.zero_le _⟩) hS (fun v_20 I_14 R_15 J_16 AI_17 AJ_18 AR_19 H locs zv_20 hp_21 hH hS => ?_)
    dsimp only at hp_21
    obtain ⟨rfl, rfl, rfl, rfl, hv, rfq, q_22, nIq, nAq, qrn, qst⟩ := hp_21
    have rf := rF_t rf rfq
    have u_23p : I_14 pA = I pA := rf pA 2 hx.2.2.1 (by decide)
    have u_23p1 : (I_14 pA 1).toInt = (I pA 1).toInt := by rw [u_23p]
    have u_23p2 : (I_14 pA 2).toInt = (I pA 2).toInt := by rw [u_23p]
    have fLN : ∀ y, gO g y 0 → AI_17 (gh 3 y) = AI (gh 3 y) := fun y hy => (nAf_ln nAq hv00 hx0.1 hy hnn).trans (fLN y hy)
    have e37I : I_14 (gh 37 0) = I (gh 37 0) := nIq _ hc39 (fun r hr => isRA_37 hnn hr)
    have e37A : AI_17 (gh 0 (gh 37 0)) = (AI (gh 0 (gh 37 0))) := nAf_o nAq hv hx.1 h37g.2.1 hnn hc39 (fun r hr => isRA_37 hnn hr)
    have eX : I_14 x = I x := nIq x (gO_ne hx.1 h39g.2.1 (by decide)) (fun r hr => (gO_ne hx.1 (isRA_o hnn hr).2.1 (by decide)).symm)
    have epA : I_14 pA = I pA := nIq pA (gO_ne hx.2.2.1 h39g.2.1 (by decide)) (fun r hr => (gO_ne hx.2.2.1 (isRA_o hnn hr).2.1 (by decide)).symm)
    have hnb1 : (I_14 (gh 37 0) 3).toInt = (nb : Int) := by rw [e37I]; exact hnb
    have hcs := cmS_n hv hx hD nIq nAq
    have e38 : I_14 (gh 38 0) = I (gh 38 0) := nIq _ (fun e9 => by have q9 := h38g.2.2.2; rw [e9, h39g.2.2.2] at q9; exact absurd q9 (by decide)) (fun r hr => ra_ne1 hnn h38g.2.2.1 h38g.2.2.2 (Or.inr (by decide)) hr)
    refine lv_istore_n (lv' := [(2, .int (iI v_20)), (0, .ref x), (1, .int (iI rel))]) F.1 F.2.1 dX6_would_19 rfl hl (by decide) rfl (fun ls hl => ?_)
    refine lv_iload_n F.1 F.2.1 dX6_would_20 rfl (lv_at hl 0 rfl) ?_
    refine z_if_eq (tgt := 28) F dX6_would_21 (by decide) zv_20 (fun c_24 => ?_) (fun c_24 => ?_)
    · refine lv_aload_n F.1 F.2.1 dX6_would_28 rfl (lv_at hl 1 rfl) ?_
      refine g_getR (ci := 6) (k := 6) F hH rfl (by decide) iX6 hx.1 (by decide) rfl (b := nA) hx.2.2.2.2.2.1 k42 dX6_would_29 ?_
      refine lv_iload_n F.1 F.2.1 dX6_would_32 rfl (lv_at hl 2 rfl) ?_
      have hx33 : 0 ≤ rel ∧ rel < ((16 : Nat) : Int) ∧ rel ≤ 2147483647 := ⟨by omega, by omega, by omega⟩
      obtain ⟨y_25, y_25a, y_25b, y_25c, y_25d, y_25e⟩ := hx.2.2.2.2.2.2.2 (rel).toNat (by omega)
      refine g_aldR F hH hx.2.2.2.2.2.2.1 hx33.1 hx33.2.1 hx33.2.2 (b := y_25) y_25a dX6_would_33 ?_
      have hwl : (I_14 y_25 3).toInt = (((rfC gh AR I_14 AI_17 nA rel.toNat).1 : Nat) : Int) := by unfold rfC; rw [rob_e y_25a]; have q9 := (gI_rows hv y_25b).2.2.1; omega
      refine g_getI (ci := 4) (k := 3) F hH rfl (by decide) iX4 y_25b (by decide) rfl k99 dX6_would_34 ?_
      obtain ⟨b_26a, b_26b, b_26c, b_26d, b_26e, b_26f, b_26g, b_26h⟩ := gI_rows hv y_25b
      exact g_iret F hr hlk hH hS hz (zr_t _) ⟨rfl, rfl, rfl, rfl, hv, rf, Or.inr ⟨by omega, _, _, qrn, fun h9 => by first | rfl | omega | (dsimp only; omega), fun h9 => by first | omega | (dsimp only; omega)⟩, ⟨hcs, eX, e37I, e37A, e38⟩, fLN⟩ dX6_would_37
    · refine lv_iload_n F.1 F.2.1 dX6_would_24 rfl (lv_at hl 0 rfl) ?_
      refine z_goto (tgt := 37) F dX6_would_25 (by decide) ?_
      exact g_iret F hr hlk hH hS hz zv_20 ⟨rfl, rfl, rfl, rfl, hv, rf, Or.inr ⟨by omega, _, _, qrn, fun h9 => by first | rfl | omega | (dsimp only; omega), fun h9 => by first | omega | (dsimp only; omega)⟩, ⟨hcs, eX, e37I, e37A, e38⟩, fLN⟩ dX6_would_37
  · refine z_iconst F dX6_would_8 ?_
    exact g_iret F hr hlk hH hS hz ⟨by decide, by decide⟩ ⟨rfl, rfl, rfl, rfl, hv, rf, Or.inl ⟨by have q9 := qir (by omega); omega, rfl⟩, ⟨⟨fun _ _ => rfl, fun _ _ => rfl, fun _ _ => rfl⟩, rfl, rfl, rfl, rfl⟩, fLN⟩ dX6_would_9

def rmX6_undog : Room := { frames := 7, cells := 0, slots := 0, locals := 214 }
set_option maxHeartbeats 4000000 in
set_option maxRecDepth 100000 in
/-- undo -/
theorem c_X6_undog (l : Launch) (g : gG) (gh : gGh) (pA bA nA : Nat) (nb nr : Nat) (cc : Nat → LC) (cl : Nat → Int) (I : gI) (R : gR) (J : gJ) (AI : gI) (AJ : gJ) (AR : gR) (x : Nat) (hv : gInv g gh R AR I AI) (hx : xS g gh R AR x pA bA nA) (hnb : (I (rob AR (gh 36 0) (((I x 14).toInt + 7) % 8).toNat) 3).toInt = (nb : Int)) (hbt : 0 < (I x 15).toInt → (btO (AI (gh 0 (rob AR (gh 36 0) (((I x 14).toInt + 7) % 8).toNat))) nb)) (hlen : (I pA 1).toInt = (nr : Int)) (htb2 : 0 ≤ (I pA 2).toInt ∧ (I pA 2).toInt ≤ (nr : Int) ∧ nr ≤ 16) (hln : ∀ r, r < nr → lnC (I (rob AR (gh 6 pA) r)) (AI (gh 3 (rob AR (gh 6 pA) r))) (cc r)) (hcK : ∀ r : Nat, r < nr → (I pA 2).toInt ≤ (r : Int) → cOK (cc r) r cl ∧ cZ (cc r) r cl) (hbg : ∀ r, r < nr → bgOK (rfC gh AR I AI bA) cl r) (hbz : 0 < (I x 15).toInt → (btZ cl (AI (gh 0 (rob AR (gh 36 0) (((I x 14).toInt + 7) % 8).toNat))) nb)) (htb : 0 < (I x 15).toInt → (∀ i, i < nb → 0 ≤ ((AI (gh 0 (rob AR (gh 36 0) (((I x 14).toInt + 7) % 8).toNat))) (6 * i)).toInt ∧ ((AI (gh 0 (rob AR (gh 36 0) (((I x 14).toInt + 7) % 8).toNat))) (6 * i)).toInt < (I pA 2).toInt)) (hD : xD gh AR bA nA) (hok : 0 < (I x 15).toInt → (∃ F : RF, rnP (I pA 2).toInt nr cc (∃ i, i < nb ∧ blw (AI (gh 0 (rob AR (gh 36 0) (((I x 14).toInt + 7) % 8).toNat))) (rfC gh AR I AI bA) (-1) i) (tbS (AI (gh 0 (rob AR (gh 36 0) (((I x 14).toInt + 7) % 8).toNat))) nb (rfC gh AR I AI bA) (-1)) 0 F)) : gMet l g yX6_undo wsX6_undo rmX6_undog [.ref x] (I, R, J, AI, AJ, AR) (gQi g (fun (z : Int) (w : gS) => J = w.2.2.1 ∧ AJ = w.2.2.2.2.1 ∧ AR = w.2.2.2.2.2 ∧ (gInv g gh (w.2.1) AR (w.1) (w.2.2.2.1)) ∧ (xF g x I (w.1)) ∧ (∃ b1 n1, xS g gh (w.2.1) AR x pA b1 n1) ∧ (∀ b k, b ≠ x ∨ (k ≠ 5 ∧ k ≠ 6) → (w.2.1) b k = R b k) ∧ (-1 ≤ z ∧ z ≤ 8) ∧ (((I x 15).toInt = 0 ∧ z = -1 ∧ (w.1) = I ∧ (w.2.2.2.1) = AI ∧ (w.2.1) = R) ∨ (0 < (I x 15).toInt ∧ z = (I x 15).toInt - 1 ∧ xS g gh (w.2.1) AR x pA nA bA ∧ ∃ Fn : RF, rnP (I pA 2).toInt nr cc (∃ i, i < nb ∧ blw (AI (gh 0 (rob AR (gh 36 0) (((I x 14).toInt + 7) % 8).toNat))) (rfC gh AR I AI bA) (-1) i) (tbS (AI (gh 0 (rob AR (gh 36 0) (((I x 14).toInt + 7) % 8).toNat))) nb (rfC gh AR I AI bA) (-1)) 0 Fn ∧ cmU gh AR x bA nA nr I AI Fn (w.1) (w.2.2.2.1))) ∧ (∀ y, gO g y 0 → (w.2.2.2.1) (gh 3 y) = AI (gh 3 y)))) := by
  refine gStart (cc := cX6_undo) (maxL := 1) (ret := (some (.int))) (by decide) rfl (Nat.le_of_ble_eq_true rfl) ?_
  intro p e s m below meth c ls F hr hlk hH hz hS hl
  have hl : lv_has ls 1 [(0, .ref x)] := hl
  have hS : va_S (gA g) s.heap s.heap [] := hS
  obtain ⟨H, hHe⟩ : ∃ H : Heap, H = s.heap := ⟨_, rfl⟩
  obtain ⟨locs, hlo⟩ : ∃ k : List Loc, k = [] := ⟨_, rfl⟩
  have hH : gH g I R J AI AJ AR H := by rw [hHe]; exact hH
  have hS : va_S (gA g) s.heap H locs := by rw [hHe, hlo]; exact hS
  suffices hw : W p l e rmX6_undog s m ([.ref x] : List Value).toArray below meth c H locs 0 0 (MQ below (gQi g (fun (z : Int) (w : gS) => J = w.2.2.1 ∧ AJ = w.2.2.2.2.1 ∧ AR = w.2.2.2.2.2 ∧ (gInv g gh (w.2.1) AR (w.1) (w.2.2.2.1)) ∧ (xF g x I (w.1)) ∧ (∃ b1 n1, xS g gh (w.2.1) AR x pA b1 n1) ∧ (∀ b k, b ≠ x ∨ (k ≠ 5 ∧ k ≠ 6) → (w.2.1) b k = R b k) ∧ (-1 ≤ z ∧ z ≤ 8) ∧ (((I x 15).toInt = 0 ∧ z = -1 ∧ (w.1) = I ∧ (w.2.2.2.1) = AI ∧ (w.2.1) = R) ∨ (0 < (I x 15).toInt ∧ z = (I x 15).toInt - 1 ∧ xS g gh (w.2.1) AR x pA nA bA ∧ ∃ Fn : RF, rnP (I pA 2).toInt nr cc (∃ i, i < nb ∧ blw (AI (gh 0 (rob AR (gh 36 0) (((I x 14).toInt + 7) % 8).toNat))) (rfC gh AR I AI bA) (-1) i) (tbS (AI (gh 0 (rob AR (gh 36 0) (((I x 14).toInt + 7) % 8).toNat))) nb (rfC gh AR I AI bA) (-1)) 0 Fn ∧ cmU gh AR x bA nA nr I AI Fn (w.1) (w.2.2.2.1))) ∧ (∀ y, gO g y 0 → (w.2.2.2.1) (gh 3 y) = AI (gh 3 y)))) ([.ref x] : List Value).toArray s 0 0 (gA g)) (F0 m 0 ls []) by
    rw [hHe, hlo] at hw; exact hw
  clear hHe hlo
  have xf : xF g x I I := xF_r
  have h37g := gR_x8 hv hx.1
  have h39g := gR_x10 hv hx.1
  have h38g := gR_x9 hv hx.1
  have h16g := gI_x hv hx.1
  have hc39 : gh 37 0 ≠ gh 39 0 := fun e9 => by have q9 := h37g.2.2.2; rw [e9, h39g.2.2.2] at q9; exact absurd q9 (by decide)
  have hnn := hx.2.2.2.2.2.2
  have h35g := (gR_x7 hv hx.1).2
  have h36g := (gR_x13 hv hx.1).2
  have hx0 := hx
  have hv00 := hv
  have fLN : ∀ y, gO g y 0 → AI (gh 3 y) = AI (gh 3 y) := fun _ _ => rfl
  have iX6 : ∀ w ∈ u_ws RX6 TX6 18, w ∈ wsX6_undo := (by decide +kernel)
  have k100 : Cond.fieldLink RX6 100 (TX6 15).1 (TX6 15).2.1 (TX6 15).2.2.1 ∈ wsX6_undo := List.mem_of_getElem? (i := 1) rfl
  have k160 : Cond.fieldLink RX6 160 (TX6 14).1 (TX6 14).2.1 (TX6 14).2.2.1 ∈ wsX6_undo := List.mem_of_getElem? (i := 2) rfl
  have k74 : Cond.fieldLink RX6 74 (TX6 13).1 (TX6 13).2.1 (TX6 13).2.2.1 ∈ wsX6_undo := List.mem_of_getElem? (i := 3) rfl
  refine lv_aload_n F.1 F.2.1 dX6_undo_0 rfl (lv_at hl 0 rfl) ?_
  refine g_getI (ci := 6) (k := 15) F hH rfl (by decide) iX6 hx.1 (by decide) rfl k100 dX6_undo_1 ?_
  have b_1 := gI_x hv hx.1
  refine z_if_ne (tgt := 9) F dX6_undo_4 (by decide) (zr_t _) (fun c_2 => ?_) (fun c_2 => ?_)
  · refine lv_aload_n F.1 F.2.1 dX6_undo_9 rfl (lv_at hl 0 rfl) ?_
    refine lv_dup F.1 F.2.1 dX6_undo_10 rfl ?_
    refine g_getI (ci := 6) (k := 15) F hH rfl (by decide) iX6 hx.1 (by decide) rfl k100 dX6_undo_11 ?_
    refine z_iconst F dX6_undo_14 ?_
    refine z_isub F dX6_undo_15 ?_
    refine g_putI (ci := 6) (k := 15) F hH hS rfl (by decide) iX6 hx.1 (by decide) tyX6 tyX6_ok nmX6 rfl rfl rfl k100 dX6_undo_16 (fun H locs hH hS => ?_)
    obtain ⟨I_3, eI_3⟩ : ∃ qQ, qQ = gup2 I x 15 (iI (((I x 15).toInt) - 1)) := ⟨_, rfl⟩
    rw [← eI_3] at hH
    have kI_3 : ∀ b, b ≠ x → I_3 b = I b := fun b hb => by rw [eI_3]; exact funext fun j => gup2_a _ _ hb
    have hbt := hbt (by omega)
    have hbz := hbz (by omega)
    have htb := htb (by omega)
    have hok := hok (by omega)
    have w_4 : (I_3 x 15).toInt = ((I x 15).toInt) - 1 := by rw [eI_3, gup2_s]; exact iI_val ⟨by omega, by omega⟩
    have hv : gInv g gh R AR I_3 AI := by rw [eI_3]; exact gInv_x15 hv hx.1 (by omega) (by omega)
    have xf : xF g x I I_3 := xF_t xf (by rw [eI_3]; exact xF_k hx.1 (by decide))
    have w_4t : (I_3 x 1).toInt = (I x 1).toInt := by rw [xf.2]
    have w_4_14 : (I_3 x 14).toInt = (I x 14).toInt := by rw [eI_3, gup2_k _ _ (by decide)]
    have v15 : (I_3 x 15).toInt = (I x 15).toInt - 1 := by rw [eI_3, gup2_s, iI_val ⟨by omega, by omega⟩]
    have vx : ∀ b j, b ≠ x ∨ j ≠ 15 → I_3 b j = I b j := fun b j h => by rw [eI_3]; rcases h with h | h; (· exact gup2_a _ _ h); (· exact gup2_k _ _ h)
    refine lv_aload_n F.1 F.2.1 dX6_undo_19 rfl (lv_at hl 0 rfl) ?_
    refine lv_aload_n F.1 F.2.1 dX6_undo_20 rfl (lv_at hl 0 rfl) ?_
    refine g_getI (ci := 6) (k := 14) F hH rfl (by decide) iX6 hx.1 (by decide) rfl k160 dX6_undo_21 ?_
    have b_5 := gI_x hv hx.1
    refine z_bipush F dX6_undo_24 (by decide) ?_
    refine z_iadd F dX6_undo_26 ?_
    refine z_iconst F dX6_undo_27 ?_
    refine z_isub F dX6_undo_28 ?_
    refine z_bipush F dX6_undo_29 (by decide) ?_
    refine z_irem F (by omega) (by omega) (by omega) (by omega) dX6_undo_31 ?_
    refine g_putI (ci := 6) (k := 14) F hH hS rfl (by decide) iX6 hx.1 (by decide) tyX6 tyX6_ok nmX6 rfl rfl rfl k160 dX6_undo_32 (fun H locs hH hS => ?_)
    obtain ⟨I_6, eI_6⟩ : ∃ qQ, qQ = gup2 I_3 x 14 (iI (((((I_3 x 14).toInt) + 8) - 1) % 8)) := ⟨_, rfl⟩
    rw [← eI_6] at hH
    have kI_6 : ∀ b, b ≠ x → I_6 b = I_3 b := fun b hb => by rw [eI_6]; exact funext fun j => gup2_a _ _ hb
    have w_7 : (I_6 x 14).toInt = ((((I_3 x 14).toInt) + 8) - 1) % 8 := by rw [eI_6, gup2_s]; exact iI_val ⟨by omega, by omega⟩
    have hv : gInv g gh R AR I_6 AI := by rw [eI_6]; exact gInv_x14 hv hx.1 (by omega) (by omega)
    have xf : xF g x I I_6 := xF_t xf (by rw [eI_6]; exact xF_k hx.1 (by decide))
    have w_7t : (I_6 x 1).toInt = (I x 1).toInt := by rw [xf.2]
    have w_7_15 : (I_6 x 15).toInt = (I_3 x 15).toInt := by rw [eI_6, gup2_k _ _ (by decide)]
    have w14 : (I_6 x 14).toInt = ((I x 14).toInt + 7) % 8 := by rw [eI_6, gup2_s, iI_val ⟨by omega, by omega⟩]; omega
    have w15 : (I_6 x 15).toInt = (I x 15).toInt - 1 := by rw [eI_6, gup2_k _ _ (by decide)]; exact v15
    have wx : ∀ b j, b ≠ x ∨ (j ≠ 14 ∧ j ≠ 15) → I_6 b j = I b j := fun b j h => by rw [eI_6]; rcases h with h | h; (· rw [gup2_a _ _ h]; exact vx b j (Or.inl h)); (· rw [gup2_k _ _ h.1]; exact vx b j (Or.inr h.2))
    have wo : ∀ b, b ≠ x → I_6 b = I b := fun b h => funext fun j => wx b j (Or.inl h)
    have eF0 : rfC gh AR I_6 AI bA = rfC gh AR I AI bA := funext fun r => by unfold rfC; rw [wx _ 3 (Or.inr (by decide))]
    have epA0 : I_6 pA = I pA := wo pA (gO_ne hx.2.2.1 hx.1 (by decide))
    have h8o := isRA_o h36g (r := (((I x 14).toInt + 7) % 8).toNat) (by omega)
    have h8n39 : (rob AR (gh 36 0) (((I x 14).toInt + 7) % 8).toNat) ≠ gh 39 0 := ra_ne1 h36g h39g.2.2.1 h39g.2.2.2 (Or.inr (by decide)) (by omega)
    have h8I : (I_6 (rob AR (gh 36 0) (((I x 14).toInt + 7) % 8).toNat) 3).toInt = (nb : Int) := by rw [wo _ (gO_ne h8o.2.1 hx.1 (by decide))]; exact hnb
    have hln9 : ∀ r, r < nr → lnC (I_6 (rob AR (gh 6 pA) r)) (AI (gh 3 (rob AR (gh 6 pA) r))) (cc r) := fun r hr => lnC_m (hln r hr) (funext fun j => wx _ j (Or.inl (fun e9 => by have q9 := gl_o hv hx.2.2.1 (show r < 16 by omega); rw [e9] at q9; exact gO_ne q9 hx.1 (by decide) rfl))) rfl
    refine lv_aload_n F.1 F.2.1 dX6_undo_35 rfl (lv_at hl 0 rfl) ?_
    refine lv_aload_n F.1 F.2.1 dX6_undo_36 rfl (lv_at hl 0 rfl) ?_
    obtain ⟨r_8a, r_8b⟩ := gR_x13 hv hx.1
    refine g_getR (ci := 6) (k := 13) F hH rfl (by decide) iX6 hx.1 (by decide) rfl (b := gh 36 0) r_8a k74 dX6_undo_37 ?_
    refine lv_aload_n F.1 F.2.1 dX6_undo_40 rfl (lv_at hl 0 rfl) ?_
    refine g_getI (ci := 6) (k := 14) F hH rfl (by decide) iX6 hx.1 (by decide) rfl k160 dX6_undo_41 ?_
    have b_9 := gI_x hv hx.1
    have hx44 : 0 ≤ ((I_6 x 14).toInt) ∧ ((I_6 x 14).toInt) < ((8 : Nat) : Int) ∧ ((I_6 x 14).toInt) ≤ 2147483647 := ⟨by omega, by omega, by omega⟩
    obtain ⟨y_10, y_10a, y_10b, y_10c, y_10d, y_10e⟩ := r_8b.2 (((I_6 x 14).toInt)).toNat (by omega)
    refine g_aldR F hH r_8b.1 hx44.1 hx44.2.1 hx44.2.2 (b := y_10) y_10a dX6_undo_44 ?_
    have e8 : y_10 = (rob AR (gh 36 0) (((I x 14).toInt + 7) % 8).toNat) := by rw [← w14]; exact (rob_e y_10a).symm
    refine z_iconst F dX6_undo_45 ?_
    obtain ⟨b_11a, b_11b, b_11c, b_11d, b_11e, b_11f, b_11g, b_11h⟩ := gI_rows hv y_10b
    refine g_calli (g_runV (As := [.ref y_10, .int (iI ((-1)))]) (rest := []) (ci := 6) F hl.1 hH hS hz (c_X6_reckonNextf l g gh pA bA nA nb nr cc cl I_6 R J AI AJ AR x y_10 (-1) ⟨by decide, by decide⟩ hv hx y_10b (by omega) (by rw [e8]; exact h8I) (by rw [e8]; exact hbt) (by rw [e8]; exact h8n39) (by rw [e8]; exact h8o.2.2.1) (by rw [epA0]; exact hlen) (by rw [epA0]; exact htb2) hln9 (by rw [epA0]; exact hcK) (by rw [eF0]; exact hbg) (by rw [e8]; exact hbz) (by rw [e8, epA0]; exact htb) hD.2.1 hD.2.2.1 (by rw [e8]; exact fun r hr => ra_ne hnn h36g (Or.inl (by decide)) hr (by omega))) (cwV 2 F.2.2.2.2.1 gX6_undo_X6_reckonNext rfl rfl rfl hdX6_reckonNext ⟨Nat.le_of_ble_eq_true rfl, Nat.le_of_ble_eq_true rfl⟩) hx.1 (by decide) rfl rfl rfl (Nat.le_of_ble_eq_true rfl) dX6_undo_46 ⟨Nat.zero_le _, Nat.zero_le _⟩) hS (fun v_18 I_12 R_13 J_14 AI_15 AJ_16 AR_17 H locs zv_18 hp_19 hH hS => ?_)
    dsimp only at hp_19
    obtain ⟨rfl, rfl, rfl, rfl, hv, rfq, q_20, nIq, nAq, qrn, qst⟩ := hp_19
    have xf := xF_t xf (xF_rF hx.1 rfq)
    have u_21 : (I_12 x 1).toInt = (I x 1).toInt := by rw [xf.2]
    have u_21p : I_12 pA = I pA := xf.1 pA 2 hx.2.2.1 (by decide) (by decide)
    have u_21p1 : (I_12 pA 1).toInt = (I pA 1).toInt := by rw [u_21p]
    have u_21p2 : (I_12 pA 2).toInt = (I pA 2).toInt := by rw [u_21p]
    have fLN : ∀ y, gO g y 0 → AI_15 (gh 3 y) = AI (gh 3 y) := fun y hy => (nAf_ln nAq hv00 hx0.1 hy hnn).trans (fLN y hy)
    rw [eF0, e8, epA0] at qrn
    rw [eF0, e8, epA0] at qst
    obtain ⟨F9, hok9⟩ := hok
    have hz0 := (rnP_u (cLt_of hcK) hok9 qrn).1
    rw [← hz0] at qrn qst
    have hst9 := qst rfl
    have hcs := cmS_n hv hx hD nIq nAq
    have hbg9 : ∀ r, r < nr → bgOK (rfC gh AR I_12 AI_15 bA) cl r := fun r hr => by have q9 := hbg r hr; unfold bgOK at q9 ⊢; rw [hcs.1 r (by omega), eF0]; exact q9
    have epA : I_12 pA = I pA := (nIq pA (gO_ne hx.2.2.1 h39g.2.1 (by decide)) (fun r hr => (gO_ne hx.2.2.1 (isRA_o hnn hr).2.1 (by decide)).symm)).trans epA0
    refine lv_pop F.1 F.2.1 dX6_undo_49 rfl ?_
    refine lv_aload_n F.1 F.2.1 dX6_undo_50 rfl (lv_at hl 0 rfl) ?_
    have b_22 := gI_x hv hx.1
    refine g_callv (g_runV (As := []) (rest := []) (ci := 6) F hl.1 hH hS hz (c_X6_takeNextf l g gh pA bA nA nr cl I_12 R J AI_15 AJ AR x hv hx (by rw [epA]; exact hlen) (by omega) hbg9 (fun r hr => (hst9 r hr).2) hD.2.2.2.1) (cwV 0 F.2.2.2.2.1 gX6_undo_X6_takeNext rfl rfl rfl hdX6_takeNext ⟨Nat.le_of_ble_eq_true rfl, Nat.le_of_ble_eq_true rfl⟩) hx.1 (by decide) rfl rfl rfl (Nat.le_of_ble_eq_true rfl) dX6_undo_51 ⟨Nat.zero_le _, Nat.zero_le _⟩) hS (fun I_23 R_24 J_25 AI_26 AJ_27 AR_28 H locs hp_29 hH hS => ?_)
    dsimp only at hp_29
    obtain ⟨rfl, rfl, rfl, hv, rfq, xs2, rk, tIq, tAq, tMq⟩ := hp_29
    have xf := xF_t xf (xF_rF hx.1 rfq)
    have u_30 : (I_23 x 1).toInt = (I x 1).toInt := by rw [xf.2]
    have u_30p : I_23 pA = I pA := xf.1 pA 2 hx.2.2.1 (by decide) (by decide)
    have u_30p1 : (I_23 pA 1).toInt = (I pA 1).toInt := by rw [u_30p]
    have u_30p2 : (I_23 pA 2).toInt = (I pA 2).toInt := by rw [u_30p]
    have fLN : ∀ y, gO g y 0 → AI_26 (gh 3 y) = AI (gh 3 y) := fun y hy => (tAq _ (fun r hr => ne_9 (cells_9 hv00 (isRA_o h35g hr).2.1) (ln_9 hv00 hy) (by decide))).trans (fLN y hy)
    have hx := xs2
    refine lv_aload_n F.1 F.2.1 dX6_undo_54 rfl (lv_at hl 0 rfl) ?_
    refine g_getI (ci := 6) (k := 15) F hH rfl (by decide) iX6 hx.1 (by decide) rfl k100 dX6_undo_55 ?_
    have b_31 := gI_x hv hx.1
    exact g_iret F hr hlk hH hS hz (zr_t _) ⟨rfl, rfl, rfl, hv, xf, ⟨_, _, hx⟩, rk, by first | omega | rfl | (dsimp only; omega), Or.inr ⟨by omega, by (try dsimp only); have q9 := un_15 hv00 hx0 nIq tIq; omega, hx, _, qrn, un_yes hv00 hx0 hD (by omega) wx w14 w15 nIq nAq tIq tAq tMq⟩, fLN⟩ dX6_undo_58
  · refine z_iconst F dX6_undo_7 ?_
    exact g_iret F hr hlk hH hS hz ⟨by decide, by decide⟩ ⟨rfl, rfl, rfl, hv, xf, ⟨_, _, hx⟩, fun _ _ _ => rfl, by first | omega | rfl | (dsimp only; omega), Or.inl ⟨by omega, rfl, rfl, rfl, rfl⟩, fLN⟩ dX6_undo_8

def rmX6_differsg : Room := { frames := 7, cells := 0, slots := 0, locals := 214 }
set_option maxHeartbeats 4000000 in
set_option maxRecDepth 100000 in
/-- differs -/
theorem c_X6_differsg (l : Launch) (g : gG) (gh : gGh) (pA bA nA : Nat) (nr : Nat) (cc : Nat → LC) (cl : Nat → Int) (I : gI) (R : gR) (J : gJ) (AI : gI) (AJ : gJ) (AR : gR) (x : Nat) (rel : Int) (zrel : zr rel) (hv : gInv g gh R AR I AI) (hx : xS g gh R AR x pA bA nA) (hlen : (I pA 1).toInt = (nr : Int)) (htb2 : 0 ≤ (I pA 2).toInt ∧ (I pA 2).toInt ≤ (nr : Int) ∧ nr ≤ 16) (hln : ∀ r, r < nr → lnC (I (rob AR (gh 6 pA) r)) (AI (gh 3 (rob AR (gh 6 pA) r))) (cc r)) (hcK : ∀ r : Nat, r < nr → (I pA 2).toInt ≤ (r : Int) → cOK (cc r) r cl ∧ cZ (cc r) r cl) (hbg : ∀ r, r < nr → bgOK (rfC gh AR I AI bA) cl r) (hD : xD gh AR bA nA) (hn0 : (I (gh 38 0) 3).toInt = 0) (hok : ∃ F : RF, rnP (I pA 2).toInt nr cc (∃ i, i < 0 ∧ blw (AI (gh 0 (gh 38 0))) (rfC gh AR I AI bA) 1 i) (tbS (AI (gh 0 (gh 38 0))) 0 (rfC gh AR I AI bA) 1) 0 F) : gMet l g yX6_differs wsX6_differs rmX6_differsg [.ref x, .int (iI rel)] (I, R, J, AI, AJ, AR) (gQi g (fun (z : Int) (w : gS) => R = w.2.1 ∧ J = w.2.2.1 ∧ AJ = w.2.2.2.2.1 ∧ AR = w.2.2.2.2.2 ∧ (gInv g gh R AR (w.1) (w.2.2.2.1)) ∧ (rF g I (w.1)) ∧ (((rel < 0 ∨ (nr : Int) ≤ rel) ∧ z = -1) ∨ ((0 ≤ rel ∧ rel < (nr : Int)) ∧ ∃ Fn : RF, rnP (I pA 2).toInt nr cc (∃ i, i < 0 ∧ blw (AI (gh 0 (gh 38 0))) (rfC gh AR I AI bA) 1 i) (tbS (AI (gh 0 (gh 38 0))) 0 (rfC gh AR I AI bA) 1) 0 Fn ∧ ∃ (f : Nat → Int32) (k : Nat), isB f k (fun t => bS (Fn rel.toNat).2 (Fn rel.toNat).1 t + iI (-1) * bS ((rfC gh AR I AI bA) rel.toNat).2 ((rfC gh AR I AI bA) rel.toNat).1 t) zM ∧ z = (k : Int))) ∧ (cmS gh AR x bA I AI (w.1) (w.2.2.2.1) ∧ (w.1) x = I x ∧ (w.1) (gh 37 0) = I (gh 37 0) ∧ (w.2.2.2.1) (gh 0 (gh 37 0)) = AI (gh 0 (gh 37 0)) ∧ (w.1) (gh 38 0) = I (gh 38 0)) ∧ (∀ y, gO g y 0 → (w.2.2.2.1) (gh 3 y) = AI (gh 3 y)))) := by
  refine gStart (cc := cX6_differs) (maxL := 2) (ret := (some (.int))) (by decide) rfl (Nat.le_of_ble_eq_true rfl) ?_
  intro p e s m below meth c ls F hr hlk hH hz hS hl
  have hl : lv_has ls 2 [(0, .ref x), (1, .int (iI rel))] := hl
  have hS : va_S (gA g) s.heap s.heap [] := hS
  obtain ⟨H, hHe⟩ : ∃ H : Heap, H = s.heap := ⟨_, rfl⟩
  obtain ⟨locs, hlo⟩ : ∃ k : List Loc, k = [] := ⟨_, rfl⟩
  have hH : gH g I R J AI AJ AR H := by rw [hHe]; exact hH
  have hS : va_S (gA g) s.heap H locs := by rw [hHe, hlo]; exact hS
  suffices hw : W p l e rmX6_differsg s m ([.ref x, .int (iI rel)] : List Value).toArray below meth c H locs 0 0 (MQ below (gQi g (fun (z : Int) (w : gS) => R = w.2.1 ∧ J = w.2.2.1 ∧ AJ = w.2.2.2.2.1 ∧ AR = w.2.2.2.2.2 ∧ (gInv g gh R AR (w.1) (w.2.2.2.1)) ∧ (rF g I (w.1)) ∧ (((rel < 0 ∨ (nr : Int) ≤ rel) ∧ z = -1) ∨ ((0 ≤ rel ∧ rel < (nr : Int)) ∧ ∃ Fn : RF, rnP (I pA 2).toInt nr cc (∃ i, i < 0 ∧ blw (AI (gh 0 (gh 38 0))) (rfC gh AR I AI bA) 1 i) (tbS (AI (gh 0 (gh 38 0))) 0 (rfC gh AR I AI bA) 1) 0 Fn ∧ ∃ (f : Nat → Int32) (k : Nat), isB f k (fun t => bS (Fn rel.toNat).2 (Fn rel.toNat).1 t + iI (-1) * bS ((rfC gh AR I AI bA) rel.toNat).2 ((rfC gh AR I AI bA) rel.toNat).1 t) zM ∧ z = (k : Int))) ∧ (cmS gh AR x bA I AI (w.1) (w.2.2.2.1) ∧ (w.1) x = I x ∧ (w.1) (gh 37 0) = I (gh 37 0) ∧ (w.2.2.2.1) (gh 0 (gh 37 0)) = AI (gh 0 (gh 37 0)) ∧ (w.1) (gh 38 0) = I (gh 38 0)) ∧ (∀ y, gO g y 0 → (w.2.2.2.1) (gh 3 y) = AI (gh 3 y)))) ([.ref x, .int (iI rel)] : List Value).toArray s 0 0 (gA g)) (F0 m 0 ls []) by
    rw [hHe, hlo] at hw; exact hw
  clear hHe hlo
  have rf : rF g I I := rF_r
  have h37g := gR_x8 hv hx.1
  have h39g := gR_x10 hv hx.1
  have h38g := gR_x9 hv hx.1
  have h16g := gI_x hv hx.1
  have hc39 : gh 37 0 ≠ gh 39 0 := fun e9 => by have q9 := h37g.2.2.2; rw [e9, h39g.2.2.2] at q9; exact absurd q9 (by decide)
  have hnn := hx.2.2.2.2.2.2
  have h35g := (gR_x7 hv hx.1).2
  have h36g := (gR_x13 hv hx.1).2
  have hx0 := hx
  have hv00 := hv
  have h40g := gR_x11 hv hx.1
  have hc38 : gh 38 0 ≠ gh 39 0 := fun e9 => by have q9 := h38g.2.2.2; rw [e9, h39g.2.2.2] at q9; exact absurd q9 (by decide)
  have fLN : ∀ y, gO g y 0 → AI (gh 3 y) = AI (gh 3 y) := fun _ _ => rfl
  have iX6 : ∀ w ∈ u_ws RX6 TX6 18, w ∈ wsX6_differs := (by decide +kernel)
  have iX4 : ∀ w ∈ u_ws RX4 TX4 4, w ∈ wsX6_differs := (by decide +kernel)
  have k57 : Cond.fieldLink RX6 57 (TX6 9).1 (TX6 9).2.1 (TX6 9).2.2.1 ∈ wsX6_differs := List.mem_of_getElem? (i := 1) rfl
  have k63 : Cond.fieldLink RX6 63 (TX6 11).1 (TX6 11).2.1 (TX6 11).2.2.1 ∈ wsX6_differs := List.mem_of_getElem? (i := 2) rfl
  have k42 : Cond.fieldLink RX6 42 (TX6 6).1 (TX6 6).2.1 (TX6 6).2.2.1 ∈ wsX6_differs := List.mem_of_getElem? (i := 3) rfl
  have k38 : Cond.fieldLink RX6 38 (TX6 5).1 (TX6 5).2.1 (TX6 5).2.2.1 ∈ wsX6_differs := List.mem_of_getElem? (i := 4) rfl
  have k99 : Cond.fieldLink RX6 99 (TX4 3).1 (TX4 3).2.1 (TX4 3).2.2.1 ∈ wsX6_differs := List.mem_of_getElem? (i := 5) rfl
  refine lv_aload_n F.1 F.2.1 dX6_differs_0 rfl (lv_at hl 0 rfl) ?_
  refine lv_iload_n F.1 F.2.1 dX6_differs_1 rfl (lv_at hl 1 rfl) ?_
  have b_1 := gI_x hv hx.1
  refine g_calli (g_runV (As := [.int (iI rel)]) (rest := []) (ci := 6) F hl.1 hH hS hz (c_X6_isRelationf l g gh pA bA nA I R J AI AJ AR x rel zrel hv hx) (cwV 1 F.2.2.2.2.1 gX6_differs_X6_isRelation rfl rfl rfl hdX6_isRelation ⟨Nat.le_of_ble_eq_true rfl, Nat.le_of_ble_eq_true rfl⟩) hx.1 (by decide) rfl rfl rfl (Nat.le_of_ble_eq_true rfl) dX6_differs_2 ⟨Nat.zero_le _, Nat.zero_le _⟩) hS (fun v_8 I_2 R_3 J_4 AI_5 AJ_6 AR_7 H locs zv_8 hp_9 hH hS => ?_)
  dsimp only at hp_9
  obtain ⟨rfl, rfl, rfl, rfl, rfl, rfl, q_10, qir⟩ := hp_9
  refine z_if_ne (tgt := 10) F dX6_differs_5 (by decide) zv_8 (fun c_11 => ?_) (fun c_11 => ?_)
  · refine lv_aload_n F.1 F.2.1 dX6_differs_10 rfl (lv_at hl 0 rfl) ?_
    refine lv_aload_n F.1 F.2.1 dX6_differs_11 rfl (lv_at hl 0 rfl) ?_
    obtain ⟨r_12a, r_12b, r_12c, r_12d⟩ := gR_x9 hv hx.1
    refine g_getR (ci := 6) (k := 9) F hH rfl (by decide) iX6 hx.1 (by decide) rfl (b := gh 38 0) r_12a k57 dX6_differs_12 ?_
    refine z_iconst F dX6_differs_15 ?_
    obtain ⟨b_13a, b_13b, b_13c, b_13d, b_13e, b_13f, b_13g, b_13h⟩ := gI_rows hv r_12b
    refine g_calli (g_runV (As := [.ref (gh 38 0), .int (iI 1)]) (rest := []) (ci := 6) F hl.1 hH hS hz (c_X6_reckonNextf l g gh pA bA nA 0 nr cc cl I R J AI AJ AR x (gh 38 0) 1 ⟨by decide, by decide⟩ hv hx r_12b (by omega) (by omega) ⟨fun i j _ hj => absurd hj (by omega), fun i hi => absurd hi (Nat.not_lt_zero i)⟩ hc38 h38g.2.2.1 (by omega) (by omega) hln hcK hbg (fun i hi => absurd hi (Nat.not_lt_zero i)) (fun i hi => absurd hi (Nat.not_lt_zero i)) hD.2.1 hD.2.2.1 (fun r hr => ra_ne1 hnn h38g.2.2.1 h38g.2.2.2 (Or.inr (by decide)) hr)) (cwV 2 F.2.2.2.2.1 gX6_differs_X6_reckonNext rfl rfl rfl hdX6_reckonNext ⟨Nat.le_of_ble_eq_true rfl, Nat.le_of_ble_eq_true rfl⟩) hx.1 (by decide) rfl rfl rfl (Nat.le_of_ble_eq_true rfl) dX6_differs_16 ⟨Nat.zero_le _, Nat.zero_le _⟩) hS (fun v_20 I_14 R_15 J_16 AI_17 AJ_18 AR_19 H locs zv_20 hp_21 hH hS => ?_)
    dsimp only at hp_21
    obtain ⟨rfl, rfl, rfl, rfl, hv, rfq, q_22, nIq, nAq, qrn, qst⟩ := hp_21
    have rf := rF_t rf rfq
    have u_23p : I_14 pA = I pA := rf pA 2 hx.2.2.1 (by decide)
    have u_23p1 : (I_14 pA 1).toInt = (I pA 1).toInt := by rw [u_23p]
    have u_23p2 : (I_14 pA 2).toInt = (I pA 2).toInt := by rw [u_23p]
    have fLN : ∀ y, gO g y 0 → AI_17 (gh 3 y) = AI (gh 3 y) := fun y hy => (nAf_ln nAq hv00 hx0.1 hy hnn).trans (fLN y hy)
    have e37I : I_14 (gh 37 0) = I (gh 37 0) := nIq _ hc39 (fun r hr => isRA_37 hnn hr)
    have e37A : AI_17 (gh 0 (gh 37 0)) = AI (gh 0 (gh 37 0)) := nAf_o nAq hv hx.1 h37g.2.1 hnn hc39 (fun r hr => isRA_37 hnn hr)
    have eX : I_14 x = I x := nIq x (gO_ne hx.1 h39g.2.1 (by decide)) (fun r hr => (gO_ne hx.1 (isRA_o hnn hr).2.1 (by decide)).symm)
    have e38 : I_14 (gh 38 0) = I (gh 38 0) := nIq _ hc38 (fun r hr => ra_ne1 hnn h38g.2.2.1 h38g.2.2.2 (Or.inr (by decide)) hr)
    have hcs := cmS_n hv hx hD nIq nAq
    obtain ⟨F9, hok9⟩ := hok
    have hz0 := (rnP_u (cLt_of hcK) hok9 qrn).1
    rw [← hz0] at qrn qst
    have hst9 := qst rfl
    have hcs0 := hcs
    refine lv_pop F.1 F.2.1 dX6_differs_19 rfl ?_
    refine lv_aload_n F.1 F.2.1 dX6_differs_20 rfl (lv_at hl 0 rfl) ?_
    obtain ⟨r_24a, r_24b, r_24c, r_24d⟩ := gR_x11 hv hx.1
    refine g_getR (ci := 6) (k := 11) F hH rfl (by decide) iX6 hx.1 (by decide) rfl (b := gh 40 0) r_24a k63 dX6_differs_21 ?_
    refine lv_aload_n F.1 F.2.1 dX6_differs_24 rfl (lv_at hl 0 rfl) ?_
    refine g_getR (ci := 6) (k := 6) F hH rfl (by decide) iX6 hx.1 (by decide) rfl (b := nA) hx.2.2.2.2.2.1 k42 dX6_differs_25 ?_
    refine lv_iload_n F.1 F.2.1 dX6_differs_28 rfl (lv_at hl 1 rfl) ?_
    have hx29 : 0 ≤ rel ∧ rel < ((16 : Nat) : Int) ∧ rel ≤ 2147483647 := ⟨by omega, by omega, by omega⟩
    obtain ⟨y_25, y_25a, y_25b, y_25c, y_25d, y_25e⟩ := hx.2.2.2.2.2.2.2 (rel).toNat (by omega)
    refine g_aldR F hH hx.2.2.2.2.2.2.1 hx29.1 hx29.2.1 hx29.2.2 (b := y_25) y_25a dX6_differs_29 ?_
    refine lv_aload_n F.1 F.2.1 dX6_differs_30 rfl (lv_at hl 0 rfl) ?_
    refine g_getR (ci := 6) (k := 5) F hH rfl (by decide) iX6 hx.1 (by decide) rfl (b := bA) hx.2.2.2.1 k38 dX6_differs_31 ?_
    refine lv_iload_n F.1 F.2.1 dX6_differs_34 rfl (lv_at hl 1 rfl) ?_
    have hx35 : 0 ≤ rel ∧ rel < ((16 : Nat) : Int) ∧ rel ≤ 2147483647 := ⟨by omega, by omega, by omega⟩
    obtain ⟨y_26, y_26a, y_26b, y_26c, y_26d, y_26e⟩ := hx.2.2.2.2.1.2 (rel).toNat (by omega)
    refine g_aldR F hH hx.2.2.2.2.1.1 hx35.1 hx35.2.1 hx35.2.2 (b := y_26) y_26a dX6_differs_35 ?_
    refine z_iconst F dX6_differs_36 ?_
    have rn : rob AR nA rel.toNat = y_25 := rob_e y_25a
    have sn : y_25 ≠ gh 40 0 := fun e9 => by have q9 := y_25c; rw [e9, h40g.2.2.1] at q9; exact absurd q9 (by decide)
    have ln : (I_14 y_25 3).toInt = (((I_14 y_25 3).toInt.toNat : Nat) : Int) := by have q9 := (gI_rows hv y_25b).2.2.1; omega
    have rb : rob AR bA rel.toNat = y_26 := rob_e y_26a
    have sb : y_26 ≠ gh 40 0 := fun e9 => by have q9 := y_26c; rw [e9, h40g.2.2.1] at q9; exact absurd q9 (by decide)
    have lb : (I_14 y_26 3).toInt = (((I_14 y_26 3).toInt.toNat : Nat) : Int) := by have q9 := (gI_rows hv y_26b).2.2.1; omega
    have on_ : okB (AI_17 (gh 0 y_25)) (I_14 y_25 3).toInt.toNat := by have q9 := (hst9 rel.toNat (by omega)).2.1; unfold rfC at q9; rw [rn] at q9; exact q9
    have ob_ : okB (AI_17 (gh 0 y_26)) (I_14 y_26 3).toInt.toNat := by have q9 := (hbg rel.toNat (by omega)).1; rw [← hcs.1 rel.toNat (by omega)] at q9; unfold rfC at q9; rw [rb] at q9; exact q9
    obtain ⟨b_27a, b_27b, b_27c, b_27d, b_27e, b_27f, b_27g, b_27h⟩ := gI_rows hv r_24b
    obtain ⟨b_28a, b_28b, b_28c, b_28d, b_28e, b_28f, b_28g, b_28h⟩ := gI_rows hv y_25b
    obtain ⟨b_29a, b_29b, b_29c, b_29d, b_29e, b_29f, b_29g, b_29h⟩ := gI_rows hv y_26b
    refine g_calli (g_runV (As := [.ref y_25, .ref y_26, .int (iI ((-1)))]) (rest := []) (ci := 4) F hl.1 hH hS hz (c_X4_gatherf l g gh ((I_14 y_25 3).toInt.toNat) ((I_14 y_26 3).toInt.toNat) (fun t => bS (AI_17 (gh 0 y_25)) (I_14 y_25 3).toInt.toNat t + iI (-1) * bS (AI_17 (gh 0 y_26)) (I_14 y_26 3).toInt.toNat t) I_14 R J AI_17 AJ AR (gh 40 0) y_25 y_26 (-1) ⟨by decide, by decide⟩ hv r_24b y_25b y_26b (by omega) (by omega) sn sb (by omega) ln lb on_ ob_ (fun _ => rfl)) (cwV 3 F.2.2.2.2.1 gX6_differs_X4_gather rfl rfl rfl hdX4_gather ⟨Nat.le_of_ble_eq_true rfl, Nat.le_of_ble_eq_true rfl⟩) r_24b (by decide) rfl rfl rfl (Nat.le_of_ble_eq_true rfl) dX6_differs_37 ⟨Nat.zero_le _, Nat.zero_le _⟩) hS (fun v_36 I_30 R_31 J_32 AI_33 AJ_34 AR_35 H locs zv_36 hp_37 hH hS => ?_)
    dsimp only at hp_37
    obtain ⟨rfl, rfl, rfl, rfl, hv, q_38, q_39, qga⟩ := hp_37
    have rf := rF_t rf (rF_o r_24b q_38)
    have u_40p : I_30 pA = I pA := rf pA 2 hx.2.2.1 (by decide)
    have u_40p1 : (I_30 pA 1).toInt = (I pA 1).toInt := by rw [u_40p]
    have u_40p2 : (I_30 pA 2).toInt = (I pA 2).toInt := by rw [u_40p]
    have fLN : ∀ y, gO g y 0 → AI_33 (gh 3 y) = AI (gh 3 y) := fun y hy => (q_39 _ (ne_9 (ln_9 hv00 hy) (cells_9 hv00 h40g.2.1) (by decide))).trans (fLN y hy)
    have ga9 := (qga.resolve_right (fun h => by have q8 := ga_cnt on_ ob_ h.2; rw [h40g.2.2.1] at q8; have q7 := (gI_rows hv y_25b).2.2.2.1; rw [q_38 _ sn, y_25c] at q7; have q6 := (gI_rows hv y_26b).2.2.2.1; rw [q_38 _ sb, y_26c] at q6; omega)).2
    have hl0 := (gI_rows hv h40g.2.1).2.2.1
    have hcs := cmS_1 hv hx hD hcs q_38 q_39
    have eX := (q_38 x (gO_ne hx.1 h40g.2.1 (by decide))).trans eX
    have e37I := (q_38 (gh 37 0) (fun e9 => by have q9 := h37g.2.2.2; rw [e9, h40g.2.2.2] at q9; exact absurd q9 (by decide))).trans e37I
    have e38 := (q_38 (gh 38 0) (fun e9 => by have q9 := h38g.2.2.2; rw [e9, h40g.2.2.2] at q9; exact absurd q9 (by decide))).trans e38
    have e37A := (q_39 _ (cells_ne hv h40g.2.1 h37g.2.1 (fun e9 => by have q9 := h37g.2.2.2; rw [e9, h40g.2.2.2] at q9; exact absurd q9 (by decide)))).trans e37A
    refine lv_pop F.1 F.2.1 dX6_differs_40 rfl ?_
    refine lv_aload_n F.1 F.2.1 dX6_differs_41 rfl (lv_at hl 0 rfl) ?_
    refine g_getR (ci := 6) (k := 11) F hH rfl (by decide) iX6 hx.1 (by decide) rfl (b := gh 40 0) r_24a k63 dX6_differs_42 ?_
    refine g_getI (ci := 4) (k := 3) F hH rfl (by decide) iX4 r_24b (by decide) rfl k99 dX6_differs_45 ?_
    obtain ⟨b_41a, b_41b, b_41c, b_41d, b_41e, b_41f, b_41g, b_41h⟩ := gI_rows hv r_24b
    exact g_iret F hr hlk hH hS hz (zr_t _) ⟨rfl, rfl, rfl, rfl, hv, rf, Or.inr ⟨by omega, _, qrn, _, _, by
        have q9 := ga9
        have eb : (rfC gh AR I AI bA) rel.toNat = ((I_14 y_26 3).toInt.toNat, AI_17 (gh 0 y_26)) := by rw [← hcs0.1 rel.toNat (by omega)]; unfold rfC; rw [rb]
        have en : rfC gh AR I_14 AI_17 nA rel.toNat = ((I_14 y_25 3).toInt.toNat, AI_17 (gh 0 y_25)) := by unfold rfC; rw [rn]
        rw [eb, en]; exact q9, by (try dsimp only); omega⟩, ⟨hcs, eX, e37I, e37A, e38⟩, fLN⟩ dX6_differs_48
  · refine z_iconst F dX6_differs_8 ?_
    exact g_iret F hr hlk hH hS hz ⟨by decide, by decide⟩ ⟨rfl, rfl, rfl, rfl, hv, rf, Or.inl ⟨by have q9 := qir (by omega); omega, rfl⟩, ⟨⟨fun _ _ => rfl, fun _ _ => rfl, fun _ _ => rfl⟩, rfl, rfl, rfl, rfl⟩, fLN⟩ dX6_differs_9
end
section
/-! the engine's state on both sides, as the law keeps it: a side is its relations and the rounds of its rings -/
abbrev SR8 : Type := Nat → (Nat × (Nat → Int32)) × Int32
def sF8 (s : SR8) : RF := fun r => (s r).1
def sM8 (s : SR8) : Nat → Int32 := fun r => (s r).2
def oS8 (F : RF) (r : Nat) : Tup → Int32 := fun t => bS (F r).2 (F r).1 t
def rG8 (tbs : Int) (cl : Nat → Int) (f : Nat → Int32) (i : Nat) : Prop := f (6 * i + 5) ≠ 0 ∧ zT (cl (f (6 * i)).toInt.toNat) (btu f i) ∧ 0 ≤ (f (6 * i)).toInt ∧ (f (6 * i)).toInt < tbs
/-- a batch -/
def bG8 (tbs : Int) (cl : Nat → Int) (f : Nat → Int32) (n : Nat) : Prop := srt 5 f (n : Int) ∧ ∀ i, i < n → rG8 tbs cl f i
/-- good relations: tables never below 0, views as reckoned -/
def gF8 (tbs : Int) (cc : Nat → LC) (cl : Nat → Int) (nr : Nat) (F : RF) : Prop := stA tbs cc (oS8 F) cl F nr ∧ ∀ r : Nat, (r : Int) < tbs → ∀ t, 0 ≤ (oS8 F r t).toInt
def gd8 (tbs : Int) (cc : Nat → LC) (cl : Nat → Int) (nr : Nat) (s : SR8) : Prop := gF8 tbs cc cl nr (sF8 s) ∧ rdA tbs cc (sF8 s) (sM8 s) nr
/-- a batch leads from one to the next -/
def st8 (tbs : Int) (cl : Nat → Int) (F F' : RF) (h : Nat × (Nat → Int32)) : Prop := bG8 tbs cl h.2 h.1 ∧ ∀ r : Nat, (r : Int) < tbs → ∀ t, oS8 F' r t = oS8 F r t + cS h.2 (r : Int) h.1 t
def nx8 (S : Int → SR8) (u k : Int) : SR8 := if k + 1 = u then S 0 else S (2 + k)
def eS8 (tbs : Int) (nr : Nat) (cc : Nat → LC) (cl : Nat → Int) (N H : RF) (S : Int → SR8) (e u : Int) : Prop :=
  ((0 ≤ e ∧ e < 8) ∧ 0 ≤ u ∧ u ≤ 8) ∧ (∀ r, r < nr → rfA N (sF8 (S 0)) r) ∧ gd8 tbs cc cl nr (S 0) ∧
  ∀ k : Int, 0 ≤ k → k < u → gd8 tbs cc cl nr (S (1 + k)) ∧ st8 tbs cl (sF8 (S (1 + k))) (sF8 (nx8 S u k)) (H ((e + 8 - u + k) % 8).toNat)
section ES8
variable {tbs sg : Int} {nr n nb q r : Nat} {cc : Nat → LC} {cl : Nat → Int} {F F' N N' H H' F0 F1 : RF} {S S' : Int → SR8} {s s' : SR8} {e u e' u' z z' : Int} {f f' : Nat → Int32} {T T' : Nat → Tup → Int32} {bl bl' : Prop} {h h' : Nat × (Nat → Int32)} {t : Tup}
/-! batches -/
theorem bG_o (h : bG8 tbs cl f n) : btO f n := ⟨h.1, fun i hi => (h.2 i hi).1⟩
theorem bG_z (h : bG8 tbs cl f n) : btZ cl f n := fun i hi => (h.2 i hi).2.1
theorem bG_t (h : bG8 tbs cl f n) : ∀ i, i < n → 0 ≤ (f (6 * i)).toInt ∧ (f (6 * i)).toInt < tbs := fun i hi => (h.2 i hi).2.2
theorem bG_0 : bG8 tbs cl f 0 := ⟨fun i j _ hj => absurd hj (by omega), fun i hi => absurd hi (Nat.not_lt_zero i)⟩
theorem rG_m {i i' : Nat} (h : rG8 tbs cl f i) (a : ∀ t, t < 6 → f' (6 * i' + t) = f (6 * i + t)) : rG8 tbs cl f' i' := by
  have e : btu f' i' = btu f i := by unfold btu; rw [a 1 (by omega), a 2 (by omega), a 3 (by omega), a 4 (by omega)]
  have e0 : f' (6 * i') = f (6 * i) := a 0 (by omega)
  unfold rG8
  rw [a 5 (by omega), e, e0]; exact h
theorem srt_c {K : Nat} (hK : K ≤ 6) (h : srt K f (n : Int)) (e : ∀ j, j < 6 * n → f' j = f j) : srt K f' (n : Int) := fun i j hij hj => by
  have a : ∀ i, i < n → ∀ t, t < K → ry6 f' i t = ry6 f i t := fun i hi t ht => by rw [ry6_e, ry6_e, e _ (by omega)]
  rw [kc_c (a i (by omega)) (a j (by omega))]
  exact h i j hij hj
theorem bG_c (h : bG8 tbs cl f n) (e : ∀ j, j < 6 * n → f' j = f j) : bG8 tbs cl f' n := ⟨srt_c (by decide) h.1 e, fun i hi => rG_m (h.2 i hi) (fun t ht => e _ (by omega))⟩
theorem ch_G {u : Nat → Int} {tb n z len len1 a b c d : Int} (hcl : ∀ r : Nat, (r : Int) < tbs → 1 ≤ cl r) (h0 : 0 ≤ len) (hG : ∀ i : Nat, (i : Int) < len → rG8 tbs cl f i) (eu : 0 ≤ tb → tb < tbs → u = cky tb a b c d (cl tb.toNat)) (q : chP tbs tb n z len len1 f f' u) : ∀ i : Nat, (i : Int) < len1 → rG8 tbs cl f' i := by
  rcases q with ⟨_, _, a3, a4⟩ | ⟨q1, zz, q2, _⟩
  · rw [a3, a4]; exact hG
  · have eu := eu q1.1 q1.2.1
    rcases q2 with ⟨p, c1, c2, c3⟩ | ⟨r, c1, c2, c3, c4⟩
    · rcases c3 with ⟨y1, _⟩ | ⟨_, _, _, y4, y5⟩ | ⟨y1, y2, y3, y4, y5⟩
      · exact absurd y1 (by omega)
      · rw [y4, y5]; exact hG
      · have hp : p ≤ len := by
          rcases c1 with ⟨x1, _⟩ | ⟨x1, x2, _⟩ <;> omega
        obtain ⟨i1, i2, i3, -, i5⟩ := y5
        intro i hi
        by_cases w : (i : Int) < p
        · exact rG_m (hG i (by omega)) (fun t ht => i1 _ (by omega))
        · by_cases v : (i : Int) = p
          · have e0 : (f' (6 * i)).toInt = tb := by
              have k := i2 0 (by omega)
              rw [eu, show (6 * p).toNat + 0 = 6 * i by omega] at k; exact k
            have ek : ∀ k, k < 4 → (tg (btu f' i) k).toInt = u (1 + k) := fun k hk => by
              have m := i2 (1 + k) (by omega)
              rw [btu_at hk, ← m, show (6 * p).toNat + (1 + k) = 6 * i + 1 + k by omega]
            refine ⟨?_, ?_, by omega, by omega⟩
            · rw [show 6 * i + 5 = (6 * p).toNat + 5 by omega, i3]
              intro k
              have k1 := congrArg Int32.toInt k
              rw [iI_val ⟨by omega, by omega⟩] at k1
              exact y1 k1
            · intro k h1 h2
              rw [e0] at h1
              have hc := hcl tb.toNat (by omega)
              apply Int32.toInt_inj.mp
              rw [ek k h2, eu]
              match k, h1, h2 with
              | 0, h1, _ => exact absurd h1 (by omega)
              | 1, h1, _ => show (if 1 < cl tb.toNat then b else 0) = 0; exact if_neg (by omega)
              | 2, h1, _ => show (if 2 < cl tb.toNat then c else 0) = 0; exact if_neg (by omega)
              | 3, h1, _ => show (if 3 < cl tb.toNat then d else 0) = 0; exact if_neg (by omega)
              | k + 4, _, h2 => exact absurd h2 (by omega)
          · obtain ⟨k, rfl⟩ : ∃ k, i = k + 1 := ⟨i - 1, by omega⟩
            exact rG_m (hG k (by omega)) (fun t ht => by rw [← i5 (6 * k + t) (by omega) (by omega), show 6 * (k + 1) + t = 6 * k + t + 6 by omega])
    · have hr : r < len := by
        rcases c1 with ⟨_, x, _⟩ | ⟨x, _⟩ <;> omega
      rcases c4 with ⟨_, y2, y3⟩ | ⟨y1, y2, y3⟩
      · rw [y2]
        intro i hi
        by_cases w : (i : Int) < r
        · exact rG_m (hG i (by omega)) (fun t ht => y3.1 _ (by omega))
        · exact rG_m (hG (i + 1) (by omega)) (fun t ht => by rw [y3.2 _ (by omega) (by omega), show 6 * i + t + 6 = 6 * (i + 1) + t by omega])
      · rw [y2]
        intro i hi
        by_cases w : (i : Int) = r
        · have g := hG i hi
          have e5 : f' (6 * i + 5) = iI ((f ((6 * r).toNat + 5)).toInt + n) := by rw [← y3.2, show 6 * i + 5 = (6 * r).toNat + 5 by omega]
          have eo : ∀ j, j ≠ 6 * i + 5 → f' j = f j := fun j hj => y3.1 j (by omega)
          have eb : btu f' i = btu f i := by unfold btu; rw [eo _ (by omega), eo _ (by omega), eo _ (by omega), eo _ (by omega)]
          refine ⟨by rw [e5]; exact y1, ?_⟩
          rw [eb, eo (6 * i) (by omega)]
          exact g.2
        · exact rG_m (hG i hi) (fun t ht => y3.1 _ (by omega))
/-! sums -/
theorem i1_m (x : Int32) : iI 1 * x = x := by rw [show (iI 1 : Int32) = 1 from rfl, Int32.one_mul]
theorem in_m (x : Int32) : iI (-1) * x = -x := by
  rw [show (iI (-1) : Int32) = -1 from by decide, Int32.neg_mul, Int32.one_mul]
theorem oS_c (h : rfA F F' r) : oS8 F r = oS8 F' r := funext fun t => by unfold oS8; rw [← h.1]; exact bS_c _ h.2
theorem tb_1 : tbS f n F 1 r = fun t => oS8 F r t + cS f (r : Int) n t := funext fun t => by
  show oS8 F r t + iI 1 * _ = _
  rw [i1_m]
theorem tb_m : tbS f n F (-1) r = fun t => oS8 F r t - cS f (r : Int) n t := funext fun t => by
  show oS8 F r t + iI (-1) * _ = _
  rw [in_m, Int32.sub_eq_add_neg]
theorem tb_c (h : rfA F F' r) : tbS f n F sg r = tbS f n F' sg r := funext fun t => by
  show oS8 F r t + _ = oS8 F' r t + _
  rw [oS_c h]
theorem bl_at {i : Nat} : blw f F sg i ↔ (oS8 F (f (6 * i)).toInt.toNat (btu f i) + iI sg * f (6 * i + 5)).toInt < 0 := Iff.rfl
theorem bl_c (hG : bG8 tbs cl f n) (ht : tbs ≤ (nr : Int)) (h : ∀ r, r < nr → rfA F F' r) : (∃ i, i < n ∧ blw f F sg i) ↔ ∃ i, i < n ∧ blw f F' sg i := by
  have k : ∀ i, i < n → (blw f F sg i ↔ blw f F' sg i) := fun i hi => by
    have w := (hG.2 i hi).2.2
    rw [bl_at, bl_at, oS_c (h _ (by omega))]
  exact ⟨fun ⟨i, a, b⟩ => ⟨i, a, (k i a).mp b⟩, fun ⟨i, a, b⟩ => ⟨i, a, (k i a).mpr b⟩⟩
theorem cS_i (hG : bG8 tbs cl f n) {i : Nat} (hi : i < n) : cS f (((f (6 * i)).toInt.toNat : Nat) : Int) n (btu f i) = f (6 * i + 5) := by
  have w := (hG.2 i hi).2.2
  exact cS_y hG.1 n (Nat.le_refl _) hi (by omega)
theorem bl_no (hG : bG8 tbs cl f n) (h : ¬ ∃ i, i < n ∧ blw f F 1 i) (h0 : 0 ≤ (oS8 F r t).toInt) : 0 ≤ (oS8 F r t + cS f (r : Int) n t).toInt := by
  by_cases w : ∃ i, i < n ∧ (f (6 * i)).toInt = (r : Int) ∧ btu f i = t
  · obtain ⟨i, a, b, c⟩ := w
    have k : ¬ blw f F 1 i := fun k => h ⟨i, a, k⟩
    have q := (hG.2 i a).2.2
    rw [bl_at, show (f (6 * i)).toInt.toNat = r by omega, c, i1_m] at k
    have y := cS_y hG.1 n (Nat.le_refl _) a b
    rw [c] at y
    rw [y]; omega
  · rw [cS_n n (fun j hj k => w ⟨j, hj, k⟩), Int32.add_zero]; exact h0
/-! congruence -/
theorem stP_T (e : (q : Int) < tbs → T' q = T q) (h : stP tbs cc T F q) : stP tbs cc T' F q := by
  unfold stP at h ⊢
  by_cases w : (q : Int) < tbs
  · rw [if_pos w] at h ⊢; rw [e w]; exact h
  · rw [if_neg w] at h ⊢; exact h
theorem stF_T (e : (q : Int) < tbs → T' q = T q) (h : stF tbs cc T F q z) : stF tbs cc T' F q z := by
  unfold stF at h ⊢
  by_cases w : (q : Int) < tbs
  · rw [if_pos w] at h ⊢; rw [e w]; exact h
  · rw [if_neg w] at h ⊢; exact h
theorem stA_T (e : ∀ q, q < nr → (q : Int) < tbs → T' q = T q) (h : stA tbs cc T cl F nr) : stA tbs cc T' cl F nr := fun q hq => ⟨stP_T (e q hq) (h q hq).1, (h q hq).2⟩
theorem rnP_T (hb : bl' ↔ bl) (e : ∀ q, q < nr → (q : Int) < tbs → T' q = T q) (h : rnP tbs nr cc bl T z F) : rnP tbs nr cc bl' T' z F := by
  rcases h with ⟨a, b⟩ | ⟨a, r, h1, h2, h3⟩
  · exact Or.inl ⟨hb.mpr a, b⟩
  · refine Or.inr ⟨fun k => a (hb.mp k), r, h1, fun q hq => stP_T (e q (by omega)) (h2 q hq), ?_⟩
    rcases h3 with h3 | ⟨a, b⟩
    · exact Or.inl h3
    · exact Or.inr ⟨a, stF_T (e r a) b⟩
theorem rn_all (h : rnP tbs nr cc bl T 0 F) : ¬ bl ∧ ∀ q, q < nr → stP tbs cc T F q := by
  rcases h with ⟨_, b⟩ | ⟨a, r, h1, h2, h3⟩
  · exact absurd b (by decide)
  · rcases h3 with ⟨rfl, _⟩ | ⟨h4, h5⟩
    · exact ⟨a, h2⟩
    · unfold stF at h5
      by_cases w : (r : Int) < tbs
      · rw [if_pos w] at h5; exact absurd h5.1 (by decide)
      · rw [if_neg w] at h5; exact absurd rfl h5.1
theorem rn_of (hb : ¬ bl) (h : ∀ q, q < nr → stP tbs cc T F q) : rnP tbs nr cc bl T 0 F := Or.inr ⟨hb, nr, Nat.le_refl _, h, Or.inl ⟨rfl, rfl⟩⟩
theorem st_tbS (h : stP tbs cc T F q) (hq : (q : Int) < tbs) : oS8 F q = T q := by
  unfold stP at h
  rw [if_pos hq] at h
  exact bS_B h.1
theorem oS_e (e : F' r = F r) : oS8 F' r = oS8 F r := by unfold oS8; rw [e]
theorem gF8_c (hl : cLt tbs nr cc) (ht : tbs ≤ (nr : Int)) (e : ∀ r, r < nr → F' r = F r) (h : gF8 tbs cc cl nr F) : gF8 tbs cc cl nr F' :=
  ⟨stA_T (fun q hq _ => oS_e (e q hq)) (st_up hl (Nat.le_refl _) e h.1), fun r hr t => by rw [oS_e (e r (by omega))]; exact h.2 r hr t⟩
theorem gd_c (hl : cLt tbs nr cc) (ht : tbs ≤ (nr : Int)) (h16 : nr ≤ 16) (e : ∀ r, r < 16 → s' r = s r) (h : gd8 tbs cc cl nr s) : gd8 tbs cc cl nr s' :=
  ⟨gF8_c hl ht (fun r hr => congrArg Prod.fst (e r (by omega))) h.1, rd_up hl (Nat.le_refl _) (fun q hq => congrArg Prod.fst (e q (by omega))) (fun q hq => congrArg Prod.snd (e q (by omega))) h.2⟩
theorem st_c (ht : tbs ≤ (nr : Int)) (h16 : nr ≤ 16) (e0 : ∀ r, r < 16 → F r = N r) (e1 : ∀ r, r < 16 → F' r = N' r) (eh : h'.1 = h.1 ∧ ∀ j, j < 6 * h.1 → h'.2 j = h.2 j) (k : st8 tbs cl N N' h) : st8 tbs cl F F' h' := by
  refine ⟨by rw [eh.1]; exact bG_c k.1 eh.2, fun r hr t => ?_⟩
  rw [oS_e (e0 r (by omega)), oS_e (e1 r (by omega)), eh.1, cS_c _ eh.2]
  exact k.2 r hr t
def sE8 (s' s : SR8) : Prop := ∀ r, r < 16 → s' r = s r
def hE8 (h' h : Nat × (Nat → Int32)) : Prop := h'.1 = h.1 ∧ ∀ j, j < 6 * h.1 → h'.2 j = h.2 j
theorem hE_r : hE8 h h := ⟨rfl, fun _ _ => rfl⟩
theorem sE_f (h : sE8 s' s) : ∀ r, r < 16 → sF8 s' r = sF8 s r := fun r hr => congrArg Prod.fst (h r hr)
/-- nothing of it has changed -/
theorem eS_c (hl : cLt tbs nr cc) (ht : tbs ≤ (nr : Int)) (h16 : nr ≤ 16) (h : eS8 tbs nr cc cl N H S e u) (eN : ∀ r, r < nr → N' r = N r) (eH : ∀ k, k < 8 → H' k = H k) (eS : ∀ sd : Int, 0 ≤ sd → sd ≤ 8 → sE8 (S' sd) (S sd)) (ee : e' = e) (eu : u' = u) : eS8 tbs nr cc cl N' H' S' e' u' := by
  subst ee eu
  obtain ⟨h1, h2, h3, h4⟩ := h
  have e0 := eS 0 (by decide) (by decide)
  refine ⟨h1, fun r hr => ?_, gd_c hl ht h16 e0 h3, fun k k0 k1 => ?_⟩
  · have w := h2 r hr
    unfold rfA at w ⊢
    rw [eN r hr, sE_f e0 r (by omega)]; exact w
  · have w := h4 k k0 k1
    refine ⟨gd_c hl ht h16 (eS _ (by omega) (by omega)) w.1, st_c ht h16 (sE_f (eS _ (by omega) (by omega))) ?_ (by rw [eH _ (by omega)]; exact hE_r) w.2⟩
    unfold nx8
    by_cases v : k + 1 = u'
    · rw [if_pos v, if_pos v]; exact sE_f e0
    · rw [if_neg v, if_neg v]; exact sE_f (eS _ (by omega) (by omega))
/-- what a batch makes of good relations is good -/
theorem cm_gd (hG : bG8 tbs cl f nb) (h0 : gF8 tbs cc cl nr F0) (a : rnP tbs nr cc (∃ i, i < nb ∧ blw f F0 1 i) (tbS f nb F0 1) 0 F1) (b : stA tbs cc (tbS f nb F0 1) cl F1 nr) (ht : tbs ≤ (nr : Int)) : gF8 tbs cc cl nr F1 ∧ ∀ r : Nat, (r : Int) < tbs → ∀ t, oS8 F1 r t = oS8 F0 r t + cS f (r : Int) nb t := by
  have w := rn_all a
  have e : ∀ r : Nat, (r : Int) < tbs → ∀ t, oS8 F1 r t = oS8 F0 r t + cS f (r : Int) nb t := fun r hr t => by
    rw [st_tbS (w.2 r (by omega)) hr, tb_1]
  refine ⟨⟨stA_T (fun q hq hq2 => ?_) b, fun r hr t => ?_⟩, e⟩
  · exact st_tbS (w.2 q hq) hq2
  · rw [e r hr t]; exact bl_no hG w.1 (h0.2 r hr t)
/-- both sides answer alike, and go on alike -/
theorem cm_u (hl : cLt tbs nr cc) (ht : tbs ≤ (nr : Int)) (hG : bG8 tbs cl f nb) (hN : ∀ r, r < nr → rfA N F0 r) (a : rnP tbs nr cc (∃ i, i < nb ∧ blw f N sg i) (tbS f nb N sg) z F) (b : rnP tbs nr cc (∃ i, i < nb ∧ blw f F0 sg i) (tbS f nb F0 sg) z' F') : z = z' ∧ (z = 0 → ∀ q, q < nr → rfA F F' q) :=
  rnP_u hl (rnP_T (bl_c hG ht hN).symm (fun q hq _ => (tb_c (hN q hq)).symm) a) b
/-- a commit that is taken -/
theorem eS_cm (hl : cLt tbs nr cc) (ht : tbs ≤ (nr : Int)) (h16 : nr ≤ 16) (h : eS8 tbs nr cc cl N H S e u) (hG : bG8 tbs cl f nb) {s1 : SR8} (a : rnP tbs nr cc (∃ i, i < nb ∧ blw f N 1 i) (tbS f nb N 1) 0 F) (b : rnP tbs nr cc (∃ i, i < nb ∧ blw f (sF8 (S 0)) 1 i) (tbS f nb (sF8 (S 0)) 1) 0 (sF8 s1)) (c : stA tbs cc (tbS f nb (sF8 (S 0)) 1) cl (sF8 s1) nr) (d : rdA tbs cc (sF8 s1) (sM8 s1) nr)
    (eN : ∀ r, r < nr → N' r = F r) (eH : ∀ k, k < 8 → k ≠ e.toNat → H' k = H k) (eH1 : (H' e.toNat).1 = nb ∧ ∀ j, j < 6 * nb → (H' e.toNat).2 j = f j) (e0 : sE8 (S' 0) s1) (ee : e' = (e + 1) % 8)
    (hb : (u < 8 ∧ u' = u + 1 ∧ (∀ j : Int, 0 ≤ j → j < u → sE8 (S' (1 + j)) (S (1 + j))) ∧ sE8 (S' (1 + u)) (S 0)) ∨ (u = 8 ∧ u' = 8 ∧ (∀ j : Int, 0 ≤ j → j < 7 → sE8 (S' (1 + j)) (S (2 + j))) ∧ sE8 (S' 8) (S 0))) : eS8 tbs nr cc cl N' H' S' e' u' := by
  obtain ⟨h1, h2, h3, h4⟩ := h
  have w := cm_u hl ht hG h2 a b
  have g := cm_gd hG h3.1 b c ht
  have g0 : gd8 tbs cc cl nr (S' 0) := gd_c hl ht h16 e0 ⟨g.1, d⟩
  have stp : st8 tbs cl (sF8 (S 0)) (sF8 (S' 0)) (H' e.toNat) := by
    refine st_c (N := sF8 (S 0)) (N' := sF8 s1) (h := (nb, f)) ht h16 (fun _ _ => rfl) (sE_f e0) eH1 ⟨hG, g.2⟩
  refine ⟨by omega, fun r hr => ?_, g0, fun k k0 k1 => ?_⟩
  · have v := w.2 rfl r hr
    unfold rfA at v ⊢
    rw [eN r hr, sE_f e0 r (by omega)]; exact v
  · rcases hb with ⟨u8, eu, b1, b2⟩ | ⟨u8, eu, b1, b2⟩
    · by_cases v : k < u
      · have p := h4 k k0 v
        refine ⟨gd_c hl ht h16 (b1 k k0 v) p.1, st_c ht h16 (sE_f (b1 k k0 v)) ?_ ?_ p.2⟩
        · unfold nx8
          rw [if_neg (by omega)]
          by_cases y : k + 1 = u
          · rw [if_pos y, show 2 + k = 1 + u by omega]; exact sE_f b2
          · rw [if_neg y, show 2 + k = 1 + (k + 1) by omega]; exact sE_f (b1 _ (by omega) (by omega))
        · rw [show (e' + 8 - u' + k) % 8 = (e + 8 - u + k) % 8 by omega, eH _ (by omega) (by omega)]; exact hE_r
      · have ek : k = u := by omega
        subst ek
        refine ⟨gd_c hl ht h16 b2 h3, ?_⟩
        have y : nx8 S' u' k = S' 0 := if_pos (by omega)
        rw [y, show (e' + 8 - u' + k) % 8 = e by omega]
        exact st_c ht h16 (sE_f b2) (fun _ _ => rfl) hE_r stp
    · by_cases v : k < 7
      · have p := h4 (k + 1) (by omega) (by omega)
        refine ⟨gd_c hl ht h16 (fun r hr => by rw [b1 k k0 v r hr, show 2 + k = 1 + (k + 1) by omega]) p.1, st_c ht h16 (sE_f (fun r hr => by rw [b1 k k0 v r hr, show 2 + k = 1 + (k + 1) by omega])) ?_ ?_ p.2⟩
        · unfold nx8
          rw [if_neg (show ¬ k + 1 = u' by omega)]
          by_cases y : k + 1 + 1 = u
          · rw [if_pos y, show 2 + k = 8 by omega]; exact sE_f b2
          · rw [if_neg y, show 2 + k = 1 + (k + 1) by omega]
            exact sE_f (fun r hr => by rw [b1 (k + 1) (by omega) (by omega) r hr])
        · rw [show (e' + 8 - u' + k) % 8 = (e + 8 - u + (k + 1)) % 8 by omega, eH _ (by omega) (by omega)]; exact hE_r
      · have ek : k = 7 := by omega
        subst ek
        refine ⟨gd_c hl ht h16 b2 h3, ?_⟩
        have y : nx8 S' u' 7 = S' 0 := if_pos (by omega)
        rw [y, show (e' + 8 - u' + 7) % 8 = e by omega]
        exact st_c ht h16 (sE_f b2) (fun _ _ => rfl) hE_r stp
/-- the last step can be taken back -/
theorem eS_un (ht : tbs ≤ (nr : Int)) (h16 : nr ≤ 16) (h : eS8 tbs nr cc cl N H S e u) (hu : 0 < u) (eh : h' = H ((e + 7) % 8).toNat) : bG8 tbs cl h'.2 h'.1 ∧ rnP tbs nr cc (∃ i, i < h'.1 ∧ blw h'.2 N (-1) i) (tbS h'.2 h'.1 N (-1)) 0 (sF8 (S u)) := by
  obtain ⟨h1, h2, h3, h4⟩ := h
  have p := h4 (u - 1) (by omega) (by omega)
  rw [show 1 + (u - 1) = u by omega, show (e + 8 - u + (u - 1)) % 8 = (e + 7) % 8 by omega, ← eh] at p
  have y : nx8 S u (u - 1) = S 0 := if_pos (by omega)
  rw [y] at p
  obtain ⟨⟨g1, g2⟩, g3, g4⟩ := p
  have k : ∀ r : Nat, (r : Int) < tbs → ∀ t, oS8 N r t - cS h'.2 (r : Int) h'.1 t = oS8 (sF8 (S u)) r t := fun r hr t => by
    rw [oS_c (h2 r (by omega)), g4 r hr t, Int32.add_sub_cancel]
  refine ⟨g3, rn_of (fun ⟨i, a, b⟩ => ?_) (fun q hq => stP_T (fun w => ?_) (g1.1 q hq).1)⟩
  · have w := (g3.2 i a).2.2
    have m := g1.2 (h'.2 (6 * i)).toInt.toNat (by omega) (btu h'.2 i)
    rw [bl_at, in_m, ← Int32.sub_eq_add_neg] at b
    have v := k (h'.2 (6 * i)).toInt.toNat (by omega) (btu h'.2 i)
    rw [cS_i g3 a] at v
    rw [v] at b
    omega
  · rw [tb_m]; exact funext fun t => k q w t
/-- it is taken back -/
theorem eS_ud (hl : cLt tbs nr cc) (ht : tbs ≤ (nr : Int)) (h16 : nr ≤ 16) (h : eS8 tbs nr cc cl N H S e u) (hu : 0 < u) (eh : h' = H ((e + 7) % 8).toNat) (a : rnP tbs nr cc (∃ i, i < h'.1 ∧ blw h'.2 N (-1) i) (tbS h'.2 h'.1 N (-1)) 0 F)
    (eN : ∀ r, r < nr → N' r = F r) (eH : ∀ k, k < 8 → H' k = H k) (e0 : sE8 (S' 0) (S u)) (eS : ∀ sd : Int, 1 ≤ sd → sd ≤ 8 → sE8 (S' sd) (S sd)) (ee : e' = (e + 7) % 8) (eu : u' = u - 1) : eS8 tbs nr cc cl N' H' S' e' u' := by
  have b := (eS_un ht h16 h hu eh).2
  have w := (rnP_u hl a b).2 rfl
  obtain ⟨h1, h2, h3, h4⟩ := h
  have p := h4 (u - 1) (by omega) (by omega)
  rw [show 1 + (u - 1) = u by omega] at p
  refine ⟨by omega, fun r hr => ?_, gd_c hl ht h16 e0 p.1, fun k k0 k1 => ?_⟩
  · have v := w r hr
    unfold rfA at v ⊢
    rw [eN r hr, sE_f e0 r (by omega)]; exact v
  · have p := h4 k k0 (by omega)
    refine ⟨gd_c hl ht h16 (eS _ (by omega) (by omega)) p.1, st_c ht h16 (sE_f (eS _ (by omega) (by omega))) ?_ ?_ p.2⟩
    · unfold nx8
      rw [if_neg (show ¬ k + 1 = u by omega)]
      by_cases y : k + 1 = u'
      · rw [if_pos y, show 2 + k = u by omega]; exact sE_f e0
      · rw [if_neg y]; exact sE_f (eS _ (by omega) (by omega))
    · rw [show (e' + 8 - u' + k) % 8 = (e + 8 - u + k) % 8 by omega, eH _ (by omega)]; exact hE_r
/-- nothing asked, nothing changes -/
theorem eS_df (ht : tbs ≤ (nr : Int)) (h : eS8 tbs nr cc cl N H S e u) : rnP tbs nr cc (∃ i, i < 0 ∧ blw f N 1 i) (tbS f 0 N 1) 0 (sF8 (S 0)) := by
  obtain ⟨h1, h2, h3, h4⟩ := h
  refine rn_of (fun ⟨i, a, _⟩ => absurd a (Nat.not_lt_zero i)) (fun q hq => stP_T (fun w => ?_) (h3.1.1 q hq).1)
  rw [tb_1, ← oS_c (h2 q hq)]
  exact funext fun t => Int32.add_zero (oS8 N q t)
/-! all empty -/
theorem is_0 {M : Tup → Int32} {S0 : Tup → Int32} (h : ∀ t, S0 t = 0) : isB f 0 S0 M := isW_0 (fun t k => k (h t))
theorem oS_0 (h : (F r).1 = 0) : oS8 F r t = 0 := by unfold oS8; rw [h]; rfl
theorem sJ_0 {c : LC} {x y : Nat → Int32} {m n : Nat} (h : n = 0) : sJ c x y m n = s0T := by rw [h]; rfl
theorem vw_0 {c : LC} (hc : cOK c r cl) (hF : ∀ q, q < r → (F q).1 = 0) : vwP c F 0 f 0 := by
  have e1 : (F (c.1 2).toNat).1 = 0 := hF _ (by have := hc.1; omega)
  have e2 : (F (c.1 3).toNat).1 = 0 := hF _ (by have := hc.1; omega)
  unfold vwP
  by_cases k8 : c.1 0 = 8
  · rw [if_pos k8]
    refine Or.inl ⟨rfl, 0, by decide, ?_, Or.inl rfl, by decide, fun _ => 0, ?_, ?_⟩
    · rintro t ⟨⟨s, ⟨i, hi, _⟩, _⟩, _⟩
      exact absurd hi (by omega)
    · exact isW_0 (by rintro t ⟨i, hi, _⟩; omega)
    · rintro q t hq ht
      have e : q = 0 := by omega
      subst e
      obtain ⟨i, hi, _⟩ := ht
      exact absurd hi (by omega)
  · rw [if_neg k8]
    refine Or.inl ⟨rfl, ?_, is_0 (fun t => ?_), by decide⟩
    · rintro ⟨_, a⟩
      rw [e1] at a
      exact absurd a (by show ¬ 1500 < 0; decide)
    · unfold vS
      rw [e1, e2]
      by_cases k3 : c.1 0 = 3
      · rw [if_pos k3]; rfl
      · rw [if_neg k3]
        by_cases k4 : c.1 0 = 4
        · rw [if_pos k4]; show (0 : Int32) + iI 1 * 0 = 0; decide
        · rw [if_neg k4]
          by_cases k5 : c.1 0 = 5
          · rw [if_pos k5]; show (0 : Int32) + iI (-1) * 0 = 0; decide
          · rw [if_neg k5]
            by_cases k7 : c.1 0 = 7
            · rw [if_pos k7]
              unfold sG
              exact pI_n (fun ⟨i, hi, _⟩ => Nat.not_lt_zero i hi)
            · rw [if_neg k7]; rfl
theorem rd_0 {c : LC} {x y g : Nat → Int32} {n m : Nat} (hn : n = 0) : rgY c x n y m 0 g 0 := by
  subst hn
  refine ⟨by decide, ?_, Or.inl rfl, by decide, fun _ => 0, isW_0 (by rintro t ⟨i, hi, _⟩; omega), ?_⟩
  · rintro t ⟨⟨s, ⟨i, hi, _⟩, _⟩, _⟩
    exact absurd hi (by omega)
  · rintro q t hq ht
    have e : q = 0 := by omega
    subst e
    obtain ⟨i, hi, _⟩ := ht
    exact absurd hi (by omega)
theorem gd_0 (hc : ∀ r : Nat, r < nr → tbs ≤ (r : Int) → cOK (cc r) r cl ∧ cZ (cc r) r cl) (ht : tbs ≤ (nr : Int)) (h : ∀ r, r < nr → (s r).1.1 = 0 ∧ (s r).2 = 0) : gd8 tbs cc cl nr s := by
  have e : ∀ r, r < nr → (sF8 s r).1 = 0 := fun r hr => (h r hr).1
  refine ⟨⟨fun q hq => ⟨?_, ?_⟩, fun r hr t => ?_⟩, fun q hq h1 h2 => ⟨0, ?_, ?_⟩⟩
  · unfold stP
    rw [e q hq]
    by_cases w : (q : Int) < tbs
    · rw [if_pos w]; exact ⟨is_0 (fun t => oS_0 (e q hq)), by decide⟩
    · rw [if_neg w]; exact vw_0 (hc q hq (by omega)).1 (fun p hp => e p (by omega))
  · unfold bgOK
    rw [e q hq]
    exact ⟨⟨fun i j _ hj => absurd hj (Nat.not_lt_zero j), fun i hi => absurd hi (Nat.not_lt_zero i)⟩, by decide, fun i hi => absurd hi (Nat.not_lt_zero i)⟩
  · rw [oS_0 (e r (by omega))]; decide
  · rw [e q hq]
    have k := (hc q hq h1).1.1
    exact rd_0 (e _ (by omega))
  · exact (h q hq).2
/-- behind a plan that is taken -/
theorem eS_0 (hc : ∀ r : Nat, r < nr → tbs ≤ (r : Int) → cOK (cc r) r cl ∧ cZ (cc r) r cl) (ht : tbs ≤ (nr : Int)) (he : 0 ≤ e ∧ e < 8) (hN : ∀ r, r < nr → (N r).1 = 0) (hS : ∀ r, r < nr → (S 0 r).1.1 = 0 ∧ (S 0 r).2 = 0) (hu : u = 0) : eS8 tbs nr cc cl N H S e u := by
  subst hu
  refine ⟨⟨he, by decide, by decide⟩, fun r hr => ⟨(hN r hr).trans (hS r hr).1.symm, ?_⟩, gd_0 hc ht hS, fun k k0 k1 => absurd k1 (by omega)⟩
  rw [hN r hr]
  exact fun i hi => absurd hi (Nat.not_lt_zero i)
/-! what the last change moved -/
def mv8 (s s9 : SR8) (r : Nat) : Tup → Int32 := mvS (sF8 s r).2 (sF8 s r).1 (sF8 s9 r).2 (sF8 s9 r).1
theorem mv_at {s9 : SR8} : mv8 s s9 r = fun t => oS8 (sF8 s) r t + iI (-1) * oS8 (sF8 s9) r t := rfl
theorem mv_e {s9 s9' : SR8} (h0 : sE8 s' s) (h9 : sE8 s9' s9) (hr : r < 16) : mv8 s' s9' r = mv8 s s9 r := by unfold mv8; rw [sE_f h0 r hr, sE_f h9 r hr]
theorem mv_c {s9 : SR8} (h0 : rfA F (sF8 s) r) (h9 : rfA N (sF8 s9) r) : (fun t => bS (F r).2 (F r).1 t + iI (-1) * bS (N r).2 (N r).1 t) = mv8 s s9 r := by
  have a := oS_c h0
  have b := oS_c h9
  rw [mv_at]
  exact funext fun t => by show oS8 F r t + iI (-1) * oS8 N r t = _; rw [a, b]
theorem mv_0 {s9 : SR8} (h0 : (s r).1.1 = 0) (h9 : (s9 r).1.1 = 0) : isB f 0 (mv8 s s9 r) zM := is_0 (fun t => by
  rw [mv_at]; show oS8 (sF8 s) r t + iI (-1) * oS8 (sF8 s9) r t = 0
  rw [oS_0 (F := sF8 s) h0, oS_0 (F := sF8 s9) h9]; decide)
/-- differs: nothing -/
theorem df_k {k : Nat} (h0 : rfA F F' r) (h1 : rfA N F' r) (h : isB f k (fun t => bS (F r).2 (F r).1 t + iI (-1) * bS (N r).2 (N r).1 t) zM) : k = 0 := by
  have a := oS_c h0
  have b := oS_c h1
  have e : ∀ t, bS (F r).2 (F r).1 t + iI (-1) * bS (N r).2 (N r).1 t = 0 := fun t => by
    show oS8 F r t + iI (-1) * oS8 N r t = 0
    rw [a, b, in_m, ← Int32.sub_eq_add_neg, Int32.sub_self]
  have q := isW_u h (is_0 (f := f) (M := zM) e) (fun _ _ => rfl) (fun _ _ => rfl)
  exact q.1
end ES8
end
